section ZG7
variable {σ : zS}
/-- the class's answers are settled for the plan -/
def SA (b : Nat) (s : zS) (p : zP) : Prop := (SR p = none ∧ s.1 b 16 = -1) ∨ ∃ (r : Int) (l : Int → Int), SR p = some (r, l) ∧ s.1 b 16 = r ∧ AP b s p l ∧ PP b s p l ∧ BV b s p l 9
def zFA (b : Nat) (σ t : zS) : Prop := t.2 = σ.2 ∧ ∀ c : Nat, (c < b ∨ b + 11 < c) → t.1 c = σ.1 c
theorem zFA.rf {b : Nat} {σ : zS} : zFA b σ σ := ⟨rfl, fun _ _ => rfl⟩
theorem zFA.tr {b : Nat} {σ t s : zS} (h : zFA b σ t) (h2 : zFA b t s) : zFA b σ s := ⟨h2.1.trans h.1, fun c q => (h2.2 c q).trans (h.2 c q)⟩
theorem zFA.up {b : Nat} {σ t : zS} {c : Nat} {i v : Int} (h : zFA b σ t) (hc : b ≤ c) (hc2 : c ≤ b + 11) : zFA b σ (zu t c i v) :=
  ⟨h.1, fun e h1 => by rw [zu_nc (by omega)]; exact h.2 e h1⟩
theorem zFA.cp {b : Nat} (hb : zAb b) {σ t : zS} (h : zFA b σ t) : cP t = cP σ := by
  have hb' : b = 14 ∨ b = 26 := hb
  exact cP_c (fun c hc => h.2 c (by omega))
theorem zFB.fa {b : Nat} {σ t : zS} (h : zFB b σ t) : zFA b σ t := ⟨h.1, fun c q => h.2.1 c (by omega) (by omega)⟩
theorem zFb.fa {b : Nat} {σ t : zS} (h : zFb b σ t) : zFA b σ t := ⟨h.1, fun c q => h.2.1 c (by omega)⟩
theorem zFg.fa {b : Nat} {σ t : zS} (h : zFg b σ t) : zFA b σ t := ⟨h.1, fun c q => h.2 c (by omega) (by omega) (by omega)⟩
theorem chg_n {p : zP} {l : Int → Int} (h : ¬ chg p l) {y : Int} (h0 : 0 ≤ y) (h9 : y < 9) : nl p l y = l y := Classical.byContradiction fun q => h ⟨y, h0, h9, q⟩
def PI (b : Nat) (t : zS) (p : zP) (n : Int) : Prop := ∀ i : Int, 0 ≤ i → i < n → t.1 (b + 1) i = p 0 i
set_option maxHeartbeats 8000000 in
theorem c_X0_settle {b : Nat} (hb : zAb b) {p : zP} (ec : cP σ = p) (hp : WP p) (hs : σ.1 b 17 = 0 ∨ σ.1 b 17 = 1) (hst : σ.1 b 17 = 0 → SA b σ p) : YC 6 μX0_settle [.ref b] σ (fun r s => r = none ∧ zFA b σ s ∧ s.1 b 17 = 0 ∧ SA b s p) := by
  refine YC.of2 (by decide) (Nat.le_of_ble_eq_true rfl) (fun d P hd hP => ?_)
  refine Y.aload_n dX0_settle_0 rfl ?_
  refine Y.getf dX0_settle_1 flX0_53 (obA hb) rfl ?_
  refine Y.if_ne 8 dX0_settle_4 (by decide) (by omega) (fun h_4 => ?_) (fun h_4 => ?_)
  · refine Y.aload_n dX0_settle_8 rfl ?_
    refine Y.iconst dX0_settle_9 ?_
    refine Y.putf 17 dX0_settle_10 fpX0_53 (obA hb) (osA_17 hb) (Nat.le_of_ble_eq_true rfl) (Or.inr ⟨rfl, Or.inl rfl⟩) rfl ?_
    refine Y.aload_n dX0_settle_13 rfl ?_
    refine Y.iconst dX0_settle_14 ?_
    refine Y.putf 16 dX0_settle_15 fpX0_49 (obA hb) (osA_16 hb) (Nat.le_of_ble_eq_true rfl) (Or.inl rfl) rfl ?_
    refine Y.iconst dX0_settle_18 ?_
    refine Y.istore_n dX0_settle_19 (by decide) rfl ?_
    refine zw2 (fun t i => (0 ≤ i ∧ i ≤ 3 ∧ zFA b σ t ∧ t.1 b 17 = 0 ∧ t.1 b 16 = -1 ∧ PI b t p i)) (fun t i => Y d μX0_settle 20 [some (.ref b), some (.int (zi i))] [] t P) (fun t i => (3 - i).toNat) ?_ _ _ ⟨by omega, by omega, (zFA.rf.up (by omega) (by omega)).up (by omega) (by omega), by rw [zu_ne (by omega), zu_eq], by rw [zu_eq], fun y a c => by omega⟩
    intro t i hI ih
    obtain ⟨j1, j2, j3, j4, j5, j6⟩ := hI
    have ec1 := (j3.cp hb).trans ec
    refine Y.iload_n dX0_settle_20 rfl ?_
    refine Y.iconst dX0_settle_21 ?_
    refine Y.icmp_ge 45 dX0_settle_22 (by decide) (by omega) (by omega) (fun h_22 => ?_) (fun h_22 => ?_)
    · refine Y.iconst dX0_settle_45 ?_
      refine Y.istore_n dX0_settle_46 (by decide) rfl ?_
      refine zw2 (fun t2 x => (0 ≤ x ∧ x ≤ 9 ∧ zFA b σ t2 ∧ t2.1 b 17 = 0 ∧ t2.1 b 16 = -1 ∧ PI b t2 p 3 ∧ ∀ y : Int, 0 ≤ y → y < x → t2.1 (b + 2) y = l0 p y)) (fun t2 x => Y d μX0_settle 47 [some (.ref b), some (.int (zi x))] [] t2 P) (fun t2 x => (9 - x).toNat) ?_ _ _ ⟨by omega, by omega, j3, j4, j5, fun y a c => j6 y a (by omega), fun y a c => by omega⟩
      intro t2 x hI2 ih2
      obtain ⟨k1, k2, k3, k4, k5, k6, k7⟩ := hI2
      have ec2 := (k3.cp hb).trans ec
      have e4 : t2.1 4 (x / 3) = p 1 (x / 3) := by rw [← ec2]; rfl
      refine Y.iload_n dX0_settle_47 rfl ?_
      refine Y.bipush dX0_settle_48 (by decide +kernel) ?_
      refine Y.icmp_ge 88 dX0_settle_50 (by decide) (by omega) (by omega) (fun h_50 => ?_) (fun h_50 => ?_)
      · refine Y.iconst dX0_settle_88 ?_
        refine Y.istore_n dX0_settle_89 (by decide) rfl ?_
        refine zw3 (fun t3 l r => (1 ≤ r ∧ r ≤ 21 ∧ zFA b σ t3 ∧ t3.1 b 17 = 0 ∧ t3.1 b 16 = -1 ∧ AP b t3 p l ∧ stl p (21 - r).toNat r l = SR p)) (fun t3 l r => Y d μX0_settle 90 [some (.ref b), some (.int (zi r))] [] t3 P) (fun t3 l r => (21 - r).toNat) ?_ _ (l0 p) _ ⟨by omega, by omega, k3, k4, k5, ⟨ec2, hp, l0_b hp, fun i a c => k6 i a c, fun y a c => k7 y a (by omega)⟩, rfl⟩
        intro t3 l r hI3 ih3
        obtain ⟨m1, m2, m3, m4, m5, m6, m7⟩ := hI3
        refine Y.iload_n dX0_settle_90 rfl ?_
        refine Y.bipush dX0_settle_91 (by decide +kernel) ?_
        refine Y.icmp_gt 123 dX0_settle_93 (by decide) (by omega) (by omega) (fun h_93 => ?_) (fun h_93 => ?_)
        · exact Y.vret dX0_settle_123 rfl (hP _ _ ⟨rfl, m3, m4, Or.inl ⟨by rw [← m7]; exact stl_0 (by omega), m5⟩⟩)
        · refine Y.aload_n dX0_settle_96 rfl ?_
          refine Y.callV dX0_settle_97 mkX0_boundAll csX0_67 (obA hb) ⟨_, rfl, rfl⟩ (c_X0_boundAll hb m6) (by omega) rfl rfl (Nat.le_of_ble_eq_true rfl) (fun r_97 s_97 p_97 => ?_)
          obtain ⟨rfl, f_97, g_97⟩ := p_97
          refine Y.ifz_ne 104 dX0_settle_100 (by decide) (fun h_100 => ?_) (fun h_100 => ?_)
          · refine Y.aload_n dX0_settle_104 rfl ?_
            refine Y.callV dX0_settle_105 mkX0_passLateness csX0_71 (obA hb) ⟨_, rfl, rfl⟩ (c_X0_passLateness hb (m6.fr (fun c q => f_97.2.1 c (by have hb2 : b = 14 ∨ b = 26 := hb; omega) (by have hb2 : b = 14 ∨ b = 26 := hb; omega))) (by assumption) (g_97 (by assumption)).2) (by omega) rfl rfl (Nat.le_of_ble_eq_true rfl) (fun r_105 s_105 p_105 => ?_)
            obtain ⟨rfl, f_105, g_105⟩ := p_105
            refine Y.ifz_ne 117 dX0_settle_108 (by decide) (fun h_108 => ?_) (fun h_108 => ?_)
            · refine Y.iinc dX0_settle_117 rfl (by decide) rfl ?_
              refine Y.goto 90 dX0_settle_120 (by decide) ?_
              have hb' : b = 14 ∨ b = 26 := hb
              have hbA : bA p l := by assumption
              have hcg : chg p l := by assumption
              rw [stl_c (by omega) hbA hcg] at m7
              exact ih3 _ (nl p l) _ ⟨by omega, by omega, (m3.tr f_97.fa).tr ⟨f_105.1, fun c q => f_105.2 c (by omega)⟩, by rw [f_105.2 b (by omega), f_97.2.2 17 (by omega)]; exact m4, by rw [f_105.2 b (by omega), f_97.2.2 16 (by omega)]; exact m5, ⟨((cP_c (fun c q => f_105.2 c (by omega))).trans (cP_c (fun c q => f_97.2.1 c (by omega) (by omega)))).trans m6.1, hp, nl_b hp m6.wl hbA, fun i a c => by rw [f_105.2 _ (by omega), f_97.2.1 _ (by omega) (by omega)]; exact m6.per a c, g_105⟩, m7⟩ (by omega)
            · refine Y.aload_n dX0_settle_111 rfl ?_
              refine Y.iload_n dX0_settle_112 rfl ?_
              refine Y.putf 16 dX0_settle_113 fpX0_49 (obA hb) (osA_16 hb) (Nat.le_of_ble_eq_true rfl) (Or.inl rfl) rfl ?_
              exact Y.vret dX0_settle_116 rfl (hP _ _ (by
          have hb' : b = 14 ∨ b = 26 := hb
          have hbA : bA p l := by assumption
          have hcg : ¬ chg p l := by assumption
          rw [stl_e (by omega) hbA hcg] at m7
          refine ⟨rfl, ((m3.tr f_97.fa).tr ⟨f_105.1, fun c q => f_105.2 c (by omega)⟩).up (by omega) (by omega), by rw [zu_ne (by omega), f_105.2 b (by omega), f_97.2.2 17 (by omega)]; exact m4, Or.inr ⟨r, l, m7.symm, by rw [zu_eq], ⟨?_, hp, m6.wl, fun i a c => ?_, fun y a c => ?_⟩, (g_97 hbA).1.fr (fun c a e => ?_), (g_97 hbA).2.fr (fun c a e => ?_)⟩⟩
          · rw [cP_c (σ := s_105) (fun c q => by rw [zu_nc (by omega)]), cP_c (σ := s_97) (fun c q => f_105.2 c (by omega)), cP_c (σ := t3) (fun c q => f_97.2.1 c (by omega) (by omega))]
            exact m6.1
          · rw [zu_nc (by omega), f_105.2 _ (by omega), f_97.2.1 _ (by omega) (by omega)]
            exact m6.per a c
          · rw [zu_nc (by omega), g_105 y a c]
            exact chg_n hcg a c
          · rw [zu_nc (by omega)]
            exact f_105.2 c (by omega)
          · rw [zu_nc (by omega)]
            exact f_105.2 c (by omega)))
          · exact Y.vret dX0_settle_103 rfl (hP _ _ ⟨rfl, m3.tr f_97.fa, by rw [f_97.2.2 17 (by omega)]; exact m4, Or.inl ⟨by rw [← m7]; exact stl_n (by omega) (by assumption), by rw [f_97.2.2 16 (by omega)]; exact m5⟩⟩)
      · refine Y.aload_n dX0_settle_53 rfl ?_
        refine Y.getf dX0_settle_54 flX0_15 (obA hb) rfl ?_
        refine Y.iload_n dX0_settle_57 rfl ?_
        refine Y.iload_n dX0_settle_58 rfl ?_
        refine Y.iconst dX0_settle_59 ?_
        refine Y.iremp dX0_settle_60 (by omega) (by omega) (by omega) (by omega) ?_
        refine Y.if_ne 80 dX0_settle_61 (by decide) (by omega) (fun h_61 => ?_) (fun h_61 => ?_)
        · refine Y.iconst dX0_settle_80 ?_
          refine Y.iast dX0_settle_81 (iaA2 hb) (by omega) (by omega) ?_
          refine Y.iinc dX0_settle_82 rfl (by decide) rfl ?_
          refine Y.goto 47 dX0_settle_85 (by decide) ?_
          exact ih2 _ _ ⟨by omega, by omega, k3.up (by omega) (by omega), by rw [zu_nc (by omega)]; exact k4, by rw [zu_nc (by omega)]; exact k5, fun y a c => by rw [zu_nc (by omega)]; exact k6 y a c, fun y a c => if q : y = x then by rw [q, zu_eq]; unfold l0; first | (rw [if_pos (by omega)]; exact e4) | rw [if_neg (by omega)] else by rw [zu_ne q]; exact k7 y a (by omega)⟩ (by omega)
        · refine Y.aload_n dX0_settle_64 rfl ?_
          refine Y.getf dX0_settle_65 flX0_45 (obA hb) rfl ?_
          refine Y.getf dX0_settle_68 flX0_63 ob1 rfl ?_
          refine Y.iconst dX0_settle_71 ?_
          refine Y.aald dX0_settle_72 ra2 (by decide) (by decide) (by decide) rfl ?_
          refine Y.iload_n dX0_settle_73 rfl ?_
          refine Y.iconst dX0_settle_74 ?_
          refine Y.idivp dX0_settle_75 (by omega) (by omega) (by omega) (by omega) ?_
          refine Y.iald dX0_settle_76 ia4 (by omega) (by omega) ?_
          refine Y.goto 81 dX0_settle_77 (by decide) ?_
          refine Y.iast dX0_settle_81 (iaA2 hb) (by omega) (by omega) ?_
          refine Y.iinc dX0_settle_82 rfl (by decide) rfl ?_
          refine Y.goto 47 dX0_settle_85 (by decide) ?_
          exact ih2 _ _ ⟨by omega, by omega, k3.up (by omega) (by omega), by rw [zu_nc (by omega)]; exact k4, by rw [zu_nc (by omega)]; exact k5, fun y a c => by rw [zu_nc (by omega)]; exact k6 y a c, fun y a c => if q : y = x then by rw [q, zu_eq]; unfold l0; first | (rw [if_pos (by omega)]; exact e4) | rw [if_neg (by omega)] else by rw [zu_ne q]; exact k7 y a (by omega)⟩ (by omega)
    · refine Y.aload_n dX0_settle_25 rfl ?_
      refine Y.getf dX0_settle_26 flX0_9 (obA hb) rfl ?_
      refine Y.iload_n dX0_settle_29 rfl ?_
      refine Y.aload_n dX0_settle_30 rfl ?_
      refine Y.getf dX0_settle_31 flX0_45 (obA hb) rfl ?_
      refine Y.iload_n dX0_settle_34 rfl ?_
      refine Y.cVI dX0_settle_35 mkX2_periodOf csX0_57 ob1 ⟨_, rfl, rfl⟩ (k_X2_periodOf ec1 hp (by omega) (by omega)) (by omega) rfl rfl (Nat.le_of_ble_eq_true rfl) ?_
      refine Y.iast dX0_settle_38 (iaA1 hb) (by omega) (by omega) ?_
      refine Y.iinc dX0_settle_39 rfl (by decide) rfl ?_
      refine Y.goto 20 dX0_settle_42 (by decide) ?_
      exact ih _ _ ⟨by omega, by omega, j3.up (by omega) (by omega), by rw [zu_nc (by omega)]; exact j4, by rw [zu_nc (by omega)]; exact j5, fun y a c => if q : y = i then by rw [q, zu_eq] else by rw [zu_ne q]; exact j6 y a (by omega)⟩ (by omega)
  · exact Y.vret dX0_settle_7 rfl (hP _ _ ⟨rfl, zFA.rf, by omega, hst (by omega)⟩)
def xFl (σ t : zS) : Prop := ∀ (c : Nat) (i : Int), ¬ (c = 67 ∧ (i = 15 ∨ i = 16)) → t.2 c i = σ.2 c i
def zFN (σ t : zS) : Prop := xFl σ t ∧ (∀ c : Nat, c ≠ 67 → (c < 84 ∨ 87 < c) → t.1 c = σ.1 c) ∧ ∀ i : Int, (i < 19 ∨ 22 < i) → t.1 67 i = σ.1 67 i
theorem zFN.rf {σ : zS} : zFN σ σ := ⟨fun _ _ _ => rfl, fun _ _ _ => rfl, fun _ _ => rfl⟩
theorem zFN.t2 {σ t s : zS} (h : zFN σ t) (h2 : zF2 t s) : zFN σ s := ⟨fun c i q => (h2.2 c i q).trans (h.1 c i q), by rw [h2.1]; exact h.2.1, by rw [h2.1]; exact h.2.2⟩
theorem zFN.tm {σ t s : zS} (h : zFN σ t) (h2 : zFm t s) : zFN σ s := ⟨fun c i q => by rw [h2.1]; exact h.1 c i q, fun c q1 q2 => (h2.2.1 c q1).trans (h.2.1 c q1 q2), fun i q => (h2.2.2 i q).trans (h.2.2 i q)⟩
theorem zFN.up {σ t : zS} {c : Nat} {i v : Int} (h : zFN σ t) (h0 : 84 ≤ c) (h1 : c ≤ 87) : zFN σ (zu t c i v) :=
  ⟨h.1, fun e q1 q2 => by rw [zu_nc (by omega)]; exact h.2.1 e q1 q2, fun j hj => by rw [zu_nc (by omega)]; exact h.2.2 j hj⟩
def MV (t : zS) (p : zP) (l : Int → Int) (n : Int) : Prop := ∀ y : Int, 0 ≤ y → y < n → th p y → t.1 84 y = (bv p l y).1 ∧ t.1 85 y = (bv p l y).2.1 ∧ t.1 86 y = (bv p l y).2.2.1 ∧ t.1 87 y = (bv p l y).2.2.2
theorem MV.fr {t s : zS} {p : zP} {l : Int → Int} {n : Int} (h : MV t p l n) (hf : ∀ c : Nat, 84 ≤ c → c ≤ 87 → s.1 c = t.1 c) : MV s p l n := by
  unfold MV
  rw [hf _ (by omega) (by omega), hf _ (by omega) (by omega), hf _ (by omega) (by omega), hf _ (by omega) (by omega)]
  exact h
theorem MV.put {t : zS} {p : zP} {l : Int → Int} {x : Int} {v : aA} (h : MV t p l x) (hv : fnd p l ALL x = some v) : MV (zu (zu (zu (zu t 84 x v.1) 85 x v.2.1) 86 x v.2.2.1) 87 x v.2.2.2) p l (x + 1) := by
  have e : bv p l x = v := by unfold bv; rw [hv]; rfl
  intro y a c d
  by_cases q : y = x
  · subst q
    rw [e]
    exact ⟨by rw [zu_nc (by omega), zu_nc (by omega), zu_nc (by omega), zu_eq], by rw [zu_nc (by omega), zu_nc (by omega), zu_eq], by rw [zu_nc (by omega), zu_eq], by rw [zu_eq]⟩
  · obtain ⟨h1, h2, h3, h4⟩ := h y a (by omega) d
    exact ⟨by rw [zu_nc (by omega), zu_nc (by omega), zu_nc (by omega), zu_ne q]; exact h1, by rw [zu_nc (by omega), zu_nc (by omega), zu_ne q, zu_nc (by omega)]; exact h2, by rw [zu_nc (by omega), zu_ne q, zu_nc (by omega), zu_nc (by omega)]; exact h3, by rw [zu_ne q, zu_nc (by omega), zu_nc (by omega), zu_nc (by omega)]; exact h4⟩
def PK (t : zS) : Prop := ∀ i : Int, 0 ≤ i → i < 3 → t.1 83 i = -2
/-- the model's answers are settled for the plan -/
def MS (s : zS) (p : zP) : Prop := (SR p = none ∧ s.1 67 27 = 0) ∨ ∃ (r : Int) (l : Int → Int), SR p = some (r, l) ∧ s.1 67 27 = 1 ∧ s.1 67 28 = r ∧ MA s p l ∧ MV s p l 9
set_option maxHeartbeats 1000000 in
theorem c_X5_picksAll : YC 0 μX5_picksAll [.ref 67] σ (fun r s => r = none ∧ (s.2 = σ.2 ∧ ∀ c : Nat, c ≠ 83 → s.1 c = σ.1 c) ∧ PK s) := by
  refine YC.of2 (by decide) (Nat.le_of_ble_eq_true rfl) (fun d P hd hP => ?_)
  refine Y.iconst dX5_picksAll_0 ?_
  refine Y.istore_n dX5_picksAll_1 (by decide) rfl ?_
  refine zw2 (fun t i => (0 ≤ i ∧ i ≤ 3 ∧ (t.2 = σ.2 ∧ ∀ c : Nat, c ≠ 83 → t.1 c = σ.1 c) ∧ ∀ j : Int, 0 ≤ j → j < i → t.1 83 j = -2)) (fun t i => Y d μX5_picksAll 2 [some (.ref 67), some (.int (zi i))] [] t P) (fun t i => (3 - i).toNat) ?_ _ _ ⟨by omega, by omega, ⟨rfl, fun _ _ => rfl⟩, fun y a c => by omega⟩
  intro t i hI ih
  obtain ⟨j1, j2, j3, j4⟩ := hI
  refine Y.iload_n dX5_picksAll_2 rfl ?_
  refine Y.iconst dX5_picksAll_3 ?_
  refine Y.icmp_ge 21 dX5_picksAll_4 (by decide) (by omega) (by omega) (fun h_4 => ?_) (fun h_4 => ?_)
  · exact Y.vret dX5_picksAll_21 rfl (hP _ _ ⟨rfl, j3, fun y a c => j4 y a (by omega)⟩)
  · refine Y.aload_n dX5_picksAll_7 rfl ?_
    refine Y.getf dX5_picksAll_8 flX5_56 ob67 rfl ?_
    refine Y.iload_n dX5_picksAll_11 rfl ?_
    refine Y.bipush dX5_picksAll_12 (by decide +kernel) ?_
    refine Y.iast dX5_picksAll_14 ia83 (by omega) (by omega) ?_
    refine Y.iinc dX5_picksAll_15 rfl (by decide) rfl ?_
    refine Y.goto 2 dX5_picksAll_18 (by decide) ?_
    exact ih _ _ ⟨by omega, by omega, ⟨j3.1, fun c q => by rw [zu_nc q]; exact j3.2 c q⟩, fun y a c => if q : y = i then by rw [q, zu_eq] else by rw [zu_ne q]; exact j4 y a (by omega)⟩ (by omega)
set_option maxHeartbeats 8000000 in
theorem c_X5_boundsAll {p : zP} {l : Int → Int} (hA : MA σ p l) (hpk : PK σ) : YC 8 μX5_boundsAll [.ref 67] σ (fun r s => r = some (.int (zi (zb (bA p l)))) ∧ zFN σ s ∧ (bA p l → MV s p l 9)) := by
  refine YC.of2 (by decide) (Nat.le_of_ble_eq_true rfl) (fun d P hd hP => ?_)
  have ec := hA.1
  have hp := hA.wp
  have hl := hA.wl
  refine Y.iconst dX5_boundsAll_0 ?_
  refine Y.istore_n dX5_boundsAll_1 (by decide) rfl ?_
  refine zw2 (fun t x => (0 ≤ x ∧ x ≤ 9 ∧ zFN σ t ∧ (∀ y : Int, 0 ≤ y → y < x → th p y → okx p l y) ∧ MV t p l x)) (fun t x => Y d μX5_boundsAll 2 [some (.ref 67), some (.int (zi x))] [] t P) (fun t x => (9 - x).toNat) ?_ _ _ ⟨by omega, by omega, zFN.rf, fun y a c => by omega, fun y a c => by omega⟩
  intro t x hI ih
  obtain ⟨j1, j2, j3, j5, j6⟩ := hI
  have hA1 : MA t p l := hA.fr (fun c a e => j3.2.1 c (by omega) (by omega))
  have ec := hA1.1
  have hpk1 : PK t := fun i a e => by rw [j3.2.1 83 (by omega) (by omega)]; exact hpk i a e
  refine Y.iload_n dX5_boundsAll_2 rfl ?_
  refine Y.bipush dX5_boundsAll_3 (by decide +kernel) ?_
  refine Y.icmp_ge 82 dX5_boundsAll_5 (by decide) (by omega) (by omega) (fun h_5 => ?_) (fun h_5 => ?_)
  · refine Y.iconst dX5_boundsAll_82 ?_
    exact Y.zret dX5_boundsAll_83 rfl (by decide) (hP _ _ ⟨zrI (zb_t (fun y a c e => j5 y a (by omega) e)).symm, j3, fun q => fun y a c e => j6 y a (by omega) e⟩)
  · refine Y.aload_n dX5_boundsAll_8 rfl ?_
    refine Y.iload_n dX5_boundsAll_9 rfl ?_
    refine Y.cVI dX5_boundsAll_10 mkX5_isThere csX5_160 ob67 ⟨_, rfl, rfl⟩ (k_X5_isThere ec hp (by omega) (by omega)) (by omega) rfl rfl (Nat.le_of_ble_eq_true rfl) ?_
    refine Y.ifz_eq 76 dX5_boundsAll_13 (by decide) (fun h_13 => ?_) (fun h_13 => ?_)
    · refine Y.iinc dX5_boundsAll_76 rfl (by decide) rfl ?_
      refine Y.goto 2 dX5_boundsAll_79 (by decide) ?_
      first
        | exact ih _ _ ⟨by omega, by omega, j3, fun y a e w => if q : y = x then absurd (q ▸ w) (by assumption) else j5 y a (by omega) w, fun y a e w => if q : y = x then absurd (q ▸ w) (by assumption) else j6 y a (by omega) w⟩ (by omega)
        | (refine ih _ _ ⟨by omega, by omega, ((((j3.t2 f_18).tm f_26).up (by omega) (by omega)).up (by omega) (by omega)).up (by omega) (by omega) |>.up (by omega) (by omega), ?_, ?_⟩ (by omega)
           · intro y a c e
             by_cases q : y = x
             · rw [q]; exact hok
             · exact j5 y a (by omega) e
           · exact (j6.fr (fun c a e => by rw [f_26.2.1 c (by omega), f_18.1])).put hv)
    · refine Y.aload_n dX5_boundsAll_16 rfl ?_
      refine Y.iload_n dX5_boundsAll_17 rfl ?_
      refine Y.callV dX5_boundsAll_18 mkX5_isOver csX5_223 ob67 ⟨_, rfl, rfl⟩ (k_X5_isOver ec hp (by omega) (by omega)) (by omega) rfl rfl (Nat.le_of_ble_eq_true rfl) (fun r_18 s_18 p_18 => ?_)
      obtain ⟨rfl, f_18⟩ := p_18
      have hA2 : MA s_18 p l := hA1.fr (fun c a e => by rw [f_18.1])
      have hX2 : MX s_18 p l x ALL := ⟨hA2, fun i j a1 a2 a3 a4 a5 a6 => ⟨fun _ => Or.inl (by rw [f_18.1]; exact hpk1 i a1 a2), fun _ => trivial⟩, fun i a1 a2 => by rw [f_18.1, hpk1 i a1 a2]; omega⟩
      refine Y.ifz_ne 32 dX5_boundsAll_21 (by decide) (fun h_21 => ?_) (fun h_21 => ?_)
      · refine Y.iconst dX5_boundsAll_32 ?_
        exact Y.zret dX5_boundsAll_33 rfl (by decide) (hP _ _ ⟨zrI (zb_f (fun q => by have q2 := q x j1 (by omega) (by assumption); first | exact absurd (by assumption) q2.1 | exact absurd q2.2 (by assumption))).symm, by first | exact (j3.t2 f_18).tm f_26 | exact j3.t2 f_18, fun q => absurd (q x j1 (by omega) (by assumption)) (fun q2 => by first | exact absurd (by assumption) q2.1 | exact absurd q2.2 (by assumption))⟩)
      · refine Y.aload_n dX5_boundsAll_24 rfl ?_
        refine Y.iload_n dX5_boundsAll_25 rfl ?_
        refine Y.callV dX5_boundsAll_26 mkX5_answers csX5_226 ob67 ⟨_, rfl, rfl⟩ (c_X5_answers hX2 (by omega) (by omega) (by assumption)) (by omega) rfl rfl (Nat.le_of_ble_eq_true rfl) (fun r_26 s_26 p_26 => ?_)
        obtain ⟨rfl, f_26, g_26, u_26, v_26⟩ := p_26
        refine Y.ifz_ne 34 dX5_boundsAll_29 (by decide) (fun h_29 => ?_) (fun h_29 => ?_)
        · have hok : okx p l x := ⟨by assumption, by assumption⟩
          obtain ⟨v, hv⟩ : ∃ v, fnd p l ALL x = some v := ⟨_, bv_s hok⟩
          obtain ⟨g1, g2, g3, g4⟩ := g_26 v hv
          have hvb := (fnd_b hp hl ALL (by omega) (by omega) (by assumption) hv)
          have hvb3 := hvb.1.2.2 (by omega)
          refine Y.aload_n dX5_boundsAll_34 rfl ?_
          refine Y.getf dX5_boundsAll_35 flX5_59 ob67 rfl ?_
          refine Y.iload_n dX5_boundsAll_38 rfl ?_
          refine Y.aload_n dX5_boundsAll_39 rfl ?_
          refine Y.getf dX5_boundsAll_40 flX5_204 ob67 rfl ?_
          rw [g1]
          refine Y.iast dX5_boundsAll_43 ia84 (by omega) (by omega) ?_
          refine Y.aload_n dX5_boundsAll_44 rfl ?_
          refine Y.getf dX5_boundsAll_45 flX5_62 ob67 rfl ?_
          refine Y.iload_n dX5_boundsAll_48 rfl ?_
          refine Y.aload_n dX5_boundsAll_49 rfl ?_
          refine Y.getf dX5_boundsAll_50 flX5_214 ob67 rfl ?_
          refine Y.iconst dX5_boundsAll_53 ?_
          rw [zu_nc (show 67 ≠ 84 by omega), g2]
          refine Y.iremp dX5_boundsAll_54 (by omega) (by omega) (by omega) (by omega) ?_
          rw [show (x / 3 * 3 + v.2.1) % 3 = v.2.1 by omega]
          refine Y.iast dX5_boundsAll_55 ia85 (by omega) (by omega) ?_
          refine Y.aload_n dX5_boundsAll_56 rfl ?_
          refine Y.getf dX5_boundsAll_57 flX5_65 ob67 rfl ?_
          refine Y.iload_n dX5_boundsAll_60 rfl ?_
          refine Y.aload_n dX5_boundsAll_61 rfl ?_
          refine Y.getf dX5_boundsAll_62 flX5_217 ob67 rfl ?_
          rw [zu_nc (show 67 ≠ 85 by omega), zu_nc (show 67 ≠ 84 by omega), g3]
          refine Y.iast dX5_boundsAll_65 ia86 (by omega) (by omega) ?_
          refine Y.aload_n dX5_boundsAll_66 rfl ?_
          refine Y.getf dX5_boundsAll_67 flX5_68 ob67 rfl ?_
          refine Y.iload_n dX5_boundsAll_70 rfl ?_
          refine Y.aload_n dX5_boundsAll_71 rfl ?_
          refine Y.getf dX5_boundsAll_72 flX5_220 ob67 rfl ?_
          rw [zu_nc (show 67 ≠ 86 by omega), zu_nc (show 67 ≠ 85 by omega), zu_nc (show 67 ≠ 84 by omega), g4]
          refine Y.iast dX5_boundsAll_75 ia87 (by omega) (by omega) ?_
          refine Y.iinc dX5_boundsAll_76 rfl (by decide) rfl ?_
          refine Y.goto 2 dX5_boundsAll_79 (by decide) ?_
          first
            | exact ih _ _ ⟨by omega, by omega, j3, fun y a e w => if q : y = x then absurd (q ▸ w) (by assumption) else j5 y a (by omega) w, fun y a e w => if q : y = x then absurd (q ▸ w) (by assumption) else j6 y a (by omega) w⟩ (by omega)
            | (refine ih _ _ ⟨by omega, by omega, ((((j3.t2 f_18).tm f_26).up (by omega) (by omega)).up (by omega) (by omega)).up (by omega) (by omega) |>.up (by omega) (by omega), ?_, ?_⟩ (by omega)
               · intro y a c e
                 by_cases q : y = x
                 · rw [q]; exact hok
                 · exact j5 y a (by omega) e
               · exact (j6.fr (fun c a e => by rw [f_26.2.1 c (by omega), f_18.1])).put hv)
        · refine Y.iconst dX5_boundsAll_32 ?_
          exact Y.zret dX5_boundsAll_33 rfl (by decide) (hP _ _ ⟨zrI (zb_f (fun q => by have q2 := q x j1 (by omega) (by assumption); first | exact absurd (by assumption) q2.1 | exact absurd q2.2 (by assumption))).symm, by first | exact (j3.t2 f_18).tm f_26 | exact j3.t2 f_18, fun q => absurd (q x j1 (by omega) (by assumption)) (fun q2 => by first | exact absurd (by assumption) q2.1 | exact absurd q2.2 (by assumption))⟩)
def zFS (σ t : zS) : Prop := xFl σ t ∧ (∀ c : Nat, c ≠ 67 → (c < 82 ∨ 87 < c) → t.1 c = σ.1 c) ∧ ∀ i : Int, (i < 19 ∨ (22 < i ∧ i < 27) ∨ 28 < i) → t.1 67 i = σ.1 67 i
theorem zFS.tn {σ t s : zS} (h : zFS σ t) (h2 : zFN t s) : zFS σ s := ⟨fun c i q => (h2.1 c i q).trans (h.1 c i q), fun c q1 q2 => (h2.2.1 c q1 (by omega)).trans (h.2.1 c q1 q2), fun i q => (h2.2.2 i (by omega)).trans (h.2.2 i q)⟩
theorem zFS.up {σ t : zS} {c : Nat} {i v : Int} (h : zFS σ t) (h0 : 82 ≤ c) (h1 : c ≤ 87) : zFS σ (zu t c i v) :=
  ⟨h.1, fun e q1 q2 => by rw [zu_nc (by omega)]; exact h.2.1 e q1 q2, fun j hj => by rw [zu_nc (by omega)]; exact h.2.2 j hj⟩
theorem zFS.us {σ t : zS} {i v : Int} (h : zFS σ t) (hi : i = 27 ∨ i = 28) : zFS σ (zu t 67 i v) :=
  ⟨h.1, fun e q1 q2 => by rw [zu_nc q1]; exact h.2.1 e q1 q2, fun j hj => by rw [zu_ne (by omega)]; exact h.2.2 j hj⟩
theorem zFS.mp {σ t : zS} (h : zFS σ t) : mP t = mP σ := mP_c (fun c a e => h.2.1 c (by omega) (by omega))
theorem zFS.tr9 {σ t s : zS} (h : zFS σ t) (h2 : s.2 = t.2 ∧ ∀ c : Nat, c ≠ 82 → s.1 c = t.1 c) : zFS σ s := ⟨fun c i q => by rw [h2.1]; exact h.1 c i q, fun c q1 q2 => by rw [h2.2 c (by omega)]; exact h.2.1 c q1 q2, fun i q => by rw [h2.2 67 (by omega)]; exact h.2.2 i q⟩
theorem chc {p : zP} {l : Int → Int} {x ch : Int} (h0 : 0 ≤ x) (h : ch = zb (chx p l x)) (h1 : ch = 1) : (1 : Int) = zb (chx p l (x + 1)) := by
  obtain ⟨y, a, c, e⟩ := zb_1.mp (h.symm.trans h1)
  exact (zb_t ⟨y, a, by omega, e⟩).symm
set_option maxHeartbeats 2000000 in
theorem c_X5_settles {p : zP} (ec : mP σ = p) (hp : WP p) : YC 9 μX5_settles [.ref 67] σ (fun r s => r = none ∧ zFS σ s ∧ PK s ∧ MS s p) := by
  refine YC.of2 (by decide) (Nat.le_of_ble_eq_true rfl) (fun d P hd hP => ?_)
  refine Y.aload_n dX5_settles_0 rfl ?_
  refine Y.callV dX5_settles_1 mkX5_picksAll csX5_229 ob67 ⟨_, rfl, rfl⟩ c_X5_picksAll (by omega) rfl rfl (Nat.le_of_ble_eq_true rfl) (fun r_1 s_1 p_1 => ?_)
  obtain ⟨rfl, f_1, g_1⟩ := p_1
  refine Y.aload_n dX5_settles_4 rfl ?_
  refine Y.iconst dX5_settles_5 ?_
  refine Y.putf 27 dX5_settles_6 fpX5_232 ob67 os67_27 (Nat.le_of_ble_eq_true rfl) (Or.inr ⟨rfl, Or.inl rfl⟩) rfl ?_
  refine Y.iconst dX5_settles_9 ?_
  refine Y.istore_n dX5_settles_10 (by decide) rfl ?_
  refine zw2 (fun t x => (0 ≤ x ∧ x ≤ 9 ∧ zFS σ t ∧ PK t ∧ t.1 67 27 = 0 ∧ ∀ y : Int, 0 ≤ y → y < x → t.1 82 y = l0 p y)) (fun t x => Y d μX5_settles 11 [some (.ref 67), some (.int (zi x)), none, none, none, none] [] t P) (fun t x => (9 - x).toNat) ?_ _ _ ⟨by omega, by omega, zFS.us ⟨fun c i _ => by rw [f_1.1], fun c q1 q2 => f_1.2 c (by omega), fun i _ => by rw [f_1.2 67 (by omega)]⟩ (Or.inl rfl), fun i a e => by rw [zu_nc (by omega)]; exact g_1 i a e, by rw [zu_eq], fun y a e => by omega⟩
  intro t x hI ih
  obtain ⟨j1, j2, j3, j4, j5, j6⟩ := hI
  have ec1 := j3.mp.trans ec
  have e4 : t.1 73 (x / 3) = p 1 (x / 3) := by rw [← ec1]; rfl
  refine Y.iload_n dX5_settles_11 rfl ?_
  refine Y.bipush dX5_settles_12 (by decide +kernel) ?_
  refine Y.icmp_ge 47 dX5_settles_14 (by decide) (by omega) (by omega) (fun h_14 => ?_) (fun h_14 => ?_)
  · refine Y.iconst dX5_settles_47 ?_
    refine Y.istore_n dX5_settles_48 (by decide) rfl ?_
    refine Y.iconst dX5_settles_49 ?_
    refine Y.istore_n dX5_settles_50 (by decide) rfl ?_
    refine zw4 (fun t3 l mo n => (1 ≤ n ∧ n ≤ 21 ∧ zFS σ t3 ∧ PK t3 ∧ ((mo = 1 ∧ MA t3 p l ∧ stl p (21 - n).toNat n l = SR p ∧ t3.1 67 27 = 0) ∨ (mo = 0 ∧ MS t3 p)))) (fun t3 l mo n => Y d μX5_settles 51 [some (.ref 67), some (.int (zi mo)), some (.int (zi n)), none, none, none] [] t3 P) (fun t3 l mo n => (21 - n).toNat) ?_ _ (l0 p) _ _ ⟨by omega, by omega, j3, j4, Or.inl ⟨rfl, ⟨ec1, hp, l0_b hp, fun y a e => j6 y a (by omega)⟩, rfl, j5⟩⟩
    intro t3 l mo n hI3 ih3
    obtain ⟨m1, m2, m3, m4, m5⟩ := hI3
    rcases m5 with ⟨rfl, m5, m6, m7⟩ | ⟨rfl, m5⟩
    rotate_left
    · refine Y.iload_n dX5_settles_51 rfl ?_
      refine Y.bipush dX5_settles_52 (by decide +kernel) ?_
      refine Y.icmp_gt 213 dX5_settles_54 (by decide) (by omega) (by omega) (fun h_54 => ?_) (fun h_54 => ?_)
      · exact Y.vret dX5_settles_213 rfl (hP _ _ ⟨rfl, m3, m4, by first | exact m5 | exact Or.inl ⟨by rw [← m6]; exact stl_0 (by omega), m7⟩⟩)
      · refine Y.iload_n dX5_settles_57 rfl ?_
        refine Y.if_eq 213 dX5_settles_58 (by decide) (by omega) (fun h_58 => ?_) (fun h_58 => ?_)
        rotate_left
        · exfalso; omega
        exact Y.vret dX5_settles_213 rfl (hP _ _ ⟨rfl, m3, m4, by first | exact m5 | exact Or.inl ⟨by rw [← m6]; exact stl_0 (by omega), m7⟩⟩)
    · refine Y.iload_n dX5_settles_51 rfl ?_
      refine Y.bipush dX5_settles_52 (by decide +kernel) ?_
      refine Y.icmp_gt 213 dX5_settles_54 (by decide) (by omega) (by omega) (fun h_54 => ?_) (fun h_54 => ?_)
      · exact Y.vret dX5_settles_213 rfl (hP _ _ ⟨rfl, m3, m4, by first | exact m5 | exact Or.inl ⟨by rw [← m6]; exact stl_0 (by omega), m7⟩⟩)
      · refine Y.iload_n dX5_settles_57 rfl ?_
        refine Y.if_eq 213 dX5_settles_58 (by decide) (by omega) (fun h_58 => ?_) (fun h_58 => ?_)
        · exfalso; omega
        refine Y.aload_n dX5_settles_61 rfl ?_
        refine Y.callV dX5_settles_62 mkX5_boundsAll csX5_236 ob67 ⟨_, rfl, rfl⟩ (c_X5_boundsAll m5 m4) (by omega) rfl rfl (Nat.le_of_ble_eq_true rfl) (fun r_62 s_62 p_62 => ?_)
        obtain ⟨rfl, f_62, g_62⟩ := p_62
        refine Y.istore_n dX5_settles_65 (by decide) rfl ?_
        refine Y.iconst dX5_settles_66 ?_
        refine Y.istore_n dX5_settles_67 (by decide) rfl ?_
        refine Y.iconst dX5_settles_68 ?_
        refine Y.istore dX5_settles_69 (by decide) rfl ?_
        by_cases hb : bA p l
        · rw [zb_t hb]
          have hl := m5.wl
          have hbV := g_62 hb
          refine zw3 (fun u ch x => (ch = zb (chx p l x) ∧ 0 ≤ x ∧ x ≤ 9 ∧ (u.2 = s_62.2 ∧ ∀ c : Nat, c ≠ 82 → u.1 c = s_62.1 c) ∧ (∀ y : Int, 0 ≤ y → y < x → u.1 82 y = nl p l y) ∧ ∀ y : Int, x ≤ y → y < 9 → u.1 82 y = l y)) (fun u ch x => Y d μX5_settles 71 [some (.ref 67), some (.int (zi 1)), some (.int (zi n)), some (.int (zi ch)), some (.int (zi x)), none] [] u P) (fun u ch x => (9 - x).toNat) ?_ _ _ _ ⟨(zb_f chx_0).symm, by omega, by omega, ⟨rfl, fun _ _ => rfl⟩, fun y a c => by omega, fun y a c => by rw [f_62.2.1 82 (by omega) (by omega)]; exact m5.late (x := y) a c⟩
          intro u ch x hI4 ih4
          obtain ⟨q0, q1, q2, q3, q4, q5⟩ := hI4
          have hz : ch = 0 ∨ ch = 1 := by rw [q0]; exact zb_01
          have f9 : zFS σ u := (m3.tn f_62).tr9 q3
          have ec9 := f9.mp.trans ec
          refine Y.iload dX5_settles_71 rfl ?_
          refine Y.bipush dX5_settles_73 (by decide +kernel) ?_
          refine Y.icmp_ge 171 dX5_settles_75 (by decide) (by omega) (by omega) (fun h_75 => ?_) (fun h_75 => ?_)
          · refine Y.aload_n dX5_settles_171 rfl ?_
            refine Y.iload_n dX5_settles_172 rfl ?_
            refine Y.if_eq 184 dX5_settles_173 (by decide) (by omega) (fun h_173 => ?_) (fun h_173 => ?_)
            · exfalso; omega
            refine Y.iload_n dX5_settles_176 rfl ?_
            refine Y.if_ne 184 dX5_settles_177 (by decide) (by omega) (fun h_177 => ?_) (fun h_177 => ?_)
            · refine Y.iconst dX5_settles_184 ?_
              refine Y.putf 27 dX5_settles_185 fpX5_232 ob67 os67_27 (Nat.le_of_ble_eq_true rfl) (Or.inr ⟨rfl, Or.inl rfl⟩) rfl ?_
              refine Y.aload_n dX5_settles_188 rfl ?_
              refine Y.iload_n dX5_settles_189 rfl ?_
              refine Y.putf 28 dX5_settles_190 fpX5_240 ob67 os67_28 (Nat.le_of_ble_eq_true rfl) (Or.inl rfl) rfl ?_
              refine Y.iload_n dX5_settles_193 rfl ?_
              refine Y.if_eq 205 dX5_settles_194 (by decide) (by omega) (fun h_194 => ?_) (fun h_194 => ?_)
              · exfalso; omega
              refine Y.iload_n dX5_settles_197 rfl ?_
              refine Y.if_eq 205 dX5_settles_198 (by decide) (by omega) (fun h_198 => ?_) (fun h_198 => ?_)
              · refine Y.iconst dX5_settles_205 ?_
                refine Y.istore_n dX5_settles_206 (by decide) rfl ?_
                refine Y.iinc dX5_settles_207 rfl (by decide) rfl ?_
                refine Y.goto 51 dX5_settles_210 (by decide) ?_
                refine Y.sub (zs_s (zs_s (zs_s (zs_n (zs_n (zs_n zs_0)))))) ?_
                have hch9 : ch = zb (chg p l) := by rw [q0, show x = 9 by omega]; rfl
                have hpk9 : ∀ v : Int, PK (zu (zu u 67 27 v) 67 28 n) := fun v i a e => by rw [zu_nc (by omega), zu_nc (by omega), q3.2 83 (by omega), f_62.2.1 83 (by omega) (by omega)]; exact m4 i a e
                have hma9 : ∀ v : Int, mP (zu (zu u 67 27 v) 67 28 n) = p := fun v => (((f9.us (Or.inl rfl)).us (Or.inr rfl)).mp).trans ec
                first
                  | (exfalso; omega)
                  | (have hcg : chg p l := zb_1.mp (hch9.symm.trans (by omega))
                     rw [stl_c (by omega) hb hcg] at m6
                     exact ih3 _ (nl p l) _ _ ⟨by omega, by omega, (f9.us (Or.inl rfl)).us (Or.inr rfl), hpk9 _, Or.inl ⟨rfl, ⟨hma9 _, hp, nl_b hp hl hb, fun y a e => by rw [zu_nc (by omega), zu_nc (by omega)]; exact q4 y a (by omega)⟩, m6, by rw [zu_ne (by omega), zu_eq]⟩⟩ (by omega))
                  | (have hcg : ¬ chg p l := zb_0.mp (hch9.symm.trans (by omega))
                     rw [stl_e (by omega) hb hcg] at m6
                     exact ih3 _ l _ _ ⟨by omega, by omega, (f9.us (Or.inl rfl)).us (Or.inr rfl), hpk9 _, Or.inr ⟨rfl, Or.inr ⟨n, l, m6.symm, by rw [zu_ne (by omega), zu_eq], by rw [zu_eq], ⟨hma9 _, hp, hl, fun y a e => by rw [zu_nc (by omega), zu_nc (by omega), q4 y a (by omega)]; exact chg_n hcg a e⟩, hbV.fr (fun c a e => by rw [zu_nc (by omega), zu_nc (by omega)]; exact q3.2 c (by omega))⟩⟩⟩ (by omega))
              · refine Y.iconst dX5_settles_201 ?_
                refine Y.goto 206 dX5_settles_202 (by decide) ?_
                refine Y.istore_n dX5_settles_206 (by decide) rfl ?_
                refine Y.iinc dX5_settles_207 rfl (by decide) rfl ?_
                refine Y.goto 51 dX5_settles_210 (by decide) ?_
                refine Y.sub (zs_s (zs_s (zs_s (zs_n (zs_n (zs_n zs_0)))))) ?_
                have hch9 : ch = zb (chg p l) := by rw [q0, show x = 9 by omega]; rfl
                have hpk9 : ∀ v : Int, PK (zu (zu u 67 27 v) 67 28 n) := fun v i a e => by rw [zu_nc (by omega), zu_nc (by omega), q3.2 83 (by omega), f_62.2.1 83 (by omega) (by omega)]; exact m4 i a e
                have hma9 : ∀ v : Int, mP (zu (zu u 67 27 v) 67 28 n) = p := fun v => (((f9.us (Or.inl rfl)).us (Or.inr rfl)).mp).trans ec
                first
                  | (exfalso; omega)
                  | (have hcg : chg p l := zb_1.mp (hch9.symm.trans (by omega))
                     rw [stl_c (by omega) hb hcg] at m6
                     exact ih3 _ (nl p l) _ _ ⟨by omega, by omega, (f9.us (Or.inl rfl)).us (Or.inr rfl), hpk9 _, Or.inl ⟨rfl, ⟨hma9 _, hp, nl_b hp hl hb, fun y a e => by rw [zu_nc (by omega), zu_nc (by omega)]; exact q4 y a (by omega)⟩, m6, by rw [zu_ne (by omega), zu_eq]⟩⟩ (by omega))
                  | (have hcg : ¬ chg p l := zb_0.mp (hch9.symm.trans (by omega))
                     rw [stl_e (by omega) hb hcg] at m6
                     exact ih3 _ l _ _ ⟨by omega, by omega, (f9.us (Or.inl rfl)).us (Or.inr rfl), hpk9 _, Or.inr ⟨rfl, Or.inr ⟨n, l, m6.symm, by rw [zu_ne (by omega), zu_eq], by rw [zu_eq], ⟨hma9 _, hp, hl, fun y a e => by rw [zu_nc (by omega), zu_nc (by omega), q4 y a (by omega)]; exact chg_n hcg a e⟩, hbV.fr (fun c a e => by rw [zu_nc (by omega), zu_nc (by omega)]; exact q3.2 c (by omega))⟩⟩⟩ (by omega))
            · refine Y.iconst dX5_settles_180 ?_
              refine Y.goto 185 dX5_settles_181 (by decide) ?_
              refine Y.putf 27 dX5_settles_185 fpX5_232 ob67 os67_27 (Nat.le_of_ble_eq_true rfl) (Or.inr ⟨rfl, Or.inr rfl⟩) rfl ?_
              refine Y.aload_n dX5_settles_188 rfl ?_
              refine Y.iload_n dX5_settles_189 rfl ?_
              refine Y.putf 28 dX5_settles_190 fpX5_240 ob67 os67_28 (Nat.le_of_ble_eq_true rfl) (Or.inl rfl) rfl ?_
              refine Y.iload_n dX5_settles_193 rfl ?_
              refine Y.if_eq 205 dX5_settles_194 (by decide) (by omega) (fun h_194 => ?_) (fun h_194 => ?_)
              · exfalso; omega
              refine Y.iload_n dX5_settles_197 rfl ?_
              refine Y.if_eq 205 dX5_settles_198 (by decide) (by omega) (fun h_198 => ?_) (fun h_198 => ?_)
              · refine Y.iconst dX5_settles_205 ?_
                refine Y.istore_n dX5_settles_206 (by decide) rfl ?_
                refine Y.iinc dX5_settles_207 rfl (by decide) rfl ?_
                refine Y.goto 51 dX5_settles_210 (by decide) ?_
                refine Y.sub (zs_s (zs_s (zs_s (zs_n (zs_n (zs_n zs_0)))))) ?_
                have hch9 : ch = zb (chg p l) := by rw [q0, show x = 9 by omega]; rfl
                have hpk9 : ∀ v : Int, PK (zu (zu u 67 27 v) 67 28 n) := fun v i a e => by rw [zu_nc (by omega), zu_nc (by omega), q3.2 83 (by omega), f_62.2.1 83 (by omega) (by omega)]; exact m4 i a e
                have hma9 : ∀ v : Int, mP (zu (zu u 67 27 v) 67 28 n) = p := fun v => (((f9.us (Or.inl rfl)).us (Or.inr rfl)).mp).trans ec
                first
                  | (exfalso; omega)
                  | (have hcg : chg p l := zb_1.mp (hch9.symm.trans (by omega))
                     rw [stl_c (by omega) hb hcg] at m6
                     exact ih3 _ (nl p l) _ _ ⟨by omega, by omega, (f9.us (Or.inl rfl)).us (Or.inr rfl), hpk9 _, Or.inl ⟨rfl, ⟨hma9 _, hp, nl_b hp hl hb, fun y a e => by rw [zu_nc (by omega), zu_nc (by omega)]; exact q4 y a (by omega)⟩, m6, by rw [zu_ne (by omega), zu_eq]⟩⟩ (by omega))
                  | (have hcg : ¬ chg p l := zb_0.mp (hch9.symm.trans (by omega))
                     rw [stl_e (by omega) hb hcg] at m6
                     exact ih3 _ l _ _ ⟨by omega, by omega, (f9.us (Or.inl rfl)).us (Or.inr rfl), hpk9 _, Or.inr ⟨rfl, Or.inr ⟨n, l, m6.symm, by rw [zu_ne (by omega), zu_eq], by rw [zu_eq], ⟨hma9 _, hp, hl, fun y a e => by rw [zu_nc (by omega), zu_nc (by omega), q4 y a (by omega)]; exact chg_n hcg a e⟩, hbV.fr (fun c a e => by rw [zu_nc (by omega), zu_nc (by omega)]; exact q3.2 c (by omega))⟩⟩⟩ (by omega))
              · refine Y.iconst dX5_settles_201 ?_
                refine Y.goto 206 dX5_settles_202 (by decide) ?_
                refine Y.istore_n dX5_settles_206 (by decide) rfl ?_
                refine Y.iinc dX5_settles_207 rfl (by decide) rfl ?_
                refine Y.goto 51 dX5_settles_210 (by decide) ?_
                refine Y.sub (zs_s (zs_s (zs_s (zs_n (zs_n (zs_n zs_0)))))) ?_
                have hch9 : ch = zb (chg p l) := by rw [q0, show x = 9 by omega]; rfl
                have hpk9 : ∀ v : Int, PK (zu (zu u 67 27 v) 67 28 n) := fun v i a e => by rw [zu_nc (by omega), zu_nc (by omega), q3.2 83 (by omega), f_62.2.1 83 (by omega) (by omega)]; exact m4 i a e
                have hma9 : ∀ v : Int, mP (zu (zu u 67 27 v) 67 28 n) = p := fun v => (((f9.us (Or.inl rfl)).us (Or.inr rfl)).mp).trans ec
                first
                  | (exfalso; omega)
                  | (have hcg : chg p l := zb_1.mp (hch9.symm.trans (by omega))
                     rw [stl_c (by omega) hb hcg] at m6
                     exact ih3 _ (nl p l) _ _ ⟨by omega, by omega, (f9.us (Or.inl rfl)).us (Or.inr rfl), hpk9 _, Or.inl ⟨rfl, ⟨hma9 _, hp, nl_b hp hl hb, fun y a e => by rw [zu_nc (by omega), zu_nc (by omega)]; exact q4 y a (by omega)⟩, m6, by rw [zu_ne (by omega), zu_eq]⟩⟩ (by omega))
                  | (have hcg : ¬ chg p l := zb_0.mp (hch9.symm.trans (by omega))
                     rw [stl_e (by omega) hb hcg] at m6
                     exact ih3 _ l _ _ ⟨by omega, by omega, (f9.us (Or.inl rfl)).us (Or.inr rfl), hpk9 _, Or.inr ⟨rfl, Or.inr ⟨n, l, m6.symm, by rw [zu_ne (by omega), zu_eq], by rw [zu_eq], ⟨hma9 _, hp, hl, fun y a e => by rw [zu_nc (by omega), zu_nc (by omega), q4 y a (by omega)]; exact chg_n hcg a e⟩, hbV.fr (fun c a e => by rw [zu_nc (by omega), zu_nc (by omega)]; exact q3.2 c (by omega))⟩⟩⟩ (by omega))
          · refine Y.iload_n dX5_settles_78 rfl ?_
            refine Y.if_eq 171 dX5_settles_79 (by decide) (by omega) (fun h_79 => ?_) (fun h_79 => ?_)
            · exfalso; omega
            refine Y.iload dX5_settles_82 rfl ?_
            refine Y.iconst dX5_settles_84 ?_
            refine Y.iremp dX5_settles_85 (by omega) (by omega) (by omega) (by omega) ?_
            refine Y.if_le 165 dX5_settles_86 (by decide) (by omega) (fun h_86 => ?_) (fun h_86 => ?_)
            · have hne : nl p l x = l x := nl_e (fun q => by omega)
              refine Y.iinc dX5_settles_165 rfl (by decide) rfl ?_
              refine Y.goto 71 dX5_settles_168 (by decide) ?_
              refine Y.sub (zs_s (zs_s (zs_s (zs_s (zs_s (zs_n zs_0)))))) ?_
              first
                | (refine ih4 _ _ _ ⟨q0.trans (chx_f hne).symm, by omega, by omega, q3, fun y a c => ?_, fun y a c => q5 y (by omega) c⟩ (by omega)
                   by_cases q : y = x
                   · rw [q, hne]; exact q5 x (by omega) (by omega)
                   · exact q4 y a (by omega))
                | (refine ih4 _ _ _ ⟨by first | exact (zb_t (chx_t q1 (by omega))).symm | exact chc q1 q0 (by omega) | (rw [chx_f (show nl p l x = l x by omega), ← q0]; omega), by omega, by omega, ⟨q3.1, fun c hc => by rw [zu_nc hc]; exact q3.2 c hc⟩, fun y a c => ?_, fun y a c => by rw [zu_ne (by omega)]; exact q5 y (by omega) c⟩ (by omega)
                   by_cases q : y = x
                   · rw [q, zu_eq, hnb.2.2, h5x]; omega
                   · rw [zu_ne q]; exact q4 y a (by omega))
            · refine Y.aload_n dX5_settles_89 rfl ?_
              refine Y.iload dX5_settles_90 rfl ?_
              refine Y.cVI dX5_settles_92 mkX5_isThere csX5_160 ob67 ⟨_, rfl, rfl⟩ (k_X5_isThere ec9 hp (by omega) (by omega)) (by omega) rfl rfl (Nat.le_of_ble_eq_true rfl) ?_
              refine Y.ifz_eq 165 dX5_settles_95 (by decide) (fun h_95 => ?_) (fun h_95 => ?_)
              · have hne : nl p l x = l x := nl_e (fun q => absurd q.2 (by assumption))
                refine Y.iinc dX5_settles_165 rfl (by decide) rfl ?_
                refine Y.goto 71 dX5_settles_168 (by decide) ?_
                refine Y.sub (zs_s (zs_s (zs_s (zs_s (zs_s (zs_n zs_0)))))) ?_
                first
                  | (refine ih4 _ _ _ ⟨q0.trans (chx_f hne).symm, by omega, by omega, q3, fun y a c => ?_, fun y a c => q5 y (by omega) c⟩ (by omega)
                     by_cases q : y = x
                     · rw [q, hne]; exact q5 x (by omega) (by omega)
                     · exact q4 y a (by omega))
                  | (refine ih4 _ _ _ ⟨by first | exact (zb_t (chx_t q1 (by omega))).symm | exact chc q1 q0 (by omega) | (rw [chx_f (show nl p l x = l x by omega), ← q0]; omega), by omega, by omega, ⟨q3.1, fun c hc => by rw [zu_nc hc]; exact q3.2 c hc⟩, fun y a c => ?_, fun y a c => by rw [zu_ne (by omega)]; exact q5 y (by omega) c⟩ (by omega)
                     by_cases q : y = x
                     · rw [q, zu_eq, hnb.2.2, h5x]; omega
                     · rw [zu_ne q]; exact q4 y a (by omega))
              · have hnb := nl_bb hp hl hb (by omega) (by omega) (show x % 3 ≠ 0 by omega) (by assumption)
                have hth1 := th_prev (x := x) (by omega) (by assumption)
                have e3 : u.1 84 (x - 1) = (bv p l (x - 1)).1 := by rw [q3.2 _ (by omega)]; exact (hbV (x - 1) (by omega) (by omega) hth1).1
                have e9 : u.1 81 x = p 9 x := by rw [← ec9]; rfl
                have hk9 := (hp.2.1 x (by omega) (by omega)).2.2.2
                have hea := ear_b hp (x := x) (by omega) (by omega)
                have h5x := q5 x (by omega) (by omega)
                have hlx := hl.b (x := x) (by omega) (by omega)
                have hthx : th p x := by assumption
                refine Y.aload_n dX5_settles_98 rfl ?_
                refine Y.getf dX5_settles_99 flX5_59 ob67 rfl ?_
                refine Y.iload dX5_settles_102 rfl ?_
                refine Y.iconst dX5_settles_104 ?_
                refine Y.isub dX5_settles_105 ?_
                refine Y.iald dX5_settles_106 ia84 (by omega) (by omega) ?_
                refine Y.aload_n dX5_settles_107 rfl ?_
                refine Y.getf dX5_settles_108 flX5_50 ob67 rfl ?_
                refine Y.iload dX5_settles_111 rfl ?_
                refine Y.iald dX5_settles_113 ia81 (by omega) (by omega) ?_
                refine Y.iadd dX5_settles_114 ?_
                refine Y.aload_n dX5_settles_115 rfl ?_
                refine Y.iload dX5_settles_116 rfl ?_
                refine Y.cVI dX5_settles_118 mkX5_earliest csX5_183 ob67 ⟨_, rfl, rfl⟩ (k_X5_earliest ec9 hp (by omega) (by omega)) (by omega) rfl rfl (Nat.le_of_ble_eq_true rfl) ?_
                refine Y.isub dX5_settles_121 ?_
                refine Y.istore dX5_settles_122 (by decide) rfl ?_
                refine Y.iload_n dX5_settles_124 rfl ?_
                refine Y.if_ne 140 dX5_settles_125 (by decide) (by omega) (fun h_125 => ?_) (fun h_125 => ?_)
                · refine Y.iconst dX5_settles_140 ?_
                  refine Y.goto 145 dX5_settles_141 (by decide) ?_
                  refine Y.istore_n dX5_settles_145 (by decide) rfl ?_
                  refine Y.aload_n dX5_settles_146 rfl ?_
                  refine Y.getf dX5_settles_147 flX5_53 ob67 rfl ?_
                  refine Y.iload dX5_settles_150 rfl ?_
                  refine Y.iload dX5_settles_152 rfl ?_
                  refine Y.aload_n dX5_settles_154 rfl ?_
                  refine Y.getf dX5_settles_155 flX5_53 ob67 rfl ?_
                  refine Y.iload dX5_settles_158 rfl ?_
                  refine Y.iald dX5_settles_160 ia82 (by omega) (by omega) ?_
                  refine Y.cSI dX5_settles_161 mkX5_greater csX5_198 (c_X5_greater (by omega) (by omega)) (by omega) rfl rfl (Nat.le_of_ble_eq_true rfl) ?_
                  refine Y.iast dX5_settles_164 ia82 (by omega) (by omega) ?_
                  refine Y.iinc dX5_settles_165 rfl (by decide) rfl ?_
                  refine Y.goto 71 dX5_settles_168 (by decide) ?_
                  refine Y.sub (zs_s (zs_s (zs_s (zs_s (zs_s (zs_n zs_0)))))) ?_
                  first
                    | (refine ih4 _ _ _ ⟨q0.trans (chx_f hne).symm, by omega, by omega, q3, fun y a c => ?_, fun y a c => q5 y (by omega) c⟩ (by omega)
                       by_cases q : y = x
                       · rw [q, hne]; exact q5 x (by omega) (by omega)
                       · exact q4 y a (by omega))
                    | (refine ih4 _ _ _ ⟨by first | exact (zb_t (chx_t q1 (by omega))).symm | exact chc q1 q0 (by omega) | (rw [chx_f (show nl p l x = l x by omega), ← q0]; omega), by omega, by omega, ⟨q3.1, fun c hc => by rw [zu_nc hc]; exact q3.2 c hc⟩, fun y a c => ?_, fun y a c => by rw [zu_ne (by omega)]; exact q5 y (by omega) c⟩ (by omega)
                       by_cases q : y = x
                       · rw [q, zu_eq, hnb.2.2, h5x]; omega
                       · rw [zu_ne q]; exact q4 y a (by omega))
                · refine Y.iload dX5_settles_128 rfl ?_
                  refine Y.aload_n dX5_settles_130 rfl ?_
                  refine Y.getf dX5_settles_131 flX5_53 ob67 rfl ?_
                  refine Y.iload dX5_settles_134 rfl ?_
                  refine Y.iald dX5_settles_136 ia82 (by omega) (by omega) ?_
                  refine Y.icmp_le 144 dX5_settles_137 (by decide) (by omega) (by omega) (fun h_137 => ?_) (fun h_137 => ?_)
                  · refine Y.iconst dX5_settles_144 ?_
                    refine Y.istore_n dX5_settles_145 (by decide) rfl ?_
                    refine Y.aload_n dX5_settles_146 rfl ?_
                    refine Y.getf dX5_settles_147 flX5_53 ob67 rfl ?_
                    refine Y.iload dX5_settles_150 rfl ?_
                    refine Y.iload dX5_settles_152 rfl ?_
                    refine Y.aload_n dX5_settles_154 rfl ?_
                    refine Y.getf dX5_settles_155 flX5_53 ob67 rfl ?_
                    refine Y.iload dX5_settles_158 rfl ?_
                    refine Y.iald dX5_settles_160 ia82 (by omega) (by omega) ?_
                    refine Y.cSI dX5_settles_161 mkX5_greater csX5_198 (c_X5_greater (by omega) (by omega)) (by omega) rfl rfl (Nat.le_of_ble_eq_true rfl) ?_
                    refine Y.iast dX5_settles_164 ia82 (by omega) (by omega) ?_
                    refine Y.iinc dX5_settles_165 rfl (by decide) rfl ?_
                    refine Y.goto 71 dX5_settles_168 (by decide) ?_
                    refine Y.sub (zs_s (zs_s (zs_s (zs_s (zs_s (zs_n zs_0)))))) ?_
                    first
                      | (refine ih4 _ _ _ ⟨q0.trans (chx_f hne).symm, by omega, by omega, q3, fun y a c => ?_, fun y a c => q5 y (by omega) c⟩ (by omega)
                         by_cases q : y = x
                         · rw [q, hne]; exact q5 x (by omega) (by omega)
                         · exact q4 y a (by omega))
                      | (refine ih4 _ _ _ ⟨by first | exact (zb_t (chx_t q1 (by omega))).symm | exact chc q1 q0 (by omega) | (rw [chx_f (show nl p l x = l x by omega), ← q0]; omega), by omega, by omega, ⟨q3.1, fun c hc => by rw [zu_nc hc]; exact q3.2 c hc⟩, fun y a c => ?_, fun y a c => by rw [zu_ne (by omega)]; exact q5 y (by omega) c⟩ (by omega)
                         by_cases q : y = x
                         · rw [q, zu_eq, hnb.2.2, h5x]; omega
                         · rw [zu_ne q]; exact q4 y a (by omega))
                  · refine Y.iconst dX5_settles_140 ?_
                    refine Y.goto 145 dX5_settles_141 (by decide) ?_
                    refine Y.istore_n dX5_settles_145 (by decide) rfl ?_
                    refine Y.aload_n dX5_settles_146 rfl ?_
                    refine Y.getf dX5_settles_147 flX5_53 ob67 rfl ?_
                    refine Y.iload dX5_settles_150 rfl ?_
                    refine Y.iload dX5_settles_152 rfl ?_
                    refine Y.aload_n dX5_settles_154 rfl ?_
                    refine Y.getf dX5_settles_155 flX5_53 ob67 rfl ?_
                    refine Y.iload dX5_settles_158 rfl ?_
                    refine Y.iald dX5_settles_160 ia82 (by omega) (by omega) ?_
                    refine Y.cSI dX5_settles_161 mkX5_greater csX5_198 (c_X5_greater (by omega) (by omega)) (by omega) rfl rfl (Nat.le_of_ble_eq_true rfl) ?_
                    refine Y.iast dX5_settles_164 ia82 (by omega) (by omega) ?_
                    refine Y.iinc dX5_settles_165 rfl (by decide) rfl ?_
                    refine Y.goto 71 dX5_settles_168 (by decide) ?_
                    refine Y.sub (zs_s (zs_s (zs_s (zs_s (zs_s (zs_n zs_0)))))) ?_
                    first
                      | (refine ih4 _ _ _ ⟨q0.trans (chx_f hne).symm, by omega, by omega, q3, fun y a c => ?_, fun y a c => q5 y (by omega) c⟩ (by omega)
                         by_cases q : y = x
                         · rw [q, hne]; exact q5 x (by omega) (by omega)
                         · exact q4 y a (by omega))
                      | (refine ih4 _ _ _ ⟨by first | exact (zb_t (chx_t q1 (by omega))).symm | exact chc q1 q0 (by omega) | (rw [chx_f (show nl p l x = l x by omega), ← q0]; omega), by omega, by omega, ⟨q3.1, fun c hc => by rw [zu_nc hc]; exact q3.2 c hc⟩, fun y a c => ?_, fun y a c => by rw [zu_ne (by omega)]; exact q5 y (by omega) c⟩ (by omega)
                         by_cases q : y = x
                         · rw [q, zu_eq, hnb.2.2, h5x]; omega
                         · rw [zu_ne q]; exact q4 y a (by omega))
        · rw [zb_f hb]
          refine Y.iload dX5_settles_71 rfl ?_
          refine Y.bipush dX5_settles_73 (by decide +kernel) ?_
          refine Y.icmp_ge 171 dX5_settles_75 (by decide) (by omega) (by omega) (fun h_75 => ?_) (fun h_75 => ?_)
          · exfalso; omega
          refine Y.iload_n dX5_settles_78 rfl ?_
          refine Y.if_eq 171 dX5_settles_79 (by decide) (by omega) (fun h_79 => ?_) (fun h_79 => ?_)
          rotate_left
          · exfalso; omega
          refine Y.aload_n dX5_settles_171 rfl ?_
          refine Y.iload_n dX5_settles_172 rfl ?_
          refine Y.if_eq 184 dX5_settles_173 (by decide) (by omega) (fun h_173 => ?_) (fun h_173 => ?_)
          rotate_left
          · exfalso; omega
          refine Y.iconst dX5_settles_184 ?_
          refine Y.putf 27 dX5_settles_185 fpX5_232 ob67 os67_27 (Nat.le_of_ble_eq_true rfl) (Or.inr ⟨rfl, Or.inl rfl⟩) rfl ?_
          refine Y.aload_n dX5_settles_188 rfl ?_
          refine Y.iload_n dX5_settles_189 rfl ?_
          refine Y.putf 28 dX5_settles_190 fpX5_240 ob67 os67_28 (Nat.le_of_ble_eq_true rfl) (Or.inl rfl) rfl ?_
          refine Y.iload_n dX5_settles_193 rfl ?_
          refine Y.if_eq 205 dX5_settles_194 (by decide) (by omega) (fun h_194 => ?_) (fun h_194 => ?_)
          rotate_left
          · exfalso; omega
          refine Y.iconst dX5_settles_205 ?_
          refine Y.istore_n dX5_settles_206 (by decide) rfl ?_
          refine Y.iinc dX5_settles_207 rfl (by decide) rfl ?_
          refine Y.goto 51 dX5_settles_210 (by decide) ?_
          refine Y.sub (zs_s (zs_s (zs_s (zs_n (zs_n (zs_n zs_0)))))) ?_
          exact ih3 _ l _ _ ⟨by omega, by omega, ((m3.tn f_62).us (Or.inl rfl)).us (Or.inr rfl), fun i a e => by rw [zu_nc (by omega), zu_nc (by omega), f_62.2.1 83 (by omega) (by omega)]; exact m4 i a e, Or.inr ⟨rfl, Or.inl ⟨by rw [← m6]; exact stl_n (by omega) hb, by rw [zu_ne (by omega), zu_eq]⟩⟩⟩ (by omega)
  · refine Y.aload_n dX5_settles_17 rfl ?_
    refine Y.getf dX5_settles_18 flX5_53 ob67 rfl ?_
    refine Y.iload_n dX5_settles_21 rfl ?_
    refine Y.iload_n dX5_settles_22 rfl ?_
    refine Y.iconst dX5_settles_23 ?_
    refine Y.iremp dX5_settles_24 (by omega) (by omega) (by omega) (by omega) ?_
    refine Y.if_ne 39 dX5_settles_25 (by decide) (by omega) (fun h_25 => ?_) (fun h_25 => ?_)
    · refine Y.iconst dX5_settles_39 ?_
      refine Y.iast dX5_settles_40 ia82 (by omega) (by omega) ?_
      refine Y.iinc dX5_settles_41 rfl (by decide) rfl ?_
      refine Y.goto 11 dX5_settles_44 (by decide) ?_
      exact ih _ _ ⟨by omega, by omega, j3.up (by omega) (by omega), fun y a e => by rw [zu_nc (by omega)]; exact j4 y a e, by rw [zu_nc (by omega)]; exact j5, fun y a e => if q : y = x then by rw [q, zu_eq]; unfold l0; first | (rw [if_pos (by omega)]; exact e4) | rw [if_neg (by omega)] else by rw [zu_ne q]; exact j6 y a (by omega)⟩ (by omega)
    · refine Y.aload_n dX5_settles_28 rfl ?_
      refine Y.getf dX5_settles_29 flX5_26 ob67 rfl ?_
      refine Y.iload_n dX5_settles_32 rfl ?_
      refine Y.iconst dX5_settles_33 ?_
      refine Y.idivp dX5_settles_34 (by omega) (by omega) (by omega) (by omega) ?_
      refine Y.iald dX5_settles_35 ia73 (by omega) (by omega) ?_
      refine Y.goto 40 dX5_settles_36 (by decide) ?_
      refine Y.iast dX5_settles_40 ia82 (by omega) (by omega) ?_
      refine Y.iinc dX5_settles_41 rfl (by decide) rfl ?_
      refine Y.goto 11 dX5_settles_44 (by decide) ?_
      exact ih _ _ ⟨by omega, by omega, j3.up (by omega) (by omega), fun y a e => by rw [zu_nc (by omega)]; exact j4 y a e, by rw [zu_nc (by omega)]; exact j5, fun y a e => if q : y = x then by rw [q, zu_eq]; unfold l0; first | (rw [if_pos (by omega)]; exact e4) | rw [if_neg (by omega)] else by rw [zu_ne q]; exact j6 y a (by omega)⟩ (by omega)
end ZG7
