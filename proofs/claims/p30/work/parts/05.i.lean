section ZG7
variable {σ : zS}
/-- the class's answers are settled for the plan -/
def SA (b : Nat) (s : zS) (p : zP) : Prop := (SR p = none ∧ s.1 b 16 = -1) ∨ ∃ (r : Int) (l : Int → Int), SR p = some (r, l) ∧ s.1 b 16 = r ∧ AP b s p l ∧ PP b s p l ∧ BV b s p l 9
def zFA (b : Nat) (σ t : zS) : Prop := t.2 = σ.2 ∧ ∀ c : Nat, (c < b ∨ b + 11 < c) → t.1 c = σ.1 c
theorem zFA.rf {b : Nat} {σ : zS} : zFA b σ σ := ⟨rfl, fun _ _ => rfl⟩
theorem zFA.tr {b : Nat} {σ t s : zS} (h : zFA b σ t) (h2 : zFA b t s) : zFA b σ s := ⟨h2.1.trans h.1, fun c q => (h2.2 c q).trans (h.2 c q)⟩
theorem zFA.up {b : Nat} {σ t : zS} {c : Nat} {i v : Int} (h : zFA b σ t) (hc : b ≤ c) (hc2 : c ≤ b + 11) : zFA b σ (zu t c i v) :=
  ⟨h.1, fun e h1 => by rw [zu_nc (by omega)]; exact h.2 e h1⟩
theorem zFA.cp {b : Nat} (hb : zAb b) {σ t : zS} (h : zFA b σ t) : cP t = cP σ := by
  have hb' : b = 14 ∨ b = 26 := hb
  exact cP_c (fun c hc => h.2 c (by omega))
theorem zFB.fa {b : Nat} {σ t : zS} (h : zFB b σ t) : zFA b σ t := ⟨h.1, fun c q => h.2.1 c (by omega) (by omega)⟩
theorem zFb.fa {b : Nat} {σ t : zS} (h : zFb b σ t) : zFA b σ t := ⟨h.1, fun c q => h.2.1 c (by omega)⟩
theorem zFg.fa {b : Nat} {σ t : zS} (h : zFg b σ t) : zFA b σ t := ⟨h.1, fun c q => h.2 c (by omega) (by omega) (by omega)⟩
theorem chg_n {p : zP} {l : Int → Int} (h : ¬ chg p l) {y : Int} (h0 : 0 ≤ y) (h9 : y < 9) : nl p l y = l y := Classical.byContradiction fun q => h ⟨y, h0, h9, q⟩
def PI (b : Nat) (t : zS) (p : zP) (n : Int) : Prop := ∀ i : Int, 0 ≤ i → i < n → t.1 (b + 1) i = p 0 i
set_option maxHeartbeats 8000000 in
theorem c_X0_settle {b : Nat} (hb : zAb b) {p : zP} (ec : cP σ = p) (hp : WP p) (hs : σ.1 b 17 = 0 ∨ σ.1 b 17 = 1) (hst : σ.1 b 17 = 0 → SA b σ p) : YC 6 μX0_settle [.ref b] σ (fun r s => r = none ∧ zFA b σ s ∧ s.1 b 17 = 0 ∧ SA b s p) := by
  refine YC.of2 (by decide) (Nat.le_of_ble_eq_true rfl) (fun d P hd hP => ?_)
  refine Y.aload_n dX0_settle_0 rfl ?_
  refine Y.getf dX0_settle_1 flX0_53 (obA hb) rfl ?_
  refine Y.if_ne 8 dX0_settle_4 (by decide) (by omega) (fun h_4 => ?_) (fun h_4 => ?_)
  · refine Y.aload_n dX0_settle_8 rfl ?_
    refine Y.iconst dX0_settle_9 ?_
    refine Y.putf 17 dX0_settle_10 fpX0_53 (obA hb) (osA_17 hb) (Nat.le_of_ble_eq_true rfl) (Or.inr ⟨rfl, Or.inl rfl⟩) rfl ?_
    refine Y.aload_n dX0_settle_13 rfl ?_
    refine Y.iconst dX0_settle_14 ?_
    refine Y.putf 16 dX0_settle_15 fpX0_49 (obA hb) (osA_16 hb) (Nat.le_of_ble_eq_true rfl) (Or.inl rfl) rfl ?_
    refine Y.iconst dX0_settle_18 ?_
    refine Y.istore_n dX0_settle_19 (by decide) rfl ?_
    refine zw2 (fun t i => (0 ≤ i ∧ i ≤ 3 ∧ zFA b σ t ∧ t.1 b 17 = 0 ∧ t.1 b 16 = -1 ∧ PI b t p i)) (fun t i => Y d μX0_settle 20 [some (.ref b), some (.int (zi i))] [] t P) (fun t i => (3 - i).toNat) ?_ _ _ ⟨by omega, by omega, (zFA.rf.up (by omega) (by omega)).up (by omega) (by omega), by rw [zu_ne (by omega), zu_eq], by rw [zu_eq], fun y a c => by omega⟩
    intro t i hI ih
    obtain ⟨j1, j2, j3, j4, j5, j6⟩ := hI
    have ec1 := (j3.cp hb).trans ec
    refine Y.iload_n dX0_settle_20 rfl ?_
    refine Y.iconst dX0_settle_21 ?_
    refine Y.icmp_ge 45 dX0_settle_22 (by decide) (by omega) (by omega) (fun h_22 => ?_) (fun h_22 => ?_)
    · refine Y.iconst dX0_settle_45 ?_
      refine Y.istore_n dX0_settle_46 (by decide) rfl ?_
      refine zw2 (fun t2 x => (0 ≤ x ∧ x ≤ 9 ∧ zFA b σ t2 ∧ t2.1 b 17 = 0 ∧ t2.1 b 16 = -1 ∧ PI b t2 p 3 ∧ ∀ y : Int, 0 ≤ y → y < x → t2.1 (b + 2) y = l0 p y)) (fun t2 x => Y d μX0_settle 47 [some (.ref b), some (.int (zi x))] [] t2 P) (fun t2 x => (9 - x).toNat) ?_ _ _ ⟨by omega, by omega, j3, j4, j5, fun y a c => j6 y a (by omega), fun y a c => by omega⟩
      intro t2 x hI2 ih2
      obtain ⟨k1, k2, k3, k4, k5, k6, k7⟩ := hI2
      have ec2 := (k3.cp hb).trans ec
      have e4 : t2.1 4 (x / 3) = p 1 (x / 3) := by rw [← ec2]; rfl
      refine Y.iload_n dX0_settle_47 rfl ?_
      refine Y.bipush dX0_settle_48 (by decide +kernel) ?_
      refine Y.icmp_ge 88 dX0_settle_50 (by decide) (by omega) (by omega) (fun h_50 => ?_) (fun h_50 => ?_)
      · refine Y.iconst dX0_settle_88 ?_
        refine Y.istore_n dX0_settle_89 (by decide) rfl ?_
        refine zw3 (fun t3 l r => (1 ≤ r ∧ r ≤ 21 ∧ zFA b σ t3 ∧ t3.1 b 17 = 0 ∧ t3.1 b 16 = -1 ∧ AP b t3 p l ∧ stl p (21 - r).toNat r l = SR p)) (fun t3 l r => Y d μX0_settle 90 [some (.ref b), some (.int (zi r))] [] t3 P) (fun t3 l r => (21 - r).toNat) ?_ _ (l0 p) _ ⟨by omega, by omega, k3, k4, k5, ⟨ec2, hp, l0_b hp, fun i a c => k6 i a c, fun y a c => k7 y a (by omega)⟩, rfl⟩
        intro t3 l r hI3 ih3
        obtain ⟨m1, m2, m3, m4, m5, m6, m7⟩ := hI3
        refine Y.iload_n dX0_settle_90 rfl ?_
        refine Y.bipush dX0_settle_91 (by decide +kernel) ?_
        refine Y.icmp_gt 123 dX0_settle_93 (by decide) (by omega) (by omega) (fun h_93 => ?_) (fun h_93 => ?_)
        · exact Y.vret dX0_settle_123 rfl (hP _ _ ⟨rfl, m3, m4, Or.inl ⟨by rw [← m7]; exact stl_0 (by omega), m5⟩⟩)
        · refine Y.aload_n dX0_settle_96 rfl ?_
          refine Y.callV dX0_settle_97 mkX0_boundAll csX0_67 (obA hb) ⟨_, rfl, rfl⟩ (c_X0_boundAll hb m6) (by omega) rfl rfl (Nat.le_of_ble_eq_true rfl) (fun r_97 s_97 p_97 => ?_)
          obtain ⟨rfl, f_97, g_97⟩ := p_97
          refine Y.ifz_ne 104 dX0_settle_100 (by decide) (fun h_100 => ?_) (fun h_100 => ?_)
          · refine Y.aload_n dX0_settle_104 rfl ?_
            refine Y.callV dX0_settle_105 mkX0_passLateness csX0_71 (obA hb) ⟨_, rfl, rfl⟩ (c_X0_passLateness hb (m6.fr (fun c q => f_97.2.1 c (by have hb2 : b = 14 ∨ b = 26 := hb; omega) (by have hb2 : b = 14 ∨ b = 26 := hb; omega))) (by assumption) (g_97 (by assumption)).2) (by omega) rfl rfl (Nat.le_of_ble_eq_true rfl) (fun r_105 s_105 p_105 => ?_)
            obtain ⟨rfl, f_105, g_105⟩ := p_105
            refine Y.ifz_ne 117 dX0_settle_108 (by decide) (fun h_108 => ?_) (fun h_108 => ?_)
            · refine Y.iinc dX0_settle_117 rfl (by decide) rfl ?_
              refine Y.goto 90 dX0_settle_120 (by decide) ?_
              have hb' : b = 14 ∨ b = 26 := hb
              have hbA : bA p l := by assumption
              have hcg : chg p l := by assumption
              rw [stl_c (by omega) hbA hcg] at m7
              exact ih3 _ (nl p l) _ ⟨by omega, by omega, (m3.tr f_97.fa).tr ⟨f_105.1, fun c q => f_105.2 c (by omega)⟩, by rw [f_105.2 b (by omega), f_97.2.2 17 (by omega)]; exact m4, by rw [f_105.2 b (by omega), f_97.2.2 16 (by omega)]; exact m5, ⟨((cP_c (fun c q => f_105.2 c (by omega))).trans (cP_c (fun c q => f_97.2.1 c (by omega) (by omega)))).trans m6.1, hp, nl_b hp m6.wl hbA, fun i a c => by rw [f_105.2 _ (by omega), f_97.2.1 _ (by omega) (by omega)]; exact m6.per a c, g_105⟩, m7⟩ (by omega)
            · refine Y.aload_n dX0_settle_111 rfl ?_
              refine Y.iload_n dX0_settle_112 rfl ?_
              refine Y.putf 16 dX0_settle_113 fpX0_49 (obA hb) (osA_16 hb) (Nat.le_of_ble_eq_true rfl) (Or.inl rfl) rfl ?_
              exact Y.vret dX0_settle_116 rfl (hP _ _ (by
          have hb' : b = 14 ∨ b = 26 := hb
          have hbA : bA p l := by assumption
          have hcg : ¬ chg p l := by assumption
          rw [stl_e (by omega) hbA hcg] at m7
          refine ⟨rfl, ((m3.tr f_97.fa).tr ⟨f_105.1, fun c q => f_105.2 c (by omega)⟩).up (by omega) (by omega), by rw [zu_ne (by omega), f_105.2 b (by omega), f_97.2.2 17 (by omega)]; exact m4, Or.inr ⟨r, l, m7.symm, by rw [zu_eq], ⟨?_, hp, m6.wl, fun i a c => ?_, fun y a c => ?_⟩, (g_97 hbA).1.fr (fun c a e => ?_), (g_97 hbA).2.fr (fun c a e => ?_)⟩⟩
          · rw [cP_c (σ := s_105) (fun c q => by rw [zu_nc (by omega)]), cP_c (σ := s_97) (fun c q => f_105.2 c (by omega)), cP_c (σ := t3) (fun c q => f_97.2.1 c (by omega) (by omega))]
            exact m6.1
          · rw [zu_nc (by omega), f_105.2 _ (by omega), f_97.2.1 _ (by omega) (by omega)]
            exact m6.per a c
          · rw [zu_nc (by omega), g_105 y a c]
            exact chg_n hcg a c
          · rw [zu_nc (by omega)]
            exact f_105.2 c (by omega)
          · rw [zu_nc (by omega)]
            exact f_105.2 c (by omega)))
          · exact Y.vret dX0_settle_103 rfl (hP _ _ ⟨rfl, m3.tr f_97.fa, by rw [f_97.2.2 17 (by omega)]; exact m4, Or.inl ⟨by rw [← m7]; exact stl_n (by omega) (by assumption), by rw [f_97.2.2 16 (by omega)]; exact m5⟩⟩)
      · refine Y.aload_n dX0_settle_53 rfl ?_
        refine Y.getf dX0_settle_54 flX0_15 (obA hb) rfl ?_
        refine Y.iload_n dX0_settle_57 rfl ?_
        refine Y.iload_n dX0_settle_58 rfl ?_
        refine Y.iconst dX0_settle_59 ?_
        refine Y.iremp dX0_settle_60 (by omega) (by omega) (by omega) (by omega) ?_
        refine Y.if_ne 80 dX0_settle_61 (by decide) (by omega) (fun h_61 => ?_) (fun h_61 => ?_)
        · refine Y.iconst dX0_settle_80 ?_
          refine Y.iast dX0_settle_81 (iaA2 hb) (by omega) (by omega) ?_
          refine Y.iinc dX0_settle_82 rfl (by decide) rfl ?_
          refine Y.goto 47 dX0_settle_85 (by decide) ?_
          exact ih2 _ _ ⟨by omega, by omega, k3.up (by omega) (by omega), by rw [zu_nc (by omega)]; exact k4, by rw [zu_nc (by omega)]; exact k5, fun y a c => by rw [zu_nc (by omega)]; exact k6 y a c, fun y a c => if q : y = x then by rw [q, zu_eq]; unfold l0; first | (rw [if_pos (by omega)]; exact e4) | rw [if_neg (by omega)] else by rw [zu_ne q]; exact k7 y a (by omega)⟩ (by omega)
        · refine Y.aload_n dX0_settle_64 rfl ?_
          refine Y.getf dX0_settle_65 flX0_45 (obA hb) rfl ?_
          refine Y.getf dX0_settle_68 flX0_63 ob1 rfl ?_
          refine Y.iconst dX0_settle_71 ?_
          refine Y.aald dX0_settle_72 ra2 (by decide) (by decide) (by decide) rfl ?_
          refine Y.iload_n dX0_settle_73 rfl ?_
          refine Y.iconst dX0_settle_74 ?_
          refine Y.idivp dX0_settle_75 (by omega) (by omega) (by omega) (by omega) ?_
          refine Y.iald dX0_settle_76 ia4 (by omega) (by omega) ?_
          refine Y.goto 81 dX0_settle_77 (by decide) ?_
          refine Y.iast dX0_settle_81 (iaA2 hb) (by omega) (by omega) ?_
          refine Y.iinc dX0_settle_82 rfl (by decide) rfl ?_
          refine Y.goto 47 dX0_settle_85 (by decide) ?_
          exact ih2 _ _ ⟨by omega, by omega, k3.up (by omega) (by omega), by rw [zu_nc (by omega)]; exact k4, by rw [zu_nc (by omega)]; exact k5, fun y a c => by rw [zu_nc (by omega)]; exact k6 y a c, fun y a c => if q : y = x then by rw [q, zu_eq]; unfold l0; first | (rw [if_pos (by omega)]; exact e4) | rw [if_neg (by omega)] else by rw [zu_ne q]; exact k7 y a (by omega)⟩ (by omega)
    · refine Y.aload_n dX0_settle_25 rfl ?_
      refine Y.getf dX0_settle_26 flX0_9 (obA hb) rfl ?_
      refine Y.iload_n dX0_settle_29 rfl ?_
      refine Y.aload_n dX0_settle_30 rfl ?_
      refine Y.getf dX0_settle_31 flX0_45 (obA hb) rfl ?_
      refine Y.iload_n dX0_settle_34 rfl ?_
      refine Y.cVI dX0_settle_35 mkX2_periodOf csX0_57 ob1 ⟨_, rfl, rfl⟩ (k_X2_periodOf ec1 hp (by omega) (by omega)) (by omega) rfl rfl (Nat.le_of_ble_eq_true rfl) ?_
      refine Y.iast dX0_settle_38 (iaA1 hb) (by omega) (by omega) ?_
      refine Y.iinc dX0_settle_39 rfl (by decide) rfl ?_
      refine Y.goto 20 dX0_settle_42 (by decide) ?_
      exact ih _ _ ⟨by omega, by omega, j3.up (by omega) (by omega), by rw [zu_nc (by omega)]; exact j4, by rw [zu_nc (by omega)]; exact j5, fun y a c => if q : y = i then by rw [q, zu_eq] else by rw [zu_ne q]; exact j6 y a (by omega)⟩ (by omega)
  · exact Y.vret dX0_settle_7 rfl (hP _ _ ⟨rfl, zFA.rf, by omega, hst (by omega)⟩)
def xFl (σ t : zS) : Prop := ∀ (c : Nat) (i : Int), ¬ (c = 67 ∧ (i = 15 ∨ i = 16)) → t.2 c i = σ.2 c i
def zFN (σ t : zS) : Prop := xFl σ t ∧ (∀ c : Nat, c ≠ 67 → (c < 84 ∨ 87 < c) → t.1 c = σ.1 c) ∧ ∀ i : Int, (i < 19 ∨ 22 < i) → t.1 67 i = σ.1 67 i
theorem zFN.rf {σ : zS} : zFN σ σ := ⟨fun _ _ _ => rfl, fun _ _ _ => rfl, fun _ _ => rfl⟩
theorem zFN.t2 {σ t s : zS} (h : zFN σ t) (h2 : zF2 t s) : zFN σ s := ⟨fun c i q => (h2.2 c i q).trans (h.1 c i q), by rw [h2.1]; exact h.2.1, by rw [h2.1]; exact h.2.2⟩
theorem zFN.tm {σ t s : zS} (h : zFN σ t) (h2 : zFm t s) : zFN σ s := ⟨fun c i q => by rw [h2.1]; exact h.1 c i q, fun c q1 q2 => (h2.2.1 c q1).trans (h.2.1 c q1 q2), fun i q => (h2.2.2 i q).trans (h.2.2 i q)⟩
theorem zFN.up {σ t : zS} {c : Nat} {i v : Int} (h : zFN σ t) (h0 : 84 ≤ c) (h1 : c ≤ 87) : zFN σ (zu t c i v) :=
  ⟨h.1, fun e q1 q2 => by rw [zu_nc (by omega)]; exact h.2.1 e q1 q2, fun j hj => by rw [zu_nc (by omega)]; exact h.2.2 j hj⟩
def MV (t : zS) (p : zP) (l : Int → Int) (n : Int) : Prop := ∀ y : Int, 0 ≤ y → y < n → th p y → t.1 84 y = (bv p l y).1 ∧ t.1 85 y = (bv p l y).2.1 ∧ t.1 86 y = (bv p l y).2.2.1 ∧ t.1 87 y = (bv p l y).2.2.2
theorem MV.fr {t s : zS} {p : zP} {l : Int → Int} {n : Int} (h : MV t p l n) (hf : ∀ c : Nat, 84 ≤ c → c ≤ 87 → s.1 c = t.1 c) : MV s p l n := by
  unfold MV
  rw [hf _ (by omega) (by omega), hf _ (by omega) (by omega), hf _ (by omega) (by omega), hf _ (by omega) (by omega)]
  exact h
theorem MV.put {t : zS} {p : zP} {l : Int → Int} {x : Int} {v : aA} (h : MV t p l x) (hv : fnd p l ALL x = some v) : MV (zu (zu (zu (zu t 84 x v.1) 85 x v.2.1) 86 x v.2.2.1) 87 x v.2.2.2) p l (x + 1) := by
  have e : bv p l x = v := by unfold bv; rw [hv]; rfl
  intro y a c d
  by_cases q : y = x
  · subst q
    rw [e]
    exact ⟨by rw [zu_nc (by omega), zu_nc (by omega), zu_nc (by omega), zu_eq], by rw [zu_nc (by omega), zu_nc (by omega), zu_eq], by rw [zu_nc (by omega), zu_eq], by rw [zu_eq]⟩
  · obtain ⟨h1, h2, h3, h4⟩ := h y a (by omega) d
    exact ⟨by rw [zu_nc (by omega), zu_nc (by omega), zu_nc (by omega), zu_ne q]; exact h1, by rw [zu_nc (by omega), zu_nc (by omega), zu_ne q, zu_nc (by omega)]; exact h2, by rw [zu_nc (by omega), zu_ne q, zu_nc (by omega), zu_nc (by omega)]; exact h3, by rw [zu_ne q, zu_nc (by omega), zu_nc (by omega), zu_nc (by omega)]; exact h4⟩
def PK (t : zS) : Prop := ∀ i : Int, 0 ≤ i → i < 3 → t.1 83 i = -2
/-- the model's answers are settled for the plan -/
def MS (s : zS) (p : zP) : Prop := (SR p = none ∧ s.1 67 27 = 0) ∨ ∃ (r : Int) (l : Int → Int), SR p = some (r, l) ∧ s.1 67 27 = 1 ∧ s.1 67 28 = r ∧ MA s p l ∧ MV s p l 9
def zFS (σ t : zS) : Prop := xFl σ t ∧ (∀ c : Nat, c ≠ 67 → (c < 82 ∨ 87 < c) → t.1 c = σ.1 c) ∧ ∀ i : Int, (i < 19 ∨ (22 < i ∧ i < 27) ∨ 28 < i) → t.1 67 i = σ.1 67 i
theorem zFS.tn {σ t s : zS} (h : zFS σ t) (h2 : zFN t s) : zFS σ s := ⟨fun c i q => (h2.1 c i q).trans (h.1 c i q), fun c q1 q2 => (h2.2.1 c q1 (by omega)).trans (h.2.1 c q1 q2), fun i q => (h2.2.2 i (by omega)).trans (h.2.2 i q)⟩
theorem zFS.up {σ t : zS} {c : Nat} {i v : Int} (h : zFS σ t) (h0 : 82 ≤ c) (h1 : c ≤ 87) : zFS σ (zu t c i v) :=
  ⟨h.1, fun e q1 q2 => by rw [zu_nc (by omega)]; exact h.2.1 e q1 q2, fun j hj => by rw [zu_nc (by omega)]; exact h.2.2 j hj⟩
theorem zFS.us {σ t : zS} {i v : Int} (h : zFS σ t) (hi : i = 27 ∨ i = 28) : zFS σ (zu t 67 i v) :=
  ⟨h.1, fun e q1 q2 => by rw [zu_nc q1]; exact h.2.1 e q1 q2, fun j hj => by rw [zu_ne (by omega)]; exact h.2.2 j hj⟩
theorem zFS.mp {σ t : zS} (h : zFS σ t) : mP t = mP σ := mP_c (fun c a e => h.2.1 c (by omega) (by omega))
theorem zFS.tr9 {σ t s : zS} (h : zFS σ t) (h2 : s.2 = t.2 ∧ ∀ c : Nat, c ≠ 82 → s.1 c = t.1 c) : zFS σ s := ⟨fun c i q => by rw [h2.1]; exact h.1 c i q, fun c q1 q2 => by rw [h2.2 c (by omega)]; exact h.2.1 c q1 q2, fun i q => by rw [h2.2 67 (by omega)]; exact h.2.2 i q⟩
theorem chc {p : zP} {l : Int → Int} {x ch : Int} (h0 : 0 ≤ x) (h : ch = zb (chx p l x)) (h1 : ch = 1) : (1 : Int) = zb (chx p l (x + 1)) := by
  obtain ⟨y, a, c, e⟩ := zb_1.mp (h.symm.trans h1)
  exact (zb_t ⟨y, a, by omega, e⟩).symm
end ZG7
