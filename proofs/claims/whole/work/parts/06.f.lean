section ZR6
variable {σ : zS}
def FRr (σ s : zS) : Prop := s.2 = σ.2 ∧ (∀ c : Nat, c ≠ 67 → (c < 88 ∨ 93 < c) → s.1 c = σ.1 c) ∧ ∀ i : Int, i ≠ 35 → s.1 67 i = σ.1 67 i
theorem FRr.up {σ t : zS} {c : Nat} {i v : Int} (h : FRr σ t) (h0 : 88 ≤ c) (h1 : c ≤ 93) : FRr σ (zu t c i v) := ⟨h.1, fun e q1 q2 => by rw [zu_nc (by omega)]; exact h.2.1 e q1 q2, fun j q => by rw [zu_nc (by omega)]; exact h.2.2 j q⟩
theorem FRr.fin {σ t : zS} {p : zP} {x n a : Int} (h : FRr σ t) : FRr σ (finM p x n a t) := ⟨by rw [finM_l]; exact h.1, fun e q1 q2 => by rw [finM_o (by omega)]; exact h.2.1 e q1 q2, fun j q => by rw [finM_o (by omega)]; exact h.2.2 j q⟩
theorem FRr.mk1 {σ t : zS} {p : zP} {x n a : Int} (h : FRr σ t) : FRr σ (mtk p x n a t) := by
  unfold mtk
  split
  · exact (h.up (by omega) (by omega)).fin
  · exact h.up (by omega) (by omega)
theorem FRr.mk2 {σ t g : zS} {p : zP} {m a : Int} (h : FRr σ t) : FRr σ (mt1 p g m a t) := by
  unfold mt1
  split
  · exact h
  · exact h.mk1
def RR (g s : zS) (h : Int) : Prop := s.1 67 35 = h ∧ (∀ x : Int, 0 ≤ x → x < 9 → s.1 90 x = g.1 43 x ∧ s.1 91 x = g.1 44 x ∧ s.1 92 x = g.1 45 x) ∧ ∀ w : Nat, w < 2 → ∀ t : Int, 0 ≤ t → t < h → s.1 93 (300 * (w : Int) + t) = g.1 (41 + w) t
theorem mtk_93 {t : zS} {p : zP} {x n a : Int} : (mtk p x n a t).1 93 = t.1 93 := by
  unfold mtk
  split
  · rw [finM_o (by omega), zu_nc (by omega)]
  · rw [zu_nc (by omega)]
theorem mt1_93 {t g : zS} {p : zP} {m a : Int} : (mt1 p g m a t).1 93 = t.1 93 := by
  unfold mt1
  split
  · rfl
  · exact mtk_93
theorem MRa.init {p : zP} (hp : WP p) {h : Int} {g s : zS} (hB : BG p s 9) : MRa p (rst p h g) s 0 := by
  have z45 : ∀ y : Int, 0 ≤ y → y < 9 → (rst p h g).1 45 y = 0 := fun y a c => by unfold rst; rw [zu_nc (by omega), zu_nc (by omega), zu_nc (by omega), zu_nc (by omega)]; unfold clr; rw [zf_nc (by omega), zf_in a c]
  have z46 : ∀ y : Int, 0 ≤ y → y < 9 → (rst p h g).1 46 y = 0 := fun y a c => by unfold rst; rw [zu_nc (by omega), zu_nc (by omega), zu_nc (by omega), zu_nc (by omega)]; unfold clr; rw [zf_in a c]
  have z44 : ∀ y : Int, 0 ≤ y → y < 9 → (rst p h g).1 44 y = -1 := fun y a c => by unfold rst; rw [zu_nc (by omega), zu_nc (by omega), zu_nc (by omega), zu_nc (by omega)]; unfold clr; rw [zf_nc (by omega), zf_nc (by omega), zf_in a c]
  have z43 : ∀ y : Int, 0 ≤ y → y < 9 → (rst p h g).1 43 y = -1 := fun y a c => by unfold rst; rw [zu_nc (by omega), zu_nc (by omega), zu_nc (by omega), zu_nc (by omega)]; unfold clr; rw [zf_nc (by omega), zf_nc (by omega), zf_nc (by omega), zf_in a c]
  have z57 : ∀ i : Int, 0 ≤ i → i < 3 → (rst p h g).1 57 i = rdy p i 0 := fun i a c => by
    unfold rst
    rcases (show i = 0 ∨ i = 1 ∨ i = 2 by omega) with rfl | rfl | rfl
    · rw [zu_ne (by omega), zu_ne (by omega), zu_eq]
    · rw [zu_ne (by omega), zu_eq]
    · rw [zu_eq]
  refine ⟨fun y a1 a2 => ?_, fun y a1 a2 a3 => ?_, fun y n a1 a2 a3 a4 a5 => ?_, fun y a1 a2 a3 a4 => ?_, fun y n a1 a2 a3 a4 a5 a6 => ?_, fun y a1 a2 a3 a4 => ?_, fun y n a1 a2 a3 a4 a5 a6 => ?_, fun y n m a1 a2 a3 a4 a5 a6 => ?_, fun y n a1 a2 a3 a4 a5 => ?_⟩
  · obtain ⟨⟨b1, b2, b3⟩, b4⟩ := hB y a1 a2
    rw [z43 y a1 a2, z44 y a1 a2, z45 y a1 a2]; exact ⟨b1, b2, b3⟩
  · rw [z45 y a1 a2, z46 y a1 a2]
    have := hp.2.2 y a1 a2 a3
    omega
  · rw [z45 y a1 a2, z46 y a1 a2, ((hB y a1 a2).2 n a4 a5).2.2, if_neg (by omega)]
    split <;> rfl
  · rw [z45 y a1 a2, z57 _ (by omega) (by omega)]; rfl
  · exact ((hB y a1 a2).2 n a5 a6).1 a4 a3
  · rw [z45 y a1 a2, z45 (y - 1) (by omega) (by omega)]; exact Int.le_refl _
  · rw [z45 (y - 1) (by omega) (by omega), if_neg (by omega)]
    exact ((hB y a1 a2).2 n a5 a6).2.1 (fun z => a4 z.1)
  · rw [z45 y a1 a2] at a6; omega
  · rw [z45 y a1 a2] at a5; omega
theorem tka_41 {p : zP} {g : zS} {t : Int} : (∀ y : Int, (tka p g t).1 41 y = if y = t then ug p g 0 t 9 else g.1 41 y) ∧ ∀ y : Int, (tka p g t).1 42 y = if y = t then ug p (ntk p g 0 t) 1 t 9 else g.1 42 y := by
  have d0 := ntk_d (p := p) (g := g) (w := 0) (t := t) (by omega)
  have d1 := ntk_d (p := p) (g := ntk p g ((0 : Nat) : Int) t) (w := 1) (t := t) (by omega)
  have e0 := ntk_e (p := p) (g := ntk p g ((0 : Nat) : Int) t) (w := 1) (v := 0) (t := t) (by omega) (by omega) (by omega)
  have e1 := ntk_e (p := p) (g := g) (w := 0) (v := 1) (t := t) (by omega) (by omega) (by omega)
  constructor
  · intro y
    show (ntk p (ntk p g ((0 : Nat) : Int) t) ((1 : Nat) : Int) t).1 (41 + 0) y = _
    rw [e0.1, d0]
    by_cases q : y = t
    · rw [if_pos q, q, zu_eq]; rfl
    · rw [if_neg q, zu_ne q]
  · intro y
    show (ntk p (ntk p g ((0 : Nat) : Int) t) ((1 : Nat) : Int) t).1 (41 + 1) y = _
    rw [d1]
    by_cases q : y = t
    · rw [if_pos q, q, zu_eq]; rfl
    · rw [if_neg q, zu_ne q, e1.1]
set_option maxHeartbeats 8000000 in
theorem c_X5_run {p : zP} (ec : mP σ = p) (hp : WP p) {h : Int} (hh : zB h) (g0 : zS) : YC 3 μX5_run [.ref 67, .int (zi h)] σ (fun r s => (1 ≤ h ∧ h ≤ 300 ∧ r = some (.int (zi ((crun p h g0).1 38 1))) ∧ FRr σ s ∧ RR (crun p h g0) s h) ∨ (¬ (1 ≤ h ∧ h ≤ 300) ∧ r = some (.int (zi (-2))) ∧ s = σ)) := by
  refine YC.of2 (by decide) (Nat.le_of_ble_eq_true rfl) (fun d P hd hP => ?_)
  refine Y.iload_n dX5_run_0 rfl ?_
  refine Y.i2l dX5_run_1 (by omega) ?_
  refine Y.lconst 1 dX5_run_2 rfl ?_
  refine Y.ldc2 (300) dX5_run_3 kX5_303 ?_
  refine Y.cSI dX5_run_6 mkX5_in csX5_89 (c_X5_in (by omega) (by omega) (by omega)) (by omega) rfl rfl (Nat.le_of_ble_eq_true rfl) ?_
  refine Y.ifz_ne 15 dX5_run_9 (by decide) (fun h_9 => ?_) (fun h_9 => ?_)
  · refine Y.aload_n dX5_run_15 rfl ?_
    refine Y.callV dX5_run_16 mkX5_begins csX5_305 ob67 ⟨_, rfl, rfl⟩ (c_X5_begins ec hp) (by omega) rfl rfl (Nat.le_of_ble_eq_true rfl) (fun r_16 s_16 p_16 => ?_)
    obtain ⟨rfl, f_16, g_16⟩ := p_16
    refine Y.aload_n dX5_run_19 rfl ?_
    refine Y.iload_n dX5_run_20 rfl ?_
    refine Y.putf 35 dX5_run_21 fpX5_308 ob67 os67_35 (Nat.le_of_ble_eq_true rfl) (Or.inl rfl) rfl ?_
    refine Y.iconst dX5_run_24 ?_
    refine Y.istore_n dX5_run_25 (by decide) rfl ?_
    refine zw2 (fun u t => (0 ≤ t ∧ t ≤ h ∧ MRa p (rnN p (rst p h g0) (t - 0).toNat) u t ∧ (∀ w : Nat, w < 2 → ∀ y : Int, 0 ≤ y → y < t → u.1 93 (300 * (w : Int) + y) = (rnN p (rst p h g0) (t - 0).toNat).1 (41 + w) y) ∧ FRr σ u ∧ u.1 67 35 = h)) (fun u t => Y d μX5_run 26 [some (.ref 67), some (.int (zi h)), some (.int (zi t)), none, none] [] u P) (fun u t => (h - t).toNat) ?_ _ _ ⟨by omega, by omega, (MRa.init hp g_16).tau (fun c a e => zu_nc (by omega)), fun w hw y a c => by omega, ⟨f_16.1, fun c q1 q2 => by rw [zu_nc (by omega)]; exact f_16.2 c (by omega), fun i q => by rw [zu_ne q, f_16.2 67 (by omega)]⟩, by rw [zu_eq]⟩
    intro u t hI ih
    obtain ⟨t0, t1, hM, hT, hF, hR35⟩ := hI
    have ecu : mP u = p := (mP_c (fun c a e => hF.2.1 c (by omega) (by omega))).trans ec
    refine Y.iload_n dX5_run_26 rfl ?_
    refine Y.iload_n dX5_run_27 rfl ?_
    refine Y.icmp_ge 194 dX5_run_28 (by decide) (by omega) (by omega) (fun h_28 => ?_) (fun h_28 => ?_)
    · refine Y.aload_n dX5_run_194 rfl ?_
      refine Y.cVI dX5_run_195 mkX5_endedNow csX5_318 ob67 ⟨_, rfl, rfl⟩ c_X5_endedNow (by omega) rfl rfl (Nat.le_of_ble_eq_true rfl) ?_
      exact Y.iret dX5_run_198 rfl (hP _ _ (Or.inl ⟨by omega, by omega, zrI (by
            rw [show t = h by omega] at hM
            have hgs := (rnN_g (σ := g0) (p := p) (h := h) (h - 0).toNat (by omega)).2.2.1
            show _ = (rnN p (rst p h g0) (h - 0).toNat).1 38 1
            rw [hgs]
            exact sm_c 9 (fun i a c => (hM.1 i a (by omega)).2.2)), hF, hR35, fun x a c => by rw [show t = h by omega] at hM; exact hM.1 x a c, fun w hw y a c => by rw [show t = h by omega] at hT; exact hT w hw y a c⟩))
    · refine Y.aload_n dX5_run_31 rfl ?_
      refine Y.iconst dX5_run_32 ?_
      refine Y.iload_n dX5_run_33 rfl ?_
      refine Y.cVI dX5_run_34 mkX5_does csX5_311 ob67 ⟨_, rfl, rfl⟩ (c_X5_does ecu hp hM (by omega) ⟨by omega, by omega⟩ t0 (by omega)) (by omega) rfl rfl (Nat.le_of_ble_eq_true rfl) ?_
      refine Y.istore_n dX5_run_37 (by decide) rfl ?_
      refine Y.aload_n dX5_run_38 rfl ?_
      refine Y.iconst dX5_run_39 ?_
      refine Y.iload_n dX5_run_40 rfl ?_
      refine Y.cVI dX5_run_41 mkX5_does csX5_311 ob67 ⟨_, rfl, rfl⟩ (c_X5_does ecu hp hM (by omega) ⟨by omega, by omega⟩ t0 (by omega)) (by omega) rfl rfl (Nat.le_of_ble_eq_true rfl) ?_
      refine Y.istore dX5_run_44 (by decide) rfl ?_
      have hok := (rnN_ok (σ := g0) hp (h := h) (t - 0).toNat (by omega)).1
      have hboth : ∀ u1 : zS, MRa p (rnN p (rst p h g0) (t - 0).toNat) u1 t → MRa p (tka p (rnN p (rst p h g0) (t - 0).toNat) t) (mt1 p (rnN p (rst p h g0) (t - 0).toNat) (ug p (rnN p (rst p h g0) (t - 0).toNat) 1 t 9) t (mt1 p (rnN p (rst p h g0) (t - 0).toNat) (ug p (rnN p (rst p h g0) (t - 0).toNat) 0 t 9) t u1)) (t + 1) := fun u1 k => MRa.both hp k t0
      have hr0 := ug_r (p := p) (s := (rnN p (rst p h g0) (t - 0).toNat)) (node := 0) (t := t) 9
      have hr1 := ug_r (p := p) (s := (rnN p (rst p h g0) (t - 0).toNat)) (node := 1) (t := t) 9
      have h41 := tka_41 (p := p) (g := (rnN p (rst p h g0) (t - 0).toNat)) (t := t)
      rw [ug_ntk hp 9 (by omega)] at h41
      have hGs := rnN_s (p := p) (s := rst p h g0) t0
      generalize hm0 : ug p (rnN p (rst p h g0) (t - 0).toNat) 0 t 9 = m0 at hboth hr0 h41 ⊢
      generalize hm1 : ug p (rnN p (rst p h g0) (t - 0).toNat) 1 t 9 = m1 at hboth hr1 h41 ⊢
      generalize hg : (rnN p (rst p h g0) (t - 0).toNat) = g at hok hboth hr0 hr1 h41 hGs hM hT ⊢
      have hx0 : ¬ m0 = -1 → 0 ≤ m0 ∧ m0 < 9 ∧ th p m0 ∧ p 6 m0 = 0 ∧ 0 ≤ g.1 45 m0 ∧ g.1 45 m0 < 60 ∧ u.1 89 (64 * m0 + g.1 45 m0) = g.1 46 m0 ∧ 0 ≤ g.1 46 m0 ∧ g.1 46 m0 < 28 := fun q => by
        obtain ⟨q1, q2, q3, q4, q5⟩ := hr0.resolve_left q
        have q2 : m0 < 9 := q2
        have he := hM.2.1 m0 q1 q2 q3
        have hk := (hp.2.1 m0 q1 q2).2.1
        exact ⟨q1, q2, q3, q4, he.1, q5.1, by rw [hM.2.2.1 m0 _ q1 q2 q3 he.1 (by have := q5.1; omega), if_neg (by omega), if_pos rfl], he.2.2.1, by omega⟩
      have hx1 : ¬ m1 = -1 → 0 ≤ m1 ∧ m1 < 9 ∧ th p m1 ∧ p 6 m1 = 1 ∧ 0 ≤ g.1 45 m1 ∧ g.1 45 m1 < 60 ∧ u.1 89 (64 * m1 + g.1 45 m1) = g.1 46 m1 ∧ 0 ≤ g.1 46 m1 ∧ g.1 46 m1 < 28 := fun q => by
        obtain ⟨q1, q2, q3, q4, q5⟩ := hr1.resolve_left q
        have q2 : m1 < 9 := q2
        have he := hM.2.1 m1 q1 q2 q3
        have hk := (hp.2.1 m1 q1 q2).2.1
        exact ⟨q1, q2, q3, q4, he.1, q5.1, by rw [hM.2.2.1 m1 _ q1 q2 q3 he.1 (by have := q5.1; omega), if_neg (by omega), if_pos rfl], he.2.2.1, by omega⟩
      have hbd : ∀ x : Int, 0 ≤ x → x < 9 → (-20000 ≤ u.1 90 x ∧ u.1 90 x ≤ 20000) ∧ (-20000 ≤ u.1 91 x ∧ u.1 91 x ≤ 20000) := fun x a c => by
        have h1 := hM.1 x a c
        have h2 := hok.1 x a c
        rw [h1.1, h1.2.1]
        exact ⟨h2.2.2.1, h2.2.2.2.1⟩
      obtain ⟨u1, eu1⟩ : ∃ u1, u1 = zu (zu u 93 t m0) 93 (300 + t) m1 := ⟨_, rfl⟩
      have f1 : ∀ c : Nat, c ≠ 93 → u1.1 c = u.1 c := fun c hc => by rw [eu1, zu_nc hc, zu_nc hc]
      have ec1 : mP u1 = p := (mP_c (fun c a e => f1 c (by omega))).trans ecu
      have k188 : ∀ (w : zS) (a b : Option Value), w = mt1 p g m1 t (mt1 p g m0 t u1) → Y d μX5_run 188 [some (.ref 67), some (.int (zi h)), some (.int (zi t)), a, b] [] w P := by
        intro w a b hw
        subst hw
        refine Y.iinc dX5_run_188 rfl (by decide) rfl ?_
        refine Y.goto 26 dX5_run_191 (by decide) ?_
        refine Y.sub (zs_s (zs_s (zs_s (zs_n (zs_n zs_0))))) ?_
        refine ih _ _ ⟨by omega, by omega, ?_, ?_, ?_, ?_⟩ (by omega)
        · rw [hGs]
          exact hboth u1 (hM.tau (fun c a e => f1 c (by omega)))
        · intro w hw y a c
          rw [hGs, mt1_93, mt1_93, eu1]
          rcases (show w = 0 ∨ w = 1 by omega) with rfl | rfl
          · show _ = (tka p g t).1 41 y
            rw [h41.1]
            by_cases q : y = t
            · rw [if_pos q, q, zu_ne (show 300 * ((0 : Nat) : Int) + t ≠ 300 + t by omega), show 300 * ((0 : Nat) : Int) + t = t by omega, zu_eq]
            · rw [if_neg q, zu_ne (show 300 * ((0 : Nat) : Int) + y ≠ 300 + t by omega), zu_ne (show 300 * ((0 : Nat) : Int) + y ≠ t by omega)]
              exact hT 0 (by omega) y a (by omega)
          · show _ = (tka p g t).1 42 y
            rw [h41.2]
            by_cases q : y = t
            · rw [if_pos q, q, show 300 * ((1 : Nat) : Int) + t = 300 + t by omega, zu_eq]
            · rw [if_neg q, zu_ne (show 300 * ((1 : Nat) : Int) + y ≠ 300 + t by omega), zu_ne (show 300 * ((1 : Nat) : Int) + y ≠ t by omega)]
              exact hT 1 (by omega) y a (by omega)
        · rw [eu1]
          exact ((hF.up (by omega) (by omega)).up (by omega) (by omega)).mk2.mk2
        · have e : ∀ v : zS, FRr v (mt1 p g m1 t (mt1 p g m0 t v)) := fun v => (FRr.mk2 (FRr.mk2 ⟨rfl, fun _ _ _ => rfl, fun _ _ => rfl⟩))
          have h2 : (mt1 p g m1 t (mt1 p g m0 t u1)).1 67 35 = u1.1 67 35 := by
            have mm : ∀ (m : Int) (v : zS), (mt1 p g m t v).1 67 = v.1 67 := fun m v => by
              unfold mt1
              split
              · rfl
              · unfold mtk
                split
                · rw [finM_o (by omega), zu_nc (by omega)]
                · rw [zu_nc (by omega)]
            rw [mm, mm]
          rw [h2, f1 67 (by omega)]
          exact hR35
      by_cases q0 : m0 = -1
      · rw [dko_1 q0]
        by_cases q1 : m1 = -1
        · rw [dko_1 q1]
          refine Y.aload_n dX5_run_46 rfl ?_
          refine Y.getf dX5_run_47 flX5_86 ob67 rfl ?_
          refine Y.iload_n dX5_run_50 rfl ?_
          refine Y.iload_n dX5_run_51 rfl ?_
          refine Y.iconst dX5_run_52 ?_
          refine Y.icmp_ne 60 dX5_run_53 (by decide) (by omega) (by omega) (fun h_53 => ?_) (fun h_53 => ?_)
          · exfalso; omega
          refine Y.iconst dX5_run_56 ?_
          refine Y.goto 64 dX5_run_57 (by decide) ?_
          refine Y.iast dX5_run_64 ia93 (by omega) (by omega) ?_
          refine Y.aload_n dX5_run_65 rfl ?_
          refine Y.getf dX5_run_66 flX5_86 ob67 rfl ?_
          refine Y.sipush dX5_run_69 (by decide +kernel) ?_
          refine Y.iload_n dX5_run_72 rfl ?_
          refine Y.iadd dX5_run_73 ?_
          refine Y.iload dX5_run_74 rfl ?_
          refine Y.iconst dX5_run_76 ?_
          refine Y.icmp_ne 84 dX5_run_77 (by decide) (by omega) (by omega) (fun h_77 => ?_) (fun h_77 => ?_)
          · exfalso; omega
          refine Y.iconst dX5_run_80 ?_
          refine Y.goto 89 dX5_run_81 (by decide) ?_
          refine Y.iast dX5_run_89 ia93 (by omega) (by omega) ?_
          rw [show zu (zu u 93 t (-1)) 93 (300 + t) (-1) = u1 by rw [eu1, q0, q1]]
          refine Y.iload_n dX5_run_90 rfl ?_
          refine Y.iconst dX5_run_91 ?_
          refine Y.icmp_eq 105 dX5_run_92 (by decide) (by omega) (by omega) (fun h_92 => ?_) (fun h_92 => ?_)
          rotate_left
          · exfalso; omega
          obtain ⟨u2, eu2⟩ : ∃ u2, u2 = u1 := ⟨_, rfl⟩
          rw [← eu2]
          have f2 : ∀ c : Nat, c ≠ 89 → u2.1 c = u1.1 c := fun c hc => by rw [eu2]
          refine Y.iload dX5_run_105 rfl ?_
          refine Y.iconst dX5_run_107 ?_
          refine Y.icmp_eq 122 dX5_run_108 (by decide) (by omega) (by omega) (fun h_108 => ?_) (fun h_108 => ?_)
          rotate_left
          · exfalso; omega
          obtain ⟨u3, eu3⟩ : ∃ u3, u3 = u2 := ⟨_, rfl⟩
          rw [← eu3]
          have f3 : ∀ c : Nat, c ≠ 89 → u3.1 c = u.1 c ∨ c = 93 := fun c hc => if z : c = 93 then Or.inr z else Or.inl (by rw [eu3, f2 c hc, f1 c z])
          have ec3 : mP u3 = p := (mP_c (fun c a e => (f3 c (by omega)).resolve_right (by omega))).trans ecu
          have e7 : u3.1 79 = p 7 := by rw [← ec3]; rfl
          have b90 : u3.1 90 = u.1 90 := (f3 90 (by omega)).resolve_right (by omega)
          have b91 : u3.1 91 = u.1 91 := (f3 91 (by omega)).resolve_right (by omega)
          refine Y.iload_n dX5_run_122 rfl ?_
          refine Y.iconst dX5_run_123 ?_
          refine Y.icmp_eq 153 dX5_run_124 (by decide) (by omega) (by omega) (fun h_124 => ?_) (fun h_124 => ?_)
          rotate_left
          · exfalso; omega
          obtain ⟨u4, eu4⟩ : ∃ u4, u4 = u3 := ⟨_, rfl⟩
          rw [← eu4]
          have hA : mt1 p g m0 t u1 = u2 := by unfold mt1; rw [if_pos q0, eu2]
          refine Y.iload dX5_run_153 rfl ?_
          refine Y.iconst dX5_run_155 ?_
          refine Y.icmp_eq 188 dX5_run_156 (by decide) (by omega) (by omega) (fun h_156 => ?_) (fun h_156 => ?_)
          rotate_left
          · exfalso; omega
          exact k188 _ _ _ (by rw [hA]; unfold mt1; rw [if_pos q1, eu4, eu3])
        · rw [dko_2 q1]
          obtain ⟨w1, w2, w3, w4, w5, w6, w7, w8, w9⟩ := hx1 q1
          refine Y.aload_n dX5_run_46 rfl ?_
          refine Y.getf dX5_run_47 flX5_86 ob67 rfl ?_
          refine Y.iload_n dX5_run_50 rfl ?_
          refine Y.iload_n dX5_run_51 rfl ?_
          refine Y.iconst dX5_run_52 ?_
          refine Y.icmp_ne 60 dX5_run_53 (by decide) (by omega) (by omega) (fun h_53 => ?_) (fun h_53 => ?_)
          · exfalso; omega
          refine Y.iconst dX5_run_56 ?_
          refine Y.goto 64 dX5_run_57 (by decide) ?_
          refine Y.iast dX5_run_64 ia93 (by omega) (by omega) ?_
          refine Y.aload_n dX5_run_65 rfl ?_
          refine Y.getf dX5_run_66 flX5_86 ob67 rfl ?_
          refine Y.sipush dX5_run_69 (by decide +kernel) ?_
          refine Y.iload_n dX5_run_72 rfl ?_
          refine Y.iadd dX5_run_73 ?_
          refine Y.iload dX5_run_74 rfl ?_
          refine Y.iconst dX5_run_76 ?_
          refine Y.icmp_ne 84 dX5_run_77 (by decide) (by omega) (by omega) (fun h_77 => ?_) (fun h_77 => ?_)
          rotate_left
          · exfalso; omega
          refine Y.iload dX5_run_84 rfl ?_
          refine Y.bipush dX5_run_86 (by decide +kernel) ?_
          refine Y.idivp dX5_run_88 (by omega) (by omega) (by omega) (by omega) ?_
          rw [show (64 * m1 + g.1 45 m1) / 64 = m1 by omega]
          refine Y.iast dX5_run_89 ia93 (by omega) (by omega) ?_
          rw [show zu (zu u 93 t (-1)) 93 (300 + t) m1 = u1 by rw [eu1, q0]]
          refine Y.iload_n dX5_run_90 rfl ?_
          refine Y.iconst dX5_run_91 ?_
          refine Y.icmp_eq 105 dX5_run_92 (by decide) (by omega) (by omega) (fun h_92 => ?_) (fun h_92 => ?_)
          rotate_left
          · exfalso; omega
          obtain ⟨u2, eu2⟩ : ∃ u2, u2 = u1 := ⟨_, rfl⟩
          rw [← eu2]
          have f2 : ∀ c : Nat, c ≠ 89 → u2.1 c = u1.1 c := fun c hc => by rw [eu2]
          refine Y.iload dX5_run_105 rfl ?_
          refine Y.iconst dX5_run_107 ?_
          refine Y.icmp_eq 122 dX5_run_108 (by decide) (by omega) (by omega) (fun h_108 => ?_) (fun h_108 => ?_)
          · exfalso; omega
          refine Y.aload_n dX5_run_111 rfl ?_
          refine Y.getf dX5_run_112 flX5_74 ob67 rfl ?_
          refine Y.iload dX5_run_115 rfl ?_
          refine Y.dup2 dX5_run_117 rfl rfl ?_
          refine Y.iald dX5_run_118 ia89 (by omega) (by omega) ?_
          refine Y.iconst dX5_run_119 ?_
          refine Y.iadd dX5_run_120 ?_
          refine Y.iast dX5_run_121 ia89 (by omega) (by omega) ?_
          obtain ⟨u3, eu3⟩ : ∃ u3, u3 = zu u2 89 (64 * m1 + g.1 45 m1) (u2.1 89 (64 * m1 + g.1 45 m1) + 1) := ⟨_, rfl⟩
          rw [← eu3]
          have f3 : ∀ c : Nat, c ≠ 89 → u3.1 c = u.1 c ∨ c = 93 := fun c hc => if z : c = 93 then Or.inr z else Or.inl (by rw [eu3, zu_nc hc, f2 c hc, f1 c z])
          have ec3 : mP u3 = p := (mP_c (fun c a e => (f3 c (by omega)).resolve_right (by omega))).trans ecu
          have e7 : u3.1 79 = p 7 := by rw [← ec3]; rfl
          have b90 : u3.1 90 = u.1 90 := (f3 90 (by omega)).resolve_right (by omega)
          have b91 : u3.1 91 = u.1 91 := (f3 91 (by omega)).resolve_right (by omega)
          have hbd1 := hbd m1 (by omega) (by omega)
          have d1' : u2.1 89 (64 * m1 + g.1 45 m1) = g.1 46 m1 := by rw [eu2, f1 89 (by omega)]; omega
          have d1 : u3.1 89 (64 * m1 + g.1 45 m1) = g.1 46 m1 + 1 := by rw [eu3, zu_eq, d1']
          refine Y.iload_n dX5_run_122 rfl ?_
          refine Y.iconst dX5_run_123 ?_
          refine Y.icmp_eq 153 dX5_run_124 (by decide) (by omega) (by omega) (fun h_124 => ?_) (fun h_124 => ?_)
          rotate_left
          · exfalso; omega
          obtain ⟨u4, eu4⟩ : ∃ u4, u4 = u3 := ⟨_, rfl⟩
          rw [← eu4]
          have hA : mt1 p g m0 t u1 = u2 := by unfold mt1; rw [if_pos q0, eu2]
          have ec4 : mP u4 = p := (mP_c (fun c a e => by rw [eu4])).trans ec3
          have e74 : u4.1 79 = p 7 := by rw [← ec4]; rfl
          have d14 : u4.1 89 (64 * m1 + g.1 45 m1) = g.1 46 m1 + 1 := by rw [eu4, d1]
          have hpk1 := (hp.2.1 m1 (by omega) (by omega)).2.1
          have g90 : u4.1 90 m1 = u.1 90 m1 := by rw [eu4, b90]
          have g91 : u4.1 91 m1 = u.1 91 m1 := by rw [eu4, b91]
          have e4z : zu u2 89 (64 * m1 + g.1 45 m1) (u2.1 89 (64 * m1 + g.1 45 m1) + 1) = u4 := by rw [← eu3, ← eu4]
          refine Y.iload dX5_run_153 rfl ?_
          refine Y.iconst dX5_run_155 ?_
          refine Y.icmp_eq 188 dX5_run_156 (by decide) (by omega) (by omega) (fun h_156 => ?_) (fun h_156 => ?_)
          · exfalso; omega
          refine Y.aload_n dX5_run_159 rfl ?_
          refine Y.getf dX5_run_160 flX5_74 ob67 rfl ?_
          refine Y.iload dX5_run_163 rfl ?_
          refine Y.iald dX5_run_165 ia89 (by omega) (by omega) ?_
          refine Y.aload_n dX5_run_166 rfl ?_
          refine Y.getf dX5_run_167 flX5_44 ob67 rfl ?_
          refine Y.iload dX5_run_170 rfl ?_
          refine Y.bipush dX5_run_172 (by decide +kernel) ?_
          refine Y.idivp dX5_run_174 (by omega) (by omega) (by omega) (by omega) ?_
          refine Y.iald dX5_run_175 ia79 (by omega) (by omega) ?_
          rw [d14, e74, show (64 * m1 + g.1 45 m1) / 64 = m1 by omega]
          refine Y.icmp_ne 188 dX5_run_176 (by decide) (by omega) (by omega) (fun h_176 => ?_) (fun h_176 => ?_)
          · exact k188 _ _ _ (by rw [hA]; unfold mt1; rw [if_neg q1]; unfold mtk; first | (rw [if_pos (by rw [d1']; omega), e4z]; done) | (rw [if_neg (by rw [d1']; omega), e4z]; done))
          · refine Y.aload_n dX5_run_179 rfl ?_
            refine Y.iload dX5_run_180 rfl ?_
            refine Y.iload_n dX5_run_182 rfl ?_
            refine Y.iconst dX5_run_183 ?_
            refine Y.iadd dX5_run_184 ?_
            refine Y.cVV dX5_run_185 mkX5_ends csX5_314 ob67 ⟨_, rfl, rfl⟩ (c_X5_ends ec4 hp (by omega) (by omega) (by omega) (by omega) (by omega) (by omega) (by rw [g90]; exact hbd1.1) (by rw [g91]; exact hbd1.2)) (by omega) rfl rfl (Nat.le_of_ble_eq_true rfl) ?_
            exact k188 _ _ _ (by rw [hA]; unfold mt1; rw [if_neg q1]; unfold mtk; first | (rw [if_pos (by rw [d1']; omega), e4z]; done) | (rw [if_neg (by rw [d1']; omega), e4z]; done))
      · rw [dko_2 q0]
        obtain ⟨v1, v2, v3, v4, v5, v6, v7, v8, v9⟩ := hx0 q0
        by_cases q1 : m1 = -1
        · rw [dko_1 q1]
          refine Y.aload_n dX5_run_46 rfl ?_
          refine Y.getf dX5_run_47 flX5_86 ob67 rfl ?_
          refine Y.iload_n dX5_run_50 rfl ?_
          refine Y.iload_n dX5_run_51 rfl ?_
          refine Y.iconst dX5_run_52 ?_
          refine Y.icmp_ne 60 dX5_run_53 (by decide) (by omega) (by omega) (fun h_53 => ?_) (fun h_53 => ?_)
          rotate_left
          · exfalso; omega
          refine Y.iload_n dX5_run_60 rfl ?_
          refine Y.bipush dX5_run_61 (by decide +kernel) ?_
          refine Y.idivp dX5_run_63 (by omega) (by omega) (by omega) (by omega) ?_
          rw [show (64 * m0 + g.1 45 m0) / 64 = m0 by omega]
          refine Y.iast dX5_run_64 ia93 (by omega) (by omega) ?_
          refine Y.aload_n dX5_run_65 rfl ?_
          refine Y.getf dX5_run_66 flX5_86 ob67 rfl ?_
          refine Y.sipush dX5_run_69 (by decide +kernel) ?_
          refine Y.iload_n dX5_run_72 rfl ?_
          refine Y.iadd dX5_run_73 ?_
          refine Y.iload dX5_run_74 rfl ?_
          refine Y.iconst dX5_run_76 ?_
          refine Y.icmp_ne 84 dX5_run_77 (by decide) (by omega) (by omega) (fun h_77 => ?_) (fun h_77 => ?_)
          · exfalso; omega
          refine Y.iconst dX5_run_80 ?_
          refine Y.goto 89 dX5_run_81 (by decide) ?_
          refine Y.iast dX5_run_89 ia93 (by omega) (by omega) ?_
          rw [show zu (zu u 93 t m0) 93 (300 + t) (-1) = u1 by rw [eu1, q1]]
          refine Y.iload_n dX5_run_90 rfl ?_
          refine Y.iconst dX5_run_91 ?_
          refine Y.icmp_eq 105 dX5_run_92 (by decide) (by omega) (by omega) (fun h_92 => ?_) (fun h_92 => ?_)
          · exfalso; omega
          refine Y.aload_n dX5_run_95 rfl ?_
          refine Y.getf dX5_run_96 flX5_74 ob67 rfl ?_
          refine Y.iload_n dX5_run_99 rfl ?_
          refine Y.dup2 dX5_run_100 rfl rfl ?_
          refine Y.iald dX5_run_101 ia89 (by omega) (by omega) ?_
          refine Y.iconst dX5_run_102 ?_
          refine Y.iadd dX5_run_103 ?_
          refine Y.iast dX5_run_104 ia89 (by omega) (by omega) ?_
          obtain ⟨u2, eu2⟩ : ∃ u2, u2 = zu u1 89 (64 * m0 + g.1 45 m0) (u1.1 89 (64 * m0 + g.1 45 m0) + 1) := ⟨_, rfl⟩
          rw [← eu2]
          have f2 : ∀ c : Nat, c ≠ 89 → u2.1 c = u1.1 c := fun c hc => by rw [eu2, zu_nc hc]
          refine Y.iload dX5_run_105 rfl ?_
          refine Y.iconst dX5_run_107 ?_
          refine Y.icmp_eq 122 dX5_run_108 (by decide) (by omega) (by omega) (fun h_108 => ?_) (fun h_108 => ?_)
          rotate_left
          · exfalso; omega
          obtain ⟨u3, eu3⟩ : ∃ u3, u3 = u2 := ⟨_, rfl⟩
          rw [← eu3]
          have f3 : ∀ c : Nat, c ≠ 89 → u3.1 c = u.1 c ∨ c = 93 := fun c hc => if z : c = 93 then Or.inr z else Or.inl (by rw [eu3, f2 c hc, f1 c z])
          have ec3 : mP u3 = p := (mP_c (fun c a e => (f3 c (by omega)).resolve_right (by omega))).trans ecu
          have e7 : u3.1 79 = p 7 := by rw [← ec3]; rfl
          have b90 : u3.1 90 = u.1 90 := (f3 90 (by omega)).resolve_right (by omega)
          have b91 : u3.1 91 = u.1 91 := (f3 91 (by omega)).resolve_right (by omega)
          have hbd0 := hbd m0 (by omega) (by omega)
          have d0 : u3.1 89 (64 * m0 + g.1 45 m0) = g.1 46 m0 + 1 := by rw [eu3, eu2, zu_eq, f1 89 (by omega)]; omega
          have d0' : u1.1 89 (64 * m0 + g.1 45 m0) = g.1 46 m0 := by rw [f1 89 (by omega)]; omega
          refine Y.iload_n dX5_run_122 rfl ?_
          refine Y.iconst dX5_run_123 ?_
          refine Y.icmp_eq 153 dX5_run_124 (by decide) (by omega) (by omega) (fun h_124 => ?_) (fun h_124 => ?_)
          · exfalso; omega
          refine Y.aload_n dX5_run_127 rfl ?_
          refine Y.getf dX5_run_128 flX5_74 ob67 rfl ?_
          refine Y.iload_n dX5_run_131 rfl ?_
          refine Y.iald dX5_run_132 ia89 (by omega) (by omega) ?_
          refine Y.aload_n dX5_run_133 rfl ?_
          refine Y.getf dX5_run_134 flX5_44 ob67 rfl ?_
          refine Y.iload_n dX5_run_137 rfl ?_
          refine Y.bipush dX5_run_138 (by decide +kernel) ?_
          refine Y.idivp dX5_run_140 (by omega) (by omega) (by omega) (by omega) ?_
          refine Y.iald dX5_run_141 ia79 (by omega) (by omega) ?_
          rw [d0, e7, show (64 * m0 + g.1 45 m0) / 64 = m0 by omega]
          have hpk0 := (hp.2.1 m0 (by omega) (by omega)).2.1
          refine Y.icmp_ne 153 dX5_run_142 (by decide) (by omega) (by omega) (fun h_142 => ?_) (fun h_142 => ?_)
          · obtain ⟨u4, eu4⟩ : ∃ u4, u4 = u3 := ⟨_, rfl⟩
            rw [← eu4]
            have hA : mt1 p g m0 t u1 = u2 := by unfold mt1; rw [if_neg q0]; unfold mtk; rw [if_neg (by rw [d0']; omega), eu2]
            refine Y.iload dX5_run_153 rfl ?_
            refine Y.iconst dX5_run_155 ?_
            refine Y.icmp_eq 188 dX5_run_156 (by decide) (by omega) (by omega) (fun h_156 => ?_) (fun h_156 => ?_)
            rotate_left
            · exfalso; omega
            exact k188 _ _ _ (by rw [hA]; unfold mt1; rw [if_pos q1, eu4, eu3])
          · refine Y.aload_n dX5_run_145 rfl ?_
            refine Y.iload_n dX5_run_146 rfl ?_
            refine Y.iload_n dX5_run_147 rfl ?_
            refine Y.iconst dX5_run_148 ?_
            refine Y.iadd dX5_run_149 ?_
            refine Y.cVV dX5_run_150 mkX5_ends csX5_314 ob67 ⟨_, rfl, rfl⟩ (c_X5_ends ec3 hp (by omega) (by omega) (by omega) (by omega) (by omega) (by omega) (by rw [b90]; exact hbd0.1) (by rw [b91]; exact hbd0.2)) (by omega) rfl rfl (Nat.le_of_ble_eq_true rfl) ?_
            obtain ⟨u4, eu4⟩ : ∃ u4, u4 = finM p m0 (g.1 45 m0) (t + 1) u3 := ⟨_, rfl⟩
            rw [← eu4]
            have hA : mt1 p g m0 t u1 = finM p m0 (g.1 45 m0) (t + 1) u2 := by unfold mt1; rw [if_neg q0]; unfold mtk; rw [if_pos (by rw [d0']; omega), eu2]
            refine Y.iload dX5_run_153 rfl ?_
            refine Y.iconst dX5_run_155 ?_
            refine Y.icmp_eq 188 dX5_run_156 (by decide) (by omega) (by omega) (fun h_156 => ?_) (fun h_156 => ?_)
            rotate_left
            · exfalso; omega
            exact k188 _ _ _ (by rw [hA]; unfold mt1; rw [if_pos q1, eu4, eu3])
        · rw [dko_2 q1]
          obtain ⟨w1, w2, w3, w4, w5, w6, w7, w8, w9⟩ := hx1 q1
          have hne : m0 ≠ m1 := fun z => by rw [z] at v4; omega
          refine Y.aload_n dX5_run_46 rfl ?_
          refine Y.getf dX5_run_47 flX5_86 ob67 rfl ?_
          refine Y.iload_n dX5_run_50 rfl ?_
          refine Y.iload_n dX5_run_51 rfl ?_
          refine Y.iconst dX5_run_52 ?_
          refine Y.icmp_ne 60 dX5_run_53 (by decide) (by omega) (by omega) (fun h_53 => ?_) (fun h_53 => ?_)
          rotate_left
          · exfalso; omega
          refine Y.iload_n dX5_run_60 rfl ?_
          refine Y.bipush dX5_run_61 (by decide +kernel) ?_
          refine Y.idivp dX5_run_63 (by omega) (by omega) (by omega) (by omega) ?_
          rw [show (64 * m0 + g.1 45 m0) / 64 = m0 by omega]
          refine Y.iast dX5_run_64 ia93 (by omega) (by omega) ?_
          refine Y.aload_n dX5_run_65 rfl ?_
          refine Y.getf dX5_run_66 flX5_86 ob67 rfl ?_
          refine Y.sipush dX5_run_69 (by decide +kernel) ?_
          refine Y.iload_n dX5_run_72 rfl ?_
          refine Y.iadd dX5_run_73 ?_
          refine Y.iload dX5_run_74 rfl ?_
          refine Y.iconst dX5_run_76 ?_
          refine Y.icmp_ne 84 dX5_run_77 (by decide) (by omega) (by omega) (fun h_77 => ?_) (fun h_77 => ?_)
          rotate_left
          · exfalso; omega
          refine Y.iload dX5_run_84 rfl ?_
          refine Y.bipush dX5_run_86 (by decide +kernel) ?_
          refine Y.idivp dX5_run_88 (by omega) (by omega) (by omega) (by omega) ?_
          rw [show (64 * m1 + g.1 45 m1) / 64 = m1 by omega]
          refine Y.iast dX5_run_89 ia93 (by omega) (by omega) ?_
          rw [← eu1]
          refine Y.iload_n dX5_run_90 rfl ?_
          refine Y.iconst dX5_run_91 ?_
          refine Y.icmp_eq 105 dX5_run_92 (by decide) (by omega) (by omega) (fun h_92 => ?_) (fun h_92 => ?_)
          · exfalso; omega
          refine Y.aload_n dX5_run_95 rfl ?_
          refine Y.getf dX5_run_96 flX5_74 ob67 rfl ?_
          refine Y.iload_n dX5_run_99 rfl ?_
          refine Y.dup2 dX5_run_100 rfl rfl ?_
          refine Y.iald dX5_run_101 ia89 (by omega) (by omega) ?_
          refine Y.iconst dX5_run_102 ?_
          refine Y.iadd dX5_run_103 ?_
          refine Y.iast dX5_run_104 ia89 (by omega) (by omega) ?_
          obtain ⟨u2, eu2⟩ : ∃ u2, u2 = zu u1 89 (64 * m0 + g.1 45 m0) (u1.1 89 (64 * m0 + g.1 45 m0) + 1) := ⟨_, rfl⟩
          rw [← eu2]
          have f2 : ∀ c : Nat, c ≠ 89 → u2.1 c = u1.1 c := fun c hc => by rw [eu2, zu_nc hc]
          refine Y.iload dX5_run_105 rfl ?_
          refine Y.iconst dX5_run_107 ?_
          refine Y.icmp_eq 122 dX5_run_108 (by decide) (by omega) (by omega) (fun h_108 => ?_) (fun h_108 => ?_)
          · exfalso; omega
          refine Y.aload_n dX5_run_111 rfl ?_
          refine Y.getf dX5_run_112 flX5_74 ob67 rfl ?_
          refine Y.iload dX5_run_115 rfl ?_
          refine Y.dup2 dX5_run_117 rfl rfl ?_
          refine Y.iald dX5_run_118 ia89 (by omega) (by omega) ?_
          refine Y.iconst dX5_run_119 ?_
          refine Y.iadd dX5_run_120 ?_
          refine Y.iast dX5_run_121 ia89 (by omega) (by omega) ?_
          obtain ⟨u3, eu3⟩ : ∃ u3, u3 = zu u2 89 (64 * m1 + g.1 45 m1) (u2.1 89 (64 * m1 + g.1 45 m1) + 1) := ⟨_, rfl⟩
          rw [← eu3]
          have f3 : ∀ c : Nat, c ≠ 89 → u3.1 c = u.1 c ∨ c = 93 := fun c hc => if z : c = 93 then Or.inr z else Or.inl (by rw [eu3, zu_nc hc, f2 c hc, f1 c z])
          have ec3 : mP u3 = p := (mP_c (fun c a e => (f3 c (by omega)).resolve_right (by omega))).trans ecu
          have e7 : u3.1 79 = p 7 := by rw [← ec3]; rfl
          have b90 : u3.1 90 = u.1 90 := (f3 90 (by omega)).resolve_right (by omega)
          have b91 : u3.1 91 = u.1 91 := (f3 91 (by omega)).resolve_right (by omega)
          have hbd0 := hbd m0 (by omega) (by omega)
          have d0 : u3.1 89 (64 * m0 + g.1 45 m0) = g.1 46 m0 + 1 := by rw [eu3, zu_ne (show (64 * m0 + g.1 45 m0) ≠ (64 * m1 + g.1 45 m1) by omega), eu2, zu_eq, f1 89 (by omega)]; omega
          have d0' : u1.1 89 (64 * m0 + g.1 45 m0) = g.1 46 m0 := by rw [f1 89 (by omega)]; omega
          have hbd1 := hbd m1 (by omega) (by omega)
          have d1' : u2.1 89 (64 * m1 + g.1 45 m1) = g.1 46 m1 := by rw [eu2, zu_ne (show (64 * m1 + g.1 45 m1) ≠ (64 * m0 + g.1 45 m0) by omega), f1 89 (by omega)]; omega
          have d1 : u3.1 89 (64 * m1 + g.1 45 m1) = g.1 46 m1 + 1 := by rw [eu3, zu_eq, d1']
          refine Y.iload_n dX5_run_122 rfl ?_
          refine Y.iconst dX5_run_123 ?_
          refine Y.icmp_eq 153 dX5_run_124 (by decide) (by omega) (by omega) (fun h_124 => ?_) (fun h_124 => ?_)
          · exfalso; omega
          refine Y.aload_n dX5_run_127 rfl ?_
          refine Y.getf dX5_run_128 flX5_74 ob67 rfl ?_
          refine Y.iload_n dX5_run_131 rfl ?_
          refine Y.iald dX5_run_132 ia89 (by omega) (by omega) ?_
          refine Y.aload_n dX5_run_133 rfl ?_
          refine Y.getf dX5_run_134 flX5_44 ob67 rfl ?_
          refine Y.iload_n dX5_run_137 rfl ?_
          refine Y.bipush dX5_run_138 (by decide +kernel) ?_
          refine Y.idivp dX5_run_140 (by omega) (by omega) (by omega) (by omega) ?_
          refine Y.iald dX5_run_141 ia79 (by omega) (by omega) ?_
          rw [d0, e7, show (64 * m0 + g.1 45 m0) / 64 = m0 by omega]
          have hpk0 := (hp.2.1 m0 (by omega) (by omega)).2.1
          refine Y.icmp_ne 153 dX5_run_142 (by decide) (by omega) (by omega) (fun h_142 => ?_) (fun h_142 => ?_)
          · obtain ⟨u4, eu4⟩ : ∃ u4, u4 = u3 := ⟨_, rfl⟩
            rw [← eu4]
            have hA : mt1 p g m0 t u1 = u2 := by unfold mt1; rw [if_neg q0]; unfold mtk; rw [if_neg (by rw [d0']; omega), eu2]
            have ec4 : mP u4 = p := (mP_c (fun c a e => by rw [eu4])).trans ec3
            have e74 : u4.1 79 = p 7 := by rw [← ec4]; rfl
            have d14 : u4.1 89 (64 * m1 + g.1 45 m1) = g.1 46 m1 + 1 := by rw [eu4, d1]
            have hpk1 := (hp.2.1 m1 (by omega) (by omega)).2.1
            have g90 : u4.1 90 m1 = u.1 90 m1 := by rw [eu4, b90]
            have g91 : u4.1 91 m1 = u.1 91 m1 := by rw [eu4, b91]
            have e4z : zu u2 89 (64 * m1 + g.1 45 m1) (u2.1 89 (64 * m1 + g.1 45 m1) + 1) = u4 := by rw [← eu3, ← eu4]
            refine Y.iload dX5_run_153 rfl ?_
            refine Y.iconst dX5_run_155 ?_
            refine Y.icmp_eq 188 dX5_run_156 (by decide) (by omega) (by omega) (fun h_156 => ?_) (fun h_156 => ?_)
            · exfalso; omega
            refine Y.aload_n dX5_run_159 rfl ?_
            refine Y.getf dX5_run_160 flX5_74 ob67 rfl ?_
            refine Y.iload dX5_run_163 rfl ?_
            refine Y.iald dX5_run_165 ia89 (by omega) (by omega) ?_
            refine Y.aload_n dX5_run_166 rfl ?_
            refine Y.getf dX5_run_167 flX5_44 ob67 rfl ?_
            refine Y.iload dX5_run_170 rfl ?_
            refine Y.bipush dX5_run_172 (by decide +kernel) ?_
            refine Y.idivp dX5_run_174 (by omega) (by omega) (by omega) (by omega) ?_
            refine Y.iald dX5_run_175 ia79 (by omega) (by omega) ?_
            rw [d14, e74, show (64 * m1 + g.1 45 m1) / 64 = m1 by omega]
            refine Y.icmp_ne 188 dX5_run_176 (by decide) (by omega) (by omega) (fun h_176 => ?_) (fun h_176 => ?_)
            · exact k188 _ _ _ (by rw [hA]; unfold mt1; rw [if_neg q1]; unfold mtk; first | (rw [if_pos (by rw [d1']; omega), e4z]; done) | (rw [if_neg (by rw [d1']; omega), e4z]; done))
            · refine Y.aload_n dX5_run_179 rfl ?_
              refine Y.iload dX5_run_180 rfl ?_
              refine Y.iload_n dX5_run_182 rfl ?_
              refine Y.iconst dX5_run_183 ?_
              refine Y.iadd dX5_run_184 ?_
              refine Y.cVV dX5_run_185 mkX5_ends csX5_314 ob67 ⟨_, rfl, rfl⟩ (c_X5_ends ec4 hp (by omega) (by omega) (by omega) (by omega) (by omega) (by omega) (by rw [g90]; exact hbd1.1) (by rw [g91]; exact hbd1.2)) (by omega) rfl rfl (Nat.le_of_ble_eq_true rfl) ?_
              exact k188 _ _ _ (by rw [hA]; unfold mt1; rw [if_neg q1]; unfold mtk; first | (rw [if_pos (by rw [d1']; omega), e4z]; done) | (rw [if_neg (by rw [d1']; omega), e4z]; done))
          · refine Y.aload_n dX5_run_145 rfl ?_
            refine Y.iload_n dX5_run_146 rfl ?_
            refine Y.iload_n dX5_run_147 rfl ?_
            refine Y.iconst dX5_run_148 ?_
            refine Y.iadd dX5_run_149 ?_
            refine Y.cVV dX5_run_150 mkX5_ends csX5_314 ob67 ⟨_, rfl, rfl⟩ (c_X5_ends ec3 hp (by omega) (by omega) (by omega) (by omega) (by omega) (by omega) (by rw [b90]; exact hbd0.1) (by rw [b91]; exact hbd0.2)) (by omega) rfl rfl (Nat.le_of_ble_eq_true rfl) ?_
            obtain ⟨u4, eu4⟩ : ∃ u4, u4 = finM p m0 (g.1 45 m0) (t + 1) u3 := ⟨_, rfl⟩
            rw [← eu4]
            have hA : mt1 p g m0 t u1 = finM p m0 (g.1 45 m0) (t + 1) u2 := by unfold mt1; rw [if_neg q0]; unfold mtk; rw [if_pos (by rw [d0']; omega), eu2]
            have ec4 : mP u4 = p := (mP_c (fun c a e => by rw [eu4, finM_o (by omega)])).trans ec3
            have e74 : u4.1 79 = p 7 := by rw [← ec4]; rfl
            have d14 : u4.1 89 (64 * m1 + g.1 45 m1) = g.1 46 m1 + 1 := by rw [eu4, finM_o (by omega), d1]
            have hpk1 := (hp.2.1 m1 (by omega) (by omega)).2.1
            have g90 : u4.1 90 m1 = u.1 90 m1 := by rw [eu4, finM_90, if_neg (by intro z; rw [z] at hx1; omega), b90]
            have g91 : u4.1 91 m1 = u.1 91 m1 := by rw [eu4, finM_91, if_neg (by intro z; rw [z] at hx1; omega), b91]
            have e4z : zu (finM p m0 (g.1 45 m0) (t + 1) u2) 89 (64 * m1 + g.1 45 m1) (u2.1 89 (64 * m1 + g.1 45 m1) + 1) = u4 := by rw [← finM_cm, ← eu3, ← eu4]
            refine Y.iload dX5_run_153 rfl ?_
            refine Y.iconst dX5_run_155 ?_
            refine Y.icmp_eq 188 dX5_run_156 (by decide) (by omega) (by omega) (fun h_156 => ?_) (fun h_156 => ?_)
            · exfalso; omega
            refine Y.aload_n dX5_run_159 rfl ?_
            refine Y.getf dX5_run_160 flX5_74 ob67 rfl ?_
            refine Y.iload dX5_run_163 rfl ?_
            refine Y.iald dX5_run_165 ia89 (by omega) (by omega) ?_
            refine Y.aload_n dX5_run_166 rfl ?_
            refine Y.getf dX5_run_167 flX5_44 ob67 rfl ?_
            refine Y.iload dX5_run_170 rfl ?_
            refine Y.bipush dX5_run_172 (by decide +kernel) ?_
            refine Y.idivp dX5_run_174 (by omega) (by omega) (by omega) (by omega) ?_
            refine Y.iald dX5_run_175 ia79 (by omega) (by omega) ?_
            rw [d14, e74, show (64 * m1 + g.1 45 m1) / 64 = m1 by omega]
            refine Y.icmp_ne 188 dX5_run_176 (by decide) (by omega) (by omega) (fun h_176 => ?_) (fun h_176 => ?_)
            · exact k188 _ _ _ (by rw [hA]; unfold mt1; rw [if_neg q1]; unfold mtk; rw [finM_o (c := 89) (by omega)]; first | (rw [if_pos (by rw [d1']; omega), e4z]; done) | (rw [if_neg (by rw [d1']; omega), e4z]; done))
            · refine Y.aload_n dX5_run_179 rfl ?_
              refine Y.iload dX5_run_180 rfl ?_
              refine Y.iload_n dX5_run_182 rfl ?_
              refine Y.iconst dX5_run_183 ?_
              refine Y.iadd dX5_run_184 ?_
              refine Y.cVV dX5_run_185 mkX5_ends csX5_314 ob67 ⟨_, rfl, rfl⟩ (c_X5_ends ec4 hp (by omega) (by omega) (by omega) (by omega) (by omega) (by omega) (by rw [g90]; exact hbd1.1) (by rw [g91]; exact hbd1.2)) (by omega) rfl rfl (Nat.le_of_ble_eq_true rfl) ?_
              exact k188 _ _ _ (by rw [hA]; unfold mt1; rw [if_neg q1]; unfold mtk; rw [finM_o (c := 89) (by omega)]; first | (rw [if_pos (by rw [d1']; omega), e4z]; done) | (rw [if_neg (by rw [d1']; omega), e4z]; done))
  · refine Y.bipush dX5_run_12 (by decide +kernel) ?_
    exact Y.iret dX5_run_14 rfl (hP _ _ (Or.inr ⟨by assumption, rfl, rfl⟩))
end ZR6
