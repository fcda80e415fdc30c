section ZG4
variable {σ : zS}
theorem cP_c {σ t : zS} (h : ∀ c : Nat, c ≤ 13 → t.1 c = σ.1 c) : cP t = cP σ := by
  funext k
  unfold cP
  rcases k with _ | _ | _ | _ | _ | _ | _ | _ | _ | k <;> exact h _ (by omega)
theorem AP.fr {b : Nat} {σ t : zS} {p : zP} {l : Int → Int} (hA : AP b σ p l) (h : ∀ c : Nat, (c ≤ 13 ∨ c = b + 1 ∨ c = b + 2) → t.1 c = σ.1 c) : AP b t p l :=
  ⟨(cP_c (fun c hc => h c (Or.inl hc))).trans hA.1, hA.2.1, hA.2.2.1, fun i a c => by rw [h _ (Or.inr (Or.inl rfl))]; exact hA.2.2.2.1 i a c, fun i a c => by rw [h _ (Or.inr (Or.inr rfl))]; exact hA.2.2.2.2 i a c⟩
theorem th_n {p : zP} {x k : Int} (k0 : 0 ≤ k) (k3 : k < 3) (h : th p (x / 3 * 3 + k)) : k < p 5 (x / 3) := by
  have := th_c (i := x / 3) h (by omega)
  omega
/-! placeComings -/
def aFp (b : Nat) (σ t : zS) : Prop := t.2 = σ.2 ∧ ∀ c : Nat, c ≠ b + 7 → c ≠ b + 8 → t.1 c = σ.1 c
theorem aFp.up {b : Nat} {σ t : zS} {c : Nat} {i v : Int} (h : aFp b σ t) (hc : c = b + 7 ∨ c = b + 8) : aFp b σ (zu t c i v) :=
  ⟨h.1, fun e h1 h2 => by rw [zu_nc (by omega)]; exact h.2 e h1 h2⟩
def Pk (b : Nat) (t : zS) (p : zP) (l : Int → Int) (x k : Int) : Prop := t.1 (b + 7) (x * 3 + k) = phi p l x (x / 3 * 3 + k) ∧ t.1 (b + 8) (x * 3 + k) = elr p l x (x / 3 * 3 + k)
def Pd (b : Nat) (t : zS) (p : zP) (l : Int → Int) (x : Int) : Prop := ∀ y k : Int, 0 ≤ y → y < x → 0 ≤ k → k < 3 → th p y → th p (y / 3 * 3 + k) → Pk b t p l y k
def Pj (b : Nat) (t : zS) (p : zP) (l : Int → Int) (x k : Int) : Prop := ∀ k2 : Int, 0 ≤ k2 → k2 < k → Pk b t p l x k2
set_option maxHeartbeats 4000000 in
theorem c_X0_placeComings {b : Nat} (hb : zAb b) {p : zP} {l : Int → Int} (hA : AP b σ p l) : YC 1 μX0_placeComings [.ref b] σ (fun r s => r = none ∧ aFp b σ s ∧ PP b s p l) := by
  refine YC.of2 (by decide) (Nat.le_of_ble_eq_true rfl) (fun d P hd hP => ?_)
  have hp := hA.wp
  refine Y.iconst dX0_placeComings_0 ?_
  refine Y.istore_n dX0_placeComings_1 (by decide) rfl ?_
  refine zw2 (fun t x => (0 ≤ x ∧ x ≤ 9 ∧ aFp b σ t ∧ Pd b t p l x)) (fun t x => Y d μX0_placeComings 2 [some (.ref b), some (.int (zi x)), none, none, none, none, none, none] [] t P) (fun t x => (9 - x).toNat) ?_ _ _ ⟨by omega, by omega, ⟨rfl, fun _ _ _ => rfl⟩, fun y k a c => by omega⟩
  intro t x hI ih
  obtain ⟨j1, j2, j3, j4⟩ := hI
  refine Y.iload_n dX0_placeComings_2 rfl ?_
  refine Y.bipush dX0_placeComings_3 (by decide +kernel) ?_
  refine Y.icmp_ge 141 dX0_placeComings_5 (by decide) (by omega) (by omega) (fun h_5 => ?_) (fun h_5 => ?_)
  · exact Y.vret dX0_placeComings_141 rfl (hP _ _ ⟨rfl, j3, fun y k a1 a2 => j4 y k a1 (by omega)⟩)
  · refine Y.iload_n dX0_placeComings_8 rfl ?_
    refine Y.iconst dX0_placeComings_9 ?_
    refine Y.idivp dX0_placeComings_10 (by omega) (by omega) (by omega) (by omega) ?_
    refine Y.istore_n dX0_placeComings_11 (by decide) rfl ?_
    refine Y.aload_n dX0_placeComings_12 rfl ?_
    refine Y.getf dX0_placeComings_13 flX0_9 (obA hb) rfl ?_
    refine Y.iload_n dX0_placeComings_16 rfl ?_
    refine Y.iald dX0_placeComings_17 (iaA1 hb) (by omega) (by omega) ?_
    refine Y.istore_n dX0_placeComings_18 (by decide) rfl ?_
    refine Y.iconst dX0_placeComings_19 ?_
    refine Y.istore dX0_placeComings_20 (by decide) rfl ?_
    have hb' : b = 14 ∨ b = 26 := hb
    have hA1 : AP b t p l := hA.fr (fun c hc => j3.2 c (by omega) (by omega))
    have et := hA1.per (i := x / 3) (by omega) (by omega)
    have hm := (hp.1 (x / 3) (by omega) (by omega)).2.2.2.2.2
    have hT := hp.per (i := x / 3) (by omega) (by omega)
    refine zw2 (fun t2 k => (0 ≤ k ∧ k ≤ 3 ∧ aFp b σ t2 ∧ Pd b t2 p l x ∧ Pj b t2 p l x k)) (fun t2 k => Y d μX0_placeComings 22 [some (.ref b), some (.int (zi x)), some (.int (zi (x / 3))), some (.int (zi (t.1 (b + 1) (x / 3)))), some (.int (zi k)), none, none, none] [] t2 P) (fun t2 k => (3 - k).toNat) ?_ _ _ ⟨by omega, by omega, j3, j4, fun k2 a c => by omega⟩
    intro t2 k hI2 ih2
    obtain ⟨m1, m2, m3, m4, m5⟩ := hI2
    have hA2 : AP b t2 p l := hA.fr (fun c hc => m3.2 c (by omega) (by omega))
    have ec := hA2.1
    have em : t2.1 13 (x / 3) = p 5 (x / 3) := by rw [← ec]; rfl
    refine Y.iload dX0_placeComings_22 rfl ?_
    refine Y.aload_n dX0_placeComings_24 rfl ?_
    refine Y.getf dX0_placeComings_25 flX0_45 (obA hb) rfl ?_
    refine Y.getf dX0_placeComings_28 flX0_129 ob1 rfl ?_
    refine Y.iload_n dX0_placeComings_31 rfl ?_
    refine Y.iald dX0_placeComings_32 ia13 (by omega) (by omega) ?_
    refine Y.icmp_ge 135 dX0_placeComings_33 (by decide) (by omega) (by omega) (fun h_33 => ?_) (fun h_33 => ?_)
    · refine Y.iinc dX0_placeComings_135 rfl (by decide) rfl ?_
      refine Y.goto 2 dX0_placeComings_138 (by decide) ?_
      refine Y.sub (zs_s (zs_s (zs_n (zs_n (zs_n (zs_n (zs_n (zs_n zs_0)))))))) (ih _ _ ⟨by omega, by omega, m3, fun y k2 a1 a2 a3 a4 a5 a6 => ?_⟩ (by omega))
      by_cases q : y = x
      · subst q
        have hk2 := th_n a3 a4 a6
        first
          | exact m5 k2 a3 (by omega)
          | exact absurd a5 (by assumption)
      · exact m4 y k2 a1 (by omega) a3 a4 a5 a6
    · refine Y.aload_n dX0_placeComings_36 rfl ?_
      refine Y.getf dX0_placeComings_37 flX0_45 (obA hb) rfl ?_
      refine Y.iload_n dX0_placeComings_40 rfl ?_
      refine Y.cVI dX0_placeComings_41 mkX2_isStep csX0_114 ob1 ⟨_, rfl, rfl⟩ (k_X2_isStep ec hp (by omega) (by omega)) (by omega) rfl rfl (Nat.le_of_ble_eq_true rfl) ?_
      refine Y.ifz_eq 135 dX0_placeComings_44 (by decide) (fun h_44 => ?_) (fun h_44 => ?_)
      · refine Y.iinc dX0_placeComings_135 rfl (by decide) rfl ?_
        refine Y.goto 2 dX0_placeComings_138 (by decide) ?_
        refine Y.sub (zs_s (zs_s (zs_n (zs_n (zs_n (zs_n (zs_n (zs_n zs_0)))))))) (ih _ _ ⟨by omega, by omega, m3, fun y k2 a1 a2 a3 a4 a5 a6 => ?_⟩ (by omega))
        by_cases q : y = x
        · subst q
          have hk2 := th_n a3 a4 a6
          first
            | exact m5 k2 a3 (by omega)
            | exact absurd a5 (by assumption)
        · exact m4 y k2 a1 (by omega) a3 a4 a5 a6
      · have hea := ear_b hp (x := x / 3 * 3 + k) (by omega) (by omega)
        have heb := ear_b hp (x := x) (by omega) (by omega)
        have hla := hA2.late (x := x / 3 * 3 + k) (by omega) (by omega)
        have hlb := hA2.late (x := x) (by omega) (by omega)
        have hl1 := hA.wl.b (x := x / 3 * 3 + k) (by omega) (by omega)
        have hl2 := hA.wl.b (x := x) (by omega) (by omega)
        have hph := phi_b hp l (j := x) (x / 3 * 3 + k) (by omega) (by omega)
        refine Y.iload_n dX0_placeComings_47 rfl ?_
        refine Y.iconst dX0_placeComings_48 ?_
        refine Y.imul dX0_placeComings_49 ?_
        refine Y.iload dX0_placeComings_50 rfl ?_
        refine Y.iadd dX0_placeComings_52 ?_
        refine Y.istore dX0_placeComings_53 (by decide) rfl ?_
        refine Y.aload_n dX0_placeComings_55 rfl ?_
        refine Y.getf dX0_placeComings_56 flX0_45 (obA hb) rfl ?_
        refine Y.iload dX0_placeComings_59 rfl ?_
        refine Y.cVI dX0_placeComings_61 mkX2_earliestOf csX0_108 ob1 ⟨_, rfl, rfl⟩ (k_X2_earliestOf ec hp (by omega) (by omega)) (by omega) rfl rfl (Nat.le_of_ble_eq_true rfl) ?_
        refine Y.aload_n dX0_placeComings_64 rfl ?_
        refine Y.getf dX0_placeComings_65 flX0_15 (obA hb) rfl ?_
        refine Y.iload dX0_placeComings_68 rfl ?_
        refine Y.iald dX0_placeComings_70 (iaA2 hb) (by omega) (by omega) ?_
        refine Y.iadd dX0_placeComings_71 ?_
        refine Y.aload_n dX0_placeComings_72 rfl ?_
        refine Y.getf dX0_placeComings_73 flX0_45 (obA hb) rfl ?_
        refine Y.iload_n dX0_placeComings_76 rfl ?_
        refine Y.cVI dX0_placeComings_77 mkX2_earliestOf csX0_108 ob1 ⟨_, rfl, rfl⟩ (k_X2_earliestOf ec hp (by omega) (by omega)) (by omega) rfl rfl (Nat.le_of_ble_eq_true rfl) ?_
        refine Y.isub dX0_placeComings_80 ?_
        refine Y.istore dX0_placeComings_81 (by decide) rfl ?_
        refine Y.iload_n dX0_placeComings_83 rfl ?_
        refine Y.iconst dX0_placeComings_84 ?_
        refine Y.imul dX0_placeComings_85 ?_
        refine Y.iload dX0_placeComings_86 rfl ?_
        refine Y.iadd dX0_placeComings_88 ?_
        refine Y.istore dX0_placeComings_89 (by decide) rfl ?_
        refine Y.aload_n dX0_placeComings_91 rfl ?_
        refine Y.getf dX0_placeComings_92 flX0_30 (obA hb) rfl ?_
        refine Y.iload dX0_placeComings_95 rfl ?_
        refine Y.iload_n dX0_placeComings_97 rfl ?_
        refine Y.iload dX0_placeComings_98 rfl ?_
        refine Y.iload_n dX0_placeComings_100 rfl ?_
        refine Y.cSI dX0_placeComings_101 mkJ9_floorMod_7cf53 csX0_132 (c_J9_floorMod (by omega) (by omega) (by omega)) (by omega) rfl rfl (Nat.le_of_ble_eq_true rfl) ?_
        refine Y.isub dX0_placeComings_104 ?_
        have ev : t.1 (b + 1) (x / 3) - (ear p (x / 3 * 3 + k) + t2.1 (b + 2) (x / 3 * 3 + k) - ear p x) % t.1 (b + 1) (x / 3) = phi p l x (x / 3 * 3 + k) := by rw [et, hla]; rfl
        rw [ev]
        refine Y.iast dX0_placeComings_105 (iaA7 hb) (by omega) (by omega) ?_
        refine Y.aload_n dX0_placeComings_106 rfl ?_
        refine Y.getf dX0_placeComings_107 flX0_33 (obA hb) rfl ?_
        refine Y.iload dX0_placeComings_110 rfl ?_
        refine Y.aload_n dX0_placeComings_112 rfl ?_
        refine Y.getf dX0_placeComings_113 flX0_15 (obA hb) rfl ?_
        refine Y.iload_n dX0_placeComings_116 rfl ?_
        refine Y.iald dX0_placeComings_117 (iaA2 hb) (by omega) (by omega) ?_
        refine Y.aload_n dX0_placeComings_118 rfl ?_
        refine Y.getf dX0_placeComings_119 flX0_30 (obA hb) rfl ?_
        refine Y.iload dX0_placeComings_122 rfl ?_
        refine Y.iald dX0_placeComings_124 (iaA7 hb) (by omega) (by omega) ?_
        refine Y.iadd dX0_placeComings_125 ?_
        refine Y.iload_n dX0_placeComings_126 rfl ?_
        rw [zu_nc (show b + 2 ≠ b + 7 by omega), zu_eq]
        refine Y.idivp dX0_placeComings_127 (by omega) (by omega) (by omega) (by omega) ?_
        have ew : (t2.1 (b + 2) x + phi p l x (x / 3 * 3 + k)) / t.1 (b + 1) (x / 3) = elr p l x (x / 3 * 3 + k) := by rw [et, hlb]; rfl
        rw [ew]
        refine Y.iast dX0_placeComings_128 (iaA8 hb) (by omega) (by omega) ?_
        refine Y.iinc dX0_placeComings_129 rfl (by decide) rfl ?_
        refine Y.goto 22 dX0_placeComings_132 (by decide) ?_
        refine Y.sub (zs_s (zs_s (zs_s (zs_s (zs_s (zs_n (zs_n (zs_n zs_0)))))))) (ih2 _ _ ⟨by omega, by omega, (m3.up (Or.inl rfl)).up (Or.inr rfl), ?_, ?_⟩ (by omega))
        · intro y k2 a1 a2 a3 a4 a5 a6
          obtain ⟨q1, q2⟩ := m4 y k2 a1 a2 a3 a4 a5 a6
          exact ⟨by rw [zu_nc (by omega), zu_ne (by omega)]; exact q1, by rw [zu_ne (by omega), zu_nc (by omega)]; exact q2⟩
        · intro k2 a1 a2
          by_cases q : k2 = k
          · subst q
            exact ⟨by rw [zu_nc (by omega), zu_eq], by rw [zu_eq]⟩
          · obtain ⟨q1, q2⟩ := m5 k2 a1 (by omega)
            exact ⟨by rw [zu_nc (by omega), zu_ne (by omega)]; exact q1, by rw [zu_ne (by omega), zu_nc (by omega)]; exact q2⟩
/-! findLongest -/
def zFb (b : Nat) (σ t : zS) : Prop := t.2 = σ.2 ∧ (∀ c : Nat, c ≠ b → t.1 c = σ.1 c) ∧ ∀ i : Int, (i < 12 ∨ 15 < i) → t.1 b i = σ.1 b i
theorem zFb.up {b : Nat} {σ t : zS} {i v : Int} (h : zFb b σ t) (h0 : 12 ≤ i) (h1 : i ≤ 15) : zFb b σ (zu t b i v) :=
  ⟨h.1, fun c hc => by rw [zu_nc hc]; exact h.2.1 c hc, fun j hj => by rw [zu_ne (by omega)]; exact h.2.2 j hj⟩
/-- all that a look at x by chosen moments rests on -/
def AX (b : Nat) (σ : zS) (p : zP) (l : Int → Int) (x : Int) (C : Int → Prop) : Prop := AP b σ p l ∧ PP b σ p l ∧ GP b σ p x ∧ CC b σ p x C ∧ ∀ i : Int, 0 ≤ i → i < 3 → zB (σ.1 (b + 11) i)
theorem AX.fr {b : Nat} (hb : zAb b) {σ t : zS} {p : zP} {l : Int → Int} {x : Int} {C : Int → Prop} (h : AX b σ p l x C) (hf : ∀ c : Nat, c ≠ b → t.1 c = σ.1 c) : AX b t p l x C := by
  have hb' : b = 14 ∨ b = 26 := hb
  obtain ⟨h1, h2, h3, h4, h5⟩ := h
  refine ⟨h1.fr (fun c hc => hf c (by omega)), ?_, ?_, ?_, ?_⟩
  · unfold PP
    rw [hf (b + 7) (by omega), hf (b + 8) (by omega)]
    exact h2
  · unfold GP
    rw [hf (b + 9) (by omega), hf (b + 10) (by omega)]
    exact h3
  · unfold CC
    rw [hf (b + 11) (by omega)]
    exact h4
  · rw [hf (b + 11) (by omega)]
    exact h5
def RA (b : Nat) (t : zS) (s : aA) : Prop := t.1 b 12 = s.1 ∧ (0 < s.1 → t.1 b 13 = s.2.1 ∧ t.1 b 14 = s.2.2.1 ∧ t.1 b 15 = s.2.2.2)
theorem own.th {p : zP} {x k : Int} (h : own p x k) : th p k := by
  rcases h.2.2.2.2 with e | hr
  · rw [e]; exact h.2.2.1
  · exact hr.1
set_option maxHeartbeats 8000000 in
theorem c_X0_findLongest {b : Nat} (hb : zAb b) {p : zP} {l : Int → Int} {x : Int} {C : Int → Prop} (hX : AX b σ p l x C) (h0 : 0 ≤ x) (h9 : x < 9) (ht : th p x) : YC 4 μX0_findLongest [.ref b, .int (zi x)] σ (fun r s => r = some (.int (zi (zb (fnd p l C x ≠ none)))) ∧ zFb b σ s ∧ ∀ v : aA, fnd p l C x = some v → s.1 b 12 = v.1 ∧ s.1 b 13 = v.2.1 ∧ s.1 b 14 = v.2.2.1 ∧ s.1 b 15 = v.2.2.2) := by
  refine YC.of2 (by decide) (Nat.le_of_ble_eq_true rfl) (fun d P hd hP => ?_)
  have hA := hX.1
  have ec := hA.1
  have hp := hA.wp
  have hl := hA.wl
  have hmm := (hp.1 (x / 3) (by omega) (by omega)).2.2.2.2.2
  have hTT := hp.per (i := x / 3) (by omega) (by omega)
  have hT0 := hA.per (i := x / 3) (by omega) (by omega)
  have hcc := (hp.2.1 x h0 h9).2.1
  have hc0 := hA.cost x
  have hee := ear_b hp h0 h9
  have hll := hl.b h0 h9
  refine Y.iload_n dX0_findLongest_0 rfl ?_
  refine Y.iconst dX0_findLongest_1 ?_
  refine Y.idivp dX0_findLongest_2 (by omega) (by omega) (by omega) (by omega) ?_
  refine Y.istore_n dX0_findLongest_3 (by decide) rfl ?_
  refine Y.aload_n dX0_findLongest_4 rfl ?_
  refine Y.getf dX0_findLongest_5 flX0_45 (obA hb) rfl ?_
  refine Y.getf dX0_findLongest_8 flX0_98 ob1 rfl ?_
  refine Y.iconst dX0_findLongest_11 ?_
  refine Y.aald dX0_findLongest_12 ra8 (by decide) (by decide) (by decide) rfl ?_
  refine Y.iload_n dX0_findLongest_13 rfl ?_
  refine Y.iald dX0_findLongest_14 ia10 (by omega) (by omega) ?_
  refine Y.istore_n dX0_findLongest_15 (by decide) rfl ?_
  refine Y.aload_n dX0_findLongest_16 rfl ?_
  refine Y.getf dX0_findLongest_17 flX0_9 (obA hb) rfl ?_
  refine Y.iload_n dX0_findLongest_20 rfl ?_
  refine Y.iald dX0_findLongest_21 (iaA1 hb) (by omega) (by omega) ?_
  refine Y.istore dX0_findLongest_22 (by decide) rfl ?_
  refine Y.aload_n dX0_findLongest_24 rfl ?_
  refine Y.getf dX0_findLongest_25 flX0_45 (obA hb) rfl ?_
  refine Y.iload_n dX0_findLongest_28 rfl ?_
  refine Y.cVI dX0_findLongest_29 mkX2_earliestOf csX0_108 ob1 ⟨_, rfl, rfl⟩ (k_X2_earliestOf ec hp (by omega) (by omega)) (by omega) rfl rfl (Nat.le_of_ble_eq_true rfl) ?_
  refine Y.istore dX0_findLongest_32 (by decide) rfl ?_
  refine Y.aload_n dX0_findLongest_34 rfl ?_
  refine Y.iconst dX0_findLongest_35 ?_
  refine Y.putf 12 dX0_findLongest_36 fpX0_89 (obA hb) (osA_12 hb) (Nat.le_of_ble_eq_true rfl) (Or.inl rfl) rfl ?_
  refine Y.iconst dX0_findLongest_39 ?_
  refine Y.istore dX0_findLongest_40 (by decide) rfl ?_
  refine zw3 (fun t s k => (0 ≤ k ∧ k ≤ 3 ∧ zFb b σ t ∧ RA b t s ∧ aAB p l x s ∧ fk p l C x (3 - k).toNat k s = fnd p l C x)) (fun t s k => Y d μX0_findLongest 42 [some (.ref b), some (.int (zi x)), some (.int (zi (x / 3))), some (.int (zi (σ.1 10 x))), some (.int (zi (σ.1 (b + 1) (x / 3)))), some (.int (zi (ear p x))), some (.int (zi k)), none, none, none, none, none, none, none] [] t P) (fun t s k => (3 - k).toNat) ?_ _ (0, 0, 0, 0) _ ⟨by omega, by omega, ⟨rfl, fun c hc => by rw [zu_nc hc], fun j hj => by rw [zu_ne (by omega)]⟩, ⟨by rw [zu_eq], fun q => absurd q (by decide)⟩, ⟨by show (0 : Int) ≤ 0; omega, by show (0 : Int) ≤ 200 + l x + ear p x; omega, fun q => absurd q (by decide)⟩, rfl⟩
  intro t s k hI ih
  obtain ⟨j1, j2, j3, j4, j5, j6⟩ := hI
  have hX1 := hX.fr hb j3.2.1
  have hA1 := hX1.1
  have ec := hA1.1
  have em : t.1 13 (x / 3) = p 5 (x / 3) := by rw [← ec]; rfl
  refine Y.iload dX0_findLongest_42 rfl ?_
  refine Y.aload_n dX0_findLongest_44 rfl ?_
  refine Y.getf dX0_findLongest_45 flX0_45 (obA hb) rfl ?_
  refine Y.getf dX0_findLongest_48 flX0_129 ob1 rfl ?_
  refine Y.iload_n dX0_findLongest_51 rfl ?_
  refine Y.iald dX0_findLongest_52 ia13 (by omega) (by omega) ?_
  refine Y.icmp_ge 236 dX0_findLongest_53 (by decide) (by omega) (by omega) (fun h_53 => ?_) (fun h_53 => ?_)
  · refine Y.iconst dX0_findLongest_236 ?_
    exact Y.zret dX0_findLongest_237 rfl (by decide) (hP _ _ (by
    rw [fk_m j1 (by omega)] at j6
    have hb9 := fnd_b hp hl C h0 h9 ht j6.symm
    refine ⟨zrI (zb_t (fun q => by rw [← j6] at q; cases q)).symm, j3, fun v hv => ?_⟩
    obtain rfl : s = v := Option.some.inj (j6.trans hv)
    have h5 := j4.2 (by omega)
    exact ⟨j4.1, h5.1, h5.2.1, h5.2.2⟩))
  · have k86 : own p x (x / 3 * 3 + k) → k < 3 → Y d μX0_findLongest 86 [some (.ref b), some (.int (zi x)), some (.int (zi (x / 3))), some (.int (zi (σ.1 10 x))), some (.int (zi (σ.1 (b + 1) (x / 3)))), some (.int (zi (ear p x))), some (.int (zi k)), some (.int (zi (x / 3 * 3 + k))), none, none, none, none, none, none] [] t P := by
      intro ho k3
      have hk := ho.th
      refine Y.aload_n dX0_findLongest_86 rfl ?_
      refine Y.iload_n dX0_findLongest_87 rfl ?_
      refine Y.iload dX0_findLongest_88 rfl ?_
      refine Y.iconst dX0_findLongest_90 ?_
      refine Y.iconst dX0_findLongest_91 ?_
      refine Y.cVI dX0_findLongest_92 mkX0_leastTime csX0_101 (obA hb) ⟨_, rfl, rfl⟩ (c_X0_leastTime hb hA1 hX1.2.1 hX1.2.2.1 hX1.2.2.2.1 hX1.2.2.2.2 ho j1 k3 hk (by omega) (by omega) (by omega) (LI.one (Fn_1 hp hl C (Or.inl rfl) ho (Int.le_refl 1)))) (by omega) rfl rfl (Nat.le_of_ble_eq_true rfl) ?_
      refine Y.istore dX0_findLongest_95 (by decide) rfl ?_
      refine Y.iload dX0_findLongest_97 rfl ?_
      refine Y.iconst dX0_findLongest_99 ?_
      have hlb0 := lfp_b (Fn p l C x (x / 3 * 3 + k) (-1))
      refine Y.icmp_ne 105 dX0_findLongest_100 (by decide) (by omega) (by omega) (fun h_100 => ?_) (fun h_100 => ?_)
      · refine Y.iload_n dX0_findLongest_105 rfl ?_
        refine Y.iconst dX0_findLongest_106 ?_
        refine Y.imul dX0_findLongest_107 ?_
        refine Y.iload dX0_findLongest_108 rfl ?_
        refine Y.iadd dX0_findLongest_110 ?_
        refine Y.istore dX0_findLongest_111 (by decide) rfl ?_
        refine Y.aload_n dX0_findLongest_113 rfl ?_
        refine Y.iload_n dX0_findLongest_114 rfl ?_
        refine Y.iload dX0_findLongest_115 rfl ?_
        refine Y.iload dX0_findLongest_117 rfl ?_
        refine Y.cVI dX0_findLongest_119 mkX0_comes csX0_139 (obA hb) ⟨_, rfl, rfl⟩ (c_X0_comes hb hA1 hX1.2.1 h0 h9 j1 k3 ht hk (by have := lfp_b (Fn p l C x (x / 3 * 3 + k) (-1)); omega) (by have := lfp_b (Fn p l C x (x / 3 * 3 + k) (-1)); omega)) (by omega) rfl rfl (Nat.le_of_ble_eq_true rfl) ?_
        refine Y.istore dX0_findLongest_122 (by decide) rfl ?_
        refine Y.iconst dX0_findLongest_124 ?_
        refine Y.istore dX0_findLongest_125 (by decide) rfl ?_
        refine Y.iconst dX0_findLongest_127 ?_
        refine Y.istore dX0_findLongest_128 (by decide) rfl ?_
        have hbz : 1 ≤ (lfp (Fn p l C x (x / 3 * 3 + k) (-1))) ∧ (lfp (Fn p l C x (x / 3 * 3 + k) (-1))) ≤ 200 := (lfp_b _).elim (fun q => absurd q (by omega)) id
        have hN := cm_b hp hl (j := x) (x / 3 * 3 + k) h0 h9 hbz.1 hbz.2
        refine zw4 (fun t2 s2 e q => (0 ≤ q ∧ q ≤ (cm p l x (x / 3 * 3 + k) (lfp (Fn p l C x (x / 3 * 3 + k) (-1)))) ∧ 0 ≤ e ∧ e ≤ 200 ∧ zFb b σ t2 ∧ RA b t2 s2 ∧ aAB p l x s2 ∧ oB (fq p l C x (x / 3 * 3 + k) (lfp (Fn p l C x (x / 3 * 3 + k) (-1))) ((cm p l x (x / 3 * 3 + k) (lfp (Fn p l C x (x / 3 * 3 + k) (-1)))) - q).toNat q s2) (fk p l C x (3 - (k + 1)).toNat (k + 1)) = fnd p l C x ∧ LI (Fn p l C x (x / 3 * 3 + k) (q + 1)) (e + p 7 x))) (fun t2 s2 e q => Y d μX0_findLongest 130 [some (.ref b), some (.int (zi x)), some (.int (zi (x / 3))), some (.int (zi (σ.1 10 x))), some (.int (zi (σ.1 (b + 1) (x / 3)))), some (.int (zi (ear p x))), some (.int (zi k)), some (.int (zi (x / 3 * 3 + k))), some (.int (zi (lfp (Fn p l C x (x / 3 * 3 + k) (-1))))), some (.int (zi (x * 3 + k))), some (.int (zi (cm p l x (x / 3 * 3 + k) (lfp (Fn p l C x (x / 3 * 3 + k) (-1)))))), some (.int (zi e)), some (.int (zi q)), none] [] t2 P) (fun t2 s2 e q => ((cm p l x (x / 3 * 3 + k) (lfp (Fn p l C x (x / 3 * 3 + k) (-1)))) - q).toNat) ?_ _ s _ _ ⟨by omega, by omega, by omega, by omega, j3, j4, j5, ?_, ?_⟩
        rotate_left
        · rw [← j6, fk_1 k3 ho]
          unfold fk1 bz
          rw [if_neg (by omega)]
        · rw [Int.zero_add, Int.zero_add]
          exact Fn_w hp hl C ho
        intro t2 s2 e q hI2 ih2
        obtain ⟨m1, m9, m2, m3, m4, m5, m6, m7, m8⟩ := hI2
        have hX2 := hX.fr hb m4.2.1
        have hA2 := hX2.1
        have hP2 := hX2.2.1 x k h0 h9 j1 k3 ht hk
        have hbb : t2.1 b 12 = s2.1 := m5.1
        have hs2 := m6.1
        have hs3 := m6.2.1
        refine Y.iload dX0_findLongest_130 rfl ?_
        refine Y.iload dX0_findLongest_132 rfl ?_
        refine Y.icmp_ge 230 dX0_findLongest_134 (by decide) (by omega) (by omega) (fun h_134 => ?_) (fun h_134 => ?_)
        · refine Y.iinc dX0_findLongest_230 rfl (by decide) rfl ?_
          refine Y.goto 42 dX0_findLongest_233 (by decide) ?_
          refine Y.sub (zs_s (zs_s (zs_s (zs_s (zs_s (zs_s (zs_s (zs_n (zs_n (zs_n (zs_n (zs_n (zs_n (zs_n zs_0)))))))))))))) ?_
          rw [fq_0 (by omega)] at m7
          exact ih _ s2 _ ⟨by omega, by omega, m4, m5, m6, m7⟩ (by omega)
        · refine Y.aload_n dX0_findLongest_137 rfl ?_
          refine Y.iload_n dX0_findLongest_138 rfl ?_
          refine Y.iload dX0_findLongest_139 rfl ?_
          refine Y.iload dX0_findLongest_141 rfl ?_
          refine Y.iconst dX0_findLongest_143 ?_
          refine Y.iadd dX0_findLongest_144 ?_
          refine Y.iload dX0_findLongest_145 rfl ?_
          refine Y.iload_n dX0_findLongest_147 rfl ?_
          refine Y.iadd dX0_findLongest_148 ?_
          refine Y.cVI dX0_findLongest_149 mkX0_leastTime csX0_101 (obA hb) ⟨_, rfl, rfl⟩ (c_X0_leastTime hb hA2 hX2.2.1 hX2.2.2.1 hX2.2.2.2.1 hX2.2.2.2.2 ho j1 k3 hk (by omega) (by omega) (by omega) (by rw [hA.cost]; exact m8)) (by omega) rfl rfl (Nat.le_of_ble_eq_true rfl) ?_
          refine Y.istore dX0_findLongest_152 (by decide) rfl ?_
          refine Y.iload dX0_findLongest_154 rfl ?_
          refine Y.iconst dX0_findLongest_156 ?_
          have hlb1 := lfp_b (Fn p l C x (x / 3 * 3 + k) (q + 1))
          refine Y.icmp_ne 162 dX0_findLongest_157 (by decide) (by omega) (by omega) (fun h_157 => ?_) (fun h_157 => ?_)
          · have he : (lfp (Fn p l C x (x / 3 * 3 + k) (q + 1))) ≠ -1 := by omega
            have hfv := fv_b hp hl C (k := (x / 3 * 3 + k)) h0 h9 m1 (by omega) he
            have heb : 1 ≤ (lfp (Fn p l C x (x / 3 * 3 + k) (q + 1))) ∧ (lfp (Fn p l C x (x / 3 * 3 + k) (q + 1))) ≤ 200 := (lfp_b _).elim (fun q => absurd q he) id
            have hwm := LI.warm (c := p 7 x) (G := Fn p l C x (x / 3 * 3 + k) (q + 1 + 1)) (Fn_m hp hl C (q + 1) ho) (Fn_1 hp hl C (Or.inr (by omega)) ho (Int.le_refl 1)) (by omega) (Fn_s (by omega)) he
            rw [fq_1 (by omega), if_neg he] at m7
            refine Y.iload dX0_findLongest_162 rfl ?_
            refine Y.aload_n dX0_findLongest_164 rfl ?_
            refine Y.getf dX0_findLongest_165 flX0_30 (obA hb) rfl ?_
            refine Y.iload dX0_findLongest_168 rfl ?_
            refine Y.iald dX0_findLongest_170 (iaA7 hb) (by omega) (by omega) ?_
            refine Y.isub dX0_findLongest_171 ?_
            refine Y.iload dX0_findLongest_172 rfl ?_
            refine Y.iload dX0_findLongest_174 rfl ?_
            refine Y.aload_n dX0_findLongest_176 rfl ?_
            refine Y.getf dX0_findLongest_177 flX0_33 (obA hb) rfl ?_
            refine Y.iload dX0_findLongest_180 rfl ?_
            refine Y.iald dX0_findLongest_182 (iaA8 hb) (by omega) (by omega) ?_
            refine Y.isub dX0_findLongest_183 ?_
            refine Y.imul dX0_findLongest_184 ?_
            refine Y.isub dX0_findLongest_185 ?_
            refine Y.iload dX0_findLongest_186 rfl ?_
            refine Y.iadd dX0_findLongest_188 ?_
            have ev : (lfp (Fn p l C x (x / 3 * 3 + k) (q + 1))) - t2.1 (b + 7) (x * 3 + k) - σ.1 (b + 1) (x / 3) * (q - t2.1 (b + 8) (x * 3 + k)) + ear p x = fv p l C x (x / 3 * 3 + k) q := by rw [hP2.1, hP2.2, hA.per (by omega) (by omega)]; rfl
            rw [ev]
            refine Y.istore dX0_findLongest_189 (by decide) rfl ?_
            refine Y.iload dX0_findLongest_191 rfl ?_
            refine Y.aload_n dX0_findLongest_193 rfl ?_
            refine Y.getf dX0_findLongest_194 flX0_89 (obA hb) rfl ?_
            rw [hbb]
            refine Y.icmp_le 224 dX0_findLongest_197 (by decide) (by omega) (by omega) (fun h_197 => ?_) (fun h_197 => ?_)
            · refine Y.iinc dX0_findLongest_224 rfl (by decide) rfl ?_
              refine Y.goto 130 dX0_findLongest_227 (by decide) ?_
              refine Y.sub (zs_s (zs_s (zs_s (zs_s (zs_s (zs_s (zs_s (zs_s (zs_s (zs_s (zs_s (zs_s (zs_s (zs_n zs_0)))))))))))))) ?_
              first
                | (rw [if_neg (by omega)] at m7
                   exact ih2 _ s2 _ _ ⟨by omega, by omega, by omega, by omega, m4, m5, m6, m7, hwm⟩ (by omega))
                | (rw [if_pos (by omega)] at m7
                   refine ih2 _ (fv p l C x (x / 3 * 3 + k) q, (x / 3 * 3 + k) % 3, q, bz p l C x (x / 3 * 3 + k)) _ _ ⟨by omega, by omega, by omega, by omega, (((m4.up (by omega) (by omega)).up (by omega) (by omega)).up (by omega) (by omega)).up (by omega) (by omega), ⟨?_, fun _ => ⟨?_, ?_, ?_⟩⟩, ⟨?_, hfv.2, fun _ => ⟨?_, ?_, m1, ?_, hbz.1, hbz.2⟩⟩, m7, hwm⟩ (by omega)
                   · rw [zu_ne (by omega), zu_ne (by omega), zu_ne (by omega), zu_eq]
                   · rw [zu_ne (by omega), zu_ne (by omega), zu_eq]
                     show k = (x / 3 * 3 + k) % 3
                     omega
                   · rw [zu_ne (by omega), zu_eq]
                   · rw [zu_eq]; rfl
                   · show 0 ≤ fv p l C x (x / 3 * 3 + k) q
                     omega
                   · show 0 ≤ (x / 3 * 3 + k) % 3
                     omega
                   · show (x / 3 * 3 + k) % 3 < 3
                     omega
                   · show q < 200
                     omega)
            · refine Y.aload_n dX0_findLongest_200 rfl ?_
              refine Y.iload dX0_findLongest_201 rfl ?_
              refine Y.putf 12 dX0_findLongest_203 fpX0_89 (obA hb) (osA_12 hb) (Nat.le_of_ble_eq_true rfl) (Or.inl rfl) rfl ?_
              refine Y.aload_n dX0_findLongest_206 rfl ?_
              refine Y.iload dX0_findLongest_207 rfl ?_
              refine Y.putf 13 dX0_findLongest_209 fpX0_120 (obA hb) (osA_13 hb) (Nat.le_of_ble_eq_true rfl) (Or.inl rfl) rfl ?_
              refine Y.aload_n dX0_findLongest_212 rfl ?_
              refine Y.iload dX0_findLongest_213 rfl ?_
              refine Y.putf 14 dX0_findLongest_215 fpX0_123 (obA hb) (osA_14 hb) (Nat.le_of_ble_eq_true rfl) (Or.inl rfl) rfl ?_
              refine Y.aload_n dX0_findLongest_218 rfl ?_
              refine Y.iload dX0_findLongest_219 rfl ?_
              refine Y.putf 15 dX0_findLongest_221 fpX0_126 (obA hb) (osA_15 hb) (Nat.le_of_ble_eq_true rfl) (Or.inl rfl) rfl ?_
              refine Y.iinc dX0_findLongest_224 rfl (by decide) rfl ?_
              refine Y.goto 130 dX0_findLongest_227 (by decide) ?_
              refine Y.sub (zs_s (zs_s (zs_s (zs_s (zs_s (zs_s (zs_s (zs_s (zs_s (zs_s (zs_s (zs_s (zs_s (zs_n zs_0)))))))))))))) ?_
              first
                | (rw [if_neg (by omega)] at m7
                   exact ih2 _ s2 _ _ ⟨by omega, by omega, by omega, by omega, m4, m5, m6, m7, hwm⟩ (by omega))
                | (rw [if_pos (by omega)] at m7
                   refine ih2 _ (fv p l C x (x / 3 * 3 + k) q, (x / 3 * 3 + k) % 3, q, bz p l C x (x / 3 * 3 + k)) _ _ ⟨by omega, by omega, by omega, by omega, (((m4.up (by omega) (by omega)).up (by omega) (by omega)).up (by omega) (by omega)).up (by omega) (by omega), ⟨?_, fun _ => ⟨?_, ?_, ?_⟩⟩, ⟨?_, hfv.2, fun _ => ⟨?_, ?_, m1, ?_, hbz.1, hbz.2⟩⟩, m7, hwm⟩ (by omega)
                   · rw [zu_ne (by omega), zu_ne (by omega), zu_ne (by omega), zu_eq]
                   · rw [zu_ne (by omega), zu_ne (by omega), zu_eq]
                     show k = (x / 3 * 3 + k) % 3
                     omega
                   · rw [zu_ne (by omega), zu_eq]
                   · rw [zu_eq]; rfl
                   · show 0 ≤ fv p l C x (x / 3 * 3 + k) q
                     omega
                   · show 0 ≤ (x / 3 * 3 + k) % 3
                     omega
                   · show (x / 3 * 3 + k) % 3 < 3
                     omega
                   · show q < 200
                     omega)
          · have hnn : fnd p l C x = none := by rw [← m7, fq_1 (by omega), if_pos (by omega)]; rfl
            refine Y.iconst dX0_findLongest_160 ?_
            exact Y.zret dX0_findLongest_161 rfl (by decide) (hP _ _ ⟨zrI (zb_f (fun q => q hnn)).symm, m4, fun v hv => by rw [hnn] at hv; cases hv⟩)
      · have hnn : fnd p l C x = none := by
          rw [← j6, fk_1 k3 ho]
          unfold fk1 bz
          rw [if_pos (by omega)]
          rfl
        refine Y.iconst dX0_findLongest_103 ?_
        exact Y.zret dX0_findLongest_104 rfl (by decide) (hP _ _ ⟨zrI (zb_f (fun q => q hnn)).symm, j3, fun v hv => by rw [hnn] at hv; cases hv⟩)
    refine Y.iload_n dX0_findLongest_56 rfl ?_
    refine Y.iconst dX0_findLongest_57 ?_
    refine Y.imul dX0_findLongest_58 ?_
    refine Y.iload dX0_findLongest_59 rfl ?_
    refine Y.iadd dX0_findLongest_61 ?_
    refine Y.istore dX0_findLongest_62 (by decide) rfl ?_
    refine Y.iload dX0_findLongest_64 rfl ?_
    refine Y.iload_n dX0_findLongest_66 rfl ?_
    refine Y.icmp_eq 86 dX0_findLongest_67 (by decide) (by omega) (by omega) (fun h_67 => ?_) (fun h_67 => ?_)
    · exact k86 ⟨h0, h9, ht, by omega, by first | exact Or.inl (by omega) | exact Or.inr (by assumption)⟩ (by omega)
    · refine Y.aload_n dX0_findLongest_70 rfl ?_
      refine Y.getf dX0_findLongest_71 flX0_45 (obA hb) rfl ?_
      refine Y.iload_n dX0_findLongest_74 rfl ?_
      refine Y.iload dX0_findLongest_75 rfl ?_
      refine Y.cVI dX0_findLongest_77 mkX2_isRival csX0_135 ob1 ⟨_, rfl, rfl⟩ (k_X2_isRival ec hp (by omega) (by omega) (by omega) (by omega)) (by omega) rfl rfl (Nat.le_of_ble_eq_true rfl) ?_
      refine Y.ifz_ne 86 dX0_findLongest_80 (by decide) (fun h_80 => ?_) (fun h_80 => ?_)
      · exact k86 ⟨h0, h9, ht, by omega, by first | exact Or.inl (by omega) | exact Or.inr (by assumption)⟩ (by omega)
      · refine Y.goto 230 dX0_findLongest_83 (by decide) ?_
        refine Y.iinc dX0_findLongest_230 rfl (by decide) rfl ?_
        refine Y.goto 42 dX0_findLongest_233 (by decide) ?_
        refine Y.sub (zs_s (zs_s (zs_s (zs_s (zs_s (zs_s (zs_s (zs_n (zs_n (zs_n (zs_n (zs_n (zs_n (zs_n zs_0)))))))))))))) ?_
        rw [fk_2 (by omega) (fun ho => ho.2.2.2.2.elim (by omega) (by assumption))] at j6
        exact ih _ s _ ⟨by omega, by omega, j3, j4, j5, j6⟩ (by omega)
end ZG4
