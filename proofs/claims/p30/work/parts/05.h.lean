section ZG6
variable {σ : zS}
/-! rounds -/
def ALL : Int → Prop := fun _ => True
def okx (p : zP) (l : Int → Int) (x : Int) : Prop := ¬ ovl p x ∧ fnd p l ALL x ≠ none
def bA (p : zP) (l : Int → Int) : Prop := ∀ x : Int, 0 ≤ x → x < 9 → th p x → okx p l x
noncomputable def bv (p : zP) (l : Int → Int) (x : Int) : aA := (fnd p l ALL x).getD (0, 0, 0, 0)
noncomputable def nl (p : zP) (l : Int → Int) (x : Int) : Int := @ite _ (x % 3 ≠ 0 ∧ th p x) (Classical.propDecidable _) (max (l x) ((bv p l (x - 1)).1 + p 9 x - ear p x)) (l x)
def chx (p : zP) (l : Int → Int) (n : Int) : Prop := ∃ y : Int, 0 ≤ y ∧ y < n ∧ nl p l y ≠ l y
def chg (p : zP) (l : Int → Int) : Prop := chx p l 9
def l0 (p : zP) (x : Int) : Int := if x % 3 = 0 then p 1 (x / 3) else 0
noncomputable def stl (p : zP) : Nat → Int → (Int → Int) → Option (Int × (Int → Int))
  | 0, _, _ => none
  | n + 1, r, l => @ite _ (bA p l) (Classical.propDecidable _) (@ite _ (chg p l) (Classical.propDecidable _) (stl p n (r + 1) (nl p l)) (some (r, l))) none
noncomputable def SR (p : zP) : Option (Int × (Int → Int)) := stl p 20 1 (l0 p)
theorem stl_n {p : zP} {r : Int} {l : Int → Int} (h : r ≤ 20) (hb : ¬ bA p l) : stl p (21 - r).toNat r l = none := by
  rw [show (21 - r).toNat = (21 - (r + 1)).toNat + 1 by omega]
  show @ite _ (bA p l) (Classical.propDecidable _) _ _ = _
  rw [if_neg hb]
theorem stl_c {p : zP} {r : Int} {l : Int → Int} (h : r ≤ 20) (hb : bA p l) (hc : chg p l) : stl p (21 - r).toNat r l = stl p (21 - (r + 1)).toNat (r + 1) (nl p l) := by
  rw [show (21 - r).toNat = (21 - (r + 1)).toNat + 1 by omega]
  show @ite _ (bA p l) (Classical.propDecidable _) _ _ = _
  rw [if_pos hb, if_pos hc]
theorem stl_e {p : zP} {r : Int} {l : Int → Int} (h : r ≤ 20) (hb : bA p l) (hc : ¬ chg p l) : stl p (21 - r).toNat r l = some (r, l) := by
  rw [show (21 - r).toNat = (21 - (r + 1)).toNat + 1 by omega]
  show @ite _ (bA p l) (Classical.propDecidable _) _ _ = _
  rw [if_pos hb, if_neg hc]
theorem stl_0 {p : zP} {r : Int} {l : Int → Int} (h : 21 ≤ r) : stl p (21 - r).toNat r l = none := by
  rw [show (21 - r).toNat = 0 by omega]
  rfl
theorem th_prev {p : zP} {x : Int} (h : x % 3 ≠ 0) (ht : th p x) : th p (x - 1) := by
  unfold th at *
  rw [show (x - 1) / 3 = x / 3 by omega]
  omega
theorem ear_s {p : zP} {x : Int} (h0 : 0 ≤ x) (h : x % 3 ≠ 0) : ear p x = ear p (x - 1) + p 7 (x - 1) + p 9 x := by
  unfold ear
  have e := sm_s (f := fun y => p 9 y + p 7 y) (a := x - x % 3) (i := x - 1) (by omega)
  rw [show x - 1 + 1 = x by omega] at e
  rw [show x - 1 - (x - 1) % 3 = x - x % 3 by omega, e]
  omega
theorem bv_s {p : zP} {l : Int → Int} {x : Int} (h : okx p l x) : fnd p l ALL x = some (bv p l x) := by
  unfold bv
  cases hf : fnd p l ALL x with
  | none => exact absurd hf h.2
  | some v => rfl
theorem nl_b {p : zP} (hp : WP p) {l : Int → Int} (hl : WL l) (hb : bA p l) : WL (nl p l) := by
  intro x h0 h9
  have hx := hl x h0 h9
  unfold nl
  by_cases q : x % 3 ≠ 0 ∧ th p x
  · rw [if_pos q]
    have ht := th_prev q.1 q.2
    have hv := fnd_b hp hl ALL (x := x - 1) (by omega) (by omega) ht (bv_s (hb (x - 1) (by omega) (by omega) ht))
    have hv2 := hv.1.2.1
    have he := ear_s (p := p) h0 q.1
    have hc := hp.2.2 (x - 1) (by omega) (by omega) ht
    have hx1 := hl (x - 1) (by omega) (by omega)
    omega
  · rw [if_neg q]
    exact hx
theorem nl_bb {p : zP} (hp : WP p) {l : Int → Int} (hl : WL l) (hb : bA p l) {x : Int} (h0 : 0 ≤ x) (h9 : x < 9) (h3 : x % 3 ≠ 0) (ht : th p x) : 1 ≤ (bv p l (x - 1)).1 ∧ (bv p l (x - 1)).1 ≤ 746 ∧ nl p l x = max (l x) ((bv p l (x - 1)).1 + p 9 x - ear p x) := by
  have ht1 := th_prev h3 ht
  have hv := fnd_b hp hl ALL (x := x - 1) (by omega) (by omega) ht1 (bv_s (hb (x - 1) (by omega) (by omega) ht1))
  have hv2 := hv.1.2.1
  have hx1 := hl.b (x := x - 1) (by omega) (by omega)
  have he := ear_b hp (x := x - 1) (by omega) (by omega)
  refine ⟨hv.2, by omega, ?_⟩
  unfold nl
  rw [if_pos ⟨h3, ht⟩]
theorem nl_e {p : zP} {l : Int → Int} {x : Int} (h : ¬ (x % 3 ≠ 0 ∧ th p x)) : nl p l x = l x := by
  unfold nl
  rw [if_neg h]
theorem l0_b {p : zP} (hp : WP p) : WL (l0 p) := by
  intro x h0 h9
  have := (hp.1 (x / 3) (by omega) (by omega)).2.1
  unfold l0
  split <;> omega
theorem bv_b {p : zP} (hp : WP p) {l : Int → Int} (hl : WL l) (hb : bA p l) {x : Int} (h0 : 0 ≤ x) (h9 : x < 9) (ht : th p x) : (1 ≤ (bv p l x).1 ∧ (bv p l x).1 ≤ 746) ∧ (0 ≤ (bv p l x).2.1 ∧ (bv p l x).2.1 < 3) ∧ (0 ≤ (bv p l x).2.2.1 ∧ (bv p l x).2.2.1 < 200) ∧ 1 ≤ (bv p l x).2.2.2 ∧ (bv p l x).2.2.2 ≤ 200 := by
  have hv := fnd_b hp hl ALL h0 h9 ht (bv_s (hb x h0 h9 ht))
  have hv2 := hv.1.2.1
  have hx1 := hl.b h0 h9
  have he := ear_b hp h0 h9
  have h5 := hv.1.2.2 (by omega)
  exact ⟨⟨hv.2, by omega⟩, ⟨h5.1, h5.2.1⟩, ⟨h5.2.2.1, h5.2.2.2.1⟩, h5.2.2.2.2⟩
theorem stl_wl {p : zP} (hp : WP p) : ∀ (n : Nat) (r : Int) (l : Int → Int) (q : Int × (Int → Int)), WL l → stl p n r l = some q → WL q.2 ∧ bA p q.2 ∧ r ≤ q.1 ∧ q.1 < r + n
  | 0, _, _, _, _, h => by cases h
  | n + 1, r, l, q, hl, h => by
    have h' : @ite _ (bA p l) (Classical.propDecidable _) (@ite _ (chg p l) (Classical.propDecidable _) (stl p n (r + 1) (nl p l)) (some (r, l))) none = some q := h
    by_cases hb : bA p l
    · rw [if_pos hb] at h'
      by_cases hc : chg p l
      · rw [if_pos hc] at h'
        have := stl_wl hp n (r + 1) (nl p l) q (nl_b hp hl hb) h'
        exact ⟨this.1, this.2.1, by omega, by omega⟩
      · rw [if_neg hc] at h'
        obtain rfl := Option.some.inj h'
        exact ⟨hl, hb, by show r ≤ r; omega, by show r < r + ((n + 1 : Nat) : Int); omega⟩
    · rw [if_neg hb] at h'; cases h'
theorem SR_b {p : zP} (hp : WP p) {q : Int × (Int → Int)} (h : SR p = some q) : WL q.2 ∧ bA p q.2 ∧ 1 ≤ q.1 ∧ q.1 ≤ 20 := by
  have := stl_wl hp 20 1 (l0 p) q (l0_b hp) h
  exact ⟨this.1, this.2.1, this.2.2.1, by omega⟩
/-! boundAll -/
def BV (b : Nat) (t : zS) (p : zP) (l : Int → Int) (n : Int) : Prop := ∀ y : Int, 0 ≤ y → y < n → th p y → t.1 (b + 3) y = (bv p l y).1 ∧ t.1 (b + 4) y = (bv p l y).2.1 ∧ t.1 (b + 5) y = (bv p l y).2.2.1 ∧ t.1 (b + 6) y = (bv p l y).2.2.2
def zFB (b : Nat) (σ t : zS) : Prop := t.2 = σ.2 ∧ (∀ c : Nat, c ≠ b → (c < b + 3 ∨ b + 11 < c) → t.1 c = σ.1 c) ∧ ∀ i : Int, (i < 12 ∨ 15 < i) → t.1 b i = σ.1 b i
theorem zFB.up {b : Nat} {σ t : zS} {c : Nat} {i v : Int} (h : zFB b σ t) (hc : b + 3 ≤ c) (hc2 : c ≤ b + 11) : zFB b σ (zu t c i v) :=
  ⟨h.1, fun e h1 h2 => by rw [zu_nc (by omega)]; exact h.2.1 e h1 h2, fun j hj => by rw [zu_nc (by omega)]; exact h.2.2 j hj⟩
theorem zFB.tp {b : Nat} {σ t s : zS} (h : zFB b σ t) (h2 : aFp b t s) : zFB b σ s := ⟨h2.1.trans h.1, fun c q1 q2 => (h2.2 c (by omega) (by omega)).trans (h.2.1 c q1 q2), fun i q => by rw [h2.2 b (by omega) (by omega)]; exact h.2.2 i q⟩
theorem zFB.tg {b : Nat} {σ t s : zS} (h : zFB b σ t) (h2 : zFg b t s) : zFB b σ s := ⟨h2.1.trans h.1, fun c q1 q2 => (h2.2 c (by omega) (by omega) (by omega)).trans (h.2.1 c q1 q2), fun i q => by rw [h2.2 b (by omega) (by omega) (by omega)]; exact h.2.2 i q⟩
theorem zFB.tb {b : Nat} {σ t s : zS} (h : zFB b σ t) (h2 : zFb b t s) : zFB b σ s := ⟨h2.1.trans h.1, fun c q1 q2 => (h2.2.1 c q1).trans (h.2.1 c q1 q2), fun i q => (h2.2.2 i q).trans (h.2.2 i q)⟩
theorem BV.fr {b : Nat} {t s : zS} {p : zP} {l : Int → Int} {n : Int} (h : BV b t p l n) (hf : ∀ c : Nat, b + 3 ≤ c → c ≤ b + 6 → s.1 c = t.1 c) : BV b s p l n := by
  unfold BV
  rw [hf _ (by omega) (by omega), hf _ (by omega) (by omega), hf _ (by omega) (by omega), hf _ (by omega) (by omega)]
  exact h
theorem PP.fr {b : Nat} {t s : zS} {p : zP} {l : Int → Int} (h : PP b t p l) (hf : ∀ c : Nat, b + 7 ≤ c → c ≤ b + 8 → s.1 c = t.1 c) : PP b s p l := by
  unfold PP
  rw [hf _ (by omega) (by omega), hf _ (by omega) (by omega)]
  exact h
theorem BV.put {b : Nat} {t : zS} {p : zP} {l : Int → Int} {x : Int} {v : aA} (h : BV b t p l x) (hv : fnd p l ALL x = some v) : BV b (zu (zu (zu (zu t (b + 3) x v.1) (b + 4) x v.2.1) (b + 5) x v.2.2.1) (b + 6) x v.2.2.2) p l (x + 1) := by
  have e : bv p l x = v := by unfold bv; rw [hv]; rfl
  intro y a c d
  by_cases q : y = x
  · subst q
    rw [e]
    exact ⟨by rw [zu_nc (by omega), zu_nc (by omega), zu_nc (by omega), zu_eq], by rw [zu_nc (by omega), zu_nc (by omega), zu_eq], by rw [zu_nc (by omega), zu_eq], by rw [zu_eq]⟩
  · obtain ⟨h1, h2, h3, h4⟩ := h y a (by omega) d
    exact ⟨by rw [zu_nc (by omega), zu_nc (by omega), zu_nc (by omega), zu_ne q]; exact h1, by rw [zu_nc (by omega), zu_nc (by omega), zu_ne q, zu_nc (by omega)]; exact h2, by rw [zu_nc (by omega), zu_ne q, zu_nc (by omega), zu_nc (by omega)]; exact h3, by rw [zu_ne q, zu_nc (by omega), zu_nc (by omega), zu_nc (by omega)]; exact h4⟩
set_option maxHeartbeats 8000000 in
theorem c_X0_boundAll {b : Nat} (hb : zAb b) {p : zP} {l : Int → Int} (hA : AP b σ p l) : YC 5 μX0_boundAll [.ref b] σ (fun r s => r = some (.int (zi (zb (bA p l)))) ∧ zFB b σ s ∧ (bA p l → PP b s p l ∧ BV b s p l 9)) := by
  refine YC.of2 (by decide) (Nat.le_of_ble_eq_true rfl) (fun d P hd hP => ?_)
  have hp := hA.wp
  have hl := hA.wl
  refine Y.aload_n dX0_boundAll_0 rfl ?_
  refine Y.callV dX0_boundAll_1 mkX0_placeComings csX0_111 (obA hb) ⟨_, rfl, rfl⟩ (c_X0_placeComings hb hA) (by omega) rfl rfl (Nat.le_of_ble_eq_true rfl) (fun r_1 s_1 p_1 => ?_)
  obtain ⟨rfl, f_1, g_1⟩ := p_1
  refine Y.iconst dX0_boundAll_4 ?_
  refine Y.istore_n dX0_boundAll_5 (by decide) rfl ?_
  refine zw2 (fun t x => (0 ≤ x ∧ x ≤ 9 ∧ zFB b σ t ∧ PP b t p l ∧ (∀ y : Int, 0 ≤ y → y < x → th p y → okx p l y) ∧ BV b t p l x)) (fun t x => Y d μX0_boundAll 6 [some (.ref b), some (.int (zi x))] [] t P) (fun t x => (9 - x).toNat) ?_ _ _ ⟨by omega, by omega, zFB.tp ⟨rfl, fun _ _ _ => rfl, fun _ _ => rfl⟩ f_1, g_1, fun y a c => by omega, fun y a c => by omega⟩
  intro t x hI ih
  obtain ⟨j1, j2, j3, j4, j5, j6⟩ := hI
  have hb' : b = 14 ∨ b = 26 := hb
  have hA1 : AP b t p l := hA.fr (fun c hc => j3.2.1 c (by omega) (by omega))
  have ec := hA1.1
  refine Y.iload_n dX0_boundAll_6 rfl ?_
  refine Y.bipush dX0_boundAll_7 (by decide +kernel) ?_
  refine Y.icmp_ge 98 dX0_boundAll_9 (by decide) (by omega) (by omega) (fun h_9 => ?_) (fun h_9 => ?_)
  · refine Y.iconst dX0_boundAll_98 ?_
    exact Y.zret dX0_boundAll_99 rfl (by decide) (hP _ _ ⟨zrI (zb_t (fun y a c e => j5 y a (by omega) e)).symm, j3, fun q => ⟨j4, fun y a c e => j6 y a (by omega) e⟩⟩)
  · refine Y.aload_n dX0_boundAll_12 rfl ?_
    refine Y.getf dX0_boundAll_13 flX0_45 (obA hb) rfl ?_
    refine Y.iload_n dX0_boundAll_16 rfl ?_
    refine Y.cVI dX0_boundAll_17 mkX2_isStep csX0_114 ob1 ⟨_, rfl, rfl⟩ (k_X2_isStep ec hp (by omega) (by omega)) (by omega) rfl rfl (Nat.le_of_ble_eq_true rfl) ?_
    refine Y.ifz_ne 26 dX0_boundAll_20 (by decide) (fun h_20 => ?_) (fun h_20 => ?_)
    · refine Y.aload_n dX0_boundAll_26 rfl ?_
      refine Y.iload_n dX0_boundAll_27 rfl ?_
      refine Y.callV dX0_boundAll_28 mkX0_gatherRivals csX0_81 (obA hb) ⟨_, rfl, rfl⟩ (c_X0_gatherRivals hb ec hp (by omega) (by omega)) (by omega) rfl rfl (Nat.le_of_ble_eq_true rfl) (fun r_28 s_28 p_28 => ?_)
      obtain ⟨rfl, f_28, g_28, a_28⟩ := p_28
      have hA2 : AP b s_28 p l := hA1.fr (fun c hc => f_28.2 c (by omega) (by omega) (by omega))
      have ec2 := hA2.1
      have hX2 : AX b s_28 p l x ALL := ⟨hA2, j4.fr (fun c a e => f_28.2 c (by omega) (by omega) (by omega)), g_28, fun i j a1 a2 a3 a4 a5 a6 => ⟨fun _ => Or.inl (a_28 i a1 a2), fun _ => trivial⟩, fun i a1 a2 => by have := a_28 i a1 a2; omega⟩
      refine Y.aload_n dX0_boundAll_31 rfl ?_
      refine Y.getf dX0_boundAll_32 flX0_45 (obA hb) rfl ?_
      refine Y.iload_n dX0_boundAll_35 rfl ?_
      refine Y.cVI dX0_boundAll_36 mkX2_isOverloaded csX0_117 ob1 ⟨_, rfl, rfl⟩ (k_X2_isOverloaded ec2 hp (by omega) (by omega)) (by omega) rfl rfl (Nat.le_of_ble_eq_true rfl) ?_
      refine Y.ifz_ne 50 dX0_boundAll_39 (by decide) (fun h_39 => ?_) (fun h_39 => ?_)
      · refine Y.iconst dX0_boundAll_50 ?_
        exact Y.zret dX0_boundAll_51 rfl (by decide) (hP _ _ ⟨zrI (zb_f (fun q => by have q2 := q x j1 (by omega) (by assumption); first | exact absurd (by assumption) q2.1 | exact absurd q2.2 (by assumption))).symm, by first | exact (j3.tg f_28).tb f_44 | exact j3.tg f_28, fun q => absurd (q x j1 (by omega) (by assumption)) (fun q2 => by first | exact absurd (by assumption) q2.1 | exact absurd q2.2 (by assumption))⟩)
      · refine Y.aload_n dX0_boundAll_42 rfl ?_
        refine Y.iload_n dX0_boundAll_43 rfl ?_
        refine Y.callV dX0_boundAll_44 mkX0_findLongest csX0_85 (obA hb) ⟨_, rfl, rfl⟩ (c_X0_findLongest hb hX2 (by omega) (by omega) (by assumption)) (by omega) rfl rfl (Nat.le_of_ble_eq_true rfl) (fun r_44 s_44 p_44 => ?_)
        obtain ⟨rfl, f_44, g_44⟩ := p_44
        refine Y.ifz_ne 52 dX0_boundAll_47 (by decide) (fun h_47 => ?_) (fun h_47 => ?_)
        · refine Y.aload_n dX0_boundAll_52 rfl ?_
          refine Y.getf dX0_boundAll_53 flX0_18 (obA hb) rfl ?_
          refine Y.iload_n dX0_boundAll_56 rfl ?_
          refine Y.aload_n dX0_boundAll_57 rfl ?_
          refine Y.getf dX0_boundAll_58 flX0_89 (obA hb) rfl ?_
          refine Y.iast dX0_boundAll_61 (iaA3 hb) (by omega) (by omega) ?_
          refine Y.aload_n dX0_boundAll_62 rfl ?_
          refine Y.getf dX0_boundAll_63 flX0_21 (obA hb) rfl ?_
          refine Y.iload_n dX0_boundAll_66 rfl ?_
          refine Y.aload_n dX0_boundAll_67 rfl ?_
          refine Y.getf dX0_boundAll_68 flX0_120 (obA hb) rfl ?_
          refine Y.iast dX0_boundAll_71 (iaA4 hb) (by omega) (by omega) ?_
          refine Y.aload_n dX0_boundAll_72 rfl ?_
          refine Y.getf dX0_boundAll_73 flX0_24 (obA hb) rfl ?_
          refine Y.iload_n dX0_boundAll_76 rfl ?_
          refine Y.aload_n dX0_boundAll_77 rfl ?_
          refine Y.getf dX0_boundAll_78 flX0_123 (obA hb) rfl ?_
          refine Y.iast dX0_boundAll_81 (iaA5 hb) (by omega) (by omega) ?_
          refine Y.aload_n dX0_boundAll_82 rfl ?_
          refine Y.getf dX0_boundAll_83 flX0_27 (obA hb) rfl ?_
          refine Y.iload_n dX0_boundAll_86 rfl ?_
          refine Y.aload_n dX0_boundAll_87 rfl ?_
          refine Y.getf dX0_boundAll_88 flX0_126 (obA hb) rfl ?_
          refine Y.iast dX0_boundAll_91 (iaA6 hb) (by omega) (by omega) ?_
          refine Y.iinc dX0_boundAll_92 rfl (by decide) rfl ?_
          refine Y.goto 6 dX0_boundAll_95 (by decide) ?_
          first
            | exact ih _ _ ⟨by omega, by omega, j3, j4, fun y a c e => if q : y = x then absurd (q ▸ e) (by assumption) else j5 y a (by omega) e, fun y a c e => if q : y = x then absurd (q ▸ e) (by assumption) else j6 y a (by omega) e⟩ (by omega)
            | (have hok : okx p l x := ⟨by assumption, by assumption⟩
               obtain ⟨v, hv⟩ : ∃ v, fnd p l ALL x = some v := ⟨_, bv_s hok⟩
               obtain ⟨g1, g2, g3, g4⟩ := g_44 v hv
               rw [zu_nc (show b ≠ b + 3 by omega), zu_nc (show b ≠ b + 4 by omega), zu_nc (show b ≠ b + 5 by omega), zu_nc (show b ≠ b + 3 by omega), zu_nc (show b ≠ b + 4 by omega), zu_nc (show b ≠ b + 3 by omega), g1, g2, g3, g4]
               refine ih _ _ ⟨by omega, by omega, ((((j3.tg f_28).tb f_44).up (by omega) (by omega)).up (by omega) (by omega)).up (by omega) (by omega) |>.up (by omega) (by omega), ?_, ?_, ?_⟩ (by omega)
               · refine j4.fr (fun c a e => ?_)
                 rw [zu_nc (by omega), zu_nc (by omega), zu_nc (by omega), zu_nc (by omega), f_44.2.1 c (by omega), f_28.2 c (by omega) (by omega) (by omega)]
               · intro y a c e
                 by_cases q : y = x
                 · rw [q]; exact hok
                 · exact j5 y a (by omega) e
               · exact (j6.fr (fun c a e => by rw [f_44.2.1 c (by omega), f_28.2 c (by omega) (by omega) (by omega)])).put hv)
        · refine Y.iconst dX0_boundAll_50 ?_
          exact Y.zret dX0_boundAll_51 rfl (by decide) (hP _ _ ⟨zrI (zb_f (fun q => by have q2 := q x j1 (by omega) (by assumption); first | exact absurd (by assumption) q2.1 | exact absurd q2.2 (by assumption))).symm, by first | exact (j3.tg f_28).tb f_44 | exact j3.tg f_28, fun q => absurd (q x j1 (by omega) (by assumption)) (fun q2 => by first | exact absurd (by assumption) q2.1 | exact absurd q2.2 (by assumption))⟩)
    · refine Y.goto 92 dX0_boundAll_23 (by decide) ?_
      refine Y.iinc dX0_boundAll_92 rfl (by decide) rfl ?_
      refine Y.goto 6 dX0_boundAll_95 (by decide) ?_
      first
        | exact ih _ _ ⟨by omega, by omega, j3, j4, fun y a c e => if q : y = x then absurd (q ▸ e) (by assumption) else j5 y a (by omega) e, fun y a c e => if q : y = x then absurd (q ▸ e) (by assumption) else j6 y a (by omega) e⟩ (by omega)
        | (have hok : okx p l x := ⟨by assumption, by assumption⟩
           obtain ⟨v, hv⟩ : ∃ v, fnd p l ALL x = some v := ⟨_, bv_s hok⟩
           obtain ⟨g1, g2, g3, g4⟩ := g_44 v hv
           rw [zu_nc (show b ≠ b + 3 by omega), zu_nc (show b ≠ b + 4 by omega), zu_nc (show b ≠ b + 5 by omega), zu_nc (show b ≠ b + 3 by omega), zu_nc (show b ≠ b + 4 by omega), zu_nc (show b ≠ b + 3 by omega), g1, g2, g3, g4]
           refine ih _ _ ⟨by omega, by omega, ((((j3.tg f_28).tb f_44).up (by omega) (by omega)).up (by omega) (by omega)).up (by omega) (by omega) |>.up (by omega) (by omega), ?_, ?_, ?_⟩ (by omega)
           · refine j4.fr (fun c a e => ?_)
             rw [zu_nc (by omega), zu_nc (by omega), zu_nc (by omega), zu_nc (by omega), f_44.2.1 c (by omega), f_28.2 c (by omega) (by omega) (by omega)]
           · intro y a c e
             by_cases q : y = x
             · rw [q]; exact hok
             · exact j5 y a (by omega) e
           · exact (j6.fr (fun c a e => by rw [f_44.2.1 c (by omega), f_28.2 c (by omega) (by omega) (by omega)])).put hv)
theorem chx_0 {p : zP} {l : Int → Int} : ¬ chx p l 0 := fun ⟨y, a, c, _⟩ => by omega
theorem chx_t {p : zP} {l : Int → Int} {x : Int} (h0 : 0 ≤ x) (h : nl p l x ≠ l x) : chx p l (x + 1) := ⟨x, h0, by omega, h⟩
theorem chx_f {p : zP} {l : Int → Int} {x : Int} (h : nl p l x = l x) : zb (chx p l (x + 1)) = zb (chx p l x) := by
  apply zb_c
  constructor
  · rintro ⟨y, a, c, e⟩
    by_cases q : y = x
    · rw [q] at e; exact absurd h e
    · exact ⟨y, a, by omega, e⟩
  · rintro ⟨y, a, c, e⟩
    exact ⟨y, a, by omega, e⟩

set_option maxHeartbeats 4000000 in
theorem c_X0_passLateness {b : Nat} (hb : zAb b) {p : zP} {l : Int → Int} (hA : AP b σ p l) (hbA : bA p l) (hBV : BV b σ p l 9) : YC 1 μX0_passLateness [.ref b] σ (fun r s => r = some (.int (zi (zb (chg p l)))) ∧ (s.2 = σ.2 ∧ ∀ c : Nat, c ≠ b + 2 → s.1 c = σ.1 c) ∧ ∀ y : Int, 0 ≤ y → y < 9 → s.1 (b + 2) y = nl p l y) := by
  refine YC.of2 (by decide) (Nat.le_of_ble_eq_true rfl) (fun d P hd hP => ?_)
  have hp := hA.wp
  have hl := hA.wl
  refine Y.iconst dX0_passLateness_0 ?_
  refine Y.istore_n dX0_passLateness_1 (by decide) rfl ?_
  refine Y.iconst dX0_passLateness_2 ?_
  refine Y.istore_n dX0_passLateness_3 (by decide) rfl ?_
  refine zw3 (fun t ch x => (ch = zb (chx p l x) ∧ 0 ≤ x ∧ x ≤ 9 ∧ (t.2 = σ.2 ∧ ∀ c : Nat, c ≠ b + 2 → t.1 c = σ.1 c) ∧ (∀ y : Int, 0 ≤ y → y < x → t.1 (b + 2) y = nl p l y) ∧ ∀ y : Int, x ≤ y → y < 9 → t.1 (b + 2) y = l y)) (fun t ch x => Y d μX0_passLateness 4 [some (.ref b), some (.int (zi ch)), some (.int (zi x)), none] [] t P) (fun t ch x => (9 - x).toNat) ?_ _ _ _ ⟨(zb_f chx_0).symm, by omega, by omega, ⟨rfl, fun _ _ => rfl⟩, fun y a c => by omega, fun y a c => hA.late (x := y) a c⟩
  intro t ch x hI ih
  obtain ⟨j0, j1, j2, j3, j4, j5⟩ := hI
  have hz : ch = 0 ∨ ch = 1 := by rw [j0]; exact zb_01
  have hb' : b = 14 ∨ b = 26 := hb
  have ec : cP t = p := (cP_c (fun c hc => j3.2 c (by omega))).trans hA.1
  refine Y.iload_n dX0_passLateness_4 rfl ?_
  refine Y.bipush dX0_passLateness_5 (by decide +kernel) ?_
  refine Y.icmp_ge 85 dX0_passLateness_7 (by decide) (by omega) (by omega) (fun h_7 => ?_) (fun h_7 => ?_)
  · refine Y.iload_n dX0_passLateness_85 rfl ?_
    exact Y.zret dX0_passLateness_86 rfl (by omega) (hP _ _ ⟨zrI (by rw [j0, show x = 9 by omega]; rfl), j3, fun y a c => j4 y a (by omega)⟩)
  · refine Y.iload_n dX0_passLateness_10 rfl ?_
    refine Y.iconst dX0_passLateness_11 ?_
    refine Y.iremp dX0_passLateness_12 (by omega) (by omega) (by omega) (by omega) ?_
    refine Y.if_eq 79 dX0_passLateness_13 (by decide) (by omega) (fun h_13 => ?_) (fun h_13 => ?_)
    · have hne : nl p l x = l x := nl_e (fun q => by omega)
      refine Y.iinc dX0_passLateness_79 rfl (by decide) rfl ?_
      refine Y.goto 4 dX0_passLateness_82 (by decide) ?_
      refine Y.sub (zs_s (zs_s (zs_s (zs_n zs_0)))) ?_
      first
        | (refine ih _ _ _ ⟨(zb_t (chx_t j1 (by omega))).symm, by omega, by omega, ⟨j3.1, fun c hc => by rw [zu_nc hc]; exact j3.2 c hc⟩, fun y a c => ?_, fun y a c => by rw [zu_ne (by omega)]; exact j5 y (by omega) c⟩ (by omega)
           by_cases q : y = x
           · rw [q, zu_eq]; omega
           · rw [zu_ne q]; exact j4 y a (by omega))
        | (refine ih _ _ _ ⟨j0.trans (chx_f hne).symm, by omega, by omega, j3, fun y a c => ?_, fun y a c => j5 y (by omega) c⟩ (by omega)
           by_cases q : y = x
           · rw [q, hne]; exact j5 x (by omega) (by omega)
           · exact j4 y a (by omega))
    · refine Y.aload_n dX0_passLateness_16 rfl ?_
      refine Y.getf dX0_passLateness_17 flX0_45 (obA hb) rfl ?_
      refine Y.iload_n dX0_passLateness_20 rfl ?_
      refine Y.cVI dX0_passLateness_21 mkX2_isStep csX0_114 ob1 ⟨_, rfl, rfl⟩ (k_X2_isStep ec hp (by omega) (by omega)) (by omega) rfl rfl (Nat.le_of_ble_eq_true rfl) ?_
      refine Y.ifz_ne 30 dX0_passLateness_24 (by decide) (fun h_24 => ?_) (fun h_24 => ?_)
      · have hnb := nl_bb hp hl hbA (by omega) (by omega) (by omega) (by assumption)
        have hth1 := th_prev (x := x) (by omega) (by assumption)
        have hbb := (hBV (x - 1) (by omega) (by omega) hth1).1
        have e3 : t.1 (b + 3) (x - 1) = (bv p l (x - 1)).1 := by rw [j3.2 _ (by omega)]; exact hbb
        have e9 : t.1 12 x = p 9 x := by rw [← ec]; rfl
        have hk9 := (hp.2.1 x (by omega) (by omega)).2.2.2
        have hea := ear_b hp (x := x) (by omega) (by omega)
        have h5x := j5 x (by omega) (by omega)
        have hlx := hl.b (x := x) (by omega) (by omega)
        refine Y.aload_n dX0_passLateness_30 rfl ?_
        refine Y.getf dX0_passLateness_31 flX0_18 (obA hb) rfl ?_
        refine Y.iload_n dX0_passLateness_34 rfl ?_
        refine Y.iconst dX0_passLateness_35 ?_
        refine Y.isub dX0_passLateness_36 ?_
        refine Y.iald dX0_passLateness_37 (iaA3 hb) (by omega) (by omega) ?_
        refine Y.aload_n dX0_passLateness_38 rfl ?_
        refine Y.getf dX0_passLateness_39 flX0_45 (obA hb) rfl ?_
        refine Y.getf dX0_passLateness_42 flX0_98 ob1 rfl ?_
        refine Y.iconst dX0_passLateness_45 ?_
        refine Y.aald dX0_passLateness_46 ra8 (by decide) (by decide) (by decide) rfl ?_
        refine Y.iload_n dX0_passLateness_47 rfl ?_
        refine Y.iald dX0_passLateness_48 ia12 (by omega) (by omega) ?_
        refine Y.iadd dX0_passLateness_49 ?_
        refine Y.aload_n dX0_passLateness_50 rfl ?_
        refine Y.getf dX0_passLateness_51 flX0_45 (obA hb) rfl ?_
        refine Y.iload_n dX0_passLateness_54 rfl ?_
        refine Y.cVI dX0_passLateness_55 mkX2_earliestOf csX0_108 ob1 ⟨_, rfl, rfl⟩ (k_X2_earliestOf ec hp (by omega) (by omega)) (by omega) rfl rfl (Nat.le_of_ble_eq_true rfl) ?_
        refine Y.isub dX0_passLateness_58 ?_
        refine Y.istore_n dX0_passLateness_59 (by decide) rfl ?_
        refine Y.iload_n dX0_passLateness_60 rfl ?_
        refine Y.aload_n dX0_passLateness_61 rfl ?_
        refine Y.getf dX0_passLateness_62 flX0_15 (obA hb) rfl ?_
        refine Y.iload_n dX0_passLateness_65 rfl ?_
        refine Y.iald dX0_passLateness_66 (iaA2 hb) (by omega) (by omega) ?_
        refine Y.icmp_le 79 dX0_passLateness_67 (by decide) (by omega) (by omega) (fun h_67 => ?_) (fun h_67 => ?_)
        · have hne : nl p l x = l x := by omega
          refine Y.iinc dX0_passLateness_79 rfl (by decide) rfl ?_
          refine Y.goto 4 dX0_passLateness_82 (by decide) ?_
          refine Y.sub (zs_s (zs_s (zs_s (zs_n zs_0)))) ?_
          first
            | (refine ih _ _ _ ⟨(zb_t (chx_t j1 (by omega))).symm, by omega, by omega, ⟨j3.1, fun c hc => by rw [zu_nc hc]; exact j3.2 c hc⟩, fun y a c => ?_, fun y a c => by rw [zu_ne (by omega)]; exact j5 y (by omega) c⟩ (by omega)
               by_cases q : y = x
               · rw [q, zu_eq]; omega
               · rw [zu_ne q]; exact j4 y a (by omega))
            | (refine ih _ _ _ ⟨j0.trans (chx_f hne).symm, by omega, by omega, j3, fun y a c => ?_, fun y a c => j5 y (by omega) c⟩ (by omega)
               by_cases q : y = x
               · rw [q, hne]; exact j5 x (by omega) (by omega)
               · exact j4 y a (by omega))
        · refine Y.aload_n dX0_passLateness_70 rfl ?_
          refine Y.getf dX0_passLateness_71 flX0_15 (obA hb) rfl ?_
          refine Y.iload_n dX0_passLateness_74 rfl ?_
          refine Y.iload_n dX0_passLateness_75 rfl ?_
          refine Y.iast dX0_passLateness_76 (iaA2 hb) (by omega) (by omega) ?_
          refine Y.iconst dX0_passLateness_77 ?_
          refine Y.istore_n dX0_passLateness_78 (by decide) rfl ?_
          refine Y.iinc dX0_passLateness_79 rfl (by decide) rfl ?_
          refine Y.goto 4 dX0_passLateness_82 (by decide) ?_
          refine Y.sub (zs_s (zs_s (zs_s (zs_n zs_0)))) ?_
          first
            | (refine ih _ _ _ ⟨(zb_t (chx_t j1 (by omega))).symm, by omega, by omega, ⟨j3.1, fun c hc => by rw [zu_nc hc]; exact j3.2 c hc⟩, fun y a c => ?_, fun y a c => by rw [zu_ne (by omega)]; exact j5 y (by omega) c⟩ (by omega)
               by_cases q : y = x
               · rw [q, zu_eq]; omega
               · rw [zu_ne q]; exact j4 y a (by omega))
            | (refine ih _ _ _ ⟨j0.trans (chx_f hne).symm, by omega, by omega, j3, fun y a c => ?_, fun y a c => j5 y (by omega) c⟩ (by omega)
               by_cases q : y = x
               · rw [q, hne]; exact j5 x (by omega) (by omega)
               · exact j4 y a (by omega))
      · have hne : nl p l x = l x := nl_e (fun q => absurd q.2 (by assumption))
        refine Y.goto 79 dX0_passLateness_27 (by decide) ?_
        refine Y.iinc dX0_passLateness_79 rfl (by decide) rfl ?_
        refine Y.goto 4 dX0_passLateness_82 (by decide) ?_
        refine Y.sub (zs_s (zs_s (zs_s (zs_n zs_0)))) ?_
        first
          | (refine ih _ _ _ ⟨(zb_t (chx_t j1 (by omega))).symm, by omega, by omega, ⟨j3.1, fun c hc => by rw [zu_nc hc]; exact j3.2 c hc⟩, fun y a c => ?_, fun y a c => by rw [zu_ne (by omega)]; exact j5 y (by omega) c⟩ (by omega)
             by_cases q : y = x
             · rw [q, zu_eq]; omega
             · rw [zu_ne q]; exact j4 y a (by omega))
          | (refine ih _ _ _ ⟨j0.trans (chx_f hne).symm, by omega, by omega, j3, fun y a c => ?_, fun y a c => j5 y (by omega) c⟩ (by omega)
             by_cases q : y = x
             · rw [q, hne]; exact j5 x (by omega) (by omega)
             · exact j4 y a (by omega))
end ZG6
