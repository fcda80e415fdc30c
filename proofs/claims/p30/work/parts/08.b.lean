section ZM2
theorem max_ex {P : Int → Prop} {M : Int} (h : ∀ v : Int, P v → v ≤ M) : ∀ (n : Nat) (v : Int), P v → M - v ≤ n → ∃ v : Int, P v ∧ ∀ w : Int, P w → w ≤ v
  | 0, v, hv, hn => ⟨v, hv, fun w hw => by have := h w hw; omega⟩
  | n + 1, v, hv, hn => by
    by_cases q : ∃ w : Int, P w ∧ v < w
    · obtain ⟨w, hw, hl⟩ := q
      exact max_ex h n w hw (by omega)
    · refine ⟨v, hv, fun w hw => ?_⟩
      rcases Int.lt_or_le v w with c | c
      · exact absurd ⟨w, hw, c⟩ q
      · exact c
theorem srS_s {p : zP} (hp : WP p) {l : Int → Int} (hl : WL l) {x : Int} {s : aA} (h : fnd p l ALL x = some s) : (∀ a b : Int, inr p x ((x / 3 + 1) % 3) ((x / 3 + 2) % 3) a b → ∃ r, fs p l x ((x / 3 + 1) % 3) a ((x / 3 + 2) % 3) b = some r ∧ r.1 ≤ srS p l x) ∧ ∃ (a b : Int) (r : aA), inr p x ((x / 3 + 1) % 3) ((x / 3 + 2) % 3) a b ∧ fs p l x ((x / 3 + 1) % 3) a ((x / 3 + 2) % 3) b = some r ∧ r.1 = srS p l x ∧ r.1 ≤ s.1 := by
  generalize hi1 : (x / 3 + 1) % 3 = i1
  generalize hi2 : (x / 3 + 2) % 3 = i2
  have key : ∀ a b : Int, ∃ r, fs p l x i1 a i2 b = some r ∧ r.1 ≤ s.1 := fun a b =>
    fnd_le (fnd_0 h) (fun k ho => GD.le hp hl ho (fun u t ht => Fn_C hp hl x k u (fun _ _ => trivial) ht) (fnd_ge h ho))
  obtain ⟨r0, hr0, hs0⟩ := key 0 0
  have n1 := na_b p x i1
  have n2 := na_b p x i2
  obtain ⟨v, ⟨a, b, r, g1, g2, g3⟩, hv⟩ := max_ex (P := fun v => ∃ (a b : Int) (r : aA), inr p x i1 i2 a b ∧ fs p l x i1 a i2 b = some r ∧ r.1 = v) (M := s.1) (fun v ⟨a, b, r, _, e, f⟩ => by
    obtain ⟨r', e', f'⟩ := key a b
    rw [e] at e'
    cases e'
    omega) (s.1 - r0.1).toNat r0.1 ⟨0, 0, r0, ⟨by omega, by omega, by omega, by omega⟩, hr0, rfl⟩ (by omega)
  have hall : ∀ a b : Int, inr p x i1 i2 a b → ∃ r, fs p l x i1 a i2 b = some r ∧ r.1 ≤ v := fun a b hi => by
    obtain ⟨r', e', f'⟩ := key a b
    exact ⟨r', e', hv r'.1 ⟨a, b, r', hi, e', rfl⟩⟩
  have e : srS p l x = v := srS_e (by rw [hi1, hi2]; exact Or.inr ⟨hall, a, b, r, g1, g2, g3⟩)
  rw [e]
  obtain ⟨r', e', f'⟩ := key a b
  rw [g2] at e'
  cases e'
  exact ⟨hall, a, b, r, g1, g2, g3, f'⟩
theorem srS_le {p : zP} (hp : WP p) {l : Int → Int} (hl : WL l) {x : Int} (h0 : 0 ≤ x) (h9 : x < 9) (ht : th p x) {s : aA} (h : fnd p l ALL x = some s) : srS p l x ≤ s.1 ∧ ear p x + p 7 x + l x ≤ srS p l x := by
  obtain ⟨_, a, b, r, g1, g2, g3, g4⟩ := srS_s hp hl h
  have := fnd_lo hp hl h0 h9 ht (show fnd p l _ x = some r from g2)
  omega
/-! the rough count is no less -/
theorem ediv_a {a b T : Int} (hT : 0 < T) : a / T + b / T ≤ (a + b) / T := by
  refine Int.le_ediv_of_mul_le hT ?_
  have h1 := Int.ediv_mul_le a (show T ≠ 0 by omega)
  have h2 := Int.ediv_mul_le b (show T ≠ 0 by omega)
  rw [Int.add_mul]
  omega
theorem cm_q {p : zP} (hp : WP p) (l : Int → Int) {j : Int} (k t : Int) (h0 : 0 ≤ j) (h9 : j < 9) : cm p l j k t ≤ qc p l j t := by
  have hT := hp.per (i := j / 3) (by omega) (by omega)
  have h := ediv_a (a := l j + phi p l j k) (b := t - phi p l j k + p 0 (j / 3) - 1) (T := p 0 (j / 3)) (by omega)
  unfold cm elr qc
  rw [show l j + phi p l j k + (t - phi p l j k + p 0 (j / 3) - 1) = l j + t + p 0 (j / 3) - 1 by omega] at h
  exact h
noncomputable def bqk (p : zP) (l : Int → Int) (x t i : Int) : Int := sm (fun j => zb (riv p x j) * gq p l t j) (i * 3) 3
theorem wk_q {p : zP} (hp : WP p) {l : Int → Int} (hl : WL l) (x : Int) {k t : Int} (h0 : 0 ≤ k) (h9 : k < 9) (ht : 1 ≤ t) : wk p l x k t ≤ bqk p l x t (k / 3) :=
  sm_m 3 (fun i a b => by
    have h1 := wkt_b hp hl (j := i) k (by omega) (by omega) ht (Int.le_refl t)
    have h2 : cm p l i k t * p 7 i ≤ gq p l t i := Int.mul_le_mul_of_nonneg_right (cm_q hp l k t (by omega) (by omega)) (hp.2.1 i (by omega) (by omega)).2.1.1
    exact (zb_m h1.1 h2).2.1)
theorem bqk_0 {p : zP} (hp : WP p) {l : Int → Int} (hl : WL l) (x : Int) {t i : Int} (h0 : 0 ≤ i) (h3 : i < 3) (ht : 1 ≤ t) : 0 ≤ bqk p l x t i :=
  (sm_at 3 (fun j a b => (zb_m (gq_m hp hl (j := j) (by omega) (by omega) ht (Int.le_refl t)).1 (Int.le_refl _)).1)).1
theorem ot_q {p : zP} (hp : WP p) {l : Int → Int} (hl : WL l) (x : Int) (C : Int → Prop) {t i : Int} (h0 : 0 ≤ i) (h3 : i < 3) (ht : 1 ≤ t) : ot p l x C i t ≤ bqk p l x t i :=
  (mx_b (bqk_0 hp hl x h0 h3 ht) 3 (fun k a b => by
    have h1 := wk_q hp hl x (k := k) (by omega) (by omega) ht
    rw [show k / 3 = i by omega] at h1
    have h2 := (wk_m hp hl x (k := k) (by omega) (by omega) ht (Int.le_refl t)).1
    have h3 := zb_m (Q := C k) h2 h1
    have h4 := zb_m (Q := riv p x k) h3.1 (Int.le_refl _)
    have h5 := h3.2.1
    have h6 := h3.2.2
    omega)).2
theorem Fn_q {p : zP} (hp : WP p) {l : Int → Int} (hl : WL l) (C : Int → Prop) {x k : Int} (u : Int) (h0 : 0 ≤ x) (h9 : x < 9) (hk : k / 3 = x / 3) {t : Int} (ht : 1 ≤ t) : Fn p l C x k u t ≤ Fq p l x u t := by
  have h1 := wk_q hp hl x (k := k) (by omega) (by omega) ht
  rw [hk] at h1
  have o0 := ot_q hp hl x C (i := 0) (by omega) (by omega) ht
  have o1 := ot_q hp hl x C (i := 1) (by omega) (by omega) ht
  have o2 := ot_q hp hl x C (i := 2) (by omega) (by omega) ht
  have z0 := ot_0 (p := p) l x C 0 t
  have z1 := ot_0 (p := p) l x C 1 t
  have z2 := ot_0 (p := p) l x C 2 t
  have e1 : oth p l x C t = 0 + zb (0 + 0 ≠ x / 3) * ot p l x C (0 + 0) t + zb (0 + 1 ≠ x / 3) * ot p l x C (0 + 1) t + zb (0 + 2 ≠ x / 3) * ot p l x C (0 + 2) t := rfl
  have e2 : wq p l x t = 0 + bqk p l x t (0 + 0) + bqk p l x t (0 + 1) + bqk p l x t (0 + 2) := by
    unfold wq
    rw [sm_3]
    rfl
  have hw : wk p l x k t + oth p l x C t ≤ wq p l x t := by
    rw [e1, e2, show (0 : Int) + 0 = 0 from rfl, show (0 : Int) + 1 = 1 from rfl, show (0 : Int) + 2 = 2 from rfl]
    rcases (show x / 3 = 0 ∨ x / 3 = 1 ∨ x / 3 = 2 by omega) with e | e | e <;> rw [e] at h1 <;> rw [e]
    · rw [zb_f (show ¬ ((0 : Int) ≠ 0) by decide), zb_t (show (1 : Int) ≠ 0 by decide), zb_t (show (2 : Int) ≠ 0 by decide)]; omega
    · rw [zb_t (show (0 : Int) ≠ 1 by decide), zb_f (show ¬ ((1 : Int) ≠ 1) by decide), zb_t (show (2 : Int) ≠ 1 by decide)]; omega
    · rw [zb_t (show (0 : Int) ≠ 2 by decide), zb_t (show (1 : Int) ≠ 2 by decide), zb_f (show ¬ ((2 : Int) ≠ 2) by decide)]; omega
  have hc : cm p l x k t * p 7 x ≤ qc p l x t * p 7 x := Int.mul_le_mul_of_nonneg_right (cm_q hp l k t h0 h9) (hp.2.1 x h0 h9).2.1.1
  unfold Fn Fq
  by_cases q : u = -1
  · rw [if_pos q, if_pos q]; omega
  · rw [if_neg q, if_neg q]; omega
theorem qq_ge {p : zP} {l : Int → Int} {x : Int} : ∀ (n : Nat) (q m r : Int), qq p l x n q m = some r → m ≤ r ∧ ∀ q' : Int, q ≤ q' → q' < q + n → lfp (Fq p l x (q' + 1)) ≠ -1 ∧ lfp (Fq p l x (q' + 1)) - p 0 (x / 3) * q' + l x + ear p x ≤ r
  | 0, q, m, r, h => by
    obtain rfl := Option.some.inj h
    exact ⟨Int.le_refl _, fun q' a b => by omega⟩
  | n + 1, q, m, r, h => by
    have h' : (if lfp (Fq p l x (q + 1)) = -1 then none else qq p l x n (q + 1) (max m (lfp (Fq p l x (q + 1)) - p 0 (x / 3) * q + l x + ear p x))) = some r := h
    by_cases he : lfp (Fq p l x (q + 1)) = -1
    · rw [if_pos he] at h'; cases h'
    · rw [if_neg he] at h'
      obtain ⟨a, b⟩ := qq_ge n (q + 1) _ r h'
      refine ⟨by omega, fun q' c d => ?_⟩
      by_cases e : q' = q
      · subst e; exact ⟨he, by omega⟩
      · exact b q' (by omega) (by omega)
theorem qkS_le {p : zP} (hp : WP p) {l : Int → Int} (hl : WL l) {x : Int} {s : aA} (h : fnd p l ALL x = some s) (hq : 0 ≤ qkS p l x) : s.1 ≤ qkS p l x := by
  unfold qkS at hq ⊢
  by_cases hb : bq p l x = -1
  · rw [if_pos hb] at hq; omega
  rw [if_neg hb] at hq ⊢
  cases hm : qq p l x (qc p l x (bq p l x) - 0).toNat 0 (-1) with
  | none => rw [hm] at hq; exact absurd hq (by decide)
  | some m =>
    rw [hm] at hq
    have hq : 0 ≤ m := hq
    show s.1 ≤ m
    obtain ⟨_, hg⟩ := qq_ge _ 0 (-1) m hm
    obtain ⟨r', e, hr⟩ := fnd_le (p := p) (l := l) (C := ALL) (x := x) hq (fun k ho => by
      have h0 := ho.1
      have h9 := ho.2.1
      have hT := hp.per (i := x / 3) (by omega) (by omega)
      have hk := ho.2.2.2.1
      have h1 := lfp_le (Fn_m hp hl ALL (-1) ho) (Fn_1 hp hl ALL (Or.inl rfl) ho (Int.le_refl 1)) (fun t ht => Fn_q hp hl ALL (-1) h0 h9 hk ht) hb
      have h1' : lfp (Fn p l ALL x k (-1)) ≤ bq p l x := h1.2
      refine ⟨by unfold bz; omega, fun q a b => ?_⟩
      have hc := Int.le_trans (cm_q hp l k (bz p l ALL x k) h0 h9) (qc_m hp l h0 h9 h1')
      obtain ⟨g1, g2⟩ := hg q a (by omega)
      have h3 := lfp_le (Fn_m hp hl ALL (q + 1) ho) (Fn_1 hp hl ALL (Or.inr (by omega)) ho (Int.le_refl 1)) (fun t ht => Fn_q hp hl ALL (q + 1) h0 h9 hk ht) g1
      refine ⟨by omega, ?_⟩
      have h4 : elr p l x k * p 0 (x / 3) ≤ l x + phi p l x k := Int.ediv_mul_le _ (by omega)
      unfold fv
      rw [Int.mul_sub, Int.mul_comm _ (elr p l x k)]
      omega)
    rw [h] at e
    cases e
    exact hr
/-! what stands when all is settled -/
theorem stl_nc {p : zP} : ∀ (n : Nat) (r : Int) (l : Int → Int) (q : Int × (Int → Int)), stl p n r l = some q → ¬ chg p q.2 ∧ ∀ x : Int, x % 3 = 0 → q.2 x = l x
  | 0, _, _, _, h => by cases h
  | n + 1, r, l, q, h => by
    have h' : @ite _ (bA p l) (Classical.propDecidable _) (@ite _ (chg p l) (Classical.propDecidable _) (stl p n (r + 1) (nl p l)) (some (r, l))) none = some q := h
    by_cases hb : bA p l
    · rw [if_pos hb] at h'
      by_cases hc : chg p l
      · rw [if_pos hc] at h'
        obtain ⟨a, b⟩ := stl_nc n (r + 1) (nl p l) q h'
        exact ⟨a, fun x hx => (b x hx).trans (nl_e (fun z => z.1 hx))⟩
      · rw [if_neg hc] at h'
        obtain rfl := Option.some.inj h'
        exact ⟨hc, fun _ _ => rfl⟩
    · rw [if_neg hb] at h'; cases h'
/-- of a step of a settled plan -/
def STD (p : zP) (l : Int → Int) : Prop := WP p ∧ WL l ∧ bA p l ∧ (∀ i : Int, 0 ≤ i → i < 3 → l (i * 3) = p 1 i) ∧ ∀ x : Int, 0 ≤ x → x < 9 → x % 3 ≠ 0 → th p x → (bv p l (x - 1)).1 + p 9 x - ear p x ≤ l x
theorem SR_std {p : zP} (hp : WP p) {r : Int} {l : Int → Int} (h : SR p = some (r, l)) : STD p l := by
  obtain ⟨h1, h2, _⟩ := SR_b hp h
  obtain ⟨h3, h4⟩ := stl_nc 20 1 (l0 p) (r, l) h
  refine ⟨hp, h1, h2, fun i a b => ?_, fun x a b c d => ?_⟩
  · have e := h4 (i * 3) (by omega)
    have e2 : l (i * 3) = l0 p (i * 3) := e
    rw [e2]
    unfold l0
    rw [if_pos (by omega), show i * 3 / 3 = i by omega]
  · have e : nl p l x = l x := chg_n h3 a b
    have h1' : WL l := h1
    have h2' : bA p l := h2
    have e2 := (nl_bb hp h1' h2' a b c d).2.2
    omega
theorem STD.f {p : zP} {l : Int → Int} (h : STD p l) {x : Int} (h0 : 0 ≤ x) (h9 : x < 9) (ht : th p x) : fnd p l ALL x = some (bv p l x) := bv_s (h.2.2.1 x h0 h9 ht)
theorem STD.s {p : zP} {l : Int → Int} (h : STD p l) {x : Int} (h0 : 0 ≤ x) (h9 : x < 9) (ht : th p x) : srS p l x ≤ (bv p l x).1 ∧ ear p x + p 7 x + l x ≤ srS p l x := srS_le h.1 h.2.1 h0 h9 ht (h.f h0 h9 ht)
theorem STD.alone {p : zP} {l : Int → Int} (h : STD p l) {x : Int} (h0 : 0 ≤ x) (h9 : x < 9) (ht : th p x) (hr : rvs p x = 0) : (bv p l x).1 = ear p x + p 7 x + l x :=
  fnd_al h.1 h.2.1 h0 h9 ht (fun y a b => rvs_0 hr a b) (ovl_c h.1 h0 h9 (h.2.2.1 x h0 h9 ht).1) (h.f h0 h9 ht)
theorem ovs_0 {p : zP} {l : Int → Int} (h : STD p l) : ovs p = 0 := sm_z 9 (fun x a b => zb_f (fun q => (h.2.2.1 x a (by omega) q.1).1 q.2))
end ZM2
