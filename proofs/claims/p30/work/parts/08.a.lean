section ZM1
/-! least times compared; what the longest answer says of each moment and turn -/
theorem lfp_le {F G : Int → Int} (hF : MF F) (h1 : 1 ≤ F 1) (h : ∀ t : Int, 1 ≤ t → F t ≤ G t) (hG : lfp G ≠ -1) : 1 ≤ lfp F ∧ lfp F ≤ lfp G := by
  rcases lfp_s G with ⟨q, _⟩ | ⟨a1, a2, a3, _⟩
  · exact absurd q hG
  · exact lfp_pre hF h1 a1 a2 (by have := h (lfp G) a1; omega)
def GD (p : zP) (l : Int → Int) (C : Int → Prop) (x k B : Int) : Prop := bz p l C x k ≠ -1 ∧ ∀ q : Int, 0 ≤ q → q < cm p l x k (bz p l C x k) → lfp (Fn p l C x k (q + 1)) ≠ -1 ∧ fv p l C x k q ≤ B
theorem GD.up {p : zP} {l : Int → Int} {C : Int → Prop} {x k A B : Int} (h : GD p l C x k A) (hb : A ≤ B) : GD p l C x k B := ⟨h.1, fun q a b => ⟨(h.2 q a b).1, Int.le_trans (h.2 q a b).2 hb⟩⟩
theorem fq_ge {p : zP} {l : Int → Int} {C : Int → Prop} {x k w : Int} : ∀ (n : Nat) (q : Int) (s r : aA), fq p l C x k w n q s = some r → s.1 ≤ r.1 ∧ ∀ q' : Int, q ≤ q' → q' < q + n → lfp (Fn p l C x k (q' + 1)) ≠ -1 ∧ fv p l C x k q' ≤ r.1
  | 0, q, s, r, h => by
    obtain rfl := Option.some.inj h
    exact ⟨Int.le_refl _, fun q' a b => by omega⟩
  | n + 1, q, s, r, h => by
    have h' : (if lfp (Fn p l C x k (q + 1)) = -1 then none else fq p l C x k w n (q + 1) (if s.1 < fv p l C x k q then (fv p l C x k q, k % 3, q, w) else s)) = some r := h
    by_cases he : lfp (Fn p l C x k (q + 1)) = -1
    · rw [if_pos he] at h'; cases h'
    · rw [if_neg he] at h'
      obtain ⟨a, b⟩ := fq_ge n (q + 1) _ r h'
      have a2 : s.1 ≤ r.1 ∧ fv p l C x k q ≤ r.1 := by
        by_cases hc : s.1 < fv p l C x k q
        · rw [if_pos hc] at a
          have a3 : fv p l C x k q ≤ r.1 := a
          omega
        · rw [if_neg hc] at a
          omega
      refine ⟨a2.1, fun q' c d => ?_⟩
      by_cases e : q' = q
      · subst e; exact ⟨he, a2.2⟩
      · exact b q' (by omega) (by omega)
theorem fq_le {p : zP} {l : Int → Int} {C : Int → Prop} {x k w B : Int} : ∀ (n : Nat) (q : Int) (s : aA), s.1 ≤ B → (∀ q' : Int, q ≤ q' → q' < q + n → lfp (Fn p l C x k (q' + 1)) ≠ -1 ∧ fv p l C x k q' ≤ B) → ∃ r, fq p l C x k w n q s = some r ∧ r.1 ≤ B
  | 0, q, s, hs, _ => ⟨s, rfl, hs⟩
  | n + 1, q, s, hs, h => by
    have h0 := h q (Int.le_refl _) (by omega)
    have e : fq p l C x k w (n + 1) q s = (if lfp (Fn p l C x k (q + 1)) = -1 then none else fq p l C x k w n (q + 1) (if s.1 < fv p l C x k q then (fv p l C x k q, k % 3, q, w) else s)) := rfl
    rw [e, if_neg h0.1]
    refine fq_le n (q + 1) _ ?_ (fun q' a b => h q' (by omega) (by omega))
    by_cases hc : s.1 < fv p l C x k q
    · rw [if_pos hc]; exact h0.2
    · rw [if_neg hc]; exact hs
theorem fk1_ge {p : zP} {l : Int → Int} {C : Int → Prop} {x k : Int} {s r : aA} (h : fk1 p l C x k s = some r) : s.1 ≤ r.1 ∧ GD p l C x k r.1 := by
  unfold fk1 at h
  by_cases hb : bz p l C x k = -1
  · rw [if_pos hb] at h; cases h
  · rw [if_neg hb] at h
    obtain ⟨a, b⟩ := fq_ge _ 0 s r h
    exact ⟨a, hb, fun q c d => b q c (by omega)⟩
theorem fk1_le {p : zP} {l : Int → Int} {C : Int → Prop} {x k B : Int} {s : aA} (hs : s.1 ≤ B) (h : GD p l C x k B) : ∃ r, fk1 p l C x k s = some r ∧ r.1 ≤ B := by
  unfold fk1
  rw [if_neg h.1]
  exact fq_le _ 0 s hs (fun q a b => h.2 q a (by omega))
theorem fk_ge {p : zP} {l : Int → Int} {C : Int → Prop} {x : Int} : ∀ (n : Nat) (j : Int) (s r : aA), fk p l C x n j s = some r → s.1 ≤ r.1 ∧ ∀ j' : Int, j ≤ j' → j' < j + n → own p x (x / 3 * 3 + j') → GD p l C x (x / 3 * 3 + j') r.1
  | 0, j, s, r, h => by
    obtain rfl := Option.some.inj h
    exact ⟨Int.le_refl _, fun j' a b => by omega⟩
  | n + 1, j, s, r, h => by
    have h' : @ite _ (own p x (x / 3 * 3 + j)) (Classical.propDecidable _) (oB (fk1 p l C x (x / 3 * 3 + j) s) (fk p l C x n (j + 1))) (fk p l C x n (j + 1) s) = some r := h
    by_cases ho : own p x (x / 3 * 3 + j)
    · rw [if_pos ho] at h'
      cases hf : fk1 p l C x (x / 3 * 3 + j) s with
      | none => rw [hf] at h'; cases h'
      | some u =>
        rw [hf] at h'
        obtain ⟨a1, b1⟩ := fk1_ge hf
        obtain ⟨a, b⟩ := fk_ge n (j + 1) u r h'
        refine ⟨Int.le_trans a1 a, fun j' c d o => ?_⟩
        by_cases e : j' = j
        · subst e; exact b1.up a
        · exact b j' (by omega) (by omega) o
    · rw [if_neg ho] at h'
      obtain ⟨a, b⟩ := fk_ge n (j + 1) s r h'
      refine ⟨a, fun j' c d o => ?_⟩
      by_cases e : j' = j
      · subst e; exact absurd o ho
      · exact b j' (by omega) (by omega) o
theorem fk_le {p : zP} {l : Int → Int} {C : Int → Prop} {x B : Int} : ∀ (n : Nat) (j : Int) (s : aA), s.1 ≤ B → (∀ j' : Int, j ≤ j' → j' < j + n → own p x (x / 3 * 3 + j') → GD p l C x (x / 3 * 3 + j') B) → ∃ r, fk p l C x n j s = some r ∧ r.1 ≤ B
  | 0, j, s, hs, _ => ⟨s, rfl, hs⟩
  | n + 1, j, s, hs, h => by
    have e : fk p l C x (n + 1) j s = @ite _ (own p x (x / 3 * 3 + j)) (Classical.propDecidable _) (oB (fk1 p l C x (x / 3 * 3 + j) s) (fk p l C x n (j + 1))) (fk p l C x n (j + 1) s) := rfl
    rw [e]
    by_cases ho : own p x (x / 3 * 3 + j)
    · rw [if_pos ho]
      obtain ⟨u, hu, hub⟩ := fk1_le hs (h j (Int.le_refl _) (by omega) ho)
      rw [hu]
      exact fk_le n (j + 1) u hub (fun j' a b => h j' (by omega) (by omega))
    · rw [if_neg ho]
      exact fk_le n (j + 1) s hs (fun j' a b => h j' (by omega) (by omega))
theorem fnd_ge {p : zP} {l : Int → Int} {C : Int → Prop} {x k : Int} {r : aA} (h : fnd p l C x = some r) (ho : own p x k) : GD p l C x k r.1 := by
  have e : k = x / 3 * 3 + k % 3 := by have := ho.2.2.2.1; omega
  have := (fk_ge 3 0 (0, 0, 0, 0) r h).2 (k % 3) (by omega) (by omega)
  rw [← e] at this
  exact this ho
theorem fnd_le {p : zP} {l : Int → Int} {C : Int → Prop} {x B : Int} (hB : 0 ≤ B) (h : ∀ k : Int, own p x k → GD p l C x k B) : ∃ r, fnd p l C x = some r ∧ r.1 ≤ B := fk_le 3 0 (0, 0, 0, 0) hB (fun j' _ _ o => h _ o)
theorem fnd_0 {p : zP} {l : Int → Int} {C : Int → Prop} {x : Int} {r : aA} (h : fnd p l C x = some r) : 0 ≤ r.1 := (fk_ge 3 0 (0, 0, 0, 0) r h).1
/-! less work, earlier answers -/
theorem oth_C {p : zP} (hp : WP p) {l : Int → Int} (hl : WL l) (x : Int) {C C' : Int → Prop} (h : ∀ k : Int, C' k → C k) {t : Int} (ht : 1 ≤ t) : oth p l x C' t ≤ oth p l x C t :=
  sm_m 3 (fun i a b => (zb_m (ot_0 l x C' i t) (mx_m 3 (fun k c d => by
    have q := (wk_m hp hl x (k := k) (by omega) (by omega) ht (Int.le_refl t)).1
    have q2 : 0 ≤ zb (C' k) * wk p l x k t ∧ zb (C' k) * wk p l x k t ≤ zb (C k) * wk p l x k t := by
      by_cases e : C' k
      · rw [zb_t e, zb_t (h k e)]; omega
      · rw [zb_f e, Int.zero_mul]
        exact ⟨Int.le_refl _, (zb_m (Q := C k) q (Int.le_refl _)).1⟩
    exact (zb_m q2.1 q2.2).2.1))).2.1)
theorem Fn_C {p : zP} (hp : WP p) {l : Int → Int} (hl : WL l) (x k u : Int) {C C' : Int → Prop} (h : ∀ k : Int, C' k → C k) {t : Int} (ht : 1 ≤ t) : Fn p l C' x k u t ≤ Fn p l C x k u t := by
  have := oth_C hp hl x h ht
  unfold Fn
  omega
theorem GD.le {p : zP} (hp : WP p) {l : Int → Int} (hl : WL l) {C C' : Int → Prop} {x k B : Int} (ho : own p x k) (hF : ∀ u t : Int, 1 ≤ t → Fn p l C' x k u t ≤ Fn p l C x k u t) (h : GD p l C x k B) : GD p l C' x k B := by
  have h1 := lfp_le (Fn_m hp hl C' (-1) ho) (Fn_1 hp hl C' (Or.inl rfl) ho (Int.le_refl 1)) (fun t ht => hF (-1) t ht) h.1
  refine ⟨by unfold bz; omega, fun q a b => ?_⟩
  have hc := cm_m hp l k ho.1 ho.2.1 h1.2
  have h2 := h.2 q a (Int.lt_of_lt_of_le b hc)
  have h3 := lfp_le (Fn_m hp hl C' (q + 1) ho) (Fn_1 hp hl C' (Or.inr (by omega)) ho (Int.le_refl 1)) (fun t ht => hF (q + 1) t ht) h2.1
  refine ⟨by omega, ?_⟩
  have h4 := h2.2
  unfold fv at h4 ⊢
  omega
/-- at least what a step costs, behind what it is late -/
theorem fnd_lo {p : zP} (hp : WP p) {l : Int → Int} (hl : WL l) {C : Int → Prop} {x : Int} (h0 : 0 ≤ x) (h9 : x < 9) (ht : th p x) {r : aA} (h : fnd p l C x = some r) : ear p x + p 7 x + l x ≤ r.1 := by
  have ho : own p x x := ⟨h0, h9, ht, rfl, Or.inl rfl⟩
  obtain ⟨g1, g2⟩ := fnd_ge h ho
  have hb : 1 ≤ bz p l C x x := by
    rcases lfp_b (Fn p l C x x (-1)) with q | q
    · exact absurd q g1
    · exact q.1
  have hc := cm_self hp hl h0 h9 hb
  obtain ⟨g3, g4⟩ := g2 0 (Int.le_refl _) (by omega)
  have hw := Fn_w hp hl C ho
  have hv : p 7 x ≤ lfp (Fn p l C x x (0 + 1)) := by
    rcases lfp_s (Fn p l C x x (0 + 1)) with ⟨q, _⟩ | ⟨a1, a2, a3, _⟩
    · exact absurd q g3
    · exact hw.2.2 _ a1 a2 a3
  unfold fv at g4
  rw [Int.mul_sub, Int.mul_zero] at g4
  omega
/-- alone: just that -/
theorem sm_z {f : Int → Int} {a : Int} : ∀ n : Nat, (∀ i : Int, a ≤ i → i < a + n → f i = 0) → sm f a n = 0
  | 0, _ => rfl
  | n + 1, h => by
    show sm f a n + f (a + n) = 0
    rw [sm_z n (fun i q1 q2 => h i q1 (by omega)), h (a + n) (by omega) (by omega)]
    rfl
theorem mx_z {f : Int → Int} {a : Int} : ∀ n : Nat, (∀ i : Int, a ≤ i → i < a + n → f i = 0) → mx f a n = 0
  | 0, _ => rfl
  | n + 1, h => by
    show max (mx f a n) (f (a + n)) = 0
    rw [mx_z n (fun i q1 q2 => h i q1 (by omega)), h (a + n) (by omega) (by omega)]
    rfl
theorem sm_at {f : Int → Int} {a : Int} : ∀ n : Nat, (∀ i : Int, a ≤ i → i < a + n → 0 ≤ f i) → (0 ≤ sm f a n ∧ ∀ k : Int, a ≤ k → k < a + n → f k ≤ sm f a n)
  | 0, _ => ⟨Int.le_refl _, fun k h1 h2 => by omega⟩
  | n + 1, h => by
    have e : sm f a (n + 1) = sm f a n + f (a + n) := rfl
    obtain ⟨h1, h2⟩ := sm_at n (fun i q1 q2 => h i q1 (by omega))
    have h3 := h (a + n) (by omega) (by omega)
    rw [e]
    refine ⟨by omega, fun k q1 q2 => ?_⟩
    by_cases q : k = a + n
    · rw [q]; omega
    · have := h2 k q1 (by omega)
      omega
theorem rvs_0 {p : zP} {x : Int} (h : rvs p x = 0) {y : Int} (h0 : 0 ≤ y) (h9 : y < 9) : ¬ riv p x y := by
  have h1 := (sm_at (f := fun y => zb (riv p x y)) (a := 0) 9 (fun i _ _ => by rcases zb_2 (riv p x i) with e | e <;> omega)).2 y h0 h9
  unfold rvs at h
  intro q
  rw [h, zb_t q] at h1
  omega
theorem lb_d {p : zP} {i : Int} (h0 : 0 ≤ i) (h3 : i < 3) : p 0 i ∣ lb p := by
  unfold lb
  rcases (show i = 0 ∨ i = 1 ∨ i = 2 by omega) with rfl | rfl | rfl
  · exact ⟨p 0 1 * p 0 2, by rw [Int.mul_assoc]⟩
  · exact ⟨p 0 0 * p 0 2, by rw [Int.mul_comm (p 0 0) (p 0 1), Int.mul_assoc]⟩
  · exact ⟨p 0 0 * p 0 1, by rw [Int.mul_comm]⟩
theorem ovl_c {p : zP} (hp : WP p) {x : Int} (h0 : 0 ≤ x) (h9 : x < 9) (h : ¬ ovl p x) : p 7 x ≤ p 0 (x / 3) := by
  have hT := hp.per (i := x / 3) (by omega) (by omega)
  have hlb := lb_b hp
  have h1 := (sm_at (f := laf p x) (a := 0) 9 (fun i a b => (laf_b hp a (by omega)).1)).2 x h0 h9
  have e1 : laf p x x = p 7 x * (lb p / p 0 (x / 3)) := if_pos (Or.inl rfl)
  have e2 : sm (laf p x) 0 9 = la p x := rfl
  rw [e1, e2] at h1
  have e3 : p 0 (x / 3) * (lb p / p 0 (x / 3)) = lb p := Int.mul_ediv_cancel' (lb_d (by omega) (by omega))
  have h2 : ¬ lb p < la p x := h
  generalize lb p / p 0 (x / 3) = D at h1 e3
  have hD : 1 ≤ D := by
    rcases Int.lt_or_le 0 D with q | q
    · omega
    · have : p 0 (x / 3) * D ≤ 0 := Int.mul_nonpos_of_nonneg_of_nonpos (by omega) q
      omega
  rcases Int.lt_or_le (p 0 (x / 3)) (p 7 x) with q | q
  · exfalso
    have h4 : (p 0 (x / 3) + 1) * D ≤ p 7 x * D := Int.mul_le_mul_of_nonneg_right (by omega) (by omega)
    rw [Int.add_mul] at h4
    omega
  · exact q
theorem fnd_al {p : zP} (hp : WP p) {l : Int → Int} (hl : WL l) {C : Int → Prop} {x : Int} (h0 : 0 ≤ x) (h9 : x < 9) (ht : th p x) (hr : ∀ y : Int, 0 ≤ y → y < 9 → ¬ riv p x y) (hc : p 7 x ≤ p 0 (x / 3)) {r : aA} (h : fnd p l C x = some r) : r.1 = ear p x + p 7 x + l x := by
  have hlo := fnd_lo hp hl h0 h9 ht h
  have hB := ear_b hp h0 h9
  have hL := hl.b h0 h9
  have h7 := (hp.2.1 x h0 h9).2.1
  obtain ⟨r', e, hr'⟩ := fnd_le (p := p) (l := l) (C := C) (x := x) (B := ear p x + p 7 x + l x) (by omega) (fun k ho => by
    have ek : k = x := by
      rcases ho.2.2.2.2 with q | q
      · exact q
      · exact absurd q (hr k (by have := ho.2.2.2.1; omega) (by have := ho.2.2.2.1; omega))
    subst ek
    obtain ⟨g1, g2⟩ := fnd_ge h ho
    refine ⟨g1, fun q a b => ?_⟩
    obtain ⟨g3, _⟩ := g2 q a b
    refine ⟨g3, ?_⟩
    have hz : ∀ t : Int, Fn p l C k k (q + 1) t = (q + 1) * p 7 k := fun t => by
      have w : wk p l k k t = 0 := sm_z 3 (fun i c d => by rw [zb_f (hr i (by omega) (by omega)), Int.zero_mul])
      have o : oth p l k C t = 0 := sm_z 3 (fun i c d => by
        have : ot p l k C i t = 0 := mx_z 3 (fun j c' d' => by rw [zb_f (hr j (by omega) (by omega)), Int.zero_mul])
        rw [this, Int.mul_zero])
      unfold Fn
      rw [if_neg (by omega), w, o]
      omega
    have hv : lfp (Fn p l C k k (q + 1)) = (q + 1) * p 7 k := by
      rcases lfp_s (Fn p l C k k (q + 1)) with ⟨z, _⟩ | ⟨_, _, a3, _⟩
      · exact absurd z g3
      · rw [hz] at a3; exact a3.symm
    have hs := (cm_self hp hl h0 h9 (Int.le_refl 1)).2
    unfold fv
    rw [hv, Int.mul_sub, Int.add_mul]
    have : q * p 7 k ≤ p 0 (k / 3) * q := by
      rw [Int.mul_comm (p 0 (k / 3))]
      exact Int.mul_le_mul_of_nonneg_left hc a
    omega)
  rw [h] at e
  obtain rfl := Option.some.inj e
  omega
end ZM1
