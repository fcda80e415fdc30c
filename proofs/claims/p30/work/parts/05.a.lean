section ZE
/-! times that hold -/
def lfs (F : Int → Int) : Nat → Int → Int
  | 0, _ => -1
  | n + 1, t => if F t = t then t else lfs F n (t + 1)
def lfp (F : Int → Int) : Int := lfs F 200 1
theorem lfs_v {F : Int → Int} {v : Int} : ∀ (n : Nat) (t : Int), t ≤ v → v < t + n → F v = v → (∀ s : Int, t ≤ s → s < v → F s ≠ s) → lfs F n t = v
  | 0, t, h1, h2, _, _ => by omega
  | n + 1, t, h1, h2, h3, h4 => by
    show (if F t = t then t else lfs F n (t + 1)) = v
    by_cases q : t = v
    · subst q
      rw [if_pos h3]
    · rw [if_neg (h4 t (by omega) (by omega))]
      exact lfs_v n (t + 1) (by omega) (by omega) h3 (fun s a b => h4 s (by omega) b)
theorem lfs_n {F : Int → Int} : ∀ (n : Nat) (t : Int), (∀ s : Int, t ≤ s → s < t + n → F s ≠ s) → lfs F n t = -1
  | 0, _, _ => rfl
  | n + 1, t, h => by
    show (if F t = t then t else lfs F n (t + 1)) = -1
    rw [if_neg (h t (by omega) (by omega))]
    exact lfs_n n (t + 1) (fun s a b => h s (by omega) (by omega))
theorem lfs_s {F : Int → Int} : ∀ (n : Nat) (t : Int), (lfs F n t = -1 ∧ ∀ s : Int, t ≤ s → s < t + n → F s ≠ s) ∨ (t ≤ lfs F n t ∧ lfs F n t < t + n ∧ F (lfs F n t) = lfs F n t ∧ ∀ s : Int, t ≤ s → s < lfs F n t → F s ≠ s)
  | 0, t => Or.inl ⟨rfl, fun s a b => by omega⟩
  | n + 1, t => by
    by_cases q : F t = t
    · have e : lfs F (n + 1) t = t := by
        show (if F t = t then t else lfs F n (t + 1)) = t
        rw [if_pos q]
      right
      rw [e]
      exact ⟨by omega, by omega, q, fun s a b => by omega⟩
    · have e : lfs F (n + 1) t = lfs F n (t + 1) := by
        show (if F t = t then t else lfs F n (t + 1)) = _
        rw [if_neg q]
      rw [e]
      rcases lfs_s (F := F) n (t + 1) with ⟨h1, h2⟩ | ⟨h1, h2, h3, h4⟩
      · refine Or.inl ⟨h1, fun s a b => ?_⟩
        by_cases w : s = t
        · rw [w]; exact q
        · exact h2 s (by omega) (by omega)
      · refine Or.inr ⟨by omega, by omega, h3, fun s a b => ?_⟩
        by_cases w : s = t
        · rw [w]; exact q
        · exact h4 s (by omega) b
theorem lfp_s (F : Int → Int) : (lfp F = -1 ∧ ∀ s : Int, 1 ≤ s → s ≤ 200 → F s ≠ s) ∨ (1 ≤ lfp F ∧ lfp F ≤ 200 ∧ F (lfp F) = lfp F ∧ ∀ s : Int, 1 ≤ s → s < lfp F → F s ≠ s) := by
  rcases lfs_s (F := F) 200 1 with ⟨h1, h2⟩ | ⟨h1, h2, h3, h4⟩
  · exact Or.inl ⟨h1, fun s a b => h2 s a (by omega)⟩
  · have e : lfs F 200 1 = lfp F := rfl
    rw [e] at h1 h2 h3 h4
    exact Or.inr ⟨h1, by omega, h3, h4⟩
theorem lfp_b (F : Int → Int) : lfp F = -1 ∨ (1 ≤ lfp F ∧ lfp F ≤ 200) := by
  rcases lfp_s F with ⟨h1, _⟩ | ⟨h1, h2, _⟩
  · exact Or.inl h1
  · exact Or.inr ⟨h1, h2⟩
def MF (F : Int → Int) : Prop := ∀ a b : Int, 1 ≤ a → a ≤ b → F a ≤ F b
def LI (F : Int → Int) (t : Int) : Prop := 1 ≤ t ∧ t ≤ F t ∧ ∀ s : Int, 1 ≤ s → s ≤ 200 → F s = s → t ≤ s
theorem LI.step {F : Int → Int} {t : Int} (hm : MF F) (h : LI F t) : LI F (F t) :=
  ⟨by have := h.1; have := h.2.1; omega, hm t (F t) h.1 h.2.1, fun s a b c => by
    have := hm t s h.1 (h.2.2 s a b c)
    omega⟩
theorem LI.hit {F : Int → Int} {t : Int} (h : LI F t) (h2 : t ≤ 200) (h3 : F t = t) : lfp F = t :=
  lfs_v 200 1 h.1 (by omega) h3 (fun s a b c => by have := h.2.2 s a (by omega) c; omega)
theorem LI.out {F : Int → Int} {t : Int} (h : LI F t) (h2 : 200 < t) : lfp F = -1 :=
  lfs_n 200 1 (fun s a b c => by have := h.2.2 s a (by omega) c; omega)
theorem LI.one {F : Int → Int} (h : 1 ≤ F 1) : LI F 1 := ⟨by omega, h, fun s a _ _ => a⟩
theorem lfp_pre {F : Int → Int} (hm : MF F) (h1 : 1 ≤ F 1) {s : Int} (hs1 : 1 ≤ s) (hs2 : s ≤ 200) (hf : F s ≤ s) : 1 ≤ lfp F ∧ lfp F ≤ s := by
  have key : ∀ (n : Nat) (t : Int), (s - t).toNat < n → LI F t → t ≤ s → 1 ≤ lfp F ∧ lfp F ≤ s := by
    intro n
    induction n with
    | zero => intro t h; omega
    | succ n ih =>
      intro t hn ht hts
      have hle := ht.2.1
      have ht1 := ht.1
      by_cases q : F t = t
      · rw [ht.hit (by omega) q]
        omega
      · have h5 := hm t s ht.1 hts
        exact ih (F t) (by omega) (ht.step hm) (by omega)
  exact key _ 1 (Nat.lt_succ_self _) (LI.one h1) hs1
theorem LI.warm {F G : Int → Int} {c : Int} (hm : MF F) (h1 : 1 ≤ F 1) (hc : 0 ≤ c) (hG : ∀ t : Int, G t = F t + c) (he : lfp F ≠ -1) : LI G (lfp F + c) := by
  rcases lfp_s F with ⟨q, _⟩ | ⟨a1, a2, a3, a4⟩
  · exact absurd q he
  refine ⟨by omega, ?_, fun s b1 b2 b3 => ?_⟩
  · rw [hG]
    have := hm (lfp F) (lfp F + c) a1 (by omega)
    omega
  · rw [hG] at b3
    have h5 := hm 1 s (by omega) b1
    have h6 := hm (s - c) s (by omega) (by omega)
    have h7 := lfp_pre hm h1 (s := s - c) (by omega) (by omega) (by omega)
    omega
/-! how often, work -/
def phi (p : zP) (l : Int → Int) (j k : Int) : Int := p 0 (j / 3) - (ear p k + l k - ear p j) % p 0 (j / 3)
def elr (p : zP) (l : Int → Int) (j k : Int) : Int := (l j + phi p l j k) / p 0 (j / 3)
def cm (p : zP) (l : Int → Int) (j k t : Int) : Int := elr p l j k + (t - phi p l j k + p 0 (j / 3) - 1) / p 0 (j / 3)
noncomputable def wk (p : zP) (l : Int → Int) (x k t : Int) : Int := sm (fun j => zb (riv p x j) * (cm p l j k t * p 7 j)) (k / 3 * 3) 3
def mx (f : Int → Int) (a : Int) : Nat → Int
  | 0 => 0
  | n + 1 => max (mx f a n) (f (a + n))
noncomputable def ot (p : zP) (l : Int → Int) (x : Int) (C : Int → Prop) (i t : Int) : Int := mx (fun k => zb (riv p x k) * (zb (C k) * wk p l x k t)) (i * 3) 3
noncomputable def oth (p : zP) (l : Int → Int) (x : Int) (C : Int → Prop) (t : Int) : Int := sm (fun i => zb (i ≠ x / 3) * ot p l x C i t) 0 3
noncomputable def Fn (p : zP) (l : Int → Int) (C : Int → Prop) (x k u t : Int) : Int := (if u = -1 then cm p l x k t else u) * p 7 x + wk p l x k t + oth p l x C t
def WL (l : Int → Int) : Prop := ∀ x : Int, 0 ≤ x → x < 9 → 0 ≤ l x ∧ l x ≤ 30 + 200 * (x % 3)
theorem WL.b {l : Int → Int} (h : WL l) {x : Int} (h0 : 0 ≤ x) (h9 : x < 9) : 0 ≤ l x ∧ l x ≤ 430 := by have := h x h0 h9; omega
theorem ediv_b {a T A : Int} (hT : 5 ≤ T) (h0 : 0 ≤ a) (hA : a ≤ A) : 0 ≤ a / T ∧ a / T ≤ A / 5 := by
  constructor
  · exact Int.ediv_nonneg h0 (by omega)
  · have h1 : 0 ≤ a / T := Int.ediv_nonneg h0 (by omega)
    have h2 := Int.ediv_mul_le a (show T ≠ 0 by omega)
    have h3 : a / T * 5 ≤ a / T * T := Int.mul_le_mul_of_nonneg_left hT h1
    exact Int.le_ediv_of_mul_le (by omega) (by omega)
theorem phi_b {p : zP} (hp : WP p) (l : Int → Int) {j : Int} (k : Int) (h0 : 0 ≤ j) (h9 : j < 9) : 1 ≤ phi p l j k ∧ phi p l j k ≤ p 0 (j / 3) := by
  have hT := hp.per (i := j / 3) (by omega) (by omega)
  have a := Int.emod_nonneg (ear p k + l k - ear p j) (show p 0 (j / 3) ≠ 0 by omega)
  have b := Int.emod_lt_of_pos (ear p k + l k - ear p j) (show 0 < p 0 (j / 3) by omega)
  unfold phi
  omega
theorem elr_b {p : zP} (hp : WP p) {l : Int → Int} (hl : WL l) {j : Int} (k : Int) (h0 : 0 ≤ j) (h9 : j < 9) : 0 ≤ elr p l j k ∧ elr p l j k ≤ 106 := by
  have hT := hp.per (i := j / 3) (by omega) (by omega)
  have hf := phi_b hp l k h0 h9
  have hb := hl.b h0 h9
  exact ediv_b (A := 530) hT.1 (by omega) (by omega)
theorem cm_b {p : zP} (hp : WP p) {l : Int → Int} (hl : WL l) {j : Int} (k : Int) {t : Int} (h0 : 0 ≤ j) (h9 : j < 9) (ht : 1 ≤ t) (ht2 : t ≤ 200) : 0 ≤ cm p l j k t ∧ cm p l j k t ≤ 165 := by
  have hT := hp.per (i := j / 3) (by omega) (by omega)
  have hf := phi_b hp l k h0 h9
  have he := elr_b hp hl k h0 h9
  have h1 := ediv_b (a := t - phi p l j k + p 0 (j / 3) - 1) (T := p 0 (j / 3)) (A := 299) hT.1 (by omega) (by omega)
  unfold cm
  omega
theorem cm_0 {p : zP} (hp : WP p) {l : Int → Int} (hl : WL l) {j : Int} (k : Int) {t : Int} (h0 : 0 ≤ j) (h9 : j < 9) (ht : 1 ≤ t) : 0 ≤ cm p l j k t := by
  have hT := hp.per (i := j / 3) (by omega) (by omega)
  have hf := phi_b hp l k h0 h9
  have he := elr_b hp hl k h0 h9
  have h1 : 0 ≤ (t - phi p l j k + p 0 (j / 3) - 1) / p 0 (j / 3) := Int.ediv_nonneg (by omega) (by omega)
  unfold cm
  omega
theorem cm_m {p : zP} (hp : WP p) (l : Int → Int) {j : Int} (k : Int) {s t : Int} (h0 : 0 ≤ j) (h9 : j < 9) (h : s ≤ t) : cm p l j k s ≤ cm p l j k t := by
  have hT := hp.per (i := j / 3) (by omega) (by omega)
  have h1 := Int.ediv_le_ediv (a := s - phi p l j k + p 0 (j / 3) - 1) (b := t - phi p l j k + p 0 (j / 3) - 1) (c := p 0 (j / 3)) (by omega) (by omega)
  unfold cm
  omega
theorem cm_self {p : zP} (hp : WP p) {l : Int → Int} (hl : WL l) {j : Int} {t : Int} (h0 : 0 ≤ j) (h9 : j < 9) (ht : 1 ≤ t) : 1 ≤ cm p l j j t ∧ p 0 (j / 3) * elr p l j j - phi p l j j = l j := by
  have hT := hp.per (i := j / 3) (by omega) (by omega)
  have hf := phi_b hp l j h0 h9
  have hb := hl.b h0 h9
  have h1 : 0 ≤ (t - phi p l j j + p 0 (j / 3) - 1) / p 0 (j / 3) := Int.ediv_nonneg (by omega) (by omega)
  have e1 : phi p l j j = p 0 (j / 3) - l j % p 0 (j / 3) := by
    unfold phi
    rw [show ear p j + l j - ear p j = l j by omega]
  have e2 := Int.mul_ediv_add_emod (l j) (p 0 (j / 3))
  have e3 : elr p l j j = l j / p 0 (j / 3) + 1 := by
    unfold elr
    rw [e1, show l j + (p 0 (j / 3) - l j % p 0 (j / 3)) = (l j / p 0 (j / 3) + 1) * p 0 (j / 3) by rw [Int.add_mul, Int.mul_comm (l j / p 0 (j / 3))]; omega]
    exact Int.mul_ediv_cancel _ (by omega)
  have e4 : 0 ≤ l j / p 0 (j / 3) := Int.ediv_nonneg (by omega) (by omega)
  refine ⟨by unfold cm; omega, ?_⟩
  rw [e3, Int.mul_add, e1]
  omega
theorem sm_m {f g : Int → Int} {a : Int} : ∀ n : Nat, (∀ i : Int, a ≤ i → i < a + n → f i ≤ g i) → sm f a n ≤ sm g a n
  | 0, _ => Int.le_refl _
  | n + 1, h => by
    show sm f a n + _ ≤ sm g a n + _
    have h1 := sm_m n (fun i q1 q2 => h i q1 (by omega))
    have h2 := h (a + n) (by omega) (by omega)
    omega
theorem sm_ge {f : Int → Int} {a k : Int} (h : ∀ j : Int, a ≤ j → j < a + 3 → 0 ≤ f j) (h0 : a ≤ k) (h1 : k < a + 3) : f k ≤ sm f a 3 := by
  have a1 := h (a + 0) (by omega) (by omega)
  have a2 := h (a + 1) (by omega) (by omega)
  have a3 := h (a + 2) (by omega) (by omega)
  show f k ≤ 0 + f (a + 0) + f (a + 1) + f (a + 2)
  rcases (show k = a + 0 ∨ k = a + 1 ∨ k = a + 2 by omega) with rfl | rfl | rfl <;> omega
theorem mx_m {f g : Int → Int} {a : Int} : ∀ n : Nat, (∀ i : Int, a ≤ i → i < a + n → f i ≤ g i) → mx f a n ≤ mx g a n
  | 0, _ => Int.le_refl _
  | n + 1, h => by
    show max (mx f a n) _ ≤ max (mx g a n) _
    have h1 := mx_m n (fun i q1 q2 => h i q1 (by omega))
    have h2 := h (a + n) (by omega) (by omega)
    omega
theorem mx_b {f : Int → Int} {a M : Int} (hM : 0 ≤ M) : ∀ n : Nat, (∀ i : Int, a ≤ i → i < a + n → f i ≤ M) → 0 ≤ mx f a n ∧ mx f a n ≤ M
  | 0, _ => ⟨Int.le_refl _, hM⟩
  | n + 1, h => by
    show 0 ≤ max (mx f a n) _ ∧ max (mx f a n) _ ≤ M
    have h1 := mx_b hM n (fun i q1 q2 => h i q1 (by omega))
    have h2 := h (a + n) (by omega) (by omega)
    omega
theorem mx_s {f : Int → Int} {a i : Int} (h : a ≤ i) : mx f a (i + 1 - a).toNat = max (mx f a (i - a).toNat) (f i) := by
  have e : (i + 1 - a).toNat = (i - a).toNat + 1 := by omega
  rw [e]
  show max (mx f a (i - a).toNat) (f (a + ((i - a).toNat : Int))) = _
  rw [show a + ((i - a).toNat : Int) = i by omega]
theorem mx_0 {f : Int → Int} {a : Int} : mx f a (a - a).toNat = 0 := by
  rw [show (a - a).toNat = 0 by omega]
  rfl
theorem zb_m {Q : Prop} {a b : Int} (h0 : 0 ≤ a) (h : a ≤ b) : 0 ≤ zb Q * a ∧ zb Q * a ≤ zb Q * b ∧ zb Q * b ≤ b := by
  by_cases q : Q
  · rw [zb_t q]; omega
  · rw [zb_f q]; omega
theorem wkt_b {p : zP} (hp : WP p) {l : Int → Int} (hl : WL l) {j : Int} (k : Int) {s t : Int} (h0 : 0 ≤ j) (h9 : j < 9) (hs : 1 ≤ s) (h : s ≤ t) : 0 ≤ cm p l j k s * p 7 j ∧ cm p l j k s * p 7 j ≤ cm p l j k t * p 7 j := by
  have h1 := cm_0 hp hl k h0 h9 hs
  have h2 := cm_m hp l k h0 h9 h
  have h3 := (hp.2.1 j h0 h9).2.1
  exact ⟨Int.mul_nonneg h1 h3.1, Int.mul_le_mul_of_nonneg_right h2 h3.1⟩
theorem wk_m {p : zP} (hp : WP p) {l : Int → Int} (hl : WL l) (x : Int) {k s t : Int} (h0 : 0 ≤ k) (h9 : k < 9) (hs : 1 ≤ s) (h : s ≤ t) : 0 ≤ wk p l x k s ∧ wk p l x k s ≤ wk p l x k t := by
  constructor
  · have := sm_m (f := fun _ => 0) (g := fun j => zb (riv p x j) * (cm p l j k s * p 7 j)) (a := k / 3 * 3) 3 (fun i a b => (zb_m (wkt_b hp hl k (by omega) (by omega) hs (Int.le_refl _)).1 (Int.le_refl _)).1)
    have e : sm (fun _ => 0) (k / 3 * 3) 3 = 0 := rfl
    unfold wk
    omega
  · exact sm_m 3 (fun i a b => by
      have q := wkt_b hp hl (j := i) k (by omega) (by omega) hs h
      exact (zb_m q.1 q.2).2.1)
theorem wk_b {p : zP} (hp : WP p) {l : Int → Int} (hl : WL l) (x : Int) {k t : Int} (h0 : 0 ≤ k) (h9 : k < 9) (ht : 1 ≤ t) (ht2 : t ≤ 200) : 0 ≤ wk p l x k t ∧ wk p l x k t ≤ 13860 := by
  refine ⟨(wk_m hp hl x h0 h9 ht (Int.le_refl _)).1, ?_⟩
  have := sm_m (f := fun j => zb (riv p x j) * (cm p l j k t * p 7 j)) (g := fun _ => 4620) (a := k / 3 * 3) 3 (fun i a b => by
    have q := wkt_b hp hl (j := i) k (by omega) (by omega) ht (Int.le_refl _)
    have q2 := (zb_m (Q := riv p x i) q.1 (Int.le_refl _)).2.2
    have q3 := cm_b hp hl (j := i) k (by omega) (by omega) ht ht2
    have q4 := (hp.2.1 i (by omega) (by omega)).2.1
    have q5 := mul_b q3.1 q3.2 q4.1 q4.2 (by omega) (by omega)
    omega)
  have e : sm (fun _ => 4620) (k / 3 * 3) 3 = 13860 := rfl
  unfold wk
  omega
theorem ot_m {p : zP} (hp : WP p) {l : Int → Int} (hl : WL l) (x : Int) (C : Int → Prop) {i s t : Int} (h0 : 0 ≤ i) (h3 : i < 3) (hs : 1 ≤ s) (h : s ≤ t) : ot p l x C i s ≤ ot p l x C i t :=
  mx_m 3 (fun k a b => by
    have q := wk_m hp hl x (k := k) (by omega) (by omega) hs h
    have q2 := zb_m (Q := C k) q.1 q.2
    exact (zb_m q2.1 q2.2.1).2.1)
theorem ot_0 {p : zP} (l : Int → Int) (x : Int) (C : Int → Prop) (i t : Int) : 0 ≤ ot p l x C i t := by
  unfold ot
  show 0 ≤ max (max (max 0 _) _) _
  omega
theorem ot_b {p : zP} (hp : WP p) {l : Int → Int} (hl : WL l) (x : Int) (C : Int → Prop) {i t : Int} (h0 : 0 ≤ i) (h3 : i < 3) (ht : 1 ≤ t) (ht2 : t ≤ 200) : 0 ≤ ot p l x C i t ∧ ot p l x C i t ≤ 13860 :=
  mx_b (by omega) 3 (fun k a b => by
    have q := wk_b hp hl x (k := k) (t := t) (by omega) (by omega) ht ht2
    have q1 := zb_m (Q := C k) q.1 (Int.le_refl _)
    have q2 := (zb_m (Q := riv p x k) q1.1 (Int.le_refl _)).2.2
    omega)
theorem oth_m {p : zP} (hp : WP p) {l : Int → Int} (hl : WL l) (x : Int) (C : Int → Prop) {s t : Int} (hs : 1 ≤ s) (h : s ≤ t) : 0 ≤ oth p l x C s ∧ oth p l x C s ≤ oth p l x C t := by
  constructor
  · have := sm_m (f := fun _ => 0) (g := fun i => zb (i ≠ x / 3) * ot p l x C i s) (a := 0) 3 (fun i a b => (zb_m (ot_0 l x C i s) (Int.le_refl _)).1)
    have e : sm (fun _ => 0) 0 3 = 0 := rfl
    unfold oth
    omega
  · exact sm_m 3 (fun i a b => (zb_m (ot_0 l x C i s) (ot_m hp hl x C (by omega) (by omega) hs h)).2.1)
theorem oth_b {p : zP} (hp : WP p) {l : Int → Int} (hl : WL l) (x : Int) (C : Int → Prop) {t : Int} (ht : 1 ≤ t) (ht2 : t ≤ 200) : 0 ≤ oth p l x C t ∧ oth p l x C t ≤ 41580 := by
  refine ⟨(oth_m hp hl x C ht (Int.le_refl _)).1, ?_⟩
  have := sm_m (f := fun i => zb (i ≠ x / 3) * ot p l x C i t) (g := fun _ => 13860) (a := 0) 3 (fun i a b => by
    have q := ot_b hp hl x C (i := i) (by omega) (by omega) ht ht2
    have q2 := (zb_m (Q := i ≠ x / 3) q.1 (Int.le_refl _)).2.2
    omega)
  have e : sm (fun _ => 13860) 0 3 = 41580 := rfl
  unfold oth
  omega
/-- who may be the moment of x's own chain -/
def own (p : zP) (x k : Int) : Prop := 0 ≤ x ∧ x < 9 ∧ th p x ∧ k / 3 = x / 3 ∧ (k = x ∨ riv p x k)
theorem Fn_m {p : zP} (hp : WP p) {l : Int → Int} (hl : WL l) (C : Int → Prop) {x k : Int} (u : Int) (ho : own p x k) : MF (Fn p l C x k u) := by
  intro s t hs h
  have h0 := ho.1
  have h9 := ho.2.1
  have hk := ho.2.2.2.1
  have h1 := wk_m hp hl x (k := k) (by omega) (by omega) hs h
  have h2 := oth_m hp hl x C hs h
  have h3 := wkt_b hp hl (j := x) k (by omega) (by omega) hs h
  unfold Fn
  by_cases q : u = -1
  · rw [if_pos q, if_pos q]; omega
  · rw [if_neg q, if_neg q]; omega
theorem Fn_1 {p : zP} (hp : WP p) {l : Int → Int} (hl : WL l) (C : Int → Prop) {x k : Int} {u : Int} (hu : u = -1 ∨ 1 ≤ u) (ho : own p x k) {t : Int} (ht : 1 ≤ t) : 1 ≤ Fn p l C x k u t := by
  have h0 := ho.1
  have h9 := ho.2.1
  have hk := ho.2.2.2.1
  have hx := hp.2.2 x h0 h9 ho.2.2.1
  have h1 := wk_m hp hl x (k := k) (by omega) (by omega) ht (Int.le_refl t)
  have h2 := oth_m hp hl x C ht (Int.le_refl t)
  have h3 := wkt_b hp hl (j := x) k (by omega) (by omega) ht (Int.le_refl t)
  unfold Fn
  by_cases q : u = -1
  · rw [if_pos q]
    rcases ho.2.2.2.2 with e | hr
    · subst e
      have h4 := (cm_self hp hl h0 h9 ht).1
      have h5 : 1 * 1 ≤ cm p l k k t * p 7 k := Int.mul_le_mul h4 hx (by omega) (by omega)
      omega
    · have hkk := hp.2.2 k (by omega) (by omega) hr.1
      have h4 := (cm_self hp hl (j := k) (by omega) (by omega) ht).1
      have h5 : 1 * 1 ≤ cm p l k k t * p 7 k := Int.mul_le_mul h4 hkk (by omega) (by omega)
      have h6 : zb (riv p x k) * (cm p l k k t * p 7 k) ≤ wk p l x k t := by
        have h7 : ∀ j : Int, k / 3 * 3 ≤ j → j < k / 3 * 3 + 3 → 0 ≤ zb (riv p x j) * (cm p l j k t * p 7 j) := fun j a b => (zb_m (wkt_b hp hl k (by omega) (by omega) ht (Int.le_refl _)).1 (Int.le_refl _)).1
        exact sm_ge (f := fun j => zb (riv p x j) * (cm p l j k t * p 7 j)) h7 (by omega) (by omega)
      rw [zb_t hr] at h6
      omega
  · rw [if_neg q]
    have h5 : 1 * 1 ≤ u * p 7 x := Int.mul_le_mul (by omega) hx (by omega) (by omega)
    omega
theorem Fn_b {p : zP} (hp : WP p) {l : Int → Int} (hl : WL l) (C : Int → Prop) {x k : Int} {u : Int} (hu0 : -1 ≤ u) (hu : u ≤ 1000) (h0 : 0 ≤ x) (h9 : x < 9) (g0 : 0 ≤ k) (g9 : k < 9) {t : Int} (ht : 1 ≤ t) (ht2 : t ≤ 200) : 0 ≤ Fn p l C x k u t ∧ Fn p l C x k u t ≤ 100000 := by
  have h1 := wk_b hp hl x (k := k) (t := t) (by omega) (by omega) ht ht2
  have h2 := oth_b hp hl x C ht ht2
  have h3 := cm_b hp hl (j := x) k h0 h9 ht ht2
  have h4 := (hp.2.1 x h0 h9).2.1
  unfold Fn
  by_cases q : u = -1
  · rw [if_pos q]
    have h5 := mul_b h3.1 h3.2 h4.1 h4.2 (by omega) (by omega)
    omega
  · rw [if_neg q]
    have h5 := mul_b (show 0 ≤ u by omega) hu h4.1 h4.2 (by omega) (by omega)
    omega
theorem Fn_s {p : zP} {l : Int → Int} {C : Int → Prop} {x k u : Int} (hu : 0 ≤ u) (t : Int) : Fn p l C x k (u + 1) t = Fn p l C x k u t + p 7 x := by
  unfold Fn
  rw [if_neg (by omega), if_neg (by omega), Int.add_mul]
  omega
theorem Fn_w {p : zP} (hp : WP p) {l : Int → Int} (hl : WL l) (C : Int → Prop) {x k : Int} (ho : own p x k) : LI (Fn p l C x k 1) (p 7 x) := by
  have h0 := ho.1
  have h9 := ho.2.1
  have hk := ho.2.2.2.1
  have hx := hp.2.2 x h0 h9 ho.2.2.1
  have e : ∀ t : Int, Fn p l C x k 1 t = p 7 x + wk p l x k t + oth p l x C t := fun t => by
    unfold Fn
    rw [if_neg (by omega), Int.one_mul]
  refine ⟨hx, ?_, fun s a b c => ?_⟩
  · rw [e]
    have h1 := wk_m hp hl x (k := k) (by omega) (by omega) hx (Int.le_refl _)
    have h2 := oth_m hp hl x C hx (Int.le_refl _)
    omega
  · rw [e] at c
    have h1 := wk_m hp hl x (k := k) (by omega) (by omega) a (Int.le_refl _)
    have h2 := oth_m hp hl x C a (Int.le_refl _)
    omega
end ZE
