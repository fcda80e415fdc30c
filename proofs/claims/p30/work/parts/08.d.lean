section ZM4
theorem sm_bump {f g : Int → Int} {a c v : Int} (hc : g c = f c + v) : ∀ n : Nat, (∀ y : Int, a ≤ y → y < a + n → y ≠ c → g y = f y) → ((c < a ∨ a + n ≤ c) → sm g a n = sm f a n) ∧ ((a ≤ c ∧ c < a + n) → sm g a n = sm f a n + v)
  | 0, _ => ⟨fun _ => rfl, fun q => by omega⟩
  | n + 1, h => by
    obtain ⟨i1, i2⟩ := sm_bump hc n (fun y q1 q2 q3 => h y q1 (by omega) q3)
    have e1 : sm g a (n + 1) = sm g a n + g (a + n) := rfl
    have e2 : sm f a (n + 1) = sm f a n + f (a + n) := rfl
    rw [e1, e2]
    by_cases q : a + n = c
    · have := i1 (Or.inr (by omega))
      rw [q, hc]
      exact ⟨fun z => by omega, fun z => by omega⟩
    · have h1 := h (a + n) (by omega) (by omega) q
      exact ⟨fun z => by have := i1 (by omega); omega, fun z => by have := i2 (by omega); omega⟩
theorem sm_lt {f g : Int → Int} {a c : Int} (hc : f c < g c) : ∀ n : Nat, (∀ y : Int, a ≤ y → y < a + n → f y ≤ g y) → a ≤ c → c < a + n → sm f a n < sm g a n
  | 0, _, _, _ => by omega
  | n + 1, h, h1, h2 => by
    have e1 : sm g a (n + 1) = sm g a n + g (a + n) := rfl
    have e2 : sm f a (n + 1) = sm f a n + f (a + n) := rfl
    have h3 := h (a + n) (by omega) (by omega)
    rw [e1, e2]
    by_cases q : a + n = c
    · have h4 := sm_m (f := f) (g := g) (a := a) n (fun y q1 q2 => h y q1 (by omega))
      rw [q]
      omega
    · have := sm_lt hc n (fun y q1 q2 => h y q1 (by omega)) h1 (by omega)
      omega
theorem sm_add {f g : Int → Int} {a : Int} : ∀ n : Nat, sm (fun y => f y + g y) a n = sm f a n + sm g a n
  | 0 => rfl
  | n + 1 => by
    show sm (fun y => f y + g y) a n + (f (a + n) + g (a + n)) = (sm f a n + f (a + n)) + (sm g a n + g (a + n))
    rw [sm_add n]
    omega
theorem mx_at {f : Int → Int} {a k : Int} : ∀ n : Nat, a ≤ k → k < a + n → f k ≤ mx f a n
  | 0, _, _ => by omega
  | n + 1, h1, h2 => by
    have e : mx f a (n + 1) = max (mx f a n) (f (a + n)) := rfl
    rw [e]
    by_cases q : k = a + n
    · rw [q]; omega
    · have := mx_at (f := f) n h1 (show k < a + n by omega)
      omega
theorem pick {Q : Int → Prop} (f : Int → Int) (hf : ∀ y : Int, 0 ≤ y → y < 9 → 0 ≤ f y) : ∃ kf : Int → Int, ∀ y : Int, 0 ≤ y → y < 9 → Q y → 0 ≤ kf (y / 3) ∧ kf (y / 3) < 9 ∧ kf (y / 3) / 3 = y / 3 ∧ Q (kf (y / 3)) ∧ f (kf (y / 3)) ≤ f y := by
  have h : ∀ i : Int, ∃ k : Int, ∀ y : Int, 0 ≤ y → y < 9 → Q y → y / 3 = i → 0 ≤ k ∧ k < 9 ∧ k / 3 = i ∧ Q k ∧ f k ≤ f y := by
    intro i
    by_cases q : ∃ y : Int, 0 ≤ y ∧ y < 9 ∧ Q y ∧ y / 3 = i
    · obtain ⟨y0, a0, b0, c0, d0⟩ := q
      obtain ⟨v, ⟨k, a1, b1, c1, d1, e1⟩, hv⟩ := max_ex (P := fun v => ∃ y : Int, 0 ≤ y ∧ y < 9 ∧ Q y ∧ y / 3 = i ∧ - f y = v) (M := 0) (fun v ⟨y, a, b, _, _, e⟩ => by have := hf y a b; omega) (f y0).toNat (- f y0) ⟨y0, a0, b0, c0, d0, rfl⟩ (by have := hf y0 a0 b0; omega)
      exact ⟨k, fun y a b c d => ⟨a1, b1, d1, c1, by have := hv (- f y) ⟨y, a, b, c, d, rfl⟩; omega⟩⟩
    · exact ⟨0, fun y a b c d => absurd ⟨y, a, b, c, d⟩ q⟩
  exact ⟨fun i => Classical.choose (h i), fun y a b c => Classical.choose_spec (h (y / 3)) y a b c rfl⟩
theorem rl_i {p : zP} {x i j : Int} (h0 : 0 ≤ j) (h3 : j < 3) (hr : riv p x (i * 3 + j)) : ∃ n : Int, 0 ≤ n ∧ n < rn p x i ∧ rl p x i n = j := by
  refine ⟨cn p x i j, (rl_at h0 h3 hr).2.1, ?_, (rl_at h0 h3 hr).1⟩
  have e := cn_s (p := p) (x := x) (i := i) h0
  rw [zb_t hr] at e
  rw [← cn_3]
  rcases (show j = 0 ∨ j = 1 ∨ j = 2 by omega) with rfl | rfl | rfl
  · have e1 := cn_s (p := p) (x := x) (i := i) (j := 1) (by omega)
    have e2 := cn_s (p := p) (x := x) (i := i) (j := 2) (by omega)
    rw [show (2 : Int) + 1 = 3 by rfl] at e2
    rw [show (1 : Int) + 1 = 2 by rfl] at e1
    rw [show (0 : Int) + 1 = 1 by rfl] at e
    have := zb_2 (riv p x (i * 3 + 1))
    have := zb_2 (riv p x (i * 3 + 2))
    omega
  · have e2 := cn_s (p := p) (x := x) (i := i) (j := 2) (by omega)
    rw [show (2 : Int) + 1 = 3 by rfl] at e2
    rw [show (1 : Int) + 1 = 2 by rfl] at e
    have := zb_2 (riv p x (i * 3 + 2))
    omega
  · rw [show (2 : Int) + 1 = 3 by rfl] at e
    omega
/-- one moment of each other chain, as one of the ways to choose -/
theorem way {p : zP} {x : Int} (h0 : 0 ≤ x) (h9 : x < 9) (kf : Int → Int) (hk : ∀ y : Int, 0 ≤ y → y < 9 → riv p x y → y / 3 ≠ x / 3 → kf (y / 3) / 3 = y / 3 ∧ riv p x (kf (y / 3))) : ∃ a b : Int, inr p x ((x / 3 + 1) % 3) ((x / 3 + 2) % 3) a b ∧ ∀ y : Int, 0 ≤ y → y < 9 → riv p x y → y / 3 ≠ x / 3 → Cg (gpk p x ((x / 3 + 1) % 3) a ((x / 3 + 2) % 3) b) (kf (y / 3)) := by
  have one : ∀ i : Int, i ≠ x / 3 → ∃ a : Int, 0 ≤ a ∧ a < na p x i ∧ ∀ y : Int, 0 ≤ y → y < 9 → riv p x y → y / 3 = i → pkc p x i a = kf i % 3 := by
    intro i hi
    by_cases q : ∃ y : Int, 0 ≤ y ∧ y < 9 ∧ riv p x y ∧ y / 3 = i
    · obtain ⟨y, a, b, c, d⟩ := q
      obtain ⟨g1, g2⟩ := hk y a b c (by omega)
      rw [d] at g1 g2
      obtain ⟨n, n0, n1, n2⟩ := rl_i (p := p) (x := x) (i := i) (j := kf i % 3) (by omega) (by omega) (by rw [show i * 3 + kf i % 3 = kf i by omega]; exact g2)
      refine ⟨n, n0, by have := na_b p x i; omega, fun _ _ _ _ _ => ?_⟩
      unfold pkc
      rw [if_neg (by omega), n2]
    · exact ⟨0, Int.le_refl _, by have := na_b p x i; omega, fun y a b c d => absurd ⟨y, a, b, c, d⟩ q⟩
  obtain ⟨a, a0, a1, a2⟩ := one ((x / 3 + 1) % 3) (by omega)
  obtain ⟨b, b0, b1, b2⟩ := one ((x / 3 + 2) % 3) (by omega)
  refine ⟨a, b, ⟨a0, a1, b0, b1⟩, fun y c d hr hn => ?_⟩
  obtain ⟨g1, g2⟩ := hk y c d hr hn
  unfold Cg
  right
  rw [g1]
  rcases (show y / 3 = (x / 3 + 1) % 3 ∨ y / 3 = (x / 3 + 2) % 3 by omega) with q | q
  · rw [q, gpk_1, a2 y c d hr q]
  · rw [q, gpk_2 p x a b (by omega), b2 y c d hr q]
/-! how many jobs fall into a time -/
theorem al_u {p : zP} (l : Int → Int) {y k B d c : Int} (hk : p 3 (y / 3) + ear p k + l k - B - d = p 0 (y / 3) * c) : ∃ c' : Int, p 3 (y / 3) + ear p y - B - d = phi p l y k + p 0 (y / 3) * c' := by
  refine ⟨c - (ear p k + l k - ear p y) / p 0 (y / 3) - 1, ?_⟩
  have := Int.mul_ediv_add_emod (ear p k + l k - ear p y) (p 0 (y / 3))
  unfold phi
  rw [Int.mul_sub, Int.mul_sub, Int.mul_one]
  omega
theorem cnt {p : zP} (hp : WP p) (l : Int → Int) {y k n1 n2 B d c t : Int} (h0 : 0 ≤ y) (h9 : y < 9) (hk : p 3 (y / 3) + ear p k + l k - B - d = p 0 (y / 3) * c) (d0 : 0 ≤ d) (h1 : B + d ≤ rel p (y / 3) n1 + ear p y + l y) (h2 : rel p (y / 3) n2 + ear p y ≤ B + t - 1) : n2 - n1 + 1 ≤ cm p l y k t := by
  have hT := hp.per (i := y / 3) (by omega) (by omega)
  obtain ⟨c', hu⟩ := al_u l hk
  unfold rel at h1 h2
  unfold cm elr
  generalize p 0 (y / 3) = T at *
  have g1 : -(n1 + c') ≤ (l y + phi p l y k) / T := Int.le_ediv_of_mul_le (by omega) (by
    rw [Int.neg_mul, Int.add_mul, Int.mul_comm c']
    omega)
  have g2 : n2 + c' + 1 ≤ (t - phi p l y k + T - 1) / T := Int.le_ediv_of_mul_le (by omega) (by
    rw [Int.add_mul, Int.add_mul, Int.mul_comm c']
    omega)
  omega
variable {p : zP} {l : Int → Int} {H : Int} {E K e A0 ex : Int → Int → Int}
def UB (p : zP) (l : Int → Int) (E e : Int → Int → Int) (t : Int) : Prop := ∀ y n : Int, 0 ≤ y → y < 9 → th p y → 0 ≤ n → n < E y t → e y n ≤ rel p (y / 3) n + srS p l y
/-- what is not ready ahead of B may be late up to B at least -/
theorem acv.hi (hS : STD p l) (hT : TR p H E K e A0 ex) {t : Int} (hU : UB p l E e t) (tH : t ≤ H) {y : Int} (h0 : 0 ≤ y) (h9 : y < 9) (ht : th p y) {n s B : Int} (s0 : 0 ≤ s) (st : s ≤ t) (n0 : 0 ≤ n) (h : acv p E e A0 y n s) (b0 : 0 ≤ B) (bt : B ≤ t) (hB : B = 0 ∨ ¬ acv p E e A0 y n (B - 1)) : B ≤ rel p (y / 3) n + ear p y + l y := by
  have hp := hS.1
  have hl := (hS.2.1).b h0 h9
  have he := ear_b hp h0 h9
  have hi := hp.1 (y / 3) (by omega) (by omega)
  rcases hB with rfl | hB
  · have : 0 ≤ n * p 0 (y / 3) := Int.mul_nonneg n0 (by omega)
    unfold rel
    omega
  · rcases h with ⟨h1, h2⟩ | ⟨h1, h2, h3⟩
    · have h4 : ¬ A0 (y / 3) n ≤ B - 1 := fun q => hB (Or.inl ⟨h1, q⟩)
      have h5 := (hT.2.2.2.2.1 (y / 3) n (by omega) (by omega) n0).2
      have h6 : ear p y = p 9 y := by
        unfold ear
        rw [h1, show y - 0 = y by omega, sm_0]
        omega
      have h7 := hS.2.2.2.1 (y / 3) (by omega) (by omega)
      rw [show y / 3 * 3 = y by omega] at h5 h7
      omega
    · have hy := th_prev h1 ht
      have h9' := (hp.2.1 y h0 h9).2.2.2
      have h4 : B ≤ e (y - 1) n + p 9 y := by
        rcases Int.lt_or_le (e (y - 1) n + p 9 y) B with q | q
        · exfalso
          rcases Int.lt_or_le n (E (y - 1) (B - 1)) with q2 | q2
          · exact hB (Or.inr ⟨h1, q2, by omega⟩)
          · rcases Int.lt_or_le s B with q3 | q3
            · by_cases q4 : B = 0
              · omega
              · exact hB ((show acv p E e A0 y n s from Or.inr ⟨h1, h2, h3⟩).t hT h0 h9 ht s0 (by omega) (by omega))
            · by_cases q4 : B = 0
              · have := hT.lo hp s s0 (by omega) (y - 1) n (by omega) (by omega) hy n0 h2
                have h8 := ear_b hp (x := y - 1) (by omega) (by omega)
                have h10 := hp.2.2 (y - 1) (by omega) (by omega) hy
                have : 0 ≤ n * p 0 ((y - 1) / 3) := Int.mul_nonneg n0 (by rw [show (y - 1) / 3 = y / 3 by omega]; omega)
                have h11 := (hp.1 ((y - 1) / 3) (by omega) (by omega)).2.2.2.1
                unfold rel at *
                omega
              · have := hT.l (y := y - 1) (by omega) (by omega) hy (t := B - 1) (by omega) q2 s (by omega) (by omega) h2
                omega
        · exact q
      have hm := hT.m (y := y - 1) (by omega) (by omega) hy s0 t st tH
      have h5 := hU (y - 1) n (by omega) (by omega) hy n0 (by omega)
      have h6 := (hS.s (x := y - 1) (by omega) (by omega) hy).1
      have h7 := hS.2.2.2.2 y h0 h9 h1 ht
      rw [show (y - 1) / 3 = y / 3 by omega] at h5
      omega
/-- the step and its rivals -/
def SX (p : zP) (x y : Int) : Prop := y = x ∨ riv p x y
theorem SX.t {x y : Int} (ht : th p x) (h : SX p x y) : th p y ∧ p 6 y = p 6 x ∧ p 8 x ≤ p 8 y := by
  rcases h with h | h
  · rw [h]; exact ⟨ht, rfl, Int.le_refl _⟩
  · exact ⟨h.1, h.2.2.1, h.2.2.2⟩
theorem sx_sm {x : Int} (h0 : 0 ≤ x) (h9 : x < 9) (g : Int → Int) : sm (fun y => zb (SX p x y) * g y) 0 9 = g x + sm (fun y => zb (riv p x y) * g y) 0 9 := by
  have hr : ¬ riv p x x := fun q => q.2.1 rfl
  have := (sm_bump (f := fun y => zb (riv p x y) * g y) (g := fun y => zb (SX p x y) * g y) (a := 0) (c := x) (v := g x) (by
    show zb (SX p x x) * g x = zb (riv p x x) * g x + g x
    rw [zb_t (show SX p x x from Or.inl rfl), zb_f hr]
    omega) 9 (fun y a b q => by
    show zb (SX p x y) * g y = zb (riv p x y) * g y
    by_cases z : riv p x y
    · rw [zb_t z, zb_t (show SX p x y from Or.inr z)]
    · rw [zb_f z, zb_f (show ¬ SX p x y from fun w => w.elim q z)])).2 ⟨h0, by omega⟩
  rw [this]
  omega
end ZM4
