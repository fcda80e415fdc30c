section ZR3
variable {σ : zS}
def rmx (p : zP) (i : Int) : Nat → Int
  | 0 => rdy p i 0
  | n + 1 => max (rmx p i n) (rdy p i ((n + 1 : Nat) : Int))
theorem rmx_s {p : zP} {i n : Int} (h : 0 ≤ n) : rmx p i (n + 1).toNat = max (rmx p i n.toNat) (rdy p i (n + 1)) := by
  rw [show (n + 1).toNat = n.toNat + 1 by omega]
  show max _ (rdy p i ((n.toNat + 1 : Nat) : Int)) = _
  rw [show ((n.toNat + 1 : Nat) : Int) = n + 1 by omega]
theorem rmx_m {p : zP} {i : Int} {a : Nat} : ∀ k : Nat, rmx p i a ≤ rmx p i (a + k)
  | 0 => Int.le_refl _
  | k + 1 => by
    have h := rmx_m (p := p) (i := i) (a := a) k
    show _ ≤ max (rmx p i (a + k)) (rdy p i ((a + k + 1 : Nat) : Int))
    omega
theorem rmx_le {p : zP} {i n m : Int} (h0 : 0 ≤ n) (h : n ≤ m) : rmx p i n.toNat ≤ rmx p i m.toNat := by
  have := rmx_m (p := p) (i := i) (a := n.toNat) (m.toNat - n.toNat)
  rw [show n.toNat + (m.toNat - n.toNat) = m.toNat by omega] at this
  exact this
theorem rdy_n {p : zP} (hp : WP p) {i n : Int} (h0 : 0 ≤ i) (h3 : i < 3) (n0 : 0 ≤ n) (n1 : n ≤ 64) : 5 * n ≤ rdy p i n ∧ rdy p i n ≤ 8000 := by
  have h := hp.1 i h0 h3
  have hk := (hp.2.1 (i * 3) (by omega) (by omega)).2.2.2
  have m0 := Int.emod_nonneg (n * p 4 i) (show p 1 i + 1 ≠ 0 by omega)
  have m1 := Int.emod_lt_of_pos (n * p 4 i) (show 0 < p 1 i + 1 by omega)
  have hm : n * 5 ≤ n * p 0 i ∧ n * p 0 i ≤ 64 * 100 := ⟨Int.mul_le_mul_of_nonneg_left (by omega) n0, Int.mul_le_mul n1 (by omega) (by omega) (by omega)⟩
  unfold rdy rel
  omega
theorem rmx_b {p : zP} (hp : WP p) {i : Int} (h0 : 0 ≤ i) (h3 : i < 3) : ∀ n : Nat, n ≤ 64 → 5 * (n : Int) ≤ rmx p i n ∧ rmx p i n ≤ 8000
  | 0, _ => by
    have := rdy_n hp h0 h3 (n := 0) (by omega) (by omega)
    exact this
  | n + 1, hn => by
    have := rmx_b hp h0 h3 n (by omega)
    have h2 := rdy_n hp h0 h3 (n := ((n + 1 : Nat) : Int)) (by omega) (by omega)
    show _ ≤ max (rmx p i n) (rdy p i ((n + 1 : Nat) : Int)) ∧ max (rmx p i n) (rdy p i ((n + 1 : Nat) : Int)) ≤ _
    omega
/-- the model's rows beside the class's, in a run -/
def MRa (p : zP) (g τ : zS) (b : Int) : Prop :=
  (∀ x : Int, 0 ≤ x → x < 9 → τ.1 90 x = g.1 43 x ∧ τ.1 91 x = g.1 44 x ∧ τ.1 92 x = g.1 45 x) ∧
  (∀ x : Int, 0 ≤ x → x < 9 → th p x → 0 ≤ g.1 45 x ∧ g.1 45 x ≤ 60 ∧ 0 ≤ g.1 46 x ∧ g.1 46 x < p 7 x) ∧
  (∀ x n : Int, 0 ≤ x → x < 9 → th p x → 0 ≤ n → n < 64 → τ.1 89 (64 * x + n) = if n < g.1 45 x then p 7 x else if n = g.1 45 x then g.1 46 x else 0) ∧
  (∀ x : Int, 0 ≤ x → x < 9 → th p x → x % 3 = 0 → g.1 57 (x / 3) = rmx p (x / 3) (g.1 45 x).toNat) ∧
  (∀ x n : Int, 0 ≤ x → x < 9 → th p x → x % 3 = 0 → 0 ≤ n → n < 64 → τ.1 88 (64 * x + n) = rmx p (x / 3) n.toNat) ∧
  (∀ x : Int, 0 ≤ x → x < 9 → th p x → x % 3 ≠ 0 → g.1 45 x ≤ g.1 45 (x - 1)) ∧
  (∀ x n : Int, 0 ≤ x → x < 9 → th p x → x % 3 ≠ 0 → 0 ≤ n → n < 64 → τ.1 88 (64 * x + n) = if n < g.1 45 (x - 1) then g.1 (48 + (x - 1).toNat) n + p 9 x else -1) ∧
  (∀ x n m : Int, 0 ≤ x → x < 9 → th p x → 0 ≤ n → n ≤ m → m < g.1 45 x → g.1 (48 + x.toNat) n ≤ g.1 (48 + x.toNat) m) ∧
  (∀ x n : Int, 0 ≤ x → x < 9 → th p x → 0 ≤ n → n < g.1 45 x → 0 ≤ g.1 (48 + x.toNat) n ∧ g.1 (48 + x.toNat) n ≤ b)
theorem MRa.did {p : zP} {g τ : zS} {b u v : Int} {c : Nat} (h : MRa p g τ b) (hc : c = 39 ∨ c = 41 ∨ c = 42) : MRa p (zu g c u v) τ b := by
  have f : ∀ k : Nat, k ≠ 39 → k ≠ 41 → k ≠ 42 → (zu g c u v).1 k = g.1 k := fun k q1 q2 q3 => zu_nc (by omega)
  unfold MRa
  rw [f 43 (by omega) (by omega) (by omega), f 44 (by omega) (by omega) (by omega), f 45 (by omega) (by omega) (by omega), f 46 (by omega) (by omega) (by omega), f 57 (by omega) (by omega) (by omega)]
  obtain ⟨h1, h2, h3, h4, h5, h6, h7, h8, h9⟩ := h
  refine ⟨h1, h2, h3, h4, h5, h6, fun x n a1 a2 a3 a4 a5 a6 => ?_, fun x n m a1 a2 a3 a4 a5 a6 => ?_, fun x n a1 a2 a3 a4 a5 => ?_⟩
  · rw [f _ (by omega) (by omega) (by omega)]; exact h7 x n a1 a2 a3 a4 a5 a6
  · rw [f _ (by omega) (by omega) (by omega)]; exact h8 x n m a1 a2 a3 a4 a5 a6
  · rw [f _ (by omega) (by omega) (by omega)]; exact h9 x n a1 a2 a3 a4 a5
theorem MRa.tau {p : zP} {g τ τ' : zS} {b : Int} (h : MRa p g τ b) (f : ∀ k : Nat, 88 ≤ k → k ≤ 92 → τ'.1 k = τ.1 k) : MRa p g τ' b := by
  unfold MRa
  rw [f 88 (by omega) (by omega), f 89 (by omega) (by omega), f 90 (by omega) (by omega), f 91 (by omega) (by omega), f 92 (by omega) (by omega)]
  exact h
/-- who is ready, by the model's rows -/
theorem MRa.r1 {p : zP} (hp : WP p) {g τ : zS} {b t x : Int} (h : MRa p g τ b) (h0 : 0 ≤ x) (h9 : x < 9) (ht : th p x) (hr : rd p g x t) : τ.1 88 (64 * x + g.1 45 x) ≠ -1 ∧ τ.1 88 (64 * x + g.1 45 x) ≤ t := by
  obtain ⟨h1, h2, h3, h4, h5, h6, h7, h8, h9'⟩ := h
  have he := h2 x h0 h9 ht
  have hr1 := hr.1
  rcases hr.2 with ⟨q1, q2⟩ | ⟨q1, q2, q3⟩
  · rw [h5 x _ h0 h9 ht q1 (by omega) (by omega), ← h4 x h0 h9 ht q1]
    have hb := rmx_b hp (i := x / 3) (by omega) (by omega) (g.1 45 x).toNat (by omega)
    rw [← h4 x h0 h9 ht q1] at hb
    omega
  · rw [h7 x _ h0 h9 ht q1 (by omega) (by omega), if_pos q2]
    have := h9' (x - 1) (g.1 45 x) (by omega) (by omega) (th_prev q1 ht) (by omega) q2
    have hk := (hp.2.1 x h0 h9).2.2.2
    omega
theorem MRa.r2 {p : zP} (hp : WP p) {g τ : zS} {b t x n : Int} (h : MRa p g τ b) (h0 : 0 ≤ x) (h9 : x < 9) (ht : th p x) (t3 : t < 300) (hr : ¬ rd p g x t) (hn : g.1 45 x ≤ n) (hn2 : n < 64) : τ.1 88 (64 * x + n) = -1 ∨ t < τ.1 88 (64 * x + n) := by
  obtain ⟨h1, h2, h3, h4, h5, h6, h7, h8, h9'⟩ := h
  have he := h2 x h0 h9 ht
  by_cases q : x % 3 = 0
  · rw [h5 x n h0 h9 ht q (by omega) hn2]
    have hb := rmx_b hp (i := x / 3) (by omega) (by omega) n.toNat (by omega)
    have hm := rmx_le (p := p) (i := x / 3) (n := g.1 45 x) (m := n) (by omega) hn
    rw [← h4 x h0 h9 ht q] at hm
    by_cases q2 : g.1 45 x < 60
    · have : ¬ g.1 57 (x / 3) ≤ t := fun z => hr ⟨q2, Or.inl ⟨q, z⟩⟩
      omega
    · omega
  · rw [h7 x n h0 h9 ht q (by omega) hn2]
    have h6x := h6 x h0 h9 ht q
    have h2p := h2 (x - 1) (by omega) (by omega) (th_prev q ht)
    by_cases q2 : n < g.1 45 (x - 1)
    · rw [if_pos q2]
      have : ¬ g.1 (48 + (x - 1).toNat) (g.1 45 x) + p 9 x ≤ t := fun z => hr ⟨by omega, Or.inr ⟨q, by omega, z⟩⟩
      have := h8 (x - 1) (g.1 45 x) n (by omega) (by omega) (th_prev q ht) (by omega) hn q2
      omega
    · rw [if_neg q2]; omega
/-- what the model does when a step ends -/
noncomputable def finM (p : zP) (x n a : Int) (τ : zS) : zS :=
  let s1 := zu τ 90 x (max (τ.1 90 x) (a - rel p (x / 3) n))
  let s2 := zu s1 91 x (if s1.1 91 x = -1 then a - rel p (x / 3) n else min (s1.1 91 x) (a - rel p (x / 3) n))
  let s3 := zu s2 92 x (s2.1 92 x + 1)
  @ite _ (x % 3 < 2 ∧ th p (x + 1)) (Classical.propDecidable _) (zu s3 88 (64 * x + n + 64) (a + p 9 (x + 1))) s3
theorem finM_90 {p : zP} {x n a y : Int} {τ : zS} : (finM p x n a τ).1 90 y = if y = x then max (τ.1 90 x) (a - rel p (x / 3) n) else τ.1 90 y := by
  unfold finM; dsimp only; split <;> simp [zu]
theorem finM_91 {p : zP} {x n a y : Int} {τ : zS} : (finM p x n a τ).1 91 y = if y = x then (if τ.1 91 x = -1 then a - rel p (x / 3) n else min (τ.1 91 x) (a - rel p (x / 3) n)) else τ.1 91 y := by
  unfold finM; dsimp only; split <;> simp [zu]
theorem finM_92 {p : zP} {x n a y : Int} {τ : zS} : (finM p x n a τ).1 92 y = if y = x then τ.1 92 x + 1 else τ.1 92 y := by
  unfold finM; dsimp only; split <;> simp [zu]
theorem finM_88a {p : zP} {x n a k : Int} {τ : zS} (h : x % 3 < 2 ∧ th p (x + 1)) : (finM p x n a τ).1 88 k = if k = 64 * x + n + 64 then a + p 9 (x + 1) else τ.1 88 k := by
  unfold finM; dsimp only; rw [if_pos h]; simp [zu]
theorem finM_88b {p : zP} {x n a : Int} {τ : zS} (h : ¬ (x % 3 < 2 ∧ th p (x + 1))) : (finM p x n a τ).1 88 = τ.1 88 := by
  unfold finM; dsimp only; rw [if_neg h, zu_nc (by omega), zu_nc (by omega), zu_nc (by omega)]
theorem finM_o {p : zP} {x n a : Int} {τ : zS} {c : Nat} (hc : c < 88 ∨ 92 < c ∨ c = 89) : (finM p x n a τ).1 c = τ.1 c := by
  unfold finM; dsimp only
  split
  · rw [zu_nc (by omega), zu_nc (by omega), zu_nc (by omega), zu_nc (by omega)]
  · rw [zu_nc (by omega), zu_nc (by omega), zu_nc (by omega)]
theorem finM_l {p : zP} {x n a : Int} {τ : zS} : (finM p x n a τ).2 = τ.2 := by
  unfold finM; dsimp only; split <;> rfl
theorem zu_cm {c c' : Nat} {i j v w : Int} (h : c ≠ c') : zu (zu σ c i v) c' j w = zu (zu σ c' j w) c i v := by
  refine Prod.ext (funext fun k => ?_) rfl
  by_cases h1 : k = c
  · rw [zu_nc (by omega), h1]
    funext q
    by_cases hq : q = i
    · rw [hq, zu_eq, zu_eq]
    · rw [zu_ne hq, zu_ne hq, zu_nc h]
  · by_cases h2 : k = c'
    · rw [zu_nc h1, h2]
      funext q
      by_cases hq : q = j
      · rw [hq, zu_eq, zu_eq]
      · rw [zu_ne hq, zu_ne hq, zu_nc (by omega)]
    · rw [zu_nc h2, zu_nc h1, zu_nc h1, zu_nc h2]
theorem finM_cm {p : zP} {x n a k v : Int} : finM p x n a (zu σ 89 k v) = zu (finM p x n a σ) 89 k v := by
  unfold finM; dsimp only
  rw [zu_nc (by omega : (90 : Nat) ≠ 89)]
  rw [zu_cm (c := 89) (c' := 90) (by omega), zu_nc (by omega : (91 : Nat) ≠ 89), zu_cm (c := 89) (c' := 91) (by omega), zu_nc (by omega : (92 : Nat) ≠ 89), zu_cm (c := 89) (c' := 92) (by omega)]
  split
  · rw [zu_cm (c := 89) (c' := 88) (by omega)]
  · rfl
noncomputable def mtk (p : zP) (x n t : Int) (τ : zS) : zS := if τ.1 89 (64 * x + n) + 1 = p 7 x then finM p x n (t + 1) (zu τ 89 (64 * x + n) (τ.1 89 (64 * x + n) + 1)) else zu τ 89 (64 * x + n) (τ.1 89 (64 * x + n) + 1)
set_option maxHeartbeats 1000000 in
theorem MRa.tick {p : zP} (hp : WP p) {g τ : zS} {b t x : Int} (h : MRa p g τ b) (hb : b ≤ t + 1) (t0 : 0 ≤ t) (h0 : 0 ≤ x) (h9 : x < 9) (ht : th p x) (hr : rd p g x t) : MRa p (tk p g x t) (mtk p x (g.1 45 x) t τ) (t + 1) := by
  obtain ⟨h1, h2, h3, h4, h5, h6, h7, h8, h9'⟩ := h
  have he := h2 x h0 h9 ht
  have hr1 := hr.1
  have hd : τ.1 89 (64 * x + g.1 45 x) = g.1 46 x := by rw [h3 x _ h0 h9 ht (by omega) (by omega), if_neg (by omega), if_pos rfl]
  unfold tk mtk
  rw [hd]
  by_cases q : g.1 46 x + 1 < p 7 x
  · rw [if_pos q, if_neg (by omega)]
    have f : ∀ k : Nat, k ≠ 46 → (zu g 46 x (g.1 46 x + 1)).1 k = g.1 k := fun k q => zu_nc q
    have ft : ∀ k : Nat, k ≠ 89 → (zu τ 89 (64 * x + g.1 45 x) (g.1 46 x + 1)).1 k = τ.1 k := fun k q => zu_nc q
    unfold MRa
    rw [f 43 (by omega), f 44 (by omega), f 45 (by omega), f 57 (by omega), ft 88 (by omega), ft 90 (by omega), ft 91 (by omega), ft 92 (by omega)]
    refine ⟨h1, fun y a1 a2 a3 => ?_, fun y n a1 a2 a3 a4 a5 => ?_, h4, h5, h6, fun y n a1 a2 a3 a4 a5 a6 => ?_, fun y n m a1 a2 a3 a4 a5 a6 => ?_, fun y n a1 a2 a3 a4 a5 => ?_⟩
    · have hy := h2 y a1 a2 a3
      by_cases e : y = x
      · rw [e, zu_eq]; rw [e] at hy; omega
      · rw [zu_ne e]; exact hy
    · by_cases e : y = x ∧ n = g.1 45 x
      · obtain ⟨rfl, rfl⟩ := e
        rw [zu_eq, zu_eq, if_neg (by omega), if_pos rfl]
      · rw [zu_ne (by omega), h3 y n a1 a2 a3 a4 a5]
        by_cases e2 : y = x
        · subst e2
          have : n ≠ g.1 45 y := fun z => e ⟨rfl, z⟩
          by_cases e3 : n < g.1 45 y
          · rw [if_pos e3, if_pos e3]
          · rw [if_neg e3, if_neg e3, if_neg this, if_neg this]
        · rw [zu_ne e2]
    · rw [f _ (by omega)]; exact h7 y n a1 a2 a3 a4 a5 a6
    · rw [f _ (by omega)]; exact h8 y n m a1 a2 a3 a4 a5 a6
    · rw [f _ (by omega)]; have := h9' y n a1 a2 a3 a4 a5; omega
  · rw [if_neg q, if_pos (by omega)]
    generalize hs : zu g 46 x (g.1 46 x + 1) = s1
    have f : ∀ k : Nat, k ≠ 46 → s1.1 k = g.1 k := fun k q => by rw [← hs, zu_nc q]
    have f45 := f 45 (by omega)
    generalize hu : zu τ 89 (64 * x + g.1 45 x) (g.1 46 x + 1) = u1
    have fu : ∀ k : Nat, k ≠ 89 → u1.1 k = τ.1 k := fun k q => by rw [← hu, zu_nc q]
    have hk := (hp.2.1 x h0 h9).2.1
    have e45 : ∀ y : Int, (tkE p s1 x t).1 45 y = if y = x then g.1 45 x + 1 else g.1 45 y := fun y => by rw [tkE_45, f45]
    have eE : ∀ y n : Int, 0 ≤ y → y < 9 → (tkE p s1 x t).1 (48 + y.toNat) n = if y = x ∧ n = g.1 45 x then t + 1 else g.1 (48 + y.toNat) n := fun y n a c => by rw [tkE_E h0 h9 a c, f (48 + y.toNat) (by omega), f45]
    refine ⟨fun y a1 a2 => ?_, fun y a1 a2 a3 => ?_, fun y n a1 a2 a3 a4 a5 => ?_, fun y a1 a2 a3 a4 => ?_, fun y n a1 a2 a3 a4 a5 a6 => ?_, fun y a1 a2 a3 a4 => ?_, fun y n a1 a2 a3 a4 a5 a6 => ?_, fun y n m a1 a2 a3 a4 a5 a6 => ?_, fun y n a1 a2 a3 a4 a5 => ?_⟩
    · rw [finM_90, finM_91, finM_92, tkE_43, tkE_44, e45, fu 90 (by omega), fu 91 (by omega), fu 92 (by omega), f 43 (by omega), f 44 (by omega), f45]
      have hx1 := h1 x h0 h9
      have hy1 := h1 y a1 a2
      rw [hx1.1, hx1.2.1, hx1.2.2, hy1.1, hy1.2.1, hy1.2.2]
      exact ⟨rfl, rfl, rfl⟩
    · have hy := h2 y a1 a2 a3
      rw [e45, tkE_46]
      by_cases e : y = x
      · rw [if_pos e, if_pos e]; rw [e] at hy ⊢; omega
      · rw [if_neg e, if_neg e, ← hs, zu_ne e]; exact hy
    · rw [finM_o (by omega), e45, tkE_46, ← hu]
      by_cases e : y = x ∧ n = g.1 45 x
      · obtain ⟨rfl, rfl⟩ := e
        rw [zu_eq, if_pos rfl, if_pos (by omega)]
        omega
      · rw [zu_ne (by omega), h3 y n a1 a2 a3 a4 a5]
        by_cases e2 : y = x
        · subst e2
          have : n ≠ g.1 45 y := fun z => e ⟨rfl, z⟩
          rw [if_pos rfl, if_pos rfl]
          by_cases e3 : n < g.1 45 y
          · rw [if_pos e3, if_pos (by omega)]
          · rw [if_neg e3, if_neg this, if_neg (by omega)]
            by_cases e4 : n = g.1 45 y + 1
            · rw [if_pos e4]
            · rw [if_neg e4]
        · rw [if_neg e2, if_neg e2, ← hs, zu_ne e2]
    · rw [tkE_57 h0 h9, e45, f 57 (by omega), f45]
      by_cases e : y = x
      · subst e
        rw [if_pos ⟨a4, rfl⟩, if_pos rfl, rmx_s (by omega), h4 y a1 a2 a3 a4]
      · rw [if_neg (fun z => e (by omega)), if_neg e]
        exact h4 y a1 a2 a3 a4
    · have e : (finM p x (g.1 45 x) (t + 1) u1).1 88 (64 * y + n) = τ.1 88 (64 * y + n) := by
        by_cases z : x % 3 < 2 ∧ th p (x + 1)
        · rw [finM_88a z, if_neg (by omega), fu 88 (by omega)]
        · rw [finM_88b z, fu 88 (by omega)]
      rw [e]
      exact h5 y n a1 a2 a3 a4 a5 a6
    · rw [e45, e45]
      have h6y := h6 y a1 a2 a3 a4
      by_cases e : y = x
      · subst e
        rw [if_pos rfl, if_neg (by omega)]
        rcases hr.2 with z | z
        · omega
        · have := z.2.1; omega
      · rw [if_neg e]
        by_cases e2 : y - 1 = x
        · rw [if_pos e2]; rw [e2] at h6y; omega
        · rw [if_neg e2]; exact h6y
    · rw [e45, eE (y - 1) n (by omega) (by omega)]
      have h7y := h7 y n a1 a2 a3 a4 a5 a6
      by_cases e2 : y - 1 = x
      · have z : x % 3 < 2 ∧ th p (x + 1) := ⟨by omega, by rw [show x + 1 = y by omega]; exact a3⟩
        rw [finM_88a z, if_pos e2]
        by_cases e3 : n = g.1 45 x
        · rw [if_pos (show 64 * y + n = 64 * x + g.1 45 x + 64 by omega), if_pos (show n < g.1 45 x + 1 by omega), if_pos (show y - 1 = x ∧ n = g.1 45 x from ⟨e2, e3⟩), show x + 1 = y by omega]
        · rw [if_neg (show ¬ (64 * y + n = 64 * x + g.1 45 x + 64) by omega), if_neg (show ¬ (y - 1 = x ∧ n = g.1 45 x) from fun z => e3 z.2), fu 88 (by omega), h7y, e2]
          by_cases e4 : n < g.1 45 x
          · rw [if_pos e4, if_pos (show n < g.1 45 x + 1 by omega)]
          · rw [if_neg e4, if_neg (show ¬ (n < g.1 45 x + 1) by omega)]
      · have e : (finM p x (g.1 45 x) (t + 1) u1).1 88 (64 * y + n) = τ.1 88 (64 * y + n) := by
          by_cases z : x % 3 < 2 ∧ th p (x + 1)
          · rw [finM_88a z, if_neg (by omega), fu 88 (by omega)]
          · rw [finM_88b z, fu 88 (by omega)]
        rw [e, if_neg e2, if_neg (show ¬ (y - 1 = x ∧ n = g.1 45 x) from fun z => e2 z.1)]
        exact h7y
    · rw [e45] at a6
      rw [eE y n a1 a2, eE y m a1 a2]
      by_cases e : y = x
      · subst e
        rw [if_pos rfl] at a6
        by_cases e1 : m = g.1 45 y
        · rw [if_pos (show y = y ∧ m = g.1 45 y from ⟨rfl, e1⟩)]
          by_cases e2 : n = g.1 45 y
          · rw [if_pos (show y = y ∧ n = g.1 45 y from ⟨rfl, e2⟩)]; omega
          · rw [if_neg (show ¬ (y = y ∧ n = g.1 45 y) from fun z => e2 z.2)]
            have := h9' y n a1 a2 a3 a4 (by omega); omega
        · rw [if_neg (show ¬ (y = y ∧ m = g.1 45 y) from fun z => e1 z.2), if_neg (show ¬ (y = y ∧ n = g.1 45 y) by omega)]
          exact h8 y n m a1 a2 a3 a4 a5 (by omega)
      · rw [if_neg e] at a6
        rw [if_neg (show ¬ (y = x ∧ n = g.1 45 x) from fun z => e z.1), if_neg (show ¬ (y = x ∧ m = g.1 45 x) from fun z => e z.1)]
        exact h8 y n m a1 a2 a3 a4 a5 a6
    · rw [e45] at a5
      rw [eE y n a1 a2]
      by_cases e : y = x ∧ n = g.1 45 x
      · rw [if_pos e]; omega
      · rw [if_neg e]
        have := h9' y n a1 a2 a3 a4 (by
          by_cases e2 : y = x
          · rw [if_pos e2] at a5; have : n ≠ g.1 45 x := fun z => e ⟨e2, z⟩; rw [e2]; omega
          · rw [if_neg e2] at a5; exact a5)
        omega
theorem rd_z {p : zP} {s : zS} {x t : Int} (h : x % 3 = 0) : rd p s x t ↔ s.1 45 x < 60 ∧ s.1 57 (x / 3) ≤ t := by
  constructor
  · rintro ⟨a1, a2 | a2⟩
    · exact ⟨a1, a2.2⟩
    · exact absurd h a2.1
  · rintro ⟨a1, a2⟩
    exact ⟨a1, Or.inl ⟨h, a2⟩⟩
theorem rd_y {p : zP} {s : zS} {x t : Int} (h : ¬ x % 3 = 0) : rd p s x t ↔ s.1 45 x < 60 ∧ s.1 45 x < s.1 45 (x - 1) ∧ s.1 (48 + (x - 1).toNat) (s.1 45 x) + p 9 x ≤ t := by
  constructor
  · rintro ⟨a1, a2 | a2⟩
    · exact absurd a2.1 h
    · exact ⟨a1, a2.2⟩
  · rintro ⟨a1, a2⟩
    exact ⟨a1, Or.inr ⟨h, a2⟩⟩
/-- the other node's most urgent is the same behind a tick of the first -/
theorem rd_tk {p : zP} (hp : WP p) {g : zS} {x y t : Int} (h0 : 0 ≤ x) (h9 : x < 9) (g0 : 0 ≤ y) (g9 : y < 9) (hn : y ≠ x) : rd p (tk p g x t) y t ↔ rd p g y t := by
  unfold tk
  by_cases q : g.1 46 x + 1 < p 7 x
  · rw [if_pos q]
    unfold rd
    rw [zu_nc (by omega), zu_nc (by omega), zu_nc (by omega)]
  · rw [if_neg q]
    generalize hs : zu g 46 x (g.1 46 x + 1) = s1
    have f : ∀ k : Nat, k ≠ 46 → s1.1 k = g.1 k := fun k q => by rw [← hs, zu_nc q]
    have hk := (hp.2.1 y g0 g9).2.2.2
    by_cases z : y % 3 = 0
    · rw [rd_z z, rd_z z, tkE_45, tkE_57 h0 h9, f 45 (by omega), f 57 (by omega), if_neg hn, if_neg (fun w => by omega : ¬ (x % 3 = 0 ∧ y / 3 = x / 3))]
    · rw [rd_y z, rd_y z, tkE_45, tkE_45, f 45 (by omega), if_neg hn, tkE_E h0 h9 (show 0 ≤ y - 1 by omega) (by omega), f 45 (by omega), f (48 + (y - 1).toNat) (by omega)]
      by_cases e : y - 1 = x
      · rw [if_pos e]
        by_cases e2 : g.1 45 y = g.1 45 x
        · rw [if_pos ⟨e, e2⟩, e]
          constructor
          · rintro ⟨a1, a2, a3⟩
            omega
          · rintro ⟨a1, a2, a3⟩
            omega
        · rw [if_neg (fun w => e2 w.2), e]
          constructor
          · rintro ⟨a1, a2, a3⟩
            exact ⟨a1, by omega, a3⟩
          · rintro ⟨a1, a2, a3⟩
            exact ⟨a1, by omega, a3⟩
      · rw [if_neg e, if_neg (fun w => e w.1)]
theorem rd_39 {p : zP} {s : zS} {x t u v : Int} : rd p (zu s 39 u v) x t ↔ rd p s x t := by
  unfold rd
  rw [zu_nc (by omega), zu_nc (by omega), zu_nc (by omega)]
theorem rd_ntk {p : zP} (hp : WP p) {g : zS} {y t : Int} (g0 : 0 ≤ y) (g9 : y < 9) (hy : p 6 y = 1) : rd p (ntk p g 0 t) y t ↔ rd p g y t := by
  unfold ntk
  by_cases h : ug p g 0 t 9 = -1
  · rw [if_pos h, rd_39]
    exact rd_did (Or.inl rfl)
  · rw [if_neg h]
    rcases ug_r (p := p) (s := g) (node := 0) (t := t) 9 with q | ⟨q1, q2, q3, q4, q5⟩
    · exact absurd q h
    · rw [rd_tk hp q1 q2 g0 g9 (fun e => by rw [e] at hy; omega)]
      exact rd_did (Or.inl rfl)
theorem ug_ntk {p : zP} (hp : WP p) {g : zS} {t : Int} : ∀ n : Nat, n ≤ 9 → ug p (ntk p g 0 t) 1 t n = ug p g 1 t n
  | 0, _ => rfl
  | n + 1, hn => by
    have ih := ug_ntk hp (g := g) (t := t) n (by omega)
    have e : ugc p (ntk p g 0 t) 1 t n (ug p g 1 t n) ↔ ugc p g 1 t n (ug p g 1 t n) := by
      unfold ugc
      constructor
      · rintro ⟨a1, a2, a3, a4⟩
        exact ⟨a1, a2, (rd_ntk hp (by omega) (by omega) a2).mp a3, a4⟩
      · rintro ⟨a1, a2, a3, a4⟩
        exact ⟨a1, a2, (rd_ntk hp (by omega) (by omega) a2).mpr a3, a4⟩
    rw [ug_n, ug_n, ih]
    by_cases h : ugc p g 1 t n (ug p g 1 t n)
    · rw [if_pos h, if_pos (e.mpr h)]
    · rw [if_neg h, if_neg (fun z => h (e.mp z))]
end ZR3
