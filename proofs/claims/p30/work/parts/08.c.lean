section ZM3
theorem ind_up {P : Int → Prop} {a b : Int} (h0 : P a) (hs : ∀ t : Int, a ≤ t → t < b → P t → P (t + 1)) : ∀ t : Int, a ≤ t → t ≤ b → P t := by
  have key : ∀ n : Nat, a + n ≤ b → P (a + n) := by
    intro n
    induction n with
    | zero => intro _; rw [show a + ((0 : Nat) : Int) = a by omega]; exact h0
    | succ n ih =>
      intro h
      have := hs (a + n) (by omega) (by omega) (ih (by omega))
      rw [show a + ((n + 1 : Nat) : Int) = a + n + 1 by omega]
      exact this
  intro t h1 h2
  have := key (t - a).toNat (by omega)
  rw [show a + ((t - a).toNat : Int) = t by omega] at this
  exact this
/-! a run, told by what ended when: E how many, K how much of the next, e the ends, A0 when step 0 is ready, ex what a node does -/
def acv (p : zP) (E e A0 : Int → Int → Int) (y n t : Int) : Prop := (y % 3 = 0 ∧ A0 (y / 3) n ≤ t) ∨ (y % 3 ≠ 0 ∧ n < E (y - 1) t ∧ e (y - 1) n + p 9 y ≤ t)
def TR (p : zP) (H : Int) (E K e A0 ex : Int → Int → Int) : Prop :=
  (∀ y : Int, 0 ≤ y → y < 9 → th p y → E y 0 = 0 ∧ K y 0 = 0) ∧
  (∀ t y : Int, 0 ≤ t → t < H → 0 ≤ y → y < 9 → th p y → (ex (p 6 y) t = y ∧ K y t + 1 < p 7 y ∧ E y (t + 1) = E y t ∧ K y (t + 1) = K y t + 1) ∨ (ex (p 6 y) t = y ∧ K y t + 1 = p 7 y ∧ E y (t + 1) = E y t + 1 ∧ K y (t + 1) = 0 ∧ e y (E y t) = t + 1) ∨ (ex (p 6 y) t ≠ y ∧ E y (t + 1) = E y t ∧ K y (t + 1) = K y t)) ∧
  (∀ t v : Int, 0 ≤ t → t < H → 0 ≤ v → v ≤ 1 → ex v t ≠ -1 → 0 ≤ ex v t ∧ ex v t < 9 ∧ th p (ex v t) ∧ p 6 (ex v t) = v ∧ acv p E e A0 (ex v t) (E (ex v t) t) t) ∧
  (∀ t z : Int, 0 ≤ t → t < H → 0 ≤ z → z < 9 → th p z → acv p E e A0 z (E z t) t → ex (p 6 z) t ≠ -1 ∧ p 8 z ≤ p 8 (ex (p 6 z) t)) ∧
  (∀ i n : Int, 0 ≤ i → i < 3 → 0 ≤ n → rel p i n + p 9 (i * 3) ≤ A0 i n ∧ A0 i n ≤ rel p i n + p 9 (i * 3) + p 1 i) ∧
  (∀ i n m : Int, 0 ≤ i → i < 3 → 0 ≤ n → n ≤ m → A0 i n ≤ A0 i m)
variable {p : zP} {H : Int} {E K e A0 ex : Int → Int → Int}
theorem TR.b (hp : WP p) (hT : TR p H E K e A0 ex) {y : Int} (h0 : 0 ≤ y) (h9 : y < 9) (ht : th p y) : ∀ t : Int, 0 ≤ t → t ≤ H → 0 ≤ E y t ∧ 0 ≤ K y t ∧ K y t < p 7 y := by
  have hc := hp.2.2 y h0 h9 ht
  refine ind_up (P := fun t => 0 ≤ E y t ∧ 0 ≤ K y t ∧ K y t < p 7 y) ?_ (fun t a b ih => ?_)
  · have := hT.1 y h0 h9 ht
    omega
  · rcases hT.2.1 t y a b h0 h9 ht with h | h | h <;> omega
theorem TR.m (hT : TR p H E K e A0 ex) {y : Int} (h0 : 0 ≤ y) (h9 : y < 9) (ht : th p y) {t : Int} (h : 0 ≤ t) : ∀ t' : Int, t ≤ t' → t' ≤ H → E y t ≤ E y t' := by
  refine ind_up (P := fun t' => E y t ≤ E y t') (Int.le_refl _) (fun t' a b ih => ?_)
  rcases hT.2.1 t' y (by omega) b h0 h9 ht with h | h | h <;> omega
theorem TR.ee (hp : WP p) (hT : TR p H E K e A0 ex) {y : Int} (h0 : 0 ≤ y) (h9 : y < 9) (ht : th p y) : ∀ t : Int, 0 ≤ t → t ≤ H → ∀ n m : Int, 0 ≤ n → n ≤ m → m < E y t → e y n ≤ e y m ∧ e y m ≤ t := by
  refine ind_up (P := fun t => ∀ n m : Int, 0 ≤ n → n ≤ m → m < E y t → e y n ≤ e y m ∧ e y m ≤ t) (fun n m a b c => ?_) (fun t a b ih n m c d f => ?_)
  · have := hT.1 y h0 h9 ht
    omega
  · rcases hT.2.1 t y a b h0 h9 ht with h | h | h
    · have := ih n m c d (by omega)
      omega
    · by_cases q : m = E y t
      · rw [q, h.2.2.2.2]
        by_cases q2 : n = E y t
        · rw [q2, h.2.2.2.2]
          omega
        · have := (ih n n c (Int.le_refl _) (by omega)).2
          omega
      · have := ih n m c d (by omega)
        omega
    · have := ih n m c d (by omega)
      omega
theorem TR.l (hT : TR p H E K e A0 ex) {y : Int} (h0 : 0 ≤ y) (h9 : y < 9) (ht : th p y) {t n : Int} (h : 0 ≤ t) (hn : E y t ≤ n) : ∀ t' : Int, t ≤ t' → t' ≤ H → n < E y t' → t < e y n := by
  refine ind_up (P := fun t' => n < E y t' → t < e y n) (fun q => by omega) (fun t' a b ih q => ?_)
  rcases hT.2.1 t' y (by omega) b h0 h9 ht with g | g | g
  · exact ih (by omega)
  · by_cases z : n = E y t'
    · rw [z, g.2.2.2.2]; omega
    · exact ih (by omega)
  · exact ih (by omega)
theorem acv.t (hT : TR p H E K e A0 ex) {y : Int} (h0 : 0 ≤ y) (h9 : y < 9) (ht : th p y) {n t t' : Int} (h : acv p E e A0 y n t) (a : 0 ≤ t) (b : t ≤ t') (c : t' ≤ H) : acv p E e A0 y n t' := by
  rcases h with ⟨h1, h2⟩ | ⟨h1, h2, h3⟩
  · exact Or.inl ⟨h1, by omega⟩
  · have := hT.m (y := y - 1) (by omega) (by omega) (th_prev h1 ht) a t' b c
    exact Or.inr ⟨h1, by omega, by omega⟩
theorem acv.n (hp : WP p) (hT : TR p H E K e A0 ex) {y : Int} (h0 : 0 ≤ y) (h9 : y < 9) (ht : th p y) {n m t : Int} (h : acv p E e A0 y m t) (a : 0 ≤ t) (c : t ≤ H) (n0 : 0 ≤ n) (nm : n ≤ m) : acv p E e A0 y n t := by
  rcases h with ⟨h1, h2⟩ | ⟨h1, h2, h3⟩
  · have := hT.2.2.2.2.2 (y / 3) n m (by omega) (by omega) n0 nm
    exact Or.inl ⟨h1, by omega⟩
  · have := (hT.ee hp (y := y - 1) (by omega) (by omega) (th_prev h1 ht) t a c n m n0 nm h2).1
    exact Or.inr ⟨h1, by omega, by omega⟩
theorem TR.a (hT : TR p H E K e A0 ex) {y : Int} (h0 : 0 ≤ y) (h9 : y < 9) (ht : th p y) (h6 : 0 ≤ p 6 y ∧ p 6 y ≤ 1) {n : Int} : ∀ t : Int, 0 ≤ t → t ≤ H → 0 ≤ n → n < E y t → 1 ≤ t ∧ acv p E e A0 y n (t - 1) := by
  refine ind_up (P := fun t => 0 ≤ n → n < E y t → 1 ≤ t ∧ acv p E e A0 y n (t - 1)) (fun a b => ?_) (fun t a b ih c d => ?_)
  · have := hT.1 y h0 h9 ht
    omega
  · rw [show t + 1 - 1 = t by omega]
    refine ⟨by omega, ?_⟩
    by_cases q : n < E y t
    · obtain ⟨i1, i2⟩ := ih c q
      exact i2.t hT h0 h9 ht (by omega) (by omega) (by omega)
    · rcases hT.2.1 t y a b h0 h9 ht with h | h | h
      · omega
      · have hx := (hT.2.2.1 t (p 6 y) a b h6.1 h6.2 (by rw [h.1]; omega)).2.2.2.2
        rw [h.1] at hx
        rw [show n = E y t by omega]
        exact hx
      · omega
theorem TR.k (hp : WP p) (hT : TR p H E K e A0 ex) {y : Int} (h0 : 0 ≤ y) (h9 : y < 9) (ht : th p y) : ∀ t : Int, 0 ≤ t → t ≤ H → 0 < K y t → K y t ≤ t ∧ acv p E e A0 y (E y t) (t - K y t) := by
  have h6 := (hp.2.1 y h0 h9).1
  refine ind_up (P := fun t => 0 < K y t → K y t ≤ t ∧ acv p E e A0 y (E y t) (t - K y t)) (fun a => ?_) (fun t a b ih c => ?_)
  · have := hT.1 y h0 h9 ht
    omega
  · have hb := hT.b hp h0 h9 ht t a (by omega)
    rcases hT.2.1 t y a b h0 h9 ht with h | h | h
    · rw [h.2.2.1, h.2.2.2, show t + 1 - (K y t + 1) = t - K y t by omega]
      by_cases q : 0 < K y t
      · have := ih q
        exact ⟨by omega, this.2⟩
      · have hx := (hT.2.2.1 t (p 6 y) a b h6.1 h6.2 (by rw [h.1]; omega)).2.2.2.2
        rw [h.1] at hx
        rw [show K y t = 0 by omega, show t - 0 = t by omega]
        exact ⟨by omega, hx⟩
    · omega
    · rw [h.2.2] at c
      obtain ⟨i1, i2⟩ := ih c
      rw [h.2.1, h.2.2]
      exact ⟨by omega, i2.t hT h0 h9 ht (by omega) (by omega) (by omega)⟩
/-- no job is ready ahead of its least time, none ends ahead of its cost -/
theorem acv.lo0 (hp : WP p) (hT : TR p H E K e A0 ex) {y : Int} (h0 : 0 ≤ y) (h9 : y < 9) {t n : Int} (n0 : 0 ≤ n) (hb : y % 3 ≠ 0 → n < E (y - 1) t → rel p ((y - 1) / 3) n + ear p (y - 1) + p 7 (y - 1) ≤ e (y - 1) n) (h : acv p E e A0 y n t) : rel p (y / 3) n + ear p y ≤ t := by
  rcases h with ⟨h1, h2⟩ | ⟨h1, h2, h3⟩
  · have h4 := (hT.2.2.2.2.1 (y / 3) n (by omega) (by omega) n0).1
    have h5 : ear p y = p 9 y := by
      unfold ear
      rw [h1, show y - 0 = y by omega, sm_0]
      omega
    rw [show y / 3 * 3 = y by omega] at h4
    omega
  · have h4 := hb h1 h2
    have h5 := ear_s (p := p) h0 h1
    rw [show (y - 1) / 3 = y / 3 by omega] at h4
    omega
theorem TR.lo (hp : WP p) (hT : TR p H E K e A0 ex) : ∀ t : Int, 0 ≤ t → t ≤ H → ∀ y n : Int, 0 ≤ y → y < 9 → th p y → 0 ≤ n → n < E y t → rel p (y / 3) n + ear p y + p 7 y ≤ e y n := by
  refine ind_up (P := fun t => ∀ y n : Int, 0 ≤ y → y < 9 → th p y → 0 ≤ n → n < E y t → rel p (y / 3) n + ear p y + p 7 y ≤ e y n) (fun y n h0 h9 ht n0 hn => ?_) (fun t a b ih y n h0 h9 ht n0 hn => ?_)
  · have := hT.1 y h0 h9 ht
    omega
  · have h6 := (hp.2.1 y h0 h9).1
    have hb := hT.b hp h0 h9 ht t a (by omega)
    rcases hT.2.1 t y a b h0 h9 ht with h | h | h
    · exact ih y n h0 h9 ht n0 (by omega)
    · by_cases q : n = E y t
      · subst q
        rw [h.2.2.2.2]
        have hz : K y t ≤ t ∧ acv p E e A0 y (E y t) (t - K y t) := by
          by_cases q : 0 < K y t
          · exact hT.k hp h0 h9 ht t a (by omega) q
          · have hx := (hT.2.2.1 t (p 6 y) a b h6.1 h6.2 (by rw [h.1]; omega)).2.2.2.2
            rw [h.1] at hx
            rw [show K y t = 0 by omega, show t - 0 = t by omega]
            exact ⟨by omega, hx⟩
        have := hz.2.lo0 hp hT h0 h9 n0 (fun q1 q2 => ih (y - 1) (E y t) (by omega) (by omega) (th_prev q1 ht) n0 (by
          have := hT.m (y := y - 1) (by omega) (by omega) (th_prev q1 ht) (t := t - K y t) (by omega) t (by omega) (by omega)
          omega))
        omega
      · exact ih y n h0 h9 ht n0 (by omega)
    · exact ih y n h0 h9 ht n0 (by omega)
theorem acv.lo (hp : WP p) (hT : TR p H E K e A0 ex) {y : Int} (h0 : 0 ≤ y) (h9 : y < 9) (ht : th p y) {t n : Int} (a : 0 ≤ t) (b : t ≤ H) (n0 : 0 ≤ n) (h : acv p E e A0 y n t) : rel p (y / 3) n + ear p y ≤ t :=
  h.lo0 hp hT h0 h9 n0 (fun q1 q2 => hT.lo hp t a b (y - 1) n (by omega) (by omega) (th_prev q1 ht) n0 q2)
/-- what a step has had -/
def DN (p : zP) (E K : Int → Int → Int) (y t : Int) : Int := E y t * p 7 y + K y t
theorem TR.d (hp : WP p) (hT : TR p H E K e A0 ex) {y : Int} (h0 : 0 ≤ y) (h9 : y < 9) (ht : th p y) {t : Int} (a : 0 ≤ t) (b : t < H) : (ex (p 6 y) t = y ∧ DN p E K y (t + 1) = DN p E K y t + 1) ∨ (ex (p 6 y) t ≠ y ∧ DN p E K y (t + 1) = DN p E K y t) := by
  unfold DN
  rcases hT.2.1 t y a b h0 h9 ht with h | h | h
  · refine Or.inl ⟨h.1, ?_⟩
    rw [h.2.2.1, h.2.2.2]; omega
  · refine Or.inl ⟨h.1, ?_⟩
    rw [h.2.2.1, h.2.2.2.1, Int.add_mul]; omega
  · refine Or.inr ⟨h.1, ?_⟩
    rw [h.2.1, h.2.2]
theorem TR.dm (hp : WP p) (hT : TR p H E K e A0 ex) {y : Int} (h0 : 0 ≤ y) (h9 : y < 9) (ht : th p y) {t : Int} (a : 0 ≤ t) : ∀ t' : Int, t ≤ t' → t' ≤ H → DN p E K y t ≤ DN p E K y t' := by
  refine ind_up (P := fun t' => DN p E K y t ≤ DN p E K y t') (Int.le_refl _) (fun t' c d ih => ?_)
  rcases hT.d hp h0 h9 ht (t := t') (by omega) d with h | h <;> omega
end ZM3
