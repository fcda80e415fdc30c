section ZJ1
variable {σ : zS}
def WJ (p : zP) : Prop := WP p ∧ ∀ x : Int, 0 ≤ x → x < 9 → p 7 x ≤ 20
def STL (σ : zS) : Prop := (σ.1 14 17 = 0 ∨ σ.1 14 17 = 1) ∧ (σ.1 14 17 = 0 → SA 14 σ (cP σ))
/-- no more than what is found again was changed -/
def EQ (σ s : zS) : Prop := s.2 = σ.2 ∧ ∀ c : Nat, (c < 14 ∨ 37 < c) → s.1 c = σ.1 c
theorem EQ.rf : EQ σ σ := ⟨rfl, fun _ _ => rfl⟩
theorem EQ.tr {s t : zS} (h : EQ σ s) (h2 : EQ s t) : EQ σ t := ⟨h2.1.trans h.1, fun c q => (h2.2 c q).trans (h.2 c q)⟩
theorem EQ.cp {s : zS} (h : EQ σ s) : cP s = cP σ := cP_c (fun c hc => h.2 c (by omega))
theorem SA.ag {s t : zS} {p : zP} (h : SA 14 s p) (hf : ∀ c : Nat, c ≤ 25 → t.1 c = s.1 c) : SA 14 t p := by
  rcases h with ⟨h1, h2⟩ | ⟨r, l, h1, h2, h3, h4, h5⟩
  · exact Or.inl ⟨h1, by rw [hf 14 (by omega)]; exact h2⟩
  · exact Or.inr ⟨r, l, h1, by rw [hf 14 (by omega)]; exact h2, h3.fr (fun c hc => hf c (by omega)), h4.fr (fun c a e => hf c (by omega)), h5.fr (fun c a e => hf c (by omega))⟩
theorem STL.ag {s t : zS} (h : STL s) (hf : ∀ c : Nat, c ≤ 25 → t.1 c = s.1 c) : STL t := by
  have e : cP t = cP s := cP_c (fun c hc => hf c (by omega))
  refine ⟨by rw [hf 14 (by omega)]; exact h.1, fun q => ?_⟩
  rw [hf 14 (by omega)] at q
  rw [e]
  exact (h.2 q).ag hf
theorem STL.of {s : zS} {p : zP} (ec : cP s = p) (h : s.1 14 17 = 0) (hS : SA 14 s p) : STL s := ⟨Or.inl h, fun _ => by rw [ec]; exact hS⟩
theorem STL.on {s : zS} (h : s.1 14 17 = 1) : STL s := ⟨Or.inr h, fun q => by omega⟩
theorem zFA.eq {b : Nat} (hb : zAb b) {s : zS} (h : zFA b σ s) : EQ σ s := by
  have hb' : b = 14 ∨ b = 26 := hb
  exact ⟨h.1, fun c q => h.2 c (by omega)⟩
theorem zFQ.eq {b : Nat} (hb : zAb b) {s : zS} (h : zFQ b σ s) : EQ σ s := by
  have hb' : b = 14 ∨ b = 26 := hb
  exact ⟨h.1, fun c q => h.2.1 c (by omega) (by omega) (by omega) (by omega)⟩
/-- an answer, or BAD -/
def RQ (C : Prop) (v : Int) (r : Option Value) : Prop := (C ∧ r = some (.int (zi v))) ∨ (¬ C ∧ r = some (.int (zi (-2))))
theorem nofc {p : zP} (hp : WP p) (i j : Int) : (stp p i j ∧ nof p i j = i * 3 + j ∧ 0 ≤ i ∧ i < 3 ∧ 0 ≤ i * 3 + j ∧ i * 3 + j < 9 ∧ th p (i * 3 + j)) ∨ (¬ stp p i j ∧ nof p i j = -1) := by
  unfold nof
  by_cases h : 0 ≤ i ∧ i ≤ 2 ∧ 0 ≤ j ∧ j ≤ p 5 i - 1
  · rw [if_pos h]
    have hm := (hp.1 i (by omega) (by omega)).2.2.2.2.2
    refine Or.inl ⟨h, rfl, by omega, by omega, by omega, by omega, ?_⟩
    unfold th
    rw [show (i * 3 + j) / 3 = i by omega]
    omega
  · rw [if_neg h]
    exact Or.inr ⟨h, rfl⟩
/-! a plan told anew at one place -/
def pu (p : zP) (k : Nat) (i v : Int) : zP := fun k' => if k' = k then (fun j => if j = i then v else p k j) else p k'
theorem pu_eq {p : zP} {k : Nat} {i v : Int} : pu p k i v k i = v := by simp [pu]
theorem pu_ne {p : zP} {k : Nat} {i j v : Int} (h : j ≠ i) : pu p k i v k j = p k j := by simp [pu, h]
theorem pu_nc {p : zP} {k k' : Nat} {i v : Int} (h : k' ≠ k) : pu p k i v k' = p k' := by simp [pu, h]
def cC : Nat → Nat
  | 0 => 3
  | 1 => 4
  | 2 => 5
  | 3 => 6
  | 4 => 7
  | 5 => 13
  | 6 => 9
  | 7 => 10
  | 8 => 11
  | _ => 12
theorem cP_k {k : Nat} : cP σ k = σ.1 (cC k) := by
  rcases k with _ | _ | _ | _ | _ | _ | _ | _ | _ | k <;> rfl
theorem cC_i {k l : Nat} (hk : k < 10) (hl : l < 10) (h : cC k = cC l) : k = l := by
  rcases k with _ | _ | _ | _ | _ | _ | _ | _ | _ | _ | k <;> rcases l with _ | _ | _ | _ | _ | _ | _ | _ | _ | _ | l <;> first | rfl | (exact absurd h (by decide)) | omega
theorem cP_pu {k : Nat} {i v : Int} (hk : k < 10) : ∀ l : Nat, l < 10 → cP (zu σ (cC k) i v) l = pu (cP σ) k i v l := fun l hl => by
  rw [cP_k]
  by_cases h : l = k
  · subst h
    funext j
    by_cases q : j = i
    · rw [q, zu_eq, pu_eq]
    · rw [zu_ne q, pu_ne q, cP_k]
  · rw [zu_nc (fun e => h (cC_i hl hk e)), pu_nc h, cP_k]
theorem cP_9 (k : Nat) (h : 9 ≤ k) : cP σ k = cP σ 9 := by
  obtain ⟨l, rfl⟩ : ∃ l, k = l + 9 := ⟨k - 9, by omega⟩
  rfl
theorem WP.ex {p q : zP} (hp : WP p) (h : ∀ l : Nat, l < 10 → q l = p l) : WP q := by
  unfold WP th
  rw [h 0 (by omega), h 1 (by omega), h 2 (by omega), h 3 (by omega), h 4 (by omega), h 5 (by omega), h 6 (by omega), h 7 (by omega), h 8 (by omega), h 9 (by omega)]
  exact hp
theorem WJ.ex {p q : zP} (hp : WJ p) (h : ∀ l : Nat, l < 10 → q l = p l) : WJ q := ⟨hp.1.ex h, fun x a c => by rw [h 7 (by omega)]; exact hp.2 x a c⟩
theorem tT : (zTi 0 0 = 5 ∧ zTi 0 1 = 0 ∧ zTi 0 2 = 0 ∧ zTi 0 3 = 0 ∧ zTi 0 4 = 0) ∧ (zTi 1 0 = 100 ∧ zTi 1 1 = 30 ∧ zTi 1 2 = 200 ∧ zTi 1 3 = 99 ∧ zTi 1 4 = 9) ∧ (zTi 2 0 = 0 ∧ zTi 2 1 = 1 ∧ zTi 2 2 = 0 ∧ zTi 2 3 = 0) ∧ (zTi 3 0 = 1 ∧ zTi 3 1 = 20 ∧ zTi 3 2 = 9 ∧ zTi 3 3 = 20) := by decide
theorem WJ.trait {p : zP} (hp : WJ p) {k : Nat} (hk : k < 5) {i v : Int} (hv : trt k v) : WJ (pu p k i v) := by
  obtain ⟨⟨h1, h2, h3⟩, h4⟩ := hp
  obtain ⟨-, -, v1, v2⟩ := hv
  obtain ⟨⟨a0, a1, a2, a3, a4⟩, ⟨b0, b1, b2, b3, b4⟩, -⟩ := tT
  have n6 := pu_nc (p := p) (i := i) (v := v) (show 6 ≠ k by omega)
  have n7 := pu_nc (p := p) (i := i) (v := v) (show 7 ≠ k by omega)
  have n8 := pu_nc (p := p) (i := i) (v := v) (show 8 ≠ k by omega)
  have n9 := pu_nc (p := p) (i := i) (v := v) (show 9 ≠ k by omega)
  have n5 := pu_nc (p := p) (i := i) (v := v) (show 5 ≠ k by omega)
  refine ⟨⟨fun j a c => ?_, fun x a c => by rw [n6, n7, n8, n9]; exact h2 x a c, fun x a c d => by rw [n7]; exact h3 x a c (by unfold th at d ⊢; rw [n5] at d; exact d)⟩, fun x a c => by rw [n7]; exact h4 x a c⟩
  have hj := h1 j a c
  rw [n5]
  rcases (show k = 0 ∨ k = 1 ∨ k = 2 ∨ k = 3 ∨ k = 4 by omega) with rfl | rfl | rfl | rfl | rfl
  · rw [pu_nc (by omega : (1 : Nat) ≠ 0), pu_nc (by omega : (2 : Nat) ≠ 0), pu_nc (by omega : (3 : Nat) ≠ 0), pu_nc (by omega : (4 : Nat) ≠ 0)]
    by_cases q : j = i
    · rw [q, pu_eq]; rw [q] at hj
      have : zTi 0 ((0 : Nat) : Int) = 5 := a0
      have : zTi 1 ((0 : Nat) : Int) = 100 := b0
      omega
    · rw [pu_ne q]; exact hj
  · rw [pu_nc (by omega : (0 : Nat) ≠ 1), pu_nc (by omega : (2 : Nat) ≠ 1), pu_nc (by omega : (3 : Nat) ≠ 1), pu_nc (by omega : (4 : Nat) ≠ 1)]
    by_cases q : j = i
    · rw [q, pu_eq]; rw [q] at hj
      have : zTi 0 ((1 : Nat) : Int) = 0 := a1
      have : zTi 1 ((1 : Nat) : Int) = 30 := b1
      omega
    · rw [pu_ne q]; exact hj
  · rw [pu_nc (by omega : (0 : Nat) ≠ 2), pu_nc (by omega : (1 : Nat) ≠ 2), pu_nc (by omega : (3 : Nat) ≠ 2), pu_nc (by omega : (4 : Nat) ≠ 2)]
    by_cases q : j = i
    · rw [q, pu_eq]; rw [q] at hj
      have : zTi 0 ((2 : Nat) : Int) = 0 := a2
      have : zTi 1 ((2 : Nat) : Int) = 200 := b2
      omega
    · rw [pu_ne q]; exact hj
  · rw [pu_nc (by omega : (0 : Nat) ≠ 3), pu_nc (by omega : (1 : Nat) ≠ 3), pu_nc (by omega : (2 : Nat) ≠ 3), pu_nc (by omega : (4 : Nat) ≠ 3)]
    by_cases q : j = i
    · rw [q, pu_eq]; rw [q] at hj
      have : zTi 0 ((3 : Nat) : Int) = 0 := a3
      have : zTi 1 ((3 : Nat) : Int) = 99 := b3
      omega
    · rw [pu_ne q]; exact hj
  · rw [pu_nc (by omega : (0 : Nat) ≠ 4), pu_nc (by omega : (1 : Nat) ≠ 4), pu_nc (by omega : (2 : Nat) ≠ 4), pu_nc (by omega : (3 : Nat) ≠ 4)]
    by_cases q : j = i
    · rw [q, pu_eq]; rw [q] at hj
      have : zTi 0 ((4 : Nat) : Int) = 0 := a4
      have : zTi 1 ((4 : Nat) : Int) = 9 := b4
      omega
    · rw [pu_ne q]; exact hj
theorem WJ.mark {p : zP} (hp : WJ p) {k : Nat} (hk : k < 4) {x v : Int} (hv : mrk k v) : WJ (pu p (6 + k) x v) := by
  obtain ⟨⟨h1, h2, h3⟩, h4⟩ := hp
  obtain ⟨-, -, v1, v2⟩ := hv
  obtain ⟨-, -, ⟨a0, a1, a2, a3⟩, b0, b1, b2, b3⟩ := tT
  have n0 := pu_nc (p := p) (i := x) (v := v) (show 0 ≠ 6 + k by omega)
  have n1 := pu_nc (p := p) (i := x) (v := v) (show 1 ≠ 6 + k by omega)
  have n2 := pu_nc (p := p) (i := x) (v := v) (show 2 ≠ 6 + k by omega)
  have n3 := pu_nc (p := p) (i := x) (v := v) (show 3 ≠ 6 + k by omega)
  have n4 := pu_nc (p := p) (i := x) (v := v) (show 4 ≠ 6 + k by omega)
  have n5 := pu_nc (p := p) (i := x) (v := v) (show 5 ≠ 6 + k by omega)
  have ht : ∀ y : Int, th (pu p (6 + k) x v) y → th p y := fun y d => by unfold th at d ⊢; rw [n5] at d; exact d
  have key : ∀ y : Int, 0 ≤ y → y < 9 → ((0 ≤ pu p (6 + k) x v 6 y ∧ pu p (6 + k) x v 6 y ≤ 1) ∧ (0 ≤ pu p (6 + k) x v 7 y ∧ pu p (6 + k) x v 7 y ≤ 20) ∧ (0 ≤ pu p (6 + k) x v 8 y ∧ pu p (6 + k) x v 8 y ≤ 9) ∧ (0 ≤ pu p (6 + k) x v 9 y ∧ pu p (6 + k) x v 9 y ≤ 20)) ∧ (1 ≤ p 7 y → 1 ≤ pu p (6 + k) x v 7 y) := fun y a c => by
    have hy := h2 y a c
    have hy4 := h4 y a c
    rcases zs4 hk with rfl | rfl | rfl | rfl
    · have e1 : zTi 2 ((0 : Nat) : Int) = 0 := a0
      have e2 : zTi 3 ((0 : Nat) : Int) = 1 := b0
      rw [pu_nc (by omega : (7 : Nat) ≠ 6 + 0), pu_nc (by omega : (8 : Nat) ≠ 6 + 0), pu_nc (by omega : (9 : Nat) ≠ 6 + 0)]
      by_cases q : y = x
      · rw [q, show pu p (6 + 0) x v 6 x = v from pu_eq]; rw [q] at hy hy4; omega
      · rw [show pu p (6 + 0) x v 6 y = p 6 y from pu_ne q]; omega
    · have e1 : zTi 2 ((1 : Nat) : Int) = 1 := a1
      have e2 : zTi 3 ((1 : Nat) : Int) = 20 := b1
      rw [pu_nc (by omega : (6 : Nat) ≠ 6 + 1), pu_nc (by omega : (8 : Nat) ≠ 6 + 1), pu_nc (by omega : (9 : Nat) ≠ 6 + 1)]
      by_cases q : y = x
      · rw [q, show pu p (6 + 1) x v 7 x = v from pu_eq]; rw [q] at hy hy4; omega
      · rw [show pu p (6 + 1) x v 7 y = p 7 y from pu_ne q]; omega
    · have e1 : zTi 2 ((2 : Nat) : Int) = 0 := a2
      have e2 : zTi 3 ((2 : Nat) : Int) = 9 := b2
      rw [pu_nc (by omega : (6 : Nat) ≠ 6 + 2), pu_nc (by omega : (7 : Nat) ≠ 6 + 2), pu_nc (by omega : (9 : Nat) ≠ 6 + 2)]
      by_cases q : y = x
      · rw [q, show pu p (6 + 2) x v 8 x = v from pu_eq]; rw [q] at hy hy4; omega
      · rw [show pu p (6 + 2) x v 8 y = p 8 y from pu_ne q]; omega
    · have e1 : zTi 2 ((3 : Nat) : Int) = 0 := a3
      have e2 : zTi 3 ((3 : Nat) : Int) = 20 := b3
      rw [pu_nc (by omega : (6 : Nat) ≠ 6 + 3), pu_nc (by omega : (7 : Nat) ≠ 6 + 3), pu_nc (by omega : (8 : Nat) ≠ 6 + 3)]
      by_cases q : y = x
      · rw [q, show pu p (6 + 3) x v 9 x = v from pu_eq]; rw [q] at hy hy4; omega
      · rw [show pu p (6 + 3) x v 9 y = p 9 y from pu_ne q]; omega
  refine ⟨⟨fun j a c => by rw [n0, n1, n2, n3, n4, n5]; exact h1 j a c, fun y a c => ?_, fun y a c d => (key y a c).2 (h3 y a c (ht y d))⟩, fun y a c => (key y a c).1.2.1.2⟩
  have := (key y a c).1
  omega
theorem WJ.many {p : zP} (hp : WJ p) {i v : Int} (h0 : 0 ≤ v) (h3 : v ≤ 3) (hc : ∀ j : Int, 0 ≤ j → j < v → 0 ≤ i → i < 3 → 1 ≤ p 7 (i * 3 + j)) : WJ (pu p 5 i v) := by
  obtain ⟨⟨h1, h2, h3'⟩, h4⟩ := hp
  have n0 := fun k q => pu_nc (p := p) (k := 5) (k' := k) (i := i) (v := v) q
  refine ⟨⟨fun j a c => ?_, fun y a c => by rw [n0 6 (by omega), n0 7 (by omega), n0 8 (by omega), n0 9 (by omega)]; exact h2 y a c, fun y a c d => ?_⟩, fun y a c => by rw [n0 7 (by omega)]; exact h4 y a c⟩
  · rw [n0 0 (by omega), n0 1 (by omega), n0 2 (by omega), n0 3 (by omega), n0 4 (by omega)]
    have hj := h1 j a c
    by_cases q : j = i
    · rw [q, pu_eq]; rw [q] at hj; omega
    · rw [pu_ne q]; exact hj
  · rw [n0 7 (by omega)]
    unfold th at d
    by_cases q : y / 3 = i
    · rw [q, pu_eq] at d
      have := hc (y % 3) (by omega) d (by omega) (by omega)
      rw [show i * 3 + y % 3 = y by omega] at this
      exact this
    · rw [pu_ne q] at d
      exact h3' y a c d
end ZJ1
