section ZR6
variable {σ : zS}
def FRr (σ s : zS) : Prop := s.2 = σ.2 ∧ (∀ c : Nat, c ≠ 67 → (c < 88 ∨ 93 < c) → s.1 c = σ.1 c) ∧ ∀ i : Int, i ≠ 35 → s.1 67 i = σ.1 67 i
theorem FRr.up {σ t : zS} {c : Nat} {i v : Int} (h : FRr σ t) (h0 : 88 ≤ c) (h1 : c ≤ 93) : FRr σ (zu t c i v) := ⟨h.1, fun e q1 q2 => by rw [zu_nc (by omega)]; exact h.2.1 e q1 q2, fun j q => by rw [zu_nc (by omega)]; exact h.2.2 j q⟩
theorem FRr.fin {σ t : zS} {p : zP} {x n a : Int} (h : FRr σ t) : FRr σ (finM p x n a t) := ⟨by rw [finM_l]; exact h.1, fun e q1 q2 => by rw [finM_o (by omega)]; exact h.2.1 e q1 q2, fun j q => by rw [finM_o (by omega)]; exact h.2.2 j q⟩
theorem FRr.mk1 {σ t : zS} {p : zP} {x n a : Int} (h : FRr σ t) : FRr σ (mtk p x n a t) := by
  unfold mtk
  split
  · exact (h.up (by omega) (by omega)).fin
  · exact h.up (by omega) (by omega)
theorem FRr.mk2 {σ t g : zS} {p : zP} {m a : Int} (h : FRr σ t) : FRr σ (mt1 p g m a t) := by
  unfold mt1
  split
  · exact h
  · exact h.mk1
def RR (g s : zS) (h : Int) : Prop := s.1 67 35 = h ∧ (∀ x : Int, 0 ≤ x → x < 9 → s.1 90 x = g.1 43 x ∧ s.1 91 x = g.1 44 x ∧ s.1 92 x = g.1 45 x) ∧ ∀ w : Nat, w < 2 → ∀ t : Int, 0 ≤ t → t < h → s.1 93 (300 * (w : Int) + t) = g.1 (41 + w) t
theorem mtk_93 {t : zS} {p : zP} {x n a : Int} : (mtk p x n a t).1 93 = t.1 93 := by
  unfold mtk
  split
  · rw [finM_o (by omega), zu_nc (by omega)]
  · rw [zu_nc (by omega)]
theorem mt1_93 {t g : zS} {p : zP} {m a : Int} : (mt1 p g m a t).1 93 = t.1 93 := by
  unfold mt1
  split
  · rfl
  · exact mtk_93
theorem MRa.init {p : zP} (hp : WP p) {h : Int} {g s : zS} (hB : BG p s 9) : MRa p (rst p h g) s 0 := by
  have z45 : ∀ y : Int, 0 ≤ y → y < 9 → (rst p h g).1 45 y = 0 := fun y a c => by unfold rst; rw [zu_nc (by omega), zu_nc (by omega), zu_nc (by omega), zu_nc (by omega)]; unfold clr; rw [zf_nc (by omega), zf_in a c]
  have z46 : ∀ y : Int, 0 ≤ y → y < 9 → (rst p h g).1 46 y = 0 := fun y a c => by unfold rst; rw [zu_nc (by omega), zu_nc (by omega), zu_nc (by omega), zu_nc (by omega)]; unfold clr; rw [zf_in a c]
  have z44 : ∀ y : Int, 0 ≤ y → y < 9 → (rst p h g).1 44 y = -1 := fun y a c => by unfold rst; rw [zu_nc (by omega), zu_nc (by omega), zu_nc (by omega), zu_nc (by omega)]; unfold clr; rw [zf_nc (by omega), zf_nc (by omega), zf_in a c]
  have z43 : ∀ y : Int, 0 ≤ y → y < 9 → (rst p h g).1 43 y = -1 := fun y a c => by unfold rst; rw [zu_nc (by omega), zu_nc (by omega), zu_nc (by omega), zu_nc (by omega)]; unfold clr; rw [zf_nc (by omega), zf_nc (by omega), zf_nc (by omega), zf_in a c]
  have z57 : ∀ i : Int, 0 ≤ i → i < 3 → (rst p h g).1 57 i = rdy p i 0 := fun i a c => by
    unfold rst
    rcases (show i = 0 ∨ i = 1 ∨ i = 2 by omega) with rfl | rfl | rfl
    · rw [zu_ne (by omega), zu_ne (by omega), zu_eq]
    · rw [zu_ne (by omega), zu_eq]
    · rw [zu_eq]
  refine ⟨fun y a1 a2 => ?_, fun y a1 a2 a3 => ?_, fun y n a1 a2 a3 a4 a5 => ?_, fun y a1 a2 a3 a4 => ?_, fun y n a1 a2 a3 a4 a5 a6 => ?_, fun y a1 a2 a3 a4 => ?_, fun y n a1 a2 a3 a4 a5 a6 => ?_, fun y n m a1 a2 a3 a4 a5 a6 => ?_, fun y n a1 a2 a3 a4 a5 => ?_⟩
  · obtain ⟨⟨b1, b2, b3⟩, b4⟩ := hB y a1 a2
    rw [z43 y a1 a2, z44 y a1 a2, z45 y a1 a2]; exact ⟨b1, b2, b3⟩
  · rw [z45 y a1 a2, z46 y a1 a2]
    have := hp.2.2 y a1 a2 a3
    omega
  · rw [z45 y a1 a2, z46 y a1 a2, ((hB y a1 a2).2 n a4 a5).2.2, if_neg (by omega)]
    split <;> rfl
  · rw [z45 y a1 a2, z57 _ (by omega) (by omega)]; rfl
  · exact ((hB y a1 a2).2 n a5 a6).1 a4 a3
  · rw [z45 y a1 a2, z45 (y - 1) (by omega) (by omega)]; exact Int.le_refl _
  · rw [z45 (y - 1) (by omega) (by omega), if_neg (by omega)]
    exact ((hB y a1 a2).2 n a5 a6).2.1 (fun z => a4 z.1)
  · rw [z45 y a1 a2] at a6; omega
  · rw [z45 y a1 a2] at a5; omega
theorem tka_41 {p : zP} {g : zS} {t : Int} : (∀ y : Int, (tka p g t).1 41 y = if y = t then ug p g 0 t 9 else g.1 41 y) ∧ ∀ y : Int, (tka p g t).1 42 y = if y = t then ug p (ntk p g 0 t) 1 t 9 else g.1 42 y := by
  have d0 := ntk_d (p := p) (g := g) (w := 0) (t := t) (by omega)
  have d1 := ntk_d (p := p) (g := ntk p g ((0 : Nat) : Int) t) (w := 1) (t := t) (by omega)
  have e0 := ntk_e (p := p) (g := ntk p g ((0 : Nat) : Int) t) (w := 1) (v := 0) (t := t) (by omega) (by omega) (by omega)
  have e1 := ntk_e (p := p) (g := g) (w := 0) (v := 1) (t := t) (by omega) (by omega) (by omega)
  constructor
  · intro y
    show (ntk p (ntk p g ((0 : Nat) : Int) t) ((1 : Nat) : Int) t).1 (41 + 0) y = _
    rw [e0.1, d0]
    by_cases q : y = t
    · rw [if_pos q, q, zu_eq]; rfl
    · rw [if_neg q, zu_ne q]
  · intro y
    show (ntk p (ntk p g ((0 : Nat) : Int) t) ((1 : Nat) : Int) t).1 (41 + 1) y = _
    rw [d1]
    by_cases q : y = t
    · rw [if_pos q, q, zu_eq]; rfl
    · rw [if_neg q, zu_ne q, e1.1]
end ZR6
