section ZG5
variable {σ : zS}
/-- what the model's answers rest on -/
def MA (σ : zS) (p : zP) (l : Int → Int) : Prop := mP σ = p ∧ WP p ∧ WL l ∧ ∀ x : Int, 0 ≤ x → x < 9 → σ.1 82 x = l x
def MC (σ : zS) (p : zP) (x : Int) (C : Int → Prop) : Prop := ∀ i j : Int, 0 ≤ i → i < 3 → i ≠ x / 3 → 0 ≤ j → j < 3 → riv p x (i * 3 + j) → (C (i * 3 + j) ↔ (σ.1 83 i = -2 ∨ σ.1 83 i = i * 3 + j))
theorem MA.wp {σ : zS} {p : zP} {l : Int → Int} (h : MA σ p l) : WP p := h.2.1
theorem MA.wl {σ : zS} {p : zP} {l : Int → Int} (h : MA σ p l) : WL l := h.2.2.1
theorem MA.per {σ : zS} {p : zP} {l : Int → Int} (h : MA σ p l) (i : Int) : σ.1 72 i = p 0 i := by rw [← h.1]; rfl
theorem MA.cost {σ : zS} {p : zP} {l : Int → Int} (h : MA σ p l) (i : Int) : σ.1 79 i = p 7 i := by rw [← h.1]; rfl
theorem MA.late {σ : zS} {p : zP} {l : Int → Int} (h : MA σ p l) {x : Int} (h0 : 0 ≤ x) (h9 : x < 9) : σ.1 82 x = l x := h.2.2.2 x h0 h9
theorem mP_c {σ t : zS} (h : ∀ c : Nat, 72 ≤ c → c ≤ 81 → t.1 c = σ.1 c) : mP t = mP σ := by
  funext k
  unfold mP
  rcases k with _ | _ | _ | _ | _ | _ | _ | _ | _ | k <;> exact h _ (by omega) (by omega)
theorem MA.fr {σ t : zS} {p : zP} {l : Int → Int} (hA : MA σ p l) (h : ∀ c : Nat, 72 ≤ c → c ≤ 82 → t.1 c = σ.1 c) : MA t p l :=
  ⟨(mP_c (fun c a b => h c a (by omega))).trans hA.1, hA.2.1, hA.2.2.1, fun i a c => by rw [h _ (by omega) (by omega)]; exact hA.2.2.2 i a c⟩
theorem tm_c {a b : Int} (h0 : 0 < b) : (0 ≤ a.tmod b ∧ a.tmod b = a % b) ∨ (a.tmod b < 0 ∧ a.tmod b + b = a % b) := by
  have he : a.tmod b = if 0 ≤ a ∨ b ∣ a then a % b else a % b - b := by rw [Int.tmod_eq_emod]; split <;> omega
  have m0 := Int.emod_nonneg a (show b ≠ 0 by omega)
  have m1 := Int.emod_lt_of_pos a h0
  by_cases q : 0 ≤ a ∨ b ∣ a
  · rw [if_pos q] at he
    exact Or.inl ⟨by omega, he⟩
  · rw [if_neg q] at he
    exact Or.inr ⟨by omega, by omega⟩
theorem up_cm {t f T : Int} (h1 : 1 ≤ t) (h2 : f ≤ T) (h5 : 5 ≤ T) : (if t - f ≤ 0 then 0 else (t - f + T - 1) / T) = (t - f + T - 1) / T := by
  by_cases q : t - f ≤ 0
  · rw [if_pos q, Int.ediv_eq_zero_of_lt (by omega) (by omega)]
  · rw [if_neg q]
def zFm (σ t : zS) : Prop := t.2 = σ.2 ∧ (∀ c : Nat, c ≠ 67 → t.1 c = σ.1 c) ∧ ∀ i : Int, (i < 19 ∨ 22 < i) → t.1 67 i = σ.1 67 i
theorem zFm.rf {σ : zS} : zFm σ σ := ⟨rfl, fun _ _ => rfl, fun _ _ => rfl⟩
theorem zFm.up {σ t : zS} {i v : Int} (h : zFm σ t) (h0 : 19 ≤ i) (h1 : i ≤ 22) : zFm σ (zu t 67 i v) :=
  ⟨h.1, fun c hc => by rw [zu_nc hc]; exact h.2.1 c hc, fun j hj => by rw [zu_ne (by omega)]; exact h.2.2 j hj⟩
theorem zFm.tr {σ t s : zS} (h : zFm σ t) (h2 : zFm t s) : zFm σ s := ⟨h2.1.trans h.1, fun c q => (h2.2.1 c q).trans (h.2.1 c q), fun i q => (h2.2.2 i q).trans (h.2.2 i q)⟩
def MX (σ : zS) (p : zP) (l : Int → Int) (x : Int) (C : Int → Prop) : Prop := MA σ p l ∧ MC σ p x C ∧ ∀ i : Int, 0 ≤ i → i < 3 → zB (σ.1 83 i)
theorem MX.fr {σ t : zS} {p : zP} {l : Int → Int} {x : Int} {C : Int → Prop} (h : MX σ p l x C) (hf : zFm σ t) : MX t p l x C := by
  obtain ⟨h1, h2, h3⟩ := h
  refine ⟨h1.fr (fun c a b => hf.2.1 c (by omega)), ?_, ?_⟩
  · unfold MC
    rw [hf.2.1 83 (by omega)]
    exact h2
  · rw [hf.2.1 83 (by omega)]
    exact h3
def RM (x : Int) (t : zS) (s : aA) : Prop := -20000 ≤ t.1 67 19 ∧ t.1 67 19 ≤ 20000 ∧ ((0 < s.1 ∧ t.1 67 19 = s.1 ∧ t.1 67 20 = x / 3 * 3 + s.2.1 ∧ t.1 67 21 = s.2.2.1 ∧ t.1 67 22 = s.2.2.2) ∨ (s.1 = 0 ∧ t.1 67 19 ≤ 0))
end ZG5
