section ZM4
variable {σ : zS}
/-- all ints as they were, and all longs but the model's two loads -/
def zF2 (σ s : zS) : Prop := s.1 = σ.1 ∧ ∀ (c : Nat) (i : Int), ¬ (c = 67 ∧ (i = 15 ∨ i = 16)) → s.2 c i = σ.2 c i
theorem zF2.rf {σ : zS} : zF2 σ σ := ⟨rfl, fun _ _ _ => rfl⟩
theorem zF2.up {σ s : zS} {i v : Int} (h : zF2 σ s) (hi : i = 15 ∨ i = 16) : zF2 σ (zul s 67 i v) := by
  refine ⟨h.1, fun c j hj => ?_⟩
  by_cases hc : c = 67
  · subst hc
    rw [zul_ne (fun q => hj ⟨rfl, by omega⟩)]
    exact h.2 67 j hj
  · rw [zul_nc hc]
    exact h.2 c j hj
theorem zF2.tr {σ s u : zS} (h : zF2 σ s) (h2 : zF2 s u) : zF2 σ u := ⟨h2.1.trans h.1, fun c i q => (h2.2 c i q).trans (h.2 c i q)⟩
theorem mP_of {σ s : zS} (h : s.1 = σ.1) : mP s = mP σ := by unfold mP; rw [h]
theorem cP_of {σ s : zS} (h : s.1 = σ.1) : cP s = cP σ := by unfold cP; rw [h]
theorem gd_dvd (p : zP) (x : Int) : (∃ a, la p x = a * gd p x) ∧ ∃ b, lb p = b * gd p x := by
  obtain ⟨a, ha⟩ := Int.gcd_dvd_left (la p x) (lb p)
  obtain ⟨b, hb⟩ := Int.gcd_dvd_right (la p x) (lb p)
  exact ⟨⟨a, by unfold gd; rw [Int.mul_comm]; exact ha⟩, ⟨b, by unfold gd; rw [Int.mul_comm]; exact hb⟩⟩
theorem ovl_g {p : zP} (hp : WP p) (x : Int) : lb p / gd p x < la p x / gd p x ↔ ovl p x := by
  obtain ⟨⟨a, ha⟩, b, hb⟩ := gd_dvd p x
  have hg := gd_b hp x
  have e1 : la p x / gd p x = a := by rw [ha]; exact Int.mul_ediv_cancel a (by omega)
  have e2 : lb p / gd p x = b := by rw [hb]; exact Int.mul_ediv_cancel b (by omega)
  rw [e1, e2]
  unfold ovl
  constructor
  · intro h
    rw [ha, hb]
    exact Int.mul_lt_mul_of_pos_right h (by omega)
  · intro h
    rw [ha, hb] at h
    exact Int.lt_of_mul_lt_mul_right h (by omega)
end ZM4
