section ZR5
variable {σ : zS}
theorem MRa.b88 {p : zP} (hp : WP p) {g τ : zS} {b x n : Int} (h : MRa p g τ b) (hb : b ≤ 400) (h0 : 0 ≤ x) (h9 : x < 9) (ht : th p x) (n0 : 0 ≤ n) (n1 : n < 64) : -1 ≤ τ.1 88 (64 * x + n) ∧ τ.1 88 (64 * x + n) ≤ 9000 := by
  obtain ⟨h1, h2, h3, h4, h5, h6, h7, h8, h9'⟩ := h
  by_cases q : x % 3 = 0
  · rw [h5 x n h0 h9 ht q n0 n1]
    have := rmx_b hp (i := x / 3) (by omega) (by omega) n.toNat (by omega)
    omega
  · rw [h7 x n h0 h9 ht q n0 n1]
    by_cases z : n < g.1 45 (x - 1)
    · rw [if_pos z]
      have := h9' (x - 1) n (by omega) (by omega) (th_prev q ht) n0 z
      have hk := (hp.2.1 x h0 h9).2.2.2
      omega
    · rw [if_neg z]; omega
/-- the place of a step's release in the model's rows -/
def dko (g : zS) (m : Int) : Int := if m = -1 then -1 else 64 * m + g.1 45 m
theorem dko_1 {g : zS} {m : Int} (h : m = -1) : dko g m = -1 := if_pos h
theorem dko_2 {g : zS} {m : Int} (h : ¬ m = -1) : dko g m = 64 * m + g.1 45 m := if_neg h
end ZR5
