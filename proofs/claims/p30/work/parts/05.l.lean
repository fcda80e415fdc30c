section ZGa
variable {σ : zS}
noncomputable def mmt (p : zP) (x i n : Int) : Int := if n < rn p x i then i * 3 + rl p x i n else -1
theorem mmt_1 {p : zP} {x i j n : Int} (j0 : 0 ≤ j) (j3 : j < 3) (hr : riv p x (i * 3 + j)) (h : cn p x i j = n) : mmt p x i n = i * 3 + j := by
  have ha := rl_at j0 j3 hr
  have hs : cn p x i (j + 1) = cn p x i j + 1 := by rw [cn_s j0, zb_t hr]
  have hle : cn p x i (j + 1) ≤ rn p x i := by
    rw [← cn_3]
    rcases (show j = 0 ∨ j = 1 ∨ j = 2 by omega) with rfl | rfl | rfl
    · rw [show (0 : Int) + 1 = 1 by rfl, show (3 : Int) = 1 + 1 + 1 by rfl, cn_s (by omega), cn_s (by omega)]
      rcases zb_2 (riv p x (i * 3 + 1)) with e | e <;> rcases zb_2 (riv p x (i * 3 + (1 + 1))) with e2 | e2 <;> omega
    · rw [show (1 : Int) + 1 = 2 by rfl, show (3 : Int) = 2 + 1 by rfl, cn_s (by omega)]
      rcases zb_2 (riv p x (i * 3 + 2)) with e | e <;> omega
    · exact Int.le_refl _
  unfold mmt
  rw [if_pos (by omega), ← h, ha.1]
theorem mmt_b (p : zP) (x : Int) {i n : Int} (i0 : 0 ≤ i) (i3 : i < 3) (n0 : 0 ≤ n) : -1 ≤ mmt p x i n ∧ mmt p x i n < 9 ∧ (mmt p x i n = -1 ↔ rn p x i ≤ n) ∧ (n < rn p x i → mmt p x i n = i * 3 + rl p x i n) := by
  unfold mmt
  by_cases q : n < rn p x i
  · have := rl_r (p := p) (x := x) (i := i) n0 q
    rw [if_pos q]
    exact ⟨by omega, by omega, by omega, fun _ => rfl⟩
  · rw [if_neg q]
    exact ⟨by omega, by omega, by omega, fun w => absurd w q⟩
def zFK (σ t : zS) : Prop := t.2 = σ.2 ∧ (∀ c : Nat, c ≠ 67 → c ≠ 83 → t.1 c = σ.1 c) ∧ ∀ i : Int, (i < 19 ∨ 22 < i) → t.1 67 i = σ.1 67 i
theorem zFK.rf {σ : zS} : zFK σ σ := ⟨rfl, fun _ _ _ => rfl, fun _ _ => rfl⟩
theorem zFK.up {σ t : zS} {i v : Int} (h : zFK σ t) : zFK σ (zu t 83 i v) :=
  ⟨h.1, fun e q1 q2 => by rw [zu_nc q2]; exact h.2.1 e q1 q2, fun j hj => by rw [zu_nc (by omega)]; exact h.2.2 j hj⟩
theorem zFK.tm {σ t s : zS} (h : zFK σ t) (h2 : zFm t s) : zFK σ s := ⟨h2.1.trans h.1, fun c q1 q2 => (h2.2.1 c q1).trans (h.2.1 c q1 q2), fun i q => (h2.2.2 i q).trans (h.2.2 i q)⟩
theorem zFK.tk {σ t s : zS} (h : zFK σ t) (h2 : s.2 = t.2 ∧ ∀ c : Nat, c ≠ 83 → s.1 c = t.1 c) : zFK σ s := ⟨h2.1.trans h.1, fun c q1 q2 => (h2.2 c q2).trans (h.2.1 c q1 q2), fun i q => by rw [h2.2 67 (by omega)]; exact h.2.2 i q⟩
theorem MS.fr {s t : zS} {p : zP} (h : MS s p) (hf : zFK s t) : MS t p := by
  rcases h with ⟨h1, h2⟩ | ⟨r, l, h1, h2, h3, h4, h5⟩
  · exact Or.inl ⟨h1, by rw [hf.2.2 27 (by omega)]; exact h2⟩
  · exact Or.inr ⟨r, l, h1, by rw [hf.2.2 27 (by omega)]; exact h2, by rw [hf.2.2 28 (by omega)]; exact h3, h4.fr (fun c a e => hf.2.1 c (by omega) (by omega)), h5.fr (fun c a e => hf.2.1 c (by omega) (by omega))⟩
def KP (t : zS) : Prop := ∀ i : Int, 0 ≤ i → i < 3 → -2 ≤ t.1 83 i ∧ t.1 83 i < 9
theorem KP.up {t : zS} {i v : Int} (h : KP t) (h0 : -2 ≤ v) (h1 : v < 9) : KP (zu t 83 i v) := fun j a c => by
  by_cases q : j = i
  · rw [q, zu_eq]; exact ⟨h0, h1⟩
  · rw [zu_ne q]; exact h j a c
theorem MX.ws {t : zS} {p : zP} {l : Int → Int} (hA : MA t p l) (hK : KP t) {x i1 i2 a c : Int} (hn : i1 ≠ i2) (hi : ∀ i : Int, 0 ≤ i → i < 3 → i ≠ x / 3 → i = i1 ∨ i = i2) (hi1 : 0 ≤ i1 ∧ i1 < 3) (hi2 : 0 ≤ i2 ∧ i2 < 3) (hr : inr p x i1 i2 a c) (e1 : t.1 83 i1 = mmt p x i1 a) (e2 : t.1 83 i2 = mmt p x i2 c) : MX t p l x (Cg (gpk p x i1 a i2 c)) := by
  have key : ∀ i n j : Int, 0 ≤ i → i < 3 → 0 ≤ n → n < na p x i → 0 ≤ j → j < 3 → riv p x (i * 3 + j) → t.1 83 i = mmt p x i n → ((pkc p x i n = -1 ∨ pkc p x i n = j) ↔ (t.1 83 i = -2 ∨ t.1 83 i = i * 3 + j)) := by
    intro i n j a1 a2 n0 n1 a4 a5 a6 e
    have hm := mmt_b p x a1 a2 n0
    have hc := rl_at a4 a5 a6
    have hmx : na p x i = max 1 (rn p x i) := rfl
    have hrn : 0 < rn p x i := by
      have hq := mmt_1 a4 a5 a6 rfl
      have hb := mmt_b p x (n := cn p x i j) a1 a2 hc.2.1
      omega
    have hrl := rl_r (p := p) (x := x) (i := i) n0 (by omega)
    rw [e, hm.2.2.2 (by omega)]
    unfold pkc
    rw [if_neg (by omega)]
    omega
  refine ⟨hA, fun i j a1 a2 a3 a4 a5 a6 => ?_, fun i a1 a2 => by have := hK i a1 a2; omega⟩
  unfold Cg
  rw [show (i * 3 + j) / 3 = i by omega, show (i * 3 + j) % 3 = j by omega]
  rcases hi i a1 a2 a3 with rfl | rfl
  · rw [gpk_1]
    exact key i a j a1 a2 hr.1 hr.2.1 a4 a5 a6 e1
  · rw [gpk_2 _ _ _ _ hn]
    exact key i c j a1 a2 hr.2.2.1 hr.2.2.2 a4 a5 a6 e2
/-- the model's look at the ways -/
def SM (p : zP) (l : Int → Int) (x i1 i2 a b m al : Int) : Prop := (al = 1 ∧ SI p l x i1 i2 a b m) ∨ (al = 0 ∧ -20000 ≤ m ∧ m ≤ 20000 ∧ ∃ a' b' : Int, inr p x i1 i2 a' b' ∧ fs p l x i1 a' i2 b' = none)
end ZGa
