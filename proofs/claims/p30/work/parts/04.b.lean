section ZD2
theorem WP.per {p : zP} (hp : WP p) {i : Int} (h0 : 0 ≤ i) (h3 : i < 3) : 5 ≤ p 0 i ∧ p 0 i ≤ 100 := (hp.1 i h0 h3).1
theorem mul_b {a b x y A B : Int} (ha : a ≤ x) (hA : x ≤ A) (hb : b ≤ y) (hB : y ≤ B) (h0 : 0 ≤ a) (h1 : 0 ≤ b) : a * b ≤ x * y ∧ x * y ≤ A * B :=
  ⟨Int.mul_le_mul ha hb h1 (by omega), Int.mul_le_mul hA hB (by omega) (by omega)⟩
theorem lb_b {p : zP} (hp : WP p) : 125 ≤ lb p ∧ lb p ≤ 1000000 := by
  have h0 := hp.per (i := 0) (by omega) (by omega)
  have h1 := hp.per (i := 1) (by omega) (by omega)
  have h2 := hp.per (i := 2) (by omega) (by omega)
  have e1 := mul_b h0.1 h0.2 h1.1 h1.2 (by omega) (by omega)
  have e2 := mul_b e1.1 e1.2 h2.1 h2.2 (by omega) (by omega)
  unfold lb
  omega
noncomputable abbrev laf (p : zP) (x y : Int) : Int := @ite _ (y = x ∨ riv p x y) (Classical.propDecidable _) (p 7 y * (lb p / p 0 (y / 3))) 0
theorem laf_b {p : zP} (hp : WP p) {x y : Int} (h0 : 0 ≤ y) (h9 : y < 9) : 0 ≤ laf p x y ∧ laf p x y ≤ 5600000 := by
  have h := hp.per (i := y / 3) (by omega) (by omega)
  have hl := lb_b hp
  have hc := (hp.2.1 y h0 h9).2.1
  have hd : 0 ≤ lb p / p 0 (y / 3) ∧ lb p / p 0 (y / 3) ≤ 200000 := by
    constructor
    · exact Int.ediv_nonneg (by omega) (by omega)
    · have e1 : lb p / p 0 (y / 3) ≤ lb p / 5 := by
        apply Int.le_ediv_of_mul_le (by omega)
        have e3 : lb p / p 0 (y / 3) * 5 ≤ lb p / p 0 (y / 3) * p 0 (y / 3) := Int.mul_le_mul_of_nonneg_left (by omega) (Int.ediv_nonneg (by omega) (by omega))
        have e4 := Int.ediv_mul_le (lb p) (show p 0 (y / 3) ≠ 0 by omega)
        omega
      omega
  unfold laf
  by_cases hq : y = x ∨ riv p x y
  · rw [if_pos hq]
    have := mul_b hc.1 hc.2 hd.1 hd.2 (by omega) (by omega)
    omega
  · rw [if_neg hq]
    omega
theorem la_b {p : zP} (hp : WP p) (x : Int) : 0 ≤ la p x ∧ la p x ≤ 50400000 := by
  have := sm_b (f := laf p x) (a := 0) (lo := 0) (hi := 5600000) 9 (fun i h1 h2 => laf_b hp (by omega) (by omega))
  exact ⟨by unfold la; unfold laf at this; omega, by unfold la; unfold laf at this; omega⟩
def ovl (p : zP) (x : Int) : Prop := lb p < la p x
noncomputable def ovs (p : zP) : Int := sm (fun x => zb (th p x ∧ ovl p x)) 0 9
/-- Euclid -/
def eu : Nat → Int → Int → Int
  | 0, a, _ => a
  | n + 1, a, b => if b = 0 then a else eu n b (a % b)
theorem eu_g : ∀ (n : Nat) (a b : Int), 0 ≤ b → b < a → a * b < 2 ^ n → eu n a b = (Int.gcd a b : Int)
  | 0, a, b, h0, h1, h2 => by
    have hb : b = 0 := by
      rcases Int.lt_or_le 0 b with q | q
      · have : 1 * 1 ≤ a * b := Int.mul_le_mul (by omega) (by omega) (by omega) (by omega)
        have e : (2 : Int) ^ 0 = 1 := rfl
        omega
      · omega
    subst hb
    show a = _
    rw [Int.gcd_zero_right]
    omega
  | n + 1, a, b, h0, h1, h2 => by
    show (if b = 0 then a else eu n b (a % b)) = _
    by_cases hb : b = 0
    · rw [if_pos hb, hb, Int.gcd_zero_right]
      omega
    · rw [if_neg hb]
      have hb0 : 0 < b := by omega
      have m0 := Int.emod_nonneg a hb
      have m1 := Int.emod_lt_of_pos a hb0
      have hd := Int.mul_ediv_add_emod a b
      have hq : 1 ≤ a / b := (Int.le_ediv_iff_mul_le hb0).mpr (by omega)
      have hbq : b * 1 ≤ b * (a / b) := Int.mul_le_mul_of_nonneg_left hq (by omega)
      have h2r : 2 * (a % b) ≤ a := by omega
      have h3 : b * (2 * (a % b)) ≤ b * a := Int.mul_le_mul_of_nonneg_left h2r (by omega)
      have e2 : (2 : Int) ^ (n + 1) = 2 ^ n * 2 := Int.pow_succ 2 n
      have e3 : b * (2 * (a % b)) = 2 * (b * (a % b)) := by rw [← Int.mul_assoc, Int.mul_comm b 2, Int.mul_assoc]
      have e4 : b * a = a * b := Int.mul_comm _ _
      rw [eu_g n b (a % b) m0 m1 (by omega)]
      rw [Int.gcd_comm a b]
      congr 1
      have e5 := Int.gcd_add_mul_left_right b (a % b) (a / b)
      rw [show a % b + b * (a / b) = a by omega] at e5
      exact e5.symm
theorem eu_G {n : Nat} {a b : Int} (hn : 63 ≤ n) (h0 : 0 ≤ a) (h1 : 0 ≤ b) (h2 : b < 2147483648) : eu (n + 1) a b = (Int.gcd a b : Int) := by
  show (if b = 0 then a else eu n b (a % b)) = _
  by_cases hb : b = 0
  · rw [if_pos hb, hb, Int.gcd_zero_right]
    omega
  · rw [if_neg hb]
    have hb0 : 0 < b := by omega
    have m0 := Int.emod_nonneg a hb
    have m1 := Int.emod_lt_of_pos a hb0
    have h3 : b * (a % b) ≤ 2147483648 * 2147483648 := Int.mul_le_mul (by omega) (by omega) m0 (by omega)
    have h4 : (2 : Int) ^ 63 ≤ 2 ^ n := by
      have := Nat.pow_le_pow_right (show 0 < 2 by decide) hn
      exact_mod_cast this
    have h5 : (2 : Int) ^ 63 = 9223372036854775808 := by decide
    rw [eu_g n b (a % b) m0 m1 (by omega)]
    rw [Int.gcd_comm a b]
    congr 1
    have hd := Int.mul_ediv_add_emod a b
    have e5 := Int.gcd_add_mul_left_right b (a % b) (a / b)
    rw [show a % b + b * (a / b) = a by omega] at e5
    exact e5.symm
noncomputable def gd (p : zP) (x : Int) : Int := (Int.gcd (la p x) (lb p) : Int)
noncomputable def ldp (p : zP) (x w : Int) : Int := if w = 0 then la p x / gd p x else lb p / gd p x
theorem gd_b {p : zP} (hp : WP p) (x : Int) : 1 ≤ gd p x ∧ gd p x ≤ 1000000 := by
  have hl := lb_b hp
  unfold gd
  have h1 : 0 < Int.gcd (la p x) (lb p) := Int.gcd_pos_of_ne_zero_right _ (by omega)
  have h2 : ((Int.gcd (la p x) (lb p) : Nat) : Int) ≤ lb p := Int.le_of_dvd (by omega) (Int.gcd_dvd_right _ _)
  omega
/-! bits -/
def pw (i : Int) : Int := if i = 0 then 1 else if i = 1 then 2 else if i = 2 then 4 else 8
noncomputable def bts (Q : Int → Prop) : Int := sm (fun i => zb (Q i) * pw i) 0 3
theorem pw_3 {i : Int} (h0 : 0 ≤ i) (h3 : i < 3) : (i = 0 ∧ pw i = 1 ∧ pw (i + 1) = 2) ∨ (i = 1 ∧ pw i = 2 ∧ pw (i + 1) = 4) ∨ (i = 2 ∧ pw i = 4 ∧ pw (i + 1) = 8) := by
  rcases (show i = 0 ∨ i = 1 ∨ i = 2 by omega) with rfl | rfl | rfl <;> decide
section BR
variable {d : Nat} {μ : zU} {pc : Nat} {L : List (Option Value)} {st : List Value} {σ : zS} {P : Option Value → zS → Prop}
theorem Y.ishl1 {i : Int} (hdg : decode μ.2.1 pc = .ok (.ishl, 1)) (h0 : 0 ≤ i) (h3 : i < 3) (k : Y d μ (pc + 1) L (.int (zi (pw i)) :: st) σ P) : Y d μ pc L (.int (zi i) :: .int (zi 1) :: st) σ P :=
  Z.ishl hdg (by
    have e : zi 1 <<< (zi i &&& 31) = zi (pw i) := by
      rcases (show i = 0 ∨ i = 1 ∨ i = 2 by omega) with rfl | rfl | rfl <;> decide
    rw [e]
    exact k)
theorem Y.ior1 {a i : Int} (hdg : decode μ.2.1 pc = .ok (.ior, 1)) (hi0 : 0 ≤ i) (hi3 : i < 3) (h0 : 0 ≤ a) (h1 : a < pw i) (k : Y d μ (pc + 1) L (.int (zi (a + pw i)) :: st) σ P) : Y d μ pc L (.int (zi (pw i)) :: .int (zi a) :: st) σ P :=
  Z.ior hdg (by
    have e : zi a ||| zi (pw i) = zi (a + pw i) := by
      rcases pw_3 hi0 hi3 with ⟨rfl, e1, -⟩ | ⟨rfl, e1, -⟩ | ⟨rfl, e1, -⟩ <;> rw [e1] at h1 ⊢
      · rcases (show a = 0 by omega) with rfl; decide
      · rcases (show a = 0 ∨ a = 1 by omega) with rfl | rfl <;> decide
      · rcases (show a = 0 ∨ a = 1 ∨ a = 2 ∨ a = 3 by omega) with rfl | rfl | rfl | rfl <;> decide
    rw [e]
    exact k)
theorem Y.ior0 {a : Int} (hdg : decode μ.2.1 pc = .ok (.ior, 1)) (h0 : 0 ≤ a) (h1 : a < 8) (k : Y d μ (pc + 1) L (.int (zi a) :: st) σ P) : Y d μ pc L (.int (zi 0) :: .int (zi a) :: st) σ P :=
  Z.ior hdg (by
    have e : zi a ||| zi 0 = zi a := by
      rcases (show a = 0 ∨ a = 1 ∨ a = 2 ∨ a = 3 ∨ a = 4 ∨ a = 5 ∨ a = 6 ∨ a = 7 by omega) with rfl | rfl | rfl | rfl | rfl | rfl | rfl | rfl <;> decide
    rw [e]
    exact k)
end BR
end ZD2
