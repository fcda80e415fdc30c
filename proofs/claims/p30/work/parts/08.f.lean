section ZM6
variable {σ : zS}
/-! the class's run is such a run -/
noncomputable def τB (p : zP) : zS := (fun c i => match c with
  | 88 => @ite _ ((i / 64) % 3 = 0 ∧ th p (i / 64)) (Classical.propDecidable _) (rmx p (i / 64 / 3) (i % 64).toNat) (-1)
  | 90 => -1
  | 91 => -1
  | _ => 0, fun _ _ => 0)
theorem τB_g (p : zP) : BG p (τB p) 9 := by
  intro y a b
  refine ⟨⟨rfl, rfl, rfl⟩, fun n c d => ⟨fun e f => ?_, fun e => ?_, rfl⟩⟩
  · show @ite _ ((64 * y + n) / 64 % 3 = 0 ∧ th p ((64 * y + n) / 64)) (Classical.propDecidable _) (rmx p ((64 * y + n) / 64 / 3) ((64 * y + n) % 64).toNat) (-1) = _
    rw [show (64 * y + n) / 64 = y by omega, show (64 * y + n) % 64 = n by omega, if_pos ⟨e, f⟩]
  · show @ite _ ((64 * y + n) / 64 % 3 = 0 ∧ th p ((64 * y + n) / 64)) (Classical.propDecidable _) (rmx p ((64 * y + n) / 64 / 3) ((64 * y + n) % 64).toNat) (-1) = _
    rw [show (64 * y + n) / 64 = y by omega, if_neg e]
theorem run_mr {p : zP} (hp : WP p) (h : Int) (σ : zS) : ∀ n : Nat, ∃ τ : zS, MRa p (rnN p (rst p h σ) n) τ n ∧ (n = 0 → τ = τB p)
  | 0 => ⟨τB p, MRa.init hp (τB_g p), fun _ => rfl⟩
  | n + 1 => by
    obtain ⟨τ, k, _⟩ := run_mr hp h σ n
    exact ⟨_, MRa.both hp k (by omega), fun q => by omega⟩
/-- a node's tick, as a step sees it -/
def EF (p : zP) (s u : zS) (t y x : Int) : Prop :=
  (x = y ∧ s.1 46 y + 1 < p 7 y ∧ (u.1 45 y = s.1 45 y ∧ u.1 46 y = s.1 46 y + 1 ∧ u.1 43 y = s.1 43 y ∧ u.1 44 y = s.1 44 y) ∧ ∀ n : Int, u.1 (48 + y.toNat) n = s.1 (48 + y.toNat) n) ∨
  (x = y ∧ ¬ s.1 46 y + 1 < p 7 y ∧ (u.1 45 y = s.1 45 y + 1 ∧ u.1 46 y = 0 ∧ u.1 43 y = max (s.1 43 y) (t + 1 - rel p (y / 3) (s.1 45 y)) ∧ u.1 44 y = if s.1 44 y = -1 then t + 1 - rel p (y / 3) (s.1 45 y) else min (s.1 44 y) (t + 1 - rel p (y / 3) (s.1 45 y))) ∧ ∀ n : Int, u.1 (48 + y.toNat) n = if n = s.1 45 y then t + 1 else s.1 (48 + y.toNat) n) ∨
  (x ≠ y ∧ (u.1 45 y = s.1 45 y ∧ u.1 46 y = s.1 46 y ∧ u.1 43 y = s.1 43 y ∧ u.1 44 y = s.1 44 y) ∧ ∀ n : Int, u.1 (48 + y.toNat) n = s.1 (48 + y.toNat) n)
theorem tk_f {p : zP} {s : zS} {t x y : Int} (h0 : 0 ≤ x) (h9 : x < 9) (g0 : 0 ≤ y) (g9 : y < 9) : EF p s (tk p s x t) t y x := by
  have hc : ∀ n : Nat, n < 9 → 48 + n ≠ 46 := fun n q => by omega
  unfold tk
  by_cases q : s.1 46 x + 1 < p 7 x
  · rw [if_pos q]
    by_cases e : x = y
    · subst e
      refine Or.inl ⟨rfl, q, ⟨by rw [zu_nc (by omega)], zu_eq, by rw [zu_nc (by omega)], by rw [zu_nc (by omega)]⟩, fun n => by rw [zu_nc (by omega)]⟩
    · refine Or.inr (Or.inr ⟨e, ⟨by rw [zu_nc (by omega)], zu_ne (fun z => e z.symm), by rw [zu_nc (by omega)], by rw [zu_nc (by omega)]⟩, fun n => by rw [zu_nc (by omega)]⟩)
  · rw [if_neg q]
    by_cases e : x = y
    · subst e
      refine Or.inr (Or.inl ⟨rfl, q, ⟨?_, ?_, ?_, ?_⟩, fun n => ?_⟩)
      · rw [tkE_45, if_pos rfl, zu_nc (by omega)]
      · rw [tkE_46, if_pos rfl]
      · rw [tkE_43, if_pos rfl, zu_nc (by omega), zu_nc (by omega)]
      · rw [tkE_44, if_pos rfl, zu_nc (by omega), zu_nc (by omega)]
      · rw [tkE_E h0 h9 g0 g9, zu_nc (by omega), zu_nc (by omega)]
        by_cases z : n = s.1 45 x
        · rw [if_pos ⟨rfl, z⟩, if_pos z]
        · rw [if_neg (fun w => z w.2), if_neg z]
    · have e' : ¬ y = x := fun z => e z.symm
      refine Or.inr (Or.inr ⟨e, ⟨?_, ?_, ?_, ?_⟩, fun n => ?_⟩)
      · rw [tkE_45, if_neg e', zu_nc (by omega)]
      · rw [tkE_46, if_neg e', zu_ne e']
      · rw [tkE_43, if_neg e', zu_nc (by omega)]
      · rw [tkE_44, if_neg e', zu_nc (by omega)]
      · rw [tkE_E h0 h9 g0 g9, if_neg (fun w => e' w.1), zu_nc (by omega)]
theorem ntk_f {p : zP} {s : zS} {t y : Int} {w : Nat} (hw : w < 2) (g0 : 0 ≤ y) (g9 : y < 9) : EF p s (ntk p s w t) t y (ug p s w t 9) := by
  have e41 : 41 + ((w : Nat) : Int).toNat = 41 + w := by omega
  unfold ntk
  rw [e41]
  by_cases h : ug p s w t 9 = -1
  · rw [if_pos h]
    have hz : ∀ c : Nat, 42 < c → (zu (zu s (41 + w) t (-1)) 39 w ((zu s (41 + w) t (-1)).1 39 w + 1)).1 c = s.1 c := fun c hc => by rw [zu_nc (by omega), zu_nc (by omega)]
    refine Or.inr (Or.inr ⟨by rw [h]; omega, ⟨by rw [hz 45 (by omega)], by rw [hz 46 (by omega)], by rw [hz 43 (by omega)], by rw [hz 44 (by omega)]⟩, fun n => by rw [hz _ (by omega)]⟩)
  · rw [if_neg h]
    rcases ug_r (p := p) (s := s) (node := w) (t := t) 9 with q | ⟨q1, q2, q3, q4, q5⟩
    · exact absurd q h
    · have hz : ∀ c : Nat, 42 < c → (zu s (41 + w) t (ug p s w t 9)).1 c = s.1 c := fun c hc => by rw [zu_nc (by omega)]
      have k := tk_f (p := p) (s := zu s (41 + w) t (ug p s w t 9)) (t := t) q1 q2 g0 g9
      unfold EF at k ⊢
      rw [hz 45 (by omega), hz 46 (by omega), hz 43 (by omega), hz 44 (by omega), hz (48 + y.toNat) (by omega)] at k
      exact k
theorem tka_f {p : zP} (hp : WP p) {s : zS} {t y : Int} (g0 : 0 ≤ y) (g9 : y < 9) : EF p s (tka p s t) t y (ug p s (p 6 y) t 9) := by
  have h6 := (hp.2.1 y g0 g9).1
  have k0 := ntk_f (p := p) (s := s) (t := t) (w := 0) (by omega) g0 g9
  have k1 := ntk_f (p := p) (s := ntk p s 0 t) (t := t) (w := 1) (by omega) g0 g9
  have hu : ug p (ntk p s 0 t) 1 t 9 = ug p s 1 t 9 := ug_ntk hp 9 (by omega)
  have k1' : EF p (ntk p s 0 t) (tka p s t) t y (ug p s 1 t 9) := by rw [← hu]; exact k1
  have k0' : EF p s (ntk p s 0 t) t y (ug p s 0 t 9) := k0
  have hne : ∀ v : Int, v ≠ p 6 y → ug p s v t 9 ≠ y := fun v hv q => by
    rcases ug_r (p := p) (s := s) (node := v) (t := t) 9 with z | ⟨_, _, _, z, _⟩
    · omega
    · rw [q] at z; exact hv z.symm
  rcases (show p 6 y = 0 ∨ p 6 y = 1 by omega) with e | e
  · rw [e]
    have n1 := hne 1 (by omega)
    rcases k1' with q | q | ⟨_, ⟨a, b, c, d⟩, f⟩
    · exact absurd q.1 n1
    · exact absurd q.1 n1
    · unfold EF at k0' ⊢
      rw [a, b, c, d, show (tka p s t).1 (48 + y.toNat) = (ntk p s 0 t).1 (48 + y.toNat) from funext f]
      exact k0'
  · rw [e]
    have n0 := hne 0 (by omega)
    rcases k0' with q | q | ⟨_, ⟨a, b, c, d⟩, f⟩
    · exact absurd q.1 n0
    · exact absurd q.1 n0
    · unfold EF at k1' ⊢
      rw [a, b, c, d, show (ntk p s 0 t).1 (48 + y.toNat) = s.1 (48 + y.toNat) from funext f] at k1'
      exact k1'
theorem ug_x {p : zP} {s : zS} {node t z : Int} (z0 : 0 ≤ z) (ht : th p z) (h6 : p 6 z = node) (hr : rd p s z t) : ∀ n : Nat, z < n → ug p s node t n ≠ -1 ∧ p 8 z ≤ p 8 (ug p s node t n)
  | 0, h => by omega
  | n + 1, h => by
    rw [ug_n]
    by_cases q : ugc p s node t n (ug p s node t n)
    · rw [if_pos q]
      refine ⟨by omega, ?_⟩
      by_cases e : z = n
      · rw [e]; exact Int.le_refl _
      · have := ug_x z0 ht h6 hr n (by omega)
        rcases q.2.2.2 with w | w <;> omega
    · rw [if_neg q]
      by_cases e : z = n
      · subst e
        refine ⟨fun w => q ⟨ht, h6, hr, Or.inl w⟩, ?_⟩
        rcases Int.lt_or_le (p 8 (ug p s node t n)) (p 8 n) with w | w
        · exact absurd ⟨ht, h6, hr, Or.inr w⟩ q
        · exact w
      · exact ug_x z0 ht h6 hr n (by omega)
/-- the run, as it is at each time -/
noncomputable def sT (p : zP) (h : Int) (σ : zS) (t : Int) : zS := rnN p (rst p h σ) t.toNat
theorem sT_s {p : zP} {h : Int} {σ : zS} {t : Int} (t0 : 0 ≤ t) : sT p h σ (t + 1) = tka p (sT p h σ t) t := by
  have := rnN_s (p := p) (s := rst p h σ) t0
  rw [show (t + 1 - 0).toNat = (t + 1).toNat by omega, show (t - 0).toNat = t.toNat by omega] at this
  exact this
theorem sT_f {p : zP} (hp : WP p) {h : Int} {σ : zS} {t y : Int} (t0 : 0 ≤ t) (g0 : 0 ≤ y) (g9 : y < 9) : EF p (sT p h σ t) (sT p h σ (t + 1)) t y (ug p (sT p h σ t) (p 6 y) t 9) := by
  rw [sT_s t0]
  exact tka_f hp g0 g9
theorem sT_m {p : zP} (hp : WP p) {h : Int} {σ : zS} {t : Int} (t0 : 0 ≤ t) : ∃ τ : zS, MRa p (sT p h σ t) τ t := by
  obtain ⟨τ, k, _⟩ := run_mr hp h σ t.toNat
  rw [show ((t.toNat : Nat) : Int) = t by omega] at k
  exact ⟨τ, k⟩
theorem sT_0 {p : zP} (hp : WP p) {h : Int} {σ : zS} {y : Int} (g0 : 0 ≤ y) (g9 : y < 9) : (sT p h σ 0).1 45 y = 0 ∧ (sT p h σ 0).1 43 y = -1 ∧ (sT p h σ 0).1 44 y = -1 ∧ (th p y → (sT p h σ 0).1 46 y = 0) := by
  obtain ⟨τ, k, e⟩ := run_mr hp h σ 0
  rw [e rfl] at k
  obtain ⟨a1, a2, a3⟩ := k.1 y g0 g9
  refine ⟨a3.symm, a1.symm, a2.symm, fun ht => ?_⟩
  have b := k.2.2.1 y 0 g0 g9 ht (by omega) (by omega)
  have a3' : (0 : Int) = (rnN p (rst p h σ) 0).1 45 y := a3
  have b' : (0 : Int) = if 0 < (rnN p (rst p h σ) 0).1 45 y then p 7 y else if 0 = (rnN p (rst p h σ) 0).1 45 y then (rnN p (rst p h σ) 0).1 46 y else 0 := b
  rw [← a3', if_neg (by omega), if_pos rfl] at b'
  exact b'.symm
theorem sT_e {p : zP} (hp : WP p) {h : Int} {σ : zS} {t y n : Int} (t0 : 0 ≤ t) (g0 : 0 ≤ y) (g9 : y < 9) (hn : n < (sT p h σ t).1 45 y) : ∀ u : Int, t ≤ u → u ≤ h → n < (sT p h σ u).1 45 y ∧ (sT p h σ u).1 (48 + y.toNat) n = (sT p h σ t).1 (48 + y.toNat) n := by
  refine ind_up (P := fun u => n < (sT p h σ u).1 45 y ∧ (sT p h σ u).1 (48 + y.toNat) n = (sT p h σ t).1 (48 + y.toNat) n) ⟨hn, rfl⟩ (fun u a b ih => ?_)
  rcases sT_f hp (h := h) (σ := σ) (t := u) (by omega) g0 g9 with ⟨_, _, ⟨e1, _⟩, e2⟩ | ⟨_, _, ⟨e1, _⟩, e2⟩ | ⟨_, ⟨e1, _⟩, e2⟩
  · rw [e1, e2]; exact ih
  · rw [e1, e2, if_neg (by omega)]
    exact ⟨by omega, ih.2⟩
  · rw [e1, e2]; exact ih
theorem rmx_lu {p : zP} (hp : WP p) {i : Int} (h0 : 0 ≤ i) (h3 : i < 3) : ∀ n : Nat, rel p i n + p 9 (i * 3) ≤ rmx p i n ∧ rmx p i n ≤ rel p i n + p 9 (i * 3) + p 1 i
  | 0 => by
    have hi := hp.1 i h0 h3
    have m0 := Int.emod_nonneg (((0 : Nat) : Int) * p 4 i) (show p 1 i + 1 ≠ 0 by omega)
    have m1 := Int.emod_lt_of_pos (((0 : Nat) : Int) * p 4 i) (show 0 < p 1 i + 1 by omega)
    show rel p i ((0 : Nat) : Int) + _ ≤ rdy p i ((0 : Nat) : Int) ∧ rdy p i ((0 : Nat) : Int) ≤ _
    unfold rdy
    omega
  | n + 1 => by
    have hi := hp.1 i h0 h3
    have m0 := Int.emod_nonneg (((n + 1 : Nat) : Int) * p 4 i) (show p 1 i + 1 ≠ 0 by omega)
    have m1 := Int.emod_lt_of_pos (((n + 1 : Nat) : Int) * p 4 i) (show 0 < p 1 i + 1 by omega)
    have ih := rmx_lu hp h0 h3 n
    have e : rel p i ((n + 1 : Nat) : Int) = rel p i n + p 0 i := by
      unfold rel
      rw [show ((n + 1 : Nat) : Int) = (n : Int) + 1 by omega, Int.add_mul]
      omega
    show _ ≤ max (rmx p i n) (rdy p i ((n + 1 : Nat) : Int)) ∧ max (rmx p i n) (rdy p i ((n + 1 : Nat) : Int)) ≤ _
    unfold rdy
    omega
/-- it is such a run -/
theorem run_tr {p : zP} (hp : WP p) {h : Int} (h0 : 0 ≤ h) (h3 : h ≤ 300) (σ : zS) : TR p h (fun y t => (sT p h σ t).1 45 y) (fun y t => (sT p h σ t).1 46 y) (fun y n => (sT p h σ h).1 (48 + y.toNat) n) (fun i n => rmx p i n.toNat) (fun v t => ug p (sT p h σ t) v t 9) := by
  have hrd : ∀ t y : Int, 0 ≤ t → t < h → 0 ≤ y → y < 9 → th p y → (rd p (sT p h σ t) y t ↔ acv p (fun y t => (sT p h σ t).1 45 y) (fun y n => (sT p h σ h).1 (48 + y.toNat) n) (fun i n => rmx p i n.toNat) y ((sT p h σ t).1 45 y) t) := by
    intro t y t0 th' a b ht
    obtain ⟨τ, k1, k2, k3, k4, k5, k6, k7, k8, k9⟩ := sT_m hp (h := h) (σ := σ) t0
    have hy := k2 y a b ht
    by_cases q : y % 3 = 0
    · rw [rd_z q]
      have e := k4 y a b ht q
      rw [e]
      constructor
      · intro z; exact Or.inl ⟨q, z.2⟩
      · intro z
        rcases z with z | z
        · have hb := (rmx_b hp (i := y / 3) (by omega) (by omega) ((sT p h σ t).1 45 y).toNat (by omega)).1
          have z2 : rmx p (y / 3) ((sT p h σ t).1 45 y).toNat ≤ t := z.2
          exact ⟨by omega, z2⟩
        · exact absurd q z.1
    · rw [rd_y q]
      have hy1 := k2 (y - 1) (by omega) (by omega) (th_prev q ht)
      constructor
      · intro z
        have e := (sT_e hp t0 (y := y - 1) (by omega) (by omega) z.2.1 h (by omega) (Int.le_refl _)).2
        refine Or.inr ⟨q, z.2.1, ?_⟩
        show (sT p h σ h).1 (48 + (y - 1).toNat) ((sT p h σ t).1 45 y) + p 9 y ≤ t
        rw [e]; exact z.2.2
      · intro z
        rcases z with z | z
        · exact absurd z.1 q
        · have z1 : (sT p h σ t).1 45 y < (sT p h σ t).1 45 (y - 1) := z.2.1
          have e := (sT_e hp t0 (y := y - 1) (by omega) (by omega) z1 h (by omega) (Int.le_refl _)).2
          have z2 : (sT p h σ h).1 (48 + (y - 1).toNat) ((sT p h σ t).1 45 y) + p 9 y ≤ t := z.2.2
          rw [e] at z2
          exact ⟨by omega, z1, z2⟩
  refine ⟨fun y a b ht => ⟨(sT_0 hp a b).1, (sT_0 hp a b).2.2.2 ht⟩, fun t y t0 th' a b ht => ?_, fun t v t0 th' v0 v1 hv => ?_, fun t z t0 th' a b ht ha => ?_, fun i n a b c => ?_, fun i n m a b c d => rmx_le c d⟩
  · obtain ⟨τ, _, k2, _⟩ := sT_m hp (h := h) (σ := σ) t0
    have hy := k2 y a b ht
    rcases sT_f hp (h := h) (σ := σ) t0 a b with ⟨e0, e3, ⟨e1, e4, _⟩, e2⟩ | ⟨e0, e3, ⟨e1, e4, _⟩, e2⟩ | ⟨e0, ⟨e1, e4, _⟩, e2⟩
    · exact Or.inl ⟨e0, e3, e1, e4⟩
    · refine Or.inr (Or.inl ⟨e0, ?_, e1, e4, ?_⟩)
      · show (sT p h σ t).1 46 y + 1 = p 7 y
        omega
      · have e5 := (sT_e hp (h := h) (σ := σ) (t := t + 1) (n := (sT p h σ t).1 45 y) (by omega) a b (by rw [e1]; omega) h (by omega) (Int.le_refl _)).2
        show (sT p h σ h).1 (48 + y.toNat) ((sT p h σ t).1 45 y) = t + 1
        rw [e5, e2, if_pos rfl]
    · exact Or.inr (Or.inr ⟨e0, e1, e4⟩)
  · rcases ug_r (p := p) (s := sT p h σ t) (node := v) (t := t) 9 with q | ⟨q1, q2, q3, q4, q5⟩
    · exact absurd q hv
    · exact ⟨q1, by show ug p (sT p h σ t) v t 9 < 9; omega, q3, q4, (hrd t _ t0 th' q1 (by omega) q3).mp q5⟩
  · exact ug_x a ht rfl ((hrd t z t0 th' a b ht).mpr ha) 9 (by omega)
  · have := rmx_lu hp a b n.toNat
    rw [show ((n.toNat : Nat) : Int) = n by omega] at this
    exact this
/-! what is seen of a step in the run -/
theorem run_seen {p : zP} (hp : WP p) {h : Int} (h0 : 0 ≤ h) (h3 : h ≤ 300) (σ : zS) {y : Int} (g0 : 0 ≤ y) (g9 : y < 9) (ht : th p y) : ∀ t : Int, 0 ≤ t → t ≤ h →
    ((sT p h σ t).1 45 y = 0 ∧ (sT p h σ t).1 43 y = -1 ∧ (sT p h σ t).1 44 y = -1) ∨ (0 < (sT p h σ t).1 45 y ∧ ear p y + p 7 y ≤ (sT p h σ t).1 44 y ∧ (sT p h σ t).1 44 y ≤ (sT p h σ t).1 43 y ∧ ∀ l : Int → Int, STD p l → (sT p h σ t).1 43 y ≤ srS p l y) := by
  have hT := run_tr hp h0 h3 σ
  have hc := hp.2.2 y g0 g9 ht
  have he := ear_b hp g0 g9
  refine ind_up (P := fun t => ((sT p h σ t).1 45 y = 0 ∧ (sT p h σ t).1 43 y = -1 ∧ (sT p h σ t).1 44 y = -1) ∨ (0 < (sT p h σ t).1 45 y ∧ ear p y + p 7 y ≤ (sT p h σ t).1 44 y ∧ (sT p h σ t).1 44 y ≤ (sT p h σ t).1 43 y ∧ ∀ l : Int → Int, STD p l → (sT p h σ t).1 43 y ≤ srS p l y)) ?_ (fun t a b ih => ?_)
  · obtain ⟨a, b, c, _⟩ := sT_0 hp (h := h) (σ := σ) g0 g9
    exact Or.inl ⟨a, b, c⟩
  · have hE := (hT.b hp g0 g9 ht t a (by omega)).1
    have hE : 0 ≤ (sT p h σ t).1 45 y := hE
    rcases sT_f hp (h := h) (σ := σ) a g0 g9 with ⟨e0, e3, ⟨e1, _, e4, e5⟩, e2⟩ | ⟨e0, e3, ⟨e1, _, e4, e5⟩, e2⟩ | ⟨e0, ⟨e1, _, e4, e5⟩, e2⟩
    · rw [e1, e4, e5]; exact ih
    · right
      have x1 := (sT_e hp (h := h) (σ := σ) (t := t + 1) (n := (sT p h σ t).1 45 y) (by omega) g0 g9 (by rw [e1]; omega) h (by omega) (Int.le_refl _)).2
      have x2 : (sT p h σ h).1 (48 + y.toNat) ((sT p h σ t).1 45 y) = t + 1 := by rw [x1, e2, if_pos rfl]
      have lo := hT.lo hp (t + 1) (by omega) (by omega) y ((sT p h σ t).1 45 y) g0 g9 ht hE (by show _ < (sT p h σ (t + 1)).1 45 y; rw [e1]; omega)
      have lo' : rel p (y / 3) ((sT p h σ t).1 45 y) + ear p y + p 7 y ≤ (sT p h σ h).1 (48 + y.toNat) ((sT p h σ t).1 45 y) := lo
      have hi : ∀ l : Int → Int, STD p l → t + 1 - rel p (y / 3) ((sT p h σ t).1 45 y) ≤ srS p l y := fun l hS => by
        have := hT.ub hS (t + 1) (by omega) (by omega) y ((sT p h σ t).1 45 y) g0 g9 ht hE (by show _ < (sT p h σ (t + 1)).1 45 y; rw [e1]; omega)
        have this : (sT p h σ h).1 (48 + y.toNat) ((sT p h σ t).1 45 y) ≤ rel p (y / 3) ((sT p h σ t).1 45 y) + srS p l y := this
        omega
      rw [e1, e4, e5]
      rcases ih with ⟨i1, i2, i3⟩ | ⟨i1, i2, i3, i4⟩
      · rw [if_pos i3]
        refine ⟨by omega, by omega, by omega, fun l hS => ?_⟩
        have := hi l hS
        omega
      · rw [if_neg (by omega)]
        refine ⟨by omega, by omega, by omega, fun l hS => ?_⟩
        have := hi l hS
        have := i4 l hS
        omega
    · rw [e1, e4, e5]; exact ih
end ZM6
