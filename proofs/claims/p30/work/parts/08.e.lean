section ZM5
variable {p : zP} {l : Int → Int} {H : Int} {E K e A0 ex : Int → Int → Int}
/-- work told by one moment of each chain is in what is needed -/
theorem rv_Fn (hp : WP p) (hl : WL l) {x t : Int} (h0 : 0 ≤ x) (h9 : x < 9) (t1 : 1 ≤ t) (kf : Int → Int) (C : Int → Prop) (hx : kf (x / 3) / 3 = x / 3)
    (hk : ∀ y : Int, 0 ≤ y → y < 9 → riv p x y → y / 3 ≠ x / 3 → 0 ≤ kf (y / 3) ∧ kf (y / 3) < 9 ∧ kf (y / 3) / 3 = y / 3 ∧ riv p x (kf (y / 3)) ∧ C (kf (y / 3))) :
    sm (fun y => zb (riv p x y) * (cm p l y (kf (y / 3)) t * p 7 y)) 0 9 ≤ wk p l x (kf (x / 3)) t + oth p l x C t := by
  have b1 : ∀ i : Int, i = x / 3 → sm (fun y => zb (riv p x y) * (cm p l y (kf (y / 3)) t * p 7 y)) (i * 3) 3 = wk p l x (kf (x / 3)) t := fun i hi => by
    unfold wk
    rw [hx, hi]
    exact sm_c 3 (fun y a b => by rw [show y / 3 = x / 3 by omega])
  have b2 : ∀ i : Int, 0 ≤ i → i < 3 → i ≠ x / 3 → sm (fun y => zb (riv p x y) * (cm p l y (kf (y / 3)) t * p 7 y)) (i * 3) 3 ≤ ot p l x C i t := fun i i0 i3 hi => by
    by_cases q : ∃ y : Int, 0 ≤ y ∧ y < 9 ∧ riv p x y ∧ y / 3 = i
    · obtain ⟨y, a, b, c, d⟩ := q
      obtain ⟨g1, g2, g3, g4, g5⟩ := hk y a b c (by omega)
      rw [d] at g1 g2 g3 g4 g5
      have e1 : sm (fun y => zb (riv p x y) * (cm p l y (kf (y / 3)) t * p 7 y)) (i * 3) 3 = wk p l x (kf i) t := by
        unfold wk
        rw [g3]
        exact sm_c 3 (fun y a b => by rw [show y / 3 = i by omega])
      have e2 := mx_at (f := fun k => zb (riv p x k) * (zb (C k) * wk p l x k t)) (a := i * 3) (k := kf i) 3 (by omega) (by omega)
      have e3 : zb (riv p x (kf i)) * (zb (C (kf i)) * wk p l x (kf i) t) = wk p l x (kf i) t := by
        rw [zb_t g4, zb_t g5]; omega
      rw [e1]
      have e4 : ot p l x C i t = mx (fun k => zb (riv p x k) * (zb (C k) * wk p l x k t)) (i * 3) 3 := rfl
      rw [e4]
      have e5 : zb (riv p x (kf i)) * (zb (C (kf i)) * wk p l x (kf i) t) ≤ mx (fun k => zb (riv p x k) * (zb (C k) * wk p l x k t)) (i * 3) 3 := e2
      omega
    · rw [sm_z 3 (fun y a b => by rw [zb_f (fun z => q ⟨y, by omega, by omega, z, by omega⟩), Int.zero_mul])]
      exact ot_0 l x C i t
  rw [sm_3]
  have e0 : ∀ f : Int → Int, sm f 0 3 = 0 + f (0 + 0) + f (0 + 1) + f (0 + 2) := fun _ => rfl
  unfold oth
  rw [e0, e0, show (0 : Int) + 0 = 0 from rfl, show (0 : Int) + 1 = 1 from rfl, show (0 : Int) + 2 = 2 from rfl]
  rcases (show x / 3 = 0 ∨ x / 3 = 1 ∨ x / 3 = 2 by omega) with q | q | q
  · have a0 := b1 0 q.symm
    have a1 := b2 1 (by omega) (by omega) (by omega)
    have a2 := b2 2 (by omega) (by omega) (by omega)
    rw [q] at *
    rw [zb_f (show ¬ ((0 : Int) ≠ 0) by decide), zb_t (show (1 : Int) ≠ 0 by decide), zb_t (show (2 : Int) ≠ 0 by decide)]; omega
  · have a0 := b2 0 (by omega) (by omega) (by omega)
    have a1 := b1 1 q.symm
    have a2 := b2 2 (by omega) (by omega) (by omega)
    rw [q] at *
    rw [zb_t (show (0 : Int) ≠ 1 by decide), zb_f (show ¬ ((1 : Int) ≠ 1) by decide), zb_t (show (2 : Int) ≠ 1 by decide)]; omega
  · have a0 := b2 0 (by omega) (by omega) (by omega)
    have a1 := b2 1 (by omega) (by omega) (by omega)
    have a2 := b1 2 q.symm
    rw [q] at *
    rw [zb_t (show (0 : Int) ≠ 2 by decide), zb_t (show (1 : Int) ≠ 2 by decide), zb_f (show ¬ ((2 : Int) ≠ 2) by decide)]; omega
/-- all that the node does from B on is the step's and its rivals' -/
theorem TR.w (hp : WP p) (hT : TR p H E K e A0 ex) {x B t : Int} (h0 : 0 ≤ x) (h9 : x < 9) (ht : th p x) (b0 : 0 ≤ B) (tH : t < H) (hex : ∀ s : Int, B ≤ s → s ≤ t → 0 ≤ ex (p 6 x) s ∧ ex (p 6 x) s < 9 ∧ SX p x (ex (p 6 x) s)) :
    ∀ s : Int, B ≤ s → s ≤ t + 1 → sm (fun y => zb (SX p x y) * DN p E K y s) 0 9 = sm (fun y => zb (SX p x y) * DN p E K y B) 0 9 + (s - B) := by
  refine ind_up (P := fun s => sm (fun y => zb (SX p x y) * DN p E K y s) 0 9 = sm (fun y => zb (SX p x y) * DN p E K y B) 0 9 + (s - B)) (by omega) (fun s a b ih => ?_)
  obtain ⟨x1, x2, x3⟩ := hex s a (by omega)
  have key : ∀ y : Int, 0 ≤ y → y < 9 → SX p x y → (ex (p 6 x) s = y ∧ DN p E K y (s + 1) = DN p E K y s + 1) ∨ (ex (p 6 x) s ≠ y ∧ DN p E K y (s + 1) = DN p E K y s) := fun y c d f => by
    have g := f.t ht
    have := hT.d hp c d g.1 (t := s) (by omega) (by omega)
    rw [g.2.1] at this
    exact this
  have := (sm_bump (f := fun y => zb (SX p x y) * DN p E K y s) (g := fun y => zb (SX p x y) * DN p E K y (s + 1)) (a := 0) (c := ex (p 6 x) s) (v := 1) (by
    show zb (SX p x (ex (p 6 x) s)) * DN p E K (ex (p 6 x) s) (s + 1) = zb (SX p x (ex (p 6 x) s)) * DN p E K (ex (p 6 x) s) s + 1
    rcases key _ x1 x2 x3 with q | q
    · rw [zb_t x3, q.2]; omega
    · exact absurd rfl q.1) 9 (fun y c d q => by
    show zb (SX p x y) * DN p E K y (s + 1) = zb (SX p x y) * DN p E K y s
    by_cases z : SX p x y
    · rcases key y c (by omega) z with w | w
      · exact absurd w.1.symm q
      · rw [w.2]
    · rw [zb_f z]; omega)).2 ⟨x1, by omega⟩
  rw [this, ih]
  omega
theorem TR.sum (hp : WP p) {x B s : Int} (h0 : 0 ≤ x) (h9 : x < 9) (hW : sm (fun y => zb (SX p x y) * DN p E K y s) 0 9 = sm (fun y => zb (SX p x y) * DN p E K y B) 0 9 + (s - B)) (g : Int → Int) (hg : ∀ y : Int, 0 ≤ y → y < 9 → SX p x y → DN p E K y s ≤ DN p E K y B + g y) :
    s - B ≤ g x + sm (fun y => zb (riv p x y) * g y) 0 9 ∧ ((∃ y : Int, 0 ≤ y ∧ y < 9 ∧ SX p x y ∧ DN p E K y s < DN p E K y B + g y) → s - B < g x + sm (fun y => zb (riv p x y) * g y) 0 9) := by
  have e1 := sm_add (f := fun y => zb (SX p x y) * DN p E K y B) (g := fun y => zb (SX p x y) * g y) (a := 0) 9
  have e2 := sx_sm (p := p) h0 h9 g
  have hle : ∀ y : Int, 0 ≤ y → y < 0 + ((9 : Nat) : Int) → zb (SX p x y) * DN p E K y s ≤ zb (SX p x y) * DN p E K y B + zb (SX p x y) * g y := fun y a b => by
    by_cases z : SX p x y
    · have := hg y a (by omega) z
      rw [zb_t z]; omega
    · rw [zb_f z]; omega
  constructor
  · have := sm_m (f := fun y => zb (SX p x y) * DN p E K y s) (g := fun y => zb (SX p x y) * DN p E K y B + zb (SX p x y) * g y) (a := 0) 9 hle
    omega
  · intro ⟨y, a, b, c, d⟩
    have := sm_lt (f := fun y => zb (SX p x y) * DN p E K y s) (g := fun y => zb (SX p x y) * DN p E K y B + zb (SX p x y) * g y) (a := 0) (c := y) (by
      show zb (SX p x y) * DN p E K y s < zb (SX p x y) * DN p E K y B + zb (SX p x y) * g y
      rw [zb_t c]; omega) 9 hle a (by omega)
    omega
set_option maxHeartbeats 4000000 in
theorem TR.main (hS : STD p l) (hT : TR p H E K e A0 ex) {x t : Int} (h0 : 0 ≤ x) (h9 : x < 9) (ht : th p x) (t0 : 0 ≤ t) (tH : t < H) (hU : UB p l E e t) (hx : ex (p 6 x) t = x) (hf : K x t + 1 = p 7 x) : t + 1 ≤ rel p (x / 3) (E x t) + srS p l x := by
  have hp := hS.1
  have hl := hS.2.1
  have h6 := (hp.2.1 x h0 h9).1
  have hb := hT.b hp h0 h9 ht t t0 (by omega)
  obtain ⟨hall, -⟩ := srS_s hp hl (hS.f h0 h9 ht)
  have hact : acv p E e A0 x (E x t) t := by
    have := (hT.2.2.1 t (p 6 x) t0 tH h6.1 h6.2 (by rw [hx]; omega)).2.2.2.2
    rw [hx] at this
    exact this
  generalize hm : E x t = m at *
  -- the start of what is busy
  obtain ⟨B, ⟨b0, bt, hG⟩, hmax⟩ := max_ex (P := fun s => 0 ≤ s ∧ s ≤ t ∧ (s = 0 ∨ (¬ acv p E e A0 x m (s - 1) ∧ ∀ y : Int, 0 ≤ y → y < 9 → SX p x y → ¬ acv p E e A0 y (E y s) (s - 1)))) (M := t) (fun s q => q.2.1) t.toNat 0 ⟨Int.le_refl _, t0, Or.inl rfl⟩ (by omega)
  have hEm : ∀ s : Int, 0 ≤ s → s ≤ t → E x s ≤ m := fun s a b => by
    have := hT.m h0 h9 ht a t b (by omega)
    omega
  have hex : ∀ s : Int, B ≤ s → s ≤ t → 0 ≤ ex (p 6 x) s ∧ ex (p 6 x) s < 9 ∧ SX p x (ex (p 6 x) s) := by
    intro s a b
    have some1 : ∃ y : Int, 0 ≤ y ∧ y < 9 ∧ SX p x y ∧ acv p E e A0 y (E y s) s := by
      by_cases q : acv p E e A0 x m s
      · exact ⟨x, h0, h9, Or.inl rfl, q.n hp hT h0 h9 ht (by omega) (by omega) (hT.b hp h0 h9 ht s (by omega) (by omega)).1 (hEm s (by omega) b)⟩
      · have st : s < t := by
          rcases Int.lt_or_le s t with z | z
          · exact z
          · rw [show s = t by omega] at q
            exact absurd hact q
        have ng : ¬ (s + 1 = 0 ∨ (¬ acv p E e A0 x m (s + 1 - 1) ∧ ∀ y : Int, 0 ≤ y → y < 9 → SX p x y → ¬ acv p E e A0 y (E y (s + 1)) (s + 1 - 1))) := fun z => by
          have := hmax (s + 1) ⟨by omega, by omega, z⟩
          omega
        rw [show s + 1 - 1 = s by omega] at ng
        have : ∃ y : Int, 0 ≤ y ∧ y < 9 ∧ SX p x y ∧ acv p E e A0 y (E y (s + 1)) s := Classical.byContradiction fun z => ng (Or.inr ⟨q, fun y c d f g => z ⟨y, c, d, f, g⟩⟩)
        obtain ⟨y, c, d, f, g⟩ := this
        have hy := (f.t ht).1
        exact ⟨y, c, d, f, g.n hp hT c d hy (by omega) (by omega) (hT.b hp c d hy s (by omega) (by omega)).1 (hT.m c d hy (show 0 ≤ s by omega) (s + 1) (by omega) (by omega))⟩
    obtain ⟨y, c, d, f, g⟩ := some1
    have hy := f.t ht
    obtain ⟨u1, u2⟩ := hT.2.2.2.1 s y (by omega) (by omega) c d hy.1 g
    rw [hy.2.1] at u1 u2
    obtain ⟨v1, v2, v3, v4, _⟩ := hT.2.2.1 s (p 6 x) (by omega) (by omega) h6.1 h6.2 u1
    refine ⟨v1, v2, ?_⟩
    by_cases z : ex (p 6 x) s = x
    · exact Or.inl z
    · exact Or.inr ⟨v3, z, v4, by omega⟩
  have hW := hT.w hp h0 h9 ht b0 tH hex
  -- at B nothing of them is begun
  have hK0 : ∀ y : Int, 0 ≤ y → y < 9 → SX p x y → K y B = 0 := fun y c d f => by
    have hy := (f.t ht).1
    have hby := hT.b hp c d hy B b0 (by omega)
    rcases Int.lt_or_le 0 (K y B) with q | q
    · exfalso
      obtain ⟨k1, k2⟩ := hT.k hp c d hy B b0 (by omega) q
      rcases hG with g | g
      · omega
      · exact g.2 y c d f (k2.t hT c d hy (by omega) (by omega) (by omega))
    · omega
  have hnB : ∀ y n : Int, 0 ≤ y → y < 9 → SX p x y → E y B ≤ n → B = 0 ∨ ¬ acv p E e A0 y n (B - 1) := fun y n c d f hn => by
    have hy := (f.t ht).1
    rcases hG with g | g
    · exact Or.inl g
    · by_cases z : B = 0
      · exact Or.inl z
      · exact Or.inr (fun q => g.2 y c d f (q.n hp hT c d hy (by omega) (by omega) (hT.b hp c d hy B b0 (by omega)).1 hn))
  -- the moments
  obtain ⟨kf, hkf⟩ := pick (Q := SX p x) (fun y => (p 3 (y / 3) + ear p y + l y - B) % p 0 (y / 3)) (fun y a b => Int.emod_nonneg _ (by have := hp.per (i := y / 3) (by omega) (by omega); omega))
  have hal : ∀ y : Int, 0 ≤ y → y < 9 → SX p x y → 0 ≤ (p 3 (y / 3) + ear p (kf (y / 3)) + l (kf (y / 3)) - B) % p 0 (y / 3) ∧ p 3 (y / 3) + ear p (kf (y / 3)) + l (kf (y / 3)) - B - (p 3 (y / 3) + ear p (kf (y / 3)) + l (kf (y / 3)) - B) % p 0 (y / 3) = p 0 (y / 3) * ((p 3 (y / 3) + ear p (kf (y / 3)) + l (kf (y / 3)) - B) / p 0 (y / 3)) := fun y a b c => by
    have hT5 := hp.per (i := y / 3) (by omega) (by omega)
    have e1 := Int.mul_ediv_add_emod (p 3 (y / 3) + ear p (kf (y / 3)) + l (kf (y / 3)) - B) (p 0 (y / 3))
    have e2 := Int.emod_nonneg (p 3 (y / 3) + ear p (kf (y / 3)) + l (kf (y / 3)) - B) (show p 0 (y / 3) ≠ 0 by omega)
    omega
  have hlow : ∀ y n s : Int, 0 ≤ y → y < 9 → SX p x y → E y B ≤ n → 0 ≤ s → s ≤ t → acv p E e A0 y n s → B + (p 3 (y / 3) + ear p (kf (y / 3)) + l (kf (y / 3)) - B) % p 0 (y / 3) ≤ rel p (y / 3) n + ear p y + l y := fun y n s a b c hn s0 st hact' => by
    have hy := (c.t ht).1
    have n0 : 0 ≤ n := Int.le_trans (hT.b hp a b hy B b0 (by omega)).1 hn
    have hh := hact'.hi hS hT hU (by omega) a b hy s0 st n0 b0 bt (hnB y n a b c hn)
    obtain ⟨_, _, k3, _, k5⟩ := hkf y a b c
    have k5' : (p 3 (kf (y / 3) / 3) + ear p (kf (y / 3)) + l (kf (y / 3)) - B) % p 0 (kf (y / 3) / 3) ≤ (p 3 (y / 3) + ear p y + l y - B) % p 0 (y / 3) := k5
    rw [k3] at k5'
    have hT5 := hp.per (i := y / 3) (by omega) (by omega)
    unfold rel at hh ⊢
    have e1 : (p 3 (y / 3) + ear p y + l y - B + n * p 0 (y / 3)) % p 0 (y / 3) = (p 3 (y / 3) + ear p y + l y - B) % p 0 (y / 3) := Int.add_mul_emod_self_right _ _ _
    have e2 := Int.mul_ediv_add_emod (p 3 (y / 3) + ear p y + l y - B + n * p 0 (y / 3)) (p 0 (y / 3))
    have e3 : 0 ≤ (p 3 (y / 3) + ear p y + l y - B + n * p 0 (y / 3)) / p 0 (y / 3) := Int.ediv_nonneg (by omega) (by omega)
    have e4 : 0 ≤ p 0 (y / 3) * ((p 3 (y / 3) + ear p y + l y - B + n * p 0 (y / 3)) / p 0 (y / 3)) := Int.mul_nonneg (by omega) e3
    omega
  -- how much each may have had
  have hcnt : ∀ s : Int, B < s → s ≤ t + 1 → ∀ y : Int, 0 ≤ y → y < 9 → SX p x y → DN p E K y s ≤ DN p E K y B + cm p l y (kf (y / 3)) (s - B) * p 7 y ∧ (acv p E e A0 y (E y s) (s - 1) → DN p E K y s < DN p E K y B + cm p l y (kf (y / 3)) (s - B) * p 7 y) := by
    intro s sB st y a b c
    have hy := (c.t ht).1
    have h6y := (hp.2.1 y a b).1
    have hby := hT.b hp a b hy s (by omega) (by omega)
    have hbB := hT.b hp a b hy B b0 (by omega)
    have hmB := hT.m a b hy b0 s (by omega) (by omega)
    obtain ⟨d0, dc⟩ := hal y a b c
    have hcost := hp.2.2 y a b hy
    have eB : DN p E K y B = E y B * p 7 y := by unfold DN; rw [hK0 y a b c]; omega
    have es : DN p E K y s = E y s * p 7 y + K y s := rfl
    have jobs : ∀ n : Int, E y B ≤ n → acv p E e A0 y n (s - 1) → n - E y B + 1 ≤ cm p l y (kf (y / 3)) (s - B) := fun n hn ha =>
      cnt hp l a b dc d0 (hlow y (E y B) (s - 1) a b c (Int.le_refl _) (by omega) (by omega) (ha.n hp hT a b hy (by omega) (by omega) hbB.1 hn)) (by
        have := ha.lo hp hT a b hy (by omega) (by omega) (by omega)
        omega)
    rw [eB, es]
    by_cases q : acv p E e A0 y (E y s) (s - 1)
    · have := jobs (E y s) hmB q
      have h1 : (E y s + 1 - E y B) * p 7 y ≤ cm p l y (kf (y / 3)) (s - B) * p 7 y := Int.mul_le_mul_of_nonneg_right (by omega) (by omega)
      rw [Int.sub_mul, Int.add_mul] at h1
      exact ⟨by omega, fun _ => by omega⟩
    · have hk : K y s = 0 := by
        rcases Int.lt_or_le 0 (K y s) with z | z
        · exfalso
          obtain ⟨k1, k2⟩ := hT.k hp a b hy s (by omega) (by omega) z
          exact q (k2.t hT a b hy (by omega) (by omega) (by omega))
        · omega
      refine ⟨?_, fun z => absurd z q⟩
      by_cases z : E y s = E y B
      · have h1 := cm_0 hp hl (j := y) (kf (y / 3)) (t := s - B) a b (by omega)
        have h2 : 0 ≤ cm p l y (kf (y / 3)) (s - B) * p 7 y := Int.mul_nonneg h1 (by omega)
        rw [hk, z]; omega
      · have h1 := (hT.a a b hy h6y s (by omega) (by omega) (show 0 ≤ E y s - 1 by omega) (by omega)).2
        have := jobs (E y s - 1) (by omega) h1
        have h1 : (E y s - E y B) * p 7 y ≤ cm p l y (kf (y / 3)) (s - B) * p 7 y := Int.mul_le_mul_of_nonneg_right (by omega) (by omega)
        rw [Int.sub_mul] at h1
        omega
  -- own chain
  obtain ⟨o1, o2, o3, o4, _⟩ := hkf x h0 h9 (Or.inl rfl)
  have ho : own p x (kf (x / 3)) := ⟨h0, h9, ht, o3, o4⟩
  obtain ⟨d0, dc⟩ := hal x h0 h9 (Or.inl rfl)
  obtain ⟨c', hu⟩ := al_u l dc
  obtain ⟨a, b, hin, hC⟩ := way (p := p) h0 h9 kf (fun y c d f g => by
    obtain ⟨_, _, k3, k4, _⟩ := hkf y c d (Or.inr f)
    exact ⟨k3, k4.elim (fun z => absurd (show y / 3 = x / 3 by rw [← z, k3]) g) id⟩)
  obtain ⟨r, hr, hrs⟩ := hall a b hin
  obtain ⟨g1, g2⟩ := fnd_ge (show fnd p l _ x = some r from hr) ho
  have hRF : ∀ s : Int, 1 ≤ s → sm (fun y => zb (riv p x y) * (cm p l y (kf (y / 3)) s * p 7 y)) 0 9 ≤ wk p l x (kf (x / 3)) s + oth p l x (Cg (gpk p x ((x / 3 + 1) % 3) a ((x / 3 + 2) % 3) b)) s := fun s s1 =>
    rv_Fn hp hl h0 h9 s1 kf _ o3 (fun y c d f g => by
      obtain ⟨k1, k2, k3, k4, _⟩ := hkf y c d (Or.inr f)
      exact ⟨k1, k2, k3, k4.elim (fun z => absurd (show y / 3 = x / 3 by rw [← z, k3]) g) id, hC y c d f g⟩)
  generalize hCC : Cg (gpk p x ((x / 3 + 1) % 3) a ((x / 3 + 2) % 3) b) = C at *
  generalize hk0 : kf (x / 3) = k at *
  have hT5 := hp.per (i := x / 3) (by omega) (by omega)
  have hn1 := hT.b hp h0 h9 ht B b0 (by omega)
  have hmB := hEm B b0 bt
  have hfirst := hlow x (E x B) t h0 h9 (Or.inl rfl) (Int.le_refl _) t0 (Int.le_refl _) (hact.n hp hT h0 h9 ht t0 (by omega) hn1.1 hmB)
  rw [hk0] at hfirst
  generalize hd : (p 3 (x / 3) + ear p k + l k - B) % p 0 (x / 3) = dl at *
  have q0 : -(E x B + c') ≤ elr p l x k := by
    unfold elr
    refine Int.le_ediv_of_mul_le (by omega) ?_
    unfold rel at hfirst
    rw [Int.neg_mul, Int.add_mul, Int.mul_comm c']
    omega
  have hQ : p 0 (x / 3) * (m + c' + elr p l x k - elr p l x k) = p 0 (x / 3) * m + p 0 (x / 3) * c' := by
    rw [show m + c' + elr p l x k - elr p l x k = m + c' by omega, Int.mul_add]
  -- its turn is looked at
  have hlt : m + c' + elr p l x k < cm p l x k (bz p l C x k) := by
    rcases Int.lt_or_le (m + c' + elr p l x k) (cm p l x k (bz p l C x k)) with z | z
    · exact z
    exfalso
    rcases lfp_s (Fn p l C x k (-1)) with ⟨w, _⟩ | ⟨w1, w2, w3, _⟩
    · exact g1 w
    have ew : lfp (Fn p l C x k (-1)) = bz p l C x k := rfl
    rw [ew] at w1 w2 w3
    generalize bz p l C x k = w at *
    have hcl : p 0 (x / 3) * ((w - phi p l x k + p 0 (x / 3) - 1) / p 0 (x / 3)) ≥ w - phi p l x k := by
      have e1 := Int.mul_ediv_add_emod (w - phi p l x k + p 0 (x / 3) - 1) (p 0 (x / 3))
      have e2 := Int.emod_lt_of_pos (w - phi p l x k + p 0 (x / 3) - 1) (show 0 < p 0 (x / 3) by omega)
      omega
    have hcm : cm p l x k w = elr p l x k + (w - phi p l x k + p 0 (x / 3) - 1) / p 0 (x / 3) := rfl
    have h5 : p 0 (x / 3) * ((w - phi p l x k + p 0 (x / 3) - 1) / p 0 (x / 3)) ≤ p 0 (x / 3) * (m + c') := Int.mul_le_mul_of_nonneg_left (by omega) (by omega)
    rw [Int.mul_add] at h5
    have hlate : ∀ s : Int, 0 ≤ s → s ≤ t → acv p E e A0 x m s → B + w ≤ s := fun s s0 st ha => by
      have := ha.lo hp hT h0 h9 ht s0 (by omega) (by omega)
      unfold rel at this
      rw [Int.mul_comm m] at this
      omega
    have hwt := hlate t t0 (Int.le_refl _) hact
    have good : ∀ y : Int, 0 ≤ y → y < 9 → SX p x y → ¬ acv p E e A0 y (E y (B + w)) (B + w - 1) := by
      intro y a1 b1 c1 d1
      have hs := TR.sum (E := E) (K := K) hp h0 h9 (hW (B + w) (by omega) (by omega)) (fun y => cm p l y (kf (y / 3)) (B + w - B) * p 7 y) (fun y a b c => (hcnt (B + w) (by omega) (by omega) y a b c).1)
      have hs2 := hs.2 ⟨y, a1, b1, c1, (hcnt (B + w) (by omega) (by omega) y a1 b1 c1).2 d1⟩
      have hr2 := hRF w w1
      rw [show B + w - B = w by omega, hk0] at hs2
      unfold Fn at w3
      rw [if_pos rfl] at w3
      have hs3 : w < cm p l x k w * p 7 x + sm (fun y => zb (riv p x y) * (cm p l y (kf (y / 3)) w * p 7 y)) 0 9 := hs2
      omega
    have := hmax (B + w) ⟨by omega, by omega, Or.inr ⟨fun q => by
      have := hlate (B + w - 1) (by omega) (by omega) q
      omega, good⟩⟩
    omega
  obtain ⟨g3, g4⟩ := g2 (m + c' + elr p l x k) (by omega) hlt
  -- its end
  have hend : t + 1 - B ≤ lfp (Fn p l C x k (m + c' + elr p l x k + 1)) := by
    rcases lfp_s (Fn p l C x k (m + c' + elr p l x k + 1)) with ⟨w, _⟩ | ⟨w1, w2, w3, _⟩
    · exact absurd w g3
    generalize lfp (Fn p l C x k (m + c' + elr p l x k + 1)) = w at *
    rcases Int.lt_or_le w (t + 1 - B) with z | z
    · exfalso
      have hs := (TR.sum (E := E) (K := K) hp h0 h9 (hW (B + w) (by omega) (by omega)) (fun y => @ite _ (y = x) (Classical.propDecidable _) ((m + c' + elr p l x k + 1) * p 7 x - 1) (cm p l y (kf (y / 3)) (B + w - B) * p 7 y)) (fun y a b c => by
        show _ ≤ _ + @ite _ (y = x) (Classical.propDecidable _) ((m + c' + elr p l x k + 1) * p 7 x - 1) (cm p l y (kf (y / 3)) (B + w - B) * p 7 y)
        by_cases q : y = x
        · rw [if_pos q, q]
          have h1 := hT.dm hp h0 h9 ht (t := B + w) (by omega) t (by omega) (by omega)
          have h2 : DN p E K x t = m * p 7 x + K x t := by rw [← hm]; rfl
          have h3 : DN p E K x B = E x B * p 7 x := by unfold DN; rw [hK0 x h0 h9 (Or.inl rfl)]; omega
          have h4 : (m - E x B) * p 7 x ≤ (m + c' + elr p l x k) * p 7 x := Int.mul_le_mul_of_nonneg_right (by omega) (by omega)
          rw [Int.sub_mul] at h4
          have h5 : (m + c' + elr p l x k + 1) * p 7 x = (m + c' + elr p l x k) * p 7 x + 1 * p 7 x := Int.add_mul _ _ _
          omega
        · rw [if_neg q]
          exact (hcnt (B + w) (by omega) (by omega) y a b c).1)).1
      have e1 : sm (fun y => zb (riv p x y) * @ite _ (y = x) (Classical.propDecidable _) ((m + c' + elr p l x k + 1) * p 7 x - 1) (cm p l y (kf (y / 3)) (B + w - B) * p 7 y)) 0 9 = sm (fun y => zb (riv p x y) * (cm p l y (kf (y / 3)) w * p 7 y)) 0 9 := sm_c 9 (fun y a b => by
        by_cases q : riv p x y
        · rw [if_neg (show ¬ y = x from q.2.1), show B + w - B = w by omega]
        · rw [zb_f q]; omega)
      have hs2 : B + w - B ≤ @ite _ (x = x) (Classical.propDecidable _) ((m + c' + elr p l x k + 1) * p 7 x - 1) (cm p l x (kf (x / 3)) (B + w - B) * p 7 x) + sm (fun y => zb (riv p x y) * @ite _ (y = x) (Classical.propDecidable _) ((m + c' + elr p l x k + 1) * p 7 x - 1) (cm p l y (kf (y / 3)) (B + w - B) * p 7 y)) 0 9 := hs
      rw [if_pos rfl, e1] at hs2
      have hr2 := hRF w w1
      unfold Fn at w3
      rw [if_neg (by omega)] at w3
      omega
    · exact z
  unfold fv at g4
  rw [hQ] at g4
  unfold rel
  rw [Int.mul_comm m]
  omega
theorem TR.ub (hS : STD p l) (hT : TR p H E K e A0 ex) : ∀ t : Int, 0 ≤ t → t ≤ H → UB p l E e t := by
  refine ind_up (P := fun t => UB p l E e t) (fun y n h0 h9 ht n0 hn => ?_) (fun t a b ih y n h0 h9 ht n0 hn => ?_)
  · have := hT.1 y h0 h9 ht
    omega
  · rcases hT.2.1 t y a b h0 h9 ht with h | h | h
    · exact ih y n h0 h9 ht n0 (by omega)
    · by_cases q : n = E y t
      · have := hT.main hS h0 h9 ht a b ih h.1 h.2.1
        rw [q, h.2.2.2.2]
        exact this
      · exact ih y n h0 h9 ht n0 (by omega)
    · exact ih y n h0 h9 ht n0 (by omega)
end ZM5
