section ZR4
variable {σ : zS}
theorem sm_i {f : Int → Int} {x v : Int} (h0 : 0 ≤ x) : ∀ n : Nat, x < n → sm (fun y => if y = x then f x + v else f y) 0 n = sm f 0 n + v
  | 0, h => by omega
  | n + 1, h => by
    show sm _ 0 n + _ = sm f 0 n + f (0 + n) + v
    by_cases q : x < n
    · rw [sm_i h0 n q]
      show _ + (if (0 + (n : Int)) = x then f x + v else f (0 + n)) = _
      rw [if_neg (by omega)]
      omega
    · have e : sm (fun y => if y = x then f x + v else f y) 0 n = sm f 0 n := sm_c n (fun i a c => by
        show (if i = x then f x + v else f i) = f i
        rw [if_neg (by omega)])
      rw [e]
      show _ + (if (0 + (n : Int)) = x then f x + v else f (0 + n)) = _
      rw [if_pos (by omega), show (0 : Int) + n = x by omega]
      omega
/-- what a run tells -/
def GN (g : zS) (w : Nat) (n : Nat) : Prop := (∀ t : Int, n ≤ t → t < 300 → g.1 (41 + w) t = -1) ∧ (∀ t : Int, 0 ≤ t → t < 300 → -1 ≤ g.1 (41 + w) t ∧ g.1 (41 + w) t < 9) ∧ g.1 39 w = sm (fun t => zb (g.1 (41 + w) t = -1)) 0 n
def GS (g : zS) : Prop := g.1 38 1 = sm (fun x => g.1 45 x) 0 9
theorem GS.tick {p : zP} {g : zS} {x t : Int} (h0 : 0 ≤ x) (h9 : x < 9) (h : GS g) : GS (tk p g x t) := by
  unfold tk
  split
  · unfold GS
    rw [zu_nc (by omega), zu_nc (by omega)]
    exact h
  · unfold GS
    rw [tkE_38, if_pos rfl, zu_nc (by omega), h]
    have e : (fun y => (tkE p (zu g 46 x (g.1 46 x + 1)) x t).1 45 y) = fun y => if y = x then g.1 45 x + 1 else g.1 45 y := by
      funext y
      rw [tkE_45, zu_nc (by omega)]
    rw [e, sm_i h0 9 (by omega)]
theorem GS.nod {p : zP} {g : zS} {w : Nat} {t : Int} (hw : w < 2) (h : GS g) : GS (ntk p g w t) := by
  have e41 : 41 + ((w : Nat) : Int).toNat = 41 + w := by omega
  unfold ntk
  rw [e41]
  by_cases q : ug p g w t 9 = -1
  · rw [if_pos q]
    unfold GS
    rw [zu_nc (by omega), zu_nc (by omega), zu_nc (by omega), zu_nc (by omega)]
    exact h
  · rw [if_neg q]
    rcases ug_r (p := p) (s := g) (node := w) (t := t) 9 with q | ⟨q1, q2, q3, q4, q5⟩
    · exact absurd q ‹_›
    · refine GS.tick q1 q2 ?_
      unfold GS
      rw [zu_nc (by omega), zu_nc (by omega)]
      exact h
theorem ntk_d {p : zP} {g : zS} {w : Nat} {t : Int} (hw : w < 2) : (ntk p g w t).1 (41 + w) = (zu g (41 + w) t (ug p g w t 9)).1 (41 + w) := by
  have e41 : 41 + ((w : Nat) : Int).toNat = 41 + w := by omega
  unfold ntk
  rw [e41]
  by_cases q : ug p g w t 9 = -1
  · rw [if_pos q, zu_nc (by omega), q]
  · rw [if_neg q]
    rcases ug_r (p := p) (s := g) (node := w) (t := t) 9 with q | ⟨q1, q2, q3, q4, q5⟩
    · exact absurd q ‹_›
    · rw [tk_o q1 q2 (by omega)]
theorem ntk_e {p : zP} {g : zS} {w v : Nat} {t : Int} (hw : w < 2) (hv : v < 2) (hn : v ≠ w) : (ntk p g w t).1 (41 + v) = g.1 (41 + v) ∧ (ntk p g w t).1 39 v = g.1 39 v := by
  have e41 : 41 + ((w : Nat) : Int).toNat = 41 + w := by omega
  unfold ntk
  rw [e41]
  by_cases q : ug p g w t 9 = -1
  · rw [if_pos q, zu_nc (by omega), zu_nc (by omega), zu_ne (by omega), zu_nc (by omega)]
    exact ⟨rfl, rfl⟩
  · rw [if_neg q]
    rcases ug_r (p := p) (s := g) (node := w) (t := t) 9 with q | ⟨q1, q2, q3, q4, q5⟩
    · exact absurd q ‹_›
    · rw [tk_o q1 q2 (by omega), tk_o q1 q2 (by omega), zu_nc (by omega), zu_nc (by omega)]
      exact ⟨rfl, rfl⟩
theorem ntk_i {p : zP} {g : zS} {w : Nat} {t : Int} (hw : w < 2) : (ntk p g w t).1 39 w = g.1 39 w + zb (ug p g w t 9 = -1) := by
  have e41 : 41 + ((w : Nat) : Int).toNat = 41 + w := by omega
  unfold ntk
  rw [e41]
  by_cases q : ug p g w t 9 = -1
  · rw [if_pos q, zu_eq, zu_nc (by omega), zb_t q]
  · rw [if_neg q, zb_f q]
    rcases ug_r (p := p) (s := g) (node := w) (t := t) 9 with q | ⟨q1, q2, q3, q4, q5⟩
    · exact absurd q ‹_›
    · rw [tk_o q1 q2 (by omega), zu_nc (by omega), Int.add_zero]
theorem ntk_h {p : zP} {g : zS} {w : Nat} {t : Int} (hw : w < 2) : (ntk p g w t).1 38 0 = g.1 38 0 := by
  have e41 : 41 + ((w : Nat) : Int).toNat = 41 + w := by omega
  unfold ntk
  rw [e41]
  by_cases q : ug p g w t 9 = -1
  · rw [if_pos q, zu_nc (by omega), zu_nc (by omega)]
  · rw [if_neg q]
    unfold tk
    split
    · rw [zu_nc (by omega), zu_nc (by omega)]
    · rw [tkE_38, if_neg (by omega), zu_nc (by omega), zu_nc (by omega)]
theorem GN.same {p : zP} {g : zS} {w n : Nat} (hw : w < 2) (hn : n < 300) (h : GN g w n) : GN (ntk p g w n) w (n + 1) := by
  obtain ⟨h1, h2, h3⟩ := h
  have hu := ug_r (p := p) (s := g) (node := w) (t := n) 9
  refine ⟨fun t a c => ?_, fun t a c => ?_, ?_⟩
  · rw [ntk_d hw, zu_ne (by omega)]; exact h1 t (by omega) c
  · rw [ntk_d hw]
    by_cases q : t = n
    · rw [q, zu_eq]; omega
    · rw [zu_ne q]; exact h2 t a c
  · rw [ntk_i hw, h3]
    show _ = sm (fun t => zb ((ntk p g w n).1 (41 + w) t = -1)) 0 n + zb ((ntk p g w n).1 (41 + w) (0 + n) = -1)
    rw [ntk_d hw, show (0 : Int) + n = n by omega, zu_eq]
    congr 1
    exact sm_c n (fun i a c => by rw [zu_ne (by omega)])
theorem GN.other {p : zP} {g : zS} {w v n : Nat} {t : Int} (hw : w < 2) (hv : v < 2) (hn : v ≠ w) (h : GN g v n) : GN (ntk p g w t) v n := by
  unfold GN
  rw [(ntk_e hw hv hn).1, (ntk_e hw hv hn).2]
  exact h
theorem rst_g {p : zP} {h : Int} {w : Nat} (hw : w < 2) : GN (rst p h σ) w 0 := by
  have e : (rst p h σ).1 (41 + w) = (clr σ).1 (41 + w) := by
    unfold rst
    rw [zu_nc (by omega), zu_nc (by omega), zu_nc (by omega), zu_nc (by omega)]
  have e1 : ∀ t : Int, 0 ≤ t → t < 300 → (clr σ).1 (41 + w) t = -1 := fun t a c => by
    unfold clr
    rw [zf_nc (by omega), zf_nc (by omega), zf_nc (by omega), zf_nc (by omega)]
    rcases (show w = 0 ∨ w = 1 by omega) with rfl | rfl
    · rw [zf_nc (by omega), zf_in a c]
    · rw [zf_in a c]
  refine ⟨fun t a c => by rw [e, e1 t a c], fun t a c => by rw [e, e1 t a c]; omega, ?_⟩
  show _ = 0
  unfold rst
  rw [zu_nc (by omega), zu_nc (by omega), zu_nc (by omega), zu_nc (by omega)]
  unfold clr
  rw [zf_nc (by omega), zf_nc (by omega), zf_nc (by omega), zf_nc (by omega), zf_nc (by omega), zf_nc (by omega), zf_in (by omega) (by omega)]
theorem rst_s {p : zP} {h : Int} : GS (rst p h σ) := by
  unfold GS
  have e : ∀ x : Int, 0 ≤ x → x < 9 → (rst p h σ).1 45 x = 0 := fun x a c => by
    unfold rst
    rw [zu_nc (by omega), zu_nc (by omega), zu_nc (by omega), zu_nc (by omega)]
    unfold clr
    rw [zf_nc (by omega), zf_in a c]
  rw [show sm (fun x => (rst p h σ).1 45 x) 0 9 = sm (fun _ => 0) 0 9 from sm_c 9 (fun i a c => e i a (by omega))]
  show _ = 0
  unfold rst
  rw [zu_nc (by omega), zu_nc (by omega), zu_nc (by omega), zu_ne (by omega)]
  unfold clr
  rw [zf_nc (by omega), zf_nc (by omega), zf_nc (by omega), zf_nc (by omega), zf_nc (by omega), zf_nc (by omega), zf_nc (by omega), zu_eq]
theorem rnN_g {p : zP} {h : Int} : ∀ n : Nat, n ≤ 300 → GN (rnN p (rst p h σ) n) 0 n ∧ GN (rnN p (rst p h σ) n) 1 n ∧ GS (rnN p (rst p h σ) n) ∧ (rnN p (rst p h σ) n).1 38 0 = h
  | 0, _ => ⟨rst_g (by omega), rst_g (by omega), rst_s, by
    show (rst p h σ).1 38 0 = h
    unfold rst
    rw [zu_nc (by omega), zu_nc (by omega), zu_nc (by omega), zu_eq]⟩
  | n + 1, hn => by
    obtain ⟨h1, h2, h3, h4⟩ := rnN_g (p := p) (h := h) n (by omega)
    have a1 : GN (ntk p (rnN p (rst p h σ) n) ((0 : Nat) : Int) n) 0 (n + 1) := h1.same (by omega) (by omega)
    have a2 : GN (ntk p (rnN p (rst p h σ) n) ((0 : Nat) : Int) n) 1 n := h2.other (by omega) (by omega) (by omega)
    have a3 : GS (ntk p (rnN p (rst p h σ) n) ((0 : Nat) : Int) n) := h3.nod (by omega)
    have b1 : GN (ntk p (ntk p (rnN p (rst p h σ) n) ((0 : Nat) : Int) n) ((1 : Nat) : Int) n) 0 (n + 1) := a1.other (by omega) (by omega) (by omega)
    have b2 : GN (ntk p (ntk p (rnN p (rst p h σ) n) ((0 : Nat) : Int) n) ((1 : Nat) : Int) n) 1 (n + 1) := a2.same (by omega) (by omega)
    have b3 : GS (ntk p (ntk p (rnN p (rst p h σ) n) ((0 : Nat) : Int) n) ((1 : Nat) : Int) n) := a3.nod (by omega)
    refine ⟨b1, b2, b3, ?_⟩
    exact ((ntk_h (w := 1) (by omega)).trans (ntk_h (w := 0) (by omega))).trans h4
/-- a tick of both nodes, in the model's rows -/
noncomputable def mt1 (p : zP) (g : zS) (m t : Int) (u : zS) : zS := if m = -1 then u else mtk p m (g.1 45 m) t u
theorem MRa.both {p : zP} (hp : WP p) {g u : zS} {t : Int} (h : MRa p g u t) (t0 : 0 ≤ t) : MRa p (tka p g t) (mt1 p g (ug p g 1 t 9) t (mt1 p g (ug p g 0 t 9) t u)) (t + 1) := by
  have hup : ∀ {g' u' : zS}, MRa p g' u' t → MRa p g' u' (t + 1) := fun k => by
    obtain ⟨h1, h2, h3, h4, h5, h6, h7, h8, h9⟩ := k
    exact ⟨h1, h2, h3, h4, h5, h6, h7, h8, fun x n a b c d e => ⟨(h9 x n a b c d e).1, by have := (h9 x n a b c d e).2; omega⟩⟩
  have k0 : MRa p (ntk p g 0 t) (mt1 p g (ug p g 0 t 9) t u) (t + 1) := by
    unfold ntk mt1
    by_cases q : ug p g 0 t 9 = -1
    · rw [if_pos q, if_pos q]
      exact hup ((h.did (Or.inr (Or.inl rfl))).did (Or.inl rfl))
    · rw [if_neg q, if_neg q]
      rcases ug_r (p := p) (s := g) (node := 0) (t := t) 9 with z | ⟨q1, q2, q3, q4, q5⟩
      · exact absurd z q
      · have := MRa.tick hp (h.did (u := t) (v := ug p g 0 t 9) (Or.inr (Or.inl rfl))) (by omega) t0 q1 q2 q3 ((rd_did (Or.inl rfl)).mpr q5)
        rw [zu_nc (by omega : (45 : Nat) ≠ 41)] at this
        exact this
  have hu : ug p (ntk p g 0 t) 1 t 9 = ug p g 1 t 9 := ug_ntk hp 9 (by omega)
  have e45 : ∀ m : Int, 0 ≤ m → p 6 m = 1 → (ntk p g 0 t).1 45 m = g.1 45 m := fun m m0 hm => by
    unfold ntk
    by_cases q : ug p g 0 t 9 = -1
    · rw [if_pos q, zu_nc (by omega), zu_nc (by omega)]
    · rw [if_neg q]
      rcases ug_r (p := p) (s := g) (node := 0) (t := t) 9 with z | ⟨q1, q2, q3, q4, q5⟩
      · exact absurd z q
      · unfold tk
        split
        · rw [zu_nc (by omega), zu_nc (by omega)]
        · rw [tkE_45, if_neg (fun e => by rw [e] at hm; omega), zu_nc (by omega), zu_nc (by omega)]
  generalize hg1 : ntk p g 0 t = g1 at k0 hu e45
  generalize mt1 p g (ug p g 0 t 9) t u = u1 at k0
  unfold tka
  rw [hg1]
  unfold ntk mt1
  rw [hu]
  by_cases q : ug p g 1 t 9 = -1
  · rw [if_pos q, if_pos q]
    exact (k0.did (Or.inr (Or.inr rfl))).did (Or.inl rfl)
  · rw [if_neg q, if_neg q]
    rcases ug_r (p := p) (s := g1) (node := 1) (t := t) 9 with z | ⟨q1, q2, q3, q4, q5⟩
    · exact absurd (hu.symm.trans z) q
    · rw [hu] at q1 q2 q3 q4 q5
      have := MRa.tick hp (k0.did (u := t) (v := ug p g 1 t 9) (Or.inr (Or.inr rfl))) (Int.le_refl _) t0 q1 q2 q3 ((rd_did (Or.inr rfl)).mpr q5)
      rw [zu_nc (by omega : (45 : Nat) ≠ 42), e45 _ q1 q4] at this
      exact this
def zFr (σ t : zS) : Prop := t.2 = σ.2 ∧ ∀ c : Nat, (c < 88 ∨ 92 < c) → t.1 c = σ.1 c
theorem zFr.up {σ t : zS} {c : Nat} {i v : Int} (h : zFr σ t) (h0 : 88 ≤ c) (h1 : c ≤ 92) : zFr σ (zu t c i v) := ⟨h.1, fun e q => by rw [zu_nc (by omega)]; exact h.2 e q⟩
theorem zFr.mp {σ t : zS} (h : zFr σ t) : mP t = mP σ := mP_c (fun c a e => h.2 c (by omega))
def BGn (p : zP) (s : zS) (y n : Int) : Prop := (y % 3 = 0 → th p y → s.1 88 (64 * y + n) = rmx p (y / 3) n.toNat) ∧ (¬ (y % 3 = 0 ∧ th p y) → s.1 88 (64 * y + n) = -1) ∧ s.1 89 (64 * y + n) = 0
def BGx (p : zP) (s : zS) (y : Int) : Prop := s.1 90 y = -1 ∧ s.1 91 y = -1 ∧ s.1 92 y = 0
def BG (p : zP) (s : zS) (x : Int) : Prop := ∀ y : Int, 0 ≤ y → y < x → BGx p s y ∧ ∀ n : Int, 0 ≤ n → n < 64 → BGn p s y n
end ZR4
