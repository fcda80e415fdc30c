section ZR4
variable {σ : zS}
theorem sm_i {f : Int → Int} {x v : Int} (h0 : 0 ≤ x) : ∀ n : Nat, x < n → sm (fun y => if y = x then f x + v else f y) 0 n = sm f 0 n + v
  | 0, h => by omega
  | n + 1, h => by
    show sm _ 0 n + _ = sm f 0 n + f (0 + n) + v
    by_cases q : x < n
    · rw [sm_i h0 n q]
      show _ + (if (0 + (n : Int)) = x then f x + v else f (0 + n)) = _
      rw [if_neg (by omega)]
      omega
    · have e : sm (fun y => if y = x then f x + v else f y) 0 n = sm f 0 n := sm_c n (fun i a c => by
        show (if i = x then f x + v else f i) = f i
        rw [if_neg (by omega)])
      rw [e]
      show _ + (if (0 + (n : Int)) = x then f x + v else f (0 + n)) = _
      rw [if_pos (by omega), show (0 : Int) + n = x by omega]
      omega
/-- what a run tells -/
def GN (g : zS) (w : Nat) (n : Nat) : Prop := (∀ t : Int, n ≤ t → t < 300 → g.1 (41 + w) t = -1) ∧ (∀ t : Int, 0 ≤ t → t < 300 → -1 ≤ g.1 (41 + w) t ∧ g.1 (41 + w) t < 9) ∧ g.1 39 w = sm (fun t => zb (g.1 (41 + w) t = -1)) 0 n
def GS (g : zS) : Prop := g.1 38 1 = sm (fun x => g.1 45 x) 0 9
theorem GS.tick {p : zP} {g : zS} {x t : Int} (h0 : 0 ≤ x) (h9 : x < 9) (h : GS g) : GS (tk p g x t) := by
  unfold tk
  split
  · unfold GS
    rw [zu_nc (by omega), zu_nc (by omega)]
    exact h
  · unfold GS
    rw [tkE_38, if_pos rfl, zu_nc (by omega), h]
    have e : (fun y => (tkE p (zu g 46 x (g.1 46 x + 1)) x t).1 45 y) = fun y => if y = x then g.1 45 x + 1 else g.1 45 y := by
      funext y
      rw [tkE_45, zu_nc (by omega)]
    rw [e, sm_i h0 9 (by omega)]
theorem GS.nod {p : zP} {g : zS} {w : Nat} {t : Int} (hw : w < 2) (h : GS g) : GS (ntk p g w t) := by
  have e41 : 41 + ((w : Nat) : Int).toNat = 41 + w := by omega
  unfold ntk
  rw [e41]
  by_cases q : ug p g w t 9 = -1
  · rw [if_pos q]
    unfold GS
    rw [zu_nc (by omega), zu_nc (by omega), zu_nc (by omega), zu_nc (by omega)]
    exact h
  · rw [if_neg q]
    rcases ug_r (p := p) (s := g) (node := w) (t := t) 9 with q | ⟨q1, q2, q3, q4, q5⟩
    · exact absurd q ‹_›
    · refine GS.tick q1 q2 ?_
      unfold GS
      rw [zu_nc (by omega), zu_nc (by omega)]
      exact h
theorem ntk_d {p : zP} {g : zS} {w : Nat} {t : Int} (hw : w < 2) : (ntk p g w t).1 (41 + w) = (zu g (41 + w) t (ug p g w t 9)).1 (41 + w) := by
  have e41 : 41 + ((w : Nat) : Int).toNat = 41 + w := by omega
  unfold ntk
  rw [e41]
  by_cases q : ug p g w t 9 = -1
  · rw [if_pos q, zu_nc (by omega), q]
  · rw [if_neg q]
    rcases ug_r (p := p) (s := g) (node := w) (t := t) 9 with q | ⟨q1, q2, q3, q4, q5⟩
    · exact absurd q ‹_›
    · rw [tk_o q1 q2 (by omega)]
theorem ntk_e {p : zP} {g : zS} {w v : Nat} {t : Int} (hw : w < 2) (hv : v < 2) (hn : v ≠ w) : (ntk p g w t).1 (41 + v) = g.1 (41 + v) ∧ (ntk p g w t).1 39 v = g.1 39 v := by
  have e41 : 41 + ((w : Nat) : Int).toNat = 41 + w := by omega
  unfold ntk
  rw [e41]
  by_cases q : ug p g w t 9 = -1
  · rw [if_pos q, zu_nc (by omega), zu_nc (by omega), zu_ne (by omega), zu_nc (by omega)]
    exact ⟨rfl, rfl⟩
  · rw [if_neg q]
    rcases ug_r (p := p) (s := g) (node := w) (t := t) 9 with q | ⟨q1, q2, q3, q4, q5⟩
    · exact absurd q ‹_›
    · rw [tk_o q1 q2 (by omega), tk_o q1 q2 (by omega), zu_nc (by omega), zu_nc (by omega)]
      exact ⟨rfl, rfl⟩
theorem ntk_i {p : zP} {g : zS} {w : Nat} {t : Int} (hw : w < 2) : (ntk p g w t).1 39 w = g.1 39 w + zb (ug p g w t 9 = -1) := by
  have e41 : 41 + ((w : Nat) : Int).toNat = 41 + w := by omega
  unfold ntk
  rw [e41]
  by_cases q : ug p g w t 9 = -1
  · rw [if_pos q, zu_eq, zu_nc (by omega), zb_t q]
  · rw [if_neg q, zb_f q]
    rcases ug_r (p := p) (s := g) (node := w) (t := t) 9 with q | ⟨q1, q2, q3, q4, q5⟩
    · exact absurd q ‹_›
    · rw [tk_o q1 q2 (by omega), zu_nc (by omega), Int.add_zero]
theorem ntk_h {p : zP} {g : zS} {w : Nat} {t : Int} (hw : w < 2) : (ntk p g w t).1 38 0 = g.1 38 0 := by
  have e41 : 41 + ((w : Nat) : Int).toNat = 41 + w := by omega
  unfold ntk
  rw [e41]
  by_cases q : ug p g w t 9 = -1
  · rw [if_pos q, zu_nc (by omega), zu_nc (by omega)]
  · rw [if_neg q]
    unfold tk
    split
    · rw [zu_nc (by omega), zu_nc (by omega)]
    · rw [tkE_38, if_neg (by omega), zu_nc (by omega), zu_nc (by omega)]
theorem GN.same {p : zP} {g : zS} {w n : Nat} (hw : w < 2) (hn : n < 300) (h : GN g w n) : GN (ntk p g w n) w (n + 1) := by
  obtain ⟨h1, h2, h3⟩ := h
  have hu := ug_r (p := p) (s := g) (node := w) (t := n) 9
  refine ⟨fun t a c => ?_, fun t a c => ?_, ?_⟩
  · rw [ntk_d hw, zu_ne (by omega)]; exact h1 t (by omega) c
  · rw [ntk_d hw]
    by_cases q : t = n
    · rw [q, zu_eq]; omega
    · rw [zu_ne q]; exact h2 t a c
  · rw [ntk_i hw, h3]
    show _ = sm (fun t => zb ((ntk p g w n).1 (41 + w) t = -1)) 0 n + zb ((ntk p g w n).1 (41 + w) (0 + n) = -1)
    rw [ntk_d hw, show (0 : Int) + n = n by omega, zu_eq]
    congr 1
    exact sm_c n (fun i a c => by rw [zu_ne (by omega)])
theorem GN.other {p : zP} {g : zS} {w v n : Nat} {t : Int} (hw : w < 2) (hv : v < 2) (hn : v ≠ w) (h : GN g v n) : GN (ntk p g w t) v n := by
  unfold GN
  rw [(ntk_e hw hv hn).1, (ntk_e hw hv hn).2]
  exact h
theorem rst_g {p : zP} {h : Int} {w : Nat} (hw : w < 2) : GN (rst p h σ) w 0 := by
  have e : (rst p h σ).1 (41 + w) = (clr σ).1 (41 + w) := by
    unfold rst
    rw [zu_nc (by omega), zu_nc (by omega), zu_nc (by omega), zu_nc (by omega)]
  have e1 : ∀ t : Int, 0 ≤ t → t < 300 → (clr σ).1 (41 + w) t = -1 := fun t a c => by
    unfold clr
    rw [zf_nc (by omega), zf_nc (by omega), zf_nc (by omega), zf_nc (by omega)]
    rcases (show w = 0 ∨ w = 1 by omega) with rfl | rfl
    · rw [zf_nc (by omega), zf_in a c]
    · rw [zf_in a c]
  refine ⟨fun t a c => by rw [e, e1 t a c], fun t a c => by rw [e, e1 t a c]; omega, ?_⟩
  show _ = 0
  unfold rst
  rw [zu_nc (by omega), zu_nc (by omega), zu_nc (by omega), zu_nc (by omega)]
  unfold clr
  rw [zf_nc (by omega), zf_nc (by omega), zf_nc (by omega), zf_nc (by omega), zf_nc (by omega), zf_nc (by omega), zf_in (by omega) (by omega)]
theorem rst_s {p : zP} {h : Int} : GS (rst p h σ) := by
  unfold GS
  have e : ∀ x : Int, 0 ≤ x → x < 9 → (rst p h σ).1 45 x = 0 := fun x a c => by
    unfold rst
    rw [zu_nc (by omega), zu_nc (by omega), zu_nc (by omega), zu_nc (by omega)]
    unfold clr
    rw [zf_nc (by omega), zf_in a c]
  rw [show sm (fun x => (rst p h σ).1 45 x) 0 9 = sm (fun _ => 0) 0 9 from sm_c 9 (fun i a c => e i a (by omega))]
  show _ = 0
  unfold rst
  rw [zu_nc (by omega), zu_nc (by omega), zu_nc (by omega), zu_ne (by omega)]
  unfold clr
  rw [zf_nc (by omega), zf_nc (by omega), zf_nc (by omega), zf_nc (by omega), zf_nc (by omega), zf_nc (by omega), zf_nc (by omega), zu_eq]
theorem rnN_g {p : zP} {h : Int} : ∀ n : Nat, n ≤ 300 → GN (rnN p (rst p h σ) n) 0 n ∧ GN (rnN p (rst p h σ) n) 1 n ∧ GS (rnN p (rst p h σ) n) ∧ (rnN p (rst p h σ) n).1 38 0 = h
  | 0, _ => ⟨rst_g (by omega), rst_g (by omega), rst_s, by
    show (rst p h σ).1 38 0 = h
    unfold rst
    rw [zu_nc (by omega), zu_nc (by omega), zu_nc (by omega), zu_eq]⟩
  | n + 1, hn => by
    obtain ⟨h1, h2, h3, h4⟩ := rnN_g (p := p) (h := h) n (by omega)
    have a1 : GN (ntk p (rnN p (rst p h σ) n) ((0 : Nat) : Int) n) 0 (n + 1) := h1.same (by omega) (by omega)
    have a2 : GN (ntk p (rnN p (rst p h σ) n) ((0 : Nat) : Int) n) 1 n := h2.other (by omega) (by omega) (by omega)
    have a3 : GS (ntk p (rnN p (rst p h σ) n) ((0 : Nat) : Int) n) := h3.nod (by omega)
    have b1 : GN (ntk p (ntk p (rnN p (rst p h σ) n) ((0 : Nat) : Int) n) ((1 : Nat) : Int) n) 0 (n + 1) := a1.other (by omega) (by omega) (by omega)
    have b2 : GN (ntk p (ntk p (rnN p (rst p h σ) n) ((0 : Nat) : Int) n) ((1 : Nat) : Int) n) 1 (n + 1) := a2.same (by omega) (by omega)
    have b3 : GS (ntk p (ntk p (rnN p (rst p h σ) n) ((0 : Nat) : Int) n) ((1 : Nat) : Int) n) := a3.nod (by omega)
    refine ⟨b1, b2, b3, ?_⟩
    exact ((ntk_h (w := 1) (by omega)).trans (ntk_h (w := 0) (by omega))).trans h4
/-- a tick of both nodes, in the model's rows -/
noncomputable def mt1 (p : zP) (g : zS) (m t : Int) (u : zS) : zS := if m = -1 then u else mtk p m (g.1 45 m) t u
theorem MRa.both {p : zP} (hp : WP p) {g u : zS} {t : Int} (h : MRa p g u t) (t0 : 0 ≤ t) : MRa p (tka p g t) (mt1 p g (ug p g 1 t 9) t (mt1 p g (ug p g 0 t 9) t u)) (t + 1) := by
  have hup : ∀ {g' u' : zS}, MRa p g' u' t → MRa p g' u' (t + 1) := fun k => by
    obtain ⟨h1, h2, h3, h4, h5, h6, h7, h8, h9⟩ := k
    exact ⟨h1, h2, h3, h4, h5, h6, h7, h8, fun x n a b c d e => ⟨(h9 x n a b c d e).1, by have := (h9 x n a b c d e).2; omega⟩⟩
  have k0 : MRa p (ntk p g 0 t) (mt1 p g (ug p g 0 t 9) t u) (t + 1) := by
    unfold ntk mt1
    by_cases q : ug p g 0 t 9 = -1
    · rw [if_pos q, if_pos q]
      exact hup ((h.did (Or.inr (Or.inl rfl))).did (Or.inl rfl))
    · rw [if_neg q, if_neg q]
      rcases ug_r (p := p) (s := g) (node := 0) (t := t) 9 with z | ⟨q1, q2, q3, q4, q5⟩
      · exact absurd z q
      · have := MRa.tick hp (h.did (u := t) (v := ug p g 0 t 9) (Or.inr (Or.inl rfl))) (by omega) t0 q1 q2 q3 ((rd_did (Or.inl rfl)).mpr q5)
        rw [zu_nc (by omega : (45 : Nat) ≠ 41)] at this
        exact this
  have hu : ug p (ntk p g 0 t) 1 t 9 = ug p g 1 t 9 := ug_ntk hp 9 (by omega)
  have e45 : ∀ m : Int, 0 ≤ m → p 6 m = 1 → (ntk p g 0 t).1 45 m = g.1 45 m := fun m m0 hm => by
    unfold ntk
    by_cases q : ug p g 0 t 9 = -1
    · rw [if_pos q, zu_nc (by omega), zu_nc (by omega)]
    · rw [if_neg q]
      rcases ug_r (p := p) (s := g) (node := 0) (t := t) 9 with z | ⟨q1, q2, q3, q4, q5⟩
      · exact absurd z q
      · unfold tk
        split
        · rw [zu_nc (by omega), zu_nc (by omega)]
        · rw [tkE_45, if_neg (fun e => by rw [e] at hm; omega), zu_nc (by omega), zu_nc (by omega)]
  generalize hg1 : ntk p g 0 t = g1 at k0 hu e45
  generalize mt1 p g (ug p g 0 t 9) t u = u1 at k0
  unfold tka
  rw [hg1]
  unfold ntk mt1
  rw [hu]
  by_cases q : ug p g 1 t 9 = -1
  · rw [if_pos q, if_pos q]
    exact (k0.did (Or.inr (Or.inr rfl))).did (Or.inl rfl)
  · rw [if_neg q, if_neg q]
    rcases ug_r (p := p) (s := g1) (node := 1) (t := t) 9 with z | ⟨q1, q2, q3, q4, q5⟩
    · exact absurd (hu.symm.trans z) q
    · rw [hu] at q1 q2 q3 q4 q5
      have := MRa.tick hp (k0.did (u := t) (v := ug p g 1 t 9) (Or.inr (Or.inr rfl))) (Int.le_refl _) t0 q1 q2 q3 ((rd_did (Or.inr rfl)).mpr q5)
      rw [zu_nc (by omega : (45 : Nat) ≠ 42), e45 _ q1 q4] at this
      exact this
set_option maxHeartbeats 1000000 in
theorem c_X5_releaseOf {p : zP} (ec : mP σ = p) (hp : WP p) {x n : Int} (h0 : 0 ≤ x) (h9 : x < 9) : YI 0 μX5_releaseOf [.ref 67, .int (zi x), .int (zi n)] σ (rel p (x / 3) n) σ := by
  refine YC.of2 (by decide) (Nat.le_of_ble_eq_true rfl) (fun d P hd hP => ?_)
  have e3 : σ.1 75 = p 3 := by rw [← ec]; rfl
  have e0 : σ.1 72 = p 0 := by rw [← ec]; rfl
  refine Y.aload_n dX5_releaseOf_0 rfl ?_
  refine Y.getf dX5_releaseOf_1 flX5_32 ob67 rfl ?_
  refine Y.iload_n dX5_releaseOf_4 rfl ?_
  refine Y.iconst dX5_releaseOf_5 ?_
  refine Y.idivp dX5_releaseOf_6 (by omega) (by omega) (by omega) (by omega) ?_
  refine Y.iald dX5_releaseOf_7 ia75 (by omega) (by omega) ?_
  refine Y.iload_n dX5_releaseOf_8 rfl ?_
  refine Y.aload_n dX5_releaseOf_9 rfl ?_
  refine Y.getf dX5_releaseOf_10 flX5_23 ob67 rfl ?_
  refine Y.iload_n dX5_releaseOf_13 rfl ?_
  refine Y.iconst dX5_releaseOf_14 ?_
  refine Y.idivp dX5_releaseOf_15 (by omega) (by omega) (by omega) (by omega) ?_
  refine Y.iald dX5_releaseOf_16 ia72 (by omega) (by omega) ?_
  refine Y.imul dX5_releaseOf_17 ?_
  refine Y.iadd dX5_releaseOf_18 ?_
  exact Y.iret dX5_releaseOf_19 rfl (hP _ _ ⟨zrI (by unfold rel; rw [e3, e0]), rfl⟩)
def zFr (σ t : zS) : Prop := t.2 = σ.2 ∧ ∀ c : Nat, (c < 88 ∨ 92 < c) → t.1 c = σ.1 c
theorem zFr.up {σ t : zS} {c : Nat} {i v : Int} (h : zFr σ t) (h0 : 88 ≤ c) (h1 : c ≤ 92) : zFr σ (zu t c i v) := ⟨h.1, fun e q => by rw [zu_nc (by omega)]; exact h.2 e q⟩
theorem zFr.mp {σ t : zS} (h : zFr σ t) : mP t = mP σ := mP_c (fun c a e => h.2 c (by omega))
def BGn (p : zP) (s : zS) (y n : Int) : Prop := (y % 3 = 0 → th p y → s.1 88 (64 * y + n) = rmx p (y / 3) n.toNat) ∧ (¬ (y % 3 = 0 ∧ th p y) → s.1 88 (64 * y + n) = -1) ∧ s.1 89 (64 * y + n) = 0
def BGx (p : zP) (s : zS) (y : Int) : Prop := s.1 90 y = -1 ∧ s.1 91 y = -1 ∧ s.1 92 y = 0
def BG (p : zP) (s : zS) (x : Int) : Prop := ∀ y : Int, 0 ≤ y → y < x → BGx p s y ∧ ∀ n : Int, 0 ≤ n → n < 64 → BGn p s y n
set_option maxHeartbeats 4000000 in
theorem c_X5_begins {p : zP} (ec : mP σ = p) (hp : WP p) : YC 1 μX5_begins [.ref 67] σ (fun r s => r = none ∧ zFr σ s ∧ BG p s 9) := by
  refine YC.of2 (by decide) (Nat.le_of_ble_eq_true rfl) (fun d P hd hP => ?_)
  refine Y.iconst dX5_begins_0 ?_
  refine Y.istore_n dX5_begins_1 (by decide) rfl ?_
  refine zw2 (fun t x => (0 ≤ x ∧ x ≤ 9 ∧ zFr σ t ∧ BG p t x)) (fun t x => Y d μX5_begins 2 [some (.ref 67), some (.int (zi x)), none, none, none, none] [] t P) (fun t x => (9 - x).toNat) ?_ _ _ ⟨by omega, by omega, ⟨rfl, fun _ _ => rfl⟩, fun y a c => by omega⟩
  intro t x hI ih
  obtain ⟨j1, j2, j3, j4⟩ := hI
  refine Y.iload_n dX5_begins_2 rfl ?_
  refine Y.bipush dX5_begins_3 (by decide +kernel) ?_
  refine Y.icmp_ge 140 dX5_begins_5 (by decide) (by omega) (by omega) (fun h_5 => ?_) (fun h_5 => ?_)
  · exact Y.vret dX5_begins_140 rfl (hP _ _ ⟨rfl, j3, fun y a c => j4 y a (by omega)⟩)
  · refine Y.aload_n dX5_begins_8 rfl ?_
    refine Y.getf dX5_begins_9 flX5_77 ob67 rfl ?_
    refine Y.iload_n dX5_begins_12 rfl ?_
    refine Y.iconst dX5_begins_13 ?_
    refine Y.iast dX5_begins_14 ia90 (by omega) (by omega) ?_
    refine Y.aload_n dX5_begins_15 rfl ?_
    refine Y.getf dX5_begins_16 flX5_80 ob67 rfl ?_
    refine Y.iload_n dX5_begins_19 rfl ?_
    refine Y.iconst dX5_begins_20 ?_
    refine Y.iast dX5_begins_21 ia91 (by omega) (by omega) ?_
    refine Y.aload_n dX5_begins_22 rfl ?_
    refine Y.getf dX5_begins_23 flX5_83 ob67 rfl ?_
    refine Y.iload_n dX5_begins_26 rfl ?_
    refine Y.iconst dX5_begins_27 ?_
    refine Y.iast dX5_begins_28 ia92 (by omega) (by omega) ?_
    refine Y.iconst dX5_begins_29 ?_
    refine Y.istore_n dX5_begins_30 (by decide) rfl ?_
    refine Y.iconst dX5_begins_31 ?_
    refine Y.istore_n dX5_begins_32 (by decide) rfl ?_
    refine zw3 (fun u bf n => (0 ≤ n ∧ n ≤ 64 ∧ zFr σ u ∧ BG p u x ∧ BGx p u x ∧ (∀ m : Int, 0 ≤ m → m < n → BGn p u x m) ∧ (0 ≤ bf ∧ bf ≤ 9000) ∧ (x % 3 = 0 → (n = 0 ∧ bf = 0) ∨ (0 < n ∧ bf = rmx p (x / 3) (n - 1).toNat)))) (fun u bf n => Y d μX5_begins 33 [some (.ref 67), some (.int (zi x)), some (.int (zi bf)), some (.int (zi n)), none, none] [] u P) (fun u bf n => (64 - n).toNat) ?_ _ _ _ ⟨by omega, by omega, ((j3.up (by omega) (by omega)).up (by omega) (by omega)).up (by omega) (by omega), ?_, ⟨by rw [zu_nc (by omega), zu_nc (by omega), zu_eq], by rw [zu_nc (by omega), zu_eq], by rw [zu_eq]⟩, fun m a c => by omega, by omega, fun _ => Or.inl ⟨rfl, rfl⟩⟩
    rotate_left
    · intro y a c
      obtain ⟨⟨b1, b2, b3⟩, b4⟩ := j4 y a c
      refine ⟨⟨?_, ?_, ?_⟩, fun n a2 c2 => ?_⟩
      · rw [zu_nc (by omega), zu_nc (by omega), zu_ne (by omega)]; exact b1
      · rw [zu_nc (by omega), zu_ne (by omega), zu_nc (by omega)]; exact b2
      · rw [zu_ne (by omega), zu_nc (by omega), zu_nc (by omega)]; exact b3
      · unfold BGn
        rw [zu_nc (by omega), zu_nc (by omega), zu_nc (by omega), zu_nc (by omega), zu_nc (by omega), zu_nc (by omega)]
        exact b4 n a2 c2
    intro u bf n hI2 ih2
    obtain ⟨k1, k2, k3, k4, k5, k6, k7, k8⟩ := hI2
    have ec2 := k3.mp.trans ec
    have e9 : u.1 81 = p 9 := by rw [← ec2]; rfl
    have e4 : u.1 76 = p 4 := by rw [← ec2]; rfl
    have e1 : u.1 73 = p 1 := by rw [← ec2]; rfl
    refine Y.iload_n dX5_begins_33 rfl ?_
    refine Y.bipush dX5_begins_34 (by decide +kernel) ?_
    refine Y.icmp_ge 134 dX5_begins_36 (by decide) (by omega) (by omega) (fun h_36 => ?_) (fun h_36 => ?_)
    · refine Y.iinc dX5_begins_134 rfl (by decide) rfl ?_
      refine Y.goto 2 dX5_begins_137 (by decide) ?_
      refine Y.sub (zs_s (zs_s (zs_n (zs_n (zs_n (zs_n zs_0)))))) ?_
      refine ih _ _ ⟨by omega, by omega, k3, fun y a c => ?_⟩ (by omega)
      by_cases e : y = x
      · rw [e]; exact ⟨k5, fun m a2 c2 => k6 m a2 (by omega)⟩
      · exact k4 y a (by omega)
    · have h3i := hp.1 (x / 3) (by omega) (by omega)
      have hk9 := (hp.2.1 x j1 (by omega)).2.2.2
      have hm0 := mul_b (a := 0) (b := 0) (x := n) (y := p 4 (x / 3)) (A := 64) (B := 9) k1 (by omega) (by omega) (by omega) (by omega) (by omega)
      have hm1 := mul_b (a := 0) (b := 0) (x := n) (y := p 0 (x / 3)) (A := 64) (B := 100) k1 (by omega) (by omega) (by omega) (by omega) (by omega)
      have hrl : 0 ≤ rel p (x / 3) n ∧ rel p (x / 3) n ≤ 6600 := by unfold rel; omega
      have q0 := Int.emod_nonneg (n * p 4 (x / 3)) (show p 1 (x / 3) + 1 ≠ 0 by omega)
      have q1 := Int.emod_lt_of_pos (n * p 4 (x / 3)) (show 0 < p 1 (x / 3) + 1 by omega)
      have hbf : x % 3 = 0 → max bf (rel p (x / 3) n + p 9 x + n * p 4 (x / 3) % (p 1 (x / 3) + 1)) = rmx p (x / 3) n.toNat := fun hx => by
        have er : (rel p (x / 3) n + p 9 x + n * p 4 (x / 3) % (p 1 (x / 3) + 1)) = rdy p (x / 3) n := by unfold rdy; rw [show x / 3 * 3 = x by omega]
        rcases k8 hx with ⟨z1, z2⟩ | ⟨z1, z2⟩
        · rw [er, z1, z2]
          have := rdy_n hp (i := x / 3) (n := 0) (by omega) (by omega) (by omega) (by omega)
          show max 0 (rdy p (x / 3) 0) = rdy p (x / 3) 0
          omega
        · rw [er, z2, show n = n - 1 + 1 by omega, rmx_s (by omega), show n - 1 + 1 - 1 = n - 1 by omega]
      have k115 : ∀ v : Int, ((x % 3 = 0 ∧ th p x ∧ v = max bf (rel p (x / 3) n + p 9 x + n * p 4 (x / 3) % (p 1 (x / 3) + 1))) ∨ (¬ (x % 3 = 0 ∧ th p x) ∧ v = -1)) → Y d μX5_begins 115 [some (.ref 67), some (.int (zi x)), some (.int (zi (max bf (rel p (x / 3) n + p 9 x + n * p 4 (x / 3) % (p 1 (x / 3) + 1))))), some (.int (zi n)), some (.int (zi (x / 3))), some (.int (zi (rel p (x / 3) n + p 9 x + n * p 4 (x / 3) % (p 1 (x / 3) + 1))))] [.int (zi v), .int (zi (64 * x + n)), .ref 88] u P := by
        intro v hv
        refine Y.iast dX5_begins_115 ia88 (by omega) (by omega) ?_
        refine Y.aload_n dX5_begins_116 rfl ?_
        refine Y.getf dX5_begins_117 flX5_74 ob67 rfl ?_
        refine Y.bipush dX5_begins_120 (by decide +kernel) ?_
        refine Y.iload_n dX5_begins_122 rfl ?_
        refine Y.imul dX5_begins_123 ?_
        refine Y.iload_n dX5_begins_124 rfl ?_
        refine Y.iadd dX5_begins_125 ?_
        refine Y.iconst dX5_begins_126 ?_
        refine Y.iast dX5_begins_127 ia89 (by omega) (by omega) ?_
        refine Y.iinc dX5_begins_128 rfl (by decide) rfl ?_
        refine Y.goto 33 dX5_begins_131 (by decide) ?_
        refine Y.sub (zs_s (zs_s (zs_s (zs_s (zs_n (zs_n zs_0)))))) ?_
        refine ih2 _ _ _ ⟨by omega, by omega, (k3.up (by omega) (by omega)).up (by omega) (by omega), fun y a c => ?_, ?_, fun m a c => ?_, by omega, fun hx => Or.inr ⟨by omega, by rw [hbf hx, show n + 1 - 1 = n by omega]⟩⟩ (by omega)
        · obtain ⟨b1, b4⟩ := k4 y a c
          refine ⟨?_, fun m a2 c2 => ?_⟩
          · unfold BGx
            rw [zu_nc (by omega), zu_nc (by omega), zu_nc (by omega), zu_nc (by omega), zu_nc (by omega), zu_nc (by omega)]
            exact b1
          · unfold BGn
            rw [zu_nc (by omega : (88 : Nat) ≠ 89), zu_ne (show 64 * y + m ≠ 64 * x + n by omega), zu_ne (show 64 * y + m ≠ 64 * x + n by omega), zu_nc (by omega)]
            exact b4 m a2 c2
        · unfold BGx
          rw [zu_nc (by omega), zu_nc (by omega), zu_nc (by omega), zu_nc (by omega), zu_nc (by omega), zu_nc (by omega)]
          exact k5
        · unfold BGn
          by_cases e : m = n
          · subst e
            rw [zu_nc (by omega : (88 : Nat) ≠ 89), zu_eq, zu_eq]
            rcases hv with ⟨v1, v2, v3⟩ | ⟨v1, v3⟩
            · exact ⟨fun _ _ => by rw [v3]; exact hbf v1, fun z => absurd ⟨v1, v2⟩ z, rfl⟩
            · exact ⟨fun z1 z2 => absurd ⟨z1, z2⟩ v1, fun _ => v3, rfl⟩
          · rw [zu_nc (by omega : (88 : Nat) ≠ 89), zu_ne (show 64 * x + m ≠ 64 * x + n by omega), zu_ne (show 64 * x + m ≠ 64 * x + n by omega), zu_nc (by omega)]
            exact k6 m a (by omega)
      refine Y.iload_n dX5_begins_39 rfl ?_
      refine Y.iconst dX5_begins_40 ?_
      refine Y.idivp dX5_begins_41 (by omega) (by omega) (by omega) (by omega) ?_
      refine Y.istore dX5_begins_42 (by decide) rfl ?_
      refine Y.aload_n dX5_begins_44 rfl ?_
      refine Y.iload_n dX5_begins_45 rfl ?_
      refine Y.iload_n dX5_begins_46 rfl ?_
      refine Y.cVI dX5_begins_47 mkX5_releaseOf csX5_297 ob67 ⟨_, rfl, rfl⟩ (c_X5_releaseOf ec2 hp (by omega) (by omega)) (by omega) rfl rfl (Nat.le_of_ble_eq_true rfl) ?_
      refine Y.aload_n dX5_begins_50 rfl ?_
      refine Y.getf dX5_begins_51 flX5_50 ob67 rfl ?_
      refine Y.iload_n dX5_begins_54 rfl ?_
      refine Y.iald dX5_begins_55 ia81 (by omega) (by omega) ?_
      rw [e9]
      refine Y.iadd dX5_begins_56 ?_
      refine Y.iload_n dX5_begins_57 rfl ?_
      refine Y.aload_n dX5_begins_58 rfl ?_
      refine Y.getf dX5_begins_59 flX5_35 ob67 rfl ?_
      refine Y.iload dX5_begins_62 rfl ?_
      refine Y.iald dX5_begins_64 ia76 (by omega) (by omega) ?_
      rw [e4]
      refine Y.imul dX5_begins_65 ?_
      refine Y.aload_n dX5_begins_66 rfl ?_
      refine Y.getf dX5_begins_67 flX5_26 ob67 rfl ?_
      refine Y.iload dX5_begins_70 rfl ?_
      refine Y.iald dX5_begins_72 ia73 (by omega) (by omega) ?_
      refine Y.iconst dX5_begins_73 ?_
      refine Y.iadd dX5_begins_74 ?_
      rw [e1]
      refine Y.iremp dX5_begins_75 (by omega) (by omega) (by omega) (by omega) ?_
      refine Y.iadd dX5_begins_76 ?_
      refine Y.istore dX5_begins_77 (by decide) rfl ?_
      refine Y.iload_n dX5_begins_79 rfl ?_
      refine Y.iload dX5_begins_80 rfl ?_
      refine Y.cSI dX5_begins_82 mkX5_greater csX5_198 (c_X5_greater (by omega) (by omega)) (by omega) rfl rfl (Nat.le_of_ble_eq_true rfl) ?_
      refine Y.istore_n dX5_begins_85 (by decide) rfl ?_
      refine Y.aload_n dX5_begins_86 rfl ?_
      refine Y.getf dX5_begins_87 flX5_71 ob67 rfl ?_
      refine Y.bipush dX5_begins_90 (by decide +kernel) ?_
      refine Y.iload_n dX5_begins_92 rfl ?_
      refine Y.imul dX5_begins_93 ?_
      refine Y.iload_n dX5_begins_94 rfl ?_
      refine Y.iadd dX5_begins_95 ?_
      refine Y.iload_n dX5_begins_96 rfl ?_
      refine Y.iconst dX5_begins_97 ?_
      refine Y.iremp dX5_begins_98 (by omega) (by omega) (by omega) (by omega) ?_
      refine Y.if_ne 114 dX5_begins_99 (by decide) (by omega) (fun h_99 => ?_) (fun h_99 => ?_)
      · refine Y.iconst dX5_begins_114 ?_
        first
          | exact k115 _ (Or.inl ⟨by omega, by assumption, rfl⟩)
          | exact k115 _ (Or.inr ⟨fun z => absurd z.2 (by assumption), rfl⟩)
          | exact k115 _ (Or.inr ⟨fun z => absurd z.1 (by omega), rfl⟩)
      · refine Y.aload_n dX5_begins_102 rfl ?_
        refine Y.iload_n dX5_begins_103 rfl ?_
        refine Y.cVI dX5_begins_104 mkX5_isThere csX5_160 ob67 ⟨_, rfl, rfl⟩ (k_X5_isThere ec2 hp (by omega) (by omega)) (by omega) rfl rfl (Nat.le_of_ble_eq_true rfl) ?_
        refine Y.ifz_eq 114 dX5_begins_107 (by decide) (fun h_107 => ?_) (fun h_107 => ?_)
        · refine Y.iconst dX5_begins_114 ?_
          first
            | exact k115 _ (Or.inl ⟨by omega, by assumption, rfl⟩)
            | exact k115 _ (Or.inr ⟨fun z => absurd z.2 (by assumption), rfl⟩)
            | exact k115 _ (Or.inr ⟨fun z => absurd z.1 (by omega), rfl⟩)
        · refine Y.iload_n dX5_begins_110 rfl ?_
          refine Y.goto 115 dX5_begins_111 (by decide) ?_
          first
            | exact k115 _ (Or.inl ⟨by omega, by assumption, rfl⟩)
            | exact k115 _ (Or.inr ⟨fun z => absurd z.2 (by assumption), rfl⟩)
            | exact k115 _ (Or.inr ⟨fun z => absurd z.1 (by omega), rfl⟩)
set_option maxHeartbeats 1000000 in
theorem c_X5_endedNow  : YI 0 μX5_endedNow [.ref 67] σ (sm (fun x => σ.1 92 x) 0 9) σ := by
  refine YC.of2 (by decide) (Nat.le_of_ble_eq_true rfl) (fun d P hd hP => ?_)
  refine Y.iconst dX5_endedNow_0 ?_
  refine Y.istore_n dX5_endedNow_1 (by decide) rfl ?_
  refine Y.iconst dX5_endedNow_2 ?_
  refine Y.istore_n dX5_endedNow_3 (by decide) rfl ?_
  refine zw2 (fun s x => (0 ≤ x ∧ x ≤ 9 ∧ s = sm (fun x => σ.1 92 x) 0 (x - 0).toNat)) (fun s x => Y d μX5_endedNow 4 [some (.ref 67), some (.int (zi s)), some (.int (zi x))] [] σ P) (fun s x => (9 - x).toNat) ?_ _ _ ⟨by omega, by omega, by rw [sm_0]⟩
  intro s x hI ih
  obtain ⟨i1, i2, i3⟩ := hI
  refine Y.iload_n dX5_endedNow_4 rfl ?_
  refine Y.bipush dX5_endedNow_5 (by decide +kernel) ?_
  refine Y.icmp_ge 25 dX5_endedNow_7 (by decide) (by omega) (by omega) (fun h_7 => ?_) (fun h_7 => ?_)
  · refine Y.iload_n dX5_endedNow_25 rfl ?_
    exact Y.iret dX5_endedNow_26 rfl (hP _ _ ⟨zrI (by rw [i3, show x = 9 by omega]; rfl), rfl⟩)
  · refine Y.iload_n dX5_endedNow_10 rfl ?_
    refine Y.aload_n dX5_endedNow_11 rfl ?_
    refine Y.getf dX5_endedNow_12 flX5_83 ob67 rfl ?_
    refine Y.iload_n dX5_endedNow_15 rfl ?_
    refine Y.iald dX5_endedNow_16 ia92 (by omega) (by omega) ?_
    refine Y.iadd dX5_endedNow_17 ?_
    refine Y.istore_n dX5_endedNow_18 (by decide) rfl ?_
    refine Y.iinc dX5_endedNow_19 rfl (by decide) rfl ?_
    refine Y.goto 4 dX5_endedNow_22 (by decide) ?_
    exact ih _ _ ⟨by omega, by omega, by rw [sm_s (by omega), i3]⟩ (by omega)
end ZR4
