section ZM7
/-! what is settled doesn't rest on deadlines, phases, strides -/
def SPL (p q : zP) : Prop := q 0 = p 0 ∧ q 1 = p 1 ∧ q 5 = p 5 ∧ q 6 = p 6 ∧ q 7 = p 7 ∧ q 8 = p 8 ∧ q 9 = p 9
variable {p q : zP}
theorem SPL.rf : SPL p p := ⟨rfl, rfl, rfl, rfl, rfl, rfl, rfl⟩
theorem SPL.tr {r : zP} (h : SPL p q) (k : SPL q r) : SPL p r := ⟨k.1.trans h.1, k.2.1.trans h.2.1, k.2.2.1.trans h.2.2.1, k.2.2.2.1.trans h.2.2.2.1, k.2.2.2.2.1.trans h.2.2.2.2.1, k.2.2.2.2.2.1.trans h.2.2.2.2.2.1, k.2.2.2.2.2.2.trans h.2.2.2.2.2.2⟩
theorem SPL.e_th (h : SPL p q) : th q = th p := by funext x; unfold th; rw [h.2.2.1]
theorem SPL.e_riv (h : SPL p q) : riv q = riv p := by funext x k; unfold riv; rw [h.e_th, h.2.2.2.1, h.2.2.2.2.2.1]
theorem SPL.e_ear (h : SPL p q) : ear q = ear p := by funext x; unfold ear; rw [h.2.2.2.2.2.2, h.2.2.2.2.1]
theorem SPL.e_ovl (h : SPL p q) : ovl q = ovl p := by
  funext x
  unfold ovl la lb
  rw [h.e_riv, h.1, h.2.2.2.2.1]
theorem SPL.e_phi (h : SPL p q) : phi q = phi p := by funext l j k; unfold phi; rw [h.e_ear, h.1]
theorem SPL.e_elr (h : SPL p q) : elr q = elr p := by funext l j k; unfold elr; rw [h.e_phi, h.1]
theorem SPL.e_cm (h : SPL p q) : cm q = cm p := by funext l j k t; unfold cm; rw [h.e_elr, h.e_phi, h.1]
theorem SPL.e_wk (h : SPL p q) : wk q = wk p := by funext l x k t; unfold wk; rw [h.e_riv, h.e_cm, h.2.2.2.2.1]
theorem SPL.e_ot (h : SPL p q) : ot q = ot p := by funext l x C i t; unfold ot; rw [h.e_riv, h.e_wk]
theorem SPL.e_oth (h : SPL p q) : oth q = oth p := by funext l x C t; unfold oth; rw [h.e_ot]
theorem SPL.e_Fn (h : SPL p q) : Fn q = Fn p := by funext l C x k u t; unfold Fn; rw [h.e_cm, h.e_wk, h.e_oth, h.2.2.2.2.1]
theorem SPL.e_fv (h : SPL p q) : fv q = fv p := by funext l C x k r; unfold fv; rw [h.e_Fn, h.e_phi, h.e_elr, h.e_ear, h.1]
theorem SPL.e_fq (h : SPL p q) (l : Int → Int) (C : Int → Prop) (x k w : Int) : ∀ (n : Nat) (r : Int) (s : aA), fq q l C x k w n r s = fq p l C x k w n r s
  | 0, _, _ => rfl
  | n + 1, r, s => by
    show (if lfp (Fn q l C x k (r + 1)) = -1 then none else fq q l C x k w n (r + 1) (if s.1 < fv q l C x k r then (fv q l C x k r, k % 3, r, w) else s)) = (if lfp (Fn p l C x k (r + 1)) = -1 then none else fq p l C x k w n (r + 1) (if s.1 < fv p l C x k r then (fv p l C x k r, k % 3, r, w) else s))
    rw [h.e_Fn, h.e_fv, SPL.e_fq h l C x k w n]
theorem SPL.e_own (h : SPL p q) : own q = own p := by funext x k; unfold own; rw [h.e_th, h.e_riv]
theorem SPL.e_bz (h : SPL p q) : bz q = bz p := by funext l C x k; unfold bz; rw [h.e_Fn]
theorem SPL.e_fk1 (h : SPL p q) : fk1 q = fk1 p := by
  funext l C x k s
  unfold fk1
  rw [h.e_bz, h.e_cm, h.e_fq]
theorem SPL.e_fk (h : SPL p q) (l : Int → Int) (C : Int → Prop) (x : Int) : ∀ (n : Nat) (j : Int) (s : aA), fk q l C x n j s = fk p l C x n j s
  | 0, _, _ => rfl
  | n + 1, j, s => by
    have ih : fk q l C x n (j + 1) = fk p l C x n (j + 1) := funext (SPL.e_fk h l C x n (j + 1))
    show @ite _ (own q x (x / 3 * 3 + j)) (Classical.propDecidable _) (oB (fk1 q l C x (x / 3 * 3 + j) s) (fk q l C x n (j + 1))) (fk q l C x n (j + 1) s) = @ite _ (own p x (x / 3 * 3 + j)) (Classical.propDecidable _) (oB (fk1 p l C x (x / 3 * 3 + j) s) (fk p l C x n (j + 1))) (fk p l C x n (j + 1) s)
    rw [h.e_own, h.e_fk1, ih]
theorem SPL.e_fnd (h : SPL p q) : fnd q = fnd p := by funext l C x; exact h.e_fk l C x 3 0 _
theorem SPL.e_bA (h : SPL p q) : bA q = bA p := by
  funext l
  unfold bA okx
  rw [h.e_th, h.e_ovl, h.e_fnd]
theorem SPL.e_nl (h : SPL p q) : nl q = nl p := by
  funext l x
  unfold nl bv
  rw [h.e_th, h.e_ear, h.e_fnd, h.2.2.2.2.2.2]
theorem SPL.e_chg (h : SPL p q) : chg q = chg p := by
  funext l
  unfold chg chx
  rw [h.e_nl]
theorem SPL.e_stl (h : SPL p q) : ∀ (n : Nat) (r : Int) (l : Int → Int), stl q n r l = stl p n r l
  | 0, _, _ => rfl
  | n + 1, r, l => by
    show @ite _ (bA q l) (Classical.propDecidable _) (@ite _ (chg q l) (Classical.propDecidable _) (stl q n (r + 1) (nl q l)) (some (r, l))) none = @ite _ (bA p l) (Classical.propDecidable _) (@ite _ (chg p l) (Classical.propDecidable _) (stl p n (r + 1) (nl p l)) (some (r, l))) none
    rw [h.e_bA, h.e_chg, h.e_nl, SPL.e_stl h n]
theorem SPL.e_SR (h : SPL p q) : SR q = SR p := by
  unfold SR
  rw [h.e_stl]
  congr 1
  funext x
  unfold l0
  rw [h.2.1]
/-! a better priority is no worse -/
theorem pu_self {k : Nat} {i : Int} : pu p k i (p k i) = p := by
  funext k' j
  unfold pu
  by_cases e : k' = k
  · rw [if_pos e]
    by_cases e2 : j = i
    · rw [if_pos e2, e, e2]
    · rw [if_neg e2, e]
  · rw [if_neg e]
theorem btU_le {x l : Int} (hb : bndA p l ≠ -1) {m : Nat} (hm : p 8 x = (m : Int)) : ∀ n : Nat, m < n → (btU p x l n).1 ≠ -1 ∧ (btU p x l n).2 ≤ bndA p l
  | 0, h => by omega
  | n + 1, h => by
    rw [bt_n]
    by_cases e : n = m
    · subst e
      have ep : pu p 8 x (n : Int) = p := by rw [← hm]; exact pu_self
      by_cases c : btc p x l n (btU p x l n)
      · rw [if_pos c, ep]
        exact ⟨by show (n : Int) ≠ -1; omega, Int.le_refl _⟩
      · rw [if_neg c]
        unfold btc at c
        rw [ep] at c
        constructor
        · exact fun z => c ⟨hb, Or.inl z⟩
        · rcases Int.lt_or_le (bndA p l) (btU p x l n).2 with z | z
          · exact absurd ⟨hb, Or.inr z⟩ c
          · exact z
    · have ih := btU_le hb hm n (by omega)
      by_cases c : btc p x l n (btU p x l n)
      · rw [if_pos c]
        refine ⟨by show (n : Int) ≠ -1; omega, ?_⟩
        show bndA (pu p 8 x (n : Int)) l ≤ _
        rcases c.2 with z | z
        · exact absurd z ih.1
        · omega
      · rw [if_neg c]; exact ih
theorem btA_le (hp : WP p) {x l : Int} (h0 : 0 ≤ x) (h9 : x < 9) (l0 : 0 ≤ l) (l9 : l < 9) (ht : th p l) (hs : SR p ≠ none) : 0 ≤ btA p x l 0 ∧ btA p x l 1 ≤ bndA p l := by
  have h8 := (hp.2.1 x h0 h9).2.2.1
  have hb := (bndA_b hp l0 l9 ht).2.2 hs
  have hb1 : bndA p l ≠ -1 := by omega
  have hm1 : p 8 x = ((p 8 x).toNat : Int) := by omega
  have h := btU_le hb1 hm1 10 (by omega)
  have hbb := bt_b hp (x := x) l0 l9 ht 10 (by omega)
  unfold btA
  rw [if_pos rfl, if_neg (by decide)]
  refine ⟨?_, h.2⟩
  rcases hbb with z | z
  · exact absurd z.1 h.1
  · exact z.1
theorem btA_b (hp : WP p) {x l w : Int} (l0 : 0 ≤ l) (l9 : l < 9) (ht : th p l) : -1 ≤ btA p x l w ∧ btA p x l w ≤ 746 := by
  have hbb := bt_b hp (x := x) l0 l9 ht 10 (by omega)
  unfold btA
  split <;> omega
end ZM7
section ZM8
variable {σ : zS} {p : zP}
/-! ticks that a node did nothing in -/
theorem nod_s {h t : Int} (hp : WP p) (h0 : 0 ≤ h) (h3 : h ≤ 300) (σ : zS) (t0 : 0 ≤ t) (th' : t < h) {v : Int} (hv : v = 0 ∨ v = 1) :
    sm (fun y => zb (th p y ∧ p 6 y = v) * DN p (fun y t => (sT p h σ t).1 45 y) (fun y t => (sT p h σ t).1 46 y) y (t + 1)) 0 9 + zb (ug p (sT p h σ t) v t 9 = -1) = sm (fun y => zb (th p y ∧ p 6 y = v) * DN p (fun y t => (sT p h σ t).1 45 y) (fun y t => (sT p h σ t).1 46 y) y t) 0 9 + 1 := by
  have hT := run_tr hp h0 h3 σ
  have key : ∀ y : Int, 0 ≤ y → y < 9 → th p y → p 6 y = v → (ug p (sT p h σ t) v t 9 = y ∧ DN p (fun y t => (sT p h σ t).1 45 y) (fun y t => (sT p h σ t).1 46 y) y (t + 1) = DN p (fun y t => (sT p h σ t).1 45 y) (fun y t => (sT p h σ t).1 46 y) y t + 1) ∨ (ug p (sT p h σ t) v t 9 ≠ y ∧ DN p (fun y t => (sT p h σ t).1 45 y) (fun y t => (sT p h σ t).1 46 y) y (t + 1) = DN p (fun y t => (sT p h σ t).1 45 y) (fun y t => (sT p h σ t).1 46 y) y t) := fun y a b c d => by
    have := hT.d hp a b c t0 th'
    rw [d] at this
    exact this
  by_cases q : ug p (sT p h σ t) v t 9 = -1
  · rw [zb_t q]
    rw [sm_c (g := fun y => zb (th p y ∧ p 6 y = v) * DN p (fun y t => (sT p h σ t).1 45 y) (fun y t => (sT p h σ t).1 46 y) y t) 9 (fun y a b => by
      by_cases z : th p y ∧ p 6 y = v
      · rcases key y a (by omega) z.1 z.2 with w | w
        · omega
        · rw [w.2]
      · rw [zb_f z]; omega)]
  · rw [zb_f q]
    obtain ⟨x0, x9, x1, x2, _⟩ := hT.2.2.1 t v t0 th' (by omega) (by omega) q
    have x0 : 0 ≤ ug p (sT p h σ t) v t 9 := x0
    have x9 : ug p (sT p h σ t) v t 9 < 9 := x9
    have x1 : th p (ug p (sT p h σ t) v t 9) := x1
    have x2 : p 6 (ug p (sT p h σ t) v t 9) = v := x2
    have := (sm_bump (f := fun y => zb (th p y ∧ p 6 y = v) * DN p (fun y t => (sT p h σ t).1 45 y) (fun y t => (sT p h σ t).1 46 y) y t) (g := fun y => zb (th p y ∧ p 6 y = v) * DN p (fun y t => (sT p h σ t).1 45 y) (fun y t => (sT p h σ t).1 46 y) y (t + 1)) (a := 0) (c := ug p (sT p h σ t) v t 9) (v := 1) (by
      show zb (th p (ug p (sT p h σ t) v t 9) ∧ p 6 (ug p (sT p h σ t) v t 9) = v) * _ = zb (th p (ug p (sT p h σ t) v t 9) ∧ p 6 (ug p (sT p h σ t) v t 9) = v) * _ + 1
      rcases key _ x0 x9 x1 x2 with w | w
      · rw [zb_t ⟨x1, x2⟩, w.2]; omega
      · exact absurd rfl w.1) 9 (fun y a b c => by
      show zb (th p y ∧ p 6 y = v) * _ = zb (th p y ∧ p 6 y = v) * _
      by_cases z : th p y ∧ p 6 y = v
      · rcases key y a (by omega) z.1 z.2 with w | w
        · exact absurd w.1.symm c
        · rw [w.2]
      · rw [zb_f z]; omega)).2 ⟨x0, by omega⟩
    omega
theorem run_idle {h : Int} (hp : WP p) (h0 : 0 ≤ h) (h3 : h ≤ 300) (σ : zS) : ∀ t : Int, 0 ≤ t → t ≤ h →
    (sT p h σ t).1 39 0 + sm (fun y => zb (th p y ∧ p 6 y = 0) * DN p (fun y t => (sT p h σ t).1 45 y) (fun y t => (sT p h σ t).1 46 y) y t) 0 9 = t ∧ (sT p h σ t).1 39 1 + sm (fun y => zb (th p y ∧ p 6 y = 1) * DN p (fun y t => (sT p h σ t).1 45 y) (fun y t => (sT p h σ t).1 46 y) y t) 0 9 = t := by
  refine ind_up (P := fun t => (sT p h σ t).1 39 0 + sm (fun y => zb (th p y ∧ p 6 y = 0) * DN p (fun y t => (sT p h σ t).1 45 y) (fun y t => (sT p h σ t).1 46 y) y t) 0 9 = t ∧ (sT p h σ t).1 39 1 + sm (fun y => zb (th p y ∧ p 6 y = 1) * DN p (fun y t => (sT p h σ t).1 45 y) (fun y t => (sT p h σ t).1 46 y) y t) 0 9 = t) ?_ (fun t a b ih => ?_)
  · obtain ⟨g0, g1, _⟩ := rnN_g (p := p) (h := h) (σ := σ) 0 (by omega)
    have e0 : (sT p h σ 0).1 39 0 = 0 := g0.2.2
    have e1 : (sT p h σ 0).1 39 1 = 0 := g1.2.2
    have z : ∀ v : Int, sm (fun y => zb (th p y ∧ p 6 y = v) * DN p (fun y t => (sT p h σ t).1 45 y) (fun y t => (sT p h σ t).1 46 y) y 0) 0 9 = 0 := fun v => sm_z 9 (fun y c d => by
      by_cases w : th p y ∧ p 6 y = v
      · obtain ⟨k1, _, _, k2⟩ := sT_0 hp (h := h) (σ := σ) c (show y < 9 by omega)
        have k2 := k2 w.1
        have ed : DN p (fun y t => (sT p h σ t).1 45 y) (fun y t => (sT p h σ t).1 46 y) y 0 = (sT p h σ 0).1 45 y * p 7 y + (sT p h σ 0).1 46 y := rfl
        rw [ed, k1, k2]; omega
      · rw [zb_f w]; omega)
    rw [e0, e1, z, z]
    exact ⟨rfl, rfl⟩
  · have s0 := nod_s hp h0 h3 σ a b (v := 0) (Or.inl rfl)
    have s1 := nod_s hp h0 h3 σ a b (v := 1) (Or.inr rfl)
    have hu : ug p (ntk p (sT p h σ t) 0 t) 1 t 9 = ug p (sT p h σ t) 1 t 9 := ug_ntk hp 9 (by omega)
    have i0 : (ntk p (sT p h σ t) 0 t).1 39 0 = (sT p h σ t).1 39 0 + zb (ug p (sT p h σ t) 0 t 9 = -1) := ntk_i (w := 0) (by omega)
    have i1 : (ntk p (ntk p (sT p h σ t) 0 t) 1 t).1 39 1 = (ntk p (sT p h σ t) 0 t).1 39 1 + zb (ug p (ntk p (sT p h σ t) 0 t) 1 t 9 = -1) := ntk_i (w := 1) (by omega)
    have j0 : (ntk p (sT p h σ t) 0 t).1 39 1 = (sT p h σ t).1 39 1 := (ntk_e (w := 0) (v := 1) (by omega) (by omega) (by omega)).2
    have j1 : (ntk p (ntk p (sT p h σ t) 0 t) 1 t).1 39 0 = (ntk p (sT p h σ t) 0 t).1 39 0 := (ntk_e (w := 1) (v := 0) (by omega) (by omega) (by omega)).2
    rw [hu] at i1
    have e : sT p h σ (t + 1) = ntk p (ntk p (sT p h σ t) 0 t) 1 t := sT_s a
    rw [← e] at i1 j1
    omega
/-- what the nodes did, beside what ended -/
theorem run_done {h : Int} (hp : WP p) (h0 : 0 ≤ h) (h3 : h ≤ 300) (σ : zS) : sm (fun y => zb (th p y) * ((crun p h σ).1 45 y * p 7 y)) 0 9 ≤ 2 * h - (crun p h σ).1 39 0 - (crun p h σ).1 39 1 ∧ 2 * h - (crun p h σ).1 39 0 - (crun p h σ).1 39 1 ≤ sm (fun y => zb (th p y) * ((crun p h σ).1 45 y * p 7 y)) 0 9 + sm (fun y => zb (th p y) * (p 7 y - 1)) 0 9 := by
  have e : crun p h σ = sT p h σ h := by
    unfold crun sT
    rw [show (h - 0).toNat = h.toNat by omega]
  rw [e]
  obtain ⟨i0, i1⟩ := run_idle hp h0 h3 σ h h0 (Int.le_refl _)
  have hT := run_tr hp h0 h3 σ
  have a1 := sm_add (f := fun y => zb (th p y ∧ p 6 y = 0) * DN p (fun y t => (sT p h σ t).1 45 y) (fun y t => (sT p h σ t).1 46 y) y h) (g := fun y => zb (th p y ∧ p 6 y = 1) * DN p (fun y t => (sT p h σ t).1 45 y) (fun y t => (sT p h σ t).1 46 y) y h) (a := 0) 9
  have a2 := sm_add (f := fun y => zb (th p y) * ((sT p h σ h).1 45 y * p 7 y)) (g := fun y => zb (th p y) * (p 7 y - 1)) (a := 0) 9
  have key : ∀ y : Int, 0 ≤ y → y < 9 → zb (th p y) * ((sT p h σ h).1 45 y * p 7 y) ≤ zb (th p y ∧ p 6 y = 0) * DN p (fun y t => (sT p h σ t).1 45 y) (fun y t => (sT p h σ t).1 46 y) y h + zb (th p y ∧ p 6 y = 1) * DN p (fun y t => (sT p h σ t).1 45 y) (fun y t => (sT p h σ t).1 46 y) y h ∧ zb (th p y ∧ p 6 y = 0) * DN p (fun y t => (sT p h σ t).1 45 y) (fun y t => (sT p h σ t).1 46 y) y h + zb (th p y ∧ p 6 y = 1) * DN p (fun y t => (sT p h σ t).1 45 y) (fun y t => (sT p h σ t).1 46 y) y h ≤ zb (th p y) * ((sT p h σ h).1 45 y * p 7 y) + zb (th p y) * (p 7 y - 1) := fun y a b => by
    have h6 := (hp.2.1 y a b).1
    by_cases z : th p y
    · have hb := hT.b hp a b z h h0 (Int.le_refl _)
      have hb1 : 0 ≤ (sT p h σ h).1 46 y := hb.2.1
      have hb2 : (sT p h σ h).1 46 y < p 7 y := hb.2.2
      have ed : DN p (fun y t => (sT p h σ t).1 45 y) (fun y t => (sT p h σ t).1 46 y) y h = (sT p h σ h).1 45 y * p 7 y + (sT p h σ h).1 46 y := rfl
      rw [ed, zb_t z]
      rcases (show p 6 y = 0 ∨ p 6 y = 1 by omega) with e | e
      · rw [zb_t ⟨z, e⟩, zb_f (fun w => by omega)]; omega
      · rw [zb_t (show th p y ∧ p 6 y = 1 from ⟨z, e⟩), zb_f (fun w => by omega)]; omega
    · rw [zb_f z, zb_f (fun w => z w.1), zb_f (fun w => z w.1)]; omega
  have m1 := sm_m (f := fun y => zb (th p y) * ((sT p h σ h).1 45 y * p 7 y)) (g := fun y => zb (th p y ∧ p 6 y = 0) * DN p (fun y t => (sT p h σ t).1 45 y) (fun y t => (sT p h σ t).1 46 y) y h + zb (th p y ∧ p 6 y = 1) * DN p (fun y t => (sT p h σ t).1 45 y) (fun y t => (sT p h σ t).1 46 y) y h) (a := 0) 9 (fun y a b => (key y a (by omega)).1)
  have m2 := sm_m (f := fun y => zb (th p y ∧ p 6 y = 0) * DN p (fun y t => (sT p h σ t).1 45 y) (fun y t => (sT p h σ t).1 46 y) y h + zb (th p y ∧ p 6 y = 1) * DN p (fun y t => (sT p h σ t).1 45 y) (fun y t => (sT p h σ t).1 46 y) y h) (g := fun y => zb (th p y) * ((sT p h σ h).1 45 y * p 7 y) + zb (th p y) * (p 7 y - 1)) (a := 0) 9 (fun y a b => (key y a (by omega)).2)
  omega
end ZM8
