section ZLC
variable {σ : zS} {p : zP} {hd d : Nat} {μ ν : zU} {pc : Nat} {L : List (Option Value)} {st : List Value} {idx n b ci : Nat} {fs : zS → List Value} {As rest : List Value} {v : Int}
/-! what stands between calls -/
def LJ (t : zS) (p : zP) : Prop := cP t = p ∧ WJ p ∧ STL t
theorem LJ.q {t s : zS} (h : LJ t p) (hE : EQ t s) (hT : STL s) : LJ s p := ⟨hE.cp.trans h.1, h.2.1, hT⟩
theorem LJ.wp {t : zS} (h : LJ t p) : WP p := h.2.1.1
theorem LJ.s0 {t : zS} (h : LJ t p) : t.1 14 17 = 0 ∨ t.1 14 17 = 1 := h.2.2.1
theorem LJ.s1 {t : zS} (h : LJ t p) : t.1 14 17 = 0 → SA 14 t p := fun q => by rw [← h.1]; exact h.2.2.2 q
/-- a call that answers v and changes no more than what is found again -/
abbrev YQ (hd : Nat) (μ : zU) (avs : List Value) (σ : zS) (v : Int) : Prop := YC hd μ avs σ (fun r s => r = some (.int (zi v)) ∧ EQ σ s ∧ STL s)
theorem Y.cVQ {P : Option Value → zS → Prop} (hdg : decode μ.2.1 pc = .ok (.invokevirtual idx, 3)) (hm : zMk ν n) (hs : zSV μ.1.cls idx ν) (ho : zOB b ci fs) (hci : ∃ q : vw_C, vwCl[ci]? = some q ∧ q.1 = ν.1.cls) (hc : YQ hd ν (.ref b :: As) σ v) (hd1 : hd + 1 ≤ d) (hAn : As.length = n) (hst : st = As.reverse ++ .ref b :: rest) (hcat : (rest.map fun v => v.category).sum ≤ 8) (k : ∀ s : zS, EQ σ s → STL s → Y d μ (pc + 3) L (.int (zi v) :: rest) s P) : Y d μ pc L st σ P :=
  Y.callV hdg hm hs ho hci hc hd1 hAn hst hcat (fun r s h => by rw [h.1]; exact k s h.2.1 h.2.2)
theorem Y.cSE {P : Option Value → zS → Prop} {Q : Int → Prop} (hdg : decode μ.2.1 pc = .ok (.invokestatic idx, 3)) (hm : zMk ν n) (hs : zSS μ.1.cls idx ν) (hc : YC hd ν As σ (fun r s => (∃ v : Int, Q v ∧ r = some (.int (zi v))) ∧ s = σ)) (hd1 : hd + 1 ≤ d) (hAn : As.length = n) (hst : st = As.reverse ++ rest) (hcat : (rest.map fun v => v.category).sum ≤ 8) (k : ∀ v : Int, Q v → Y d μ (pc + 3) L (.int (zi v) :: rest) σ P) : Y d μ pc L st σ P :=
  Y.callS hdg hm hs hc hd1 hAn hst hcat (fun r s h => by
    obtain ⟨⟨v, hv, h1⟩, h2⟩ := h
    rw [h1, h2]
    exact k v hv)
variable {X : State → (Nat → Nat) → (Nat → Prop) → Nat → Prop} {mc ms kc ks : Nat}
theorem YX.cVQ {P : Option Value → zH → Prop} (hk : kc ≤ mc ∧ ks ≤ ms) (hdg : decode μ.2.1 pc = .ok (.invokevirtual idx, 3)) (hm : zMk ν n) (hs : zSV μ.1.cls idx ν) (ho : zOB b ci fs) (hci : ∃ q : vw_C, vwCl[ci]? = some q ∧ q.1 = ν.1.cls) (hc : YQ hd ν (.ref b :: As) σ v) (hd1 : hd + 1 ≤ d) (hAn : As.length = n) (hst : st = As.reverse ++ .ref b :: rest) (hcat : (rest.map fun v => v.category).sum ≤ 8) (k : ∀ s : zS, EQ σ s → STL s → YX X mc ms kc ks d μ (pc + 3) L (.int (zi v) :: rest) s P) : YX X mc ms kc ks d μ pc L st σ P :=
  YX.callV hk hdg hm hs ho hci hc hd1 hAn hst hcat (fun r s h => by rw [h.1]; exact k s h.2.1 h.2.2)
theorem YX.cVI {P : Option Value → zH → Prop} {σ' : zS} (hk : kc ≤ mc ∧ ks ≤ ms) (hdg : decode μ.2.1 pc = .ok (.invokevirtual idx, 3)) (hm : zMk ν n) (hs : zSV μ.1.cls idx ν) (ho : zOB b ci fs) (hci : ∃ q : vw_C, vwCl[ci]? = some q ∧ q.1 = ν.1.cls) (hc : YI hd ν (.ref b :: As) σ v σ') (hd1 : hd + 1 ≤ d) (hAn : As.length = n) (hst : st = As.reverse ++ .ref b :: rest) (hcat : (rest.map fun v => v.category).sum ≤ 8) (k : YX X mc ms kc ks d μ (pc + 3) L (.int (zi v) :: rest) σ' P) : YX X mc ms kc ks d μ pc L st σ P :=
  YX.callV hk hdg hm hs ho hci hc hd1 hAn hst hcat (fun r s h => by rw [h.1, h.2]; exact k)
theorem YX.cSE {P : Option Value → zH → Prop} {Q : Int → Prop} (hk : kc ≤ mc ∧ ks ≤ ms) (hdg : decode μ.2.1 pc = .ok (.invokestatic idx, 3)) (hm : zMk ν n) (hs : zSS μ.1.cls idx ν) (hc : YC hd ν As σ (fun r s => (∃ v : Int, Q v ∧ r = some (.int (zi v))) ∧ s = σ)) (hd1 : hd + 1 ≤ d) (hAn : As.length = n) (hst : st = As.reverse ++ rest) (hcat : (rest.map fun v => v.category).sum ≤ 8) (k : ∀ v : Int, Q v → YX X mc ms kc ks d μ (pc + 3) L (.int (zi v) :: rest) σ P) : YX X mc ms kc ks d μ pc L st σ P :=
  YX.callS hk hdg hm hs hc hd1 hAn hst hcat (fun r s h => by
    obtain ⟨⟨v, hv, h1⟩, h2⟩ := h
    rw [h1, h2]
    exact k v hv)
theorem stp_x (hp : WP p) {i j x : Int} (hx : i * 3 + j = x) (h0 : 0 ≤ i) (h3 : i < 3) (j0 : 0 ≤ j) (j3 : j < 3) (ht : th p x) : stp p i j := by
  unfold th at ht
  rw [← hx, show (i * 3 + j) / 3 = i by omega] at ht
  exact ⟨h0, by omega, j0, by omega⟩
theorem k_L_bound {i j x : Int} (hJ : LJ σ p) (hx : i * 3 + j = x) (h0 : 0 ≤ i) (h3 : i < 3) (j0 : 0 ≤ j) (j3 : j < 3) (ht : th p x) : YQ 7 μX4_bound [.ref 0, .int (zi i), .int (zi j)] σ (bndA p x) := by
  refine YC.mono (by decide) (fun r s h => ?_) (c_X4_bound hJ.1 hJ.wp hJ.s0 hJ.s1 (i := i) (j := j) (by omega) (by omega))
  obtain ⟨h1, h2⟩ := h
  refine ⟨?_, h2⟩
  rcases h1 with ⟨_, q⟩ | ⟨q, _⟩
  · rw [q, hx]
  · exact absurd (stp_x hJ.wp hx h0 h3 j0 j3 ht) q
theorem k_L_searched {i j x : Int} (hJ : LJ σ p) (hx : i * 3 + j = x) (h0 : 0 ≤ i) (h3 : i < 3) (j0 : 0 ≤ j) (j3 : j < 3) (ht : th p x) : YQ 7 μX4_searched [.ref 0, .int (zi i), .int (zi j)] σ (srcA p x) := by
  refine YC.mono (by decide) (fun r s h => ?_) (c_X4_searched hJ.1 hJ.wp hJ.s0 hJ.s1 (i := i) (j := j) (by omega) (by omega))
  obtain ⟨h1, h2⟩ := h
  refine ⟨?_, h2⟩
  rcases h1 with ⟨_, q⟩ | ⟨q, _⟩
  · rw [q, hx]
  · exact absurd (stp_x hJ.wp hx h0 h3 j0 j3 ht) q
theorem k_L_quick {i j x : Int} (hJ : LJ σ p) (hx : i * 3 + j = x) (h0 : 0 ≤ i) (h3 : i < 3) (j0 : 0 ≤ j) (j3 : j < 3) (ht : th p x) : YQ 7 μX4_quick [.ref 0, .int (zi i), .int (zi j)] σ (qckA p x) := by
  refine YC.mono (by decide) (fun r s h => ?_) (c_X4_quick hJ.1 hJ.wp hJ.s0 hJ.s1 (i := i) (j := j) (by omega) (by omega))
  obtain ⟨h1, h2⟩ := h
  refine ⟨?_, h2⟩
  rcases h1 with ⟨_, q⟩ | ⟨q, _⟩
  · rw [q, hx]
  · exact absurd (stp_x hJ.wp hx h0 h3 j0 j3 ht) q
theorem k_L_rounds (hJ : LJ σ p) : YQ 7 μX4_rounds [.ref 0] σ (rndA p) := c_X4_rounds hJ.1 hJ.wp hJ.s0 hJ.s1
theorem k_L_meets (hJ : LJ σ p) : YQ 7 μX4_meets [.ref 0] σ (bts (metP p)) := c_X4_meets hJ.1 hJ.wp hJ.s0 hJ.s1
theorem k_L_margin {i j x : Int} (hJ : LJ σ p) (hx : i * 3 + j = x) (h0 : 0 ≤ i) (h3 : i < 3) (j0 : 0 ≤ j) (j3 : j < 3) (ht : th p x) : YQ 7 μX4_margin [.ref 0, .int (zi i), .int (zi j)] σ (mgA p x) := by
  refine YC.mono (by decide) (fun r s h => ?_) (c_X4_margin hJ.1 hJ.2.1 hJ.s0 hJ.s1 (i := i) (j := j) (by omega) (by omega))
  obtain ⟨h1, h2⟩ := h
  refine ⟨?_, h2⟩
  rcases h1 with ⟨_, q⟩ | ⟨q, _⟩
  · rw [q, hx]
  · exact absurd (stp_x hJ.wp hx h0 h3 j0 j3 ht) q
theorem k_L_better {i j x w : Int} (hJ : LJ σ p) (hx : i * 3 + j = x) (h0 : 0 ≤ i) (h3 : i < 3) (j0 : 0 ≤ j) (j3 : j < 3) (ht : th p x) (hw : w = 0 ∨ w = 1) : YQ 7 μX4_better [.ref 0, .int (zi i), .int (zi j), .int (zi w)] σ (btA p x (i * 3 + p 5 i - 1) w) := by
  refine YC.mono (by decide) (fun r s h => ?_) (c_X4_better hJ.1 hJ.wp hJ.s0 hJ.s1 (i := i) (j := j) (by omega) (by omega) (w := w) (by omega))
  obtain ⟨h1, h2⟩ := h
  refine ⟨?_, h2⟩
  rcases h1 with ⟨_, q⟩ | ⟨q, _⟩
  · rw [q, hx]
  · exact absurd ⟨stp_x hJ.wp hx h0 h3 j0 j3 ht, by omega, by omega⟩ q
theorem k_L_info {i j x : Int} (k : Nat) (hJ : LJ σ p) (hx : i * 3 + j = x) (h0 : 0 ≤ i) (h3 : i < 3) (j0 : 0 ≤ j) (j3 : j < 3) (ht : th p x) (hk : k < 7) : YQ 7 μX4_info [.ref 0, .int (zi i), .int (zi j), .int (zi (k : Int))] σ (infA p x k) := by
  refine YC.mono (by decide) (fun r s h => ?_) (c_X4_info hJ.1 hJ.wp hJ.s0 hJ.s1 (i := i) (j := j) (by omega) (by omega) (w := (k : Int)) (by omega))
  obtain ⟨h1, h2⟩ := h
  refine ⟨?_, h2⟩
  rcases h1 with ⟨k', _, e, _, q⟩ | ⟨q, _⟩
  · rw [q, hx, show k' = k by omega]
  · exact absurd ⟨stp_x hJ.wp hx h0 h3 j0 j3 ht, by omega, by omega⟩ q
theorem k_L_count (k : Nat) (hJ : LJ σ p) (hk : k < 9) : YQ 7 μX4_count [.ref 0, .int (zi (k : Int))] σ (cntA σ p k) := by
  refine YC.mono (by decide) (fun r s h => ?_) (c_X4_count hJ.1 hJ.wp hJ.s0 hJ.s1 (w := (k : Int)) (by omega))
  obtain ⟨h1, h2⟩ := h
  refine ⟨?_, h2⟩
  rcases h1 with ⟨_, q⟩ | ⟨q, _⟩
  · rw [q, show ((k : Int)).toNat = k by omega]
  · exact absurd ⟨by omega, by omega⟩ q
theorem k_L_has {i : Int} (k : Nat) (hJ : LJ σ p) (h0 : 0 ≤ i) (h3 : i < 3) (hk : k < 6) : YI 2 μX4_has [.ref 0, .int (zi i), .int (zi (k : Int))] σ (p k i) σ := by
  refine YC.mono (by decide) (fun r s h => ?_) (c_X4_has hJ.1 (i := i) (w := (k : Int)) (by omega) (by omega))
  obtain ⟨h1, h2⟩ := h
  refine ⟨?_, h2⟩
  rcases h1 with ⟨k', _, e, _, q⟩ | ⟨q, _⟩
  · rw [q, show k' = k by omega]
  · exact absurd ⟨by omega, by omega, by omega⟩ q
theorem k_L_seen {i j x w : Int} (hJ : LJ σ p) (hx : i * 3 + j = x) (h0 : 0 ≤ i) (h3 : i < 3) (j0 : 0 ≤ j) (j3 : j < 3) (ht : th p x) (hw : 0 ≤ w ∧ w ≤ 2) : YI 3 μX4_seen [.ref 0, .int (zi i), .int (zi j), .int (zi w)] σ (snA σ x w) σ := by
  refine YC.mono (by decide) (fun r s h => ?_) (c_X4_seen hJ.1 hJ.wp (i := i) (j := j) (by omega) (by omega) (w := w) (by omega))
  obtain ⟨h1, h2⟩ := h
  refine ⟨?_, h2⟩
  rcases h1 with ⟨_, q⟩ | ⟨q, _⟩
  · rw [q, hx]
  · exact absurd ⟨stp_x hJ.wp hx h0 h3 j0 j3 ht, hw⟩ q
theorem k_L_run {h : Int} (hJ : LJ σ p) (h1 : 1 ≤ h) (h3 : h ≤ 300) : YI 4 μX4_run [.ref 0, .int (zi h)] σ ((crun p h σ).1 38 1) (crun p h σ) := by
  refine YC.mono (by decide) (fun r s h => ?_) (c_X4_run hJ.1 hJ.wp (h := h) (by omega))
  rcases h with ⟨_, q⟩ | ⟨q, _⟩
  · exact q
  · exact absurd ⟨h1, h3⟩ q
/-! a trait told; a step more -/
def CH (s : zS) (k : Nat) (i v : Int) : zS := zu (zu s (cC k) i v) 14 17 1
theorem cC_ne {k : Nat} : cC k ≠ 14 := by
  rcases k with _ | _ | _ | _ | _ | _ | _ | _ | _ | k <;> first | decide | (show (12 : Nat) ≠ 14; decide)
theorem CH_1 {k : Nat} {i v : Int} : (CH σ k i v).1 (cC k) i = v := by unfold CH; rw [zu_nc cC_ne, zu_eq]
theorem CH_n {k : Nat} {i v y : Int} (h : y ≠ i) : (CH σ k i v).1 (cC k) y = σ.1 (cC k) y := by unfold CH; rw [zu_nc cC_ne, zu_ne h]
theorem CH_o {k c : Nat} {i v : Int} (h : c ≠ cC k) (h2 : c ≠ 14) : (CH σ k i v).1 c = σ.1 c := by unfold CH; rw [zu_nc h2, zu_nc h]
theorem CH_s {k : Nat} {i v : Int} : (CH σ k i v).1 14 17 = 1 := by unfold CH; rw [zu_eq]
theorem CH_w {k : Nat} {i v : Int} (h : WJ (cP σ)) (hk : k < 5) (hv : trt k v) : WJ (cP (CH σ k i v)) := by
  unfold CH
  rw [cP_c (fun c q => zu_nc (by omega))]
  exact h.zt hk hv
theorem CH_p {k : Nat} {i v : Int} (hk : k < 9) : cP (CH σ k i v) = pu (cP σ) k i v := by
  unfold CH
  rw [cP_c (fun c q => zu_nc (by omega))]
  exact cP_pf hk
theorem trt_i {k : Nat} {v : Int} (h : (k = 0 ∧ 5 ≤ v ∧ v ≤ 100) ∨ (k = 1 ∧ 0 ≤ v ∧ v ≤ 30) ∨ (k = 2 ∧ 0 ≤ v ∧ v ≤ 200) ∨ (k = 3 ∧ 0 ≤ v ∧ v ≤ 99) ∨ (k = 4 ∧ 0 ≤ v ∧ v ≤ 9)) : trt (k : Int) v := by
  obtain ⟨⟨a0, a1, a2, a3, a4⟩, ⟨b0, b1, b2, b3, b4⟩, -⟩ := tT
  rcases h with ⟨rfl, h1, h2⟩ | ⟨rfl, h1, h2⟩ | ⟨rfl, h1, h2⟩ | ⟨rfl, h1, h2⟩ | ⟨rfl, h1, h2⟩
  · exact ⟨by decide, by decide, by show zTi 0 0 ≤ v; omega, by show v ≤ zTi 1 0; omega⟩
  · exact ⟨by decide, by decide, by show zTi 0 1 ≤ v; omega, by show v ≤ zTi 1 1; omega⟩
  · exact ⟨by decide, by decide, by show zTi 0 2 ≤ v; omega, by show v ≤ zTi 1 2; omega⟩
  · exact ⟨by decide, by decide, by show zTi 0 3 ≤ v; omega, by show v ≤ zTi 1 3; omega⟩
  · exact ⟨by decide, by decide, by show zTi 0 4 ≤ v; omega, by show v ≤ zTi 1 4; omega⟩
theorem mrk_i {v : Int} : (0 ≤ v ∧ v ≤ 1 → mrk 0 v) ∧ (1 ≤ v ∧ v ≤ 20 → mrk 1 v) ∧ (0 ≤ v ∧ v ≤ 9 → mrk 2 v) ∧ (0 ≤ v ∧ v ≤ 20 → mrk 3 v) := by
  obtain ⟨-, -, ⟨a0, a1, a2, a3⟩, b0, b1, b2, b3⟩ := tT
  exact ⟨fun h => ⟨by decide, by decide, by omega, by omega⟩, fun h => ⟨by decide, by decide, by omega, by omega⟩, fun h => ⟨by decide, by decide, by omega, by omega⟩, fun h => ⟨by decide, by decide, by omega, by omega⟩⟩
theorem k_L_chain {i v : Int} (k : Nat) (h0 : 0 ≤ i) (h3 : i < 3) (hk : k < 5) (hv : trt (k : Int) v) (vB : zB v) : YI 2 μX4_chain [.ref 0, .int (zi i), .int (zi (k : Int)), .int (zi v)] σ (cP σ k i) (CH σ k i v) := by
  refine YC.mono (by decide) (fun r s h => ?_) (c_X4_chain (p := cP σ) rfl (i := i) (w := (k : Int)) (v := v) (by omega) (by omega) vB)
  rcases h with ⟨k', _, e, _, _, q⟩ | ⟨q, _⟩
  · rw [show k' = k by omega] at q
    exact q
  · exact absurd ⟨⟨h0, by omega⟩, hv⟩ q
def ST (s : zS) (i a b c e : Int) : zS := apC (zu s 14 17 1) i a b c e
theorem ST_o {i a b c e : Int} {k : Nat} (hk : (k < 9 ∨ 13 < k)) (h14 : k ≠ 14) : (ST σ i a b c e).1 k = σ.1 k := by unfold ST; rw [apC_o hk, zu_nc h14]
theorem ST_s {i a b c e : Int} : (ST σ i a b c e).1 14 17 = 1 := by unfold ST; rw [apC_o (by omega), zu_eq]
theorem ST_m {i a b c e y : Int} : (ST σ i a b c e).1 13 y = if y = i then σ.1 13 i + 1 else σ.1 13 y := by
  unfold ST apC
  by_cases h : y = i
  · rw [if_pos h, h, zu_eq, zu_nc (by omega)]
  · rw [if_neg h, zu_ne h, zu_nc (by omega), zu_nc (by omega), zu_nc (by omega), zu_nc (by omega), zu_nc (by omega)]
theorem ST_r {i a b c e j y : Int} (hj : σ.1 13 i = j) : (ST σ i a b c e).1 9 y = (if y = i * 3 + j then a else σ.1 9 y) ∧ (ST σ i a b c e).1 10 y = (if y = i * 3 + j then b else σ.1 10 y) ∧ (ST σ i a b c e).1 11 y = (if y = i * 3 + j then c else σ.1 11 y) ∧ (ST σ i a b c e).1 12 y = (if y = i * 3 + j then e else σ.1 12 y) := by
  have hj' : (zu σ 14 17 1).1 13 i = j := by rw [zu_nc (by omega)]; exact hj
  unfold ST apC
  rw [hj']
  by_cases h : y = i * 3 + j
  · rw [if_pos h, if_pos h, if_pos h, if_pos h, h]
    refine ⟨?_, ?_, ?_, ?_⟩
    · rw [zu_nc (by omega), zu_nc (by omega), zu_nc (by omega), zu_nc (by omega), zu_eq]
    · rw [zu_nc (by omega), zu_nc (by omega), zu_nc (by omega), zu_eq]
    · rw [zu_nc (by omega), zu_nc (by omega), zu_eq]
    · rw [zu_nc (by omega), zu_eq]
  · rw [if_neg h, if_neg h, if_neg h, if_neg h]
    refine ⟨?_, ?_, ?_, ?_⟩
    · rw [zu_nc (by omega), zu_nc (by omega), zu_nc (by omega), zu_nc (by omega), zu_ne h, zu_nc (by omega)]
    · rw [zu_nc (by omega), zu_nc (by omega), zu_nc (by omega), zu_ne h, zu_nc (by omega), zu_nc (by omega)]
    · rw [zu_nc (by omega), zu_nc (by omega), zu_ne h, zu_nc (by omega), zu_nc (by omega), zu_nc (by omega)]
    · rw [zu_nc (by omega), zu_ne h, zu_nc (by omega), zu_nc (by omega), zu_nc (by omega), zu_nc (by omega)]
theorem ST_w {i a b c e : Int} (h : WJ (cP σ)) (i0 : 0 ≤ i) (i3 : i < 3) (hm : σ.1 13 i < 3) (ha : mrk 0 a) (hb : mrk 1 b) (hc : mrk 2 c) (he : mrk 3 e) : WJ (cP (ST σ i a b c e)) := by
  have e1 : cP (zu σ 14 17 1) = cP σ := cP_c (fun c q => zu_nc (by omega))
  exact apC_w (by rw [e1]; exact h) i0 i3 (by rw [zu_nc (by omega)]; exact hm) ha hb hc he
theorem k_L_step {i a b c e : Int} (hp : WP (cP σ)) (h0 : 0 ≤ i) (h3 : i < 3) (hm : σ.1 13 i < 3) (ha : mrk 0 a) (hb : mrk 1 b) (hc : mrk 2 c) (he : mrk 3 e) (aB : zB a) (bB : zB b) (cB : zB c) (eB : zB e) : YI 2 μX4_step [.ref 0, .int (zi i), .int (zi a), .int (zi b), .int (zi c), .int (zi e)] σ (σ.1 13 i) (ST σ i a b c e) := by
  refine YC.mono (by decide) (fun r s h => ?_) (c_X4_step (p := cP σ) rfl hp (i := i) (a := a) (b := b) (c := c) (e := e) (by omega) aB bB cB eB)
  rcases h with ⟨_, _, q⟩ | ⟨_, q, _⟩ | ⟨q, _⟩
  · exact q
  · have q : 3 ≤ σ.1 13 i := q
    omega
  · exact absurd ⟨⟨h0, by omega⟩, ha, hb, hc, he⟩ q
end ZLC
