section ZO2
variable {σ : zS}
theorem snA_q {s : zS} (h : EQ σ s) : snA s = snA σ := by
  funext x w
  unfold snA
  rw [h.2.1 43 (by omega) (by omega) (by omega), h.2.1 44 (by omega) (by omega) (by omega), h.2.1 45 (by omega) (by omega) (by omega)]
theorem stT_q {s : zS} {p : zP} (h : EQ σ s) : stT s p = stT σ p := by
  funext x y
  unfold stT
  rw [snA_q h]
theorem cntA_q {s : zS} {p : zP} (h : EQ σ s) : cntA s p = cntA σ p := funext fun k => cntA_e h k
theorem dgA_e {s : zS} {p : zP} (h : EQ σ s) : dgA s p = dgA σ p := by
  unfold dgA
  rw [stT_q h, cntA_q h, h.2.1 41 (by omega) (by omega) (by omega), h.2.1 42 (by omega) (by omega) (by omega)]
/-- the class's call, then the model's: one answer, and all stands as it should -/
def PAIR (μ ν : zU) (As : List Value) (σ : zS) : Prop := YC 12 μ (.ref 0 :: As) σ (fun r1 s1 => (∃ v : Int, r1 = some (.int (zi v))) ∧ YC 12 ν (.ref 67 :: As) s1 (fun r2 s2 => r2 = r1 ∧ JJ s2))
def PAIRJ (μ ν : zU) (As : List Value) (σ : zS) : Prop := YC 12 μ (.ref 0 :: As) σ (fun r1 s1 => (∃ v : Int, r1 = some (.long (zl v))) ∧ YC 12 ν (.ref 67 :: As) s1 (fun r2 s2 => r2 = r1 ∧ JJ s2))
theorem PAIR.of {μ ν : zU} {As : List Value} {h1 : Nat} {P1 : Option Value → zS → Prop} (e1 : plainName μ.1.cls = true) (e2 : plainName ν.1.cls = true) (q1 : h1 ≤ 12) (c1 : YC h1 μ (.ref 0 :: As) σ P1)
    (k : ∀ r s, P1 r s → (∃ v : Int, r = some (.int (zi v))) ∧ ∃ P2, YC 12 ν (.ref 67 :: As) s P2 ∧ ∀ r2 s2, P2 r2 s2 → r2 = r ∧ JJ s2) : PAIR μ ν As σ :=
  YC.mono e1 (fun r s h => by
    obtain ⟨k1, P2, k2, k3⟩ := k r s h
    exact ⟨k1, YC.mono e2 k3 k2⟩) (c1.up q1)
theorem PAIRJ.of {μ ν : zU} {As : List Value} {h1 : Nat} {P1 : Option Value → zS → Prop} (e1 : plainName μ.1.cls = true) (e2 : plainName ν.1.cls = true) (q1 : h1 ≤ 12) (c1 : YC h1 μ (.ref 0 :: As) σ P1)
    (k : ∀ r s, P1 r s → (∃ v : Int, r = some (.long (zl v))) ∧ ∃ P2, YC 12 ν (.ref 67 :: As) s P2 ∧ ∀ r2 s2, P2 r2 s2 → r2 = r ∧ JJ s2) : PAIRJ μ ν As σ :=
  YC.mono e1 (fun r s h => by
    obtain ⟨k1, P2, k2, k3⟩ := k r s h
    exact ⟨k1, YC.mono e2 k3 k2⟩) (c1.up q1)
theorem RQ.int {C : Prop} {v : Int} {r : Option Value} (h : RQ C v r) : ∃ v : Int, r = some (.int (zi v)) := by
  rcases h with ⟨-, h⟩ | ⟨-, h⟩
  · exact ⟨_, h⟩
  · exact ⟨_, h⟩
theorem RQ.eq {C : Prop} {v : Int} {r t : Option Value} (h : RQ C v r) (h2 : RQ C v t) : t = r := by
  rcases h with ⟨a, h⟩ | ⟨a, h⟩ <;> rcases h2 with ⟨b, k⟩ | ⟨b, k⟩
  · rw [h, k]
  · exact absurd a b
  · exact absurd b a
  · rw [h, k]
theorem RQ.k {C : Prop} {w m : Int} {n : Nat} {f : Nat → Int} {r : Option Value} (e : (n : Int) = m + 1) (h : (∃ k : Nat, k < n ∧ w = (k : Int) ∧ C ∧ r = some (.int (zi (f k)))) ∨ (¬ (C ∧ 0 ≤ w ∧ w ≤ m) ∧ r = some (.int (zi (-2))))) : RQ (C ∧ 0 ≤ w ∧ w ≤ m) (f w.toNat) r := by
  rcases h with ⟨k, k1, k2, k3, k4⟩ | h
  · refine Or.inl ⟨⟨k3, by omega, by omega⟩, ?_⟩
    rw [k2, Int.toNat_natCast]
    exact k4
  · exact Or.inr h
/-- what the class asks of itself at a call -/
theorem JJ.mp {s : zS} (hJ : JJ σ) (h : EQ σ s) : mP s = cP σ := h.mp.trans hJ.1.2.1
theorem JJ.eq {s t : zS} (hJ : JJ σ) (h : EQ σ s) (hS : STL s) (h2 : EM s t) : JJ t := JJ.em ⟨h.jd hJ.1, hS⟩ h2
set_option maxHeartbeats 1000000 in
theorem pr_has (hJ : JJ σ) {i w : Int} (hi : zB i) (hw : zB w) : PAIR μX4_has μX5_has [.int (zi i), .int (zi w)] σ := by
  have hW := hJ.1.1
  have hp := hW.1
  have hm := hJ.1.2.1
  have hsh := hJ.1.2.2.1
  refine PAIR.of (by decide) (by decide) (by decide) (c_X4_has rfl hi hw) (fun r s hh => ?_)
  obtain ⟨h1, h2⟩ := hh
  have h3 : STL s := h2 ▸ hJ.2
  have h2 : EQ σ s := by rw [h2]; exact EQ.rf
  refine ⟨(RQ.k (m := 5) rfl h1).int, _, ((c_X5_has (hJ.mp h2) hi hw).up (by decide)), fun r2 s2 jj => ?_⟩
  · obtain ⟨j1, hM⟩ := jj
    have hM : EM s s2 := by rw [hM]; exact EM.rf
    exact ⟨(RQ.k (m := 5) rfl h1).eq (RQ.k (m := 5) rfl j1), hJ.eq h2 h3 hM⟩
set_option maxHeartbeats 1000000 in
theorem pr_load (hJ : JJ σ) {i j w : Int} (hi : zB i) (hj : zB j) (hw : zB w) : PAIR μX4_load μX5_load [.int (zi i), .int (zi j), .int (zi w)] σ := by
  have hW := hJ.1.1
  have hp := hW.1
  have hm := hJ.1.2.1
  have hsh := hJ.1.2.2.1
  refine PAIR.of (by decide) (by decide) (by decide) (c_X4_load rfl hp hi hj hw) (fun r s hh => ?_)
  obtain ⟨h1, h2⟩ := hh
  have h3 : STL s := h2 ▸ hJ.2
  have h2 : EQ σ s := by rw [h2]; exact EQ.rf
  refine ⟨h1.int, _, ((c_X5_load (hJ.mp h2) hp hi hj hw).up (by decide)), fun r2 s2 jj => ?_⟩
  · obtain ⟨j1, hM⟩ := jj
    exact ⟨h1.eq j1, hJ.eq h2 h3 hM⟩
set_option maxHeartbeats 1000000 in
theorem pr_info (hJ : JJ σ) {i j w : Int} (hi : zB i) (hj : zB j) (hw : zB w) : PAIR μX4_info μX5_info [.int (zi i), .int (zi j), .int (zi w)] σ := by
  have hW := hJ.1.1
  have hp := hW.1
  have hm := hJ.1.2.1
  have hsh := hJ.1.2.2.1
  refine PAIR.of (by decide) (by decide) (by decide) (c_X4_info rfl hp hJ.2.1 hJ.2.2 hi hj hw) (fun r s hh => ?_)
  obtain ⟨h1, h2, h3⟩ := hh
  refine ⟨(RQ.k (m := 6) rfl h1).int, _, ((c_X5_info (hJ.mp h2) hp hi hj hw).up (by decide)), fun r2 s2 jj => ?_⟩
  · obtain ⟨j1, hM⟩ := jj
    exact ⟨(RQ.k (m := 6) rfl h1).eq (RQ.k (m := 6) rfl j1), hJ.eq h2 h3 hM⟩
set_option maxHeartbeats 1000000 in
theorem pr_bound (hJ : JJ σ) {i j : Int} (hi : zB i) (hj : zB j) : PAIR μX4_bound μX5_bound [.int (zi i), .int (zi j)] σ := by
  have hW := hJ.1.1
  have hp := hW.1
  have hm := hJ.1.2.1
  have hsh := hJ.1.2.2.1
  refine PAIR.of (by decide) (by decide) (by decide) (c_X4_bound rfl hp hJ.2.1 hJ.2.2 hi hj) (fun r s hh => ?_)
  obtain ⟨h1, h2, h3⟩ := hh
  refine ⟨h1.int, _, ((c_X5_bound (hJ.mp h2) hp hi hj).up (by decide)), fun r2 s2 jj => ?_⟩
  · obtain ⟨j1, hM⟩ := jj
    exact ⟨h1.eq j1, hJ.eq h2 h3 hM⟩
set_option maxHeartbeats 1000000 in
theorem pr_searched (hJ : JJ σ) {i j : Int} (hi : zB i) (hj : zB j) : PAIR μX4_searched μX5_searched [.int (zi i), .int (zi j)] σ := by
  have hW := hJ.1.1
  have hp := hW.1
  have hm := hJ.1.2.1
  have hsh := hJ.1.2.2.1
  refine PAIR.of (by decide) (by decide) (by decide) (c_X4_searched rfl hp hJ.2.1 hJ.2.2 hi hj) (fun r s hh => ?_)
  obtain ⟨h1, h2, h3⟩ := hh
  refine ⟨h1.int, _, ((c_X5_searched (hJ.mp h2) hp hi hj).up (by decide)), fun r2 s2 jj => ?_⟩
  · obtain ⟨j1, hM⟩ := jj
    exact ⟨h1.eq j1, hJ.eq h2 h3 hM⟩
set_option maxHeartbeats 1000000 in
theorem pr_quick (hJ : JJ σ) {i j : Int} (hi : zB i) (hj : zB j) : PAIR μX4_quick μX5_quick [.int (zi i), .int (zi j)] σ := by
  have hW := hJ.1.1
  have hp := hW.1
  have hm := hJ.1.2.1
  have hsh := hJ.1.2.2.1
  refine PAIR.of (by decide) (by decide) (by decide) (c_X4_quick rfl hp hJ.2.1 hJ.2.2 hi hj) (fun r s hh => ?_)
  obtain ⟨h1, h2, h3⟩ := hh
  refine ⟨h1.int, _, ((c_X5_quick (hJ.mp h2) hp hi hj).up (by decide)), fun r2 s2 jj => ?_⟩
  · obtain ⟨j1, hM⟩ := jj
    exact ⟨h1.eq j1, hJ.eq h2 h3 hM⟩
set_option maxHeartbeats 1000000 in
theorem pr_rounds (hJ : JJ σ)  : PAIR μX4_rounds μX5_rounds [] σ := by
  have hW := hJ.1.1
  have hp := hW.1
  have hm := hJ.1.2.1
  have hsh := hJ.1.2.2.1
  refine PAIR.of (by decide) (by decide) (by decide) (c_X4_rounds rfl hp hJ.2.1 hJ.2.2) (fun r s hh => ?_)
  obtain ⟨h1, h2, h3⟩ := hh
  refine ⟨⟨_, h1⟩, _, ((c_X5_rounds (hJ.mp h2) hp).up (by decide)), fun r2 s2 jj => ?_⟩
  · obtain ⟨j1, hM⟩ := jj
    exact ⟨j1.trans h1.symm, hJ.eq h2 h3 hM⟩
set_option maxHeartbeats 1000000 in
theorem pr_meets (hJ : JJ σ)  : PAIR μX4_meets μX5_meets [] σ := by
  have hW := hJ.1.1
  have hp := hW.1
  have hm := hJ.1.2.1
  have hsh := hJ.1.2.2.1
  refine PAIR.of (by decide) (by decide) (by decide) (c_X4_meets rfl hp hJ.2.1 hJ.2.2) (fun r s hh => ?_)
  obtain ⟨h1, h2, h3⟩ := hh
  refine ⟨⟨_, h1⟩, _, ((c_X5_meets (hJ.mp h2) hp).up (by decide)), fun r2 s2 jj => ?_⟩
  · obtain ⟨j1, hM⟩ := jj
    exact ⟨j1.trans h1.symm, hJ.eq h2 h3 hM⟩
set_option maxHeartbeats 1000000 in
theorem pr_worst (hJ : JJ σ) {i j w : Int} (hi : zB i) (hj : zB j) (hw : zB w) : PAIR μX4_worst μX5_worst [.int (zi i), .int (zi j), .int (zi w)] σ := by
  have hW := hJ.1.1
  have hp := hW.1
  have hm := hJ.1.2.1
  have hsh := hJ.1.2.2.1
  refine PAIR.of (by decide) (by decide) (by decide) (c_X4_worst rfl hp hJ.2.1 hJ.2.2 hi hj hw) (fun r s hh => ?_)
  obtain ⟨h1, h2, h3⟩ := hh
  refine ⟨h1.int, _, ((c_X5_worst (hJ.mp h2) hp hi hj hw).up (by decide)), fun r2 s2 jj => ?_⟩
  · obtain ⟨j1, hM⟩ := jj
    exact ⟨h1.eq j1, hJ.eq h2 h3 hM⟩
set_option maxHeartbeats 1000000 in
theorem pr_margin (hJ : JJ σ) {i j : Int} (hi : zB i) (hj : zB j) : PAIR μX4_margin μX5_margin [.int (zi i), .int (zi j)] σ := by
  have hW := hJ.1.1
  have hp := hW.1
  have hm := hJ.1.2.1
  have hsh := hJ.1.2.2.1
  refine PAIR.of (by decide) (by decide) (by decide) (c_X4_margin rfl hW hJ.2.1 hJ.2.2 hi hj) (fun r s hh => ?_)
  obtain ⟨h1, h2, h3⟩ := hh
  refine ⟨h1.int, _, ((c_X5_margin (hJ.mp h2) hW hi hj).up (by decide)), fun r2 s2 jj => ?_⟩
  · obtain ⟨j1, hM⟩ := jj
    exact ⟨h1.eq j1, hJ.eq h2 h3 hM⟩
set_option maxHeartbeats 1000000 in
theorem pr_better (hJ : JJ σ) {i j w : Int} (hi : zB i) (hj : zB j) (hw : zB w) : PAIR μX4_better μX5_better [.int (zi i), .int (zi j), .int (zi w)] σ := by
  have hW := hJ.1.1
  have hp := hW.1
  have hm := hJ.1.2.1
  have hsh := hJ.1.2.2.1
  refine PAIR.of (by decide) (by decide) (by decide) (c_X4_better rfl hp hJ.2.1 hJ.2.2 hi hj hw) (fun r s hh => ?_)
  obtain ⟨h1, h2, h3⟩ := hh
  refine ⟨h1.int, _, ((c_X5_better (hJ.mp h2) hp hi hj hw).up (by decide)), fun r2 s2 jj => ?_⟩
  · obtain ⟨j1, hM⟩ := jj
    exact ⟨h1.eq j1, hJ.eq h2 h3 hM⟩
set_option maxHeartbeats 1000000 in
theorem pr_seen (hJ : JJ σ) {i j w : Int} (hi : zB i) (hj : zB j) (hw : zB w) : PAIR μX4_seen μX5_seen [.int (zi i), .int (zi j), .int (zi w)] σ := by
  have hW := hJ.1.1
  have hp := hW.1
  have hm := hJ.1.2.1
  have hsh := hJ.1.2.2.1
  refine PAIR.of (by decide) (by decide) (by decide) (c_X4_seen rfl hp hi hj hw) (fun r s hh => ?_)
  obtain ⟨h1, h2⟩ := hh
  have h3 : STL s := h2 ▸ hJ.2
  have h2 : EQ σ s := by rw [h2]; exact EQ.rf
  refine ⟨h1.int, _, ((c_X5_seen (hJ.mp h2) hp (h2.jd hJ.1) hi hj hw).up (by decide)), fun r2 s2 jj => ?_⟩
  · obtain ⟨j1, hM⟩ := jj
    rw [snA_q h2] at j1
    exact ⟨h1.eq j1, hJ.eq h2 h3 hM⟩
set_option maxHeartbeats 1000000 in
theorem pr_tick (hJ : JJ σ) {n t : Int} (hn : zB n) (ht : zB t) : PAIR μX4_tick μX5_tick [.int (zi n), .int (zi t)] σ := by
  have hW := hJ.1.1
  have hp := hW.1
  have hm := hJ.1.2.1
  have hsh := hJ.1.2.2.1
  refine PAIR.of (by decide) (by decide) (by decide) (c_X4_tick hn ht) (fun r s hh => ?_)
  obtain ⟨h1, rfl⟩ := hh
  refine ⟨h1.int, _, ((c_X5_tick hJ.1 hn ht).up (by decide)), fun r2 s2 jj => ?_⟩
  obtain ⟨j1, hM⟩ := jj
  exact ⟨h1.eq j1, JJ.em hJ hM⟩
set_option maxHeartbeats 1000000 in
theorem pr_count (hJ : JJ σ) {w : Int} (hw : zB w) : PAIR μX4_count μX5_count [.int (zi w)] σ := by
  have hW := hJ.1.1
  have hp := hW.1
  have hm := hJ.1.2.1
  have hsh := hJ.1.2.2.1
  refine PAIR.of (by decide) (by decide) (by decide) (c_X4_count rfl hp hJ.2.1 hJ.2.2 hw) (fun r s hh => ?_)
  obtain ⟨h1, h2, h3⟩ := hh
  refine ⟨h1.int, _, ((c_X5_count (hJ.mp h2) hp (h2.jd hJ.1) hw).up (by decide)), fun r2 s2 jj => ?_⟩
  · obtain ⟨j1, hM⟩ := jj
    rw [cntA_e h2] at j1
    exact ⟨h1.eq j1, hJ.eq h2 h3 hM⟩
set_option maxHeartbeats 1000000 in
theorem pr_digest (hJ : JJ σ)  : PAIRJ μX4_digest μX5_digest [] σ := by
  have hW := hJ.1.1
  have hp := hW.1
  have hm := hJ.1.2.1
  have hsh := hJ.1.2.2.1
  refine PAIRJ.of (by decide) (by decide) (by decide) (c_X4_digest rfl hp hJ.2.1 hJ.2.2) (fun r s hh => ?_)
  obtain ⟨h1, h2, h3⟩ := hh
  refine ⟨⟨_, h1⟩, _, ((c_X5_digest (hJ.mp h2) hp (h2.jd hJ.1)).up (by decide)), fun r2 s2 jj => ?_⟩
  · obtain ⟨j1, hM⟩ := jj
    rw [dgA_e h2] at j1
    exact ⟨j1.trans h1.symm, hJ.eq h2 h3 hM⟩
theorem cC_l {k : Nat} (hk : k < 10) : cC k < 14 := by
  rcases (show k = 0 ∨ k = 1 ∨ k = 2 ∨ k = 3 ∨ k = 4 ∨ k = 5 ∨ k = 6 ∨ k = 7 ∨ k = 8 ∨ k = 9 by omega) with rfl | rfl | rfl | rfl | rfl | rfl | rfl | rfl | rfl | rfl <;> decide
theorem SHJ.fd {f : Int} (h : SHJ σ σ) : SHJ σ (zu σ 0 5 f) := SHJ.to (s := zu σ 0 5 f) h (zu_nc (by omega)) (zu_nc (by omega)) rfl
theorem bgC_o {k c : Nat} {f n : Int} (h : c ≠ 59 + 2 * k) : (bgC σ k f n).1 c = σ.1 c := by
  show (zu (zu (zu σ (59 + 2 * k) 0 0) (59 + 2 * k) 1 f) (59 + 2 * k) 2 n).1 c = _
  rw [zu_nc h, zu_nc h, zu_nc h]
theorem bgC_l {k c : Nat} {f n : Int} (h : c ≠ 60 + 2 * k) : (bgC σ k f n).2 c = σ.2 c := zfl_nc h
theorem mP_14 {c : Nat} {i v : Int} (hc : c < 67) : mP (zu (zu σ c i v) 14 17 1) = mP σ := mP_c (fun c' a b => by rw [zu_nc (by omega), zu_nc (by omega)])
theorem mP_o {c : Nat} {i v : Int} (hc : c < 72) : mP (zu σ c i v) = mP σ := mP_c (fun c' a b => by rw [zu_nc (by omega)])
set_option maxHeartbeats 1000000 in
theorem pr_chain (hJ : JJ σ) {i w v : Int} (hi : zB i) (hw : zB w) (hv : zB v) : PAIR μX4_chain μX5_chain [.int (zi i), .int (zi w), .int (zi v)] σ := by
  have hW := hJ.1.1
  have hp := hW.1
  have hm := hJ.1.2.1
  have hsh := hJ.1.2.2.1
  refine PAIR.of (by decide) (by decide) (by decide) (c_X4_chain rfl hi hw hv) (fun r s hh => ?_)
  rcases hh with ⟨k, hk, ek, hi3, ht, rfl, rfl⟩ | ⟨hn, rfl, rfl⟩
  · refine ⟨⟨_, rfl⟩, _, ((c_X5_chain ((mP_14 (by have := cC_l (show k < 10 by omega); omega)).trans hm) hi hw hv).up (by decide)), fun r2 s2 jj => ?_⟩
    rcases jj with ⟨k2, hk2, ek2, -, -, rfl, rfl⟩ | ⟨hn, -, -⟩
    · obtain rfl : k2 = k := by omega
      subst ek
      exact ⟨rfl, hJ.chain hk ht⟩
    · exact absurd ⟨hi3, ht⟩ hn
  · refine ⟨⟨_, rfl⟩, _, ((c_X5_chain hm hi hw hv).up (by decide)), fun r2 s2 jj => ?_⟩
    rcases jj with ⟨k2, hk2, ek2, a, b, -, -⟩ | ⟨-, rfl, rfl⟩
    · exact absurd ⟨a, b⟩ hn
    · exact ⟨rfl, hJ⟩
set_option maxHeartbeats 1000000 in
theorem pr_step (hJ : JJ σ) {i a b c e : Int} (hi : zB i) (ha : zB a) (hb : zB b) (hc : zB c) (he : zB e) : PAIR μX4_step μX5_step [.int (zi i), .int (zi a), .int (zi b), .int (zi c), .int (zi e)] σ := by
  have hW := hJ.1.1
  have hp := hW.1
  have hm := hJ.1.2.1
  have hsh := hJ.1.2.2.1
  refine PAIR.of (by decide) (by decide) (by decide) (c_X4_step rfl hp hi ha hb hc he) (fun r s hh => ?_)
  rcases hh with ⟨h1, h2, rfl, rfl⟩ | ⟨h1, h2, rfl, rfl⟩ | ⟨h1, rfl, rfl⟩
  · refine ⟨⟨_, rfl⟩, _, ((c_X5_step ((mP_c (fun c q1 q2 => by rw [apC_o (by omega), zu_nc (by omega)])).trans hm) hp hi ha hb hc he).up (by decide)), fun r2 s2 jj => ?_⟩
    rcases jj with ⟨-, -, rfl, rfl⟩ | ⟨-, n, -, -⟩ | ⟨n, -, -⟩
    · exact ⟨rfl, hJ.step h1.1.1 h1.1.2 h2 h1.2.1 h1.2.2.1 h1.2.2.2.1 h1.2.2.2.2⟩
    · omega
    · exact absurd h1 n
  · refine ⟨⟨_, rfl⟩, _, ((c_X5_step hm hp hi ha hb hc he).up (by decide)), fun r2 s2 jj => ?_⟩
    rcases jj with ⟨-, n, -, -⟩ | ⟨-, -, rfl, rfl⟩ | ⟨n, -, -⟩
    · omega
    · exact ⟨rfl, hJ⟩
    · exact absurd h1 n
  · refine ⟨⟨_, rfl⟩, _, ((c_X5_step hm hp hi ha hb hc he).up (by decide)), fun r2 s2 jj => ?_⟩
    rcases jj with ⟨n, -, -, -⟩ | ⟨n, -, -, -⟩ | ⟨-, rfl, rfl⟩
    · exact absurd n h1
    · exact absurd n h1
    · exact ⟨rfl, hJ⟩
set_option maxHeartbeats 1000000 in
theorem pr_back (hJ : JJ σ) {i : Int} (hi : zB i) : PAIR μX4_back μX5_back [.int (zi i)] σ := by
  have hW := hJ.1.1
  have hp := hW.1
  have hm := hJ.1.2.1
  have hsh := hJ.1.2.2.1
  refine PAIR.of (by decide) (by decide) (by decide) (c_X4_back rfl hp hi) (fun r s hh => ?_)
  rcases hh with ⟨h1, h2, rfl, rfl⟩ | ⟨h1, h2, rfl, rfl⟩ | ⟨h1, rfl, rfl⟩
  · refine ⟨⟨_, rfl⟩, _, ((c_X5_back ((mP_14 (by decide)).trans hm) hp hi).up (by decide)), fun r2 s2 jj => ?_⟩
    rcases jj with ⟨-, -, rfl, rfl⟩ | ⟨-, n, -, -⟩ | ⟨n, -, -⟩
    · exact ⟨rfl, hJ.back h1.1 h1.2 h2⟩
    · omega
    · exact absurd h1 n
  · refine ⟨⟨_, rfl⟩, _, ((c_X5_back hm hp hi).up (by decide)), fun r2 s2 jj => ?_⟩
    rcases jj with ⟨-, n, -, -⟩ | ⟨-, -, rfl, rfl⟩ | ⟨n, -, -⟩
    · omega
    · exact ⟨rfl, hJ⟩
    · exact absurd h1 n
  · refine ⟨⟨_, rfl⟩, _, ((c_X5_back hm hp hi).up (by decide)), fun r2 s2 jj => ?_⟩
    rcases jj with ⟨n, -, -, -⟩ | ⟨n, -, -, -⟩ | ⟨-, rfl, rfl⟩
    · exact absurd n h1
    · exact absurd n h1
    · exact ⟨rfl, hJ⟩
set_option maxHeartbeats 1000000 in
theorem pr_tune (hJ : JJ σ) {i j w v : Int} (hi : zB i) (hj : zB j) (hw : zB w) (hv : zB v) : PAIR μX4_tune μX5_tune [.int (zi i), .int (zi j), .int (zi w), .int (zi v)] σ := by
  have hW := hJ.1.1
  have hp := hW.1
  have hm := hJ.1.2.1
  have hsh := hJ.1.2.2.1
  refine PAIR.of (by decide) (by decide) (by decide) (c_X4_tune rfl hp hi hj hw hv) (fun r s hh => ?_)
  rcases hh with ⟨k, hk, ek, hs, ht, rfl, rfl⟩ | ⟨hn, rfl, rfl⟩
  · refine ⟨⟨_, rfl⟩, _, ((c_X5_tune ((mP_14 (by have := cC_l (show 6 + k < 10 by omega); omega)).trans hm) hp hi hj hw hv).up (by decide)), fun r2 s2 jj => ?_⟩
    rcases jj with ⟨k2, hk2, ek2, -, -, rfl, rfl⟩ | ⟨hn, -, -⟩
    · obtain rfl : k2 = k := by omega
      subst ek
      exact ⟨rfl, hJ.tune hk ht⟩
    · exact absurd ⟨hs, ht⟩ hn
  · refine ⟨⟨_, rfl⟩, _, ((c_X5_tune hm hp hi hj hw hv).up (by decide)), fun r2 s2 jj => ?_⟩
    rcases jj with ⟨k2, hk2, ek2, a, b, -, -⟩ | ⟨-, rfl, rfl⟩
    · exact absurd ⟨a, b⟩ hn
    · exact ⟨rfl, hJ⟩
set_option maxHeartbeats 1000000 in
theorem pr_run (hJ : JJ σ) {h : Int} (hh : zB h) : PAIR μX4_run μX5_run [.int (zi h)] σ := by
  have hW := hJ.1.1
  have hp := hW.1
  have hm := hJ.1.2.1
  have hsh := hJ.1.2.2.1
  refine PAIR.of (by decide) (by decide) (by decide) (c_X4_run rfl hp hh) (fun r s h9 => ?_)
  rcases h9 with ⟨h1, rfl, rfl⟩ | ⟨h1, rfl, rfl⟩
  · refine ⟨⟨_, rfl⟩, _, ((c_X5_run (mP_c (fun c a b => crun_o hp h1.2 (by omega)) |>.trans hm) hp hh σ).up (by decide)), fun r2 s2 jj => ?_⟩
    rcases jj with ⟨-, -, rfl, hF, hR⟩ | ⟨n, -, -⟩
    · exact ⟨rfl, hJ.run h1.1 h1.2 hF hR⟩
    · exact absurd h1 n
  · refine ⟨⟨_, rfl⟩, _, ((c_X5_run hm hp hh s).up (by decide)), fun r2 s2 jj => ?_⟩
    rcases jj with ⟨a, b, -, -, -⟩ | ⟨-, rfl, rfl⟩
    · exact absurd ⟨a, b⟩ h1
    · exact ⟨rfl, hJ⟩
set_option maxHeartbeats 1000000 in
theorem pr_sheet (hJ : JJ σ) {q f n : Int} (hq : zB q) (hf : zB f) (hn : zB n) : PAIR μX4_sheet μX5_sheet [.int (zi q), .int (zi f), .int (zi n)] σ := by
  have hW := hJ.1.1
  have hp := hW.1
  have hm := hJ.1.2.1
  have hsh := hJ.1.2.2.1
  refine PAIR.of (by decide) (by decide) (by decide) (c_X4_sheet hsh hq hf hn) (fun r s hh => ?_)
  rcases hh with ⟨k, hk, ek, h1, h2, rfl, rfl⟩ | ⟨h1, h2, rfl, rfl⟩ | ⟨h1, rfl, rfl⟩
  · refine ⟨⟨_, rfl⟩, _, ((c_X5_sheet (SHJ.to (s := bgC σ k f n) hsh (bgC_o (by omega)) (bgC_o (by omega)) (bgC_l (by omega))) hq hf hn).up (by decide)), fun r2 s2 jj => ?_⟩
    rcases jj with ⟨k2, hk2, ek2, -, -, rfl, rfl⟩ | ⟨-, n, -, -⟩ | ⟨n, -, -⟩
    · obtain rfl : k2 = k := by omega
      exact ⟨rfl, hJ.sheet hk h1.2.1 ⟨h2, h1.2.2⟩⟩
    · omega
    · exact absurd h1 n
  · refine ⟨⟨_, rfl⟩, _, ((c_X5_sheet (SHJ.fd hsh) hq hf hn).up (by decide)), fun r2 s2 jj => ?_⟩
    rcases jj with ⟨k2, hk2, ek2, -, n, -, -⟩ | ⟨-, -, rfl, rfl⟩ | ⟨n, -, -⟩
    · omega
    · exact ⟨rfl, hJ.fd 5⟩
    · exact absurd h1 n
  · refine ⟨⟨_, rfl⟩, _, ((c_X5_sheet hsh hq hf hn).up (by decide)), fun r2 s2 jj => ?_⟩
    rcases jj with ⟨k2, hk2, ek2, n, -, -, -⟩ | ⟨n, -, -, -⟩ | ⟨-, rfl, rfl⟩
    · exact absurd n h1
    · exact absurd n h1
    · exact ⟨rfl, hJ⟩
set_option maxHeartbeats 1000000 in
theorem pr_lose (hJ : JJ σ) {q : Int} (hq : zB q) : PAIR μX4_lose μX5_lose [.int (zi q)] σ := by
  have hW := hJ.1.1
  have hp := hW.1
  have hm := hJ.1.2.1
  have hsh := hJ.1.2.2.1
  refine PAIR.of (by decide) (by decide) (by decide) (c_X4_lose hsh hq) (fun r s hh => ?_)
  rcases hh with ⟨k, hk, ek, h1, rfl, rfl⟩ | ⟨k, hk, ek, h1, rfl, rfl⟩ | ⟨h1, rfl, rfl⟩
  · refine ⟨⟨_, rfl⟩, _, ((c_X5_lose (SHJ.to (s := zu σ (59 + 2 * k) 0 1) hsh (zu_nc (by omega)) (zu_nc (by omega)) rfl) hq).up (by decide)), fun r2 s2 jj => ?_⟩
    rcases jj with ⟨k2, hk2, ek2, -, rfl, rfl⟩ | ⟨k2, hk2, ek2, n, -, -⟩ | ⟨n, -, -⟩
    · obtain rfl : k2 = k := by omega
      exact ⟨rfl, hJ.lose hk⟩
    · obtain rfl : k2 = k := by omega
      omega
    · omega
  · refine ⟨⟨_, rfl⟩, _, ((c_X5_lose (SHJ.fd hsh) hq).up (by decide)), fun r2 s2 jj => ?_⟩
    rcases jj with ⟨k2, hk2, ek2, n, -, -⟩ | ⟨k2, hk2, ek2, -, rfl, rfl⟩ | ⟨n, -, -⟩
    · obtain rfl : k2 = k := by omega
      omega
    · exact ⟨rfl, hJ.fd 1⟩
    · omega
  · refine ⟨⟨_, rfl⟩, _, ((c_X5_lose hsh hq).up (by decide)), fun r2 s2 jj => ?_⟩
    rcases jj with ⟨k2, hk2, ek2, n, -, -⟩ | ⟨k2, hk2, ek2, n, -, -⟩ | ⟨-, rfl, rfl⟩
    · omega
    · omega
    · exact ⟨rfl, hJ⟩
set_option maxHeartbeats 1000000 in
theorem pr_lay (hJ : JJ σ) {q f i v : Int} (hq : zB q) (hf : zB f) (hi : zB i) (hv : zB v) : PAIR μX4_lay μX5_lay [.int (zi q), .int (zi f), .int (zi i), .int (zi v)] σ := by
  have hW := hJ.1.1
  have hp := hW.1
  have hm := hJ.1.2.1
  have hsh := hJ.1.2.2.1
  refine PAIR.of (by decide) (by decide) (by decide) (c_X4_lay hsh hq hf hi hv) (fun r s hh => ?_)
  rcases hh with ⟨k, hk, ek, h1, h2, rfl, rfl⟩ | ⟨k, hk, ek, h1, h2, rfl, rfl⟩ | ⟨h1, rfl, rfl⟩
  · refine ⟨⟨_, rfl⟩, _, ((c_X5_lay (SHJ.to (s := zul σ (60 + 2 * k) i (lvA f v)) hsh rfl rfl (zul_nc (by omega))) hq hf hi hv).up (by decide)), fun r2 s2 jj => ?_⟩
    rcases jj with ⟨k2, hk2, ek2, -, -, rfl, rfl⟩ | ⟨k2, hk2, ek2, -, n, -, -⟩ | ⟨n, -, -⟩
    · obtain rfl : k2 = k := by omega
      have hi0 : 0 ≤ i ∧ i < σ.1 (59 + 2 * k2) 2 := by
        unfold trb at h2
        split at h2
        · omega
        · split at h2
          · omega
          · split at h2
            · omega
            · omega
      exact ⟨rfl, hJ.lay hk hi0 (lvA_64 h1.2 hv)⟩
    · obtain rfl : k2 = k := by omega
      exact absurd h2 n
    · exact absurd h1 n
  · refine ⟨⟨_, rfl⟩, _, ((c_X5_lay (SHJ.fd hsh) hq hf hi hv).up (by decide)), fun r2 s2 jj => ?_⟩
    rcases jj with ⟨k2, hk2, ek2, -, n, -, -⟩ | ⟨k2, hk2, ek2, -, -, rfl, rfl⟩ | ⟨n, -, -⟩
    · obtain rfl : k2 = k := by omega
      exact absurd n h2
    · obtain rfl : k2 = k := by omega
      exact ⟨rfl, hJ.fd _⟩
    · exact absurd h1 n
  · refine ⟨⟨_, rfl⟩, _, ((c_X5_lay hsh hq hf hi hv).up (by decide)), fun r2 s2 jj => ?_⟩
    rcases jj with ⟨k2, hk2, ek2, n, -, -, -⟩ | ⟨k2, hk2, ek2, n, -, -, -⟩ | ⟨-, rfl, rfl⟩
    · exact absurd n h1
    · exact absurd n h1
    · exact ⟨rfl, hJ⟩
set_option maxHeartbeats 1000000 in
theorem pr_get (hJ : JJ σ) {q f i : Int} (hq : zB q) (hf : zB f) (hi : zB i) : PAIRJ μX4_get μX5_get [.int (zi q), .int (zi f), .int (zi i)] σ := by
  have hW := hJ.1.1
  have hp := hW.1
  have hm := hJ.1.2.1
  have hsh := hJ.1.2.2.1
  refine PAIRJ.of (by decide) (by decide) (by decide) (c_X4_get hsh hq hf hi) (fun r s hh => ?_)
  rcases hh with ⟨k, hk, ek, h1, h2, rfl, rfl⟩ | ⟨k, hk, ek, h1, h2, rfl, rfl⟩ | ⟨h1, rfl, rfl⟩
  · refine ⟨⟨_, rfl⟩, _, ((c_X5_get hsh hq hf hi).up (by decide)), fun r2 s2 jj => ?_⟩
    rcases jj with ⟨k2, hk2, ek2, -, -, rfl, rfl⟩ | ⟨k2, hk2, ek2, -, n, -, -⟩ | ⟨n, -, -⟩
    · obtain rfl : k2 = k := by omega
      exact ⟨rfl, hJ⟩
    · obtain rfl : k2 = k := by omega
      exact absurd h2 n
    · exact absurd h1 n
  · refine ⟨⟨_, rfl⟩, _, ((c_X5_get (SHJ.fd hsh) hq hf hi).up (by decide)), fun r2 s2 jj => ?_⟩
    rcases jj with ⟨k2, hk2, ek2, -, n, -, -⟩ | ⟨k2, hk2, ek2, -, -, rfl, rfl⟩ | ⟨n, -, -⟩
    · obtain rfl : k2 = k := by omega
      exact absurd n h2
    · obtain rfl : k2 = k := by omega
      exact ⟨rfl, hJ.fd _⟩
    · exact absurd h1 n
  · refine ⟨⟨_, rfl⟩, _, ((c_X5_get hsh hq hf hi).up (by decide)), fun r2 s2 jj => ?_⟩
    rcases jj with ⟨k2, hk2, ek2, n, -, -, -⟩ | ⟨k2, hk2, ek2, n, -, -, -⟩ | ⟨-, rfl, rfl⟩
    · exact absurd n h1
    · exact absurd n h1
    · exact ⟨rfl, hJ⟩
set_option maxHeartbeats 1000000 in
theorem pr_copy (hJ : JJ σ) {q i t j n : Int} (hq : zB q) (hi : zB i) (ht : zB t) (hj : zB j) (hn : zB n) : PAIR μX4_copy μX5_copy [.int (zi q), .int (zi i), .int (zi t), .int (zi j), .int (zi n)] σ := by
  have hW := hJ.1.1
  have hp := hW.1
  have hm := hJ.1.2.1
  have hsh := hJ.1.2.2.1
  refine PAIR.of (by decide) (by decide) (by decide) (c_X4_copy hsh hq hi ht hj hn) (fun r s hh => ?_)
  rcases hh with ⟨k, l, ⟨hk, hl, ek, el⟩, h1, h2, h3, h4, rfl, rfl⟩ | ⟨k, l, ⟨hk, hl, ek, el⟩, h1, rfl, rfl⟩ | ⟨k, l, ⟨hk, hl, ek, el⟩, h1, h2, h3, rfl, rfl⟩ | ⟨k, l, ⟨hk, hl, ek, el⟩, h1, h2, h3, h4, rfl, rfl⟩ | ⟨h1, rfl, rfl⟩
  · refine ⟨⟨_, rfl⟩, _, ((c_X5_copy (SHJ.to (s := cpC σ k l i j n) hsh rfl rfl (by unfold cpC; dsimp only; rw [if_neg (by omega)])) hq hi ht hj hn).up (by decide)), fun r2 s2 jj => ?_⟩
    rcases jj with ⟨k2, l2, ⟨q1, q2, q3, q4⟩, n0, n1, n2, n3, rfl, hs⟩ | ⟨k2, l2, ⟨q1, q2, q3, q4⟩, n0, -, -⟩ | ⟨k2, l2, ⟨q1, q2, q3, q4⟩, n0, n1, n2, -, -⟩ | ⟨k2, l2, ⟨q1, q2, q3, q4⟩, n0, n1, n2, n3, -, -⟩ | ⟨n, -, -⟩
    · obtain rfl : k2 = k := by omega
      obtain rfl : l2 = l := by omega
      exact ⟨rfl, hJ.copy hk hl h4 hs⟩
    · obtain rfl : k2 = k := by omega
      obtain rfl : l2 = l := by omega
      omega
    · obtain rfl : k2 = k := by omega
      obtain rfl : l2 = l := by omega
      exact absurd h3 n2
    · obtain rfl : k2 = k := by omega
      obtain rfl : l2 = l := by omega
      exact absurd h4 n3
    · omega
  · refine ⟨⟨_, rfl⟩, _, ((c_X5_copy (SHJ.fd hsh) hq hi ht hj hn).up (by decide)), fun r2 s2 jj => ?_⟩
    rcases jj with ⟨k2, l2, ⟨q1, q2, q3, q4⟩, n0, n1, n2, n3, -, -⟩ | ⟨k2, l2, ⟨q1, q2, q3, q4⟩, n0, rfl, rfl⟩ | ⟨k2, l2, ⟨q1, q2, q3, q4⟩, n0, n1, n2, -, -⟩ | ⟨k2, l2, ⟨q1, q2, q3, q4⟩, n0, n1, n2, n3, -, -⟩ | ⟨n, -, -⟩
    · obtain rfl : k2 = k := by omega
      obtain rfl : l2 = l := by omega
      omega
    · obtain rfl : k2 = k := by omega
      obtain rfl : l2 = l := by omega
      exact ⟨rfl, hJ.fd 1⟩
    · obtain rfl : k2 = k := by omega
      obtain rfl : l2 = l := by omega
      omega
    · obtain rfl : k2 = k := by omega
      obtain rfl : l2 = l := by omega
      omega
    · omega
  · refine ⟨⟨_, rfl⟩, _, ((c_X5_copy (SHJ.fd hsh) hq hi ht hj hn).up (by decide)), fun r2 s2 jj => ?_⟩
    rcases jj with ⟨k2, l2, ⟨q1, q2, q3, q4⟩, n0, n1, n2, n3, -, -⟩ | ⟨k2, l2, ⟨q1, q2, q3, q4⟩, n0, -, -⟩ | ⟨k2, l2, ⟨q1, q2, q3, q4⟩, n0, n1, n2, rfl, rfl⟩ | ⟨k2, l2, ⟨q1, q2, q3, q4⟩, n0, n1, n2, n3, -, -⟩ | ⟨n, -, -⟩
    · obtain rfl : k2 = k := by omega
      obtain rfl : l2 = l := by omega
      exact absurd n2 h3
    · obtain rfl : k2 = k := by omega
      obtain rfl : l2 = l := by omega
      omega
    · obtain rfl : k2 = k := by omega
      obtain rfl : l2 = l := by omega
      exact ⟨rfl, hJ.fd 4⟩
    · obtain rfl : k2 = k := by omega
      obtain rfl : l2 = l := by omega
      exact absurd n2 h3
    · omega
  · refine ⟨⟨_, rfl⟩, _, ((c_X5_copy (SHJ.fd hsh) hq hi ht hj hn).up (by decide)), fun r2 s2 jj => ?_⟩
    rcases jj with ⟨k2, l2, ⟨q1, q2, q3, q4⟩, n0, n1, n2, n3, -, -⟩ | ⟨k2, l2, ⟨q1, q2, q3, q4⟩, n0, -, -⟩ | ⟨k2, l2, ⟨q1, q2, q3, q4⟩, n0, n1, n2, -, -⟩ | ⟨k2, l2, ⟨q1, q2, q3, q4⟩, n0, n1, n2, n3, rfl, rfl⟩ | ⟨n, -, -⟩
    · obtain rfl : k2 = k := by omega
      obtain rfl : l2 = l := by omega
      exact absurd n3 h4
    · obtain rfl : k2 = k := by omega
      obtain rfl : l2 = l := by omega
      omega
    · obtain rfl : k2 = k := by omega
      obtain rfl : l2 = l := by omega
      exact absurd h3 n2
    · obtain rfl : k2 = k := by omega
      obtain rfl : l2 = l := by omega
      exact ⟨rfl, hJ.fd 2⟩
    · omega
  · refine ⟨⟨_, rfl⟩, _, ((c_X5_copy hsh hq hi ht hj hn).up (by decide)), fun r2 s2 jj => ?_⟩
    rcases jj with ⟨k2, l2, ⟨q1, q2, q3, q4⟩, n0, n1, n2, n3, -, -⟩ | ⟨k2, l2, ⟨q1, q2, q3, q4⟩, n0, -, -⟩ | ⟨k2, l2, ⟨q1, q2, q3, q4⟩, n0, n1, n2, -, -⟩ | ⟨k2, l2, ⟨q1, q2, q3, q4⟩, n0, n1, n2, n3, -, -⟩ | ⟨-, rfl, rfl⟩
    · omega
    · omega
    · omega
    · omega
    · exact ⟨rfl, hJ⟩
set_option maxHeartbeats 1000000 in
theorem pr_read (hJ : JJ σ) {i q : Int} (hi : zB i) (hq : zB q) : PAIR μX4_read μX5_read [.int (zi i), .int (zi q)] σ := by
  have hW := hJ.1.1
  have hp := hW.1
  have hm := hJ.1.2.1
  have hsh := hJ.1.2.2.1
  refine PAIR.of (by decide) (by decide) (by decide) (c_X4_read rfl hW hsh hi hq) (fun r s hh => ?_)
  rcases hh with ⟨k, n, ⟨hk, ek⟩, hi3, h1, hg, hg2, rfl, rfl⟩ | ⟨k, hk, ek, hi3, h1, rfl, rfl⟩ | ⟨h1, rfl, rfl⟩
  · refine ⟨⟨_, rfl⟩, _, ((c_X5_read (by rw [(show mP (if 0 < n then zu (rdC σ k i n) 14 17 1 else σ) = cP σ by split <;> first | exact hm | exact (mP_c (fun c a b => by rw [zu_nc (by omega), rdC_o (by omega)])).trans hm)]; exact hW) (SHJ.to (s := if 0 < n then zu (rdC σ k i n) 14 17 1 else σ) hsh (by split <;> first | rfl | (rw [zu_nc (by omega)]; exact rdC_o (by omega) n)) (by split <;> first | rfl | (rw [zu_nc (by omega)]; exact rdC_o (by omega) n)) (by split <;> first | rfl | exact congrFun (rdC_l n) 70)) hi hq).up (by decide)), fun r2 s2 jj => ?_⟩
    rcases jj with ⟨k2, n2, ⟨hk2, ek2⟩, -, -, j1, j2, rfl, rfl⟩ | ⟨k2, hk2, ek2, -, n, -, -⟩ | ⟨n, -, -⟩
    · obtain rfl : k2 = k := by omega
      rw [(show mP (if 0 < n then zu (rdC σ k2 i n) 14 17 1 else σ) = cP σ by split <;> first | exact hm | exact (mP_c (fun c a b => by rw [zu_nc (by omega), rdC_o (by omega)])).trans hm)] at j1 j2
      obtain rfl : n2 = n := by
        rcases Nat.lt_trichotomy n2 n with a | a | a
        · exact absurd (hg n2 a) j2
        · exact a
        · exact absurd (j1 n a) hg2
      exact ⟨rfl, hJ.read hi3.1 hi3.2 hg⟩
    · obtain rfl : k2 = k := by omega
      omega
    · omega
  · refine ⟨⟨_, rfl⟩, _, ((c_X5_read (by rw [mP_o (by decide), hm]; exact hW) (SHJ.fd hsh) hi hq).up (by decide)), fun r2 s2 jj => ?_⟩
    rcases jj with ⟨k2, n2, ⟨hk2, ek2⟩, -, n, -, -, -, -⟩ | ⟨k2, hk2, ek2, -, -, rfl, rfl⟩ | ⟨n, -, -⟩
    · obtain rfl : k2 = k := by omega
      omega
    · exact ⟨rfl, hJ.fd 1⟩
    · omega
  · refine ⟨⟨_, rfl⟩, _, ((c_X5_read (by rw [hm]; exact hW) hsh hi hq).up (by decide)), fun r2 s2 jj => ?_⟩
    rcases jj with ⟨k2, n2, ⟨hk2, ek2⟩, a, -, -, -, -, -⟩ | ⟨k2, hk2, ek2, a, -, -, -⟩ | ⟨-, rfl, rfl⟩
    · omega
    · omega
    · exact ⟨rfl, hJ⟩
set_option maxHeartbeats 1000000 in
theorem pr_write (hJ : JJ σ) {q : Int} (hq : zB q) : PAIR μX4_write μX5_write [.int (zi q)] σ := by
  have hW := hJ.1.1
  have hp := hW.1
  have hm := hJ.1.2.1
  have hsh := hJ.1.2.2.1
  refine PAIR.of (by decide) (by decide) (by decide) (c_X4_write rfl hp hJ.2.1 hJ.2.2 hsh hq) (fun r s hh => ?_)
  rcases hh with ⟨k, u, hk, ek, h1, hE, hS, rfl, rfl⟩ | ⟨k, hk, ek, h1, rfl, rfl⟩ | ⟨h1, rfl, rfl⟩
  · have iC : (wrC u (cP σ) k 9).1 = u.1 := wrC_i 9
    have l70 : ∀ x : Nat, (wrC u (cP σ) k x).2 70 = u.2 70 := fun x => by
      induction x with
      | zero => rfl
      | succ x ih =>
        rw [wrC_n]
        split
        · rw [zul_nc (by omega)]; exact ih
        · exact ih
    have e59 : u.1 (59 + 2 * k) = σ.1 (59 + 2 * k) := hE.2.1 _ (by omega) (by omega) (by omega)
    refine ⟨⟨_, rfl⟩, _, ((c_X5_write (p := cP σ) (by rw [mP_of iC]; exact hJ.mp hE) hp (SHJ.to (s := wrC u (cP σ) k 9) hsh (by rw [iC]; exact hE.2.1 _ (by omega) (by omega) (by omega)) (by rw [iC]; exact hE.2.1 _ (by omega) (by omega) (by omega)) (by rw [l70 9]; exact hE.l (by omega))) hq).up (by decide)), fun r2 s2 jj => ?_⟩
    rcases jj with ⟨k2, v, hk2, ek2, -, hM, rfl, rfl⟩ | ⟨k2, hk2, ek2, n, -, -⟩ | ⟨n, -, -⟩
    · obtain rfl : k2 = k := by omega
      exact ⟨by rw [e59], hJ.write hk hE hS hM⟩
    · obtain rfl : k2 = k := by omega
      omega
    · omega
  · refine ⟨⟨_, rfl⟩, _, ((c_X5_write (p := cP σ) (by rw [mP_o (by decide)]; exact hm) hp (SHJ.fd hsh) hq).up (by decide)), fun r2 s2 jj => ?_⟩
    rcases jj with ⟨k2, v, hk2, ek2, n, -, -, -⟩ | ⟨k2, hk2, ek2, -, rfl, rfl⟩ | ⟨n, -, -⟩
    · obtain rfl : k2 = k := by omega
      omega
    · exact ⟨rfl, hJ.fd 1⟩
    · omega
  · refine ⟨⟨_, rfl⟩, _, ((c_X5_write (p := cP s) hm hp hsh hq).up (by decide)), fun r2 s2 jj => ?_⟩
    rcases jj with ⟨k2, v, hk2, ek2, n, -, -, -⟩ | ⟨k2, hk2, ek2, n, -, -⟩ | ⟨-, rfl, rfl⟩
    · omega
    · omega
    · exact ⟨rfl, hJ⟩
end ZO2
