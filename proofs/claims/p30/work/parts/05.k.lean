section ZG9
variable {σ : zS}
/-! all ways to choose a moment of each other chain -/
def Cg (g : Int → Int) (k : Int) : Prop := g (k / 3) = -1 ∨ g (k / 3) = k % 3
noncomputable def pkc (p : zP) (x i n : Int) : Int := if rn p x i = 0 then -1 else rl p x i n
noncomputable def gpk (p : zP) (x i1 a i2 b : Int) : Int → Int := fun i => if i = i1 then pkc p x i1 a else if i = i2 then pkc p x i2 b else -1
noncomputable def na (p : zP) (x i : Int) : Int := max 1 (rn p x i)
noncomputable def fs (p : zP) (l : Int → Int) (x i1 a i2 b : Int) : Option aA := fnd p l (Cg (gpk p x i1 a i2 b)) x
theorem fs_w (p : zP) (l : Int → Int) (x : Int) {i1 i2 : Int} (a b : Int) (h : i1 ≠ i2) : fs p l x i1 a i2 b = fs p l x i2 b i1 a := by
  have e : gpk p x i1 a i2 b = gpk p x i2 b i1 a := by
    funext i
    unfold gpk
    by_cases q : i = i1
    · rw [if_pos q, if_neg (by omega), if_pos q]
    · by_cases q2 : i = i2
      · rw [if_neg q, if_pos q2, if_pos q2]
      · rw [if_neg q, if_neg q2, if_neg q2, if_neg q]
  unfold fs
  rw [e]
def inr (p : zP) (x i1 i2 a b : Int) : Prop := 0 ≤ a ∧ a < na p x i1 ∧ 0 ≤ b ∧ b < na p x i2
def isS (p : zP) (l : Int → Int) (x i1 i2 v : Int) : Prop := (v = -1 ∧ ∃ a b : Int, inr p x i1 i2 a b ∧ fs p l x i1 a i2 b = none) ∨ ((∀ a b : Int, inr p x i1 i2 a b → ∃ r, fs p l x i1 a i2 b = some r ∧ r.1 ≤ v) ∧ ∃ (a b : Int) (r : aA), inr p x i1 i2 a b ∧ fs p l x i1 a i2 b = some r ∧ r.1 = v)
theorem isS_u {p : zP} {l : Int → Int} {x i1 i2 v w : Int} (h : isS p l x i1 i2 v) (k : isS p l x i1 i2 w) : v = w := by
  rcases h with ⟨h1, a, b, h2, h3⟩ | ⟨h1, a, b, r, h2, h3, h4⟩
  · rcases k with ⟨k1, _⟩ | ⟨k1, _⟩
    · omega
    · obtain ⟨r, e, _⟩ := k1 a b h2
      rw [h3] at e; cases e
  · rcases k with ⟨k1, a2, b2, k2, k3⟩ | ⟨k1, a2, b2, r2, k2, k3, k4⟩
    · obtain ⟨r, e, _⟩ := h1 a2 b2 k2
      rw [k3] at e; cases e
    · obtain ⟨r3, e3, f3⟩ := h1 a2 b2 k2
      obtain ⟨r4, e4, f4⟩ := k1 a b h2
      rw [k3] at e3
      rw [h3] at e4
      cases e3; cases e4
      omega
theorem isS_w {p : zP} {l : Int → Int} {x i1 i2 v : Int} (hn : i1 ≠ i2) (h : isS p l x i1 i2 v) : isS p l x i2 i1 v := by
  rcases h with ⟨h1, a, b, h2, h3⟩ | ⟨h1, a, b, r, h2, h3, h4⟩
  · exact Or.inl ⟨h1, b, a, ⟨h2.2.2.1, h2.2.2.2, h2.1, h2.2.1⟩, by rw [← fs_w p l x a b hn]; exact h3⟩
  · refine Or.inr ⟨fun a2 b2 h5 => ?_, b, a, r, ⟨h2.2.2.1, h2.2.2.2, h2.1, h2.2.1⟩, by rw [← fs_w p l x a b hn]; exact h3, h4⟩
    rw [← fs_w p l x b2 a2 hn]
    exact h1 b2 a2 ⟨h5.2.2.1, h5.2.2.2, h5.1, h5.2.1⟩
noncomputable def srS (p : zP) (l : Int → Int) (x : Int) : Int := @dite _ (∃ v, isS p l x ((x / 3 + 1) % 3) ((x / 3 + 2) % 3) v) (Classical.propDecidable _) (fun h => Classical.choose h) (fun _ => 0)
theorem srS_e {p : zP} {l : Int → Int} {x v : Int} (h : isS p l x ((x / 3 + 1) % 3) ((x / 3 + 2) % 3) v) : srS p l x = v := by
  have hx : ∃ v, isS p l x ((x / 3 + 1) % 3) ((x / 3 + 2) % 3) v := ⟨v, h⟩
  unfold srS
  rw [dif_pos hx]
  exact isS_u (Classical.choose_spec hx) h
/-- what is seen of the ways before (a, b) -/
def SI (p : zP) (l : Int → Int) (x i1 i2 a b m : Int) : Prop := (∀ a' b' : Int, inr p x i1 i2 a' b' → (a' < a ∨ (a' = a ∧ b' < b)) → ∃ r, fs p l x i1 a' i2 b' = some r ∧ r.1 ≤ m) ∧ -1 ≤ m ∧ m ≤ 746 ∧ ((m = -1 ∧ a = 0 ∧ b = 0) ∨ ∃ (a' b' : Int) (r : aA), inr p x i1 i2 a' b' ∧ fs p l x i1 a' i2 b' = some r ∧ r.1 = m)
theorem SI.z {p : zP} {l : Int → Int} {x i1 i2 : Int} : SI p l x i1 i2 0 0 (-1) := ⟨fun a' b' h q => by have := h.1; have := h.2.2.1; omega, by omega, by omega, Or.inl ⟨rfl, rfl, rfl⟩⟩
theorem SI.s {p : zP} (hp : WP p) {l : Int → Int} (hl : WL l) {x i1 i2 a b m : Int} (h0 : 0 ≤ x) (h9 : x < 9) (ht : th p x) (h : SI p l x i1 i2 a b m) (hi : inr p x i1 i2 a b) {r : aA} (hr : fs p l x i1 a i2 b = some r) : SI p l x i1 i2 a (b + 1) (max m r.1) := by
  have hb := fnd_b hp hl _ h0 h9 ht hr
  have h5 := hb.1.2.1
  have h6 := hl.b h0 h9
  have h7 := ear_b hp h0 h9
  have h8 := hb.2
  obtain ⟨k1, k2, k3, k4⟩ := h
  refine ⟨fun a' b' hi' hq => ?_, by omega, by omega, ?_⟩
  · by_cases q : a' = a ∧ b' = b
    · rw [q.1, q.2]
      exact ⟨r, hr, by omega⟩
    · obtain ⟨r2, e1, e2⟩ := k1 a' b' hi' (by omega)
      exact ⟨r2, e1, by omega⟩
  · right
    by_cases q : m ≤ r.1
    · exact ⟨a, b, r, hi, hr, by omega⟩
    · rcases k4 with ⟨q1, q2, q3⟩ | ⟨a', b', r2, q1, q2, q3⟩
      · omega
      · exact ⟨a', b', r2, q1, q2, by omega⟩
theorem na_b (p : zP) (x i : Int) : 1 ≤ na p x i ∧ na p x i ≤ 3 ∧ rn p x i ≤ na p x i := by
  have := rn_b p x i
  unfold na
  omega
theorem SI.b {p : zP} {l : Int → Int} {x i1 i2 a b m : Int} (h : SI p l x i1 i2 a b m) (hi : ¬ inr p x i1 i2 a b) (ha : 0 ≤ a) (hb : 0 ≤ b) (h1 : 0 < b ∨ 0 < a) : SI p l x i1 i2 a (b + 1) m := by
  obtain ⟨k1, k2, k3, k4⟩ := h
  refine ⟨fun a' b' hi' hq => ?_, k2, k3, ?_⟩
  · by_cases q : a' = a ∧ b' = b
    · rw [q.1, q.2] at hi'; exact absurd hi' hi
    · exact k1 a' b' hi' (by omega)
  · rcases k4 with q | q
    · omega
    · exact Or.inr q
theorem SI.n {p : zP} {l : Int → Int} {x i1 i2 a b m : Int} (h : SI p l x i1 i2 a b m) (hb : na p x i2 ≤ b) : SI p l x i1 i2 (a + 1) 0 m := by
  have := na_b p x i2
  obtain ⟨k1, k2, k3, k4⟩ := h
  refine ⟨fun a' b' hi' hq => k1 a' b' hi' (by have := hi'.2.2.2; have := hi'.2.2.1; omega), k2, k3, ?_⟩
  rcases k4 with q | q
  · omega
  · exact Or.inr q
theorem SI.e {p : zP} {l : Int → Int} {x i1 i2 a b m : Int} (h : SI p l x i1 i2 a b m) (ha : na p x i1 ≤ a) : isS p l x i1 i2 m := by
  have := na_b p x i1
  obtain ⟨k1, k2, k3, k4⟩ := h
  refine Or.inr ⟨fun a' b' hi => k1 a' b' hi (by have := hi.2.1; omega), ?_⟩
  rcases k4 with q | q
  · omega
  · exact q
noncomputable def srcA (p : zP) (x : Int) : Int := sv p (fun _ l => srS p l x)
theorem pkc_b (p : zP) (x : Int) {i n : Int} (h0 : 0 ≤ n) (hn : n < na p x i) : -1 ≤ pkc p x i n ∧ pkc p x i n < 3 := by
  unfold pkc
  by_cases q : rn p x i = 0
  · rw [if_pos q]; omega
  · rw [if_neg q]
    have := rl_r (p := p) (x := x) (i := i) h0 (by unfold na at hn; have := rn_b p x i; omega)
    omega
theorem gpk_1 (p : zP) (x i1 a i2 b : Int) : gpk p x i1 a i2 b i1 = pkc p x i1 a := if_pos rfl
theorem gpk_2 (p : zP) (x : Int) {i1 i2 : Int} (a b : Int) (h : i1 ≠ i2) : gpk p x i1 a i2 b i2 = pkc p x i2 b := by
  unfold gpk
  rw [if_neg (by omega), if_pos rfl]
/-! the class -/
def zFQ (b : Nat) (σ t : zS) : Prop := t.2 = σ.2 ∧ (∀ c : Nat, c ≠ b → c ≠ b + 9 → c ≠ b + 10 → c ≠ b + 11 → t.1 c = σ.1 c) ∧ ∀ i : Int, (i < 12 ∨ 15 < i) → t.1 b i = σ.1 b i
theorem zFQ.rf {b : Nat} {σ : zS} : zFQ b σ σ := ⟨rfl, fun _ _ _ _ _ => rfl, fun _ _ => rfl⟩
theorem zFQ.tg {b : Nat} {σ t s : zS} (h : zFQ b σ t) (h2 : zFg b t s) : zFQ b σ s := ⟨h2.1.trans h.1, fun c q1 q2 q3 q4 => (h2.2 c q2 q3 q4).trans (h.2.1 c q1 q2 q3 q4), fun i q => by rw [h2.2 b (by omega) (by omega) (by omega)]; exact h.2.2 i q⟩
theorem zFQ.tb {b : Nat} {σ t s : zS} (h : zFQ b σ t) (h2 : zFb b t s) : zFQ b σ s := ⟨h2.1.trans h.1, fun c q1 q2 q3 q4 => (h2.2.1 c q1).trans (h.2.1 c q1 q2 q3 q4), fun i q => (h2.2.2 i q).trans (h.2.2 i q)⟩
theorem zFQ.up {b : Nat} {σ t : zS} {i v : Int} (h : zFQ b σ t) : zFQ b σ (zu t (b + 11) i v) :=
  ⟨h.1, fun e q1 q2 q3 q4 => by rw [zu_nc q4]; exact h.2.1 e q1 q2 q3 q4, fun j hj => by rw [zu_nc (by omega)]; exact h.2.2 j hj⟩
theorem SA.fr {b : Nat} (hb : zAb b) {s t : zS} {p : zP} (h : SA b s p) (hf : zFQ b s t) : SA b t p := by
  have hb' : b = 14 ∨ b = 26 := hb
  rcases h with ⟨h1, h2⟩ | ⟨r, l, h1, h2, h3, h4, h5⟩
  · exact Or.inl ⟨h1, by rw [hf.2.2 16 (by omega)]; exact h2⟩
  · exact Or.inr ⟨r, l, h1, by rw [hf.2.2 16 (by omega)]; exact h2, h3.fr (fun c hc => hf.2.1 c (by omega) (by omega) (by omega) (by omega)), h4.fr (fun c a e => hf.2.1 c (by omega) (by omega) (by omega) (by omega)), h5.fr (fun c a e => hf.2.1 c (by omega) (by omega) (by omega) (by omega))⟩
/-- while the ways are gone through -/
def SQ (b : Nat) (σ t : zS) (p : zP) (x : Int) : Prop := zFQ b σ t ∧ GP b t p x ∧ ∀ i : Int, 0 ≤ i → i < 3 → -1 ≤ t.1 (b + 11) i ∧ t.1 (b + 11) i < 3
theorem SQ.up {b : Nat} {σ t : zS} {p : zP} {x i v : Int} (h : SQ b σ t p x) (h0 : -1 ≤ v) (h1 : v < 3) : SQ b σ (zu t (b + 11) i v) p x := by
  refine ⟨h.1.up, ?_, fun j a c => ?_⟩
  · unfold GP
    rw [zu_nc (by omega), zu_nc (by omega)]
    exact h.2.1
  · by_cases q : j = i
    · rw [q, zu_eq]; exact ⟨h0, h1⟩
    · rw [zu_ne q]; exact h.2.2 j a c
theorem SQ.tb {b : Nat} {σ t s : zS} {p : zP} {x : Int} (h : SQ b σ t p x) (h2 : zFb b t s) : SQ b σ s p x := by
  refine ⟨h.1.tb h2, ?_, fun j a c => by rw [h2.2.1 _ (by omega)]; exact h.2.2 j a c⟩
  unfold GP
  rw [h2.2.1 _ (by omega), h2.2.1 _ (by omega)]
  exact h.2.1
theorem SQ.ax {b : Nat} (hb : zAb b) {σ t : zS} {p : zP} {l : Int → Int} (hA : AP b σ p l) (hPP : PP b σ p l) {x i1 i2 a c : Int} (h : SQ b σ t p x) (hn : i1 ≠ i2) (hi : ∀ i : Int, 0 ≤ i → i < 3 → i ≠ x / 3 → i = i1 ∨ i = i2) (e1 : t.1 (b + 11) i1 = pkc p x i1 a) (e2 : t.1 (b + 11) i2 = pkc p x i2 c) : AX b t p l x (Cg (gpk p x i1 a i2 c)) := by
  have hb' : b = 14 ∨ b = 26 := hb
  refine ⟨hA.fr (fun c hc => h.1.2.1 c (by omega) (by omega) (by omega) (by omega)), hPP.fr (fun c a e => h.1.2.1 c (by omega) (by omega) (by omega) (by omega)), h.2.1, fun i j a1 a2 a3 a4 a5 _ => ?_, fun i a1 a2 => by have := h.2.2 i a1 a2; omega⟩
  unfold Cg
  rw [show (i * 3 + j) / 3 = i by omega, show (i * 3 + j) % 3 = j by omega]
  rcases hi i a1 a2 a3 with rfl | rfl
  · rw [gpk_1, e1]
  · rw [gpk_2 _ _ _ _ hn, e2]
set_option maxHeartbeats 4000000 in
theorem c_X0_searchedOf {b : Nat} (hb : zAb b) {p : zP} (ec : cP σ = p) (hp : WP p) (hS : SA b σ p) {x : Int} (h0 : 0 ≤ x) (h9 : x < 9) (ht : th p x) : YC 5 μX0_searchedOf [.ref b, .int (zi x)] σ (fun r s => r = some (.int (zi (srcA p x))) ∧ zFQ b σ s) := by
  refine YC.of2 (by decide) (Nat.le_of_ble_eq_true rfl) (fun d P hd hP => ?_)
  rcases hS with ⟨h, e⟩ | ⟨r, l, h, e, hA, hPP, hBV⟩
  · refine Y.aload_n dX0_searchedOf_0 rfl ?_
    refine Y.getf dX0_searchedOf_1 flX0_49 (obA hb) rfl ?_
    refine Y.iconst dX0_searchedOf_4 ?_
    refine Y.icmp_ne 10 dX0_searchedOf_5 (by decide) (by omega) (by omega) (fun h_5 => ?_) (fun h_5 => ?_)
    · exfalso; omega
    refine Y.iconst dX0_searchedOf_8 ?_
    exact Y.iret dX0_searchedOf_9 rfl (hP _ _ ⟨zrI (by rw [srcA, sv_n h]), zFQ.rf⟩)
  · have hr : WL l ∧ bA p l ∧ 1 ≤ r ∧ r ≤ 20 := SR_b hp h
    have hl := hr.1
    refine Y.aload_n dX0_searchedOf_0 rfl ?_
    refine Y.getf dX0_searchedOf_1 flX0_49 (obA hb) rfl ?_
    refine Y.iconst dX0_searchedOf_4 ?_
    refine Y.icmp_ne 10 dX0_searchedOf_5 (by decide) (by omega) (by omega) (fun h_5 => ?_) (fun h_5 => ?_)
    rotate_left
    · exfalso; omega
    refine Y.aload_n dX0_searchedOf_10 rfl ?_
    refine Y.iload_n dX0_searchedOf_11 rfl ?_
    refine Y.callV dX0_searchedOf_12 mkX0_gatherRivals csX0_81 (obA hb) ⟨_, rfl, rfl⟩ (c_X0_gatherRivals hb ec hp (by omega) (by omega)) (by omega) rfl rfl (Nat.le_of_ble_eq_true rfl) (fun r_12 s_12 p_12 => ?_)
    obtain ⟨rfl, f_12, g_12, a_12⟩ := p_12
    have k34 : ∀ i1 i2 : Int, i1 = (x / 3 + 1) % 3 → i2 = (x / 3 + 2) % 3 → Y d μX0_searchedOf 37 [some (.ref b), some (.int (zi x)), some (.int (zi i1)), some (.int (zi i2)), some (.int (zi (-1))), some (.int (zi 0)), none] [] s_12 P := by
      intro i1 i2 e1 e2
      have hi1 : 0 ≤ i1 := by omega
      have hi1' : i1 < 3 := by omega
      have hi2 : 0 ≤ i2 := by omega
      have hi2' : i2 < 3 := by omega
      have hne : i1 ≠ i2 := by omega
      have hii : ∀ i : Int, 0 ≤ i → i < 3 → i ≠ x / 3 → i = i1 ∨ i = i2 := fun i a c q => by omega
      have hn1 := na_b p x i1
      have hn2 := na_b p x i2
      have hr1 := rn_b p x i1
      have hr2 := rn_b p x i2
      have hx1 : na p x i1 = max 1 (rn p x i1) := rfl
      have hx2 : na p x i2 = max 1 (rn p x i2) := rfl
      have hne2 := hne
      refine zw3 (fun t m a => (0 ≤ a ∧ a ≤ na p x i1 ∧ SQ b σ t p x ∧ SI p l x i1 i2 a 0 m)) (fun t m a => Y d μX0_searchedOf 37 [some (.ref b), some (.int (zi x)), some (.int (zi i1)), some (.int (zi i2)), some (.int (zi m)), some (.int (zi a)), none] [] t P) (fun t m a => (3 - a).toNat) ?_ _ _ _ ⟨by omega, by omega, ⟨zFQ.rf.tg f_12, g_12, fun i a c => by have := a_12 i a c; omega⟩, SI.z⟩
      intro t m a hI ih
      obtain ⟨j1, j2, j3, j4⟩ := hI
      have hg1 := j3.2.1 i1 hi1 hi1'
      have hm := j4.2.1
      have hm2 := j4.2.2.1
      have k82 : a < na p x i1 → Y d μX0_searchedOf 82 [some (.ref b), some (.int (zi x)), some (.int (zi i1)), some (.int (zi i2)), some (.int (zi m)), some (.int (zi a)), none] [.int (zi (pkc p x i1 a)), .int (zi i1), .ref (b + 11)] t P := by
        intro han
        have hpa := pkc_b p x (i := i1) j1 han
        refine Y.iast dX0_searchedOf_82 (iaA11 hb) (by omega) (by omega) ?_
        refine Y.iconst dX0_searchedOf_83 ?_
        refine Y.istore dX0_searchedOf_84 (by decide) rfl ?_
        refine zw3 (fun u m c => (0 ≤ c ∧ c ≤ na p x i2 ∧ SQ b σ u p x ∧ u.1 (b + 11) i1 = pkc p x i1 a ∧ SI p l x i1 i2 a c m)) (fun u m c => Y d μX0_searchedOf 86 [some (.ref b), some (.int (zi x)), some (.int (zi i1)), some (.int (zi i2)), some (.int (zi m)), some (.int (zi a)), some (.int (zi c))] [] u P) (fun u m c => (3 - c).toNat) ?_ _ _ _ ⟨by omega, by omega, j3.up hpa.1 hpa.2, by rw [zu_eq], j4⟩
        intro u m c hI2 ih2
        obtain ⟨k1, k2, k3, k4, k5⟩ := hI2
        have hg2 := k3.2.1 i2 hi2 hi2'
        have hm := k5.2.1
        have hm2 := k5.2.2.1
        have k131 : inr p x i1 i2 a c → Y d μX0_searchedOf 131 [some (.ref b), some (.int (zi x)), some (.int (zi i1)), some (.int (zi i2)), some (.int (zi m)), some (.int (zi a)), some (.int (zi c))] [.int (zi (pkc p x i2 c)), .int (zi i2), .ref (b + 11)] u P := by
          intro hin
          have hc3 : c < na p x i2 := hin.2.2.2
          have hpc := pkc_b p x (i := i2) hin.2.2.1 hin.2.2.2
          refine Y.iast dX0_searchedOf_131 (iaA11 hb) (by omega) (by omega) ?_
          refine Y.aload_n dX0_searchedOf_132 rfl ?_
          refine Y.iload_n dX0_searchedOf_133 rfl ?_
          refine Y.callV dX0_searchedOf_134 mkX0_findLongest csX0_85 (obA hb) ⟨_, rfl, rfl⟩ (c_X0_findLongest hb (SQ.ax hb hA hPP (k3.up hpc.1 hpc.2) hne hii (by rw [zu_ne hne]; exact k4) (by rw [zu_eq])) h0 h9 ht) (by omega) rfl rfl (Nat.le_of_ble_eq_true rfl) (fun r_134 s_134 p_134 => ?_)
          obtain ⟨rfl, f_134, g_134⟩ := p_134
          refine Y.ifz_ne 142 dX0_searchedOf_137 (by decide) (fun h_137 => ?_) (fun h_137 => ?_)
          · obtain ⟨v, hv⟩ : ∃ v, fs p l x i1 a i2 c = some v := by
              cases hq : fs p l x i1 a i2 c with
              | none => exact absurd hq (by assumption)
              | some v => exact ⟨v, rfl⟩
            have hbe := (g_134 v hv).1
            have hvb := fnd_b hp hl _ h0 h9 ht hv
            have hvb2 := hvb.1.2.1
            have hvb3 := hvb.2
            have hlb := hl.b h0 h9
            have heb := ear_b hp h0 h9
            refine Y.iload dX0_searchedOf_142 rfl ?_
            refine Y.aload_n dX0_searchedOf_144 rfl ?_
            refine Y.getf dX0_searchedOf_145 flX0_89 (obA hb) rfl ?_
            rw [hbe]
            refine Y.mmax dX0_searchedOf_148 csX0_92 (by omega) (Nat.le_of_ble_eq_true rfl) (by omega) (by omega) ?_
            refine Y.istore dX0_searchedOf_151 (by decide) rfl ?_
            refine Y.iinc dX0_searchedOf_153 rfl (by decide) rfl ?_
            refine Y.goto 86 dX0_searchedOf_156 (by decide) ?_
            exact ih2 _ _ _ ⟨by omega, by omega, (k3.up hpc.1 hpc.2).tb f_134, by rw [f_134.2.1 _ (by omega), zu_ne hne]; exact k4, k5.s hp hl h0 h9 ht hin hv⟩ (by omega)
          · refine Y.iconst dX0_searchedOf_140 ?_
            exact Y.iret dX0_searchedOf_141 rfl (hP _ _ ⟨zrI (by rw [srcA, sv_s h]; subst e1 e2; exact (srS_e (Or.inl ⟨rfl, a, c, hin, Classical.byContradiction (by assumption)⟩)).symm), ((k3.up hpc.1 hpc.2).tb f_134).1⟩)
        have k102 : c < na p x i2 → Y d μX0_searchedOf 102 [some (.ref b), some (.int (zi x)), some (.int (zi i1)), some (.int (zi i2)), some (.int (zi m)), some (.int (zi a)), some (.int (zi c))] [] u P := by
          intro hcn
          refine Y.aload_n dX0_searchedOf_102 rfl ?_
          refine Y.getf dX0_searchedOf_103 flX0_42 (obA hb) rfl ?_
          refine Y.iload_n dX0_searchedOf_106 rfl ?_
          refine Y.aload_n dX0_searchedOf_107 rfl ?_
          refine Y.getf dX0_searchedOf_108 flX0_39 (obA hb) rfl ?_
          refine Y.iload_n dX0_searchedOf_111 rfl ?_
          refine Y.iald dX0_searchedOf_112 (iaA10 hb) (by omega) (by omega) ?_
          refine Y.if_ne 120 dX0_searchedOf_113 (by decide) (by omega) (fun h_113 => ?_) (fun h_113 => ?_)
          · refine Y.aload_n dX0_searchedOf_120 rfl ?_
            refine Y.getf dX0_searchedOf_121 flX0_36 (obA hb) rfl ?_
            refine Y.iload_n dX0_searchedOf_124 rfl ?_
            refine Y.iconst dX0_searchedOf_125 ?_
            refine Y.imul dX0_searchedOf_126 ?_
            refine Y.iload dX0_searchedOf_127 rfl ?_
            refine Y.iadd dX0_searchedOf_129 ?_
            refine Y.iald dX0_searchedOf_130 (iaA9 hb) (by omega) (by omega) ?_
            first
              | (rw [show (-1 : Int) = pkc p x i2 c by unfold pkc; rw [if_pos (by omega)]]
                 exact k131 ⟨by omega, by omega, by omega, by unfold na at *; omega⟩)
              | (rw [show u.1 (b + 9) (i2 * 3 + c) = pkc p x i2 c by rw [hg2.2 _ (by omega) (by omega)]; unfold pkc; rw [if_neg (by omega)]]
                 exact k131 ⟨by omega, by omega, by omega, by unfold na at *; omega⟩)
          · refine Y.iconst dX0_searchedOf_116 ?_
            refine Y.goto 131 dX0_searchedOf_117 (by decide) ?_
            first
              | (rw [show (-1 : Int) = pkc p x i2 c by unfold pkc; rw [if_pos (by omega)]]
                 exact k131 ⟨by omega, by omega, by omega, by unfold na at *; omega⟩)
              | (rw [show u.1 (b + 9) (i2 * 3 + c) = pkc p x i2 c by rw [hg2.2 _ (by omega) (by omega)]; unfold pkc; rw [if_neg (by omega)]]
                 exact k131 ⟨by omega, by omega, by omega, by unfold na at *; omega⟩)
        refine Y.iload dX0_searchedOf_86 rfl ?_
        refine Y.if_eq 102 dX0_searchedOf_88 (by decide) (by omega) (fun h_88 => ?_) (fun h_88 => ?_)
        · exact k102 (by unfold na; omega)
        · refine Y.iload dX0_searchedOf_91 rfl ?_
          refine Y.aload_n dX0_searchedOf_93 rfl ?_
          refine Y.getf dX0_searchedOf_94 flX0_39 (obA hb) rfl ?_
          refine Y.iload_n dX0_searchedOf_97 rfl ?_
          refine Y.iald dX0_searchedOf_98 (iaA10 hb) (by omega) (by omega) ?_
          refine Y.icmp_ge 159 dX0_searchedOf_99 (by decide) (by omega) (by omega) (fun h_99 => ?_) (fun h_99 => ?_)
          · refine Y.iinc dX0_searchedOf_159 rfl (by decide) rfl ?_
            refine Y.goto 37 dX0_searchedOf_162 (by decide) ?_
            exact Y.sub (zs_s (zs_s (zs_s (zs_s (zs_s (zs_s (zs_n zs_0))))))) (ih _ _ _ ⟨by omega, by omega, k3, k5.n (by omega)⟩ (by omega))
          · exact k102 (by unfold na; omega)
      have k53 : a < na p x i1 → Y d μX0_searchedOf 53 [some (.ref b), some (.int (zi x)), some (.int (zi i1)), some (.int (zi i2)), some (.int (zi m)), some (.int (zi a)), none] [] t P := by
        intro han
        refine Y.aload_n dX0_searchedOf_53 rfl ?_
        refine Y.getf dX0_searchedOf_54 flX0_42 (obA hb) rfl ?_
        refine Y.iload_n dX0_searchedOf_57 rfl ?_
        refine Y.aload_n dX0_searchedOf_58 rfl ?_
        refine Y.getf dX0_searchedOf_59 flX0_39 (obA hb) rfl ?_
        refine Y.iload_n dX0_searchedOf_62 rfl ?_
        refine Y.iald dX0_searchedOf_63 (iaA10 hb) (by omega) (by omega) ?_
        refine Y.if_ne 71 dX0_searchedOf_64 (by decide) (by omega) (fun h_64 => ?_) (fun h_64 => ?_)
        · refine Y.aload_n dX0_searchedOf_71 rfl ?_
          refine Y.getf dX0_searchedOf_72 flX0_36 (obA hb) rfl ?_
          refine Y.iload_n dX0_searchedOf_75 rfl ?_
          refine Y.iconst dX0_searchedOf_76 ?_
          refine Y.imul dX0_searchedOf_77 ?_
          refine Y.iload dX0_searchedOf_78 rfl ?_
          refine Y.iadd dX0_searchedOf_80 ?_
          refine Y.iald dX0_searchedOf_81 (iaA9 hb) (by omega) (by omega) ?_
          first
            | (rw [show (-1 : Int) = pkc p x i1 a by unfold pkc; rw [if_pos (by omega)]]
               exact k82 (by unfold na at *; omega))
            | (rw [show t.1 (b + 9) (i1 * 3 + a) = pkc p x i1 a by rw [hg1.2 _ (by omega) (by omega)]; unfold pkc; rw [if_neg (by omega)]]
               exact k82 (by unfold na at *; omega))
        · refine Y.iconst dX0_searchedOf_67 ?_
          refine Y.goto 82 dX0_searchedOf_68 (by decide) ?_
          first
            | (rw [show (-1 : Int) = pkc p x i1 a by unfold pkc; rw [if_pos (by omega)]]
               exact k82 (by unfold na at *; omega))
            | (rw [show t.1 (b + 9) (i1 * 3 + a) = pkc p x i1 a by rw [hg1.2 _ (by omega) (by omega)]; unfold pkc; rw [if_neg (by omega)]]
               exact k82 (by unfold na at *; omega))
      refine Y.iload dX0_searchedOf_37 rfl ?_
      refine Y.if_eq 53 dX0_searchedOf_39 (by decide) (by omega) (fun h_39 => ?_) (fun h_39 => ?_)
      · exact k53 (by unfold na; omega)
      · refine Y.iload dX0_searchedOf_42 rfl ?_
        refine Y.aload_n dX0_searchedOf_44 rfl ?_
        refine Y.getf dX0_searchedOf_45 flX0_39 (obA hb) rfl ?_
        refine Y.iload_n dX0_searchedOf_48 rfl ?_
        refine Y.iald dX0_searchedOf_49 (iaA10 hb) (by omega) (by omega) ?_
        refine Y.icmp_ge 165 dX0_searchedOf_50 (by decide) (by omega) (by omega) (fun h_50 => ?_) (fun h_50 => ?_)
        · refine Y.iload dX0_searchedOf_165 rfl ?_
          exact Y.iret dX0_searchedOf_167 rfl (hP _ _ ⟨zrI (by rw [srcA, sv_s h]; subst e1 e2; exact (srS_e (j4.e (by unfold na; omega))).symm), j3.1⟩)
        · exact k53 (by unfold na; omega)
    refine Y.iload_n dX0_searchedOf_15 rfl ?_
    refine Y.iconst dX0_searchedOf_16 ?_
    refine Y.idivp dX0_searchedOf_17 (by omega) (by omega) (by omega) (by omega) ?_
    refine Y.iconst dX0_searchedOf_18 ?_
    refine Y.iadd dX0_searchedOf_19 ?_
    refine Y.iconst dX0_searchedOf_20 ?_
    refine Y.iremp dX0_searchedOf_21 (by omega) (by omega) (by omega) (by omega) ?_
    refine Y.istore_n dX0_searchedOf_22 (by decide) rfl ?_
    refine Y.iload_n dX0_searchedOf_23 rfl ?_
    refine Y.iconst dX0_searchedOf_24 ?_
    refine Y.idivp dX0_searchedOf_25 (by omega) (by omega) (by omega) (by omega) ?_
    refine Y.iconst dX0_searchedOf_26 ?_
    refine Y.iadd dX0_searchedOf_27 ?_
    refine Y.iconst dX0_searchedOf_28 ?_
    refine Y.iremp dX0_searchedOf_29 (by omega) (by omega) (by omega) (by omega) ?_
    refine Y.istore_n dX0_searchedOf_30 (by decide) rfl ?_
    refine Y.iconst dX0_searchedOf_31 ?_
    refine Y.istore dX0_searchedOf_32 (by decide) rfl ?_
    refine Y.iconst dX0_searchedOf_34 ?_
    refine Y.istore dX0_searchedOf_35 (by decide) rfl ?_
    exact k34 _ _ rfl rfl
end ZG9
