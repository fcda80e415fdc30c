section ZR1
variable {σ : zS}
/-! rows filled -/
def zf (σ : zS) (a : Nat) (k v : Int) : zS := (fun c' => if c' = a then (fun i' => if 0 ≤ i' ∧ i' < k then v else σ.1 a i') else σ.1 c', σ.2)
def zfl (σ : zS) (a : Nat) (k v : Int) : zS := (σ.1, fun c' => if c' = a then (fun i' => if 0 ≤ i' ∧ i' < k then v else σ.2 a i') else σ.2 c')
theorem zf_nc {a c : Nat} {k v : Int} (h : c ≠ a) : (zf σ a k v).1 c = σ.1 c := by simp [zf, h]
theorem zf_in {a : Nat} {k v i : Int} (h0 : 0 ≤ i) (h1 : i < k) : (zf σ a k v).1 a i = v := by simp [zf, h0, h1]
theorem zfl_nc {a c : Nat} {k v : Int} (h : c ≠ a) : (zfl σ a k v).2 c = σ.2 c := by simp [zfl, h]
theorem zfl_in {a : Nat} {k v i : Int} (h0 : 0 ≤ i) (h1 : i < k) : (zfl σ a k v).2 a i = v := by simp [zfl, h0, h1]
theorem zf_eq {a : Nat} {k v i : Int} : (zf σ a k v).1 a i = if 0 ≤ i ∧ i < k then v else σ.1 a i := by simp [zf]
theorem zfl_eq {a : Nat} {k v i : Int} : (zfl σ a k v).2 a i = if 0 ≤ i ∧ i < k then v else σ.2 a i := by simp [zfl]
theorem zf_0 (a : Nat) (v : Int) : zf σ a 0 v = σ := by
  refine Prod.ext (funext fun c => ?_) rfl
  by_cases h : c = a
  · subst h
    funext i
    rw [zf_eq, if_neg (by omega)]
  · rw [zf_nc h]
theorem zfl_0 (a : Nat) (v : Int) : zfl σ a 0 v = σ := by
  refine Prod.ext rfl (funext fun c => ?_)
  by_cases h : c = a
  · subst h
    funext i
    rw [zfl_eq, if_neg (by omega)]
  · rw [zfl_nc h]
theorem zf_s {a : Nat} {k v : Int} (h0 : 0 ≤ k) : zu (zf σ a k v) a k v = zf σ a (k + 1) v := by
  refine Prod.ext (funext fun c => ?_) rfl
  by_cases h : c = a
  · subst h
    funext i
    by_cases hi : i = k
    · subst hi
      rw [zu_eq, zf_in h0 (by omega)]
    · rw [zu_ne hi, zf_eq, zf_eq]
      by_cases q : 0 ≤ i ∧ i < k
      · rw [if_pos q, if_pos ⟨q.1, by omega⟩]
      · rw [if_neg q, if_neg (by omega)]
  · rw [zu_nc h, zf_nc h, zf_nc h]
theorem zfl_s {a : Nat} {k v : Int} (h0 : 0 ≤ k) : zul (zfl σ a k v) a k v = zfl σ a (k + 1) v := by
  refine Prod.ext rfl (funext fun c => ?_)
  by_cases h : c = a
  · subst h
    funext i
    by_cases hi : i = k
    · subst hi
      rw [zul_eq, zfl_in h0 (by omega)]
    · rw [zul_ne hi, zfl_eq, zfl_eq]
      by_cases q : 0 ≤ i ∧ i < k
      · rw [if_pos q, if_pos ⟨q.1, by omega⟩]
      · rw [if_neg q, if_neg (by omega)]
  · rw [zul_nc h, zfl_nc h, zfl_nc h]
set_option maxHeartbeats 1000000 in
theorem c_J7_fill {a n : Nat} (hc : zIA a n) {v : Int} : YV 0 μJ7_fill_53178 [.ref a, .int (zi v)] σ (zf σ a n v) := by
  refine YC.ofJ (by decide +kernel) (Nat.le_of_ble_eq_true rfl) (fun d P hd hP => ?_)
  have hn := hc.1
  have key := zw1 (fun i : Int => (0 ≤ i ∧ i ≤ n)) (fun i => Y d μJ7_fill_53178 5 [some (.ref a), some (.int (zi v)), some (.int (zi i)), some (.int (zi n))] [] (zf σ a i v) P) (fun i => (n - i).toNat) (by
    intro i hI ih
    obtain ⟨i1, i2⟩ := hI
    refine Y.iload_n dJ7_fill_53178_5 rfl ?_
    refine Y.iload_n dJ7_fill_53178_6 rfl ?_
    refine Y.icmp_ge 20 dJ7_fill_53178_7 (by decide) (by omega) (by omega) (fun h_7 => ?_) (fun h_7 => ?_)
    · exact Y.vret dJ7_fill_53178_20 rfl (hP _ _ ⟨rfl, by rw [show i = (n : Int) by omega]⟩)
    · refine Y.aload_n dJ7_fill_53178_10 rfl ?_
      refine Y.iload_n dJ7_fill_53178_11 rfl ?_
      refine Y.iload_n dJ7_fill_53178_12 rfl ?_
      refine Y.iast dJ7_fill_53178_13 hc (by omega) (by omega) ?_
      refine Y.iinc dJ7_fill_53178_14 rfl (by decide) rfl ?_
      refine Y.goto 5 dJ7_fill_53178_17 (by decide) ?_
      rw [zf_s i1]
      exact ih _ ⟨by omega, by omega⟩ (by omega)) 0 ⟨by omega, by omega⟩
  rw [zf_0] at key
  refine Y.iconst dJ7_fill_53178_0 ?_
  refine Y.istore_n dJ7_fill_53178_1 (by decide) rfl ?_
  refine Y.aload_n dJ7_fill_53178_2 rfl ?_
  refine Y.aleni dJ7_fill_53178_3 hc ?_
  refine Y.istore_n dJ7_fill_53178_4 (by decide) rfl ?_
  exact key
/-! a run, purely: over the class's own cells -/
def rel (p : zP) (i n : Int) : Int := p 3 i + n * p 0 i
def rdy (p : zP) (i n : Int) : Int := rel p i n + p 9 (i * 3) + n * p 4 i % (p 1 i + 1)
def rd (p : zP) (s : zS) (x t : Int) : Prop := s.1 45 x < 60 ∧ ((x % 3 = 0 ∧ s.1 57 (x / 3) ≤ t) ∨ (x % 3 ≠ 0 ∧ s.1 45 x < s.1 45 (x - 1) ∧ s.1 (48 + (x - 1).toNat) (s.1 45 x) + p 9 x ≤ t))
def ugc (p : zP) (s : zS) (node t x m : Int) : Prop := th p x ∧ p 6 x = node ∧ rd p s x t ∧ (m = -1 ∨ p 8 m < p 8 x)
noncomputable def ug (p : zP) (s : zS) (node t : Int) : Nat → Int
  | 0 => -1
  | n + 1 => @ite _ (ugc p s node t n (ug p s node t n)) (Classical.propDecidable _) n (ug p s node t n)
theorem ug_n {p : zP} {s : zS} {node t : Int} {n : Nat} : ug p s node t (n + 1) = @ite _ (ugc p s node t n (ug p s node t n)) (Classical.propDecidable _) (n : Int) (ug p s node t n) := rfl
theorem ug_1 {p : zP} {s : zS} {node t x : Int} (h0 : 0 ≤ x) (h : ugc p s node t x (ug p s node t (x - 0).toNat)) : ug p s node t (x + 1 - 0).toNat = x := by
  rw [show (x + 1 - 0).toNat = (x - 0).toNat + 1 by omega, ug_n]
  have e : (((x - 0).toNat : Nat) : Int) = x := by omega
  rw [e, if_pos h]
theorem ug_2 {p : zP} {s : zS} {node t x : Int} (h0 : 0 ≤ x) (h : ¬ ugc p s node t x (ug p s node t (x - 0).toNat)) : ug p s node t (x + 1 - 0).toNat = ug p s node t (x - 0).toNat := by
  rw [show (x + 1 - 0).toNat = (x - 0).toNat + 1 by omega, ug_n]
  have e : (((x - 0).toNat : Nat) : Int) = x := by omega
  rw [e, if_neg h]
/-- who is the most urgent, if any, is ready there -/
theorem ug_r {p : zP} {s : zS} {node t : Int} : ∀ n : Nat, ug p s node t n = -1 ∨ (0 ≤ ug p s node t n ∧ ug p s node t n < n ∧ th p (ug p s node t n) ∧ p 6 (ug p s node t n) = node ∧ rd p s (ug p s node t n) t)
  | 0 => Or.inl rfl
  | n + 1 => by
    by_cases h : ugc p s node t n (ug p s node t n)
    · rw [ug_n, if_pos h]
      exact Or.inr ⟨by omega, by omega, h.1, h.2.1, h.2.2.1⟩
    · rw [ug_n, if_neg h]
      rcases ug_r n with q | ⟨q1, q2, q3⟩
      · exact Or.inl q
      · exact Or.inr ⟨q1, by omega, q3⟩
def tkE (p : zP) (s1 : zS) (x t : Int) : zS :=
  let n := s1.1 45 x
  let a := t + 1 - rel p (x / 3) n
  let s2 := zu s1 (48 + x.toNat) n (t + 1)
  let s3 := zu s2 46 x 0
  let s4 := zu s3 45 x (s3.1 45 x + 1)
  let s5 := zu s4 38 1 (s4.1 38 1 + 1)
  let s6 := zu s5 43 x (max (s5.1 43 x) a)
  let s7 := zu s6 44 x (if s6.1 44 x = -1 then a else min (s6.1 44 x) a)
  if x % 3 = 0 then zu s7 57 (x / 3) (max (s7.1 57 (x / 3)) (rdy p (x / 3) (n + 1))) else s7
def tk (p : zP) (s : zS) (x t : Int) : zS := if s.1 46 x + 1 < p 7 x then zu s 46 x (s.1 46 x + 1) else tkE p (zu s 46 x (s.1 46 x + 1)) x t
noncomputable def ntk (p : zP) (s : zS) (node t : Int) : zS :=
  if ug p s node t 9 = -1 then zu (zu s (41 + node.toNat) t (-1)) 39 node ((zu s (41 + node.toNat) t (-1)).1 39 node + 1) else tk p (zu s (41 + node.toNat) t (ug p s node t 9)) (ug p s node t 9) t
noncomputable def tka (p : zP) (s : zS) (t : Int) : zS := ntk p (ntk p s 0 t) 1 t
def clr (σ : zS) : zS := zf (zf (zf (zf (zf (zf (zf (zu (zu σ 38 0 0) 38 1 0) 39 2 0) 41 300 (-1)) 42 300 (-1)) 43 9 (-1)) 44 9 (-1)) 45 9 0) 46 9 0
def rst (p : zP) (h : Int) (σ : zS) : zS := zu (zu (zu (zu (clr σ) 38 0 h) 57 0 (rdy p 0 0)) 57 1 (rdy p 1 0)) 57 2 (rdy p 2 0)
noncomputable def rnN (p : zP) (s : zS) : Nat → zS
  | 0 => s
  | n + 1 => tka p (rnN p s n) n
noncomputable def crun (p : zP) (h : Int) (σ : zS) : zS := rnN p (rst p h σ) (h - 0).toNat
theorem rnN_s {p : zP} {s : zS} {t : Int} (h : 0 ≤ t) : rnN p s (t + 1 - 0).toNat = tka p (rnN p s (t - 0).toNat) t := by
  rw [show (t + 1 - 0).toNat = (t - 0).toNat + 1 by omega]
  show tka p _ _ = _
  rw [show (((t - 0).toNat : Nat) : Int) = t by omega]
/-- bounds -/
def RB (p : zP) (s : zS) (a : Int) : Prop := (∀ x : Int, 0 ≤ x → x < 9 → (0 ≤ s.1 45 x ∧ s.1 45 x ≤ 60) ∧ (0 ≤ s.1 46 x ∧ s.1 46 x ≤ 28) ∧ (-20000 ≤ s.1 43 x ∧ s.1 43 x ≤ 20000) ∧ (-20000 ≤ s.1 44 x ∧ s.1 44 x ≤ 20000) ∧ ∀ n : Int, 0 ≤ n → n < s.1 45 x → 0 ≤ s.1 (48 + x.toNat) n ∧ s.1 (48 + x.toNat) n ≤ 300) ∧
  (∀ i : Int, 0 ≤ i → i < 3 → 0 ≤ s.1 57 i ∧ s.1 57 i ≤ 20000) ∧ (0 ≤ s.1 38 1 ∧ s.1 38 1 ≤ a) ∧ (0 ≤ s.1 39 0 ∧ s.1 39 0 ≤ a) ∧ (0 ≤ s.1 39 1 ∧ s.1 39 1 ≤ a)
theorem rel_b {p : zP} (hp : WP p) {i n : Int} (h0 : 0 ≤ i) (h3 : i < 3) (n0 : 0 ≤ n) (n1 : n ≤ 61) : 0 ≤ rel p i n ∧ rel p i n ≤ 6199 := by
  have h := hp.1 i h0 h3
  have hm := mul_b (a := 0) (b := 0) (x := n) (y := p 0 i) (A := 61) (B := 100) n0 n1 (by omega) (by omega) (by omega) (by omega)
  unfold rel
  omega
theorem rdy_b {p : zP} (hp : WP p) {i n : Int} (h0 : 0 ≤ i) (h3 : i < 3) (n0 : 0 ≤ n) (n1 : n ≤ 61) : 0 ≤ rdy p i n ∧ rdy p i n ≤ 7000 := by
  have h := hp.1 i h0 h3
  have hk := (hp.2.1 (i * 3) (by omega) (by omega)).2.2.2
  have hr := rel_b hp h0 h3 n0 n1
  have m0 := Int.emod_nonneg (n * p 4 i) (show p 1 i + 1 ≠ 0 by omega)
  have m1 := Int.emod_lt_of_pos (n * p 4 i) (show 0 < p 1 i + 1 by omega)
  unfold rdy
  omega
set_option maxHeartbeats 1000000 in
theorem c_X1_released {p : zP} (ec : cP σ = p) (hp : WP p) {i n : Int} (h0 : 0 ≤ i) (h3 : i < 3) : YI 0 μX1_released [.ref 1, .int (zi i), .int (zi n)] σ (rel p i n) σ := by
  refine YC.of2 (by decide) (Nat.le_of_ble_eq_true rfl) (fun d P hd hP => ?_)
  have e3 : σ.1 6 = p 3 := by rw [← ec]; rfl
  have e0 : σ.1 3 = p 0 := by rw [← ec]; rfl
  refine Y.aload_n dX1_released_0 rfl ?_
  refine Y.getf dX1_released_1 flX1_65 ob1 rfl ?_
  refine Y.iconst dX1_released_4 ?_
  refine Y.aald dX1_released_5 ra2 (by decide) (by decide) (by decide) rfl ?_
  refine Y.iload_n dX1_released_6 rfl ?_
  refine Y.iald dX1_released_7 ia6 (by omega) (by omega) ?_
  refine Y.iload_n dX1_released_8 rfl ?_
  refine Y.aload_n dX1_released_9 rfl ?_
  refine Y.getf dX1_released_10 flX1_65 ob1 rfl ?_
  refine Y.iconst dX1_released_13 ?_
  refine Y.aald dX1_released_14 ra2 (by decide) (by decide) (by decide) rfl ?_
  refine Y.iload_n dX1_released_15 rfl ?_
  refine Y.iald dX1_released_16 ia3 (by omega) (by omega) ?_
  refine Y.imul dX1_released_17 ?_
  refine Y.iadd dX1_released_18 ?_
  exact Y.iret dX1_released_19 rfl (hP _ _ ⟨zrI (by unfold rel; rw [e3, e0]), rfl⟩)
set_option maxHeartbeats 1000000 in
theorem c_X1_firstReady {p : zP} (ec : cP σ = p) (hp : WP p) {i n : Int} (h0 : 0 ≤ i) (h3 : i < 3) (n0 : 0 ≤ n) (n1 : n ≤ 61) : YI 1 μX1_firstReady [.ref 1, .int (zi i), .int (zi n)] σ (rdy p i n) σ := by
  refine YC.of2 (by decide) (Nat.le_of_ble_eq_true rfl) (fun d P hd hP => ?_)
  have e4 : σ.1 7 = p 4 := by rw [← ec]; rfl
  have e1 : σ.1 4 = p 1 := by rw [← ec]; rfl
  have e9 : σ.1 12 = p 9 := by rw [← ec]; rfl
  have h := hp.1 i h0 h3
  have hm := mul_b (a := 0) (b := 0) (x := n) (y := p 4 i) (A := 61) (B := 9) n0 n1 (by omega) (by omega) (by omega) (by omega)
  refine Y.iconst dX1_firstReady_0 ?_
  refine Y.aload_n dX1_firstReady_1 rfl ?_
  refine Y.getf dX1_firstReady_2 flX1_65 ob1 rfl ?_
  refine Y.iconst dX1_firstReady_5 ?_
  refine Y.aald dX1_firstReady_6 ra2 (by decide) (by decide) (by decide) rfl ?_
  refine Y.iload_n dX1_firstReady_7 rfl ?_
  refine Y.iald dX1_firstReady_8 ia4 (by omega) (by omega) ?_
  refine Y.iconst dX1_firstReady_9 ?_
  refine Y.iadd dX1_firstReady_10 ?_
  rw [e1]
  refine Y.mmax dX1_firstReady_11 csX1_70 (by omega) (Nat.le_of_ble_eq_true rfl) (by omega) (by omega) ?_
  refine Y.istore_n dX1_firstReady_14 (by decide) rfl ?_
  refine Y.aload_n dX1_firstReady_15 rfl ?_
  refine Y.iload_n dX1_firstReady_16 rfl ?_
  refine Y.iload_n dX1_firstReady_17 rfl ?_
  refine Y.cSI dX1_firstReady_18 mkX1_released csX1_76 (c_X1_released ec hp (by omega) (by omega)) (by omega) rfl rfl (Nat.le_of_ble_eq_true rfl) ?_
  refine Y.aload_n dX1_firstReady_21 rfl ?_
  refine Y.getf dX1_firstReady_22 flX1_79 ob1 rfl ?_
  refine Y.iconst dX1_firstReady_25 ?_
  refine Y.aald dX1_firstReady_26 ra8 (by decide) (by decide) (by decide) rfl ?_
  refine Y.iload_n dX1_firstReady_27 rfl ?_
  refine Y.iconst dX1_firstReady_28 ?_
  refine Y.imul dX1_firstReady_29 ?_
  refine Y.iald dX1_firstReady_30 ia12 (by omega) (by omega) ?_
  refine Y.iadd dX1_firstReady_31 ?_
  refine Y.iload_n dX1_firstReady_32 rfl ?_
  refine Y.aload_n dX1_firstReady_33 rfl ?_
  refine Y.getf dX1_firstReady_34 flX1_65 ob1 rfl ?_
  refine Y.iconst dX1_firstReady_37 ?_
  refine Y.aald dX1_firstReady_38 ra2 (by decide) (by decide) (by decide) rfl ?_
  refine Y.iload_n dX1_firstReady_39 rfl ?_
  refine Y.iald dX1_firstReady_40 ia7 (by omega) (by omega) ?_
  refine Y.imul dX1_firstReady_41 ?_
  rw [e4]
  refine Y.iload_n dX1_firstReady_42 rfl ?_
  refine Y.iremp dX1_firstReady_43 (by omega) (by omega) (by omega) (by omega) ?_
  refine Y.iadd dX1_firstReady_44 ?_
  exact Y.iret dX1_firstReady_45 rfl (hP _ _ ⟨zrI (by unfold rdy; rw [e9, show max 1 (p 1 i + 1) = p 1 i + 1 by omega]), rfl⟩)
set_option maxHeartbeats 1000000 in
theorem c_X1_isReady {p : zP} (ec : cP σ = p) (hp : WP p) {a : Int} (hR : RB p σ a) {x t : Int} (h0 : 0 ≤ x) (h9 : x < 9) (t0 : 0 ≤ t) (t3 : t < 300) : YI 0 μX1_isReady [.ref 38, .ref 1, .int (zi x), .int (zi t)] σ (zb (rd p σ x t)) σ := by
  refine YC.of2 (by decide) (Nat.le_of_ble_eq_true rfl) (fun d P hd hP => ?_)
  have e9 : σ.1 12 = p 9 := by rw [← ec]; rfl
  have hx := hR.1 x h0 h9
  have hr := hR.2.1 (x / 3) (by omega) (by omega)
  have hk := (hp.2.1 x h0 h9).2.2.2
  refine Y.aload_n dX1_isReady_0 rfl ?_
  refine Y.getf dX1_isReady_1 flX1_26 ob38 rfl ?_
  refine Y.iload_n dX1_isReady_4 rfl ?_
  refine Y.iald dX1_isReady_5 ia45 (by omega) (by omega) ?_
  refine Y.istore dX1_isReady_6 (by decide) rfl ?_
  refine Y.iload dX1_isReady_8 rfl ?_
  refine Y.bipush dX1_isReady_10 (by decide +kernel) ?_
  refine Y.icmp_lt 17 dX1_isReady_12 (by decide) (by omega) (by omega) (fun h_12 => ?_) (fun h_12 => ?_)
  · refine Y.iload_n dX1_isReady_17 rfl ?_
    refine Y.iconst dX1_isReady_18 ?_
    refine Y.iremp dX1_isReady_19 (by omega) (by omega) (by omega) (by omega) ?_
    refine Y.if_ne 41 dX1_isReady_20 (by decide) (by omega) (fun h_20 => ?_) (fun h_20 => ?_)
    · obtain ⟨w, hw⟩ : ∃ w : Nat, x - 1 = (w : Int) := ⟨(x - 1).toNat, by omega⟩
      have hw9 : w < 9 := by omega
      have e48 : 48 + (x - 1).toNat = 48 + w := by omega
      have hy := hR.1 (x - 1) (by omega) (by omega)
      refine Y.iload dX1_isReady_41 rfl ?_
      refine Y.aload_n dX1_isReady_43 rfl ?_
      refine Y.getf dX1_isReady_44 flX1_26 ob38 rfl ?_
      refine Y.iload_n dX1_isReady_47 rfl ?_
      refine Y.iconst dX1_isReady_48 ?_
      refine Y.isub dX1_isReady_49 ?_
      refine Y.iald dX1_isReady_50 ia45 (by omega) (by omega) ?_
      refine Y.icmp_ge 82 dX1_isReady_51 (by decide) (by omega) (by omega) (fun h_51 => ?_) (fun h_51 => ?_)
      · refine Y.iconst dX1_isReady_82 ?_
        exact Y.zret dX1_isReady_83 rfl (by decide) (hP _ _ ⟨zrI (by first | exact (zb_t ⟨by omega, Or.inl ⟨by omega, by omega⟩⟩).symm | exact (zb_t ⟨by omega, Or.inr ⟨by omega, by omega, by rw [e48]; omega⟩⟩).symm | exact (zb_f (fun q => by have q1 := q.1; omega)).symm | exact (zb_f (fun q => by have q4 := q.2; omega)).symm | exact (zb_f (fun q => by have q4 := q.2; rw [e48] at q4; omega)).symm), rfl⟩)
      · have he := hy.2.2.2.2 (σ.1 45 x) (by omega) (by omega)
        rw [e48] at he
        refine Y.aload_n dX1_isReady_54 rfl ?_
        refine Y.getf dX1_isReady_55 flX1_32 ob38 rfl ?_
        refine Y.iload_n dX1_isReady_58 rfl ?_
        refine Y.iconst dX1_isReady_59 ?_
        refine Y.isub dX1_isReady_60 ?_
        rw [hw]
        refine Y.aald dX1_isReady_61 ra47 (by decide) (by omega) (by omega) (hqE hw9) ?_
        refine Y.iload dX1_isReady_62 rfl ?_
        refine Y.iald dX1_isReady_64 (iaE hw9) (by omega) (by omega) ?_
        refine Y.aload_n dX1_isReady_65 rfl ?_
        refine Y.getf dX1_isReady_66 flX1_79 ob1 rfl ?_
        refine Y.iconst dX1_isReady_69 ?_
        refine Y.aald dX1_isReady_70 ra8 (by decide) (by decide) (by decide) rfl ?_
        refine Y.iload_n dX1_isReady_71 rfl ?_
        refine Y.iald dX1_isReady_72 ia12 (by omega) (by omega) ?_
        refine Y.iadd dX1_isReady_73 ?_
        refine Y.iload_n dX1_isReady_74 rfl ?_
        rw [e9]
        refine Y.icmp_gt 82 dX1_isReady_75 (by decide) (by omega) (by omega) (fun h_75 => ?_) (fun h_75 => ?_)
        · refine Y.iconst dX1_isReady_82 ?_
          exact Y.zret dX1_isReady_83 rfl (by decide) (hP _ _ ⟨zrI (by first | exact (zb_t ⟨by omega, Or.inl ⟨by omega, by omega⟩⟩).symm | exact (zb_t ⟨by omega, Or.inr ⟨by omega, by omega, by rw [e48]; omega⟩⟩).symm | exact (zb_f (fun q => by have q1 := q.1; omega)).symm | exact (zb_f (fun q => by have q4 := q.2; omega)).symm | exact (zb_f (fun q => by have q4 := q.2; rw [e48] at q4; omega)).symm), rfl⟩)
        · refine Y.iconst dX1_isReady_78 ?_
          refine Y.goto 83 dX1_isReady_79 (by decide) ?_
          exact Y.zret dX1_isReady_83 rfl (by decide) (hP _ _ ⟨zrI (by first | exact (zb_t ⟨by omega, Or.inl ⟨by omega, by omega⟩⟩).symm | exact (zb_t ⟨by omega, Or.inr ⟨by omega, by omega, by rw [e48]; omega⟩⟩).symm | exact (zb_f (fun q => by have q1 := q.1; omega)).symm | exact (zb_f (fun q => by have q4 := q.2; omega)).symm | exact (zb_f (fun q => by have q4 := q.2; rw [e48] at q4; omega)).symm), rfl⟩)
    · refine Y.aload_n dX1_isReady_23 rfl ?_
      refine Y.getf dX1_isReady_24 flX1_35 ob38 rfl ?_
      refine Y.iload_n dX1_isReady_27 rfl ?_
      refine Y.iconst dX1_isReady_28 ?_
      refine Y.idivp dX1_isReady_29 (by omega) (by omega) (by omega) (by omega) ?_
      refine Y.iald dX1_isReady_30 ia57 (by omega) (by omega) ?_
      refine Y.iload_n dX1_isReady_31 rfl ?_
      refine Y.icmp_gt 39 dX1_isReady_32 (by decide) (by omega) (by omega) (fun h_32 => ?_) (fun h_32 => ?_)
      · refine Y.iconst dX1_isReady_39 ?_
        exact Y.zret dX1_isReady_40 rfl (by decide) (hP _ _ ⟨zrI (by first | exact (zb_t ⟨by omega, Or.inl ⟨by omega, by omega⟩⟩).symm | exact (zb_t ⟨by omega, Or.inr ⟨by omega, by omega, by rw [e48]; omega⟩⟩).symm | exact (zb_f (fun q => by have q1 := q.1; omega)).symm | exact (zb_f (fun q => by have q4 := q.2; omega)).symm | exact (zb_f (fun q => by have q4 := q.2; rw [e48] at q4; omega)).symm), rfl⟩)
      · refine Y.iconst dX1_isReady_35 ?_
        refine Y.goto 40 dX1_isReady_36 (by decide) ?_
        exact Y.zret dX1_isReady_40 rfl (by decide) (hP _ _ ⟨zrI (by first | exact (zb_t ⟨by omega, Or.inl ⟨by omega, by omega⟩⟩).symm | exact (zb_t ⟨by omega, Or.inr ⟨by omega, by omega, by rw [e48]; omega⟩⟩).symm | exact (zb_f (fun q => by have q1 := q.1; omega)).symm | exact (zb_f (fun q => by have q4 := q.2; omega)).symm | exact (zb_f (fun q => by have q4 := q.2; rw [e48] at q4; omega)).symm), rfl⟩)
  · refine Y.iconst dX1_isReady_15 ?_
    exact Y.zret dX1_isReady_16 rfl (by decide) (hP _ _ ⟨zrI (by first | exact (zb_t ⟨by omega, Or.inl ⟨by omega, by omega⟩⟩).symm | exact (zb_t ⟨by omega, Or.inr ⟨by omega, by omega, by rw [e48]; omega⟩⟩).symm | exact (zb_f (fun q => by have q1 := q.1; omega)).symm | exact (zb_f (fun q => by have q4 := q.2; omega)).symm | exact (zb_f (fun q => by have q4 := q.2; rw [e48] at q4; omega)).symm), rfl⟩)
set_option maxHeartbeats 2000000 in
theorem c_X1_mostUrgent {p : zP} (ec : cP σ = p) (hp : WP p) {a : Int} (hR : RB p σ a) {node t : Int} (hn : 0 ≤ node ∧ node ≤ 1) (t0 : 0 ≤ t) (t3 : t < 300) : YI 1 μX1_mostUrgent [.ref 38, .ref 1, .int (zi node), .int (zi t)] σ (ug p σ node t 9) σ := by
  refine YC.of2 (by decide) (Nat.le_of_ble_eq_true rfl) (fun d P hd hP => ?_)
  have e6 : σ.1 9 = p 6 := by rw [← ec]; rfl
  have e8 : σ.1 11 = p 8 := by rw [← ec]; rfl
  refine Y.iconst dX1_mostUrgent_0 ?_
  refine Y.istore dX1_mostUrgent_1 (by decide) rfl ?_
  refine Y.iconst dX1_mostUrgent_3 ?_
  refine Y.istore dX1_mostUrgent_4 (by decide) rfl ?_
  refine zw2 (fun m x => (0 ≤ x ∧ x ≤ 9 ∧ m = ug p σ node t (x - 0).toNat)) (fun m x => Y d μX1_mostUrgent 6 [some (.ref 38), some (.ref 1), some (.int (zi node)), some (.int (zi t)), some (.int (zi m)), some (.int (zi x))] [] σ P) (fun m x => (9 - x).toNat) ?_ _ _ ⟨by omega, by omega, rfl⟩
  intro m x hI ih
  obtain ⟨i1, i2, i3⟩ := hI
  have hm := ug_r (p := p) (s := σ) (node := node) (t := t) (x - 0).toNat
  rw [← i3] at hm
  refine Y.iload dX1_mostUrgent_6 rfl ?_
  refine Y.bipush dX1_mostUrgent_8 (by decide +kernel) ?_
  refine Y.icmp_ge 83 dX1_mostUrgent_10 (by decide) (by omega) (by omega) (fun h_10 => ?_) (fun h_10 => ?_)
  · refine Y.iload dX1_mostUrgent_83 rfl ?_
    exact Y.iret dX1_mostUrgent_85 rfl (hP _ _ ⟨zrI (by rw [i3, show x = 9 by omega]; rfl), rfl⟩)
  · have hkx := hp.2.1 x (by omega) (by omega)
    refine Y.aload_n dX1_mostUrgent_13 rfl ?_
    refine Y.iload dX1_mostUrgent_14 rfl ?_
    refine Y.cVI dX1_mostUrgent_16 mkX2_isStep csX1_82 ob1 ⟨_, rfl, rfl⟩ (k_X2_isStep ec hp (by omega) (by omega)) (by omega) rfl rfl (Nat.le_of_ble_eq_true rfl) ?_
    refine Y.ifz_eq 77 dX1_mostUrgent_19 (by decide) (fun h_19 => ?_) (fun h_19 => ?_)
    · refine Y.iinc dX1_mostUrgent_77 rfl (by decide) rfl ?_
      refine Y.goto 6 dX1_mostUrgent_80 (by decide) ?_
      refine ih _ _ ⟨by omega, by omega, ?_⟩ (by omega)
      first
        | (rw [ug_1 i1 ⟨by assumption, by omega, by assumption, by rw [← i3]; omega⟩]; done)
        | (rw [ug_2 i1 (fun q => absurd q.1 (by assumption))]; exact i3)
        | (rw [ug_2 i1 (fun q => by have q2 := q.2.1; omega)]; exact i3)
        | (rw [ug_2 i1 (fun q => absurd q.2.2.1 (by assumption))]; exact i3)
        | (rw [ug_2 i1 (fun q => by have q2 := q.2.2.2; rw [← i3] at q2; omega)]; exact i3)
    · refine Y.aload_n dX1_mostUrgent_22 rfl ?_
      refine Y.getf dX1_mostUrgent_23 flX1_79 ob1 rfl ?_
      refine Y.iconst dX1_mostUrgent_26 ?_
      refine Y.aald dX1_mostUrgent_27 ra8 (by decide) (by decide) (by decide) rfl ?_
      refine Y.iload dX1_mostUrgent_28 rfl ?_
      refine Y.iald dX1_mostUrgent_30 ia9 (by omega) (by omega) ?_
      refine Y.iload_n dX1_mostUrgent_31 rfl ?_
      rw [e6]
      refine Y.icmp_ne 77 dX1_mostUrgent_32 (by decide) (by omega) (by omega) (fun h_32 => ?_) (fun h_32 => ?_)
      · refine Y.iinc dX1_mostUrgent_77 rfl (by decide) rfl ?_
        refine Y.goto 6 dX1_mostUrgent_80 (by decide) ?_
        refine ih _ _ ⟨by omega, by omega, ?_⟩ (by omega)
        first
          | (rw [ug_1 i1 ⟨by assumption, by omega, by assumption, by rw [← i3]; omega⟩]; done)
          | (rw [ug_2 i1 (fun q => absurd q.1 (by assumption))]; exact i3)
          | (rw [ug_2 i1 (fun q => by have q2 := q.2.1; omega)]; exact i3)
          | (rw [ug_2 i1 (fun q => absurd q.2.2.1 (by assumption))]; exact i3)
          | (rw [ug_2 i1 (fun q => by have q2 := q.2.2.2; rw [← i3] at q2; omega)]; exact i3)
      · refine Y.aload_n dX1_mostUrgent_35 rfl ?_
        refine Y.aload_n dX1_mostUrgent_36 rfl ?_
        refine Y.iload dX1_mostUrgent_37 rfl ?_
        refine Y.iload_n dX1_mostUrgent_39 rfl ?_
        refine Y.cVI dX1_mostUrgent_40 mkX1_isReady csX1_86 ob38 ⟨_, rfl, rfl⟩ (c_X1_isReady ec hp hR (by omega) (by omega) t0 t3) (by omega) rfl rfl (Nat.le_of_ble_eq_true rfl) ?_
        refine Y.ifz_eq 77 dX1_mostUrgent_43 (by decide) (fun h_43 => ?_) (fun h_43 => ?_)
        · refine Y.iinc dX1_mostUrgent_77 rfl (by decide) rfl ?_
          refine Y.goto 6 dX1_mostUrgent_80 (by decide) ?_
          refine ih _ _ ⟨by omega, by omega, ?_⟩ (by omega)
          first
            | (rw [ug_1 i1 ⟨by assumption, by omega, by assumption, by rw [← i3]; omega⟩]; done)
            | (rw [ug_2 i1 (fun q => absurd q.1 (by assumption))]; exact i3)
            | (rw [ug_2 i1 (fun q => by have q2 := q.2.1; omega)]; exact i3)
            | (rw [ug_2 i1 (fun q => absurd q.2.2.1 (by assumption))]; exact i3)
            | (rw [ug_2 i1 (fun q => by have q2 := q.2.2.2; rw [← i3] at q2; omega)]; exact i3)
        · refine Y.iload dX1_mostUrgent_46 rfl ?_
          refine Y.iconst dX1_mostUrgent_48 ?_
          refine Y.icmp_eq 73 dX1_mostUrgent_49 (by decide) (by omega) (by omega) (fun h_49 => ?_) (fun h_49 => ?_)
          · refine Y.iload dX1_mostUrgent_73 rfl ?_
            refine Y.istore dX1_mostUrgent_75 (by decide) rfl ?_
            refine Y.iinc dX1_mostUrgent_77 rfl (by decide) rfl ?_
            refine Y.goto 6 dX1_mostUrgent_80 (by decide) ?_
            refine ih _ _ ⟨by omega, by omega, ?_⟩ (by omega)
            first
              | (rw [ug_1 i1 ⟨by assumption, by omega, by assumption, by rw [← i3]; omega⟩]; done)
              | (rw [ug_2 i1 (fun q => absurd q.1 (by assumption))]; exact i3)
              | (rw [ug_2 i1 (fun q => by have q2 := q.2.1; omega)]; exact i3)
              | (rw [ug_2 i1 (fun q => absurd q.2.2.1 (by assumption))]; exact i3)
              | (rw [ug_2 i1 (fun q => by have q2 := q.2.2.2; rw [← i3] at q2; omega)]; exact i3)
          · have hm2 : 0 ≤ m ∧ m < 9 := by omega
            have hkm := hp.2.1 m (by omega) (by omega)
            refine Y.aload_n dX1_mostUrgent_52 rfl ?_
            refine Y.getf dX1_mostUrgent_53 flX1_79 ob1 rfl ?_
            refine Y.iconst dX1_mostUrgent_56 ?_
            refine Y.aald dX1_mostUrgent_57 ra8 (by decide) (by decide) (by decide) rfl ?_
            refine Y.iload dX1_mostUrgent_58 rfl ?_
            refine Y.iald dX1_mostUrgent_60 ia11 (by omega) (by omega) ?_
            refine Y.aload_n dX1_mostUrgent_61 rfl ?_
            refine Y.getf dX1_mostUrgent_62 flX1_79 ob1 rfl ?_
            refine Y.iconst dX1_mostUrgent_65 ?_
            refine Y.aald dX1_mostUrgent_66 ra8 (by decide) (by decide) (by decide) rfl ?_
            refine Y.iload dX1_mostUrgent_67 rfl ?_
            refine Y.iald dX1_mostUrgent_69 ia11 (by omega) (by omega) ?_
            rw [e8]
            refine Y.icmp_le 77 dX1_mostUrgent_70 (by decide) (by omega) (by omega) (fun h_70 => ?_) (fun h_70 => ?_)
            · refine Y.iinc dX1_mostUrgent_77 rfl (by decide) rfl ?_
              refine Y.goto 6 dX1_mostUrgent_80 (by decide) ?_
              refine ih _ _ ⟨by omega, by omega, ?_⟩ (by omega)
              first
                | (rw [ug_1 i1 ⟨by assumption, by omega, by assumption, by rw [← i3]; omega⟩]; done)
                | (rw [ug_2 i1 (fun q => absurd q.1 (by assumption))]; exact i3)
                | (rw [ug_2 i1 (fun q => by have q2 := q.2.1; omega)]; exact i3)
                | (rw [ug_2 i1 (fun q => absurd q.2.2.1 (by assumption))]; exact i3)
                | (rw [ug_2 i1 (fun q => by have q2 := q.2.2.2; rw [← i3] at q2; omega)]; exact i3)
            · refine Y.iload dX1_mostUrgent_73 rfl ?_
              refine Y.istore dX1_mostUrgent_75 (by decide) rfl ?_
              refine Y.iinc dX1_mostUrgent_77 rfl (by decide) rfl ?_
              refine Y.goto 6 dX1_mostUrgent_80 (by decide) ?_
              refine ih _ _ ⟨by omega, by omega, ?_⟩ (by omega)
              first
                | (rw [ug_1 i1 ⟨by assumption, by omega, by assumption, by rw [← i3]; omega⟩]; done)
                | (rw [ug_2 i1 (fun q => absurd q.1 (by assumption))]; exact i3)
                | (rw [ug_2 i1 (fun q => by have q2 := q.2.1; omega)]; exact i3)
                | (rw [ug_2 i1 (fun q => absurd q.2.2.1 (by assumption))]; exact i3)
                | (rw [ug_2 i1 (fun q => by have q2 := q.2.2.2; rw [← i3] at q2; omega)]; exact i3)
set_option maxHeartbeats 4000000 in
theorem c_X1_doTick {p : zP} (ec : cP σ = p) (hp : WP p) {a : Int} (hR : RB p σ a) (ha : a ≤ 700) {x t : Int} (h0 : 0 ≤ x) (h9 : x < 9) (t0 : 0 ≤ t) (t3 : t < 300) (hr : rd p σ x t) : YV 2 μX1_doTick [.ref 38, .ref 1, .int (zi x), .int (zi t)] σ (tk p σ x t) := by
  obtain ⟨w, rfl⟩ : ∃ w : Nat, x = (w : Int) := ⟨x.toNat, by omega⟩
  refine YC.of2 (by decide) (Nat.le_of_ble_eq_true rfl) (fun d P hd hP => ?_)
  have h9 : w < 9 := by omega
  have hx := hR.1 (w : Int) h0 (by omega)
  have h57 := hR.2.1 ((w : Int) / 3) (by omega) (by omega)
  have h38 := hR.2.2.1
  have hk := (hp.2.1 (w : Int) h0 (by omega)).2.1
  have hr1 := hr.1
  refine Y.aload_n dX1_doTick_0 rfl ?_
  refine Y.getf dX1_doTick_1 flX1_29 ob38 rfl ?_
  refine Y.iload_n dX1_doTick_4 rfl ?_
  refine Y.dup2 dX1_doTick_5 rfl rfl ?_
  refine Y.iald dX1_doTick_6 ia46 (by omega) (by omega) ?_
  refine Y.iconst dX1_doTick_7 ?_
  refine Y.iadd dX1_doTick_8 ?_
  refine Y.iast dX1_doTick_9 ia46 (by omega) (by omega) ?_
  obtain ⟨s1, es1⟩ : ∃ s1, s1 = zu σ 46 (w : Int) (σ.1 46 (w : Int) + 1) := ⟨_, rfl⟩
  rw [← es1]
  have f1 : ∀ c : Nat, c ≠ 46 → s1.1 c = σ.1 c := fun c h => by rw [es1, zu_nc h]
  have g1 : s1.1 46 (w : Int) = σ.1 46 (w : Int) + 1 := by rw [es1, zu_eq]
  have c1 : s1.1 10 = p 7 := by rw [f1 10 (by omega), ← ec]; rfl
  have ec1 : cP s1 = p := (cP_c (fun c h => f1 c (by omega))).trans ec
  have b45 : s1.1 45 (w : Int) = σ.1 45 (w : Int) := by rw [f1 45 (by omega)]
  have b43 : s1.1 43 (w : Int) = σ.1 43 (w : Int) := by rw [f1 43 (by omega)]
  have b44 : s1.1 44 (w : Int) = σ.1 44 (w : Int) := by rw [f1 44 (by omega)]
  have b57 : s1.1 57 ((w : Int) / 3) = σ.1 57 ((w : Int) / 3) := by rw [f1 57 (by omega)]
  have b38 : s1.1 38 1 = σ.1 38 1 := by rw [f1 38 (by omega)]
  refine Y.aload_n dX1_doTick_10 rfl ?_
  refine Y.getf dX1_doTick_11 flX1_29 ob38 rfl ?_
  refine Y.iload_n dX1_doTick_14 rfl ?_
  refine Y.iald dX1_doTick_15 ia46 (by omega) (by omega) ?_
  refine Y.aload_n dX1_doTick_16 rfl ?_
  refine Y.getf dX1_doTick_17 flX1_79 ob1 rfl ?_
  refine Y.iconst dX1_doTick_20 ?_
  refine Y.aald dX1_doTick_21 ra8 (by decide) (by decide) (by decide) rfl ?_
  refine Y.iload_n dX1_doTick_22 rfl ?_
  refine Y.iald dX1_doTick_23 ia10 (by omega) (by omega) ?_
  rw [c1, g1]
  refine Y.icmp_ge 28 dX1_doTick_24 (by decide) (by omega) (by omega) (fun h_24 => ?_) (fun h_24 => ?_)
  · have hn0 : 0 ≤ s1.1 45 (w : Int) ∧ s1.1 45 (w : Int) ≤ 59 := by omega
    have hrl := rel_b hp (i := (w : Int) / 3) (n := s1.1 45 (w : Int)) (by omega) (by omega) (by omega) (by omega)
    have hrd := rdy_b hp (i := (w : Int) / 3) (n := s1.1 45 (w : Int) + 1) (by omega) (by omega) (by omega) (by omega)
    refine Y.iload_n dX1_doTick_28 rfl ?_
    refine Y.iconst dX1_doTick_29 ?_
    refine Y.idivp dX1_doTick_30 (by omega) (by omega) (by omega) (by omega) ?_
    refine Y.istore dX1_doTick_31 (by decide) rfl ?_
    refine Y.aload_n dX1_doTick_33 rfl ?_
    refine Y.getf dX1_doTick_34 flX1_26 ob38 rfl ?_
    refine Y.iload_n dX1_doTick_37 rfl ?_
    refine Y.iald dX1_doTick_38 ia45 (by omega) (by omega) ?_
    refine Y.istore dX1_doTick_39 (by decide) rfl ?_
    refine Y.iload_n dX1_doTick_41 rfl ?_
    refine Y.iconst dX1_doTick_42 ?_
    refine Y.iadd dX1_doTick_43 ?_
    refine Y.aload_n dX1_doTick_44 rfl ?_
    refine Y.iload dX1_doTick_45 rfl ?_
    refine Y.iload dX1_doTick_47 rfl ?_
    refine Y.cSI dX1_doTick_49 mkX1_released csX1_76 (c_X1_released ec1 hp (by omega) (by omega)) (by omega) rfl rfl (Nat.le_of_ble_eq_true rfl) ?_
    refine Y.isub dX1_doTick_52 ?_
    refine Y.istore dX1_doTick_53 (by decide) rfl ?_
    refine Y.aload_n dX1_doTick_55 rfl ?_
    refine Y.getf dX1_doTick_56 flX1_32 ob38 rfl ?_
    refine Y.iload_n dX1_doTick_59 rfl ?_
    refine Y.aald dX1_doTick_60 ra47 (by decide) (by omega) (by omega) (hqE h9) ?_
    refine Y.iload dX1_doTick_61 rfl ?_
    refine Y.iload_n dX1_doTick_63 rfl ?_
    refine Y.iconst dX1_doTick_64 ?_
    refine Y.iadd dX1_doTick_65 ?_
    refine Y.iast dX1_doTick_66 (iaE h9) (by omega) (by omega) ?_
    obtain ⟨s2, es2⟩ : ∃ s2, s2 = zu s1 (48 + w) (s1.1 45 (w : Int)) (t + 1) := ⟨_, rfl⟩
    rw [← es2]
    have b2_45 : s2.1 45 (w : Int) = s1.1 45 (w : Int) := by rw [es2, zu_nc (by omega)]
    have b2_38 : s2.1 38 1 = s1.1 38 1 := by rw [es2, zu_nc (by omega)]
    have b2_43 : s2.1 43 (w : Int) = s1.1 43 (w : Int) := by rw [es2, zu_nc (by omega)]
    have b2_44 : s2.1 44 (w : Int) = s1.1 44 (w : Int) := by rw [es2, zu_nc (by omega)]
    have b2_57 : s2.1 57 ((w : Int) / 3) = s1.1 57 ((w : Int) / 3) := by rw [es2, zu_nc (by omega)]
    refine Y.aload_n dX1_doTick_67 rfl ?_
    refine Y.getf dX1_doTick_68 flX1_29 ob38 rfl ?_
    refine Y.iload_n dX1_doTick_71 rfl ?_
    refine Y.iconst dX1_doTick_72 ?_
    refine Y.iast dX1_doTick_73 ia46 (by omega) (by omega) ?_
    obtain ⟨s3, es3⟩ : ∃ s3, s3 = zu s2 46 (w : Int) 0 := ⟨_, rfl⟩
    rw [← es3]
    have b3_45 : s3.1 45 (w : Int) = s1.1 45 (w : Int) := by rw [es3, zu_nc (by omega), b2_45]
    have b3_38 : s3.1 38 1 = s1.1 38 1 := by rw [es3, zu_nc (by omega), b2_38]
    have b3_43 : s3.1 43 (w : Int) = s1.1 43 (w : Int) := by rw [es3, zu_nc (by omega), b2_43]
    have b3_44 : s3.1 44 (w : Int) = s1.1 44 (w : Int) := by rw [es3, zu_nc (by omega), b2_44]
    have b3_57 : s3.1 57 ((w : Int) / 3) = s1.1 57 ((w : Int) / 3) := by rw [es3, zu_nc (by omega), b2_57]
    refine Y.aload_n dX1_doTick_74 rfl ?_
    refine Y.getf dX1_doTick_75 flX1_26 ob38 rfl ?_
    refine Y.iload_n dX1_doTick_78 rfl ?_
    refine Y.dup2 dX1_doTick_79 rfl rfl ?_
    refine Y.iald dX1_doTick_80 ia45 (by omega) (by omega) ?_
    refine Y.iconst dX1_doTick_81 ?_
    refine Y.iadd dX1_doTick_82 ?_
    refine Y.iast dX1_doTick_83 ia45 (by omega) (by omega) ?_
    obtain ⟨s4, es4⟩ : ∃ s4, s4 = zu s3 45 (w : Int) (s3.1 45 (w : Int) + 1) := ⟨_, rfl⟩
    rw [← es4]
    have b4_38 : s4.1 38 1 = s1.1 38 1 := by rw [es4, zu_nc (by omega), b3_38]
    have b4_43 : s4.1 43 (w : Int) = s1.1 43 (w : Int) := by rw [es4, zu_nc (by omega), b3_43]
    have b4_44 : s4.1 44 (w : Int) = s1.1 44 (w : Int) := by rw [es4, zu_nc (by omega), b3_44]
    have b4_57 : s4.1 57 ((w : Int) / 3) = s1.1 57 ((w : Int) / 3) := by rw [es4, zu_nc (by omega), b3_57]
    refine Y.aload_n dX1_doTick_84 rfl ?_
    refine Y.dup dX1_doTick_85 rfl ?_
    refine Y.getf dX1_doTick_86 flX1_45 ob38 rfl ?_
    refine Y.iconst dX1_doTick_89 ?_
    refine Y.iadd dX1_doTick_90 ?_
    refine Y.putf 1 dX1_doTick_91 fpX1_45 ob38 os38_1 (Nat.le_of_ble_eq_true rfl) (Or.inl rfl) rfl ?_
    obtain ⟨s5, es5⟩ : ∃ s5, s5 = zu s4 38 1 (s4.1 38 1 + 1) := ⟨_, rfl⟩
    rw [← es5]
    have b5_43 : s5.1 43 (w : Int) = s1.1 43 (w : Int) := by rw [es5, zu_nc (by omega), b4_43]
    have b5_44 : s5.1 44 (w : Int) = s1.1 44 (w : Int) := by rw [es5, zu_nc (by omega), b4_44]
    have b5_57 : s5.1 57 ((w : Int) / 3) = s1.1 57 ((w : Int) / 3) := by rw [es5, zu_nc (by omega), b4_57]
    refine Y.aload_n dX1_doTick_94 rfl ?_
    refine Y.getf dX1_doTick_95 flX1_20 ob38 rfl ?_
    refine Y.iload_n dX1_doTick_98 rfl ?_
    refine Y.aload_n dX1_doTick_99 rfl ?_
    refine Y.getf dX1_doTick_100 flX1_20 ob38 rfl ?_
    refine Y.iload_n dX1_doTick_103 rfl ?_
    refine Y.iald dX1_doTick_104 ia43 (by omega) (by omega) ?_
    refine Y.iload dX1_doTick_105 rfl ?_
    rw [b5_43]
    refine Y.mmax dX1_doTick_107 csX1_70 (by omega) (Nat.le_of_ble_eq_true rfl) (by omega) (by omega) ?_
    refine Y.iast dX1_doTick_110 ia43 (by omega) (by omega) ?_
    obtain ⟨s6, es6⟩ : ∃ s6, s6 = zu s5 43 (w : Int) (max (s1.1 43 (w : Int)) (t + 1 - rel p ((w : Int) / 3) (s1.1 45 (w : Int)))) := ⟨_, rfl⟩
    rw [← es6]
    have b6_44 : s6.1 44 (w : Int) = s1.1 44 (w : Int) := by rw [es6, zu_nc (by omega), b5_44]
    have b6_57 : s6.1 57 ((w : Int) / 3) = s1.1 57 ((w : Int) / 3) := by rw [es6, zu_nc (by omega), b5_57]
    refine Y.aload_n dX1_doTick_111 rfl ?_
    refine Y.getf dX1_doTick_112 flX1_23 ob38 rfl ?_
    refine Y.iload_n dX1_doTick_115 rfl ?_
    refine Y.aload_n dX1_doTick_116 rfl ?_
    refine Y.getf dX1_doTick_117 flX1_23 ob38 rfl ?_
    refine Y.iload_n dX1_doTick_120 rfl ?_
    refine Y.iald dX1_doTick_121 ia44 (by omega) (by omega) ?_
    have k142 : ∀ v : Int, v = (if s1.1 44 (w : Int) = -1 then (t + 1 - rel p ((w : Int) / 3) (s1.1 45 (w : Int))) else min (s1.1 44 (w : Int)) (t + 1 - rel p ((w : Int) / 3) (s1.1 45 (w : Int)))) → Y d μX1_doTick 142 [some (.ref 38), some (.ref 1), some (.int (zi (w : Int))), some (.int (zi t)), some (.int (zi ((w : Int) / 3))), some (.int (zi (s1.1 45 (w : Int)))), some (.int (zi (t + 1 - rel p ((w : Int) / 3) (s1.1 45 (w : Int)))))] [.int (zi v), .int (zi (w : Int)), .ref 44] s6 P := by
      intro v hv
      refine Y.iast dX1_doTick_142 ia44 (by omega) (by omega) ?_
      obtain ⟨s7, es7⟩ : ∃ s7, s7 = zu s6 44 (w : Int) (if s1.1 44 (w : Int) = -1 then (t + 1 - rel p ((w : Int) / 3) (s1.1 45 (w : Int))) else min (s1.1 44 (w : Int)) (t + 1 - rel p ((w : Int) / 3) (s1.1 45 (w : Int)))) := ⟨_, rfl⟩
      rw [hv, ← es7]
      have b7_57 : s7.1 57 ((w : Int) / 3) = s1.1 57 ((w : Int) / 3) := by rw [es7, zu_nc (by omega), b6_57]
      have hs7 : cP s7 = p := by
        refine (cP_c (fun c h => ?_)).trans ec1
        rw [es7, zu_nc (by omega), es6, zu_nc (by omega), es5, zu_nc (by omega), es4, zu_nc (by omega), es3, zu_nc (by omega), es2, zu_nc (by omega)]
      have etk : tk p σ (w : Int) t = tkE p s1 (w : Int) t := by unfold tk; rw [if_neg (by rw [← g1]; omega), ← es1]
      have etE : tkE p s1 (w : Int) t = if (w : Int) % 3 = 0 then zu s7 57 ((w : Int) / 3) (max (s7.1 57 ((w : Int) / 3)) (rdy p ((w : Int) / 3) (s1.1 45 (w : Int) + 1))) else s7 := by
        have e6 : s6 = zu s5 43 (w : Int) (max (s5.1 43 (w : Int)) (t + 1 - rel p ((w : Int) / 3) (s1.1 45 (w : Int)))) := by rw [b5_43]; exact es6
        have e7 : s7 = zu s6 44 (w : Int) (if s6.1 44 (w : Int) = -1 then (t + 1 - rel p ((w : Int) / 3) (s1.1 45 (w : Int))) else min (s6.1 44 (w : Int)) (t + 1 - rel p ((w : Int) / 3) (s1.1 45 (w : Int)))) := by rw [b6_44]; exact es7
        rw [e7, e6, es5, es4, es3, es2]
        rfl
      refine Y.iload_n dX1_doTick_143 rfl ?_
      refine Y.iconst dX1_doTick_144 ?_
      refine Y.iremp dX1_doTick_145 (by omega) (by omega) (by omega) (by omega) ?_
      refine Y.if_ne 176 dX1_doTick_146 (by decide) (by omega) (fun h_146 => ?_) (fun h_146 => ?_)
      · exact Y.vret dX1_doTick_176 rfl (hP _ _ ⟨rfl, by rw [etk, etE]; first | (rw [if_pos (by omega), b7_57]; done) | (rw [if_neg (by omega)]; done)⟩)
      · refine Y.aload_n dX1_doTick_149 rfl ?_
        refine Y.getf dX1_doTick_150 flX1_35 ob38 rfl ?_
        refine Y.iload dX1_doTick_153 rfl ?_
        refine Y.aload_n dX1_doTick_155 rfl ?_
        refine Y.getf dX1_doTick_156 flX1_35 ob38 rfl ?_
        refine Y.iload dX1_doTick_159 rfl ?_
        refine Y.iald dX1_doTick_161 ia57 (by omega) (by omega) ?_
        refine Y.aload_n dX1_doTick_162 rfl ?_
        refine Y.iload dX1_doTick_163 rfl ?_
        refine Y.iload dX1_doTick_165 rfl ?_
        refine Y.iconst dX1_doTick_167 ?_
        refine Y.iadd dX1_doTick_168 ?_
        refine Y.cSI dX1_doTick_169 mkX1_firstReady csX1_54 (c_X1_firstReady hs7 hp (by omega) (by omega) (by omega) (by omega)) (by omega) rfl rfl (Nat.le_of_ble_eq_true rfl) ?_
        rw [b7_57]
        refine Y.mmax dX1_doTick_172 csX1_70 (by omega) (Nat.le_of_ble_eq_true rfl) (by omega) (by omega) ?_
        refine Y.iast dX1_doTick_175 ia57 (by omega) (by omega) ?_
        exact Y.vret dX1_doTick_176 rfl (hP _ _ ⟨rfl, by rw [etk, etE]; first | (rw [if_pos (by omega), b7_57]; done) | (rw [if_neg (by omega)]; done)⟩)
    refine Y.iconst dX1_doTick_122 ?_
    rw [b6_44]
    refine Y.icmp_ne 131 dX1_doTick_123 (by decide) (by omega) (by omega) (fun h_123 => ?_) (fun h_123 => ?_)
    · refine Y.aload_n dX1_doTick_131 rfl ?_
      refine Y.getf dX1_doTick_132 flX1_23 ob38 rfl ?_
      refine Y.iload_n dX1_doTick_135 rfl ?_
      refine Y.iald dX1_doTick_136 ia44 (by omega) (by omega) ?_
      refine Y.iload dX1_doTick_137 rfl ?_
      rw [b6_44]
      refine Y.mmin dX1_doTick_139 csX1_90 (by omega) (Nat.le_of_ble_eq_true rfl) (by omega) (by omega) ?_
      exact k142 _ (by first | (rw [if_pos (by omega)]; done) | (rw [if_neg (by omega)]; done))
    · refine Y.iload dX1_doTick_126 rfl ?_
      refine Y.goto 142 dX1_doTick_128 (by decide) ?_
      exact k142 _ (by first | (rw [if_pos (by omega)]; done) | (rw [if_neg (by omega)]; done))
  · exact Y.vret dX1_doTick_27 rfl (hP _ _ ⟨rfl, by unfold tk; rw [if_pos (by rw [← g1]; omega), ← es1]⟩)
set_option maxHeartbeats 1000000 in
theorem c_X1_clear : YV 1 μX1_clear [.ref 38] σ (clr σ) := by
  refine YC.of2 (by decide) (Nat.le_of_ble_eq_true rfl) (fun d P hd hP => ?_)
  refine Y.aload_n dX1_clear_0 rfl ?_
  refine Y.iconst dX1_clear_1 ?_
  refine Y.putf 0 dX1_clear_2 fpX1_41 ob38 os38_0 (Nat.le_of_ble_eq_true rfl) (Or.inl rfl) rfl ?_
  refine Y.aload_n dX1_clear_5 rfl ?_
  refine Y.iconst dX1_clear_6 ?_
  refine Y.putf 1 dX1_clear_7 fpX1_45 ob38 os38_1 (Nat.le_of_ble_eq_true rfl) (Or.inl rfl) rfl ?_
  refine Y.aload_n dX1_clear_10 rfl ?_
  refine Y.getf dX1_clear_11 flX1_9 ob38 rfl ?_
  refine Y.iconst dX1_clear_14 ?_
  refine Y.cSV dX1_clear_15 mkJ7_fill_53178 csX1_48 (c_J7_fill ia39) (by omega) rfl rfl (Nat.le_of_ble_eq_true rfl) ?_
  refine Y.iconst dX1_clear_18 ?_
  refine Y.istore_n dX1_clear_19 (by decide) rfl ?_
  refine Y.iload_n dX1_clear_20 rfl ?_
  refine Y.iconst dX1_clear_21 ?_
  refine Y.icmp_ge 41 dX1_clear_22 (by decide) (by omega) (by omega) (fun h_22 => ?_) (fun h_22 => ?_)
  · exfalso; omega
  refine Y.aload_n dX1_clear_25 rfl ?_
  refine Y.getf dX1_clear_26 flX1_17 ob38 rfl ?_
  refine Y.iload_n dX1_clear_29 rfl ?_
  refine Y.aald dX1_clear_30 ra40 (by decide) (by decide) (by decide) rfl ?_
  refine Y.iconst dX1_clear_31 ?_
  refine Y.cSV dX1_clear_32 mkJ7_fill_53178 csX1_48 (c_J7_fill ia41) (by omega) rfl rfl (Nat.le_of_ble_eq_true rfl) ?_
  refine Y.iinc dX1_clear_35 rfl (by decide) rfl ?_
  refine Y.goto 20 dX1_clear_38 (by decide) ?_
  refine Y.iload_n dX1_clear_20 rfl ?_
  refine Y.iconst dX1_clear_21 ?_
  refine Y.icmp_ge 41 dX1_clear_22 (by decide) (by omega) (by omega) (fun h_22 => ?_) (fun h_22 => ?_)
  · exfalso; omega
  refine Y.aload_n dX1_clear_25 rfl ?_
  refine Y.getf dX1_clear_26 flX1_17 ob38 rfl ?_
  refine Y.iload_n dX1_clear_29 rfl ?_
  refine Y.aald dX1_clear_30 ra40 (by decide) (by decide) (by decide) rfl ?_
  refine Y.iconst dX1_clear_31 ?_
  refine Y.cSV dX1_clear_32 mkJ7_fill_53178 csX1_48 (c_J7_fill ia42) (by omega) rfl rfl (Nat.le_of_ble_eq_true rfl) ?_
  refine Y.iinc dX1_clear_35 rfl (by decide) rfl ?_
  refine Y.goto 20 dX1_clear_38 (by decide) ?_
  refine Y.iload_n dX1_clear_20 rfl ?_
  refine Y.iconst dX1_clear_21 ?_
  refine Y.icmp_ge 41 dX1_clear_22 (by decide) (by omega) (by omega) (fun h_22 => ?_) (fun h_22 => ?_)
  rotate_left
  · exfalso; omega
  refine Y.aload_n dX1_clear_41 rfl ?_
  refine Y.getf dX1_clear_42 flX1_20 ob38 rfl ?_
  refine Y.iconst dX1_clear_45 ?_
  refine Y.cSV dX1_clear_46 mkJ7_fill_53178 csX1_48 (c_J7_fill ia43) (by omega) rfl rfl (Nat.le_of_ble_eq_true rfl) ?_
  refine Y.aload_n dX1_clear_49 rfl ?_
  refine Y.getf dX1_clear_50 flX1_23 ob38 rfl ?_
  refine Y.iconst dX1_clear_53 ?_
  refine Y.cSV dX1_clear_54 mkJ7_fill_53178 csX1_48 (c_J7_fill ia44) (by omega) rfl rfl (Nat.le_of_ble_eq_true rfl) ?_
  refine Y.aload_n dX1_clear_57 rfl ?_
  refine Y.getf dX1_clear_58 flX1_26 ob38 rfl ?_
  refine Y.iconst dX1_clear_61 ?_
  refine Y.cSV dX1_clear_62 mkJ7_fill_53178 csX1_48 (c_J7_fill ia45) (by omega) rfl rfl (Nat.le_of_ble_eq_true rfl) ?_
  refine Y.aload_n dX1_clear_65 rfl ?_
  refine Y.getf dX1_clear_66 flX1_29 ob38 rfl ?_
  refine Y.iconst dX1_clear_69 ?_
  refine Y.cSV dX1_clear_70 mkJ7_fill_53178 csX1_48 (c_J7_fill ia46) (by omega) rfl rfl (Nat.le_of_ble_eq_true rfl) ?_
  exact Y.vret dX1_clear_73 rfl (hP _ _ ⟨rfl, rfl⟩)
end ZR1
