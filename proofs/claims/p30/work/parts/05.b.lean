section ZF
/-! the rivals of a step in a chain, in their order -/
noncomputable def cn (p : zP) (x i j : Int) : Int := sm (fun j => zb (riv p x (i * 3 + j))) 0 (j - 0).toNat
noncomputable def rn (p : zP) (x i : Int) : Int := zb (riv p x (i * 3 + 0)) + zb (riv p x (i * 3 + 1)) + zb (riv p x (i * 3 + 2))
noncomputable def rl (p : zP) (x i n : Int) : Int := if n = 0 then (1 - zb (riv p x (i * 3 + 0))) * (2 - zb (riv p x (i * 3 + 1))) else if n = 1 then 2 - zb (riv p x (i * 3 + 0)) * zb (riv p x (i * 3 + 1)) else 2
theorem cn_0 {p : zP} {x i : Int} : cn p x i 0 = 0 := rfl
theorem cn_1 {p : zP} {x i : Int} : cn p x i 1 = zb (riv p x (i * 3 + 0)) := Int.zero_add _
theorem cn_2 {p : zP} {x i : Int} : cn p x i 2 = zb (riv p x (i * 3 + 0)) + zb (riv p x (i * 3 + 1)) := by
  show 0 + zb (riv p x (i * 3 + 0)) + zb (riv p x (i * 3 + 1)) = _
  omega
theorem cn_3 {p : zP} {x i : Int} : cn p x i 3 = rn p x i := by
  show 0 + zb (riv p x (i * 3 + 0)) + zb (riv p x (i * 3 + 1)) + zb (riv p x (i * 3 + 2)) = _
  unfold rn
  omega
theorem cn_s {p : zP} {x i j : Int} (h : 0 ≤ j) : cn p x i (j + 1) = cn p x i j + zb (riv p x (i * 3 + j)) := sm_s h
theorem zb_2 (Q : Prop) : zb Q = 0 ∨ zb Q = 1 := by
  by_cases q : Q
  · exact Or.inr (zb_t q)
  · exact Or.inl (zb_f q)
theorem rl_at {p : zP} {x i j : Int} (h0 : 0 ≤ j) (h3 : j < 3) (hr : riv p x (i * 3 + j)) : rl p x i (cn p x i j) = j ∧ 0 ≤ cn p x i j ∧ cn p x i j ≤ 2 := by
  rcases (show j = 0 ∨ j = 1 ∨ j = 2 by omega) with rfl | rfl | rfl
  · rw [cn_0]
    unfold rl
    rw [if_pos rfl, zb_t hr]
    omega
  · rw [cn_1]
    unfold rl
    rw [zb_t hr]
    rcases zb_2 (riv p x (i * 3 + 0)) with e | e <;> rw [e] <;> decide
  · rw [cn_2]
    unfold rl
    rcases zb_2 (riv p x (i * 3 + 0)) with e | e <;> rcases zb_2 (riv p x (i * 3 + 1)) with e2 | e2 <;> rw [e, e2] <;> decide
theorem th_c {p : zP} {x : Int} (h : th p x) {i : Int} (hi : x / 3 = i) : x - i * 3 < p 5 i := by
  unfold th at h
  rw [hi] at h
  omega
theorem rv_n {p : zP} {x i j : Int} (h0 : 0 ≤ j) (h3 : j < 3) (hj : p 5 i ≤ j) : ¬ riv p x (i * 3 + j) := fun h => by
  have := th_c (i := i) h.1 (by omega)
  omega
theorem cn_m {p : zP} (hp : WP p) {x i : Int} (h0 : 0 ≤ i) (h3 : i < 3) : cn p x i (p 5 i) = rn p x i := by
  have hm := (hp.1 i h0 h3).2.2.2.2.2
  rw [← cn_3]
  rcases (show p 5 i = 0 ∨ p 5 i = 1 ∨ p 5 i = 2 ∨ p 5 i = 3 by omega) with e | e | e | e <;> rw [e]
  · rw [show (3 : Int) = 2 + 1 by rfl, cn_s (by omega), show (2 : Int) = 1 + 1 by rfl, cn_s (by omega), show (1 : Int) = 0 + 1 by rfl, cn_s (by omega), zb_f (rv_n (by omega) (by omega) (by omega)), zb_f (rv_n (by omega) (by omega) (by omega)), zb_f (rv_n (by omega) (by omega) (by omega))]
    rfl
  · rw [show (3 : Int) = 2 + 1 by rfl, cn_s (by omega), show (2 : Int) = 1 + 1 by rfl, cn_s (by omega), zb_f (rv_n (by omega) (by omega) (by omega)), zb_f (rv_n (by omega) (by omega) (by omega))]
    omega
  · rw [show (3 : Int) = 2 + 1 by rfl, cn_s (by omega), zb_f (rv_n (by omega) (by omega) (by omega))]
    omega
theorem rn_b (p : zP) (x i : Int) : 0 ≤ rn p x i ∧ rn p x i ≤ 3 := by
  unfold rn
  rcases zb_2 (riv p x (i * 3 + 0)) with e | e <;> rcases zb_2 (riv p x (i * 3 + 1)) with e2 | e2 <;> rcases zb_2 (riv p x (i * 3 + 2)) with e3 | e3 <;> rw [e, e2, e3] <;> decide
theorem zb_T {Q : Prop} (h : zb Q = 1) : Q := by
  by_cases q : Q
  · exact q
  · rw [zb_f q] at h; omega
theorem zb_F {Q : Prop} (h : zb Q = 0) : ¬ Q := fun q => by rw [zb_t q] at h; omega
/-- the four ways, by how many rivals stand: what the list is -/
theorem rl_r {p : zP} {x i n : Int} (h0 : 0 ≤ n) (hn : n < rn p x i) : 0 ≤ rl p x i n ∧ rl p x i n < 3 ∧ riv p x (i * 3 + rl p x i n) := by
  unfold rn at hn
  unfold rl
  rcases zb_2 (riv p x (i * 3 + 0)) with e | e <;> rcases zb_2 (riv p x (i * 3 + 1)) with e2 | e2 <;> rcases zb_2 (riv p x (i * 3 + 2)) with e3 | e3 <;> rw [e, e2, e3] at hn <;> rw [e, e2]
  · omega
  · obtain rfl : n = 0 := by omega
    exact ⟨by decide, by decide, zb_T e3⟩
  · obtain rfl : n = 0 := by omega
    exact ⟨by decide, by decide, zb_T e2⟩
  · rcases (show n = 0 ∨ n = 1 by omega) with rfl | rfl
    · exact ⟨by decide, by decide, zb_T e2⟩
    · exact ⟨by decide, by decide, zb_T e3⟩
  · obtain rfl : n = 0 := by omega
    exact ⟨by decide, by decide, zb_T e⟩
  · rcases (show n = 0 ∨ n = 1 by omega) with rfl | rfl
    · exact ⟨by decide, by decide, zb_T e⟩
    · exact ⟨by decide, by decide, zb_T e3⟩
  · rcases (show n = 0 ∨ n = 1 by omega) with rfl | rfl
    · exact ⟨by decide, by decide, zb_T e⟩
    · exact ⟨by decide, by decide, zb_T e2⟩
  · rcases (show n = 0 ∨ n = 1 ∨ n = 2 by omega) with rfl | rfl | rfl
    · exact ⟨by decide, by decide, zb_T e⟩
    · exact ⟨by decide, by decide, zb_T e2⟩
    · exact ⟨by decide, by decide, zb_T e3⟩
theorem rl_sm {p : zP} {x i : Int} (f : Int → Int) : sm (fun n => f (i * 3 + rl p x i n)) 0 (rn p x i).toNat = sm (fun j => zb (riv p x j) * f j) (i * 3) 3 := by
  have e9 : sm (fun j => zb (riv p x j) * f j) (i * 3) 3 = 0 + zb (riv p x (i * 3 + 0)) * f (i * 3 + 0) + zb (riv p x (i * 3 + 1)) * f (i * 3 + 1) + zb (riv p x (i * 3 + 2)) * f (i * 3 + 2) := rfl
  rw [e9]
  unfold rn rl
  rcases zb_2 (riv p x (i * 3 + 0)) with e | e <;> rcases zb_2 (riv p x (i * 3 + 1)) with e2 | e2 <;> rcases zb_2 (riv p x (i * 3 + 2)) with e3 | e3 <;> rw [e, e2, e3]
  · show 0 = _; omega
  · show 0 + f (i * 3 + 2) = _; omega
  · show 0 + f (i * 3 + 1) = _; omega
  · show 0 + f (i * 3 + 1) + f (i * 3 + 2) = _; omega
  · show 0 + f (i * 3 + 0) = _; omega
  · show 0 + f (i * 3 + 0) + f (i * 3 + 2) = _; omega
  · show 0 + f (i * 3 + 0) + f (i * 3 + 1) = _; omega
  · show 0 + f (i * 3 + 0) + f (i * 3 + 1) + f (i * 3 + 2) = _; omega
theorem rl_mx {p : zP} {x i : Int} (f : Int → Int) (hf : ∀ j : Int, i * 3 ≤ j → j < i * 3 + 3 → riv p x j → 0 ≤ f j) : mx (fun n => f (i * 3 + rl p x i n)) 0 (rn p x i).toNat = mx (fun j => zb (riv p x j) * f j) (i * 3) 3 := by
  have e9 : mx (fun j => zb (riv p x j) * f j) (i * 3) 3 = max (max (max 0 (zb (riv p x (i * 3 + 0)) * f (i * 3 + 0))) (zb (riv p x (i * 3 + 1)) * f (i * 3 + 1))) (zb (riv p x (i * 3 + 2)) * f (i * 3 + 2)) := rfl
  rw [e9]
  unfold rn rl
  rcases zb_2 (riv p x (i * 3 + 0)) with e | e <;> rcases zb_2 (riv p x (i * 3 + 1)) with e2 | e2 <;> rcases zb_2 (riv p x (i * 3 + 2)) with e3 | e3 <;> rw [e, e2, e3] <;>
    (first | have f0 := hf _ (by omega) (by omega) (zb_T e) | skip) <;> (first | have f1 := hf _ (by omega) (by omega) (zb_T e2) | skip) <;> (first | have f2 := hf _ (by omega) (by omega) (zb_T e3) | skip)
  · show 0 = _; omega
  · show max 0 (f (i * 3 + 2)) = _; omega
  · show max 0 (f (i * 3 + 1)) = _; omega
  · show max (max 0 (f (i * 3 + 1))) (f (i * 3 + 2)) = _; omega
  · show max 0 (f (i * 3 + 0)) = _; omega
  · show max (max 0 (f (i * 3 + 0))) (f (i * 3 + 2)) = _; omega
  · show max (max 0 (f (i * 3 + 0))) (f (i * 3 + 1)) = _; omega
  · show max (max (max 0 (f (i * 3 + 0))) (f (i * 3 + 1))) (f (i * 3 + 2)) = _; omega
theorem sm_3 (f : Int → Int) : sm f 0 9 = sm (fun i => sm f (i * 3) 3) 0 3 := by
  show 0 + f (0 + 0) + f (0 + 1) + f (0 + 2) + f (0 + 3) + f (0 + 4) + f (0 + 5) + f (0 + 6) + f (0 + 7) + f (0 + 8) = 0 + (0 + f ((0 + 0) * 3 + 0) + f ((0 + 0) * 3 + 1) + f ((0 + 0) * 3 + 2)) + (0 + f ((0 + 1) * 3 + 0) + f ((0 + 1) * 3 + 1) + f ((0 + 1) * 3 + 2)) + (0 + f ((0 + 2) * 3 + 0) + f ((0 + 2) * 3 + 1) + f ((0 + 2) * 3 + 2))
  simp only [show (0 : Int) + 0 = 0 by rfl, show (0 : Int) + 1 = 1 by rfl, show (0 : Int) + 2 = 2 by rfl, show (0 : Int) + 3 = 3 by rfl, show (0 : Int) + 4 = 4 by rfl, show (0 : Int) + 5 = 5 by rfl, show (0 : Int) + 6 = 6 by rfl, show (0 : Int) + 7 = 7 by rfl, show (0 : Int) + 8 = 8 by rfl, show (0 : Int) * 3 = 0 by rfl, show (1 : Int) * 3 + 0 = 3 by rfl, show (1 : Int) * 3 + 1 = 4 by rfl, show (1 : Int) * 3 + 2 = 5 by rfl, show (2 : Int) * 3 + 0 = 6 by rfl, show (2 : Int) * 3 + 1 = 7 by rfl, show (2 : Int) * 3 + 2 = 8 by rfl]
  omega
noncomputable def cw (p : zP) (l : Int → Int) (x : Int) (C : Int → Prop) (t k : Int) : Int := zb (C k) * wk p l x k t
theorem cw_t {p : zP} {l : Int → Int} {x : Int} {C : Int → Prop} {t k : Int} (h : C k) : cw p l x C t k = wk p l x k t := by
  unfold cw
  rw [zb_t h, Int.one_mul]
theorem cw_f {p : zP} {l : Int → Int} {x : Int} {C : Int → Prop} {t k : Int} (h : ¬ C k) : cw p l x C t k = 0 := by
  unfold cw
  rw [zb_f h, Int.zero_mul]
theorem ot_rl {p : zP} (hp : WP p) {l : Int → Int} (hl : WL l) {x : Int} {C : Int → Prop} {i t : Int} (h0 : 0 ≤ i) (h3 : i < 3) (ht : 1 ≤ t) : mx (fun n => cw p l x C t (i * 3 + rl p x i n)) 0 (rn p x i).toNat = ot p l x C i t :=
  rl_mx (cw p l x C t) (fun j a b _ => (zb_m (wk_m hp hl x (k := j) (by omega) (by omega) ht (Int.le_refl _)).1 (Int.le_refl _)).1)
/-! the longest answer: greatest value, its moment, turn, busy -/
abbrev aA : Type := Int × Int × Int × Int
noncomputable def fv (p : zP) (l : Int → Int) (C : Int → Prop) (x k q : Int) : Int := lfp (Fn p l C x k (q + 1)) - phi p l x k - p 0 (x / 3) * (q - elr p l x k) + ear p x
noncomputable def fq (p : zP) (l : Int → Int) (C : Int → Prop) (x k w : Int) : Nat → Int → aA → Option aA
  | 0, _, s => some s
  | n + 1, q, s => if lfp (Fn p l C x k (q + 1)) = -1 then none else fq p l C x k w n (q + 1) (if s.1 < fv p l C x k q then (fv p l C x k q, k % 3, q, w) else s)
noncomputable def bz (p : zP) (l : Int → Int) (C : Int → Prop) (x k : Int) : Int := lfp (Fn p l C x k (-1))
noncomputable def fk1 (p : zP) (l : Int → Int) (C : Int → Prop) (x k : Int) (s : aA) : Option aA := if bz p l C x k = -1 then none else fq p l C x k (bz p l C x k) (cm p l x k (bz p l C x k) - 0).toNat 0 s
def oB (o : Option aA) (f : aA → Option aA) : Option aA := match o with
  | none => none
  | some s => f s
noncomputable def fk (p : zP) (l : Int → Int) (C : Int → Prop) (x : Int) : Nat → Int → aA → Option aA
  | 0, _, s => some s
  | n + 1, j, s => @ite _ (own p x (x / 3 * 3 + j)) (Classical.propDecidable _) (oB (fk1 p l C x (x / 3 * 3 + j) s) (fk p l C x n (j + 1))) (fk p l C x n (j + 1) s)
noncomputable def fnd (p : zP) (l : Int → Int) (C : Int → Prop) (x : Int) : Option aA := fk p l C x 3 0 (0, 0, 0, 0)
theorem fq_1 {p : zP} {l : Int → Int} {C : Int → Prop} {x k w q N : Int} {s : aA} (h : q < N) : fq p l C x k w (N - q).toNat q s = if lfp (Fn p l C x k (q + 1)) = -1 then none else fq p l C x k w (N - (q + 1)).toNat (q + 1) (if s.1 < fv p l C x k q then (fv p l C x k q, k % 3, q, w) else s) := by
  rw [show (N - q).toNat = (N - (q + 1)).toNat + 1 by omega]
  rfl
theorem fq_0 {p : zP} {l : Int → Int} {C : Int → Prop} {x k w q N : Int} {s : aA} (h : N ≤ q) : fq p l C x k w (N - q).toNat q s = some s := by
  rw [show (N - q).toNat = 0 by omega]
  rfl
theorem fk_1 {p : zP} {l : Int → Int} {C : Int → Prop} {x j : Int} {s : aA} (h : j < 3) (ho : own p x (x / 3 * 3 + j)) : fk p l C x (3 - j).toNat j s = oB (fk1 p l C x (x / 3 * 3 + j) s) (fk p l C x (3 - (j + 1)).toNat (j + 1)) := by
  rw [show (3 - j).toNat = (3 - (j + 1)).toNat + 1 by omega]
  show @ite _ (own p x (x / 3 * 3 + j)) (Classical.propDecidable _) _ _ = _
  rw [if_pos ho]
theorem fk_2 {p : zP} {l : Int → Int} {C : Int → Prop} {x j : Int} {s : aA} (h : j < 3) (ho : ¬ own p x (x / 3 * 3 + j)) : fk p l C x (3 - j).toNat j s = fk p l C x (3 - (j + 1)).toNat (j + 1) s := by
  rw [show (3 - j).toNat = (3 - (j + 1)).toNat + 1 by omega]
  show @ite _ (own p x (x / 3 * 3 + j)) (Classical.propDecidable _) _ _ = _
  rw [if_neg ho]
theorem fk_3 {p : zP} {l : Int → Int} {C : Int → Prop} {x j : Int} {s : aA} (h : 3 ≤ j) : fk p l C x (3 - j).toNat j s = some s := by
  rw [show (3 - j).toNat = 0 by omega]
  rfl
theorem own_n {p : zP} {x j : Int} (h0 : 0 ≤ j) (h3 : j < 3) (hj : p 5 (x / 3) ≤ j) : ¬ own p x (x / 3 * 3 + j) := fun h => by
  rcases h.2.2.2.2 with e | hr
  · have := th_c (i := x / 3) h.2.2.1 rfl
    omega
  · exact rv_n h0 h3 hj hr
theorem fk_m {p : zP} {l : Int → Int} {C : Int → Prop} {x j : Int} {s : aA} (h0 : 0 ≤ j) (hj : p 5 (x / 3) ≤ j) : fk p l C x (3 - j).toNat j s = some s := by
  rcases (show 3 ≤ j ∨ j = 0 ∨ j = 1 ∨ j = 2 by omega) with h | rfl | rfl | rfl
  · exact fk_3 h
  · rw [fk_2 (by omega) (own_n (by omega) (by omega) (by omega)), fk_2 (by omega) (own_n (by omega) (by omega) (by omega)), fk_2 (by omega) (own_n (by omega) (by omega) (by omega)), fk_3 (by omega)]
  · rw [fk_2 (by omega) (own_n (by omega) (by omega) (by omega)), fk_2 (by omega) (own_n (by omega) (by omega) (by omega)), fk_3 (by omega)]
  · rw [fk_2 (by omega) (own_n (by omega) (by omega) (by omega)), fk_3 (by omega)]
/-! bounds of answers -/
theorem fv_b {p : zP} (hp : WP p) {l : Int → Int} (hl : WL l) (C : Int → Prop) {x k q : Int} (h0 : 0 ≤ x) (h9 : x < 9) (hq : 0 ≤ q) (hq2 : q < 200) (he : lfp (Fn p l C x k (q + 1)) ≠ -1) : -20000 ≤ fv p l C x k q ∧ fv p l C x k q ≤ 200 + l x + ear p x := by
  have hT := hp.per (i := x / 3) (by omega) (by omega)
  have hf := phi_b hp l k h0 h9
  have he2 := elr_b hp hl k h0 h9
  have hr := ear_b hp h0 h9
  have h1 : p 0 (x / 3) * elr p l x k ≤ l x + phi p l x k := by
    unfold elr
    rw [Int.mul_comm]
    exact Int.ediv_mul_le _ (by omega)
  have h2 : 0 ≤ p 0 (x / 3) * elr p l x k := Int.mul_nonneg (by omega) he2.1
  have h3 : 0 ≤ p 0 (x / 3) * q ∧ p 0 (x / 3) * q ≤ 100 * 199 := by
    constructor
    · exact Int.mul_nonneg (by omega) hq
    · exact Int.mul_le_mul hT.2 (by omega) hq (by omega)
  rcases lfp_b (Fn p l C x k (q + 1)) with h | h
  · exact absurd h he
  unfold fv
  rw [Int.mul_sub]
  omega
theorem fv_1 {p : zP} (hp : WP p) {l : Int → Int} (hl : WL l) (C : Int → Prop) {x : Int} (h0 : 0 ≤ x) (h9 : x < 9) (he : lfp (Fn p l C x x (0 + 1)) ≠ -1) : 1 ≤ fv p l C x x 0 := by
  have h1 := (cm_self hp hl h0 h9 (Int.le_refl 1)).2
  have hr := ear_b hp h0 h9
  have hb := hl.b h0 h9
  rcases lfp_b (Fn p l C x x (0 + 1)) with h | h
  · exact absurd h he
  unfold fv
  rw [Int.mul_sub, Int.mul_zero]
  omega
def aAB (p : zP) (l : Int → Int) (x : Int) (s : aA) : Prop := 0 ≤ s.1 ∧ s.1 ≤ 200 + l x + ear p x ∧ (0 < s.1 → 0 ≤ s.2.1 ∧ s.2.1 < 3 ∧ 0 ≤ s.2.2.1 ∧ s.2.2.1 < 200 ∧ 1 ≤ s.2.2.2 ∧ s.2.2.2 ≤ 200)
theorem fq_b {p : zP} (hp : WP p) {l : Int → Int} (hl : WL l) (C : Int → Prop) {x k w : Int} (h0 : 0 ≤ x) (h9 : x < 9) (hw : 1 ≤ w ∧ w ≤ 200) : ∀ (n : Nat) (q : Int) (s r : aA), 0 ≤ q → q + n ≤ 200 → aAB p l x s → fq p l C x k w n q s = some r → aAB p l x r ∧ s.1 ≤ r.1 ∧ (k = x → q = 0 → 0 < n → 1 ≤ r.1)
  | 0, q, s, r, _, _, hs, h => by
    have e : s = r := Option.some.inj h
    subst e
    exact ⟨hs, Int.le_refl _, fun _ _ h => by omega⟩
  | n + 1, q, s, r, hq, hn, hs, h => by
    have h' : (if lfp (Fn p l C x k (q + 1)) = -1 then none else fq p l C x k w n (q + 1) (if s.1 < fv p l C x k q then (fv p l C x k q, k % 3, q, w) else s)) = some r := h
    by_cases he : lfp (Fn p l C x k (q + 1)) = -1
    · rw [if_pos he] at h'; cases h'
    · rw [if_neg he] at h'
      have hv := fv_b hp hl C (k := k) h0 h9 hq (by omega) he
      by_cases hc : s.1 < fv p l C x k q
      · rw [if_pos hc] at h'
        have h0s := hs.1
        obtain ⟨a, b, c⟩ := fq_b hp hl C h0 h9 hw n (q + 1) _ r (by omega) (by omega) ⟨by show 0 ≤ fv p l C x k q; omega, hv.2, fun _ => ⟨by show 0 ≤ k % 3; omega, by show k % 3 < 3; omega, hq, by show q < 200; omega, hw.1, hw.2⟩⟩ h'
        have b' : fv p l C x k q ≤ r.1 := b
        exact ⟨a, by omega, fun _ _ _ => by omega⟩
      · rw [if_neg hc] at h'
        obtain ⟨a, b, c⟩ := fq_b hp hl C h0 h9 hw n (q + 1) _ r (by omega) (by omega) hs h'
        refine ⟨a, b, fun e1 e2 _ => ?_⟩
        subst e1 e2
        have := fv_1 hp hl C h0 h9 he
        omega
theorem fk1_b {p : zP} (hp : WP p) {l : Int → Int} (hl : WL l) (C : Int → Prop) {x k : Int} (ho : own p x k) {s r : aA} (hs : aAB p l x s) (h : fk1 p l C x k s = some r) : aAB p l x r ∧ s.1 ≤ r.1 ∧ (k = x → 1 ≤ r.1) := by
  have h0 := ho.1
  have h9 := ho.2.1
  unfold fk1 at h
  by_cases hb : bz p l C x k = -1
  · rw [if_pos hb] at h; cases h
  · rw [if_neg hb] at h
    have hw : 1 ≤ bz p l C x k ∧ bz p l C x k ≤ 200 := by
      rcases lfp_b (Fn p l C x k (-1)) with q | q
      · exact absurd q hb
      · exact q
    have hc := cm_b hp hl (j := x) k h0 h9 hw.1 hw.2
    obtain ⟨a, b, c⟩ := fq_b hp hl C h0 h9 hw _ 0 s r (by omega) (by omega) hs h
    refine ⟨a, b, fun e => ?_⟩
    subst e
    have := (cm_self hp hl h0 h9 hw.1).1
    exact c rfl rfl (by omega)
theorem fk_b {p : zP} (hp : WP p) {l : Int → Int} (hl : WL l) (C : Int → Prop) {x : Int} (h0 : 0 ≤ x) (h9 : x < 9) (ht : th p x) : ∀ (n : Nat) (j : Int) (s r : aA), 0 ≤ j → n + j = 3 → aAB p l x s → fk p l C x n j s = some r → aAB p l x r ∧ s.1 ≤ r.1 ∧ (j ≤ x % 3 → 1 ≤ r.1)
  | 0, j, s, r, _, _, hs, h => by
    have e : s = r := Option.some.inj h
    subst e
    exact ⟨hs, Int.le_refl _, fun _ => by omega⟩
  | n + 1, j, s, r, hj, hn, hs, h => by
    have h' : @ite _ (own p x (x / 3 * 3 + j)) (Classical.propDecidable _) (oB (fk1 p l C x (x / 3 * 3 + j) s) (fk p l C x n (j + 1))) (fk p l C x n (j + 1) s) = some r := h
    by_cases ho : own p x (x / 3 * 3 + j)
    · rw [if_pos ho] at h'
      cases hf : fk1 p l C x (x / 3 * 3 + j) s with
      | none => rw [hf] at h'; cases h'
      | some u =>
        rw [hf] at h'
        obtain ⟨a1, b1, c1⟩ := fk1_b hp hl C ho hs hf
        obtain ⟨a, b, c⟩ := fk_b hp hl C h0 h9 ht n (j + 1) u r (by omega) (by omega) a1 h'
        refine ⟨a, by omega, fun e => ?_⟩
        by_cases q : j = x % 3
        · have := c1 (by omega); omega
        · exact c (by omega)
    · rw [if_neg ho] at h'
      obtain ⟨a, b, c⟩ := fk_b hp hl C h0 h9 ht n (j + 1) s r (by omega) (by omega) hs h'
      refine ⟨a, b, fun e => ?_⟩
      by_cases q : j = x % 3
      · exact absurd ⟨h0, h9, ht, by omega, Or.inl (by omega)⟩ ho
      · exact c (by omega)
theorem fnd_b {p : zP} (hp : WP p) {l : Int → Int} (hl : WL l) (C : Int → Prop) {x : Int} (h0 : 0 ≤ x) (h9 : x < 9) (ht : th p x) {r : aA} (h : fnd p l C x = some r) : aAB p l x r ∧ 1 ≤ r.1 := by
  have hr := ear_b hp h0 h9
  have hb := hl.b h0 h9
  obtain ⟨a, b, c⟩ := fk_b hp hl C h0 h9 ht 3 0 (0, 0, 0, 0) r (by omega) (by omega) ⟨by show (0 : Int) ≤ 0; omega, by show (0 : Int) ≤ _; omega, fun h => absurd h (by decide)⟩ h
  exact ⟨a, c (by omega)⟩
end ZF
