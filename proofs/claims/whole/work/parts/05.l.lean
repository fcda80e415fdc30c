section ZGa
variable {σ : zS}
noncomputable def mmt (p : zP) (x i n : Int) : Int := if n < rn p x i then i * 3 + rl p x i n else -1
theorem mmt_1 {p : zP} {x i j n : Int} (j0 : 0 ≤ j) (j3 : j < 3) (hr : riv p x (i * 3 + j)) (h : cn p x i j = n) : mmt p x i n = i * 3 + j := by
  have ha := rl_at j0 j3 hr
  have hs : cn p x i (j + 1) = cn p x i j + 1 := by rw [cn_s j0, zb_t hr]
  have hle : cn p x i (j + 1) ≤ rn p x i := by
    rw [← cn_3]
    rcases (show j = 0 ∨ j = 1 ∨ j = 2 by omega) with rfl | rfl | rfl
    · rw [show (0 : Int) + 1 = 1 by rfl, show (3 : Int) = 1 + 1 + 1 by rfl, cn_s (by omega), cn_s (by omega)]
      rcases zb_2 (riv p x (i * 3 + 1)) with e | e <;> rcases zb_2 (riv p x (i * 3 + (1 + 1))) with e2 | e2 <;> omega
    · rw [show (1 : Int) + 1 = 2 by rfl, show (3 : Int) = 2 + 1 by rfl, cn_s (by omega)]
      rcases zb_2 (riv p x (i * 3 + 2)) with e | e <;> omega
    · exact Int.le_refl _
  unfold mmt
  rw [if_pos (by omega), ← h, ha.1]
theorem mmt_b (p : zP) (x : Int) {i n : Int} (i0 : 0 ≤ i) (i3 : i < 3) (n0 : 0 ≤ n) : -1 ≤ mmt p x i n ∧ mmt p x i n < 9 ∧ (mmt p x i n = -1 ↔ rn p x i ≤ n) ∧ (n < rn p x i → mmt p x i n = i * 3 + rl p x i n) := by
  unfold mmt
  by_cases q : n < rn p x i
  · have := rl_r (p := p) (x := x) (i := i) n0 q
    rw [if_pos q]
    exact ⟨by omega, by omega, by omega, fun _ => rfl⟩
  · rw [if_neg q]
    exact ⟨by omega, by omega, by omega, fun w => absurd w q⟩
set_option maxHeartbeats 1000000 in
theorem c_X5_momentOf {p : zP} (ec : mP σ = p) (hp : WP p) {x i n : Int} (h0 : 0 ≤ x) (h9 : x < 9) (i0 : 0 ≤ i) (i3 : i < 3) (n0 : 0 ≤ n) (n3 : n < 3) : YI 2 μX5_momentOf [.ref 67, .int (zi x), .int (zi i), .int (zi n)] σ (mmt p x i n) σ := by
  refine YC.of2 (by decide) (Nat.le_of_ble_eq_true rfl) (fun d P hd hP => ?_)
  refine Y.iconst dX5_momentOf_0 ?_
  refine Y.istore dX5_momentOf_1 (by decide) rfl ?_
  refine Y.iconst dX5_momentOf_3 ?_
  refine Y.iload_n dX5_momentOf_4 rfl ?_
  refine Y.imul dX5_momentOf_5 ?_
  refine Y.istore dX5_momentOf_6 (by decide) rfl ?_
  refine zw2 (fun s k => (3 * i ≤ k ∧ k ≤ 3 * i + 3 ∧ s = cn p x i (k - 3 * i) ∧ (s ≤ n))) (fun s k => Y d μX5_momentOf 8 [some (.ref 67), some (.int (zi x)), some (.int (zi i)), some (.int (zi n)), some (.int (zi s)), some (.int (zi k))] [] σ P) (fun s k => (3 * i + 3 - k).toNat) ?_ _ _ ⟨by omega, by omega, by rw [show 3 * i - 3 * i = 0 by omega, cn_0], by omega⟩
  intro s k hI ih
  obtain ⟨j1, j2, j3, j4⟩ := hI
  have hcb := cn_b (p := p) (x := x) (i := i) (j := k - 3 * i) (by omega) (by omega)
  have hk3 : i * 3 + (k - 3 * i) = k := by omega
  refine Y.iload dX5_momentOf_8 rfl ?_
  refine Y.iconst dX5_momentOf_10 ?_
  refine Y.iload_n dX5_momentOf_11 rfl ?_
  refine Y.imul dX5_momentOf_12 ?_
  refine Y.iconst dX5_momentOf_13 ?_
  refine Y.iadd dX5_momentOf_14 ?_
  refine Y.icmp_ge 46 dX5_momentOf_15 (by decide) (by omega) (by omega) (fun h_15 => ?_) (fun h_15 => ?_)
  · refine Y.iconst dX5_momentOf_46 ?_
    exact Y.iret dX5_momentOf_47 rfl (hP _ _ ⟨zrI (by unfold mmt; rw [if_neg (by rw [← cn_3, show (3 : Int) = k - 3 * i by omega, ← j3]; omega)]), rfl⟩)
  · refine Y.aload_n dX5_momentOf_18 rfl ?_
    refine Y.iload_n dX5_momentOf_19 rfl ?_
    refine Y.iload dX5_momentOf_20 rfl ?_
    refine Y.cVI dX5_momentOf_22 mkX5_isRival csX5_163 ob67 ⟨_, rfl, rfl⟩ (k_X5_isRival ec hp (by omega) (by omega) (by omega) (by omega)) (by omega) rfl rfl (Nat.le_of_ble_eq_true rfl) ?_
    refine Y.ifz_eq 40 dX5_momentOf_25 (by decide) (fun h_25 => ?_) (fun h_25 => ?_)
    · refine Y.iinc dX5_momentOf_40 rfl (by decide) rfl ?_
      refine Y.goto 8 dX5_momentOf_43 (by decide) ?_
      refine ih _ _ ⟨by omega, by omega, ?_, by omega⟩ (by omega)
      rw [show k + 1 - 3 * i = k - 3 * i + 1 by omega, cn_s (by omega), hk3, ← j3]
      first
        | rw [zb_t (by assumption)]
        | rw [zb_f (by assumption), Int.add_zero]
    · refine Y.iload dX5_momentOf_28 rfl ?_
      refine Y.iload_n dX5_momentOf_30 rfl ?_
      refine Y.icmp_ne 37 dX5_momentOf_31 (by decide) (by omega) (by omega) (fun h_31 => ?_) (fun h_31 => ?_)
      · refine Y.iinc dX5_momentOf_37 rfl (by decide) rfl ?_
        refine Y.iinc dX5_momentOf_40 rfl (by decide) rfl ?_
        refine Y.goto 8 dX5_momentOf_43 (by decide) ?_
        refine ih _ _ ⟨by omega, by omega, ?_, by omega⟩ (by omega)
        rw [show k + 1 - 3 * i = k - 3 * i + 1 by omega, cn_s (by omega), hk3, ← j3]
        first
          | rw [zb_t (by assumption)]
          | rw [zb_f (by assumption), Int.add_zero]
      · refine Y.iload dX5_momentOf_34 rfl ?_
        exact Y.iret dX5_momentOf_36 rfl (hP _ _ ⟨zrI (by rw [mmt_1 (j := k - 3 * i) (by omega) (by omega) (by rw [hk3]; assumption) (by omega)]; omega), rfl⟩)
def zFK (σ t : zS) : Prop := t.2 = σ.2 ∧ (∀ c : Nat, c ≠ 67 → c ≠ 83 → t.1 c = σ.1 c) ∧ ∀ i : Int, (i < 19 ∨ 22 < i) → t.1 67 i = σ.1 67 i
theorem zFK.rf {σ : zS} : zFK σ σ := ⟨rfl, fun _ _ _ => rfl, fun _ _ => rfl⟩
theorem zFK.up {σ t : zS} {i v : Int} (h : zFK σ t) : zFK σ (zu t 83 i v) :=
  ⟨h.1, fun e q1 q2 => by rw [zu_nc q2]; exact h.2.1 e q1 q2, fun j hj => by rw [zu_nc (by omega)]; exact h.2.2 j hj⟩
theorem zFK.tm {σ t s : zS} (h : zFK σ t) (h2 : zFm t s) : zFK σ s := ⟨h2.1.trans h.1, fun c q1 q2 => (h2.2.1 c q1).trans (h.2.1 c q1 q2), fun i q => (h2.2.2 i q).trans (h.2.2 i q)⟩
theorem zFK.tk {σ t s : zS} (h : zFK σ t) (h2 : s.2 = t.2 ∧ ∀ c : Nat, c ≠ 83 → s.1 c = t.1 c) : zFK σ s := ⟨h2.1.trans h.1, fun c q1 q2 => (h2.2 c q2).trans (h.2.1 c q1 q2), fun i q => by rw [h2.2 67 (by omega)]; exact h.2.2 i q⟩
theorem MS.fr {s t : zS} {p : zP} (h : MS s p) (hf : zFK s t) : MS t p := by
  rcases h with ⟨h1, h2⟩ | ⟨r, l, h1, h2, h3, h4, h5⟩
  · exact Or.inl ⟨h1, by rw [hf.2.2 27 (by omega)]; exact h2⟩
  · exact Or.inr ⟨r, l, h1, by rw [hf.2.2 27 (by omega)]; exact h2, by rw [hf.2.2 28 (by omega)]; exact h3, h4.fr (fun c a e => hf.2.1 c (by omega) (by omega)), h5.fr (fun c a e => hf.2.1 c (by omega) (by omega))⟩
def KP (t : zS) : Prop := ∀ i : Int, 0 ≤ i → i < 3 → -2 ≤ t.1 83 i ∧ t.1 83 i < 9
theorem KP.up {t : zS} {i v : Int} (h : KP t) (h0 : -2 ≤ v) (h1 : v < 9) : KP (zu t 83 i v) := fun j a c => by
  by_cases q : j = i
  · rw [q, zu_eq]; exact ⟨h0, h1⟩
  · rw [zu_ne q]; exact h j a c
theorem MX.ws {t : zS} {p : zP} {l : Int → Int} (hA : MA t p l) (hK : KP t) {x i1 i2 a c : Int} (hn : i1 ≠ i2) (hi : ∀ i : Int, 0 ≤ i → i < 3 → i ≠ x / 3 → i = i1 ∨ i = i2) (hi1 : 0 ≤ i1 ∧ i1 < 3) (hi2 : 0 ≤ i2 ∧ i2 < 3) (hr : inr p x i1 i2 a c) (e1 : t.1 83 i1 = mmt p x i1 a) (e2 : t.1 83 i2 = mmt p x i2 c) : MX t p l x (Cg (gpk p x i1 a i2 c)) := by
  have key : ∀ i n j : Int, 0 ≤ i → i < 3 → 0 ≤ n → n < na p x i → 0 ≤ j → j < 3 → riv p x (i * 3 + j) → t.1 83 i = mmt p x i n → ((pkc p x i n = -1 ∨ pkc p x i n = j) ↔ (t.1 83 i = -2 ∨ t.1 83 i = i * 3 + j)) := by
    intro i n j a1 a2 n0 n1 a4 a5 a6 e
    have hm := mmt_b p x a1 a2 n0
    have hc := rl_at a4 a5 a6
    have hmx : na p x i = max 1 (rn p x i) := rfl
    have hrn : 0 < rn p x i := by
      have hq := mmt_1 a4 a5 a6 rfl
      have hb := mmt_b p x (n := cn p x i j) a1 a2 hc.2.1
      omega
    have hrl := rl_r (p := p) (x := x) (i := i) n0 (by omega)
    rw [e, hm.2.2.2 (by omega)]
    unfold pkc
    rw [if_neg (by omega)]
    omega
  refine ⟨hA, fun i j a1 a2 a3 a4 a5 a6 => ?_, fun i a1 a2 => by have := hK i a1 a2; omega⟩
  unfold Cg
  rw [show (i * 3 + j) / 3 = i by omega, show (i * 3 + j) % 3 = j by omega]
  rcases hi i a1 a2 a3 with rfl | rfl
  · rw [gpk_1]
    exact key i a j a1 a2 hr.1 hr.2.1 a4 a5 a6 e1
  · rw [gpk_2 _ _ _ _ hn]
    exact key i c j a1 a2 hr.2.2.1 hr.2.2.2 a4 a5 a6 e2
/-- the model's look at the ways -/
def SM (p : zP) (l : Int → Int) (x i1 i2 a b m al : Int) : Prop := (al = 1 ∧ SI p l x i1 i2 a b m) ∨ (al = 0 ∧ -20000 ≤ m ∧ m ≤ 20000 ∧ ∃ a' b' : Int, inr p x i1 i2 a' b' ∧ fs p l x i1 a' i2 b' = none)
set_option maxHeartbeats 4000000 in
theorem c_X5_searchedBy {p : zP} (ec : mP σ = p) (hp : WP p) (hS : MS σ p) (hpk : PK σ) {x : Int} (h0 : 0 ≤ x) (h9 : x < 9) (ht : th p x) : YC 8 μX5_searchedBy [.ref 67, .int (zi x)] σ (fun r s => r = some (.int (zi (srcA p x))) ∧ zFK σ s ∧ PK s) := by
  refine YC.of2 (by decide) (Nat.le_of_ble_eq_true rfl) (fun d P hd hP => ?_)
  rcases hS with ⟨h, e⟩ | ⟨r, l, h, e, e2, hA, hMV⟩
  · refine Y.aload_n dX5_searchedBy_0 rfl ?_
    refine Y.getf dX5_searchedBy_1 flX5_232 ob67 rfl ?_
    refine Y.if_ne 9 dX5_searchedBy_4 (by decide) (by omega) (fun h_4 => ?_) (fun h_4 => ?_)
    · exfalso; omega
    refine Y.iconst dX5_searchedBy_7 ?_
    exact Y.iret dX5_searchedBy_8 rfl (hP _ _ ⟨zrI (by rw [srcA, sv_n h]), zFK.rf, hpk⟩)
  · have hr : WL l ∧ bA p l ∧ 1 ≤ r ∧ r ≤ 20 := SR_b hp h
    have hl := hr.1
    have k34 : ∀ i1 i2 : Int, 0 ≤ i1 → i1 < 3 → 0 ≤ i2 → i2 < 3 → i1 ≠ i2 → i1 ≠ x / 3 → i2 ≠ x / 3 → Y d μX5_searchedBy 34 [some (.ref 67), some (.int (zi x)), some (.int (zi i1)), some (.int (zi i2)), none, none, none, none, none] [] σ P := by
      intro i1 i2 hi1 hi1' hi2 hi2' hne hx1 hx2
      have hii : ∀ i : Int, 0 ≤ i → i < 3 → i ≠ x / 3 → i = i1 ∨ i = i2 := fun i a c q => by omega
      have hsw : ∀ v : Int, isS p l x i1 i2 v → isS p l x ((x / 3 + 1) % 3) ((x / 3 + 2) % 3) v := fun v hv => by
        rcases (show (i1 = (x / 3 + 1) % 3 ∧ i2 = (x / 3 + 2) % 3) ∨ (i2 = (x / 3 + 1) % 3 ∧ i1 = (x / 3 + 2) % 3) by omega) with ⟨e1, e2⟩ | ⟨e1, e2⟩
        · rw [← e1, ← e2]; exact hv
        · rw [← e1, ← e2]; exact isS_w hne hv
      have hn1 := na_b p x i1
      have hn2 := na_b p x i2
      have hr1 := rn_b p x i1
      have hr2 := rn_b p x i2
      have hx1 : na p x i1 = max 1 (rn p x i1) := rfl
      have hx2 : na p x i2 = max 1 (rn p x i2) := rfl
      refine Y.iconst dX5_searchedBy_34 ?_
      refine Y.istore dX5_searchedBy_35 (by decide) rfl ?_
      refine Y.iconst dX5_searchedBy_37 ?_
      refine Y.istore dX5_searchedBy_38 (by decide) rfl ?_
      refine Y.iconst dX5_searchedBy_40 ?_
      refine Y.istore dX5_searchedBy_41 (by decide) rfl ?_
      refine zw4 (fun t m al a => (0 ≤ a ∧ a ≤ 3 ∧ KP t ∧ zFK σ t ∧ SM p l x i1 i2 a 0 m al)) (fun t m al a => Y d μX5_searchedBy 43 [some (.ref 67), some (.int (zi x)), some (.int (zi i1)), some (.int (zi i2)), some (.int (zi m)), some (.int (zi al)), some (.int (zi a)), none, none] [] t P) (fun t m al a => (3 - a).toNat) ?_ _ _ _ _ ⟨by omega, by omega, fun i a c => by have := hpk i a c; omega, zFK.rf, Or.inl ⟨rfl, SI.z⟩⟩
      intro t m al a hI ih
      obtain ⟨j1, j2, j3, j4, j5⟩ := hI
      have hal : al = 0 ∨ al = 1 := by rcases j5 with q | q <;> omega
      refine Y.iload dX5_searchedBy_43 rfl ?_
      refine Y.iconst dX5_searchedBy_45 ?_
      refine Y.icmp_ge 168 dX5_searchedBy_46 (by decide) (by omega) (by omega) (fun h_46 => ?_) (fun h_46 => ?_)
      · refine Y.aload_n dX5_searchedBy_168 rfl ?_
        refine Y.callV dX5_searchedBy_169 mkX5_picksAll csX5_229 ob67 ⟨_, rfl, rfl⟩ c_X5_picksAll (by omega) rfl rfl (Nat.le_of_ble_eq_true rfl) (fun r_169 s_169 p_169 => ?_)
        obtain ⟨rfl, f_169, g_169⟩ := p_169
        have hz9 := hal
        refine Y.iload dX5_searchedBy_172 rfl ?_
        refine Y.if_eq 182 dX5_searchedBy_174 (by decide) (by omega) (fun h_174 => ?_) (fun h_174 => ?_)
        · refine Y.iconst dX5_searchedBy_182 ?_
          exact Y.iret dX5_searchedBy_183 rfl (hP _ _ ⟨zrI (by
      rw [srcA, sv_s h]
      rcases j5 with ⟨q1, q2⟩ | ⟨q1, q2, q3, a', b', q4, q5⟩
      · first
          | exact (srS_e (hsw _ (q2.e (by omega)))).symm
          | (exfalso; omega)
      · first
          | exact (srS_e (hsw _ (Or.inl ⟨rfl, a', b', q4, q5⟩))).symm
          | (exfalso; omega)), j4.tk f_169, g_169⟩)
        · refine Y.iload dX5_searchedBy_177 rfl ?_
          refine Y.goto 183 dX5_searchedBy_179 (by decide) ?_
          exact Y.iret dX5_searchedBy_183 rfl (hP _ _ ⟨zrI (by
      rw [srcA, sv_s h]
      rcases j5 with ⟨q1, q2⟩ | ⟨q1, q2, q3, a', b', q4, q5⟩
      · first
          | exact (srS_e (hsw _ (q2.e (by omega)))).symm
          | (exfalso; omega)
      · first
          | exact (srS_e (hsw _ (Or.inl ⟨rfl, a', b', q4, q5⟩))).symm
          | (exfalso; omega)), j4.tk f_169, g_169⟩)
      · refine Y.iload dX5_searchedBy_49 rfl ?_
        refine Y.if_eq 168 dX5_searchedBy_51 (by decide) (by omega) (fun h_51 => ?_) (fun h_51 => ?_)
        · refine Y.aload_n dX5_searchedBy_168 rfl ?_
          refine Y.callV dX5_searchedBy_169 mkX5_picksAll csX5_229 ob67 ⟨_, rfl, rfl⟩ c_X5_picksAll (by omega) rfl rfl (Nat.le_of_ble_eq_true rfl) (fun r_169 s_169 p_169 => ?_)
          obtain ⟨rfl, f_169, g_169⟩ := p_169
          have hz9 := hal
          refine Y.iload dX5_searchedBy_172 rfl ?_
          refine Y.if_eq 182 dX5_searchedBy_174 (by decide) (by omega) (fun h_174 => ?_) (fun h_174 => ?_)
          · refine Y.iconst dX5_searchedBy_182 ?_
            exact Y.iret dX5_searchedBy_183 rfl (hP _ _ ⟨zrI (by
      rw [srcA, sv_s h]
      rcases j5 with ⟨q1, q2⟩ | ⟨q1, q2, q3, a', b', q4, q5⟩
      · first
          | exact (srS_e (hsw _ (q2.e (by omega)))).symm
          | (exfalso; omega)
      · first
          | exact (srS_e (hsw _ (Or.inl ⟨rfl, a', b', q4, q5⟩))).symm
          | (exfalso; omega)), j4.tk f_169, g_169⟩)
          · refine Y.iload dX5_searchedBy_177 rfl ?_
            refine Y.goto 183 dX5_searchedBy_179 (by decide) ?_
            exact Y.iret dX5_searchedBy_183 rfl (hP _ _ ⟨zrI (by
      rw [srcA, sv_s h]
      rcases j5 with ⟨q1, q2⟩ | ⟨q1, q2, q3, a', b', q4, q5⟩
      · first
          | exact (srS_e (hsw _ (q2.e (by omega)))).symm
          | (exfalso; omega)
      · first
          | exact (srS_e (hsw _ (Or.inl ⟨rfl, a', b', q4, q5⟩))).symm
          | (exfalso; omega)), j4.tk f_169, g_169⟩)
        · refine Y.iconst dX5_searchedBy_54 ?_
          refine Y.istore dX5_searchedBy_55 (by decide) rfl ?_
          refine zw4 (fun u m al c => (0 ≤ c ∧ c ≤ 3 ∧ KP u ∧ zFK σ u ∧ SM p l x i1 i2 a c m al)) (fun u m al c => Y d μX5_searchedBy 57 [some (.ref 67), some (.int (zi x)), some (.int (zi i1)), some (.int (zi i2)), some (.int (zi m)), some (.int (zi al)), some (.int (zi a)), some (.int (zi c)), none] [] u P) (fun u m al c => (3 - c).toNat) ?_ _ _ _ _ ⟨by omega, by omega, j3, j4, j5⟩
          intro u m al c hI2 ih2
          obtain ⟨k1, k2, k3, k4, k5⟩ := hI2
          have hal : al = 0 ∨ al = 1 := by rcases k5 with q | q <;> omega
          have ecu : mP u = p := (mP_c (fun c a e => k4.2.1 c (by omega) (by omega))).trans ec
          have hv1 := mmt_b p x (i := i1) (n := a) hi1 hi1' (by omega)
          have hv2 := mmt_b p x (i := i2) (n := c) hi2 hi2' (by omega)
          refine Y.iload dX5_searchedBy_57 rfl ?_
          refine Y.iconst dX5_searchedBy_59 ?_
          refine Y.icmp_ge 162 dX5_searchedBy_60 (by decide) (by omega) (by omega) (fun h_60 => ?_) (fun h_60 => ?_)
          · refine Y.iinc dX5_searchedBy_162 rfl (by decide) rfl ?_
            refine Y.goto 43 dX5_searchedBy_165 (by decide) ?_
            refine Y.sub (zs_s (zs_s (zs_s (zs_s (zs_s (zs_s (zs_s (zs_n (zs_n zs_0))))))))) ?_
            refine ih _ _ _ _ ⟨by omega, by omega, k3, k4, ?_⟩ (by omega)
            rcases k5 with ⟨q1, q2⟩ | q
            · exact Or.inl ⟨q1, q2.n (by omega)⟩
            · exact Or.inr q
          · refine Y.iload dX5_searchedBy_63 rfl ?_
            refine Y.if_eq 162 dX5_searchedBy_65 (by decide) (by omega) (fun h_65 => ?_) (fun h_65 => ?_)
            · refine Y.iinc dX5_searchedBy_162 rfl (by decide) rfl ?_
              refine Y.goto 43 dX5_searchedBy_165 (by decide) ?_
              refine Y.sub (zs_s (zs_s (zs_s (zs_s (zs_s (zs_s (zs_s (zs_n (zs_n zs_0))))))))) ?_
              refine ih _ _ _ _ ⟨by omega, by omega, k3, k4, ?_⟩ (by omega)
              rcases k5 with ⟨q1, q2⟩ | q
              · exact Or.inl ⟨q1, q2.n (by omega)⟩
              · exact Or.inr q
            · have k6 : SI p l x i1 i2 a c m := k5.elim (fun q => q.2) (fun q => absurd q.1 (by omega))
              have hm1 := k6.2.1
              have hm2 := k6.2.2.1
              have hKU : KP (zu (zu u 83 i1 (mmt p x i1 a)) 83 i2 (mmt p x i2 c)) := (k3.up (by omega) (by omega)).up (by omega) (by omega)
              have hFU : zFK σ (zu (zu u 83 i1 (mmt p x i1 a)) 83 i2 (mmt p x i2 c)) := k4.up.up
              have f1 : (zu (zu u 83 i1 (mmt p x i1 a)) 83 i2 (mmt p x i2 c)).1 83 i1 = mmt p x i1 a := by rw [zu_ne hne, zu_eq]
              have f2 : (zu (zu u 83 i1 (mmt p x i1 a)) 83 i2 (mmt p x i2 c)).1 83 i2 = mmt p x i2 c := zu_eq
              have hAU : MA (zu (zu u 83 i1 (mmt p x i1 a)) 83 i2 (mmt p x i2 c)) p l := hA.fr (fun c a e => hFU.2.1 c (by omega) (by omega))
              have k133a : ¬ inr p x i1 i2 a c → (0 < a ∨ 0 < c) → Y d μX5_searchedBy 133 [some (.ref 67), some (.int (zi x)), some (.int (zi i1)), some (.int (zi i2)), some (.int (zi m)), some (.int (zi al)), some (.int (zi a)), some (.int (zi c)), some (.int (zi 0))] [] (zu (zu u 83 i1 (mmt p x i1 a)) 83 i2 (mmt p x i2 c)) P := by
                intro hni hac
                refine Y.iload dX5_searchedBy_133 rfl ?_
                refine Y.if_eq 156 dX5_searchedBy_135 (by decide) (by omega) (fun h_135 => ?_) (fun h_135 => ?_)
                rotate_left
                · exfalso; omega
                refine Y.iinc dX5_searchedBy_156 rfl (by decide) rfl ?_
                refine Y.goto 57 dX5_searchedBy_159 (by decide) ?_
                refine Y.sub (zs_s (zs_s (zs_s (zs_s (zs_s (zs_s (zs_s (zs_s (zs_n zs_0))))))))) ?_
                first
                  | (refine ih2 _ _ _ _ ⟨by omega, by omega, hKU, hFU, Or.inl ⟨by omega, k6.b hni (by omega) (by omega) (by omega)⟩⟩ (by omega); done)
                  | (have hin : inr p x i1 i2 a c := ⟨by omega, by omega, by omega, by omega⟩
                     cases hq : fs p l x i1 a i2 c with
                     | none =>
                       have hq2 : fnd p l (Cg (gpk p x i1 a i2 c)) x = none := hq
                       rw [zb_f (fun q => q hq2)]
                       exact ih2 _ _ _ _ ⟨by omega, by omega, fun i a c => by rw [f_140.2.1 83 (by omega)]; exact hKU i a c, hFU.tm f_140, Or.inr ⟨rfl, by omega, by omega, a, c, hin, hq⟩⟩ (by omega)
                     | some v =>
                       have hq2 : fnd p l (Cg (gpk p x i1 a i2 c)) x = some v := hq
                       rw [zb_t (by rw [hq2]; exact Option.some_ne_none _), (g_140 v hq2).1]
                       exact ih2 _ _ _ _ ⟨by omega, by omega, fun i a c => by rw [f_140.2.1 83 (by omega)]; exact hKU i a c, hFU.tm f_140, Or.inl ⟨rfl, k6.s hp hl h0 h9 ht hin hq⟩⟩ (by omega))
              have k133b : a < na p x i1 → c < na p x i2 → Y d μX5_searchedBy 133 [some (.ref 67), some (.int (zi x)), some (.int (zi i1)), some (.int (zi i2)), some (.int (zi m)), some (.int (zi al)), some (.int (zi a)), some (.int (zi c)), some (.int (zi 1))] [] (zu (zu u 83 i1 (mmt p x i1 a)) 83 i2 (mmt p x i2 c)) P := by
                intro han hcn
                refine Y.iload dX5_searchedBy_133 rfl ?_
                refine Y.if_eq 156 dX5_searchedBy_135 (by decide) (by omega) (fun h_135 => ?_) (fun h_135 => ?_)
                · exfalso; omega
                refine Y.aload_n dX5_searchedBy_138 rfl ?_
                refine Y.iload_n dX5_searchedBy_139 rfl ?_
                refine Y.callV dX5_searchedBy_140 mkX5_answers csX5_226 ob67 ⟨_, rfl, rfl⟩ (c_X5_answers (MX.ws hAU hKU hne hii ⟨hi1, hi1'⟩ ⟨hi2, hi2'⟩ ⟨by omega, by omega, by omega, by omega⟩ f1 f2) h0 h9 ht) (by omega) rfl rfl (Nat.le_of_ble_eq_true rfl) (fun r_140 s_140 p_140 => ?_)
                obtain ⟨rfl, f_140, g_140, u_140, v_140⟩ := p_140
                refine Y.istore dX5_searchedBy_143 (by decide) rfl ?_
                refine Y.iload dX5_searchedBy_145 rfl ?_
                refine Y.aload_n dX5_searchedBy_147 rfl ?_
                refine Y.getf dX5_searchedBy_148 flX5_204 ob67 rfl ?_
                refine Y.cSI dX5_searchedBy_151 mkX5_greater csX5_198 (c_X5_greater (by omega) (by omega)) (by omega) rfl rfl (Nat.le_of_ble_eq_true rfl) ?_
                refine Y.istore dX5_searchedBy_154 (by decide) rfl ?_
                refine Y.iinc dX5_searchedBy_156 rfl (by decide) rfl ?_
                refine Y.goto 57 dX5_searchedBy_159 (by decide) ?_
                refine Y.sub (zs_s (zs_s (zs_s (zs_s (zs_s (zs_s (zs_s (zs_s (zs_n zs_0))))))))) ?_
                first
                  | skip; fail
                  | (have hin : inr p x i1 i2 a c := ⟨by omega, by omega, by omega, by omega⟩
                     cases hq : fs p l x i1 a i2 c with
                     | none =>
                       have hq2 : fnd p l (Cg (gpk p x i1 a i2 c)) x = none := hq
                       rw [zb_f (fun q => q hq2)]
                       exact ih2 _ _ _ _ ⟨by omega, by omega, fun i a c => by rw [f_140.2.1 83 (by omega)]; exact hKU i a c, hFU.tm f_140, Or.inr ⟨rfl, by omega, by omega, a, c, hin, hq⟩⟩ (by omega)
                     | some v =>
                       have hq2 : fnd p l (Cg (gpk p x i1 a i2 c)) x = some v := hq
                       rw [zb_t (by rw [hq2]; exact Option.some_ne_none _), (g_140 v hq2).1]
                       exact ih2 _ _ _ _ ⟨by omega, by omega, fun i a c => by rw [f_140.2.1 83 (by omega)]; exact hKU i a c, hFU.tm f_140, Or.inl ⟨rfl, k6.s hp hl h0 h9 ht hin hq⟩⟩ (by omega))
              refine Y.aload_n dX5_searchedBy_68 rfl ?_
              refine Y.getf dX5_searchedBy_69 flX5_56 ob67 rfl ?_
              refine Y.iload_n dX5_searchedBy_72 rfl ?_
              refine Y.aload_n dX5_searchedBy_73 rfl ?_
              refine Y.iload_n dX5_searchedBy_74 rfl ?_
              refine Y.iload_n dX5_searchedBy_75 rfl ?_
              refine Y.iload dX5_searchedBy_76 rfl ?_
              refine Y.cVI dX5_searchedBy_78 mkX5_momentOf csX5_257 ob67 ⟨_, rfl, rfl⟩ (c_X5_momentOf ecu hp h0 h9 hi1 hi1' (by omega) (by omega)) (by omega) rfl rfl (Nat.le_of_ble_eq_true rfl) ?_
              refine Y.iast dX5_searchedBy_81 ia83 (by omega) (by omega) ?_
              refine Y.aload_n dX5_searchedBy_82 rfl ?_
              refine Y.getf dX5_searchedBy_83 flX5_56 ob67 rfl ?_
              refine Y.iload_n dX5_searchedBy_86 rfl ?_
              refine Y.aload_n dX5_searchedBy_87 rfl ?_
              refine Y.iload_n dX5_searchedBy_88 rfl ?_
              refine Y.iload_n dX5_searchedBy_89 rfl ?_
              refine Y.iload dX5_searchedBy_90 rfl ?_
              refine Y.cVI dX5_searchedBy_92 mkX5_momentOf csX5_257 ob67 ⟨_, rfl, rfl⟩ (c_X5_momentOf ((mP_c (fun c a e => by rw [zu_nc (by omega)])).trans ecu) hp h0 h9 hi2 hi2' (by omega) (by omega)) (by omega) rfl rfl (Nat.le_of_ble_eq_true rfl) ?_
              refine Y.iast dX5_searchedBy_95 ia83 (by omega) (by omega) ?_
              refine Y.iload dX5_searchedBy_96 rfl ?_
              refine Y.if_eq 111 dX5_searchedBy_98 (by decide) (by omega) (fun h_98 => ?_) (fun h_98 => ?_)
              · refine Y.iload dX5_searchedBy_111 rfl ?_
                refine Y.if_eq 126 dX5_searchedBy_113 (by decide) (by omega) (fun h_113 => ?_) (fun h_113 => ?_)
                · refine Y.iconst dX5_searchedBy_126 ?_
                  refine Y.goto 131 dX5_searchedBy_127 (by decide) ?_
                  refine Y.istore dX5_searchedBy_131 (by decide) rfl ?_
                  first
                    | exact k133a (fun q => by have q1 := q.2.1; have q2 := q.2.2.2; omega) (by omega)
                    | exact k133b (by omega) (by omega)
                · refine Y.aload_n dX5_searchedBy_116 rfl ?_
                  refine Y.getf dX5_searchedBy_117 flX5_56 ob67 rfl ?_
                  refine Y.iload_n dX5_searchedBy_120 rfl ?_
                  refine Y.iald dX5_searchedBy_121 ia83 (by omega) (by omega) ?_
                  refine Y.iconst dX5_searchedBy_122 ?_
                  rw [f2]
                  refine Y.icmp_eq 130 dX5_searchedBy_123 (by decide) (by omega) (by omega) (fun h_123 => ?_) (fun h_123 => ?_)
                  · refine Y.iconst dX5_searchedBy_130 ?_
                    refine Y.istore dX5_searchedBy_131 (by decide) rfl ?_
                    first
                      | exact k133a (fun q => by have q1 := q.2.1; have q2 := q.2.2.2; omega) (by omega)
                      | exact k133b (by omega) (by omega)
                  · refine Y.iconst dX5_searchedBy_126 ?_
                    refine Y.goto 131 dX5_searchedBy_127 (by decide) ?_
                    refine Y.istore dX5_searchedBy_131 (by decide) rfl ?_
                    first
                      | exact k133a (fun q => by have q1 := q.2.1; have q2 := q.2.2.2; omega) (by omega)
                      | exact k133b (by omega) (by omega)
              · refine Y.aload_n dX5_searchedBy_101 rfl ?_
                refine Y.getf dX5_searchedBy_102 flX5_56 ob67 rfl ?_
                refine Y.iload_n dX5_searchedBy_105 rfl ?_
                refine Y.iald dX5_searchedBy_106 ia83 (by omega) (by omega) ?_
                refine Y.iconst dX5_searchedBy_107 ?_
                rw [f1]
                refine Y.icmp_eq 130 dX5_searchedBy_108 (by decide) (by omega) (by omega) (fun h_108 => ?_) (fun h_108 => ?_)
                · refine Y.iconst dX5_searchedBy_130 ?_
                  refine Y.istore dX5_searchedBy_131 (by decide) rfl ?_
                  first
                    | exact k133a (fun q => by have q1 := q.2.1; have q2 := q.2.2.2; omega) (by omega)
                    | exact k133b (by omega) (by omega)
                · refine Y.iload dX5_searchedBy_111 rfl ?_
                  refine Y.if_eq 126 dX5_searchedBy_113 (by decide) (by omega) (fun h_113 => ?_) (fun h_113 => ?_)
                  · refine Y.iconst dX5_searchedBy_126 ?_
                    refine Y.goto 131 dX5_searchedBy_127 (by decide) ?_
                    refine Y.istore dX5_searchedBy_131 (by decide) rfl ?_
                    first
                      | exact k133a (fun q => by have q1 := q.2.1; have q2 := q.2.2.2; omega) (by omega)
                      | exact k133b (by omega) (by omega)
                  · refine Y.aload_n dX5_searchedBy_116 rfl ?_
                    refine Y.getf dX5_searchedBy_117 flX5_56 ob67 rfl ?_
                    refine Y.iload_n dX5_searchedBy_120 rfl ?_
                    refine Y.iald dX5_searchedBy_121 ia83 (by omega) (by omega) ?_
                    refine Y.iconst dX5_searchedBy_122 ?_
                    rw [f2]
                    refine Y.icmp_eq 130 dX5_searchedBy_123 (by decide) (by omega) (by omega) (fun h_123 => ?_) (fun h_123 => ?_)
                    · refine Y.iconst dX5_searchedBy_130 ?_
                      refine Y.istore dX5_searchedBy_131 (by decide) rfl ?_
                      first
                        | exact k133a (fun q => by have q1 := q.2.1; have q2 := q.2.2.2; omega) (by omega)
                        | exact k133b (by omega) (by omega)
                    · refine Y.iconst dX5_searchedBy_126 ?_
                      refine Y.goto 131 dX5_searchedBy_127 (by decide) ?_
                      refine Y.istore dX5_searchedBy_131 (by decide) rfl ?_
                      first
                        | exact k133a (fun q => by have q1 := q.2.1; have q2 := q.2.2.2; omega) (by omega)
                        | exact k133b (by omega) (by omega)
    refine Y.aload_n dX5_searchedBy_0 rfl ?_
    refine Y.getf dX5_searchedBy_1 flX5_232 ob67 rfl ?_
    refine Y.if_ne 9 dX5_searchedBy_4 (by decide) (by omega) (fun h_4 => ?_) (fun h_4 => ?_)
    rotate_left
    · exfalso; omega
    refine Y.iload_n dX5_searchedBy_9 rfl ?_
    refine Y.iconst dX5_searchedBy_10 ?_
    refine Y.idivp dX5_searchedBy_11 (by omega) (by omega) (by omega) (by omega) ?_
    refine Y.if_ne 19 dX5_searchedBy_12 (by decide) (by omega) (fun h_12 => ?_) (fun h_12 => ?_)
    · refine Y.iconst dX5_searchedBy_19 ?_
      refine Y.istore_n dX5_searchedBy_20 (by decide) rfl ?_
      refine Y.iload_n dX5_searchedBy_21 rfl ?_
      refine Y.iconst dX5_searchedBy_22 ?_
      refine Y.idivp dX5_searchedBy_23 (by omega) (by omega) (by omega) (by omega) ?_
      refine Y.iconst dX5_searchedBy_24 ?_
      refine Y.icmp_ne 32 dX5_searchedBy_25 (by decide) (by omega) (by omega) (fun h_25 => ?_) (fun h_25 => ?_)
      · refine Y.iconst dX5_searchedBy_32 ?_
        refine Y.istore_n dX5_searchedBy_33 (by decide) rfl ?_
        exact k34 _ _ (by omega) (by omega) (by omega) (by omega) (by omega) (by omega) (by omega)
      · refine Y.iconst dX5_searchedBy_28 ?_
        refine Y.goto 33 dX5_searchedBy_29 (by decide) ?_
        refine Y.istore_n dX5_searchedBy_33 (by decide) rfl ?_
        exact k34 _ _ (by omega) (by omega) (by omega) (by omega) (by omega) (by omega) (by omega)
    · refine Y.iconst dX5_searchedBy_15 ?_
      refine Y.goto 20 dX5_searchedBy_16 (by decide) ?_
      refine Y.istore_n dX5_searchedBy_20 (by decide) rfl ?_
      refine Y.iload_n dX5_searchedBy_21 rfl ?_
      refine Y.iconst dX5_searchedBy_22 ?_
      refine Y.idivp dX5_searchedBy_23 (by omega) (by omega) (by omega) (by omega) ?_
      refine Y.iconst dX5_searchedBy_24 ?_
      refine Y.icmp_ne 32 dX5_searchedBy_25 (by decide) (by omega) (by omega) (fun h_25 => ?_) (fun h_25 => ?_)
      · refine Y.iconst dX5_searchedBy_32 ?_
        refine Y.istore_n dX5_searchedBy_33 (by decide) rfl ?_
        exact k34 _ _ (by omega) (by omega) (by omega) (by omega) (by omega) (by omega) (by omega)
      · refine Y.iconst dX5_searchedBy_28 ?_
        refine Y.goto 33 dX5_searchedBy_29 (by decide) ?_
        refine Y.istore_n dX5_searchedBy_33 (by decide) rfl ?_
        exact k34 _ _ (by omega) (by omega) (by omega) (by omega) (by omega) (by omega) (by omega)
end ZGa
