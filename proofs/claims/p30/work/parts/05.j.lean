section ZG8
variable {σ : zS}
section RR
variable {d : Nat} {μ : zU} {pc : Nat} {L : List (Option Value)} {st : List Value} {P : Option Value → zS → Prop} {x y : Int32}
theorem Y.ishr_ (hdg : decode μ.2.1 pc = .ok (.ishr, 1)) (k : Y d μ (pc + 1) L (.int (x >>> (y &&& 31)) :: st) σ P) : Y d μ pc L (.int y :: .int x :: st) σ P := Z.ishr hdg k
theorem Y.iand_ (hdg : decode μ.2.1 pc = .ok (.iand, 1)) (k : Y d μ (pc + 1) L (.int (x &&& y) :: st) σ P) : Y d μ pc L (.int y :: .int x :: st) σ P := Z.iand hdg k
theorem Y.iushr_ (hdg : decode μ.2.1 pc = .ok (.iushr, 1)) (k : Y d μ (pc + 1) L (.int (x.toUInt32 >>> (y.toUInt32 &&& Int32.toUInt32 31)).toInt32 :: st) σ P) : Y d μ pc L (.int y :: .int x :: st) σ P := Z.iushr hdg k
end RR
theorem bts_3 (Q : Int → Prop) : bts Q = zb (Q 0) * 1 + zb (Q 1) * 2 + zb (Q 2) * 4 := by
  show 0 + zb (Q (0 + 0)) * pw (0 + 0) + zb (Q (0 + 1)) * pw (0 + 1) + zb (Q (0 + 2)) * pw (0 + 2) = _
  rw [Int.zero_add]
  rfl
theorem bts_i (Q : Int → Prop) {i : Int} (h0 : 0 ≤ i) (h3 : i < 3) : zi (bts Q) >>> (zi i &&& 31) &&& zi 1 = zi (zb (Q i)) := by
  rw [bts_3]
  rcases (show i = 0 ∨ i = 1 ∨ i = 2 by omega) with rfl | rfl | rfl <;> rcases zb_2 (Q 0) with e | e <;> rcases zb_2 (Q 1) with e2 | e2 <;> rcases zb_2 (Q 2) with e3 | e3 <;> rw [e, e2, e3] <;> decide
theorem bts_b (Q : Int → Prop) : 0 ≤ bts Q ∧ bts Q < 8 := by
  rw [bts_3]
  rcases zb_2 (Q 0) with e | e <;> rcases zb_2 (Q 1) with e2 | e2 <;> rcases zb_2 (Q 2) with e3 | e3 <;> rw [e, e2, e3] <;> decide
/-! what is told of settled answers -/
noncomputable def sv (p : zP) (f : Int → (Int → Int) → Int) : Int := match SR p with
  | none => -1
  | some q => f q.1 q.2
theorem sv_n {p : zP} (h : SR p = none) (f : Int → (Int → Int) → Int) : sv p f = -1 := by unfold sv; rw [h]
theorem sv_s {p : zP} {r : Int} {l : Int → Int} (h : SR p = some (r, l)) (f : Int → (Int → Int) → Int) : sv p f = f r l := by unfold sv; rw [h]
noncomputable def latA (p : zP) (x : Int) : Int := sv p (fun _ l => l x)
noncomputable def bndA (p : zP) (x : Int) : Int := sv p (fun _ l => (bv p l x).1)
noncomputable def rndA (p : zP) : Int := sv p (fun r _ => r)
noncomputable def wrsA (p : zP) (x w : Int) : Int := sv p (fun _ l => if w = 0 then (bv p l x).2.1 else if w = 1 then (bv p l x).2.2.1 else (bv p l x).2.2.2)
def metP (p : zP) (i : Int) : Prop := SR p ≠ none ∧ due p i ∧ bndA p (i * 3 + p 5 i - 1) ≤ p 2 i
theorem last_th {p : zP} (hp : WP p) {i : Int} (h0 : 0 ≤ i) (h3 : i < 3) (hd : 0 < p 5 i) : 0 ≤ i * 3 + p 5 i - 1 ∧ i * 3 + p 5 i - 1 < 9 ∧ th p (i * 3 + p 5 i - 1) := by
  have hm := (hp.1 i h0 h3).2.2.2.2.2
  refine ⟨by omega, by omega, ?_⟩
  unfold th
  rw [show (i * 3 + p 5 i - 1) / 3 = i by omega]
  omega
theorem bndA_b {p : zP} (hp : WP p) {x : Int} (h0 : 0 ≤ x) (h9 : x < 9) (ht : th p x) : -1 ≤ bndA p x ∧ bndA p x ≤ 746 ∧ (SR p ≠ none → 1 ≤ bndA p x) := by
  cases h : SR p with
  | none => rw [bndA, sv_n h]; exact ⟨by omega, by omega, fun q => absurd rfl q⟩
  | some q =>
    obtain ⟨r, l⟩ := q
    have hb : WL l ∧ bA p l ∧ 1 ≤ r ∧ r ≤ 20 := SR_b hp h
    have := bv_b hp hb.1 hb.2.1 h0 h9 ht
    rw [bndA, sv_s h]
    exact ⟨by omega, by omega, fun _ => this.1.1⟩
set_option maxHeartbeats 1000000 in
theorem c_X0_lateOf {b : Nat} (hb : zAb b) {p : zP} (ec : cP σ = p) (hp : WP p) (hS : SA b σ p) {x : Int} (h0 : 0 ≤ x) (h9 : x < 9) (ht : th p x) : YI 0 μX0_lateOf [.ref b, .int (zi x)] σ (latA p x) σ := by
  refine YC.of2 (by decide) (Nat.le_of_ble_eq_true rfl) (fun d P hd hP => ?_)
  rcases hS with ⟨h, e⟩ | ⟨r, l, h, e, hA, hPP, hBV⟩
  · refine Y.aload_n dX0_lateOf_0 rfl ?_
    refine Y.getf dX0_lateOf_1 flX0_49 (obA hb) rfl ?_
    refine Y.iconst dX0_lateOf_4 ?_
    refine Y.icmp_ne 12 dX0_lateOf_5 (by decide) (by omega) (by omega) (fun h_5 => ?_) (fun h_5 => ?_)
    · exfalso; omega
    refine Y.iconst dX0_lateOf_8 ?_
    refine Y.goto 18 dX0_lateOf_9 (by decide) ?_
    exact Y.iret dX0_lateOf_18 rfl (hP _ _ ⟨zrI (by rw [latA, sv_n h]), rfl⟩)
  · have hr : WL l ∧ bA p l ∧ 1 ≤ r ∧ r ≤ 20 := SR_b hp h
    refine Y.aload_n dX0_lateOf_0 rfl ?_
    refine Y.getf dX0_lateOf_1 flX0_49 (obA hb) rfl ?_
    refine Y.iconst dX0_lateOf_4 ?_
    refine Y.icmp_ne 12 dX0_lateOf_5 (by decide) (by omega) (by omega) (fun h_5 => ?_) (fun h_5 => ?_)
    rotate_left
    · exfalso; omega
    refine Y.aload_n dX0_lateOf_12 rfl ?_
    refine Y.getf dX0_lateOf_13 flX0_15 (obA hb) rfl ?_
    refine Y.iload_n dX0_lateOf_16 rfl ?_
    refine Y.iald dX0_lateOf_17 (iaA2 hb) (by omega) (by omega) ?_
    exact Y.iret dX0_lateOf_18 rfl (hP _ _ ⟨zrI (by rw [latA, sv_s h]; exact hA.late h0 h9), rfl⟩)
set_option maxHeartbeats 1000000 in
theorem c_X0_boundOf {b : Nat} (hb : zAb b) {p : zP} (ec : cP σ = p) (hp : WP p) (hS : SA b σ p) {x : Int} (h0 : 0 ≤ x) (h9 : x < 9) (ht : th p x) : YI 0 μX0_boundOf [.ref b, .int (zi x)] σ (bndA p x) σ := by
  refine YC.of2 (by decide) (Nat.le_of_ble_eq_true rfl) (fun d P hd hP => ?_)
  rcases hS with ⟨h, e⟩ | ⟨r, l, h, e, hA, hPP, hBV⟩
  · refine Y.aload_n dX0_boundOf_0 rfl ?_
    refine Y.getf dX0_boundOf_1 flX0_49 (obA hb) rfl ?_
    refine Y.iconst dX0_boundOf_4 ?_
    refine Y.icmp_ne 12 dX0_boundOf_5 (by decide) (by omega) (by omega) (fun h_5 => ?_) (fun h_5 => ?_)
    · exfalso; omega
    refine Y.iconst dX0_boundOf_8 ?_
    refine Y.goto 18 dX0_boundOf_9 (by decide) ?_
    exact Y.iret dX0_boundOf_18 rfl (hP _ _ ⟨zrI (by rw [bndA, sv_n h]), rfl⟩)
  · have hr : WL l ∧ bA p l ∧ 1 ≤ r ∧ r ≤ 20 := SR_b hp h
    refine Y.aload_n dX0_boundOf_0 rfl ?_
    refine Y.getf dX0_boundOf_1 flX0_49 (obA hb) rfl ?_
    refine Y.iconst dX0_boundOf_4 ?_
    refine Y.icmp_ne 12 dX0_boundOf_5 (by decide) (by omega) (by omega) (fun h_5 => ?_) (fun h_5 => ?_)
    rotate_left
    · exfalso; omega
    refine Y.aload_n dX0_boundOf_12 rfl ?_
    refine Y.getf dX0_boundOf_13 flX0_18 (obA hb) rfl ?_
    refine Y.iload_n dX0_boundOf_16 rfl ?_
    refine Y.iald dX0_boundOf_17 (iaA3 hb) (by omega) (by omega) ?_
    exact Y.iret dX0_boundOf_18 rfl (hP _ _ ⟨zrI (by rw [bndA, sv_s h]; exact (hBV x h0 h9 ht).1), rfl⟩)
set_option maxHeartbeats 1000000 in
theorem c_X0_meetingBits {b : Nat} (hb : zAb b) {p : zP} (ec : cP σ = p) (hp : WP p) (hS : SA b σ p) : YI 1 μX0_meetingBits [.ref b] σ (bts (metP p)) σ := by
  refine YC.of2 (by decide) (Nat.le_of_ble_eq_true rfl) (fun d P hd hP => ?_)
  have hdb := bts_b (due p)
  refine Y.aload_n dX0_meetingBits_0 rfl ?_
  refine Y.getf dX0_meetingBits_1 flX0_45 (obA hb) rfl ?_
  refine Y.cVI dX0_meetingBits_4 mkX2_dueBits csX0_74 ob1 ⟨_, rfl, rfl⟩ (k_X2_dueBits ec hp ) (by omega) rfl rfl (Nat.le_of_ble_eq_true rfl) ?_
  refine Y.istore_n dX0_meetingBits_7 (by decide) rfl ?_
  refine Y.iconst dX0_meetingBits_8 ?_
  refine Y.istore_n dX0_meetingBits_9 (by decide) rfl ?_
  refine Y.iconst dX0_meetingBits_10 ?_
  refine Y.istore_n dX0_meetingBits_11 (by decide) rfl ?_
  rcases hS with ⟨h, e⟩ | ⟨r, l, h, e, hA, hPP, hBV⟩
  · refine Y.iload_n dX0_meetingBits_12 rfl ?_
    refine Y.iconst dX0_meetingBits_13 ?_
    refine Y.icmp_ge 72 dX0_meetingBits_14 (by decide) (by omega) (by omega) (fun h_14 => ?_) (fun h_14 => ?_)
    · exfalso; omega
    refine Y.aload_n dX0_meetingBits_17 rfl ?_
    refine Y.getf dX0_meetingBits_18 flX0_49 (obA hb) rfl ?_
    refine Y.iconst dX0_meetingBits_21 ?_
    refine Y.icmp_eq 72 dX0_meetingBits_22 (by decide) (by omega) (by omega) (fun h_22 => ?_) (fun h_22 => ?_)
    rotate_left
    · exfalso; omega
    refine Y.iload_n dX0_meetingBits_72 rfl ?_
    exact Y.iret dX0_meetingBits_73 rfl (hP _ _ ⟨zrI (by rw [bts_3, zb_f (fun q => q.1 h), zb_f (fun q => q.1 h), zb_f (fun q => q.1 h)]; rfl), rfl⟩)
  · have hr : WL l ∧ bA p l ∧ 1 ≤ r ∧ r ≤ 20 := SR_b hp h
    refine zw2 (fun s i => (0 ≤ i ∧ i ≤ 3 ∧ 0 ≤ s ∧ s < pw i ∧ s = sm (fun i => zb (metP p i) * pw i) 0 (i - 0).toNat)) (fun s i => Y d μX0_meetingBits 12 [some (.ref b), some (.int (zi (bts (due p)))), some (.int (zi s)), some (.int (zi i))] [] σ P) (fun s i => (3 - i).toNat) ?_ _ _ ⟨by omega, by omega, by omega, by decide, by rw [sm_0]⟩
    intro s i hI ih
    obtain ⟨i1, i2, i3, i4, i5⟩ := hI
    refine Y.iload_n dX0_meetingBits_12 rfl ?_
    refine Y.iconst dX0_meetingBits_13 ?_
    refine Y.icmp_ge 72 dX0_meetingBits_14 (by decide) (by omega) (by omega) (fun h_14 => ?_) (fun h_14 => ?_)
    · refine Y.iload_n dX0_meetingBits_72 rfl ?_
      exact Y.iret dX0_meetingBits_73 rfl (hP _ _ ⟨zrI (by rw [i5, show i = 3 by omega]; rfl), rfl⟩)
    · have hw := pw_3 (i := i) (by omega) (by omega)
      have hmm := (hp.1 i (by omega) (by omega)).2.2.2.2.2
      refine Y.aload_n dX0_meetingBits_17 rfl ?_
      refine Y.getf dX0_meetingBits_18 flX0_49 (obA hb) rfl ?_
      refine Y.iconst dX0_meetingBits_21 ?_
      refine Y.icmp_eq 72 dX0_meetingBits_22 (by decide) (by omega) (by omega) (fun h_22 => ?_) (fun h_22 => ?_)
      · exfalso; omega
      refine Y.iload_n dX0_meetingBits_25 rfl ?_
      refine Y.iload_n dX0_meetingBits_26 rfl ?_
      refine Y.ishr_ dX0_meetingBits_27 ?_
      refine Y.iconst dX0_meetingBits_28 ?_
      refine Y.iand_ dX0_meetingBits_29 ?_
      rw [bts_i (due p) (by omega) (by omega)]
      refine Y.ifz_eq 66 dX0_meetingBits_30 (by decide) (fun h_30 => ?_) (fun h_30 => ?_)
      · have hme : ¬ metP p i := fun q => absurd q.2.1 (by assumption)
        refine Y.iinc dX0_meetingBits_66 rfl (by decide) rfl ?_
        refine Y.goto 12 dX0_meetingBits_69 (by decide) ?_
        refine ih _ _ ⟨by omega, by omega, by omega, by omega, ?_⟩ (by omega)
        rw [sm_s (by omega), ← i5]
        first
          | (rw [zb_t hme, Int.one_mul]; done)
          | (rw [zb_f hme, Int.zero_mul, Int.add_zero]; done)
      · have hdu : due p i := by assumption
        have hla := last_th hp (i := i) (by omega) (by omega) hdu.1
        have hbb := (hBV _ hla.1 hla.2.1 hla.2.2).1
        have hbv := (bv_b hp hr.1 hr.2.1 hla.1 hla.2.1 hla.2.2).1
        have hdd := (hp.1 i (by omega) (by omega)).2.2.1
        have edd : σ.1 5 i = p 2 i := by rw [← ec]; rfl
        have ebd : bndA p (i * 3 + p 5 i - 1) = (bv p l (i * 3 + p 5 i - 1)).1 := by rw [bndA, sv_s h]
        refine Y.aload_n dX0_meetingBits_33 rfl ?_
        refine Y.getf dX0_meetingBits_34 flX0_18 (obA hb) rfl ?_
        refine Y.aload_n dX0_meetingBits_37 rfl ?_
        refine Y.getf dX0_meetingBits_38 flX0_45 (obA hb) rfl ?_
        refine Y.iload_n dX0_meetingBits_41 rfl ?_
        refine Y.cVI dX0_meetingBits_42 mkX2_lastOf csX0_78 ob1 ⟨_, rfl, rfl⟩ (k_X2_lastOf ec hp (by omega) (by omega)) (by omega) rfl rfl (Nat.le_of_ble_eq_true rfl) ?_
        refine Y.iald dX0_meetingBits_45 (iaA3 hb) (by omega) (by omega) ?_
        refine Y.aload_n dX0_meetingBits_46 rfl ?_
        refine Y.getf dX0_meetingBits_47 flX0_45 (obA hb) rfl ?_
        refine Y.getf dX0_meetingBits_50 flX0_63 ob1 rfl ?_
        refine Y.iconst dX0_meetingBits_53 ?_
        refine Y.aald dX0_meetingBits_54 ra2 (by decide) (by decide) (by decide) rfl ?_
        refine Y.iload_n dX0_meetingBits_55 rfl ?_
        refine Y.iald dX0_meetingBits_56 ia5 (by omega) (by omega) ?_
        refine Y.icmp_gt 66 dX0_meetingBits_57 (by decide) (by omega) (by omega) (fun h_57 => ?_) (fun h_57 => ?_)
        · have hme : ¬ metP p i := fun q => by have := q.2.2; omega
          refine Y.iinc dX0_meetingBits_66 rfl (by decide) rfl ?_
          refine Y.goto 12 dX0_meetingBits_69 (by decide) ?_
          refine ih _ _ ⟨by omega, by omega, by omega, by omega, ?_⟩ (by omega)
          rw [sm_s (by omega), ← i5]
          first
            | (rw [zb_t hme, Int.one_mul]; done)
            | (rw [zb_f hme, Int.zero_mul, Int.add_zero]; done)
        · have hme : metP p i := ⟨(by rw [h]; exact Option.some_ne_none _), hdu, by omega⟩
          refine Y.iload_n dX0_meetingBits_60 rfl ?_
          refine Y.iconst dX0_meetingBits_61 ?_
          refine Y.iload_n dX0_meetingBits_62 rfl ?_
          refine Y.ishl1 dX0_meetingBits_63 (by omega) (by omega) ?_
          refine Y.ior1 dX0_meetingBits_64 (by omega) (by omega) (by omega) (by omega) ?_
          refine Y.istore_n dX0_meetingBits_65 (by decide) rfl ?_
          refine Y.iinc dX0_meetingBits_66 rfl (by decide) rfl ?_
          refine Y.goto 12 dX0_meetingBits_69 (by decide) ?_
          refine ih _ _ ⟨by omega, by omega, by omega, by omega, ?_⟩ (by omega)
          rw [sm_s (by omega), ← i5]
          first
            | (rw [zb_t hme, Int.one_mul]; done)
            | (rw [zb_f hme, Int.zero_mul, Int.add_zero]; done)
def alm (p : zP) (n : Int) : Prop := ∀ i : Int, 0 ≤ i → i < n → due p i → metP p i
theorem alm_s {p : zP} {n : Int} (h0 : 0 ≤ n) (h : alm p n) (h2 : due p n → metP p n) : alm p (n + 1) := fun i a c e => if q : i = n then by subst q; exact h2 e else h i a (by omega) e
theorem alm_n {p : zP} {n : Int} (h : ¬ alm p n) : ¬ alm p (n + 1) := fun q => h (fun i a c => q i a (by omega))
theorem alm_e (p : zP) : alm p 3 ↔ bts (metP p) = bts (due p) := by
  rw [bts_3, bts_3]
  constructor
  · intro h
    rw [zb_c (⟨fun q => q.2.1, h 0 (by omega) (by omega)⟩ : metP p 0 ↔ due p 0), zb_c (⟨fun q => q.2.1, h 1 (by omega) (by omega)⟩ : metP p 1 ↔ due p 1), zb_c (⟨fun q => q.2.1, h 2 (by omega) (by omega)⟩ : metP p 2 ↔ due p 2)]
  · intro h i a c hd
    have k0 : zb (metP p 0) ≤ zb (due p 0) := by
      by_cases q : metP p 0
      · rw [zb_t q, zb_t q.2.1]; omega
      · rw [zb_f q]; rcases zb_2 (due p 0) with e | e <;> omega
    have k1 : zb (metP p 1) ≤ zb (due p 1) := by
      by_cases q : metP p 1
      · rw [zb_t q, zb_t q.2.1]; omega
      · rw [zb_f q]; rcases zb_2 (due p 1) with e | e <;> omega
    have k2 : zb (metP p 2) ≤ zb (due p 2) := by
      by_cases q : metP p 2
      · rw [zb_t q, zb_t q.2.1]; omega
      · rw [zb_f q]; rcases zb_2 (due p 2) with e | e <;> omega
    rcases (show i = 0 ∨ i = 1 ∨ i = 2 by omega) with rfl | rfl | rfl
    · exact zb_1.mp (by rw [zb_t hd] at k0 h; omega)
    · exact zb_1.mp (by rw [zb_t hd] at k1 h; omega)
    · exact zb_1.mp (by rw [zb_t hd] at k2 h; omega)
noncomputable def infA (p : zP) (x : Int) (w : Nat) : Int := if w = 4 then ear p x else if w = 5 then latA p x else if w = 6 then rvs p x else p (6 + w) x
end ZG8
