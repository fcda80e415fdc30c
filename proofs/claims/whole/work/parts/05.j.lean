section ZG8
variable {σ : zS}
section RR
variable {d : Nat} {μ : zU} {pc : Nat} {L : List (Option Value)} {st : List Value} {P : Option Value → zS → Prop} {x y : Int32}
theorem Y.ishr_ (hdg : decode μ.2.1 pc = .ok (.ishr, 1)) (k : Y d μ (pc + 1) L (.int (x >>> (y &&& 31)) :: st) σ P) : Y d μ pc L (.int y :: .int x :: st) σ P := Z.ishr hdg k
theorem Y.iand_ (hdg : decode μ.2.1 pc = .ok (.iand, 1)) (k : Y d μ (pc + 1) L (.int (x &&& y) :: st) σ P) : Y d μ pc L (.int y :: .int x :: st) σ P := Z.iand hdg k
theorem Y.iushr_ (hdg : decode μ.2.1 pc = .ok (.iushr, 1)) (k : Y d μ (pc + 1) L (.int (x.toUInt32 >>> (y.toUInt32 &&& Int32.toUInt32 31)).toInt32 :: st) σ P) : Y d μ pc L (.int y :: .int x :: st) σ P := Z.iushr hdg k
end RR
theorem bts_3 (Q : Int → Prop) : bts Q = zb (Q 0) * 1 + zb (Q 1) * 2 + zb (Q 2) * 4 := by
  show 0 + zb (Q (0 + 0)) * pw (0 + 0) + zb (Q (0 + 1)) * pw (0 + 1) + zb (Q (0 + 2)) * pw (0 + 2) = _
  rw [Int.zero_add]
  rfl
theorem bts_i (Q : Int → Prop) {i : Int} (h0 : 0 ≤ i) (h3 : i < 3) : zi (bts Q) >>> (zi i &&& 31) &&& zi 1 = zi (zb (Q i)) := by
  rw [bts_3]
  rcases (show i = 0 ∨ i = 1 ∨ i = 2 by omega) with rfl | rfl | rfl <;> rcases zb_2 (Q 0) with e | e <;> rcases zb_2 (Q 1) with e2 | e2 <;> rcases zb_2 (Q 2) with e3 | e3 <;> rw [e, e2, e3] <;> decide
theorem bts_b (Q : Int → Prop) : 0 ≤ bts Q ∧ bts Q < 8 := by
  rw [bts_3]
  rcases zb_2 (Q 0) with e | e <;> rcases zb_2 (Q 1) with e2 | e2 <;> rcases zb_2 (Q 2) with e3 | e3 <;> rw [e, e2, e3] <;> decide
/-! what is told of settled answers -/
noncomputable def sv (p : zP) (f : Int → (Int → Int) → Int) : Int := match SR p with
  | none => -1
  | some q => f q.1 q.2
theorem sv_n {p : zP} (h : SR p = none) (f : Int → (Int → Int) → Int) : sv p f = -1 := by unfold sv; rw [h]
theorem sv_s {p : zP} {r : Int} {l : Int → Int} (h : SR p = some (r, l)) (f : Int → (Int → Int) → Int) : sv p f = f r l := by unfold sv; rw [h]
noncomputable def latA (p : zP) (x : Int) : Int := sv p (fun _ l => l x)
noncomputable def bndA (p : zP) (x : Int) : Int := sv p (fun _ l => (bv p l x).1)
noncomputable def rndA (p : zP) : Int := sv p (fun r _ => r)
noncomputable def wrsA (p : zP) (x w : Int) : Int := sv p (fun _ l => if w = 0 then (bv p l x).2.1 else if w = 1 then (bv p l x).2.2.1 else (bv p l x).2.2.2)
def metP (p : zP) (i : Int) : Prop := SR p ≠ none ∧ due p i ∧ bndA p (i * 3 + p 5 i - 1) ≤ p 2 i
theorem last_th {p : zP} (hp : WP p) {i : Int} (h0 : 0 ≤ i) (h3 : i < 3) (hd : 0 < p 5 i) : 0 ≤ i * 3 + p 5 i - 1 ∧ i * 3 + p 5 i - 1 < 9 ∧ th p (i * 3 + p 5 i - 1) := by
  have hm := (hp.1 i h0 h3).2.2.2.2.2
  refine ⟨by omega, by omega, ?_⟩
  unfold th
  rw [show (i * 3 + p 5 i - 1) / 3 = i by omega]
  omega
theorem bndA_b {p : zP} (hp : WP p) {x : Int} (h0 : 0 ≤ x) (h9 : x < 9) (ht : th p x) : -1 ≤ bndA p x ∧ bndA p x ≤ 746 ∧ (SR p ≠ none → 1 ≤ bndA p x) := by
  cases h : SR p with
  | none => rw [bndA, sv_n h]; exact ⟨by omega, by omega, fun q => absurd rfl q⟩
  | some q =>
    obtain ⟨r, l⟩ := q
    have hb : WL l ∧ bA p l ∧ 1 ≤ r ∧ r ≤ 20 := SR_b hp h
    have := bv_b hp hb.1 hb.2.1 h0 h9 ht
    rw [bndA, sv_s h]
    exact ⟨by omega, by omega, fun _ => this.1.1⟩
set_option maxHeartbeats 1000000 in
theorem c_X0_lateOf {b : Nat} (hb : zAb b) {p : zP} (ec : cP σ = p) (hp : WP p) (hS : SA b σ p) {x : Int} (h0 : 0 ≤ x) (h9 : x < 9) (ht : th p x) : YI 0 μX0_lateOf [.ref b, .int (zi x)] σ (latA p x) σ := by
  refine YC.of2 (by decide) (Nat.le_of_ble_eq_true rfl) (fun d P hd hP => ?_)
  rcases hS with ⟨h, e⟩ | ⟨r, l, h, e, hA, hPP, hBV⟩
  · refine Y.aload_n dX0_lateOf_0 rfl ?_
    refine Y.getf dX0_lateOf_1 flX0_49 (obA hb) rfl ?_
    refine Y.iconst dX0_lateOf_4 ?_
    refine Y.icmp_ne 12 dX0_lateOf_5 (by decide) (by omega) (by omega) (fun h_5 => ?_) (fun h_5 => ?_)
    · exfalso; omega
    refine Y.iconst dX0_lateOf_8 ?_
    refine Y.goto 18 dX0_lateOf_9 (by decide) ?_
    exact Y.iret dX0_lateOf_18 rfl (hP _ _ ⟨zrI (by rw [latA, sv_n h]), rfl⟩)
  · have hr : WL l ∧ bA p l ∧ 1 ≤ r ∧ r ≤ 20 := SR_b hp h
    refine Y.aload_n dX0_lateOf_0 rfl ?_
    refine Y.getf dX0_lateOf_1 flX0_49 (obA hb) rfl ?_
    refine Y.iconst dX0_lateOf_4 ?_
    refine Y.icmp_ne 12 dX0_lateOf_5 (by decide) (by omega) (by omega) (fun h_5 => ?_) (fun h_5 => ?_)
    rotate_left
    · exfalso; omega
    refine Y.aload_n dX0_lateOf_12 rfl ?_
    refine Y.getf dX0_lateOf_13 flX0_15 (obA hb) rfl ?_
    refine Y.iload_n dX0_lateOf_16 rfl ?_
    refine Y.iald dX0_lateOf_17 (iaA2 hb) (by omega) (by omega) ?_
    exact Y.iret dX0_lateOf_18 rfl (hP _ _ ⟨zrI (by rw [latA, sv_s h]; exact hA.late h0 h9), rfl⟩)
set_option maxHeartbeats 1000000 in
theorem c_X0_boundOf {b : Nat} (hb : zAb b) {p : zP} (ec : cP σ = p) (hp : WP p) (hS : SA b σ p) {x : Int} (h0 : 0 ≤ x) (h9 : x < 9) (ht : th p x) : YI 0 μX0_boundOf [.ref b, .int (zi x)] σ (bndA p x) σ := by
  refine YC.of2 (by decide) (Nat.le_of_ble_eq_true rfl) (fun d P hd hP => ?_)
  rcases hS with ⟨h, e⟩ | ⟨r, l, h, e, hA, hPP, hBV⟩
  · refine Y.aload_n dX0_boundOf_0 rfl ?_
    refine Y.getf dX0_boundOf_1 flX0_49 (obA hb) rfl ?_
    refine Y.iconst dX0_boundOf_4 ?_
    refine Y.icmp_ne 12 dX0_boundOf_5 (by decide) (by omega) (by omega) (fun h_5 => ?_) (fun h_5 => ?_)
    · exfalso; omega
    refine Y.iconst dX0_boundOf_8 ?_
    refine Y.goto 18 dX0_boundOf_9 (by decide) ?_
    exact Y.iret dX0_boundOf_18 rfl (hP _ _ ⟨zrI (by rw [bndA, sv_n h]), rfl⟩)
  · have hr : WL l ∧ bA p l ∧ 1 ≤ r ∧ r ≤ 20 := SR_b hp h
    refine Y.aload_n dX0_boundOf_0 rfl ?_
    refine Y.getf dX0_boundOf_1 flX0_49 (obA hb) rfl ?_
    refine Y.iconst dX0_boundOf_4 ?_
    refine Y.icmp_ne 12 dX0_boundOf_5 (by decide) (by omega) (by omega) (fun h_5 => ?_) (fun h_5 => ?_)
    rotate_left
    · exfalso; omega
    refine Y.aload_n dX0_boundOf_12 rfl ?_
    refine Y.getf dX0_boundOf_13 flX0_18 (obA hb) rfl ?_
    refine Y.iload_n dX0_boundOf_16 rfl ?_
    refine Y.iald dX0_boundOf_17 (iaA3 hb) (by omega) (by omega) ?_
    exact Y.iret dX0_boundOf_18 rfl (hP _ _ ⟨zrI (by rw [bndA, sv_s h]; exact (hBV x h0 h9 ht).1), rfl⟩)
set_option maxHeartbeats 1000000 in
theorem c_X0_worstOf {b : Nat} (hb : zAb b) {p : zP} (ec : cP σ = p) (hp : WP p) (hS : SA b σ p) {x : Int} (h0 : 0 ≤ x) (h9 : x < 9) (ht : th p x) {w : Int} (hw : zB w) : YI 0 μX0_worstOf [.ref b, .int (zi x), .int (zi w)] σ (wrsA p x w) σ := by
  refine YC.of2 (by decide) (Nat.le_of_ble_eq_true rfl) (fun d P hd hP => ?_)
  rcases hS with ⟨h, e⟩ | ⟨r, l, h, e, hA, hPP, hBV⟩
  · refine Y.aload_n dX0_worstOf_0 rfl ?_
    refine Y.getf dX0_worstOf_1 flX0_49 (obA hb) rfl ?_
    refine Y.iconst dX0_worstOf_4 ?_
    refine Y.icmp_ne 10 dX0_worstOf_5 (by decide) (by omega) (by omega) (fun h_5 => ?_) (fun h_5 => ?_)
    · exfalso; omega
    refine Y.iconst dX0_worstOf_8 ?_
    exact Y.iret dX0_worstOf_9 rfl (hP _ _ ⟨zrI (by rw [wrsA, sv_n h]), rfl⟩)
  · have hr : WL l ∧ bA p l ∧ 1 ≤ r ∧ r ≤ 20 := SR_b hp h
    obtain ⟨w1, w2, w3, w4⟩ := hBV x h0 h9 ht
    refine Y.aload_n dX0_worstOf_0 rfl ?_
    refine Y.getf dX0_worstOf_1 flX0_49 (obA hb) rfl ?_
    refine Y.iconst dX0_worstOf_4 ?_
    refine Y.icmp_ne 10 dX0_worstOf_5 (by decide) (by omega) (by omega) (fun h_5 => ?_) (fun h_5 => ?_)
    rotate_left
    · exfalso; omega
    refine Y.iload_n dX0_worstOf_10 rfl ?_
    refine Y.if_ne 23 dX0_worstOf_11 (by decide) (by omega) (fun h_11 => ?_) (fun h_11 => ?_)
    · refine Y.iload_n dX0_worstOf_23 rfl ?_
      refine Y.iconst dX0_worstOf_24 ?_
      refine Y.icmp_ne 37 dX0_worstOf_25 (by decide) (by omega) (by omega) (fun h_25 => ?_) (fun h_25 => ?_)
      · refine Y.aload_n dX0_worstOf_37 rfl ?_
        refine Y.getf dX0_worstOf_38 flX0_27 (obA hb) rfl ?_
        refine Y.iload_n dX0_worstOf_41 rfl ?_
        refine Y.iald dX0_worstOf_42 (iaA6 hb) (by omega) (by omega) ?_
        exact Y.iret dX0_worstOf_43 rfl (hP _ _ ⟨zrI (by rw [wrsA, sv_s h]; first | (rw [if_pos (by omega)]; exact (hBV x h0 h9 ht).2.1) | (rw [if_neg (by omega), if_pos (by omega)]; exact (hBV x h0 h9 ht).2.2.1) | (rw [if_neg (by omega), if_neg (by omega)]; exact (hBV x h0 h9 ht).2.2.2)), rfl⟩)
      · refine Y.aload_n dX0_worstOf_28 rfl ?_
        refine Y.getf dX0_worstOf_29 flX0_24 (obA hb) rfl ?_
        refine Y.iload_n dX0_worstOf_32 rfl ?_
        refine Y.iald dX0_worstOf_33 (iaA5 hb) (by omega) (by omega) ?_
        refine Y.goto 43 dX0_worstOf_34 (by decide) ?_
        exact Y.iret dX0_worstOf_43 rfl (hP _ _ ⟨zrI (by rw [wrsA, sv_s h]; first | (rw [if_pos (by omega)]; exact (hBV x h0 h9 ht).2.1) | (rw [if_neg (by omega), if_pos (by omega)]; exact (hBV x h0 h9 ht).2.2.1) | (rw [if_neg (by omega), if_neg (by omega)]; exact (hBV x h0 h9 ht).2.2.2)), rfl⟩)
    · refine Y.aload_n dX0_worstOf_14 rfl ?_
      refine Y.getf dX0_worstOf_15 flX0_21 (obA hb) rfl ?_
      refine Y.iload_n dX0_worstOf_18 rfl ?_
      refine Y.iald dX0_worstOf_19 (iaA4 hb) (by omega) (by omega) ?_
      refine Y.goto 43 dX0_worstOf_20 (by decide) ?_
      exact Y.iret dX0_worstOf_43 rfl (hP _ _ ⟨zrI (by rw [wrsA, sv_s h]; first | (rw [if_pos (by omega)]; exact (hBV x h0 h9 ht).2.1) | (rw [if_neg (by omega), if_pos (by omega)]; exact (hBV x h0 h9 ht).2.2.1) | (rw [if_neg (by omega), if_neg (by omega)]; exact (hBV x h0 h9 ht).2.2.2)), rfl⟩)
set_option maxHeartbeats 1000000 in
theorem c_X0_meetingBits {b : Nat} (hb : zAb b) {p : zP} (ec : cP σ = p) (hp : WP p) (hS : SA b σ p) : YI 1 μX0_meetingBits [.ref b] σ (bts (metP p)) σ := by
  refine YC.of2 (by decide) (Nat.le_of_ble_eq_true rfl) (fun d P hd hP => ?_)
  have hdb := bts_b (due p)
  refine Y.aload_n dX0_meetingBits_0 rfl ?_
  refine Y.getf dX0_meetingBits_1 flX0_45 (obA hb) rfl ?_
  refine Y.cVI dX0_meetingBits_4 mkX2_dueBits csX0_74 ob1 ⟨_, rfl, rfl⟩ (k_X2_dueBits ec hp ) (by omega) rfl rfl (Nat.le_of_ble_eq_true rfl) ?_
  refine Y.istore_n dX0_meetingBits_7 (by decide) rfl ?_
  refine Y.iconst dX0_meetingBits_8 ?_
  refine Y.istore_n dX0_meetingBits_9 (by decide) rfl ?_
  refine Y.iconst dX0_meetingBits_10 ?_
  refine Y.istore_n dX0_meetingBits_11 (by decide) rfl ?_
  rcases hS with ⟨h, e⟩ | ⟨r, l, h, e, hA, hPP, hBV⟩
  · refine Y.iload_n dX0_meetingBits_12 rfl ?_
    refine Y.iconst dX0_meetingBits_13 ?_
    refine Y.icmp_ge 72 dX0_meetingBits_14 (by decide) (by omega) (by omega) (fun h_14 => ?_) (fun h_14 => ?_)
    · exfalso; omega
    refine Y.aload_n dX0_meetingBits_17 rfl ?_
    refine Y.getf dX0_meetingBits_18 flX0_49 (obA hb) rfl ?_
    refine Y.iconst dX0_meetingBits_21 ?_
    refine Y.icmp_eq 72 dX0_meetingBits_22 (by decide) (by omega) (by omega) (fun h_22 => ?_) (fun h_22 => ?_)
    rotate_left
    · exfalso; omega
    refine Y.iload_n dX0_meetingBits_72 rfl ?_
    exact Y.iret dX0_meetingBits_73 rfl (hP _ _ ⟨zrI (by rw [bts_3, zb_f (fun q => q.1 h), zb_f (fun q => q.1 h), zb_f (fun q => q.1 h)]; rfl), rfl⟩)
  · have hr : WL l ∧ bA p l ∧ 1 ≤ r ∧ r ≤ 20 := SR_b hp h
    refine zw2 (fun s i => (0 ≤ i ∧ i ≤ 3 ∧ 0 ≤ s ∧ s < pw i ∧ s = sm (fun i => zb (metP p i) * pw i) 0 (i - 0).toNat)) (fun s i => Y d μX0_meetingBits 12 [some (.ref b), some (.int (zi (bts (due p)))), some (.int (zi s)), some (.int (zi i))] [] σ P) (fun s i => (3 - i).toNat) ?_ _ _ ⟨by omega, by omega, by omega, by decide, by rw [sm_0]⟩
    intro s i hI ih
    obtain ⟨i1, i2, i3, i4, i5⟩ := hI
    refine Y.iload_n dX0_meetingBits_12 rfl ?_
    refine Y.iconst dX0_meetingBits_13 ?_
    refine Y.icmp_ge 72 dX0_meetingBits_14 (by decide) (by omega) (by omega) (fun h_14 => ?_) (fun h_14 => ?_)
    · refine Y.iload_n dX0_meetingBits_72 rfl ?_
      exact Y.iret dX0_meetingBits_73 rfl (hP _ _ ⟨zrI (by rw [i5, show i = 3 by omega]; rfl), rfl⟩)
    · have hw := pw_3 (i := i) (by omega) (by omega)
      have hmm := (hp.1 i (by omega) (by omega)).2.2.2.2.2
      refine Y.aload_n dX0_meetingBits_17 rfl ?_
      refine Y.getf dX0_meetingBits_18 flX0_49 (obA hb) rfl ?_
      refine Y.iconst dX0_meetingBits_21 ?_
      refine Y.icmp_eq 72 dX0_meetingBits_22 (by decide) (by omega) (by omega) (fun h_22 => ?_) (fun h_22 => ?_)
      · exfalso; omega
      refine Y.iload_n dX0_meetingBits_25 rfl ?_
      refine Y.iload_n dX0_meetingBits_26 rfl ?_
      refine Y.ishr_ dX0_meetingBits_27 ?_
      refine Y.iconst dX0_meetingBits_28 ?_
      refine Y.iand_ dX0_meetingBits_29 ?_
      rw [bts_i (due p) (by omega) (by omega)]
      refine Y.ifz_eq 66 dX0_meetingBits_30 (by decide) (fun h_30 => ?_) (fun h_30 => ?_)
      · have hme : ¬ metP p i := fun q => absurd q.2.1 (by assumption)
        refine Y.iinc dX0_meetingBits_66 rfl (by decide) rfl ?_
        refine Y.goto 12 dX0_meetingBits_69 (by decide) ?_
        refine ih _ _ ⟨by omega, by omega, by omega, by omega, ?_⟩ (by omega)
        rw [sm_s (by omega), ← i5]
        first
          | (rw [zb_t hme, Int.one_mul]; done)
          | (rw [zb_f hme, Int.zero_mul, Int.add_zero]; done)
      · have hdu : due p i := by assumption
        have hla := last_th hp (i := i) (by omega) (by omega) hdu.1
        have hbb := (hBV _ hla.1 hla.2.1 hla.2.2).1
        have hbv := (bv_b hp hr.1 hr.2.1 hla.1 hla.2.1 hla.2.2).1
        have hdd := (hp.1 i (by omega) (by omega)).2.2.1
        have edd : σ.1 5 i = p 2 i := by rw [← ec]; rfl
        have ebd : bndA p (i * 3 + p 5 i - 1) = (bv p l (i * 3 + p 5 i - 1)).1 := by rw [bndA, sv_s h]
        refine Y.aload_n dX0_meetingBits_33 rfl ?_
        refine Y.getf dX0_meetingBits_34 flX0_18 (obA hb) rfl ?_
        refine Y.aload_n dX0_meetingBits_37 rfl ?_
        refine Y.getf dX0_meetingBits_38 flX0_45 (obA hb) rfl ?_
        refine Y.iload_n dX0_meetingBits_41 rfl ?_
        refine Y.cVI dX0_meetingBits_42 mkX2_lastOf csX0_78 ob1 ⟨_, rfl, rfl⟩ (k_X2_lastOf ec hp (by omega) (by omega)) (by omega) rfl rfl (Nat.le_of_ble_eq_true rfl) ?_
        refine Y.iald dX0_meetingBits_45 (iaA3 hb) (by omega) (by omega) ?_
        refine Y.aload_n dX0_meetingBits_46 rfl ?_
        refine Y.getf dX0_meetingBits_47 flX0_45 (obA hb) rfl ?_
        refine Y.getf dX0_meetingBits_50 flX0_63 ob1 rfl ?_
        refine Y.iconst dX0_meetingBits_53 ?_
        refine Y.aald dX0_meetingBits_54 ra2 (by decide) (by decide) (by decide) rfl ?_
        refine Y.iload_n dX0_meetingBits_55 rfl ?_
        refine Y.iald dX0_meetingBits_56 ia5 (by omega) (by omega) ?_
        refine Y.icmp_gt 66 dX0_meetingBits_57 (by decide) (by omega) (by omega) (fun h_57 => ?_) (fun h_57 => ?_)
        · have hme : ¬ metP p i := fun q => by have := q.2.2; omega
          refine Y.iinc dX0_meetingBits_66 rfl (by decide) rfl ?_
          refine Y.goto 12 dX0_meetingBits_69 (by decide) ?_
          refine ih _ _ ⟨by omega, by omega, by omega, by omega, ?_⟩ (by omega)
          rw [sm_s (by omega), ← i5]
          first
            | (rw [zb_t hme, Int.one_mul]; done)
            | (rw [zb_f hme, Int.zero_mul, Int.add_zero]; done)
        · have hme : metP p i := ⟨(by rw [h]; exact Option.some_ne_none _), hdu, by omega⟩
          refine Y.iload_n dX0_meetingBits_60 rfl ?_
          refine Y.iconst dX0_meetingBits_61 ?_
          refine Y.iload_n dX0_meetingBits_62 rfl ?_
          refine Y.ishl1 dX0_meetingBits_63 (by omega) (by omega) ?_
          refine Y.ior1 dX0_meetingBits_64 (by omega) (by omega) (by omega) (by omega) ?_
          refine Y.istore_n dX0_meetingBits_65 (by decide) rfl ?_
          refine Y.iinc dX0_meetingBits_66 rfl (by decide) rfl ?_
          refine Y.goto 12 dX0_meetingBits_69 (by decide) ?_
          refine ih _ _ ⟨by omega, by omega, by omega, by omega, ?_⟩ (by omega)
          rw [sm_s (by omega), ← i5]
          first
            | (rw [zb_t hme, Int.one_mul]; done)
            | (rw [zb_f hme, Int.zero_mul, Int.add_zero]; done)
set_option maxHeartbeats 1000000 in
theorem c_X5_boundBy {p : zP} (ec : mP σ = p) (hp : WP p) (hS : MS σ p) {x : Int} (h0 : 0 ≤ x) (h9 : x < 9) (ht : th p x) : YI 0 μX5_boundBy [.ref 67, .int (zi x)] σ (bndA p x) σ := by
  refine YC.of2 (by decide) (Nat.le_of_ble_eq_true rfl) (fun d P hd hP => ?_)
  rcases hS with ⟨h, e⟩ | ⟨r, l, h, e, e2, hA, hMV⟩
  · refine Y.aload_n dX5_boundBy_0 rfl ?_
    refine Y.getf dX5_boundBy_1 flX5_232 ob67 rfl ?_
    refine Y.if_eq 16 dX5_boundBy_4 (by decide) (by omega) (fun h_4 => ?_) (fun h_4 => ?_)
    rotate_left
    · exfalso; omega
    refine Y.iconst dX5_boundBy_16 ?_
    exact Y.iret dX5_boundBy_17 rfl (hP _ _ ⟨zrI (by rw [bndA, sv_n h]), rfl⟩)
  · have hr : WL l ∧ bA p l ∧ 1 ≤ r ∧ r ≤ 20 := SR_b hp h
    refine Y.aload_n dX5_boundBy_0 rfl ?_
    refine Y.getf dX5_boundBy_1 flX5_232 ob67 rfl ?_
    refine Y.if_eq 16 dX5_boundBy_4 (by decide) (by omega) (fun h_4 => ?_) (fun h_4 => ?_)
    · exfalso; omega
    refine Y.aload_n dX5_boundBy_7 rfl ?_
    refine Y.getf dX5_boundBy_8 flX5_59 ob67 rfl ?_
    refine Y.iload_n dX5_boundBy_11 rfl ?_
    refine Y.iald dX5_boundBy_12 ia84 (by omega) (by omega) ?_
    refine Y.goto 17 dX5_boundBy_13 (by decide) ?_
    exact Y.iret dX5_boundBy_17 rfl (hP _ _ ⟨zrI (by rw [bndA, sv_s h]; exact (hMV x h0 h9 ht).1), rfl⟩)
set_option maxHeartbeats 1000000 in
theorem c_X5_roundsNow {p : zP} (ec : mP σ = p) (hp : WP p) (hS : MS σ p) : YI 0 μX5_roundsNow [.ref 67] σ (rndA p) σ := by
  refine YC.of2 (by decide) (Nat.le_of_ble_eq_true rfl) (fun d P hd hP => ?_)
  rcases hS with ⟨h, e⟩ | ⟨r, l, h, e, e2, hA, hMV⟩
  · refine Y.aload_n dX5_roundsNow_0 rfl ?_
    refine Y.getf dX5_roundsNow_1 flX5_232 ob67 rfl ?_
    refine Y.if_eq 14 dX5_roundsNow_4 (by decide) (by omega) (fun h_4 => ?_) (fun h_4 => ?_)
    rotate_left
    · exfalso; omega
    refine Y.iconst dX5_roundsNow_14 ?_
    exact Y.iret dX5_roundsNow_15 rfl (hP _ _ ⟨zrI (by rw [rndA, sv_n h]), rfl⟩)
  · have hr : WL l ∧ bA p l ∧ 1 ≤ r ∧ r ≤ 20 := SR_b hp h
    refine Y.aload_n dX5_roundsNow_0 rfl ?_
    refine Y.getf dX5_roundsNow_1 flX5_232 ob67 rfl ?_
    refine Y.if_eq 14 dX5_roundsNow_4 (by decide) (by omega) (fun h_4 => ?_) (fun h_4 => ?_)
    · exfalso; omega
    refine Y.aload_n dX5_roundsNow_7 rfl ?_
    refine Y.getf dX5_roundsNow_8 flX5_240 ob67 rfl ?_
    refine Y.goto 15 dX5_roundsNow_11 (by decide) ?_
    exact Y.iret dX5_roundsNow_15 rfl (hP _ _ ⟨zrI (by rw [rndA, sv_s h]; exact e2), rfl⟩)
set_option maxHeartbeats 1000000 in
theorem c_X5_worstBy {p : zP} (ec : mP σ = p) (hp : WP p) (hS : MS σ p) {x : Int} (h0 : 0 ≤ x) (h9 : x < 9) (ht : th p x) {w : Int} (hw : zB w) : YI 0 μX5_worstBy [.ref 67, .int (zi x), .int (zi w)] σ (wrsA p x w) σ := by
  refine YC.of2 (by decide) (Nat.le_of_ble_eq_true rfl) (fun d P hd hP => ?_)
  rcases hS with ⟨h, e⟩ | ⟨r, l, h, e, e2, hA, hMV⟩
  · refine Y.aload_n dX5_worstBy_0 rfl ?_
    refine Y.getf dX5_worstBy_1 flX5_232 ob67 rfl ?_
    refine Y.if_ne 11 dX5_worstBy_4 (by decide) (by omega) (fun h_4 => ?_) (fun h_4 => ?_)
    · exfalso; omega
    refine Y.iconst dX5_worstBy_7 ?_
    refine Y.goto 44 dX5_worstBy_8 (by decide) ?_
    exact Y.iret dX5_worstBy_44 rfl (hP _ _ ⟨zrI (by rw [wrsA, sv_n h]), rfl⟩)
  · have hr : WL l ∧ bA p l ∧ 1 ≤ r ∧ r ≤ 20 := SR_b hp h
    refine Y.aload_n dX5_worstBy_0 rfl ?_
    refine Y.getf dX5_worstBy_1 flX5_232 ob67 rfl ?_
    refine Y.if_ne 11 dX5_worstBy_4 (by decide) (by omega) (fun h_4 => ?_) (fun h_4 => ?_)
    rotate_left
    · exfalso; omega
    refine Y.iload_n dX5_worstBy_11 rfl ?_
    refine Y.if_ne 24 dX5_worstBy_12 (by decide) (by omega) (fun h_12 => ?_) (fun h_12 => ?_)
    · refine Y.iload_n dX5_worstBy_24 rfl ?_
      refine Y.iconst dX5_worstBy_25 ?_
      refine Y.icmp_ne 38 dX5_worstBy_26 (by decide) (by omega) (by omega) (fun h_26 => ?_) (fun h_26 => ?_)
      · refine Y.aload_n dX5_worstBy_38 rfl ?_
        refine Y.getf dX5_worstBy_39 flX5_68 ob67 rfl ?_
        refine Y.iload_n dX5_worstBy_42 rfl ?_
        refine Y.iald dX5_worstBy_43 ia87 (by omega) (by omega) ?_
        exact Y.iret dX5_worstBy_44 rfl (hP _ _ ⟨zrI (by rw [wrsA, sv_s h]; first | (rw [if_pos (by omega)]; exact (hMV x h0 h9 ht).2.1) | (rw [if_neg (by omega), if_pos (by omega)]; exact (hMV x h0 h9 ht).2.2.1) | (rw [if_neg (by omega), if_neg (by omega)]; exact (hMV x h0 h9 ht).2.2.2)), rfl⟩)
      · refine Y.aload_n dX5_worstBy_29 rfl ?_
        refine Y.getf dX5_worstBy_30 flX5_65 ob67 rfl ?_
        refine Y.iload_n dX5_worstBy_33 rfl ?_
        refine Y.iald dX5_worstBy_34 ia86 (by omega) (by omega) ?_
        refine Y.goto 44 dX5_worstBy_35 (by decide) ?_
        exact Y.iret dX5_worstBy_44 rfl (hP _ _ ⟨zrI (by rw [wrsA, sv_s h]; first | (rw [if_pos (by omega)]; exact (hMV x h0 h9 ht).2.1) | (rw [if_neg (by omega), if_pos (by omega)]; exact (hMV x h0 h9 ht).2.2.1) | (rw [if_neg (by omega), if_neg (by omega)]; exact (hMV x h0 h9 ht).2.2.2)), rfl⟩)
    · refine Y.aload_n dX5_worstBy_15 rfl ?_
      refine Y.getf dX5_worstBy_16 flX5_62 ob67 rfl ?_
      refine Y.iload_n dX5_worstBy_19 rfl ?_
      refine Y.iald dX5_worstBy_20 ia85 (by omega) (by omega) ?_
      refine Y.goto 44 dX5_worstBy_21 (by decide) ?_
      exact Y.iret dX5_worstBy_44 rfl (hP _ _ ⟨zrI (by rw [wrsA, sv_s h]; first | (rw [if_pos (by omega)]; exact (hMV x h0 h9 ht).2.1) | (rw [if_neg (by omega), if_pos (by omega)]; exact (hMV x h0 h9 ht).2.2.1) | (rw [if_neg (by omega), if_neg (by omega)]; exact (hMV x h0 h9 ht).2.2.2)), rfl⟩)
set_option maxHeartbeats 1000000 in
theorem c_X5_isAsked {p : zP} (ec : mP σ = p) (hp : WP p) {i : Int} (i0 : 0 ≤ i) (i3 : i < 3) : YI 0 μX5_isAsked [.ref 67, .int (zi i)] σ (zb (due p i)) σ := by
  refine YC.of2 (by decide) (Nat.le_of_ble_eq_true rfl) (fun d P hd hP => ?_)
  have hmm := (hp.1 i i0 i3).2.2.2.2.2
  have hdd := (hp.1 i i0 i3).2.2.1
  have edd : σ.1 74 i = p 2 i := by rw [← ec]; rfl
  have emm : σ.1 77 i = p 5 i := by rw [← ec]; rfl
  refine Y.aload_n dX5_isAsked_0 rfl ?_
  refine Y.getf dX5_isAsked_1 flX5_38 ob67 rfl ?_
  refine Y.iload_n dX5_isAsked_4 rfl ?_
  refine Y.iald dX5_isAsked_5 ia77 (by omega) (by omega) ?_
  refine Y.if_le 22 dX5_isAsked_6 (by decide) (by omega) (fun h_6 => ?_) (fun h_6 => ?_)
  · refine Y.iconst dX5_isAsked_22 ?_
    exact Y.zret dX5_isAsked_23 rfl (by decide) (hP _ _ ⟨zrI (by first | exact (zb_t ⟨by omega, by omega⟩).symm | exact (zb_f (fun q => by have q1 := q.1; have q2 := q.2; omega)).symm), rfl⟩)
  · refine Y.aload_n dX5_isAsked_9 rfl ?_
    refine Y.getf dX5_isAsked_10 flX5_29 ob67 rfl ?_
    refine Y.iload_n dX5_isAsked_13 rfl ?_
    refine Y.iald dX5_isAsked_14 ia74 (by omega) (by omega) ?_
    refine Y.if_le 22 dX5_isAsked_15 (by decide) (by omega) (fun h_15 => ?_) (fun h_15 => ?_)
    · refine Y.iconst dX5_isAsked_22 ?_
      exact Y.zret dX5_isAsked_23 rfl (by decide) (hP _ _ ⟨zrI (by first | exact (zb_t ⟨by omega, by omega⟩).symm | exact (zb_f (fun q => by have q1 := q.1; have q2 := q.2; omega)).symm), rfl⟩)
    · refine Y.iconst dX5_isAsked_18 ?_
      refine Y.goto 23 dX5_isAsked_19 (by decide) ?_
      exact Y.zret dX5_isAsked_23 rfl (by decide) (hP _ _ ⟨zrI (by first | exact (zb_t ⟨by omega, by omega⟩).symm | exact (zb_f (fun q => by have q1 := q.1; have q2 := q.2; omega)).symm), rfl⟩)
set_option maxHeartbeats 1000000 in
theorem c_X5_isMet {p : zP} (ec : mP σ = p) (hp : WP p) (hS : MS σ p) {i : Int} (i0 : 0 ≤ i) (i3 : i < 3) : YI 1 μX5_isMet [.ref 67, .int (zi i)] σ (zb (metP p i)) σ := by
  refine YC.of2 (by decide) (Nat.le_of_ble_eq_true rfl) (fun d P hd hP => ?_)
  have hmm := (hp.1 i i0 i3).2.2.2.2.2
  have hdd := (hp.1 i i0 i3).2.2.1
  have edd : σ.1 74 i = p 2 i := by rw [← ec]; rfl
  have emm : σ.1 77 i = p 5 i := by rw [← ec]; rfl
  rcases hS with ⟨h, e⟩ | ⟨r, l, h, e, e2, hA, hMV⟩
  · refine Y.aload_n dX5_isMet_0 rfl ?_
    refine Y.iload_n dX5_isMet_1 rfl ?_
    refine Y.cVI dX5_isMet_2 mkX5_isAsked csX5_279 ob67 ⟨_, rfl, rfl⟩ (c_X5_isAsked ec hp i0 i3) (by omega) rfl rfl (Nat.le_of_ble_eq_true rfl) ?_
    refine Y.ifz_eq 45 dX5_isMet_5 (by decide) (fun h_5 => ?_) (fun h_5 => ?_)
    · refine Y.iconst dX5_isMet_45 ?_
      exact Y.zret dX5_isMet_46 rfl (by decide) (hP _ _ ⟨zrI (by exact (zb_f (fun q => q.1 h)).symm), rfl⟩)
    · refine Y.aload_n dX5_isMet_8 rfl ?_
      refine Y.getf dX5_isMet_9 flX5_232 ob67 rfl ?_
      refine Y.if_eq 45 dX5_isMet_12 (by decide) (by omega) (fun h_12 => ?_) (fun h_12 => ?_)
      rotate_left
      · exfalso; omega
      refine Y.iconst dX5_isMet_45 ?_
      exact Y.zret dX5_isMet_46 rfl (by decide) (hP _ _ ⟨zrI (by exact (zb_f (fun q => q.1 h)).symm), rfl⟩)
  · have hr : WL l ∧ bA p l ∧ 1 ≤ r ∧ r ≤ 20 := SR_b hp h
    have hl' : due p i → σ.1 84 (3 * i + σ.1 77 i - 1) = (bv p l (i * 3 + p 5 i - 1)).1 ∧ 1 ≤ (bv p l (i * 3 + p 5 i - 1)).1 ∧ (bv p l (i * 3 + p 5 i - 1)).1 ≤ 746 := fun hdu => by
      have hla := last_th hp i0 i3 hdu.1
      rw [show 3 * i + σ.1 77 i - 1 = i * 3 + p 5 i - 1 by omega]
      exact ⟨(hMV _ hla.1 hla.2.1 hla.2.2).1, (bv_b hp hr.1 hr.2.1 hla.1 hla.2.1 hla.2.2).1⟩
    have ebd : bndA p (i * 3 + p 5 i - 1) = (bv p l (i * 3 + p 5 i - 1)).1 := by rw [bndA, sv_s h]
    refine Y.aload_n dX5_isMet_0 rfl ?_
    refine Y.iload_n dX5_isMet_1 rfl ?_
    refine Y.cVI dX5_isMet_2 mkX5_isAsked csX5_279 ob67 ⟨_, rfl, rfl⟩ (c_X5_isAsked ec hp i0 i3) (by omega) rfl rfl (Nat.le_of_ble_eq_true rfl) ?_
    refine Y.ifz_eq 45 dX5_isMet_5 (by decide) (fun h_5 => ?_) (fun h_5 => ?_)
    · refine Y.iconst dX5_isMet_45 ?_
      exact Y.zret dX5_isMet_46 rfl (by decide) (hP _ _ ⟨zrI (by first | exact (zb_t ⟨(by rw [h]; exact Option.some_ne_none _), by assumption, by omega⟩).symm | exact (zb_f (fun q => by have q3 := q.2.2; omega)).symm | exact (zb_f (fun q => absurd q.2.1 (by assumption))).symm), rfl⟩)
    · have hl2 := hl' (by assumption)
      have hdu2 : due p i := by assumption
      have hdm := hdu2.1
      refine Y.aload_n dX5_isMet_8 rfl ?_
      refine Y.getf dX5_isMet_9 flX5_232 ob67 rfl ?_
      refine Y.if_eq 45 dX5_isMet_12 (by decide) (by omega) (fun h_12 => ?_) (fun h_12 => ?_)
      · exfalso; omega
      refine Y.aload_n dX5_isMet_15 rfl ?_
      refine Y.getf dX5_isMet_16 flX5_59 ob67 rfl ?_
      refine Y.iconst dX5_isMet_19 ?_
      refine Y.iload_n dX5_isMet_20 rfl ?_
      refine Y.imul dX5_isMet_21 ?_
      refine Y.aload_n dX5_isMet_22 rfl ?_
      refine Y.getf dX5_isMet_23 flX5_38 ob67 rfl ?_
      refine Y.iload_n dX5_isMet_26 rfl ?_
      refine Y.iald dX5_isMet_27 ia77 (by omega) (by omega) ?_
      refine Y.iadd dX5_isMet_28 ?_
      refine Y.iconst dX5_isMet_29 ?_
      refine Y.isub dX5_isMet_30 ?_
      refine Y.iald dX5_isMet_31 ia84 (by omega) (by omega) ?_
      refine Y.aload_n dX5_isMet_32 rfl ?_
      refine Y.getf dX5_isMet_33 flX5_29 ob67 rfl ?_
      refine Y.iload_n dX5_isMet_36 rfl ?_
      refine Y.iald dX5_isMet_37 ia74 (by omega) (by omega) ?_
      refine Y.icmp_gt 45 dX5_isMet_38 (by decide) (by omega) (by omega) (fun h_38 => ?_) (fun h_38 => ?_)
      · refine Y.iconst dX5_isMet_45 ?_
        exact Y.zret dX5_isMet_46 rfl (by decide) (hP _ _ ⟨zrI (by first | exact (zb_t ⟨(by rw [h]; exact Option.some_ne_none _), by assumption, by omega⟩).symm | exact (zb_f (fun q => by have q3 := q.2.2; omega)).symm | exact (zb_f (fun q => absurd q.2.1 (by assumption))).symm), rfl⟩)
      · refine Y.iconst dX5_isMet_41 ?_
        refine Y.goto 46 dX5_isMet_42 (by decide) ?_
        exact Y.zret dX5_isMet_46 rfl (by decide) (hP _ _ ⟨zrI (by first | exact (zb_t ⟨(by rw [h]; exact Option.some_ne_none _), by assumption, by omega⟩).symm | exact (zb_f (fun q => by have q3 := q.2.2; omega)).symm | exact (zb_f (fun q => absurd q.2.1 (by assumption))).symm), rfl⟩)
set_option maxHeartbeats 1000000 in
theorem c_X5_meetsNow {p : zP} (ec : mP σ = p) (hp : WP p) (hS : MS σ p) : YI 2 μX5_meetsNow [.ref 67] σ (bts (metP p)) σ := by
  refine YC.of2 (by decide) (Nat.le_of_ble_eq_true rfl) (fun d P hd hP => ?_)
  refine Y.iconst dX5_meetsNow_0 ?_
  refine Y.istore_n dX5_meetsNow_1 (by decide) rfl ?_
  refine Y.iconst dX5_meetsNow_2 ?_
  refine Y.istore_n dX5_meetsNow_3 (by decide) rfl ?_
  refine zw2 (fun s i => (0 ≤ i ∧ i ≤ 3 ∧ 0 ≤ s ∧ s < pw i ∧ s = sm (fun i => zb (metP p i) * pw i) 0 (i - 0).toNat)) (fun s i => Y d μX5_meetsNow 4 [some (.ref 67), some (.int (zi s)), some (.int (zi i))] [] σ P) (fun s i => (3 - i).toNat) ?_ _ _ ⟨by omega, by omega, by omega, by decide, by rw [sm_0]⟩
  intro s i hI ih
  obtain ⟨i1, i2, i3, i4, i5⟩ := hI
  refine Y.iload_n dX5_meetsNow_4 rfl ?_
  refine Y.iconst dX5_meetsNow_5 ?_
  refine Y.icmp_ge 33 dX5_meetsNow_6 (by decide) (by omega) (by omega) (fun h_6 => ?_) (fun h_6 => ?_)
  · refine Y.iload_n dX5_meetsNow_33 rfl ?_
    exact Y.iret dX5_meetsNow_34 rfl (hP _ _ ⟨zrI (by rw [i5, show i = 3 by omega]; rfl), rfl⟩)
  · have hw := pw_3 (i := i) (by omega) (by omega)
    refine Y.iload_n dX5_meetsNow_9 rfl ?_
    refine Y.aload_n dX5_meetsNow_10 rfl ?_
    refine Y.iload_n dX5_meetsNow_11 rfl ?_
    refine Y.cVI dX5_meetsNow_12 mkX5_isMet csX5_282 ob67 ⟨_, rfl, rfl⟩ (c_X5_isMet ec hp hS (by omega) (by omega)) (by omega) rfl rfl (Nat.le_of_ble_eq_true rfl) ?_
    refine Y.ifz_eq 24 dX5_meetsNow_15 (by decide) (fun h_15 => ?_) (fun h_15 => ?_)
    · refine Y.iconst dX5_meetsNow_24 ?_
      refine Y.ior0 dX5_meetsNow_25 (by omega) (by omega) ?_
      refine Y.istore_n dX5_meetsNow_26 (by decide) rfl ?_
      refine Y.iinc dX5_meetsNow_27 rfl (by decide) rfl ?_
      refine Y.goto 4 dX5_meetsNow_30 (by decide) ?_
      refine ih _ _ ⟨by omega, by omega, by omega, by omega, ?_⟩ (by omega)
      rw [sm_s (by omega), ← i5]
      first
        | (rw [zb_t (by assumption), Int.one_mul]; done)
        | (rw [zb_f (by assumption), Int.zero_mul, Int.add_zero]; done)
    · refine Y.iconst dX5_meetsNow_18 ?_
      refine Y.iload_n dX5_meetsNow_19 rfl ?_
      refine Y.ishl1 dX5_meetsNow_20 (by omega) (by omega) ?_
      refine Y.goto 25 dX5_meetsNow_21 (by decide) ?_
      refine Y.ior1 dX5_meetsNow_25 (by omega) (by omega) (by omega) (by omega) ?_
      refine Y.istore_n dX5_meetsNow_26 (by decide) rfl ?_
      refine Y.iinc dX5_meetsNow_27 rfl (by decide) rfl ?_
      refine Y.goto 4 dX5_meetsNow_30 (by decide) ?_
      refine ih _ _ ⟨by omega, by omega, by omega, by omega, ?_⟩ (by omega)
      rw [sm_s (by omega), ← i5]
      first
        | (rw [zb_t (by assumption), Int.one_mul]; done)
        | (rw [zb_f (by assumption), Int.zero_mul, Int.add_zero]; done)
def alm (p : zP) (n : Int) : Prop := ∀ i : Int, 0 ≤ i → i < n → due p i → metP p i
theorem alm_s {p : zP} {n : Int} (h0 : 0 ≤ n) (h : alm p n) (h2 : due p n → metP p n) : alm p (n + 1) := fun i a c e => if q : i = n then by subst q; exact h2 e else h i a (by omega) e
theorem alm_n {p : zP} {n : Int} (h : ¬ alm p n) : ¬ alm p (n + 1) := fun q => h (fun i a c => q i a (by omega))
theorem alm_e (p : zP) : alm p 3 ↔ bts (metP p) = bts (due p) := by
  rw [bts_3, bts_3]
  constructor
  · intro h
    rw [zb_c (⟨fun q => q.2.1, h 0 (by omega) (by omega)⟩ : metP p 0 ↔ due p 0), zb_c (⟨fun q => q.2.1, h 1 (by omega) (by omega)⟩ : metP p 1 ↔ due p 1), zb_c (⟨fun q => q.2.1, h 2 (by omega) (by omega)⟩ : metP p 2 ↔ due p 2)]
  · intro h i a c hd
    have k0 : zb (metP p 0) ≤ zb (due p 0) := by
      by_cases q : metP p 0
      · rw [zb_t q, zb_t q.2.1]; omega
      · rw [zb_f q]; rcases zb_2 (due p 0) with e | e <;> omega
    have k1 : zb (metP p 1) ≤ zb (due p 1) := by
      by_cases q : metP p 1
      · rw [zb_t q, zb_t q.2.1]; omega
      · rw [zb_f q]; rcases zb_2 (due p 1) with e | e <;> omega
    have k2 : zb (metP p 2) ≤ zb (due p 2) := by
      by_cases q : metP p 2
      · rw [zb_t q, zb_t q.2.1]; omega
      · rw [zb_f q]; rcases zb_2 (due p 2) with e | e <;> omega
    rcases (show i = 0 ∨ i = 1 ∨ i = 2 by omega) with rfl | rfl | rfl
    · exact zb_1.mp (by rw [zb_t hd] at k0 h; omega)
    · exact zb_1.mp (by rw [zb_t hd] at k1 h; omega)
    · exact zb_1.mp (by rw [zb_t hd] at k2 h; omega)
set_option maxHeartbeats 1000000 in
theorem c_X5_allMeet {p : zP} (ec : mP σ = p) (hp : WP p) (hS : MS σ p) : YI 2 μX5_allMeet [.ref 67] σ (zb (alm p 3)) σ := by
  refine YC.of2 (by decide) (Nat.le_of_ble_eq_true rfl) (fun d P hd hP => ?_)
  refine Y.iconst dX5_allMeet_0 ?_
  refine Y.istore_n dX5_allMeet_1 (by decide) rfl ?_
  refine Y.iconst dX5_allMeet_2 ?_
  refine Y.istore_n dX5_allMeet_3 (by decide) rfl ?_
  refine zw2 (fun s i => (0 ≤ i ∧ i ≤ 3 ∧ s = zb (alm p i))) (fun s i => Y d μX5_allMeet 4 [some (.ref 67), some (.int (zi s)), some (.int (zi i))] [] σ P) (fun s i => (3 - i).toNat) ?_ _ _ ⟨by omega, by omega, (zb_t (fun i a c => by omega)).symm⟩
  intro s i hI ih
  obtain ⟨i1, i2, i3⟩ := hI
  have hz : s = 0 ∨ s = 1 := by rw [i3]; exact zb_01
  refine Y.iload_n dX5_allMeet_4 rfl ?_
  refine Y.iconst dX5_allMeet_5 ?_
  refine Y.icmp_ge 41 dX5_allMeet_6 (by decide) (by omega) (by omega) (fun h_6 => ?_) (fun h_6 => ?_)
  · refine Y.iload_n dX5_allMeet_41 rfl ?_
    exact Y.zret dX5_allMeet_42 rfl (by omega) (hP _ _ ⟨zrI (by rw [i3, show i = 3 by omega]), rfl⟩)
  · refine Y.iload_n dX5_allMeet_9 rfl ?_
    refine Y.if_eq 33 dX5_allMeet_10 (by decide) (by omega) (fun h_10 => ?_) (fun h_10 => ?_)
    · refine Y.iconst dX5_allMeet_33 ?_
      refine Y.istore_n dX5_allMeet_34 (by decide) rfl ?_
      refine Y.iinc dX5_allMeet_35 rfl (by decide) rfl ?_
      refine Y.goto 4 dX5_allMeet_38 (by decide) ?_
      refine ih _ _ ⟨by omega, by omega, ?_⟩ (by omega)
      first
        | exact (zb_f (alm_n (zb_0.mp (by omega)))).symm
        | exact (zb_t (alm_s (by omega) (zb_1.mp (by omega)) (fun _ => by assumption))).symm
        | exact (zb_t (alm_s (by omega) (zb_1.mp (by omega)) (fun q => absurd q (by assumption)))).symm
        | exact (zb_f (fun q => absurd (q i (by omega) (by omega) (by assumption)) (by assumption))).symm
    · refine Y.aload_n dX5_allMeet_13 rfl ?_
      refine Y.iload_n dX5_allMeet_14 rfl ?_
      refine Y.cVI dX5_allMeet_15 mkX5_isAsked csX5_279 ob67 ⟨_, rfl, rfl⟩ (c_X5_isAsked ec hp (by omega) (by omega)) (by omega) rfl rfl (Nat.le_of_ble_eq_true rfl) ?_
      refine Y.ifz_eq 29 dX5_allMeet_18 (by decide) (fun h_18 => ?_) (fun h_18 => ?_)
      · refine Y.iconst dX5_allMeet_29 ?_
        refine Y.goto 34 dX5_allMeet_30 (by decide) ?_
        refine Y.istore_n dX5_allMeet_34 (by decide) rfl ?_
        refine Y.iinc dX5_allMeet_35 rfl (by decide) rfl ?_
        refine Y.goto 4 dX5_allMeet_38 (by decide) ?_
        refine ih _ _ ⟨by omega, by omega, ?_⟩ (by omega)
        first
          | exact (zb_f (alm_n (zb_0.mp (by omega)))).symm
          | exact (zb_t (alm_s (by omega) (zb_1.mp (by omega)) (fun _ => by assumption))).symm
          | exact (zb_t (alm_s (by omega) (zb_1.mp (by omega)) (fun q => absurd q (by assumption)))).symm
          | exact (zb_f (fun q => absurd (q i (by omega) (by omega) (by assumption)) (by assumption))).symm
      · refine Y.aload_n dX5_allMeet_21 rfl ?_
        refine Y.iload_n dX5_allMeet_22 rfl ?_
        refine Y.cVI dX5_allMeet_23 mkX5_isMet csX5_282 ob67 ⟨_, rfl, rfl⟩ (c_X5_isMet ec hp hS (by omega) (by omega)) (by omega) rfl rfl (Nat.le_of_ble_eq_true rfl) ?_
        refine Y.ifz_eq 33 dX5_allMeet_26 (by decide) (fun h_26 => ?_) (fun h_26 => ?_)
        · refine Y.iconst dX5_allMeet_33 ?_
          refine Y.istore_n dX5_allMeet_34 (by decide) rfl ?_
          refine Y.iinc dX5_allMeet_35 rfl (by decide) rfl ?_
          refine Y.goto 4 dX5_allMeet_38 (by decide) ?_
          refine ih _ _ ⟨by omega, by omega, ?_⟩ (by omega)
          first
            | exact (zb_f (alm_n (zb_0.mp (by omega)))).symm
            | exact (zb_t (alm_s (by omega) (zb_1.mp (by omega)) (fun _ => by assumption))).symm
            | exact (zb_t (alm_s (by omega) (zb_1.mp (by omega)) (fun q => absurd q (by assumption)))).symm
            | exact (zb_f (fun q => absurd (q i (by omega) (by omega) (by assumption)) (by assumption))).symm
        · refine Y.iconst dX5_allMeet_29 ?_
          refine Y.goto 34 dX5_allMeet_30 (by decide) ?_
          refine Y.istore_n dX5_allMeet_34 (by decide) rfl ?_
          refine Y.iinc dX5_allMeet_35 rfl (by decide) rfl ?_
          refine Y.goto 4 dX5_allMeet_38 (by decide) ?_
          refine ih _ _ ⟨by omega, by omega, ?_⟩ (by omega)
          first
            | exact (zb_f (alm_n (zb_0.mp (by omega)))).symm
            | exact (zb_t (alm_s (by omega) (zb_1.mp (by omega)) (fun _ => by assumption))).symm
            | exact (zb_t (alm_s (by omega) (zb_1.mp (by omega)) (fun q => absurd q (by assumption)))).symm
            | exact (zb_f (fun q => absurd (q i (by omega) (by omega) (by assumption)) (by assumption))).symm
noncomputable def infA (p : zP) (x : Int) (w : Nat) : Int := if w = 4 then ear p x else if w = 5 then latA p x else if w = 6 then rvs p x else p (6 + w) x
end ZG8
