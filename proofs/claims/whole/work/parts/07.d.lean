section ZK3
variable {σ : zS}
/-! sheets: the class's -/
def bgC (σ : zS) (k : Nat) (f n : Int) : zS := zfl (zu (zu (zu σ (59 + 2 * k) 0 0) (59 + 2 * k) 1 f) (59 + 2 * k) 2 n) (60 + 2 * k) 60 0
def trb (σ : zS) (k : Nat) (f i : Int) : Int := if σ.1 (59 + 2 * k) 0 = 1 then 1 else if σ.1 (59 + 2 * k) 1 ≠ f then 3 else if 0 ≤ i ∧ i ≤ σ.1 (59 + 2 * k) 2 - 1 then 0 else 2
def lvA (f v : Int) : Int := if f = 0 then zsh v else if f = 2 then v * 100000007 else v
def rgA (σ : zS) (k : Nat) (i n : Int) : Prop := 0 ≤ i ∧ 0 ≤ n ∧ i ≤ σ.1 (59 + 2 * k) 2 ∧ n ≤ σ.1 (59 + 2 * k) 2 - i
def hst (f : Int → Int) (a : Int) : Prop := ∀ w : Int, 0 ≤ w → w < 4 → mrk w (f (a + w))
theorem SHs.b {g : zS} {k : Nat} (h : SHs g σ k) : (g.1 (59 + 2 * k) 0 = 0 ∨ g.1 (59 + 2 * k) 0 = 1) ∧ (g.1 (59 + 2 * k) 0 = 0 → 0 ≤ g.1 (59 + 2 * k) 1 ∧ g.1 (59 + 2 * k) 1 ≤ 2) ∧ 0 ≤ g.1 (59 + 2 * k) 2 ∧ g.1 (59 + 2 * k) 2 ≤ 60 := by
  obtain ⟨h1, h2, h3⟩ := h
  refine ⟨by omega, fun q => by omega, h2.2⟩
theorem zsh_64 (v : Int) : zB64 (zsh v) := by have := zsh_B v; omega
set_option maxHeartbeats 1000000 in
theorem c_X3_begin {k : Nat} (hk : k < 4) {f n : Int} : YV 1 μX3_begin [.ref (59 + 2 * k), .int (zi f), .int (zi n)] σ (bgC σ k f n) := by
  refine YC.of2 (by decide) (Nat.le_of_ble_eq_true rfl) (fun d P hd hP => ?_)
  refine Y.aload_n dX3_begin_0 rfl ?_
  refine Y.iconst dX3_begin_1 ?_
  refine Y.putf 0 dX3_begin_2 fpX3_9 (obS hk) (osS_0 hk) (Nat.le_of_ble_eq_true rfl) (Or.inr ⟨rfl, Or.inl rfl⟩) rfl ?_
  refine Y.aload_n dX3_begin_5 rfl ?_
  refine Y.iload_n dX3_begin_6 rfl ?_
  refine Y.putf 1 dX3_begin_7 fpX3_19 (obS hk) (osS_1 hk) (Nat.le_of_ble_eq_true rfl) (Or.inl rfl) rfl ?_
  refine Y.aload_n dX3_begin_10 rfl ?_
  refine Y.iload_n dX3_begin_11 rfl ?_
  refine Y.putf 2 dX3_begin_12 fpX3_23 (obS hk) (osS_2 hk) (Nat.le_of_ble_eq_true rfl) (Or.inl rfl) rfl ?_
  refine Y.aload_n dX3_begin_15 rfl ?_
  refine Y.getf dX3_begin_16 flX3_15 (obS hk) rfl ?_
  refine Y.lconst 0 dX3_begin_19 rfl ?_
  refine Y.cSV dX3_begin_20 mkJ7_fill_d0a16 csX3_26 (c_J7_fillL (laS hk)) (by omega) rfl rfl (Nat.le_of_ble_eq_true rfl) ?_
  exact Y.vret dX3_begin_23 rfl (hP _ _ ⟨rfl, rfl⟩)
set_option maxHeartbeats 1000000 in
theorem c_X3_troubleAt {k : Nat} (hk : k < 4) (hs : SHs σ σ k) {f i : Int} (hf : zB f) (hi : zB i) : YI 1 μX3_troubleAt [.ref (59 + 2 * k), .int (zi f), .int (zi i)] σ (trb σ k f i) σ := by
  refine YC.of2 (by decide) (Nat.le_of_ble_eq_true rfl) (fun d P hd hP => ?_)
  have hb := hs.b
  refine Y.aload_n dX3_troubleAt_0 rfl ?_
  refine Y.getf dX3_troubleAt_1 flX3_9 (obS hk) rfl ?_
  refine Y.if_eq 9 dX3_troubleAt_4 (by decide) (by omega) (fun h_4 => ?_) (fun h_4 => ?_)
  · refine Y.aload_n dX3_troubleAt_9 rfl ?_
    refine Y.getf dX3_troubleAt_10 flX3_19 (obS hk) rfl ?_
    refine Y.iload_n dX3_troubleAt_13 rfl ?_
    refine Y.icmp_eq 19 dX3_troubleAt_14 (by decide) (by omega) (by omega) (fun h_14 => ?_) (fun h_14 => ?_)
    · refine Y.iload_n dX3_troubleAt_19 rfl ?_
      refine Y.i2l dX3_troubleAt_20 (by omega) ?_
      refine Y.iconst dX3_troubleAt_21 ?_
      refine Y.aload_n dX3_troubleAt_22 rfl ?_
      refine Y.getf dX3_troubleAt_23 flX3_23 (obS hk) rfl ?_
      refine Y.iconst dX3_troubleAt_26 ?_
      refine Y.isub dX3_troubleAt_27 ?_
      refine Y.cSI dX3_troubleAt_28 mkX4_within csX3_32 (c_X4_within (by omega) (by omega) (by omega)) (by omega) rfl rfl (Nat.le_of_ble_eq_true rfl) ?_
      refine Y.ifz_eq 38 dX3_troubleAt_31 (by decide) (fun h_31 => ?_) (fun h_31 => ?_)
      · refine Y.iconst dX3_troubleAt_38 ?_
        exact Y.iret dX3_troubleAt_39 rfl (hP _ _ ⟨zrI (by unfold trb; first | rw [if_pos (by omega)] | rw [if_neg (by omega), if_pos (by omega)] | (rw [if_neg (by omega), if_neg (by omega), if_pos (by assumption)]) | (rw [if_neg (by omega), if_neg (by omega), if_neg (by assumption)])), rfl⟩)
      · refine Y.iconst dX3_troubleAt_34 ?_
        refine Y.goto 39 dX3_troubleAt_35 (by decide) ?_
        exact Y.iret dX3_troubleAt_39 rfl (hP _ _ ⟨zrI (by unfold trb; first | rw [if_pos (by omega)] | rw [if_neg (by omega), if_pos (by omega)] | (rw [if_neg (by omega), if_neg (by omega), if_pos (by assumption)]) | (rw [if_neg (by omega), if_neg (by omega), if_neg (by assumption)])), rfl⟩)
    · refine Y.iconst dX3_troubleAt_17 ?_
      exact Y.iret dX3_troubleAt_18 rfl (hP _ _ ⟨zrI (by unfold trb; first | rw [if_pos (by omega)] | rw [if_neg (by omega), if_pos (by omega)] | (rw [if_neg (by omega), if_neg (by omega), if_pos (by assumption)]) | (rw [if_neg (by omega), if_neg (by omega), if_neg (by assumption)])), rfl⟩)
  · refine Y.iconst dX3_troubleAt_7 ?_
    exact Y.iret dX3_troubleAt_8 rfl (hP _ _ ⟨zrI (by unfold trb; first | rw [if_pos (by omega)] | rw [if_neg (by omega), if_pos (by omega)] | (rw [if_neg (by omega), if_neg (by omega), if_pos (by assumption)]) | (rw [if_neg (by omega), if_neg (by omega), if_neg (by assumption)])), rfl⟩)
set_option maxHeartbeats 1000000 in
theorem c_X3_hasRange {k : Nat} (hk : k < 4) (hs : SHs σ σ k) {i n : Int} (hi : zB i) (hn : zB n) : YI 0 μX3_hasRange [.ref (59 + 2 * k), .int (zi i), .int (zi n)] σ (zb (rgA σ k i n)) σ := by
  refine YC.of2 (by decide) (Nat.le_of_ble_eq_true rfl) (fun d P hd hP => ?_)
  have hb := hs.b
  refine Y.iload_n dX3_hasRange_0 rfl ?_
  refine Y.if_lt 30 dX3_hasRange_1 (by decide) (by omega) (fun h_1 => ?_) (fun h_1 => ?_)
  · refine Y.iconst dX3_hasRange_30 ?_
    exact Y.zret dX3_hasRange_31 rfl (by decide) (hP _ _ ⟨zrI (by first | exact (zb_t ⟨by omega, by omega, by omega, by omega⟩).symm | exact (zb_f (fun q => by have q1 := q.1; have q2 := q.2.1; have q3 := q.2.2.1; have q4 := q.2.2.2; omega)).symm), rfl⟩)
  · refine Y.iload_n dX3_hasRange_4 rfl ?_
    refine Y.if_lt 30 dX3_hasRange_5 (by decide) (by omega) (fun h_5 => ?_) (fun h_5 => ?_)
    · refine Y.iconst dX3_hasRange_30 ?_
      exact Y.zret dX3_hasRange_31 rfl (by decide) (hP _ _ ⟨zrI (by first | exact (zb_t ⟨by omega, by omega, by omega, by omega⟩).symm | exact (zb_f (fun q => by have q1 := q.1; have q2 := q.2.1; have q3 := q.2.2.1; have q4 := q.2.2.2; omega)).symm), rfl⟩)
    · refine Y.iload_n dX3_hasRange_8 rfl ?_
      refine Y.aload_n dX3_hasRange_9 rfl ?_
      refine Y.getf dX3_hasRange_10 flX3_23 (obS hk) rfl ?_
      refine Y.icmp_gt 30 dX3_hasRange_13 (by decide) (by omega) (by omega) (fun h_13 => ?_) (fun h_13 => ?_)
      · refine Y.iconst dX3_hasRange_30 ?_
        exact Y.zret dX3_hasRange_31 rfl (by decide) (hP _ _ ⟨zrI (by first | exact (zb_t ⟨by omega, by omega, by omega, by omega⟩).symm | exact (zb_f (fun q => by have q1 := q.1; have q2 := q.2.1; have q3 := q.2.2.1; have q4 := q.2.2.2; omega)).symm), rfl⟩)
      · refine Y.iload_n dX3_hasRange_16 rfl ?_
        refine Y.aload_n dX3_hasRange_17 rfl ?_
        refine Y.getf dX3_hasRange_18 flX3_23 (obS hk) rfl ?_
        refine Y.iload_n dX3_hasRange_21 rfl ?_
        refine Y.isub dX3_hasRange_22 ?_
        refine Y.icmp_gt 30 dX3_hasRange_23 (by decide) (by omega) (by omega) (fun h_23 => ?_) (fun h_23 => ?_)
        · refine Y.iconst dX3_hasRange_30 ?_
          exact Y.zret dX3_hasRange_31 rfl (by decide) (hP _ _ ⟨zrI (by first | exact (zb_t ⟨by omega, by omega, by omega, by omega⟩).symm | exact (zb_f (fun q => by have q1 := q.1; have q2 := q.2.1; have q3 := q.2.2.1; have q4 := q.2.2.2; omega)).symm), rfl⟩)
        · refine Y.iconst dX3_hasRange_26 ?_
          refine Y.goto 31 dX3_hasRange_27 (by decide) ?_
          exact Y.zret dX3_hasRange_31 rfl (by decide) (hP _ _ ⟨zrI (by first | exact (zb_t ⟨by omega, by omega, by omega, by omega⟩).symm | exact (zb_f (fun q => by have q1 := q.1; have q2 := q.2.1; have q3 := q.2.2.1; have q4 := q.2.2.2; omega)).symm), rfl⟩)
set_option maxHeartbeats 1000000 in
theorem c_X3_put {k : Nat} (hk : k < 4) (hf : zB (σ.1 (59 + 2 * k) 1)) {i v : Int} (h0 : 0 ≤ i) (h6 : i < 60) : YV 0 μX3_put [.ref (59 + 2 * k), .int (zi i), .long (zl v)] σ (zul σ (60 + 2 * k) i (if σ.1 (59 + 2 * k) 1 = 0 then zsh v else v)) := by
  refine YC.of2 (by decide) (Nat.le_of_ble_eq_true rfl) (fun d P hd hP => ?_)
  refine Y.aload_n dX3_put_0 rfl ?_
  refine Y.getf dX3_put_1 flX3_15 (obS hk) rfl ?_
  refine Y.iload_n dX3_put_4 rfl ?_
  refine Y.aload_n dX3_put_5 rfl ?_
  refine Y.getf dX3_put_6 flX3_19 (obS hk) rfl ?_
  refine Y.if_ne 19 dX3_put_9 (by decide) (by omega) (fun h_9 => ?_) (fun h_9 => ?_)
  · refine Y.lload_n dX3_put_19 rfl ?_
    refine Y.last dX3_put_20 (laS hk) (by omega) (by omega) ?_
    exact Y.vret dX3_put_21 rfl (hP _ _ ⟨rfl, by first | rw [if_pos (by assumption)] | rw [if_neg (by assumption)]⟩)
  · refine Y.lload_n dX3_put_12 rfl ?_
    refine Y.l2i dX3_put_13 ?_
    refine Y.i2s dX3_put_14 ?_
    refine Y.i2l dX3_put_15 (zsh_B v) ?_
    refine Y.goto 20 dX3_put_16 (by decide) ?_
    refine Y.last dX3_put_20 (laS hk) (by omega) (by omega) ?_
    exact Y.vret dX3_put_21 rfl (hP _ _ ⟨rfl, by first | rw [if_pos (by assumption)] | rw [if_neg (by assumption)]⟩)
set_option maxHeartbeats 1000000 in
theorem c_X4_holdsStep {k : Nat} (hk : k < 4) {a : Int} (a0 : 0 ≤ a) (a6 : a < 57) (hi : ∀ y : Int, 0 ≤ y → y < 4 → zB64 (σ.2 (60 + 2 * k) (a + y))) : YI 2 μX4_holdsStep [.ref (59 + 2 * k), .int (zi a)] σ (zb (hst (σ.2 (60 + 2 * k)) a)) σ := by
  refine YC.of2 (by decide) (Nat.le_of_ble_eq_true rfl) (fun d P hd hP => ?_)
  refine Y.iconst dX4_holdsStep_0 ?_
  refine Y.istore_n dX4_holdsStep_1 (by decide) rfl ?_
  refine zw1 (fun w => (0 ≤ w ∧ w ≤ 4 ∧ ∀ y : Int, 0 ≤ y → y < w → mrk y (σ.2 (60 + 2 * k) (a + y)))) (fun w => Y d μX4_holdsStep 2 [some (.ref (59 + 2 * k)), some (.int (zi a)), some (.int (zi w))] [] σ P) (fun w => (4 - w).toNat) ?_ 0 ⟨by omega, by omega, fun y q1 q2 => by omega⟩
  intro w hI ih
  obtain ⟨i1, i2, i3⟩ := hI
  refine Y.iload_n dX4_holdsStep_2 rfl ?_
  refine Y.iconst dX4_holdsStep_3 ?_
  refine Y.icmp_ge 30 dX4_holdsStep_4 (by decide) (by omega) (by omega) (fun h_4 => ?_) (fun h_4 => ?_)
  · refine Y.iconst dX4_holdsStep_30 ?_
    exact Y.zret dX4_holdsStep_31 rfl (by decide) (hP _ _ ⟨zrI (by exact (zb_t (fun y q1 q2 => i3 y q1 (by omega))).symm), rfl⟩)
  · have hiw := hi w i1 (by omega)
    refine Y.iload_n dX4_holdsStep_7 rfl ?_
    refine Y.aload_n dX4_holdsStep_8 rfl ?_
    refine Y.getf dX4_holdsStep_9 flX4_104 (obS hk) rfl ?_
    refine Y.iload_n dX4_holdsStep_12 rfl ?_
    refine Y.iload_n dX4_holdsStep_13 rfl ?_
    refine Y.iadd dX4_holdsStep_14 ?_
    refine Y.lald dX4_holdsStep_15 (laS hk) (by omega) (by omega) ?_
    refine Y.cSI dX4_holdsStep_16 mkX4_isMark csX4_69 (c_X4_isMark i1 (by omega) hiw) (by omega) rfl rfl (Nat.le_of_ble_eq_true rfl) ?_
    refine Y.ifz_ne 24 dX4_holdsStep_19 (by decide) (fun h_19 => ?_) (fun h_19 => ?_)
    · refine Y.iinc dX4_holdsStep_24 rfl (by decide) rfl ?_
      refine Y.goto 2 dX4_holdsStep_27 (by decide) ?_
      exact ih _ ⟨by omega, by omega, fun y q1 q2 => if q : y = w then by rw [q]; assumption else i3 y q1 (by omega)⟩ (by omega)
    · refine Y.iconst dX4_holdsStep_22 ?_
      exact Y.zret dX4_holdsStep_23 rfl (by decide) (hP _ _ ⟨zrI (by exact (zb_f (fun q => absurd (q w i1 (by omega)) (by assumption))).symm), rfl⟩)
set_option maxHeartbeats 1000000 in
theorem c_X4_sheet (hJ : SHJ σ σ) {q f n : Int} (hq : zB q) (hf : zB f) (hn : zB n) : YC 2 μX4_sheet [.ref 0, .int (zi q), .int (zi f), .int (zi n)] σ (fun r s => (∃ k : Nat, k < 4 ∧ q = (k : Int) ∧ ((0 ≤ q ∧ q ≤ 3) ∧ (0 ≤ f ∧ f ≤ 2) ∧ n ≤ 60) ∧ 0 ≤ n ∧ r = some (.int (zi n)) ∧ s = bgC σ k f n) ∨ (((0 ≤ q ∧ q ≤ 3) ∧ (0 ≤ f ∧ f ≤ 2) ∧ n ≤ 60) ∧ n < 0 ∧ r = some (.int (zi (-15))) ∧ s = zu σ 0 5 5) ∨ (¬ ((0 ≤ q ∧ q ≤ 3) ∧ (0 ≤ f ∧ f ≤ 2) ∧ n ≤ 60) ∧ r = some (.int (zi (-2))) ∧ s = σ)) := by
  refine YC.of2 (by decide) (Nat.le_of_ble_eq_true rfl) (fun d P hd hP => ?_)
  refine Y.iload_n dX4_sheet_0 rfl ?_
  refine Y.cSI dX4_sheet_1 mkX4_isSheet csX4_87 (c_X4_isSheet (by omega)) (by omega) rfl rfl (Nat.le_of_ble_eq_true rfl) ?_
  refine Y.ifz_eq 20 dX4_sheet_4 (by decide) (fun h_4 => ?_) (fun h_4 => ?_)
  · refine Y.bipush dX4_sheet_20 (by decide +kernel) ?_
    exact Y.iret dX4_sheet_22 rfl (hP _ _ (Or.inr (Or.inr ⟨fun z => by first | exact absurd z.1 (by assumption) | exact absurd z.2.1 (by assumption) | (have := z.2.2; omega), rfl, rfl⟩)))
  · refine Y.iload_n dX4_sheet_7 rfl ?_
    refine Y.cSI dX4_sheet_8 mkX4_isForm csX4_158 (c_X4_isForm (by omega)) (by omega) rfl rfl (Nat.le_of_ble_eq_true rfl) ?_
    refine Y.ifz_eq 20 dX4_sheet_11 (by decide) (fun h_11 => ?_) (fun h_11 => ?_)
    · refine Y.bipush dX4_sheet_20 (by decide +kernel) ?_
      exact Y.iret dX4_sheet_22 rfl (hP _ _ (Or.inr (Or.inr ⟨fun z => by first | exact absurd z.1 (by assumption) | exact absurd z.2.1 (by assumption) | (have := z.2.2; omega), rfl, rfl⟩)))
    · refine Y.iload_n dX4_sheet_14 rfl ?_
      refine Y.bipush dX4_sheet_15 (by decide +kernel) ?_
      refine Y.icmp_le 23 dX4_sheet_17 (by decide) (by omega) (by omega) (fun h_17 => ?_) (fun h_17 => ?_)
      · refine Y.iload_n dX4_sheet_23 rfl ?_
        refine Y.if_ge 33 dX4_sheet_24 (by decide) (by omega) (fun h_24 => ?_) (fun h_24 => ?_)
        · obtain ⟨k, rfl⟩ : ∃ k : Nat, q = (k : Int) := ⟨q.toNat, by omega⟩
          have hk : k < 4 := by omega
          have hsh := hJ k hk
          have hb := hsh.b
          refine Y.aload_n dX4_sheet_33 rfl ?_
          refine Y.getf dX4_sheet_34 flX4_37 ob0 rfl ?_
          refine Y.iload_n dX4_sheet_37 rfl ?_
          refine Y.aald dX4_sheet_38 ra58 (by decide) (by omega) (by omega) (hqS hk) ?_
          refine Y.iload_n dX4_sheet_39 rfl ?_
          refine Y.iload_n dX4_sheet_40 rfl ?_
          refine Y.cVV dX4_sheet_41 mkX3_begin csX4_161 (obS hk) ⟨_, rfl, rfl⟩ (c_X3_begin hk ) (by omega) rfl rfl (Nat.le_of_ble_eq_true rfl) ?_
          refine Y.iload_n dX4_sheet_44 rfl ?_
          exact Y.iret dX4_sheet_45 rfl (hP _ _ (Or.inl ⟨k, hk, rfl, ⟨by assumption, by assumption, by omega⟩, by omega, rfl, rfl⟩))
        · refine Y.aload_n dX4_sheet_27 rfl ?_
          refine Y.iconst dX4_sheet_28 ?_
          refine Y.cVI dX4_sheet_29 mkX4_found csX4_93 ob0 ⟨_, rfl, rfl⟩ c_X4_found (by omega) rfl rfl (Nat.le_of_ble_eq_true rfl) ?_
          exact Y.iret dX4_sheet_32 rfl (hP _ _ (Or.inr (Or.inl ⟨⟨by assumption, by assumption, by omega⟩, by omega, rfl, rfl⟩)))
      · refine Y.bipush dX4_sheet_20 (by decide +kernel) ?_
        exact Y.iret dX4_sheet_22 rfl (hP _ _ (Or.inr (Or.inr ⟨fun z => by first | exact absurd z.1 (by assumption) | exact absurd z.2.1 (by assumption) | (have := z.2.2; omega), rfl, rfl⟩)))
set_option maxHeartbeats 1000000 in
theorem c_X4_lose (hJ : SHJ σ σ) {q : Int} (hq : zB q) : YC 2 μX4_lose [.ref 0, .int (zi q)] σ (fun r s => (∃ k : Nat, k < 4 ∧ q = (k : Int) ∧ σ.1 (59 + 2 * k) 0 = 0 ∧ r = some (.int (zi (σ.1 (59 + 2 * k) 2))) ∧ s = zu σ (59 + 2 * k) 0 1) ∨ (∃ k : Nat, k < 4 ∧ q = (k : Int) ∧ σ.1 (59 + 2 * k) 0 = 1 ∧ r = some (.int (zi (-11))) ∧ s = zu σ 0 5 1) ∨ (¬ (0 ≤ q ∧ q ≤ 3) ∧ r = some (.int (zi (-2))) ∧ s = σ)) := by
  refine YC.of2 (by decide) (Nat.le_of_ble_eq_true rfl) (fun d P hd hP => ?_)
  refine Y.iload_n dX4_lose_0 rfl ?_
  refine Y.cSI dX4_lose_1 mkX4_isSheet csX4_87 (c_X4_isSheet (by omega)) (by omega) rfl rfl (Nat.le_of_ble_eq_true rfl) ?_
  refine Y.ifz_ne 10 dX4_lose_4 (by decide) (fun h_4 => ?_) (fun h_4 => ?_)
  · obtain ⟨k, rfl⟩ : ∃ k : Nat, q = (k : Int) := ⟨q.toNat, by omega⟩
    have hk : k < 4 := by omega
    have hsh := hJ k hk
    have hb := hsh.b
    refine Y.aload_n dX4_lose_10 rfl ?_
    refine Y.getf dX4_lose_11 flX4_37 ob0 rfl ?_
    refine Y.iload_n dX4_lose_14 rfl ?_
    refine Y.aald dX4_lose_15 ra58 (by decide) (by omega) (by omega) (hqS hk) ?_
    refine Y.getf dX4_lose_16 flX4_90 (obS hk) rfl ?_
    refine Y.if_eq 28 dX4_lose_19 (by decide) (by omega) (fun h_19 => ?_) (fun h_19 => ?_)
    · refine Y.aload_n dX4_lose_28 rfl ?_
      refine Y.getf dX4_lose_29 flX4_37 ob0 rfl ?_
      refine Y.iload_n dX4_lose_32 rfl ?_
      refine Y.aald dX4_lose_33 ra58 (by decide) (by omega) (by omega) (hqS hk) ?_
      refine Y.iconst dX4_lose_34 ?_
      refine Y.putf 0 dX4_lose_35 fpX4_90 (obS hk) (osS_0 hk) (Nat.le_of_ble_eq_true rfl) (Or.inr ⟨rfl, Or.inr rfl⟩) rfl ?_
      refine Y.aload_n dX4_lose_38 rfl ?_
      refine Y.getf dX4_lose_39 flX4_37 ob0 rfl ?_
      refine Y.iload_n dX4_lose_42 rfl ?_
      refine Y.aald dX4_lose_43 ra58 (by decide) (by omega) (by omega) (hqS hk) ?_
      refine Y.getf dX4_lose_44 flX4_97 (obS hk) rfl ?_
      exact Y.iret dX4_lose_47 rfl (hP _ _ (Or.inl ⟨k, hk, rfl, by omega, zrI (by rw [zu_ne (by omega)]), rfl⟩))
    · refine Y.aload_n dX4_lose_22 rfl ?_
      refine Y.iconst dX4_lose_23 ?_
      refine Y.cVI dX4_lose_24 mkX4_found csX4_93 ob0 ⟨_, rfl, rfl⟩ c_X4_found (by omega) rfl rfl (Nat.le_of_ble_eq_true rfl) ?_
      exact Y.iret dX4_lose_27 rfl (hP _ _ (Or.inr (Or.inl ⟨k, hk, rfl, by omega, rfl, rfl⟩)))
  · refine Y.bipush dX4_lose_7 (by decide +kernel) ?_
    exact Y.iret dX4_lose_9 rfl (hP _ _ (Or.inr (Or.inr ⟨by assumption, rfl, rfl⟩)))
set_option maxHeartbeats 2000000 in
theorem c_X4_lay (hJ : SHJ σ σ) {q f i v : Int} (hq : zB q) (hf : zB f) (hi : zB i) (hv : zB v) : YC 3 μX4_lay [.ref 0, .int (zi q), .int (zi f), .int (zi i), .int (zi v)] σ (fun r s => (∃ k : Nat, k < 4 ∧ q = (k : Int) ∧ ((0 ≤ q ∧ q ≤ 3) ∧ (0 ≤ f ∧ f ≤ 2)) ∧ trb σ k f i = 0 ∧ r = some (.int (zi 1)) ∧ s = zul σ (60 + 2 * k) i (lvA f v)) ∨ (∃ k : Nat, k < 4 ∧ q = (k : Int) ∧ ((0 ≤ q ∧ q ≤ 3) ∧ (0 ≤ f ∧ f ≤ 2)) ∧ ¬ trb σ k f i = 0 ∧ r = some (.int (zi (-10 - trb σ k f i))) ∧ s = zu σ 0 5 (trb σ k f i)) ∨ (¬ ((0 ≤ q ∧ q ≤ 3) ∧ (0 ≤ f ∧ f ≤ 2)) ∧ r = some (.int (zi (-2))) ∧ s = σ)) := by
  refine YC.of2 (by decide) (Nat.le_of_ble_eq_true rfl) (fun d P hd hP => ?_)
  refine Y.iload_n dX4_lay_0 rfl ?_
  refine Y.cSI dX4_lay_1 mkX4_isSheet csX4_87 (c_X4_isSheet (by omega)) (by omega) rfl rfl (Nat.le_of_ble_eq_true rfl) ?_
  refine Y.ifz_eq 14 dX4_lay_4 (by decide) (fun h_4 => ?_) (fun h_4 => ?_)
  · refine Y.bipush dX4_lay_14 (by decide +kernel) ?_
    exact Y.iret dX4_lay_16 rfl (hP _ _ (Or.inr (Or.inr ⟨fun z => by first | exact absurd z.1 (by assumption) | exact absurd z.2 (by assumption), rfl, rfl⟩)))
  · refine Y.iload_n dX4_lay_7 rfl ?_
    refine Y.cSI dX4_lay_8 mkX4_isForm csX4_158 (c_X4_isForm (by omega)) (by omega) rfl rfl (Nat.le_of_ble_eq_true rfl) ?_
    refine Y.ifz_ne 17 dX4_lay_11 (by decide) (fun h_11 => ?_) (fun h_11 => ?_)
    · obtain ⟨k, rfl⟩ : ∃ k : Nat, q = (k : Int) := ⟨q.toNat, by omega⟩
      have hk : k < 4 := by omega
      have hsh := hJ k hk
      have hb := hsh.b
      refine Y.aload_n dX4_lay_17 rfl ?_
      refine Y.getf dX4_lay_18 flX4_37 ob0 rfl ?_
      refine Y.iload_n dX4_lay_21 rfl ?_
      refine Y.aald dX4_lay_22 ra58 (by decide) (by omega) (by omega) (hqS hk) ?_
      refine Y.iload_n dX4_lay_23 rfl ?_
      refine Y.iload_n dX4_lay_24 rfl ?_
      refine Y.cVI dX4_lay_25 mkX3_troubleAt csX4_165 (obS hk) ⟨_, rfl, rfl⟩ (c_X3_troubleAt hk hsh hf hi) (by omega) rfl rfl (Nat.le_of_ble_eq_true rfl) ?_
      have ht : (trb σ k f i = 0 ∧ σ.1 (59 + 2 * k) 1 = f ∧ 0 ≤ i ∧ i < σ.1 (59 + 2 * k) 2) ∨ (1 ≤ trb σ k f i ∧ trb σ k f i ≤ 3) := by
        unfold trb
        split
        · omega
        · split
          · omega
          · split <;> omega
      refine Y.istore dX4_lay_28 (by decide) rfl ?_
      refine Y.iload dX4_lay_30 rfl ?_
      refine Y.if_eq 42 dX4_lay_32 (by decide) (by omega) (fun h_32 => ?_) (fun h_32 => ?_)
      · refine Y.aload_n dX4_lay_42 rfl ?_
        refine Y.getf dX4_lay_43 flX4_37 ob0 rfl ?_
        refine Y.iload_n dX4_lay_46 rfl ?_
        refine Y.aald dX4_lay_47 ra58 (by decide) (by omega) (by omega) (hqS hk) ?_
        refine Y.iload_n dX4_lay_48 rfl ?_
        refine Y.iload_n dX4_lay_49 rfl ?_
        refine Y.iconst dX4_lay_50 ?_
        refine Y.icmp_ne 64 dX4_lay_51 (by decide) (by omega) (by omega) (fun h_51 => ?_) (fun h_51 => ?_)
        · refine Y.iload dX4_lay_64 rfl ?_
          refine Y.i2l dX4_lay_66 (by omega) ?_
          refine Y.cVV dX4_lay_67 mkX3_put csX4_170 (obS hk) ⟨_, rfl, rfl⟩ (c_X3_put hk (by omega) (by omega) (by omega)) (by omega) rfl rfl (Nat.le_of_ble_eq_true rfl) ?_
          refine Y.iconst dX4_lay_70 ?_
          exact Y.iret dX4_lay_71 rfl (hP _ _ (Or.inl ⟨k, hk, rfl, ⟨by assumption, by assumption⟩, by assumption, rfl, by unfold lvA; congr 1; by_cases z : f = 0; (· first | (exfalso; omega) | rw [if_pos (by omega), if_pos z]); rw [if_neg (by omega), if_neg z]; first | rw [if_pos (by omega)] | rw [if_neg (by omega)]⟩))
        · refine Y.iload dX4_lay_54 rfl ?_
          refine Y.i2l dX4_lay_56 (by omega) ?_
          refine Y.ldc2 (100000007) dX4_lay_57 kX4_168 ?_
          refine Y.lmul dX4_lay_60 ?_
          refine Y.goto 67 dX4_lay_61 (by decide) ?_
          refine Y.cVV dX4_lay_67 mkX3_put csX4_170 (obS hk) ⟨_, rfl, rfl⟩ (c_X3_put hk (by omega) (by omega) (by omega)) (by omega) rfl rfl (Nat.le_of_ble_eq_true rfl) ?_
          refine Y.iconst dX4_lay_70 ?_
          exact Y.iret dX4_lay_71 rfl (hP _ _ (Or.inl ⟨k, hk, rfl, ⟨by assumption, by assumption⟩, by assumption, rfl, by unfold lvA; congr 1; by_cases z : f = 0; (· first | (exfalso; omega) | rw [if_pos (by omega), if_pos z]); rw [if_neg (by omega), if_neg z]; first | rw [if_pos (by omega)] | rw [if_neg (by omega)]⟩))
      · refine Y.aload_n dX4_lay_35 rfl ?_
        refine Y.iload dX4_lay_36 rfl ?_
        refine Y.cVI dX4_lay_38 mkX4_found csX4_93 ob0 ⟨_, rfl, rfl⟩ c_X4_found (by omega) rfl rfl (Nat.le_of_ble_eq_true rfl) ?_
        exact Y.iret dX4_lay_41 rfl (hP _ _ (Or.inr (Or.inl ⟨k, hk, rfl, ⟨by assumption, by assumption⟩, by assumption, rfl, rfl⟩)))
    · refine Y.bipush dX4_lay_14 (by decide +kernel) ?_
      exact Y.iret dX4_lay_16 rfl (hP _ _ (Or.inr (Or.inr ⟨fun z => by first | exact absurd z.1 (by assumption) | exact absurd z.2 (by assumption), rfl, rfl⟩)))
set_option maxHeartbeats 2000000 in
theorem c_X4_get (hJ : SHJ σ σ) {q f i : Int} (hq : zB q) (hf : zB f) (hi : zB i) : YC 3 μX4_get [.ref 0, .int (zi q), .int (zi f), .int (zi i)] σ (fun r s => (∃ k : Nat, k < 4 ∧ q = (k : Int) ∧ ((0 ≤ q ∧ q ≤ 3) ∧ (0 ≤ f ∧ f ≤ 2)) ∧ trb σ k f i = 0 ∧ r = some (.long (zl (σ.2 (60 + 2 * k) i))) ∧ s = σ) ∨ (∃ k : Nat, k < 4 ∧ q = (k : Int) ∧ ((0 ≤ q ∧ q ≤ 3) ∧ (0 ≤ f ∧ f ≤ 2)) ∧ ¬ trb σ k f i = 0 ∧ r = some (.long (zl (-9223372036854775808 - (-10 - trb σ k f i)))) ∧ s = zu σ 0 5 (trb σ k f i)) ∨ (¬ ((0 ≤ q ∧ q ≤ 3) ∧ (0 ≤ f ∧ f ≤ 2)) ∧ r = some (.long (zl (-9223372036854775806))) ∧ s = σ)) := by
  refine YC.of2 (by decide) (Nat.le_of_ble_eq_true rfl) (fun d P hd hP => ?_)
  refine Y.iload_n dX4_get_0 rfl ?_
  refine Y.cSI dX4_get_1 mkX4_isSheet csX4_87 (c_X4_isSheet (by omega)) (by omega) rfl rfl (Nat.le_of_ble_eq_true rfl) ?_
  refine Y.ifz_eq 14 dX4_get_4 (by decide) (fun h_4 => ?_) (fun h_4 => ?_)
  · refine Y.ldc2 (-9223372036854775806) dX4_get_14 kX4_174 ?_
    exact Y.lret dX4_get_17 rfl (hP _ _ (Or.inr (Or.inr ⟨fun z => by first | exact absurd z.1 (by assumption) | exact absurd z.2 (by assumption), rfl, rfl⟩)))
  · refine Y.iload_n dX4_get_7 rfl ?_
    refine Y.cSI dX4_get_8 mkX4_isForm csX4_158 (c_X4_isForm (by omega)) (by omega) rfl rfl (Nat.le_of_ble_eq_true rfl) ?_
    refine Y.ifz_ne 18 dX4_get_11 (by decide) (fun h_11 => ?_) (fun h_11 => ?_)
    · obtain ⟨k, rfl⟩ : ∃ k : Nat, q = (k : Int) := ⟨q.toNat, by omega⟩
      have hk : k < 4 := by omega
      have hsh := hJ k hk
      have hb := hsh.b
      refine Y.aload_n dX4_get_18 rfl ?_
      refine Y.getf dX4_get_19 flX4_37 ob0 rfl ?_
      refine Y.iload_n dX4_get_22 rfl ?_
      refine Y.aald dX4_get_23 ra58 (by decide) (by omega) (by omega) (hqS hk) ?_
      refine Y.iload_n dX4_get_24 rfl ?_
      refine Y.iload_n dX4_get_25 rfl ?_
      refine Y.cVI dX4_get_26 mkX3_troubleAt csX4_165 (obS hk) ⟨_, rfl, rfl⟩ (c_X3_troubleAt hk hsh hf hi) (by omega) rfl rfl (Nat.le_of_ble_eq_true rfl) ?_
      have ht : (trb σ k f i = 0 ∧ σ.1 (59 + 2 * k) 1 = f ∧ 0 ≤ i ∧ i < σ.1 (59 + 2 * k) 2) ∨ (1 ≤ trb σ k f i ∧ trb σ k f i ≤ 3) := by
        unfold trb
        split
        · omega
        · split
          · omega
          · split <;> omega
      refine Y.istore dX4_get_29 (by decide) rfl ?_
      refine Y.iload dX4_get_31 rfl ?_
      refine Y.if_eq 48 dX4_get_33 (by decide) (by omega) (fun h_33 => ?_) (fun h_33 => ?_)
      · refine Y.aload_n dX4_get_48 rfl ?_
        refine Y.getf dX4_get_49 flX4_37 ob0 rfl ?_
        refine Y.iload_n dX4_get_52 rfl ?_
        refine Y.aald dX4_get_53 ra58 (by decide) (by omega) (by omega) (hqS hk) ?_
        refine Y.getf dX4_get_54 flX4_104 (obS hk) rfl ?_
        refine Y.iload_n dX4_get_57 rfl ?_
        refine Y.lald dX4_get_58 (laS hk) (by omega) (by omega) ?_
        exact Y.lret dX4_get_59 rfl (hP _ _ (Or.inl ⟨k, hk, rfl, ⟨by assumption, by assumption⟩, by assumption, rfl, rfl⟩))
      · refine Y.ldc2 (-9223372036854775808) dX4_get_36 kX4_176 ?_
        refine Y.aload_n dX4_get_39 rfl ?_
        refine Y.iload dX4_get_40 rfl ?_
        refine Y.cVI dX4_get_42 mkX4_found csX4_93 ob0 ⟨_, rfl, rfl⟩ c_X4_found (by omega) rfl rfl (Nat.le_of_ble_eq_true rfl) ?_
        refine Y.i2l dX4_get_45 (by omega) ?_
        refine Y.lsub dX4_get_46 ?_
        exact Y.lret dX4_get_47 rfl (hP _ _ (Or.inr (Or.inl ⟨k, hk, rfl, ⟨by assumption, by assumption⟩, by assumption, rfl, rfl⟩)))
    · refine Y.ldc2 (-9223372036854775806) dX4_get_14 kX4_174 ?_
      exact Y.lret dX4_get_17 rfl (hP _ _ (Or.inr (Or.inr ⟨fun z => by first | exact absurd z.1 (by assumption) | exact absurd z.2 (by assumption), rfl, rfl⟩)))
def cpC (σ : zS) (k l : Nat) (i j n : Int) : zS := (σ.1, fun c => if c = 60 + 2 * l then (fun y => if j ≤ y ∧ y < j + n then σ.2 (60 + 2 * k) (i + (y - j)) else σ.2 (60 + 2 * l) y) else σ.2 c)
theorem rowL {l : Nat} (hl : l < 4) (g : Int → Int) : (zHp σ).set (60 + 2 * l) (.inl (.long, 60, .inr (.inl (fun y => zl (g y))))) = zHp (σ.1, fun c => if c = 60 + 2 * l then g else σ.2 c) := by
  rcases zs4 hl with rfl | rfl | rfl | rfl <;> rfl
theorem Y.copyl {d : Nat} {μ : zU} {pc idx : Nat} {L : List (Option Value)} {st : List Value} {P : Option Value → zS → Prop} {k l : Nat} (hk : k < 4) (hl : l < 4) {i j n : Int} (hdg : decode μ.2.1 pc = .ok (.invokestatic idx, 3)) (hw : Cond.methodLink μ.1.cls idx arraycopyName ∈ zWd ∧ Cond.native arraycopyName ∈ zWd ∧ Cond.static arraycopyName ∈ zWd ∧ Cond.initialized "java/lang/System" ∈ zWd) (hi : 0 ≤ i) (hj : 0 ≤ j) (hn : 0 ≤ n) (h4 : i + n ≤ 60) (h5 : j + n ≤ 60) (hd1 : 2 ≤ d) (hcat : (st.map fun v => v.category).sum ≤ 8)
    (k9 : Y d μ (pc + 3) L st (cpC σ k l i j n) P) : Y d μ pc L (.int (zi n) :: .int (zi j) :: .ref (60 + 2 * l) :: .int (zi i) :: .ref (60 + 2 * k) :: st) σ P := by
  have ci := zi_cl (a := i) ⟨by omega, by omega⟩
  have cj := zi_cl (a := j) ⟨by omega, by omega⟩
  have cn := zi_cl (a := n) ⟨by omega, by omega⟩
  have z0 : ∀ a : Int, 0 ≤ a → a ≤ 60 → ¬ zi a < 0 := fun a a0 a1 => by rw [zi0, zi_lt ⟨by omega, by omega⟩ zB0]; omega
  refine Z.copyl hdg hw ((laS hk).2.1 σ) ((laS hl).2.1 σ) (z0 i hi (by omega)) (z0 j hj (by omega)) (z0 n hn (by omega)) (by rw [ci, cn]; omega) (by rw [cj, cn]; omega) hd1 hcat ?_
  rw [ci, cj, cn]
  have e : va_cpy (fun y : Nat => zl (σ.2 (60 + 2 * k) y)) (fun y : Nat => zl (σ.2 (60 + 2 * l) y)) i.toNat j.toNat n.toNat = fun y : Nat => zl ((fun y : Int => if j ≤ y ∧ y < j + n then σ.2 (60 + 2 * k) (i + (y - j)) else σ.2 (60 + 2 * l) y) y) := by
    funext y
    unfold va_cpy
    by_cases q : j.toNat ≤ y ∧ y < j.toNat + n.toNat
    · rw [if_pos q]
      dsimp only
      rw [if_pos (by omega), show ((i.toNat + (y - j.toNat) : Nat) : Int) = i + ((y : Int) - j) by omega]
    · rw [if_neg q]
      dsimp only
      rw [if_neg (by omega)]
  rw [e, rowL hl (fun y : Int => if j ≤ y ∧ y < j + n then σ.2 (60 + 2 * k) (i + (y - j)) else σ.2 (60 + 2 * l) y)]
  exact k9
set_option maxHeartbeats 4000000 in
theorem c_X4_copy (hJ : SHJ σ σ) {q i t j n : Int} (hq : zB q) (hi : zB i) (ht : zB t) (hj : zB j) (hn : zB n) : YC 2 μX4_copy [.ref 0, .int (zi q), .int (zi i), .int (zi t), .int (zi j), .int (zi n)] σ (fun r s => (∃ k l : Nat, (k < 4 ∧ l < 4 ∧ q = (k : Int) ∧ t = (l : Int)) ∧ σ.1 (59 + 2 * k) 0 = 0 ∧ σ.1 (59 + 2 * l) 0 = 0 ∧ σ.1 (59 + 2 * k) 1 = σ.1 (59 + 2 * l) 1 ∧ (rgA σ k i n ∧ rgA σ l j n) ∧ r = some (.int (zi 1)) ∧ s = cpC σ k l i j n) ∨
    (∃ k l : Nat, (k < 4 ∧ l < 4 ∧ q = (k : Int) ∧ t = (l : Int)) ∧ (σ.1 (59 + 2 * k) 0 = 1 ∨ σ.1 (59 + 2 * l) 0 = 1) ∧ r = some (.int (zi (-11))) ∧ s = zu σ 0 5 1) ∨
    (∃ k l : Nat, (k < 4 ∧ l < 4 ∧ q = (k : Int) ∧ t = (l : Int)) ∧ σ.1 (59 + 2 * k) 0 = 0 ∧ σ.1 (59 + 2 * l) 0 = 0 ∧ ¬ σ.1 (59 + 2 * k) 1 = σ.1 (59 + 2 * l) 1 ∧ r = some (.int (zi (-14))) ∧ s = zu σ 0 5 4) ∨
    (∃ k l : Nat, (k < 4 ∧ l < 4 ∧ q = (k : Int) ∧ t = (l : Int)) ∧ σ.1 (59 + 2 * k) 0 = 0 ∧ σ.1 (59 + 2 * l) 0 = 0 ∧ σ.1 (59 + 2 * k) 1 = σ.1 (59 + 2 * l) 1 ∧ ¬ (rgA σ k i n ∧ rgA σ l j n) ∧ r = some (.int (zi (-12))) ∧ s = zu σ 0 5 2) ∨ (¬ ((0 ≤ q ∧ q ≤ 3) ∧ (0 ≤ t ∧ t ≤ 3)) ∧ r = some (.int (zi (-2))) ∧ s = σ)) := by
  refine YC.of2 (by decide) (Nat.le_of_ble_eq_true rfl) (fun d P hd hP => ?_)
  refine Y.iload_n dX4_copy_0 rfl ?_
  refine Y.cSI dX4_copy_1 mkX4_isSheet csX4_87 (c_X4_isSheet (by omega)) (by omega) rfl rfl (Nat.le_of_ble_eq_true rfl) ?_
  refine Y.ifz_eq 14 dX4_copy_4 (by decide) (fun h_4 => ?_) (fun h_4 => ?_)
  · refine Y.bipush dX4_copy_14 (by decide +kernel) ?_
    exact Y.iret dX4_copy_16 rfl (hP _ _ (Or.inr (Or.inr (Or.inr (Or.inr ⟨fun z => by first | exact absurd z.1 (by assumption) | exact absurd z.2 (by assumption), rfl, rfl⟩)))))
  · refine Y.iload_n dX4_copy_7 rfl ?_
    refine Y.cSI dX4_copy_8 mkX4_isSheet csX4_87 (c_X4_isSheet (by omega)) (by omega) rfl rfl (Nat.le_of_ble_eq_true rfl) ?_
    refine Y.ifz_ne 17 dX4_copy_11 (by decide) (fun h_11 => ?_) (fun h_11 => ?_)
    · obtain ⟨k, rfl⟩ : ∃ k : Nat, q = (k : Int) := ⟨q.toNat, by omega⟩
      have hk : k < 4 := by omega
      have hsh := hJ k hk
      have hb := hsh.b
      obtain ⟨l, rfl⟩ : ∃ l : Nat, t = (l : Int) := ⟨t.toNat, by omega⟩
      have hl : l < 4 := by omega
      have hsl := hJ l hl
      have hb2 := hsl.b
      refine Y.aload_n dX4_copy_17 rfl ?_
      refine Y.getf dX4_copy_18 flX4_37 ob0 rfl ?_
      refine Y.iload_n dX4_copy_21 rfl ?_
      refine Y.aald dX4_copy_22 ra58 (by decide) (by omega) (by omega) (hqS hk) ?_
      refine Y.astore dX4_copy_23 (by decide) rfl ?_
      refine Y.aload_n dX4_copy_25 rfl ?_
      refine Y.getf dX4_copy_26 flX4_37 ob0 rfl ?_
      refine Y.iload_n dX4_copy_29 rfl ?_
      refine Y.aald dX4_copy_30 ra58 (by decide) (by omega) (by omega) (hqS hl) ?_
      refine Y.astore dX4_copy_31 (by decide) rfl ?_
      refine Y.aload dX4_copy_33 rfl ?_
      refine Y.getf dX4_copy_35 flX4_90 (obS hk) rfl ?_
      refine Y.if_ne 49 dX4_copy_38 (by decide) (by omega) (fun h_38 => ?_) (fun h_38 => ?_)
      · refine Y.aload_n dX4_copy_49 rfl ?_
        refine Y.iconst dX4_copy_50 ?_
        refine Y.cVI dX4_copy_51 mkX4_found csX4_93 ob0 ⟨_, rfl, rfl⟩ c_X4_found (by omega) rfl rfl (Nat.le_of_ble_eq_true rfl) ?_
        exact Y.iret dX4_copy_54 rfl (hP _ _ (Or.inr (Or.inl ⟨k, l, ⟨hk, hl, rfl, rfl⟩, by omega, rfl, rfl⟩)))
      · refine Y.aload dX4_copy_41 rfl ?_
        refine Y.getf dX4_copy_43 flX4_90 (obS hl) rfl ?_
        refine Y.if_eq 55 dX4_copy_46 (by decide) (by omega) (fun h_46 => ?_) (fun h_46 => ?_)
        · refine Y.aload dX4_copy_55 rfl ?_
          refine Y.getf dX4_copy_57 flX4_178 (obS hk) rfl ?_
          refine Y.aload dX4_copy_60 rfl ?_
          refine Y.getf dX4_copy_62 flX4_178 (obS hl) rfl ?_
          refine Y.icmp_eq 74 dX4_copy_65 (by decide) (by omega) (by omega) (fun h_65 => ?_) (fun h_65 => ?_)
          · refine Y.aload dX4_copy_74 rfl ?_
            refine Y.iload_n dX4_copy_76 rfl ?_
            refine Y.iload dX4_copy_77 rfl ?_
            refine Y.cVI dX4_copy_79 mkX3_hasRange csX4_181 (obS hk) ⟨_, rfl, rfl⟩ (c_X3_hasRange hk hsh hi hn) (by omega) rfl rfl (Nat.le_of_ble_eq_true rfl) ?_
            refine Y.ifz_eq 97 dX4_copy_82 (by decide) (fun h_82 => ?_) (fun h_82 => ?_)
            · refine Y.aload_n dX4_copy_97 rfl ?_
              refine Y.iconst dX4_copy_98 ?_
              refine Y.cVI dX4_copy_99 mkX4_found csX4_93 ob0 ⟨_, rfl, rfl⟩ c_X4_found (by omega) rfl rfl (Nat.le_of_ble_eq_true rfl) ?_
              exact Y.iret dX4_copy_102 rfl (hP _ _ (Or.inr (Or.inr (Or.inr (Or.inl ⟨k, l, ⟨hk, hl, rfl, rfl⟩, by omega, by omega, by omega, fun z => by first | exact absurd z.1 (by assumption) | exact absurd z.2 (by assumption), rfl, rfl⟩)))))
            · refine Y.aload dX4_copy_85 rfl ?_
              refine Y.iload dX4_copy_87 rfl ?_
              refine Y.iload dX4_copy_89 rfl ?_
              refine Y.cVI dX4_copy_91 mkX3_hasRange csX4_181 (obS hl) ⟨_, rfl, rfl⟩ (c_X3_hasRange hl hsl hj hn) (by omega) rfl rfl (Nat.le_of_ble_eq_true rfl) ?_
              refine Y.ifz_ne 103 dX4_copy_94 (by decide) (fun h_94 => ?_) (fun h_94 => ?_)
              · refine Y.aload dX4_copy_103 rfl ?_
                refine Y.getf dX4_copy_105 flX4_104 (obS hk) rfl ?_
                refine Y.iload_n dX4_copy_108 rfl ?_
                refine Y.aload dX4_copy_109 rfl ?_
                refine Y.getf dX4_copy_111 flX4_104 (obS hl) rfl ?_
                refine Y.iload dX4_copy_114 rfl ?_
                refine Y.iload dX4_copy_116 rfl ?_
                have r1 : rgA σ k i n := by assumption
                have r2 : rgA σ l j n := by assumption
                have r3 := r1.1
                have r4 := r1.2.1
                have r5 := r1.2.2.2
                have r6 := r2.1
                have r7 := r2.2.2.2
                refine Y.copyl hk hl dX4_copy_118 csX4_185 (by omega) (by omega) (by omega) (by omega) (by omega) (by omega) (Nat.le_of_ble_eq_true rfl) ?_
                refine Y.iconst dX4_copy_121 ?_
                exact Y.iret dX4_copy_122 rfl (hP _ _ (Or.inl ⟨k, l, ⟨hk, hl, rfl, rfl⟩, by omega, by omega, by omega, ⟨r1, r2⟩, rfl, rfl⟩))
              · refine Y.aload_n dX4_copy_97 rfl ?_
                refine Y.iconst dX4_copy_98 ?_
                refine Y.cVI dX4_copy_99 mkX4_found csX4_93 ob0 ⟨_, rfl, rfl⟩ c_X4_found (by omega) rfl rfl (Nat.le_of_ble_eq_true rfl) ?_
                exact Y.iret dX4_copy_102 rfl (hP _ _ (Or.inr (Or.inr (Or.inr (Or.inl ⟨k, l, ⟨hk, hl, rfl, rfl⟩, by omega, by omega, by omega, fun z => by first | exact absurd z.1 (by assumption) | exact absurd z.2 (by assumption), rfl, rfl⟩)))))
          · refine Y.aload_n dX4_copy_68 rfl ?_
            refine Y.iconst dX4_copy_69 ?_
            refine Y.cVI dX4_copy_70 mkX4_found csX4_93 ob0 ⟨_, rfl, rfl⟩ c_X4_found (by omega) rfl rfl (Nat.le_of_ble_eq_true rfl) ?_
            exact Y.iret dX4_copy_73 rfl (hP _ _ (Or.inr (Or.inr (Or.inl ⟨k, l, ⟨hk, hl, rfl, rfl⟩, by omega, by omega, by omega, rfl, rfl⟩))))
        · refine Y.aload_n dX4_copy_49 rfl ?_
          refine Y.iconst dX4_copy_50 ?_
          refine Y.cVI dX4_copy_51 mkX4_found csX4_93 ob0 ⟨_, rfl, rfl⟩ c_X4_found (by omega) rfl rfl (Nat.le_of_ble_eq_true rfl) ?_
          exact Y.iret dX4_copy_54 rfl (hP _ _ (Or.inr (Or.inl ⟨k, l, ⟨hk, hl, rfl, rfl⟩, by omega, rfl, rfl⟩)))
    · refine Y.bipush dX4_copy_14 (by decide +kernel) ?_
      exact Y.iret dX4_copy_16 rfl (hP _ _ (Or.inr (Or.inr (Or.inr (Or.inr ⟨fun z => by first | exact absurd z.1 (by assumption) | exact absurd z.2 (by assumption), rfl, rfl⟩)))))
end ZK3
