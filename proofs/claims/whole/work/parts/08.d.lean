section ZL4
variable {σ : zS}
/-! sheets: the model's -/
def zfo (σ : zS) (a n : Int) : zS := (σ.1, fun c => if c = 70 then (fun y => if a ≤ y ∧ y < a + n then 0 else σ.2 70 y) else σ.2 c)
theorem zfo_0 (a : Int) : zfo σ a 0 = σ := by
  refine Prod.ext rfl (funext fun c => ?_)
  unfold zfo
  dsimp only
  by_cases h : c = 70
  · subst h
    rw [if_pos rfl]
    funext y
    rw [if_neg (by omega)]
  · rw [if_neg h]
theorem zfo_s {a n : Int} (h0 : 0 ≤ n) : zul (zfo σ a n) 70 (a + n) 0 = zfo σ a (n + 1) := by
  refine Prod.ext rfl (funext fun c => ?_)
  by_cases h : c = 70
  · subst h
    funext y
    have e : ∀ m : Int, (zfo σ a m).2 70 y = if a ≤ y ∧ y < a + m then 0 else σ.2 70 y := fun m => by unfold zfo; dsimp only; rw [if_pos rfl]
    by_cases hy : y = a + n
    · subst hy
      rw [zul_eq, e, if_pos (by omega)]
    · rw [zul_ne hy, e, e]
      by_cases q : a ≤ y ∧ y < a + n
      · rw [if_pos q, if_pos (by omega)]
      · rw [if_neg q, if_neg (by omega)]
  · rw [zul_nc h]
    unfold zfo
    dsimp only
    rw [if_neg h, if_neg h]
def bgM (σ : zS) (k : Nat) (f n : Int) : zS := zfo (zu (zu σ 68 k f) 69 k n) (60 * k) n
set_option maxHeartbeats 2000000 in
theorem c_X5_sheet {g : zS} (hJ : SHJ g σ) {q f n : Int} (hq : zB q) (hf : zB f) (hn : zB n) : YC 2 μX5_sheet [.ref 67, .int (zi q), .int (zi f), .int (zi n)] σ (fun r s => (∃ k : Nat, k < 4 ∧ q = (k : Int) ∧ ((0 ≤ q ∧ q ≤ 3) ∧ (0 ≤ f ∧ f ≤ 2) ∧ n ≤ 60) ∧ 0 ≤ n ∧ r = some (.int (zi n)) ∧ s = bgM σ k f n) ∨ (((0 ≤ q ∧ q ≤ 3) ∧ (0 ≤ f ∧ f ≤ 2) ∧ n ≤ 60) ∧ n < 0 ∧ r = some (.int (zi (-15))) ∧ s = zu σ 67 4 5) ∨ (¬ ((0 ≤ q ∧ q ≤ 3) ∧ (0 ≤ f ∧ f ≤ 2) ∧ n ≤ 60) ∧ r = some (.int (zi (-2))) ∧ s = σ)) := by
  refine YC.of2 (by decide) (Nat.le_of_ble_eq_true rfl) (fun d P hd hP => ?_)
  refine Y.iload_n dX5_sheet_0 rfl ?_
  refine Y.cSI dX5_sheet_1 mkX5_isSheet csX5_101 (c_X5_isSheet (by omega)) (by omega) rfl rfl (Nat.le_of_ble_eq_true rfl) ?_
  refine Y.ifz_eq 25 dX5_sheet_4 (by decide) (fun h_4 => ?_) (fun h_4 => ?_)
  · refine Y.bipush dX5_sheet_25 (by decide +kernel) ?_
    exact Y.iret dX5_sheet_27 rfl (hP _ _ (Or.inr (Or.inr ⟨fun z => by first | exact absurd z.1 (by assumption) | exact absurd z.2.1 (by assumption) | (have := z.2.2; omega), rfl, rfl⟩)))
  · refine Y.iload_n dX5_sheet_7 rfl ?_
    refine Y.i2l dX5_sheet_8 (by omega) ?_
    refine Y.lconst 0 dX5_sheet_9 rfl ?_
    refine Y.ldc2 (2) dX5_sheet_10 kX5_105 ?_
    refine Y.cSI dX5_sheet_13 mkX5_in csX5_89 (c_X5_in (by omega) (by omega) (by omega)) (by omega) rfl rfl (Nat.le_of_ble_eq_true rfl) ?_
    refine Y.ifz_eq 25 dX5_sheet_16 (by decide) (fun h_16 => ?_) (fun h_16 => ?_)
    · refine Y.bipush dX5_sheet_25 (by decide +kernel) ?_
      exact Y.iret dX5_sheet_27 rfl (hP _ _ (Or.inr (Or.inr ⟨fun z => by first | exact absurd z.1 (by assumption) | exact absurd z.2.1 (by assumption) | (have := z.2.2; omega), rfl, rfl⟩)))
    · refine Y.iload_n dX5_sheet_19 rfl ?_
      refine Y.bipush dX5_sheet_20 (by decide +kernel) ?_
      refine Y.icmp_le 28 dX5_sheet_22 (by decide) (by omega) (by omega) (fun h_22 => ?_) (fun h_22 => ?_)
      · refine Y.iload_n dX5_sheet_28 rfl ?_
        refine Y.if_ge 38 dX5_sheet_29 (by decide) (by omega) (fun h_29 => ?_) (fun h_29 => ?_)
        · obtain ⟨k, rfl⟩ : ∃ k : Nat, q = (k : Int) := ⟨q.toNat, by omega⟩
          have hk : k < 4 := by omega
          have hsh := hJ k hk
          have hb := hsh.b
          have hm := hsh.1
          have hz := hsh.2.1
          refine Y.aload_n dX5_sheet_38 rfl ?_
          refine Y.getf dX5_sheet_39 flX5_7 ob67 rfl ?_
          refine Y.iload_n dX5_sheet_42 rfl ?_
          refine Y.iload_n dX5_sheet_43 rfl ?_
          refine Y.iast dX5_sheet_44 ia68 (by omega) (by omega) ?_
          refine Y.aload_n dX5_sheet_45 rfl ?_
          refine Y.getf dX5_sheet_46 flX5_13 ob67 rfl ?_
          refine Y.iload_n dX5_sheet_49 rfl ?_
          refine Y.iload_n dX5_sheet_50 rfl ?_
          refine Y.iast dX5_sheet_51 ia69 (by omega) (by omega) ?_
          refine Y.iconst dX5_sheet_52 ?_
          refine Y.istore dX5_sheet_53 (by decide) rfl ?_
          have key := zw1 (fun i : Int => (0 ≤ i ∧ i ≤ n)) (fun i => Y d μX5_sheet 55 [some (.ref 67), some (.int (zi (k : Int))), some (.int (zi f)), some (.int (zi n)), some (.int (zi i))] [] (zfo (zu (zu σ 68 (k : Int) f) 69 (k : Int) n) (60 * (k : Int)) i) P) (fun i => (n - i).toNat) (by
              intro i hI ih
              obtain ⟨i1, i2⟩ := hI
              refine Y.iload dX5_sheet_55 rfl ?_
              refine Y.iload_n dX5_sheet_57 rfl ?_
              refine Y.icmp_ge 80 dX5_sheet_58 (by decide) (by omega) (by omega) (fun h_58 => ?_) (fun h_58 => ?_)
              · refine Y.iload_n dX5_sheet_80 rfl ?_
                exact Y.iret dX5_sheet_81 rfl (hP _ _ (Or.inl ⟨k, hk, rfl, ⟨by assumption, by assumption, by omega⟩, by omega, rfl, by rw [show i = n by omega]; rfl⟩))
              · refine Y.aload_n dX5_sheet_61 rfl ?_
                refine Y.getf dX5_sheet_62 flX5_16 ob67 rfl ?_
                refine Y.bipush dX5_sheet_65 (by decide +kernel) ?_
                refine Y.iload_n dX5_sheet_67 rfl ?_
                refine Y.imul dX5_sheet_68 ?_
                refine Y.iload dX5_sheet_69 rfl ?_
                refine Y.iadd dX5_sheet_71 ?_
                refine Y.lconst 0 dX5_sheet_72 rfl ?_
                refine Y.last dX5_sheet_73 la70 (by omega) (by omega) ?_
                refine Y.iinc dX5_sheet_74 rfl (by decide) rfl ?_
                refine Y.goto 55 dX5_sheet_77 (by decide) ?_
                rw [zfo_s i1]
                exact ih _ ⟨by omega, by omega⟩ (by omega)) 0 ⟨by omega, by omega⟩
          rw [zfo_0] at key
          exact key
        · refine Y.aload_n dX5_sheet_32 rfl ?_
          refine Y.iconst dX5_sheet_33 ?_
          refine Y.cVI dX5_sheet_34 mkX5_finds csX5_107 ob67 ⟨_, rfl, rfl⟩ c_X5_finds (by omega) rfl rfl (Nat.le_of_ble_eq_true rfl) ?_
          exact Y.iret dX5_sheet_37 rfl (hP _ _ (Or.inr (Or.inl ⟨⟨by assumption, by assumption, by omega⟩, by omega, rfl, rfl⟩)))
      · refine Y.bipush dX5_sheet_25 (by decide +kernel) ?_
        exact Y.iret dX5_sheet_27 rfl (hP _ _ (Or.inr (Or.inr ⟨fun z => by first | exact absurd z.1 (by assumption) | exact absurd z.2.1 (by assumption) | (have := z.2.2; omega), rfl, rfl⟩)))
set_option maxHeartbeats 1000000 in
theorem c_X5_lose {g : zS} (hJ : SHJ g σ) {q : Int} (hq : zB q) : YC 2 μX5_lose [.ref 67, .int (zi q)] σ (fun r s => (∃ k : Nat, k < 4 ∧ q = (k : Int) ∧ g.1 (59 + 2 * k) 0 = 0 ∧ r = some (.int (zi (g.1 (59 + 2 * k) 2))) ∧ s = zu σ 68 k (-1)) ∨ (∃ k : Nat, k < 4 ∧ q = (k : Int) ∧ g.1 (59 + 2 * k) 0 = 1 ∧ r = some (.int (zi (-11))) ∧ s = zu σ 67 4 1) ∨ (¬ (0 ≤ q ∧ q ≤ 3) ∧ r = some (.int (zi (-2))) ∧ s = σ)) := by
  refine YC.of2 (by decide) (Nat.le_of_ble_eq_true rfl) (fun d P hd hP => ?_)
  refine Y.iload_n dX5_lose_0 rfl ?_
  refine Y.cSI dX5_lose_1 mkX5_isSheet csX5_101 (c_X5_isSheet (by omega)) (by omega) rfl rfl (Nat.le_of_ble_eq_true rfl) ?_
  refine Y.ifz_ne 10 dX5_lose_4 (by decide) (fun h_4 => ?_) (fun h_4 => ?_)
  · obtain ⟨k, rfl⟩ : ∃ k : Nat, q = (k : Int) := ⟨q.toNat, by omega⟩
    have hk : k < 4 := by omega
    have hsh := hJ k hk
    have hb := hsh.b
    have hm := hsh.1
    have hz := hsh.2.1
    refine Y.aload_n dX5_lose_10 rfl ?_
    refine Y.getf dX5_lose_11 flX5_7 ob67 rfl ?_
    refine Y.iload_n dX5_lose_14 rfl ?_
    refine Y.iald dX5_lose_15 ia68 (by omega) (by omega) ?_
    refine Y.if_ge 25 dX5_lose_16 (by decide) (by omega) (fun h_16 => ?_) (fun h_16 => ?_)
    · refine Y.aload_n dX5_lose_25 rfl ?_
      refine Y.getf dX5_lose_26 flX5_7 ob67 rfl ?_
      refine Y.iload_n dX5_lose_29 rfl ?_
      refine Y.iconst dX5_lose_30 ?_
      refine Y.iast dX5_lose_31 ia68 (by omega) (by omega) ?_
      refine Y.aload_n dX5_lose_32 rfl ?_
      refine Y.getf dX5_lose_33 flX5_13 ob67 rfl ?_
      refine Y.iload_n dX5_lose_36 rfl ?_
      refine Y.iald dX5_lose_37 ia69 (by omega) (by omega) ?_
      exact Y.iret dX5_lose_38 rfl (hP _ _ (Or.inl ⟨k, hk, rfl, by omega, zrI (by rw [zu_nc (by omega)]; exact hz.1), rfl⟩))
    · refine Y.aload_n dX5_lose_19 rfl ?_
      refine Y.iconst dX5_lose_20 ?_
      refine Y.cVI dX5_lose_21 mkX5_finds csX5_107 ob67 ⟨_, rfl, rfl⟩ c_X5_finds (by omega) rfl rfl (Nat.le_of_ble_eq_true rfl) ?_
      exact Y.iret dX5_lose_24 rfl (hP _ _ (Or.inr (Or.inl ⟨k, hk, rfl, by omega, rfl, rfl⟩)))
  · refine Y.bipush dX5_lose_7 (by decide +kernel) ?_
    exact Y.iret dX5_lose_9 rfl (hP _ _ (Or.inr (Or.inr ⟨by assumption, rfl, rfl⟩)))
set_option maxHeartbeats 2000000 in
theorem c_X5_lacks {g : zS} {k : Nat} (hk : k < 4) (hsh : SHs g σ k) {f i : Int} (hf : zB f) (hi : zB i) : YC 1 μX5_lacks [.ref 67, .int (zi (k : Int)), .int (zi f), .int (zi i)] σ (fun r s => (trb g k f i = 0 ∧ r = some (.int (zi 0)) ∧ s = σ) ∨ (¬ trb g k f i = 0 ∧ r = some (.int (zi (-10 - trb g k f i))) ∧ s = zu σ 67 4 (trb g k f i))) := by
  refine YC.of2 (by decide) (Nat.le_of_ble_eq_true rfl) (fun d P hd hP => ?_)
  have hb := hsh.b
  have hm := hsh.1
  have hz := hsh.2.1
  have ht : (g.1 (59 + 2 * k) 0 = 1 ∧ trb g k f i = 1) ∨ (g.1 (59 + 2 * k) 0 = 0 ∧ ¬ g.1 (59 + 2 * k) 1 = f ∧ trb g k f i = 3) ∨ (g.1 (59 + 2 * k) 0 = 0 ∧ g.1 (59 + 2 * k) 1 = f ∧ ((0 ≤ i ∧ i ≤ g.1 (59 + 2 * k) 2 - 1 ∧ trb g k f i = 0) ∨ (¬ (0 ≤ i ∧ i ≤ g.1 (59 + 2 * k) 2 - 1) ∧ trb g k f i = 2))) := by
    unfold trb
    by_cases q1 : g.1 (59 + 2 * k) 0 = 1
    · rw [if_pos q1]; exact Or.inl ⟨q1, rfl⟩
    · rw [if_neg q1]
      by_cases q2 : g.1 (59 + 2 * k) 1 = f
      · rw [if_neg (fun z => z q2)]
        by_cases q3 : 0 ≤ i ∧ i ≤ g.1 (59 + 2 * k) 2 - 1
        · rw [if_pos q3]; exact Or.inr (Or.inr ⟨by omega, q2, Or.inl ⟨q3.1, q3.2, rfl⟩⟩)
        · rw [if_neg q3]; exact Or.inr (Or.inr ⟨by omega, q2, Or.inr ⟨q3, rfl⟩⟩)
      · rw [if_pos q2]; exact Or.inr (Or.inl ⟨by omega, q2, rfl⟩)
  refine Y.aload_n dX5_lacks_0 rfl ?_
  refine Y.getf dX5_lacks_1 flX5_7 ob67 rfl ?_
  refine Y.iload_n dX5_lacks_4 rfl ?_
  refine Y.iald dX5_lacks_5 ia68 (by omega) (by omega) ?_
  refine Y.if_ge 15 dX5_lacks_6 (by decide) (by omega) (fun h_6 => ?_) (fun h_6 => ?_)
  · refine Y.aload_n dX5_lacks_15 rfl ?_
    refine Y.getf dX5_lacks_16 flX5_7 ob67 rfl ?_
    refine Y.iload_n dX5_lacks_19 rfl ?_
    refine Y.iald dX5_lacks_20 ia68 (by omega) (by omega) ?_
    refine Y.iload_n dX5_lacks_21 rfl ?_
    refine Y.icmp_eq 31 dX5_lacks_22 (by decide) (by omega) (by omega) (fun h_22 => ?_) (fun h_22 => ?_)
    · refine Y.iload_n dX5_lacks_31 rfl ?_
      refine Y.i2l dX5_lacks_32 (by omega) ?_
      refine Y.lconst 0 dX5_lacks_33 rfl ?_
      refine Y.aload_n dX5_lacks_34 rfl ?_
      refine Y.getf dX5_lacks_35 flX5_13 ob67 rfl ?_
      refine Y.iload_n dX5_lacks_38 rfl ?_
      refine Y.iald dX5_lacks_39 ia69 (by omega) (by omega) ?_
      refine Y.iconst dX5_lacks_40 ?_
      refine Y.isub dX5_lacks_41 ?_
      refine Y.i2l dX5_lacks_42 (by omega) ?_
      refine Y.cSI dX5_lacks_43 mkX5_in csX5_89 (c_X5_in (by omega) (by omega) (by omega)) (by omega) rfl rfl (Nat.le_of_ble_eq_true rfl) ?_
      refine Y.ifz_eq 53 dX5_lacks_46 (by decide) (fun h_46 => ?_) (fun h_46 => ?_)
      · refine Y.aload_n dX5_lacks_53 rfl ?_
        refine Y.iconst dX5_lacks_54 ?_
        refine Y.cVI dX5_lacks_55 mkX5_finds csX5_107 ob67 ⟨_, rfl, rfl⟩ c_X5_finds (by omega) rfl rfl (Nat.le_of_ble_eq_true rfl) ?_
        exact Y.iret dX5_lacks_58 rfl (hP _ _ (by first | (have e : trb g k f i = 1 := (by omega); exact Or.inr ⟨by omega, by rw [e], by rw [e]⟩) | (have e : trb g k f i = 3 := (by omega); exact Or.inr ⟨by omega, by rw [e], by rw [e]⟩) | (have e : trb g k f i = 0 := (by omega); exact Or.inl ⟨e, rfl, rfl⟩) | (have e : trb g k f i = 2 := (by omega); exact Or.inr ⟨by omega, by rw [e], by rw [e]⟩)))
      · refine Y.iconst dX5_lacks_49 ?_
        refine Y.goto 58 dX5_lacks_50 (by decide) ?_
        exact Y.iret dX5_lacks_58 rfl (hP _ _ (by first | (have e : trb g k f i = 1 := (by omega); exact Or.inr ⟨by omega, by rw [e], by rw [e]⟩) | (have e : trb g k f i = 3 := (by omega); exact Or.inr ⟨by omega, by rw [e], by rw [e]⟩) | (have e : trb g k f i = 0 := (by omega); exact Or.inl ⟨e, rfl, rfl⟩) | (have e : trb g k f i = 2 := (by omega); exact Or.inr ⟨by omega, by rw [e], by rw [e]⟩)))
    · refine Y.aload_n dX5_lacks_25 rfl ?_
      refine Y.iconst dX5_lacks_26 ?_
      refine Y.cVI dX5_lacks_27 mkX5_finds csX5_107 ob67 ⟨_, rfl, rfl⟩ c_X5_finds (by omega) rfl rfl (Nat.le_of_ble_eq_true rfl) ?_
      exact Y.iret dX5_lacks_30 rfl (hP _ _ (by first | (have e : trb g k f i = 1 := (by omega); exact Or.inr ⟨by omega, by rw [e], by rw [e]⟩) | (have e : trb g k f i = 3 := (by omega); exact Or.inr ⟨by omega, by rw [e], by rw [e]⟩) | (have e : trb g k f i = 0 := (by omega); exact Or.inl ⟨e, rfl, rfl⟩) | (have e : trb g k f i = 2 := (by omega); exact Or.inr ⟨by omega, by rw [e], by rw [e]⟩)))
  · refine Y.aload_n dX5_lacks_9 rfl ?_
    refine Y.iconst dX5_lacks_10 ?_
    refine Y.cVI dX5_lacks_11 mkX5_finds csX5_107 ob67 ⟨_, rfl, rfl⟩ c_X5_finds (by omega) rfl rfl (Nat.le_of_ble_eq_true rfl) ?_
    exact Y.iret dX5_lacks_14 rfl (hP _ _ (by first | (have e : trb g k f i = 1 := (by omega); exact Or.inr ⟨by omega, by rw [e], by rw [e]⟩) | (have e : trb g k f i = 3 := (by omega); exact Or.inr ⟨by omega, by rw [e], by rw [e]⟩) | (have e : trb g k f i = 0 := (by omega); exact Or.inl ⟨e, rfl, rfl⟩) | (have e : trb g k f i = 2 := (by omega); exact Or.inr ⟨by omega, by rw [e], by rw [e]⟩)))
set_option maxHeartbeats 2000000 in
theorem c_X5_lay {g : zS} (hJ : SHJ g σ) {q f i v : Int} (hq : zB q) (hf : zB f) (hi : zB i) (hv : zB v) : YC 2 μX5_lay [.ref 67, .int (zi q), .int (zi f), .int (zi i), .int (zi v)] σ (fun r s => (∃ k : Nat, k < 4 ∧ q = (k : Int) ∧ ((0 ≤ q ∧ q ≤ 3) ∧ (0 ≤ f ∧ f ≤ 2)) ∧ trb g k f i = 0 ∧ r = some (.int (zi 1)) ∧ s = zul σ 70 (60 * k + i) (lvA f v)) ∨ (∃ k : Nat, k < 4 ∧ q = (k : Int) ∧ ((0 ≤ q ∧ q ≤ 3) ∧ (0 ≤ f ∧ f ≤ 2)) ∧ ¬ trb g k f i = 0 ∧ r = some (.int (zi (-10 - trb g k f i))) ∧ s = zu σ 67 4 (trb g k f i)) ∨ (¬ ((0 ≤ q ∧ q ≤ 3) ∧ (0 ≤ f ∧ f ≤ 2)) ∧ r = some (.int (zi (-2))) ∧ s = σ)) := by
  refine YC.of2 (by decide) (Nat.le_of_ble_eq_true rfl) (fun d P hd hP => ?_)
  refine Y.iload_n dX5_lay_0 rfl ?_
  refine Y.cSI dX5_lay_1 mkX5_isSheet csX5_101 (c_X5_isSheet (by omega)) (by omega) rfl rfl (Nat.le_of_ble_eq_true rfl) ?_
  refine Y.ifz_eq 19 dX5_lay_4 (by decide) (fun h_4 => ?_) (fun h_4 => ?_)
  · refine Y.bipush dX5_lay_19 (by decide +kernel) ?_
    exact Y.iret dX5_lay_21 rfl (hP _ _ (Or.inr (Or.inr ⟨fun z => by first | exact absurd z.1 (by assumption) | exact absurd z.2 (by assumption), rfl, rfl⟩)))
  · refine Y.iload_n dX5_lay_7 rfl ?_
    refine Y.i2l dX5_lay_8 (by omega) ?_
    refine Y.lconst 0 dX5_lay_9 rfl ?_
    refine Y.ldc2 (2) dX5_lay_10 kX5_105 ?_
    refine Y.cSI dX5_lay_13 mkX5_in csX5_89 (c_X5_in (by omega) (by omega) (by omega)) (by omega) rfl rfl (Nat.le_of_ble_eq_true rfl) ?_
    refine Y.ifz_ne 22 dX5_lay_16 (by decide) (fun h_16 => ?_) (fun h_16 => ?_)
    · obtain ⟨k, rfl⟩ : ∃ k : Nat, q = (k : Int) := ⟨q.toNat, by omega⟩
      have hk : k < 4 := by omega
      have hsh := hJ k hk
      have hb := hsh.b
      have hm := hsh.1
      have hz := hsh.2.1
      refine Y.aload_n dX5_lay_22 rfl ?_
      refine Y.iload_n dX5_lay_23 rfl ?_
      refine Y.iload_n dX5_lay_24 rfl ?_
      refine Y.iload_n dX5_lay_25 rfl ?_
      refine Y.callV dX5_lay_26 mkX5_lacks csX5_111 ob67 ⟨_, rfl, rfl⟩ (c_X5_lacks hk hsh hf hi) (by omega) rfl rfl (Nat.le_of_ble_eq_true rfl) (fun r_26 s_26 p_26 => ?_)
      have htf : trb g k f i = 0 → 0 ≤ i ∧ i < g.1 (59 + 2 * k) 2 := fun q => by
        unfold trb at q
        split at q
        · omega
        · split at q
          · omega
          · split at q <;> omega
      have htn : trb g k f i = 0 ∨ (1 ≤ trb g k f i ∧ trb g k f i ≤ 3) := by
        unfold trb
        split
        · omega
        · split
          · omega
          · split <;> omega
      rcases p_26 with ⟨t0, rfl, rfl⟩ | ⟨t0, rfl, rfl⟩
      · refine Y.istore dX5_lay_29 (by decide) rfl ?_
        refine Y.iload dX5_lay_31 rfl ?_
        have ht := htf t0
        refine Y.if_eq 39 dX5_lay_33 (by decide) (by omega) (fun h_33 => ?_) (fun h_33 => ?_)
        rotate_left
        · exfalso; omega
        refine Y.aload_n dX5_lay_39 rfl ?_
        refine Y.getf dX5_lay_40 flX5_16 ob67 rfl ?_
        refine Y.bipush dX5_lay_43 (by decide +kernel) ?_
        refine Y.iload_n dX5_lay_45 rfl ?_
        refine Y.imul dX5_lay_46 ?_
        refine Y.iload_n dX5_lay_47 rfl ?_
        refine Y.iadd dX5_lay_48 ?_
        refine Y.iload_n dX5_lay_49 rfl ?_
        refine Y.if_ne 60 dX5_lay_50 (by decide) (by omega) (fun h_50 => ?_) (fun h_50 => ?_)
        · refine Y.iload_n dX5_lay_60 rfl ?_
          refine Y.iconst dX5_lay_61 ?_
          refine Y.icmp_ne 71 dX5_lay_62 (by decide) (by omega) (by omega) (fun h_62 => ?_) (fun h_62 => ?_)
          · refine Y.ldc2 (100000007) dX5_lay_71 kX5_115 ?_
            refine Y.iload dX5_lay_74 rfl ?_
            refine Y.i2l dX5_lay_76 (by omega) ?_
            refine Y.lmul dX5_lay_77 ?_
            refine Y.last dX5_lay_78 la70 (by omega) (by omega) ?_
            refine Y.iconst dX5_lay_79 ?_
            exact Y.iret dX5_lay_80 rfl (hP _ _ (Or.inl ⟨k, hk, rfl, ⟨by assumption, by assumption⟩, t0, rfl, by unfold lvA; congr 1; first | (rw [if_pos (by omega)]; done) | (rw [if_neg (by omega), if_neg (by omega)]; done) | (rw [if_neg (by omega), if_pos (by omega)]; omega)⟩))
          · refine Y.iload dX5_lay_65 rfl ?_
            refine Y.i2l dX5_lay_67 (by omega) ?_
            refine Y.goto 78 dX5_lay_68 (by decide) ?_
            refine Y.last dX5_lay_78 la70 (by omega) (by omega) ?_
            refine Y.iconst dX5_lay_79 ?_
            exact Y.iret dX5_lay_80 rfl (hP _ _ (Or.inl ⟨k, hk, rfl, ⟨by assumption, by assumption⟩, t0, rfl, by unfold lvA; congr 1; first | (rw [if_pos (by omega)]; done) | (rw [if_neg (by omega), if_neg (by omega)]; done) | (rw [if_neg (by omega), if_pos (by omega)]; omega)⟩))
        · refine Y.iload dX5_lay_53 rfl ?_
          refine Y.i2s dX5_lay_55 ?_
          refine Y.i2l dX5_lay_56 (zsh_B _) ?_
          refine Y.goto 78 dX5_lay_57 (by decide) ?_
          refine Y.last dX5_lay_78 la70 (by omega) (by omega) ?_
          refine Y.iconst dX5_lay_79 ?_
          exact Y.iret dX5_lay_80 rfl (hP _ _ (Or.inl ⟨k, hk, rfl, ⟨by assumption, by assumption⟩, t0, rfl, by unfold lvA; congr 1; first | (rw [if_pos (by omega)]; done) | (rw [if_neg (by omega), if_neg (by omega)]; done) | (rw [if_neg (by omega), if_pos (by omega)]; omega)⟩))
      · refine Y.istore dX5_lay_29 (by decide) rfl ?_
        refine Y.iload dX5_lay_31 rfl ?_
        refine Y.if_eq 39 dX5_lay_33 (by decide) (by omega) (fun h_33 => ?_) (fun h_33 => ?_)
        · exfalso; omega
        refine Y.iload dX5_lay_36 rfl ?_
        exact Y.iret dX5_lay_38 rfl (hP _ _ (Or.inr (Or.inl ⟨k, hk, rfl, ⟨by assumption, by assumption⟩, t0, rfl, rfl⟩)))
    · refine Y.bipush dX5_lay_19 (by decide +kernel) ?_
      exact Y.iret dX5_lay_21 rfl (hP _ _ (Or.inr (Or.inr ⟨fun z => by first | exact absurd z.1 (by assumption) | exact absurd z.2 (by assumption), rfl, rfl⟩)))
set_option maxHeartbeats 2000000 in
theorem c_X5_get {g : zS} (hJ : SHJ g σ) {q f i : Int} (hq : zB q) (hf : zB f) (hi : zB i) : YC 2 μX5_get [.ref 67, .int (zi q), .int (zi f), .int (zi i)] σ (fun r s => (∃ k : Nat, k < 4 ∧ q = (k : Int) ∧ ((0 ≤ q ∧ q ≤ 3) ∧ (0 ≤ f ∧ f ≤ 2)) ∧ trb g k f i = 0 ∧ r = some (.long (zl (g.2 (60 + 2 * k) i))) ∧ s = σ) ∨ (∃ k : Nat, k < 4 ∧ q = (k : Int) ∧ ((0 ≤ q ∧ q ≤ 3) ∧ (0 ≤ f ∧ f ≤ 2)) ∧ ¬ trb g k f i = 0 ∧ r = some (.long (zl (-9223372036854775808 - (-10 - trb g k f i)))) ∧ s = zu σ 67 4 (trb g k f i)) ∨ (¬ ((0 ≤ q ∧ q ≤ 3) ∧ (0 ≤ f ∧ f ≤ 2)) ∧ r = some (.long (zl (-9223372036854775806))) ∧ s = σ)) := by
  refine YC.of2 (by decide) (Nat.le_of_ble_eq_true rfl) (fun d P hd hP => ?_)
  refine Y.iload_n dX5_get_0 rfl ?_
  refine Y.cSI dX5_get_1 mkX5_isSheet csX5_101 (c_X5_isSheet (by omega)) (by omega) rfl rfl (Nat.le_of_ble_eq_true rfl) ?_
  refine Y.ifz_eq 19 dX5_get_4 (by decide) (fun h_4 => ?_) (fun h_4 => ?_)
  · refine Y.bipush dX5_get_19 (by decide +kernel) ?_
    refine Y.cSJ dX5_get_21 mkX5_no csX5_117 (c_X5_no (by omega)) (by omega) rfl rfl (Nat.le_of_ble_eq_true rfl) ?_
    exact Y.lret dX5_get_24 rfl (hP _ _ (Or.inr (Or.inr ⟨fun z => by first | exact absurd z.1 (by assumption) | exact absurd z.2 (by assumption), rfl, rfl⟩)))
  · refine Y.iload_n dX5_get_7 rfl ?_
    refine Y.i2l dX5_get_8 (by omega) ?_
    refine Y.lconst 0 dX5_get_9 rfl ?_
    refine Y.ldc2 (2) dX5_get_10 kX5_105 ?_
    refine Y.cSI dX5_get_13 mkX5_in csX5_89 (c_X5_in (by omega) (by omega) (by omega)) (by omega) rfl rfl (Nat.le_of_ble_eq_true rfl) ?_
    refine Y.ifz_ne 25 dX5_get_16 (by decide) (fun h_16 => ?_) (fun h_16 => ?_)
    · obtain ⟨k, rfl⟩ : ∃ k : Nat, q = (k : Int) := ⟨q.toNat, by omega⟩
      have hk : k < 4 := by omega
      have hsh := hJ k hk
      have hb := hsh.b
      have hm := hsh.1
      have hz := hsh.2.1
      refine Y.aload_n dX5_get_25 rfl ?_
      refine Y.iload_n dX5_get_26 rfl ?_
      refine Y.iload_n dX5_get_27 rfl ?_
      refine Y.iload_n dX5_get_28 rfl ?_
      refine Y.callV dX5_get_29 mkX5_lacks csX5_111 ob67 ⟨_, rfl, rfl⟩ (c_X5_lacks hk hsh hf hi) (by omega) rfl rfl (Nat.le_of_ble_eq_true rfl) (fun r_29 s_29 p_29 => ?_)
      have htf : trb g k f i = 0 → 0 ≤ i ∧ i < g.1 (59 + 2 * k) 2 := fun q => by
        unfold trb at q
        split at q
        · omega
        · split at q
          · omega
          · split at q <;> omega
      have htn : trb g k f i = 0 ∨ (1 ≤ trb g k f i ∧ trb g k f i ≤ 3) := by
        unfold trb
        split
        · omega
        · split
          · omega
          · split <;> omega
      rcases p_29 with ⟨t0, rfl, rfl⟩ | ⟨t0, rfl, rfl⟩
      · refine Y.istore dX5_get_32 (by decide) rfl ?_
        refine Y.iload dX5_get_34 rfl ?_
        have ht := htf t0
        have hit := (hsh.2.2 i ht.1 ht.2).1
        refine Y.if_eq 47 dX5_get_36 (by decide) (by omega) (fun h_36 => ?_) (fun h_36 => ?_)
        rotate_left
        · exfalso; omega
        refine Y.aload_n dX5_get_47 rfl ?_
        refine Y.getf dX5_get_48 flX5_16 ob67 rfl ?_
        refine Y.bipush dX5_get_51 (by decide +kernel) ?_
        refine Y.iload_n dX5_get_53 rfl ?_
        refine Y.imul dX5_get_54 ?_
        refine Y.iload_n dX5_get_55 rfl ?_
        refine Y.iadd dX5_get_56 ?_
        refine Y.lald dX5_get_57 la70 (by omega) (by omega) ?_
        exact Y.lret dX5_get_58 rfl (hP _ _ (Or.inl ⟨k, hk, rfl, ⟨by assumption, by assumption⟩, t0, by rw [hit], rfl⟩))
      · refine Y.istore dX5_get_32 (by decide) rfl ?_
        refine Y.iload dX5_get_34 rfl ?_
        refine Y.if_eq 47 dX5_get_36 (by decide) (by omega) (fun h_36 => ?_) (fun h_36 => ?_)
        · exfalso; omega
        refine Y.iload dX5_get_39 rfl ?_
        refine Y.cSJ dX5_get_41 mkX5_no csX5_117 (c_X5_no (by omega)) (by omega) rfl rfl (Nat.le_of_ble_eq_true rfl) ?_
        refine Y.goto 58 dX5_get_44 (by decide) ?_
        exact Y.lret dX5_get_58 rfl (hP _ _ (Or.inr (Or.inl ⟨k, hk, rfl, ⟨by assumption, by assumption⟩, t0, rfl, rfl⟩)))
    · refine Y.bipush dX5_get_19 (by decide +kernel) ?_
      refine Y.cSJ dX5_get_21 mkX5_no csX5_117 (c_X5_no (by omega)) (by omega) rfl rfl (Nat.le_of_ble_eq_true rfl) ?_
      exact Y.lret dX5_get_24 rfl (hP _ _ (Or.inr (Or.inr ⟨fun z => by first | exact absurd z.1 (by assumption) | exact absurd z.2 (by assumption), rfl, rfl⟩)))
def cpM (σ s : zS) (k l : Nat) (i j n : Int) : Prop := s.1 = σ.1 ∧ (∀ c : Nat, c ≠ 70 → c ≠ 71 → s.2 c = σ.2 c) ∧ ∀ y : Int, s.2 70 y = if 60 * l + j ≤ y ∧ y < 60 * l + j + n then σ.2 70 (60 * k + i + (y - (60 * l + j))) else σ.2 70 y
set_option maxHeartbeats 4000000 in
theorem c_X5_copy {g : zS} (hJ : SHJ g σ) {q i t j n : Int} (hq : zB q) (hi : zB i) (ht : zB t) (hj : zB j) (hn : zB n) : YC 2 μX5_copy [.ref 67, .int (zi q), .int (zi i), .int (zi t), .int (zi j), .int (zi n)] σ (fun r s => (∃ k l : Nat, (k < 4 ∧ l < 4 ∧ q = (k : Int) ∧ t = (l : Int)) ∧ g.1 (59 + 2 * k) 0 = 0 ∧ g.1 (59 + 2 * l) 0 = 0 ∧ g.1 (59 + 2 * k) 1 = g.1 (59 + 2 * l) 1 ∧ (rgA g k i n ∧ rgA g l j n) ∧ r = some (.int (zi 1)) ∧ cpM σ s k l i j n) ∨
    (∃ k l : Nat, (k < 4 ∧ l < 4 ∧ q = (k : Int) ∧ t = (l : Int)) ∧ (g.1 (59 + 2 * k) 0 = 1 ∨ g.1 (59 + 2 * l) 0 = 1) ∧ r = some (.int (zi (-11))) ∧ s = zu σ 67 4 1) ∨
    (∃ k l : Nat, (k < 4 ∧ l < 4 ∧ q = (k : Int) ∧ t = (l : Int)) ∧ g.1 (59 + 2 * k) 0 = 0 ∧ g.1 (59 + 2 * l) 0 = 0 ∧ ¬ g.1 (59 + 2 * k) 1 = g.1 (59 + 2 * l) 1 ∧ r = some (.int (zi (-14))) ∧ s = zu σ 67 4 4) ∨
    (∃ k l : Nat, (k < 4 ∧ l < 4 ∧ q = (k : Int) ∧ t = (l : Int)) ∧ g.1 (59 + 2 * k) 0 = 0 ∧ g.1 (59 + 2 * l) 0 = 0 ∧ g.1 (59 + 2 * k) 1 = g.1 (59 + 2 * l) 1 ∧ ¬ (rgA g k i n ∧ rgA g l j n) ∧ r = some (.int (zi (-12))) ∧ s = zu σ 67 4 2) ∨ (¬ ((0 ≤ q ∧ q ≤ 3) ∧ (0 ≤ t ∧ t ≤ 3)) ∧ r = some (.int (zi (-2))) ∧ s = σ)) := by
  refine YC.of2 (by decide) (Nat.le_of_ble_eq_true rfl) (fun d P hd hP => ?_)
  refine Y.iload_n dX5_copy_0 rfl ?_
  refine Y.cSI dX5_copy_1 mkX5_isSheet csX5_101 (c_X5_isSheet (by omega)) (by omega) rfl rfl (Nat.le_of_ble_eq_true rfl) ?_
  refine Y.ifz_eq 14 dX5_copy_4 (by decide) (fun h_4 => ?_) (fun h_4 => ?_)
  · refine Y.bipush dX5_copy_14 (by decide +kernel) ?_
    exact Y.iret dX5_copy_16 rfl (hP _ _ (Or.inr (Or.inr (Or.inr (Or.inr ⟨fun z => by first | exact absurd z.1 (by assumption) | exact absurd z.2 (by assumption), rfl, rfl⟩)))))
  · refine Y.iload_n dX5_copy_7 rfl ?_
    refine Y.cSI dX5_copy_8 mkX5_isSheet csX5_101 (c_X5_isSheet (by omega)) (by omega) rfl rfl (Nat.le_of_ble_eq_true rfl) ?_
    refine Y.ifz_ne 17 dX5_copy_11 (by decide) (fun h_11 => ?_) (fun h_11 => ?_)
    · obtain ⟨k, rfl⟩ : ∃ k : Nat, q = (k : Int) := ⟨q.toNat, by omega⟩
      have hk : k < 4 := by omega
      have hsh := hJ k hk
      have hb := hsh.b
      have hm := hsh.1
      have hz := hsh.2.1
      obtain ⟨l, rfl⟩ : ∃ l : Nat, t = (l : Int) := ⟨t.toNat, by omega⟩
      have hl : l < 4 := by omega
      have hsl := hJ l hl
      have hb2 := hsl.b
      have hm2 := hsl.1
      have hz2 := hsl.2.1
      refine Y.aload_n dX5_copy_17 rfl ?_
      refine Y.getf dX5_copy_18 flX5_7 ob67 rfl ?_
      refine Y.iload_n dX5_copy_21 rfl ?_
      refine Y.iald dX5_copy_22 ia68 (by omega) (by omega) ?_
      refine Y.if_lt 35 dX5_copy_23 (by decide) (by omega) (fun h_23 => ?_) (fun h_23 => ?_)
      · refine Y.aload_n dX5_copy_35 rfl ?_
        refine Y.iconst dX5_copy_36 ?_
        refine Y.cVI dX5_copy_37 mkX5_finds csX5_107 ob67 ⟨_, rfl, rfl⟩ c_X5_finds (by omega) rfl rfl (Nat.le_of_ble_eq_true rfl) ?_
        exact Y.iret dX5_copy_40 rfl (hP _ _ (Or.inr (Or.inl ⟨k, l, ⟨hk, hl, rfl, rfl⟩, by omega, rfl, rfl⟩)))
      · refine Y.aload_n dX5_copy_26 rfl ?_
        refine Y.getf dX5_copy_27 flX5_7 ob67 rfl ?_
        refine Y.iload_n dX5_copy_30 rfl ?_
        refine Y.iald dX5_copy_31 ia68 (by omega) (by omega) ?_
        refine Y.if_ge 41 dX5_copy_32 (by decide) (by omega) (fun h_32 => ?_) (fun h_32 => ?_)
        · refine Y.aload_n dX5_copy_41 rfl ?_
          refine Y.getf dX5_copy_42 flX5_7 ob67 rfl ?_
          refine Y.iload_n dX5_copy_45 rfl ?_
          refine Y.iald dX5_copy_46 ia68 (by omega) (by omega) ?_
          refine Y.aload_n dX5_copy_47 rfl ?_
          refine Y.getf dX5_copy_48 flX5_7 ob67 rfl ?_
          refine Y.iload_n dX5_copy_51 rfl ?_
          refine Y.iald dX5_copy_52 ia68 (by omega) (by omega) ?_
          refine Y.icmp_eq 62 dX5_copy_53 (by decide) (by omega) (by omega) (fun h_53 => ?_) (fun h_53 => ?_)
          · refine Y.iload_n dX5_copy_62 rfl ?_
            refine Y.if_lt 111 dX5_copy_63 (by decide) (by omega) (fun h_63 => ?_) (fun h_63 => ?_)
            · refine Y.aload_n dX5_copy_111 rfl ?_
              refine Y.iconst dX5_copy_112 ?_
              refine Y.cVI dX5_copy_113 mkX5_finds csX5_107 ob67 ⟨_, rfl, rfl⟩ c_X5_finds (by omega) rfl rfl (Nat.le_of_ble_eq_true rfl) ?_
              exact Y.iret dX5_copy_116 rfl (hP _ _ (Or.inr (Or.inr (Or.inr (Or.inl ⟨k, l, ⟨hk, hl, rfl, rfl⟩, by omega, by omega, by omega, fun z => by obtain ⟨⟨z1, z2, z3, z4⟩, z5, z6, z7, z8⟩ := z; omega, rfl, rfl⟩)))))
            · refine Y.iload dX5_copy_66 rfl ?_
              refine Y.if_lt 111 dX5_copy_68 (by decide) (by omega) (fun h_68 => ?_) (fun h_68 => ?_)
              · refine Y.aload_n dX5_copy_111 rfl ?_
                refine Y.iconst dX5_copy_112 ?_
                refine Y.cVI dX5_copy_113 mkX5_finds csX5_107 ob67 ⟨_, rfl, rfl⟩ c_X5_finds (by omega) rfl rfl (Nat.le_of_ble_eq_true rfl) ?_
                exact Y.iret dX5_copy_116 rfl (hP _ _ (Or.inr (Or.inr (Or.inr (Or.inl ⟨k, l, ⟨hk, hl, rfl, rfl⟩, by omega, by omega, by omega, fun z => by obtain ⟨⟨z1, z2, z3, z4⟩, z5, z6, z7, z8⟩ := z; omega, rfl, rfl⟩)))))
              · refine Y.iload dX5_copy_71 rfl ?_
                refine Y.if_lt 111 dX5_copy_73 (by decide) (by omega) (fun h_73 => ?_) (fun h_73 => ?_)
                · refine Y.aload_n dX5_copy_111 rfl ?_
                  refine Y.iconst dX5_copy_112 ?_
                  refine Y.cVI dX5_copy_113 mkX5_finds csX5_107 ob67 ⟨_, rfl, rfl⟩ c_X5_finds (by omega) rfl rfl (Nat.le_of_ble_eq_true rfl) ?_
                  exact Y.iret dX5_copy_116 rfl (hP _ _ (Or.inr (Or.inr (Or.inr (Or.inl ⟨k, l, ⟨hk, hl, rfl, rfl⟩, by omega, by omega, by omega, fun z => by obtain ⟨⟨z1, z2, z3, z4⟩, z5, z6, z7, z8⟩ := z; omega, rfl, rfl⟩)))))
                · refine Y.iload_n dX5_copy_76 rfl ?_
                  refine Y.i2l dX5_copy_77 (by omega) ?_
                  refine Y.iload dX5_copy_78 rfl ?_
                  refine Y.i2l dX5_copy_80 (by omega) ?_
                  refine Y.ladd dX5_copy_81 ?_
                  refine Y.aload_n dX5_copy_82 rfl ?_
                  refine Y.getf dX5_copy_83 flX5_13 ob67 rfl ?_
                  refine Y.iload_n dX5_copy_86 rfl ?_
                  refine Y.iald dX5_copy_87 ia69 (by omega) (by omega) ?_
                  refine Y.i2l dX5_copy_88 (by omega) ?_
                  refine Y.lcmp dX5_copy_89 (by omega) (by omega) (fun c_89 bc_89 lc_89 ec_89 => ?_)
                  refine Y.if_gt 111 dX5_copy_90 (by decide) (by omega) (fun h_90 => ?_) (fun h_90 => ?_)
                  · refine Y.aload_n dX5_copy_111 rfl ?_
                    refine Y.iconst dX5_copy_112 ?_
                    refine Y.cVI dX5_copy_113 mkX5_finds csX5_107 ob67 ⟨_, rfl, rfl⟩ c_X5_finds (by omega) rfl rfl (Nat.le_of_ble_eq_true rfl) ?_
                    exact Y.iret dX5_copy_116 rfl (hP _ _ (Or.inr (Or.inr (Or.inr (Or.inl ⟨k, l, ⟨hk, hl, rfl, rfl⟩, by omega, by omega, by omega, fun z => by obtain ⟨⟨z1, z2, z3, z4⟩, z5, z6, z7, z8⟩ := z; omega, rfl, rfl⟩)))))
                  · refine Y.iload dX5_copy_93 rfl ?_
                    refine Y.i2l dX5_copy_95 (by omega) ?_
                    refine Y.iload dX5_copy_96 rfl ?_
                    refine Y.i2l dX5_copy_98 (by omega) ?_
                    refine Y.ladd dX5_copy_99 ?_
                    refine Y.aload_n dX5_copy_100 rfl ?_
                    refine Y.getf dX5_copy_101 flX5_13 ob67 rfl ?_
                    refine Y.iload_n dX5_copy_104 rfl ?_
                    refine Y.iald dX5_copy_105 ia69 (by omega) (by omega) ?_
                    refine Y.i2l dX5_copy_106 (by omega) ?_
                    refine Y.lcmp dX5_copy_107 (by omega) (by omega) (fun c_107 bc_107 lc_107 ec_107 => ?_)
                    refine Y.if_le 117 dX5_copy_108 (by decide) (by omega) (fun h_108 => ?_) (fun h_108 => ?_)
                    · refine Y.iconst dX5_copy_117 ?_
                      refine Y.istore dX5_copy_118 (by decide) rfl ?_
                      have hR : rgA g k i n ∧ rgA g l j n := ⟨⟨by omega, by omega, by omega, by omega⟩, by omega, by omega, by omega, by omega⟩
                      refine zw2 (fun u a => (0 ≤ a ∧ a ≤ n ∧ u.1 = σ.1 ∧ (∀ c : Nat, c ≠ 71 → u.2 c = σ.2 c) ∧ ∀ y : Int, 0 ≤ y → y < a → u.2 71 y = σ.2 70 (60 * (k : Int) + i + y))) (fun u a => Y d μX5_copy 120 [some (.ref 67), some (.int (zi (k : Int))), some (.int (zi i)), some (.int (zi (l : Int))), some (.int (zi j)), some (.int (zi n)), some (.int (zi a))] [] u P) (fun u a => (n - a).toNat) ?_ σ 0 ⟨by omega, by omega, rfl, fun _ _ => rfl, fun y a c => by omega⟩
                      intro u a hI ih
                      obtain ⟨a1, a2, a3, a4, a5⟩ := hI
                      refine Y.iload dX5_copy_120 rfl ?_
                      refine Y.iload dX5_copy_122 rfl ?_
                      refine Y.icmp_ge 154 dX5_copy_124 (by decide) (by omega) (by omega) (fun h_124 => ?_) (fun h_124 => ?_)
                      · refine Y.iconst dX5_copy_154 ?_
                        refine Y.istore dX5_copy_155 (by decide) rfl ?_
                        refine zw2 (fun w a => (0 ≤ a ∧ a ≤ n ∧ w.1 = σ.1 ∧ (∀ c : Nat, c ≠ 70 → c ≠ 71 → w.2 c = σ.2 c) ∧ (∀ y : Int, 0 ≤ y → y < n → w.2 71 y = σ.2 70 (60 * (k : Int) + i + y)) ∧ ∀ y : Int, w.2 70 y = if 60 * (l : Int) + j ≤ y ∧ y < 60 * (l : Int) + j + a then σ.2 70 (60 * (k : Int) + i + (y - (60 * (l : Int) + j))) else σ.2 70 y)) (fun w a => Y d μX5_copy 157 [some (.ref 67), some (.int (zi (k : Int))), some (.int (zi i)), some (.int (zi (l : Int))), some (.int (zi j)), some (.int (zi n)), some (.int (zi a))] [] w P) (fun w a => (n - a).toNat) ?_ u 0 ⟨by omega, by omega, a3, fun c q1 q2 => a4 c q2, fun y q1 q2 => a5 y q1 (by omega), fun y => by rw [if_neg (by omega), a4 70 (by omega)]⟩
                        intro w a hI2 ih2
                        obtain ⟨b1, b2, b3, b4, b5, b6⟩ := hI2
                        refine Y.iload dX5_copy_157 rfl ?_
                        refine Y.iload dX5_copy_159 rfl ?_
                        refine Y.icmp_ge 192 dX5_copy_161 (by decide) (by omega) (by omega) (fun h_161 => ?_) (fun h_161 => ?_)
                        · refine Y.iconst dX5_copy_192 ?_
                          exact Y.iret dX5_copy_193 rfl (hP _ _ (Or.inl ⟨k, l, ⟨hk, hl, rfl, rfl⟩, by omega, by omega, by omega, hR, rfl, b3, b4, fun y => by rw [show n = a by omega]; exact b6 y⟩))
                        · refine Y.aload_n dX5_copy_164 rfl ?_
                          refine Y.getf dX5_copy_165 flX5_16 ob67 rfl ?_
                          refine Y.bipush dX5_copy_168 (by decide +kernel) ?_
                          refine Y.iload_n dX5_copy_170 rfl ?_
                          refine Y.imul dX5_copy_171 ?_
                          refine Y.iload dX5_copy_172 rfl ?_
                          refine Y.iadd dX5_copy_174 ?_
                          refine Y.iload dX5_copy_175 rfl ?_
                          refine Y.iadd dX5_copy_177 ?_
                          refine Y.aload_n dX5_copy_178 rfl ?_
                          refine Y.getf dX5_copy_179 flX5_20 ob67 rfl ?_
                          refine Y.iload dX5_copy_182 rfl ?_
                          refine Y.lald dX5_copy_184 la71 (by omega) (by omega) ?_
                          refine Y.last dX5_copy_185 la70 (by omega) (by omega) ?_
                          refine Y.iinc dX5_copy_186 rfl (by decide) rfl ?_
                          refine Y.goto 157 dX5_copy_189 (by decide) ?_
                          refine ih2 _ _ ⟨by omega, by omega, b3, fun c q1 q2 => by rw [zul_nc q1]; exact b4 c q1 q2, fun y q1 q2 => by rw [zul_nc (by omega)]; exact b5 y q1 q2, fun y => ?_⟩ (by omega)
                          by_cases q : y = 60 * (l : Int) + j + a
                          · rw [q, zul_eq, b5 a b1 (by omega), if_pos (by omega), show 60 * (l : Int) + j + a - (60 * (l : Int) + j) = a by omega]
                          · rw [zul_ne q, b6 y]
                            by_cases q2 : 60 * (l : Int) + j ≤ y ∧ y < 60 * (l : Int) + j + a
                            · rw [if_pos q2, if_pos (by omega)]
                            · rw [if_neg q2, if_neg (by omega)]
                      · refine Y.aload_n dX5_copy_127 rfl ?_
                        refine Y.getf dX5_copy_128 flX5_20 ob67 rfl ?_
                        refine Y.iload dX5_copy_131 rfl ?_
                        refine Y.aload_n dX5_copy_133 rfl ?_
                        refine Y.getf dX5_copy_134 flX5_16 ob67 rfl ?_
                        refine Y.bipush dX5_copy_137 (by decide +kernel) ?_
                        refine Y.iload_n dX5_copy_139 rfl ?_
                        refine Y.imul dX5_copy_140 ?_
                        refine Y.iload_n dX5_copy_141 rfl ?_
                        refine Y.iadd dX5_copy_142 ?_
                        refine Y.iload dX5_copy_143 rfl ?_
                        refine Y.iadd dX5_copy_145 ?_
                        refine Y.lald dX5_copy_146 la70 (by omega) (by omega) ?_
                        refine Y.last dX5_copy_147 la71 (by omega) (by omega) ?_
                        refine Y.iinc dX5_copy_148 rfl (by decide) rfl ?_
                        refine Y.goto 120 dX5_copy_151 (by decide) ?_
                        refine ih _ _ ⟨by omega, by omega, a3, fun c hc => by rw [zul_nc hc]; exact a4 c hc, fun y q1 q2 => ?_⟩ (by omega)
                        by_cases q : y = a
                        · rw [q, zul_eq, a4 70 (by omega)]
                        · rw [zul_ne q]; exact a5 y q1 (by omega)
                    · refine Y.aload_n dX5_copy_111 rfl ?_
                      refine Y.iconst dX5_copy_112 ?_
                      refine Y.cVI dX5_copy_113 mkX5_finds csX5_107 ob67 ⟨_, rfl, rfl⟩ c_X5_finds (by omega) rfl rfl (Nat.le_of_ble_eq_true rfl) ?_
                      exact Y.iret dX5_copy_116 rfl (hP _ _ (Or.inr (Or.inr (Or.inr (Or.inl ⟨k, l, ⟨hk, hl, rfl, rfl⟩, by omega, by omega, by omega, fun z => by obtain ⟨⟨z1, z2, z3, z4⟩, z5, z6, z7, z8⟩ := z; omega, rfl, rfl⟩)))))
          · refine Y.aload_n dX5_copy_56 rfl ?_
            refine Y.iconst dX5_copy_57 ?_
            refine Y.cVI dX5_copy_58 mkX5_finds csX5_107 ob67 ⟨_, rfl, rfl⟩ c_X5_finds (by omega) rfl rfl (Nat.le_of_ble_eq_true rfl) ?_
            exact Y.iret dX5_copy_61 rfl (hP _ _ (Or.inr (Or.inr (Or.inl ⟨k, l, ⟨hk, hl, rfl, rfl⟩, by omega, by omega, by omega, rfl, rfl⟩))))
        · refine Y.aload_n dX5_copy_35 rfl ?_
          refine Y.iconst dX5_copy_36 ?_
          refine Y.cVI dX5_copy_37 mkX5_finds csX5_107 ob67 ⟨_, rfl, rfl⟩ c_X5_finds (by omega) rfl rfl (Nat.le_of_ble_eq_true rfl) ?_
          exact Y.iret dX5_copy_40 rfl (hP _ _ (Or.inr (Or.inl ⟨k, l, ⟨hk, hl, rfl, rfl⟩, by omega, rfl, rfl⟩)))
    · refine Y.bipush dX5_copy_14 (by decide +kernel) ?_
      exact Y.iret dX5_copy_16 rfl (hP _ _ (Or.inr (Or.inr (Or.inr (Or.inr ⟨fun z => by first | exact absurd z.1 (by assumption) | exact absurd z.2 (by assumption), rfl, rfl⟩)))))
end ZL4
