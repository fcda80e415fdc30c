section ZK5
variable {σ : zS}
/-! rows told anew keep the plan well told -/
theorem WJ.zt (h : WJ (cP σ)) {k : Nat} (hk : k < 5) {i v : Int} (hv : trt k v) : WJ (cP (zu σ (cC k) i v)) := (h.trait (i := i) hk hv).ex (cP_pu (by omega))
theorem WJ.zm (h : WJ (cP σ)) {k : Nat} (hk : k < 4) {x v : Int} (hv : mrk k v) : WJ (cP (zu σ (cC (6 + k)) x v)) := (h.mark (x := x) hk hv).ex (cP_pu (by omega))
theorem WJ.zn (h : WJ (cP σ)) {i v : Int} (h0 : 0 ≤ v) (h3 : v ≤ 3) (hc : ∀ j : Int, 0 ≤ j → j < v → 0 ≤ i → i < 3 → 1 ≤ σ.1 10 (i * 3 + j)) : WJ (cP (zu σ 13 i v)) := (h.many (i := i) h0 h3 hc).ex (cP_pu (k := 5) (by omega))
theorem apC_w (h : WJ (cP σ)) {i a b c e : Int} (i0 : 0 ≤ i) (i3 : i < 3) (hm : σ.1 13 i < 3) (ha : mrk 0 a) (hb : mrk 1 b) (hc : mrk 2 c) (he : mrk 3 e) : WJ (cP (apC σ i a b c e)) := by
  have hmm := (h.1.1 i i0 i3).2.2.2.2.2
  have hmm : 0 ≤ σ.1 13 i ∧ σ.1 13 i ≤ 3 := hmm
  have h1 := h.zm (k := 0) (x := i * 3 + σ.1 13 i) (by omega) ha
  have h2 := h1.zm (k := 1) (x := i * 3 + σ.1 13 i) (by omega) hb
  have h3 := h2.zm (k := 2) (x := i * 3 + σ.1 13 i) (by omega) hc
  have h4 := h3.zm (k := 3) (x := i * 3 + σ.1 13 i) (by omega) he
  unfold apC
  refine h4.zn (by omega) (by omega) (fun j j0 j1 _ _ => ?_)
  show 1 ≤ (zu (zu (zu (zu σ 9 _ a) 10 _ b) 11 _ c) 12 _ e).1 10 _
  rw [zu_nc (by omega), zu_nc (by omega)]
  obtain ⟨-, -, ⟨-, b1, -, -⟩, -⟩ := tT
  have hb1 := hb.2.2.1
  rw [b1] at hb1
  by_cases q : j = σ.1 13 i
  · rw [q, zu_eq]; exact hb1
  · rw [zu_ne (by omega), zu_nc (by omega)]
    refine h.1.2.2 (i * 3 + j) (by omega) (by omega) ?_
    show (i * 3 + j) % 3 < σ.1 13 ((i * 3 + j) / 3)
    rw [show (i * 3 + j) / 3 = i by omega]
    omega
theorem apC_o {i a b c e : Int} {k : Nat} (hk : (k < 9 ∨ 13 < k)) : (apC σ i a b c e).1 k = σ.1 k := by
  unfold apC
  rw [zu_nc (by omega), zu_nc (by omega), zu_nc (by omega), zu_nc (by omega), zu_nc (by omega)]
theorem apC_m {i a b c e : Int} : (apC σ i a b c e).1 13 i = σ.1 13 i + 1 := by
  unfold apC
  rw [zu_eq]
/-- steps out of a sheet -/
def rdC (σ : zS) (k : Nat) (i : Int) : Nat → zS
  | 0 => σ
  | n + 1 => apC (rdC σ k i n) i (σ.2 (60 + 2 * k) ((n : Int) * 4 + 0)) (σ.2 (60 + 2 * k) ((n : Int) * 4 + 1)) (σ.2 (60 + 2 * k) ((n : Int) * 4 + 2)) (σ.2 (60 + 2 * k) ((n : Int) * 4 + 3))
def goA (σ : zS) (p : zP) (k : Nat) (i : Int) (n : Nat) : Prop := (n : Int) * 4 + 3 < σ.1 (59 + 2 * k) 2 ∧ p 5 i + n < 3 ∧ hst (σ.2 (60 + 2 * k)) ((n : Int) * 4)
theorem hst4 {f : Int → Int} {a : Int} (h : hst f a) : mrk 0 (f (a + 0)) ∧ mrk 1 (f (a + 1)) ∧ mrk 2 (f (a + 2)) ∧ mrk 3 (f (a + 3)) := ⟨h 0 (by omega) (by omega), h 1 (by omega) (by omega), h 2 (by omega) (by omega), h 3 (by omega) (by omega)⟩
theorem rdC_l {k : Nat} {i : Int} : ∀ n : Nat, (rdC σ k i n).2 = σ.2
  | 0 => rfl
  | n + 1 => rdC_l n
theorem rdC_w {k : Nat} {i : Int} (i0 : 0 ≤ i) (i3 : i < 3) (h : WJ (cP σ)) : ∀ n : Nat, (∀ m : Nat, m < n → goA σ (cP σ) k i m) → WJ (cP (rdC σ k i n)) ∧ (rdC σ k i n).1 13 i = σ.1 13 i + n ∧ ∀ c : Nat, (c < 9 ∨ 13 < c) → (rdC σ k i n).1 c = σ.1 c
  | 0, _ => ⟨h, by show σ.1 13 i = σ.1 13 i + ((0 : Nat) : Int); omega, fun _ _ => rfl⟩
  | n + 1, hg => by
    obtain ⟨h1, h2, h3⟩ := rdC_w i0 i3 h n (fun m q => hg m (by omega))
    obtain ⟨g1, g2, g3⟩ := hg n (by omega)
    obtain ⟨m0, m1, m2, m3⟩ := hst4 g3
    have g2 : σ.1 13 i + n < 3 := g2
    refine ⟨apC_w h1 i0 i3 (by rw [h2]; omega) m0 m1 m2 m3, ?_, fun c hc => (apC_o hc).trans (h3 c hc)⟩
    show (apC _ i _ _ _ _).1 13 i = _
    rw [apC_m, h2]
    omega
set_option maxHeartbeats 8000000 in
theorem c_X4_read {p : zP} (ec : cP σ = p) (hJJ : WJ (cP σ)) (hJ : SHJ σ σ) {i q : Int} (hi : zB i) (hq : zB q) : YC 3 μX4_read [.ref 0, .int (zi i), .int (zi q)] σ (fun r s => (∃ k n : Nat, (k < 4 ∧ q = (k : Int)) ∧ (0 ≤ i ∧ i ≤ 2) ∧ σ.1 (59 + 2 * k) 0 = 0 ∧ (∀ m : Nat, m < n → goA σ (cP σ) k i m) ∧ ¬ goA σ (cP σ) k i n ∧ r = some (.int (zi (n : Int))) ∧ s = if 0 < n then zu (rdC σ k i n) 14 17 1 else σ) ∨
    (∃ k : Nat, k < 4 ∧ q = (k : Int) ∧ (0 ≤ i ∧ i ≤ 2) ∧ σ.1 (59 + 2 * k) 0 = 1 ∧ r = some (.int (zi (-11))) ∧ s = zu σ 0 5 1) ∨ (¬ ((0 ≤ i ∧ i ≤ 2) ∧ (0 ≤ q ∧ q ≤ 3)) ∧ r = some (.int (zi (-2))) ∧ s = σ)) := by
  refine YC.of2 (by decide) (Nat.le_of_ble_eq_true rfl) (fun d P hd hP => ?_)
  refine Y.iload_n dX4_read_0 rfl ?_
  refine Y.cSI dX4_read_1 mkX4_isChain csX4_46 (c_X4_isChain (by omega)) (by omega) rfl rfl (Nat.le_of_ble_eq_true rfl) ?_
  refine Y.ifz_eq 14 dX4_read_4 (by decide) (fun h_4 => ?_) (fun h_4 => ?_)
  · refine Y.bipush dX4_read_14 (by decide +kernel) ?_
    exact Y.iret dX4_read_16 rfl (hP _ _ (Or.inr (Or.inr ⟨fun z => by first | exact absurd z.1 (by assumption) | exact absurd z.2 (by assumption), rfl, rfl⟩)))
  · refine Y.iload_n dX4_read_7 rfl ?_
    refine Y.cSI dX4_read_8 mkX4_isSheet csX4_87 (c_X4_isSheet (by omega)) (by omega) rfl rfl (Nat.le_of_ble_eq_true rfl) ?_
    refine Y.ifz_ne 17 dX4_read_11 (by decide) (fun h_11 => ?_) (fun h_11 => ?_)
    · obtain ⟨k, rfl⟩ : ∃ k : Nat, q = (k : Int) := ⟨q.toNat, by omega⟩
      have hk : k < 4 := by omega
      have hsh := hJ k hk
      have hb := hsh.b
      have i0 : 0 ≤ i := by omega
      have i3 : i < 3 := by omega
      refine Y.aload_n dX4_read_17 rfl ?_
      refine Y.getf dX4_read_18 flX4_37 ob0 rfl ?_
      refine Y.iload_n dX4_read_21 rfl ?_
      refine Y.aald dX4_read_22 ra58 (by decide) (by omega) (by omega) (hqS hk) ?_
      refine Y.astore_n dX4_read_23 (by decide) rfl ?_
      refine Y.aload_n dX4_read_24 rfl ?_
      refine Y.getf dX4_read_25 flX4_90 (obS hk) rfl ?_
      refine Y.if_eq 37 dX4_read_28 (by decide) (by omega) (fun h_28 => ?_) (fun h_28 => ?_)
      · refine Y.aload_n dX4_read_37 rfl ?_
        refine Y.getf dX4_read_38 flX4_97 (obS hk) rfl ?_
        refine Y.iconst dX4_read_41 ?_
        refine Y.idivp dX4_read_42 (by omega) (by omega) (by omega) (by omega) ?_
        refine Y.istore dX4_read_43 (by decide) rfl ?_
        refine Y.iconst dX4_read_45 ?_
        refine Y.istore dX4_read_46 (by decide) rfl ?_
        refine zw1 (fun n : Nat => (n ≤ 3 ∧ ∀ m : Nat, m < n → goA σ (cP σ) k i m)) (fun n => Y d μX4_read 48 [some (.ref 0), some (.int (zi i)), some (.int (zi (k : Int))), some (.ref (59 + 2 * k)), some (.int (zi (σ.1 (59 + 2 * k) 2 / 4))), some (.int (zi (n : Int))), none] [] (rdC σ k i n) P) (fun n => 3 - n) ?_ 0 ⟨by omega, fun m q => by omega⟩
        intro n hI ih
        obtain ⟨n3, hg⟩ := hI
        obtain ⟨w1, w2, w3⟩ := rdC_w (k := k) i0 i3 hJJ n hg
        have wl := rdC_l (σ := σ) (k := k) (i := i) n
        have hm := (w1.1.1 i i0 i3).2.2.2.2.2
        have hm : 0 ≤ (rdC σ k i n).1 13 i ∧ (rdC σ k i n).1 13 i ≤ 3 := hm
        have hitm : ∀ y : Int, 0 ≤ y → y < σ.1 (59 + 2 * k) 2 → zB64 ((rdC σ k i n).2 (60 + 2 * k) y) := fun y q1 q2 => by rw [wl]; exact (hsh.2.2 y q1 q2).2
        refine Y.iload dX4_read_48 rfl ?_
        refine Y.iload dX4_read_50 rfl ?_
        refine Y.icmp_ge 140 dX4_read_52 (by decide) (by omega) (by omega) (fun h_52 => ?_) (fun h_52 => ?_)
        · refine Y.iload dX4_read_140 rfl ?_
          refine Y.if_le 153 dX4_read_142 (by decide) (by omega) (fun h_142 => ?_) (fun h_142 => ?_)
          · refine Y.iload dX4_read_153 rfl ?_
            exact Y.iret dX4_read_155 rfl (hP _ _ (Or.inl ⟨k, n, ⟨hk, rfl⟩, h_4, by omega, hg, fun q => by first | (have q1 := q.1; omega) | (have q2 : σ.1 13 i + (n : Int) < 3 := q.2.1; omega) | exact absurd (show hst ((rdC σ k i n).2 (60 + 2 * k)) ((n : Int) * 4) by rw [wl]; exact q.2.2) (by assumption), rfl, by first | (rw [if_neg (by omega), show n = 0 by omega]; rfl) | rw [if_pos (by omega)]⟩))
          · refine Y.aload_n dX4_read_145 rfl ?_
            refine Y.getf dX4_read_146 flX4_21 ob0 rfl ?_
            refine Y.iconst dX4_read_149 ?_
            refine Y.putf 17 dX4_read_150 fpX4_65 (obA (Or.inl rfl)) (osA_17 (Or.inl rfl)) (Nat.le_of_ble_eq_true rfl) (Or.inr ⟨rfl, Or.inr rfl⟩) rfl ?_
            refine Y.iload dX4_read_153 rfl ?_
            exact Y.iret dX4_read_155 rfl (hP _ _ (Or.inl ⟨k, n, ⟨hk, rfl⟩, h_4, by omega, hg, fun q => by first | (have q1 := q.1; omega) | (have q2 : σ.1 13 i + (n : Int) < 3 := q.2.1; omega) | exact absurd (show hst ((rdC σ k i n).2 (60 + 2 * k)) ((n : Int) * 4) by rw [wl]; exact q.2.2) (by assumption), rfl, by first | (rw [if_neg (by omega), show n = 0 by omega]; rfl) | rw [if_pos (by omega)]⟩))
        · refine Y.aload_n dX4_read_55 rfl ?_
          refine Y.getf dX4_read_56 flX4_12 ob0 rfl ?_
          refine Y.getf dX4_read_59 flX4_73 ob1 rfl ?_
          refine Y.iload_n dX4_read_62 rfl ?_
          refine Y.iald dX4_read_63 ia13 (by omega) (by omega) ?_
          refine Y.iconst dX4_read_64 ?_
          refine Y.icmp_ge 140 dX4_read_65 (by decide) (by omega) (by omega) (fun h_65 => ?_) (fun h_65 => ?_)
          · refine Y.iload dX4_read_140 rfl ?_
            refine Y.if_le 153 dX4_read_142 (by decide) (by omega) (fun h_142 => ?_) (fun h_142 => ?_)
            · refine Y.iload dX4_read_153 rfl ?_
              exact Y.iret dX4_read_155 rfl (hP _ _ (Or.inl ⟨k, n, ⟨hk, rfl⟩, h_4, by omega, hg, fun q => by first | (have q1 := q.1; omega) | (have q2 : σ.1 13 i + (n : Int) < 3 := q.2.1; omega) | exact absurd (show hst ((rdC σ k i n).2 (60 + 2 * k)) ((n : Int) * 4) by rw [wl]; exact q.2.2) (by assumption), rfl, by first | (rw [if_neg (by omega), show n = 0 by omega]; rfl) | rw [if_pos (by omega)]⟩))
            · refine Y.aload_n dX4_read_145 rfl ?_
              refine Y.getf dX4_read_146 flX4_21 ob0 rfl ?_
              refine Y.iconst dX4_read_149 ?_
              refine Y.putf 17 dX4_read_150 fpX4_65 (obA (Or.inl rfl)) (osA_17 (Or.inl rfl)) (Nat.le_of_ble_eq_true rfl) (Or.inr ⟨rfl, Or.inr rfl⟩) rfl ?_
              refine Y.iload dX4_read_153 rfl ?_
              exact Y.iret dX4_read_155 rfl (hP _ _ (Or.inl ⟨k, n, ⟨hk, rfl⟩, h_4, by omega, hg, fun q => by first | (have q1 := q.1; omega) | (have q2 : σ.1 13 i + (n : Int) < 3 := q.2.1; omega) | exact absurd (show hst ((rdC σ k i n).2 (60 + 2 * k)) ((n : Int) * 4) by rw [wl]; exact q.2.2) (by assumption), rfl, by first | (rw [if_neg (by omega), show n = 0 by omega]; rfl) | rw [if_pos (by omega)]⟩))
          · refine Y.aload_n dX4_read_68 rfl ?_
            refine Y.iload dX4_read_69 rfl ?_
            refine Y.iconst dX4_read_71 ?_
            refine Y.imul dX4_read_72 ?_
            refine Y.cSI dX4_read_73 mkX4_holdsStep csX4_100 (c_X4_holdsStep hk (by omega) (by omega) (fun y q1 q2 => hitm _ (by omega) (by omega))) (by omega) rfl rfl (Nat.le_of_ble_eq_true rfl) ?_
            refine Y.ifz_eq 140 dX4_read_76 (by decide) (fun h_76 => ?_) (fun h_76 => ?_)
            · refine Y.iload dX4_read_140 rfl ?_
              refine Y.if_le 153 dX4_read_142 (by decide) (by omega) (fun h_142 => ?_) (fun h_142 => ?_)
              · refine Y.iload dX4_read_153 rfl ?_
                exact Y.iret dX4_read_155 rfl (hP _ _ (Or.inl ⟨k, n, ⟨hk, rfl⟩, h_4, by omega, hg, fun q => by first | (have q1 := q.1; omega) | (have q2 : σ.1 13 i + (n : Int) < 3 := q.2.1; omega) | exact absurd (show hst ((rdC σ k i n).2 (60 + 2 * k)) ((n : Int) * 4) by rw [wl]; exact q.2.2) (by assumption), rfl, by first | (rw [if_neg (by omega), show n = 0 by omega]; rfl) | rw [if_pos (by omega)]⟩))
              · refine Y.aload_n dX4_read_145 rfl ?_
                refine Y.getf dX4_read_146 flX4_21 ob0 rfl ?_
                refine Y.iconst dX4_read_149 ?_
                refine Y.putf 17 dX4_read_150 fpX4_65 (obA (Or.inl rfl)) (osA_17 (Or.inl rfl)) (Nat.le_of_ble_eq_true rfl) (Or.inr ⟨rfl, Or.inr rfl⟩) rfl ?_
                refine Y.iload dX4_read_153 rfl ?_
                exact Y.iret dX4_read_155 rfl (hP _ _ (Or.inl ⟨k, n, ⟨hk, rfl⟩, h_4, by omega, hg, fun q => by first | (have q1 := q.1; omega) | (have q2 : σ.1 13 i + (n : Int) < 3 := q.2.1; omega) | exact absurd (show hst ((rdC σ k i n).2 (60 + 2 * k)) ((n : Int) * 4) by rw [wl]; exact q.2.2) (by assumption), rfl, by first | (rw [if_neg (by omega), show n = 0 by omega]; rfl) | rw [if_pos (by omega)]⟩))
            · have hgo : goA σ (cP σ) k i n := ⟨by omega, by show σ.1 13 i + (n : Int) < 3; omega, by rw [← wl]; assumption⟩
              have hn3 : n < 3 := by
                have q : 0 ≤ σ.1 13 i ∧ σ.1 13 i ≤ 3 := (hJJ.1.1 i i0 i3).2.2.2.2.2
                have q2 : σ.1 13 i + (n : Int) < 3 := hgo.2.1
                omega
              refine Y.iload dX4_read_79 rfl ?_
              refine Y.iconst dX4_read_81 ?_
              refine Y.imul dX4_read_82 ?_
              refine Y.istore dX4_read_83 (by decide) rfl ?_
              refine Y.aload_n dX4_read_85 rfl ?_
              refine Y.getf dX4_read_86 flX4_12 ob0 rfl ?_
              refine Y.iload_n dX4_read_89 rfl ?_
              refine Y.aload_n dX4_read_90 rfl ?_
              refine Y.getf dX4_read_91 flX4_104 (obS hk) rfl ?_
              refine Y.iload dX4_read_94 rfl ?_
              refine Y.iconst dX4_read_96 ?_
              refine Y.iadd dX4_read_97 ?_
              refine Y.lald dX4_read_98 (laS hk) (by omega) (by omega) ?_
              refine Y.l2i dX4_read_99 ?_
              refine Y.aload_n dX4_read_100 rfl ?_
              refine Y.getf dX4_read_101 flX4_104 (obS hk) rfl ?_
              refine Y.iload dX4_read_104 rfl ?_
              refine Y.iconst dX4_read_106 ?_
              refine Y.iadd dX4_read_107 ?_
              refine Y.lald dX4_read_108 (laS hk) (by omega) (by omega) ?_
              refine Y.l2i dX4_read_109 ?_
              refine Y.aload_n dX4_read_110 rfl ?_
              refine Y.getf dX4_read_111 flX4_104 (obS hk) rfl ?_
              refine Y.iload dX4_read_114 rfl ?_
              refine Y.iconst dX4_read_116 ?_
              refine Y.iadd dX4_read_117 ?_
              refine Y.lald dX4_read_118 (laS hk) (by omega) (by omega) ?_
              refine Y.l2i dX4_read_119 ?_
              refine Y.aload_n dX4_read_120 rfl ?_
              refine Y.getf dX4_read_121 flX4_104 (obS hk) rfl ?_
              refine Y.iload dX4_read_124 rfl ?_
              refine Y.iconst dX4_read_126 ?_
              refine Y.iadd dX4_read_127 ?_
              refine Y.lald dX4_read_128 (laS hk) (by omega) (by omega) ?_
              refine Y.l2i dX4_read_129 ?_
              refine Y.cVI dX4_read_130 mkX2_append csX4_76 ob1 ⟨_, rfl, rfl⟩ (c_X2_append w1.1 i0 i3 (by show (rdC σ k i n).1 13 i < 3; omega)) (by omega) rfl rfl (Nat.le_of_ble_eq_true rfl) ?_
              refine Y.pop dX4_read_133 rfl ?_
              refine Y.iinc dX4_read_134 rfl (by decide) rfl ?_
              refine Y.goto 48 dX4_read_137 (by decide) ?_
              have e1 : zi ((n : Int) + 1) = zi ((n + 1 : Nat) : Int) := rfl
              rw [e1]
              refine Y.sub (zs_s (zs_s (zs_s (zs_s (zs_s (zs_s (zs_n zs_0))))))) ?_
              have e2 : (zu (zu (zu (zu (zu (rdC σ k i n) 9 (i * 3 + cP (rdC σ k i n) 5 i) ((rdC σ k i n).2 (60 + 2 * k) ((n : Int) * 4 + 0))) 10 (i * 3 + cP (rdC σ k i n) 5 i) ((rdC σ k i n).2 (60 + 2 * k) ((n : Int) * 4 + 1))) 11 (i * 3 + cP (rdC σ k i n) 5 i) ((rdC σ k i n).2 (60 + 2 * k) ((n : Int) * 4 + 2))) 12 (i * 3 + cP (rdC σ k i n) 5 i) ((rdC σ k i n).2 (60 + 2 * k) ((n : Int) * 4 + 3))) 13 i (cP (rdC σ k i n) 5 i + 1)) = rdC σ k i (n + 1) := by
                show _ = apC (rdC σ k i n) i _ _ _ _
                rw [wl]
                rfl
              rw [e2]
              exact ih _ ⟨by omega, fun m q => if z : m = n then by rw [z]; exact hgo else hg m (by omega)⟩ (by omega)
      · refine Y.aload_n dX4_read_31 rfl ?_
        refine Y.iconst dX4_read_32 ?_
        refine Y.cVI dX4_read_33 mkX4_found csX4_93 ob0 ⟨_, rfl, rfl⟩ c_X4_found (by omega) rfl rfl (Nat.le_of_ble_eq_true rfl) ?_
        exact Y.iret dX4_read_36 rfl (hP _ _ (Or.inr (Or.inl ⟨k, hk, rfl, h_4, by omega, rfl, rfl⟩)))
    · refine Y.bipush dX4_read_14 (by decide +kernel) ?_
      exact Y.iret dX4_read_16 rfl (hP _ _ (Or.inr (Or.inr ⟨fun z => by first | exact absurd z.1 (by assumption) | exact absurd z.2 (by assumption), rfl, rfl⟩)))
noncomputable def wn (p : zP) (z : Int) : Nat → Int
  | 0 => 0
  | x + 1 => @ite _ (th p (x : Int) ∧ wn p z x < z) (Classical.propDecidable _) (wn p z x + 1) (wn p z x)
theorem wn_n {p : zP} {z : Int} {x : Nat} : wn p z (x + 1) = @ite _ (th p (x : Int) ∧ wn p z x < z) (Classical.propDecidable _) (wn p z x + 1) (wn p z x) := rfl
theorem wn_b {p : zP} {z : Int} (hz : 0 ≤ z) : ∀ x : Nat, 0 ≤ wn p z x ∧ wn p z x ≤ z ∧ wn p z x ≤ x
  | 0 => ⟨Int.le_refl _, hz, Int.le_refl _⟩
  | x + 1 => by
    have := wn_b (p := p) hz x
    rw [wn_n]
    split
    · rename_i q; have := q.2; omega
    · omega
/-- a bound as it is held in a sheet -/
noncomputable def wrv (p : zP) (f x : Int) : Int := if f = 0 then zsh (bndA p x) else bndA p x
noncomputable def wrC (σ : zS) (p : zP) (k : Nat) : Nat → zS
  | 0 => σ
  | x + 1 => @ite _ (th p (x : Int) ∧ wn p (σ.1 (59 + 2 * k) 2) x < σ.1 (59 + 2 * k) 2) (Classical.propDecidable _) (zul (wrC σ p k x) (60 + 2 * k) (wn p (σ.1 (59 + 2 * k) 2) x) (wrv p (σ.1 (59 + 2 * k) 1) x)) (wrC σ p k x)
theorem wrC_n {p : zP} {k x : Nat} : wrC σ p k (x + 1) = @ite _ (th p (x : Int) ∧ wn p (σ.1 (59 + 2 * k) 2) x < σ.1 (59 + 2 * k) 2) (Classical.propDecidable _) (zul (wrC σ p k x) (60 + 2 * k) (wn p (σ.1 (59 + 2 * k) 2) x) (wrv p (σ.1 (59 + 2 * k) 1) x)) (wrC σ p k x) := rfl
theorem wrC_i {p : zP} {k : Nat} : ∀ x : Nat, (wrC σ p k x).1 = σ.1
  | 0 => rfl
  | x + 1 => by
    rw [wrC_n]
    split
    · rw [zul_i]; exact wrC_i x
    · exact wrC_i x
theorem wr_stop {p : zP} {k x : Nat} (h : σ.1 (59 + 2 * k) 2 ≤ wn p (σ.1 (59 + 2 * k) 2) x) : ∀ m : Nat, wn p (σ.1 (59 + 2 * k) 2) (x + m) = wn p (σ.1 (59 + 2 * k) 2) x ∧ wrC σ p k (x + m) = wrC σ p k x
  | 0 => ⟨rfl, rfl⟩
  | m + 1 => by
    obtain ⟨h1, h2⟩ := wr_stop h m
    rw [show x + (m + 1) = x + m + 1 by omega, wn_n, wrC_n, h1, h2, if_neg (fun q => by have := q.2; omega), if_neg (fun q => by have := q.2; omega)]
    exact ⟨rfl, rfl⟩
set_option maxHeartbeats 8000000 in
theorem c_X4_write {p : zP} (ec : cP σ = p) (hp : WP p) (hs : σ.1 14 17 = 0 ∨ σ.1 14 17 = 1) (hst : σ.1 14 17 = 0 → SA 14 σ p) (hJ : SHJ σ σ) {q : Int} (hq : zB q) : YC 7 μX4_write [.ref 0, .int (zi q)] σ (fun r s => (∃ (k : Nat) (u : zS), k < 4 ∧ q = (k : Int) ∧ σ.1 (59 + 2 * k) 0 = 0 ∧ EQ σ u ∧ STL u ∧ r = some (.int (zi (wn p (u.1 (59 + 2 * k) 2) 9))) ∧ s = wrC u p k 9) ∨
    (∃ k : Nat, k < 4 ∧ q = (k : Int) ∧ σ.1 (59 + 2 * k) 0 = 1 ∧ r = some (.int (zi (-11))) ∧ s = zu σ 0 5 1) ∨ (¬ (0 ≤ q ∧ q ≤ 3) ∧ r = some (.int (zi (-2))) ∧ s = σ)) := by
  refine YC.of2 (by decide) (Nat.le_of_ble_eq_true rfl) (fun d P hd hP => ?_)
  refine Y.iload_n dX4_write_0 rfl ?_
  refine Y.cSI dX4_write_1 mkX4_isSheet csX4_87 (c_X4_isSheet (by omega)) (by omega) rfl rfl (Nat.le_of_ble_eq_true rfl) ?_
  refine Y.ifz_ne 10 dX4_write_4 (by decide) (fun h_4 => ?_) (fun h_4 => ?_)
  · obtain ⟨k, rfl⟩ : ∃ k : Nat, q = (k : Int) := ⟨q.toNat, by omega⟩
    have hk : k < 4 := by omega
    have hsh := hJ k hk
    have hb := hsh.b
    refine Y.aload_n dX4_write_10 rfl ?_
    refine Y.getf dX4_write_11 flX4_37 ob0 rfl ?_
    refine Y.iload_n dX4_write_14 rfl ?_
    refine Y.aald dX4_write_15 ra58 (by decide) (by omega) (by omega) (hqS hk) ?_
    refine Y.astore_n dX4_write_16 (by decide) rfl ?_
    refine Y.aload_n dX4_write_17 rfl ?_
    refine Y.getf dX4_write_18 flX4_90 (obS hk) rfl ?_
    refine Y.if_eq 30 dX4_write_21 (by decide) (by omega) (fun h_21 => ?_) (fun h_21 => ?_)
    · refine Y.aload_n dX4_write_30 rfl ?_
      refine Y.getf dX4_write_31 flX4_21 ob0 rfl ?_
      refine Y.callV dX4_write_34 mkX0_settle csX4_111 (obA (Or.inl rfl)) ⟨_, rfl, rfl⟩ (c_X0_settle (Or.inl rfl) ec hp hs hst) (by omega) rfl rfl (Nat.le_of_ble_eq_true rfl) (fun r_34 s_34 p_34 => ?_)
      obtain ⟨rfl, f_34, g_34, a_34⟩ := p_34
      have ec2 := (f_34.cp (Or.inl rfl)).trans ec
      have hE := f_34.eq (Or.inl rfl)
      have hT : STL s_34 := STL.of ec2 g_34 a_34
      refine Y.iconst dX4_write_37 ?_
      refine Y.istore_n dX4_write_38 (by decide) rfl ?_
      refine Y.iconst dX4_write_39 ?_
      refine Y.istore dX4_write_40 (by decide) rfl ?_
      have e59 : s_34.1 (59 + 2 * k) = σ.1 (59 + 2 * k) := hE.2.1 _ (by omega) (by omega) (by omega)
      refine zw1 (fun x : Nat => x ≤ 9) (fun x => Y d μX4_write 42 [some (.ref 0), some (.int (zi (k : Int))), some (.ref (59 + 2 * k)), some (.int (zi (wn p (s_34.1 (59 + 2 * k) 2) x))), some (.int (zi (x : Int)))] [] (wrC s_34 p k x) P) (fun x => 9 - x) ?_ 0 (by omega)
      intro x hx ih
      have wi1 := wrC_i (σ := s_34) (p := p) (k := k) x
      have wb := wn_b (p := p) (z := s_34.1 (59 + 2 * k) 2) (by rw [e59]; omega) x
      have ecx : cP (wrC s_34 p k x) = p := (cP_c (fun c q => by rw [wi1])).trans ec2
      have hSx : SA 14 (wrC s_34 p k x) p := a_34.ag (fun c q => by rw [wi1])
      have e2 : (wrC s_34 p k x).1 (59 + 2 * k) 2 = s_34.1 (59 + 2 * k) 2 := by rw [wi1]
      have e1 : (wrC s_34 p k x).1 (59 + 2 * k) 1 = s_34.1 (59 + 2 * k) 1 := by rw [wi1]
      have e59b := congrFun e59 2
      have e59c := congrFun e59 1
      refine Y.iload dX4_write_42 rfl ?_
      refine Y.bipush dX4_write_44 (by decide +kernel) ?_
      refine Y.icmp_ge 93 dX4_write_46 (by decide) (by omega) (by omega) (fun h_46 => ?_) (fun h_46 => ?_)
      · refine Y.iload_n dX4_write_93 rfl ?_
        exact Y.iret dX4_write_94 rfl (hP _ _ (Or.inl ⟨k, s_34, hk, rfl, by omega, hE, hT, by first | (have hs9 := (wr_stop (σ := s_34) (p := p) (k := k) (x := x) (by omega) (9 - x)); rw [show x + (9 - x) = 9 by omega] at hs9; exact ⟨zrI hs9.1.symm, hs9.2.symm⟩) | (rw [show x = 9 by omega]; exact ⟨rfl, rfl⟩)⟩))
      · refine Y.iload_n dX4_write_49 rfl ?_
        refine Y.aload_n dX4_write_50 rfl ?_
        refine Y.getf dX4_write_51 flX4_97 (obS hk) rfl ?_
        rw [e2]
        refine Y.icmp_ge 93 dX4_write_54 (by decide) (by omega) (by omega) (fun h_54 => ?_) (fun h_54 => ?_)
        · refine Y.iload_n dX4_write_93 rfl ?_
          exact Y.iret dX4_write_94 rfl (hP _ _ (Or.inl ⟨k, s_34, hk, rfl, by omega, hE, hT, by first | (have hs9 := (wr_stop (σ := s_34) (p := p) (k := k) (x := x) (by omega) (9 - x)); rw [show x + (9 - x) = 9 by omega] at hs9; exact ⟨zrI hs9.1.symm, hs9.2.symm⟩) | (rw [show x = 9 by omega]; exact ⟨rfl, rfl⟩)⟩))
        · refine Y.aload_n dX4_write_57 rfl ?_
          refine Y.getf dX4_write_58 flX4_12 ob0 rfl ?_
          refine Y.iload dX4_write_61 rfl ?_
          refine Y.cVI dX4_write_63 mkX2_isStep csX4_191 ob1 ⟨_, rfl, rfl⟩ (k_X2_isStep ecx hp (by omega) (by omega)) (by omega) rfl rfl (Nat.le_of_ble_eq_true rfl) ?_
          refine Y.ifz_eq 87 dX4_write_66 (by decide) (fun h_66 => ?_) (fun h_66 => ?_)
          · refine Y.iinc dX4_write_87 rfl (by decide) rfl ?_
            refine Y.goto 42 dX4_write_90 (by decide) ?_
            have e9 : zi ((x : Int) + 1) = zi ((x + 1 : Nat) : Int) := rfl
            rw [e9]
            first
              | (have q1 : wn p (s_34.1 (59 + 2 * k) 2) (x + 1) = (wn p (s_34.1 (59 + 2 * k) 2) x) := by rw [wn_n, if_neg (fun q => absurd q.1 (by assumption))]
                 have q2 : wrC s_34 p k (x + 1) = wrC s_34 p k x := by rw [wrC_n, if_neg (fun q => absurd q.1 (by assumption))]
                 rw [← q1, ← q2]
                 exact ih _ (by omega) (by omega))
              | (have qc : th p (x : Int) ∧ (wn p (s_34.1 (59 + 2 * k) 2) x) < s_34.1 (59 + 2 * k) 2 := ⟨by assumption, by omega⟩
                 have q1 : wn p (s_34.1 (59 + 2 * k) 2) (x + 1) = (wn p (s_34.1 (59 + 2 * k) 2) x) + 1 := by rw [wn_n, if_pos qc]
                 have q2 : wrC s_34 p k (x + 1) = zul (wrC s_34 p k x) (60 + 2 * k) (wn p (s_34.1 (59 + 2 * k) 2) x) (if (wrC s_34 p k x).1 (59 + 2 * k) 1 = 0 then zsh (bndA p (x : Int)) else bndA p (x : Int)) := by rw [wrC_n, if_pos qc, e1]; rfl
                 rw [← q1, ← q2]
                 exact ih _ (by omega) (by omega))
          · refine Y.aload_n dX4_write_69 rfl ?_
            refine Y.iload_n dX4_write_70 rfl ?_
            refine Y.aload_n dX4_write_71 rfl ?_
            refine Y.getf dX4_write_72 flX4_21 ob0 rfl ?_
            refine Y.iload dX4_write_75 rfl ?_
            refine Y.cVI dX4_write_77 mkX0_boundOf csX4_120 (obA (Or.inl rfl)) ⟨_, rfl, rfl⟩ (c_X0_boundOf (Or.inl rfl) ecx hp hSx (by omega) (by omega) (by assumption)) (by omega) rfl rfl (Nat.le_of_ble_eq_true rfl) ?_
            have hbb := bndA_b hp (x := (x : Int)) (by omega) (by omega) (by assumption)
            refine Y.i2l dX4_write_80 (by omega) ?_
            refine Y.cVV dX4_write_81 mkX3_put csX4_170 (obS hk) ⟨_, rfl, rfl⟩ (c_X3_put hk (by rw [e1, e59c]; omega) (by omega) (by omega)) (by omega) rfl rfl (Nat.le_of_ble_eq_true rfl) ?_
            refine Y.iinc dX4_write_84 rfl (by decide) rfl ?_
            refine Y.iinc dX4_write_87 rfl (by decide) rfl ?_
            refine Y.goto 42 dX4_write_90 (by decide) ?_
            have e9 : zi ((x : Int) + 1) = zi ((x + 1 : Nat) : Int) := rfl
            rw [e9]
            first
              | (have q1 : wn p (s_34.1 (59 + 2 * k) 2) (x + 1) = (wn p (s_34.1 (59 + 2 * k) 2) x) := by rw [wn_n, if_neg (fun q => absurd q.1 (by assumption))]
                 have q2 : wrC s_34 p k (x + 1) = wrC s_34 p k x := by rw [wrC_n, if_neg (fun q => absurd q.1 (by assumption))]
                 rw [← q1, ← q2]
                 exact ih _ (by omega) (by omega))
              | (have qc : th p (x : Int) ∧ (wn p (s_34.1 (59 + 2 * k) 2) x) < s_34.1 (59 + 2 * k) 2 := ⟨by assumption, by omega⟩
                 have q1 : wn p (s_34.1 (59 + 2 * k) 2) (x + 1) = (wn p (s_34.1 (59 + 2 * k) 2) x) + 1 := by rw [wn_n, if_pos qc]
                 have q2 : wrC s_34 p k (x + 1) = zul (wrC s_34 p k x) (60 + 2 * k) (wn p (s_34.1 (59 + 2 * k) 2) x) (if (wrC s_34 p k x).1 (59 + 2 * k) 1 = 0 then zsh (bndA p (x : Int)) else bndA p (x : Int)) := by rw [wrC_n, if_pos qc, e1]; rfl
                 rw [← q1, ← q2]
                 exact ih _ (by omega) (by omega))
    · refine Y.aload_n dX4_write_24 rfl ?_
      refine Y.iconst dX4_write_25 ?_
      refine Y.cVI dX4_write_26 mkX4_found csX4_93 ob0 ⟨_, rfl, rfl⟩ c_X4_found (by omega) rfl rfl (Nat.le_of_ble_eq_true rfl) ?_
      exact Y.iret dX4_write_29 rfl (hP _ _ (Or.inr (Or.inl ⟨k, hk, rfl, by omega, rfl, rfl⟩)))
  · refine Y.bipush dX4_write_7 (by decide +kernel) ?_
    exact Y.iret dX4_write_9 rfl (hP _ _ (Or.inr (Or.inr ⟨by assumption, rfl, rfl⟩)))
end ZK5
