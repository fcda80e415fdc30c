section ZL5
variable {σ : zS}
theorem WJ.mt (h : WJ (mP σ)) {k : Nat} (hk : k < 5) {i v : Int} (hv : trt k v) : WJ (mP (zu σ (72 + k) i v)) := (h.trait (i := i) hk hv).ex (mP_pu (by omega))
theorem WJ.mm (h : WJ (mP σ)) {k : Nat} (hk : k < 4) {x v : Int} (hv : mrk k v) : WJ (mP (zu σ (78 + k) x v)) := by
  have := (h.mark (x := x) hk hv).ex (mP_pu (k := 6 + k) (by omega))
  rw [show 72 + (6 + k) = 78 + k by omega] at this
  exact this
theorem WJ.mn (h : WJ (mP σ)) {i v : Int} (h0 : 0 ≤ v) (h3 : v ≤ 3) (hc : ∀ j : Int, 0 ≤ j → j < v → 0 ≤ i → i < 3 → 1 ≤ σ.1 79 (i * 3 + j)) : WJ (mP (zu σ 77 i v)) := (h.many (i := i) h0 h3 hc).ex (mP_pu (k := 5) (by omega))
theorem apM_w (h : WJ (mP σ)) {i a b c e : Int} (i0 : 0 ≤ i) (i3 : i < 3) (hm : σ.1 77 i < 3) (ha : mrk 0 a) (hb : mrk 1 b) (hc : mrk 2 c) (he : mrk 3 e) : WJ (mP (apM σ i a b c e)) := by
  have hmm := (h.1.1 i i0 i3).2.2.2.2.2
  have hmm : 0 ≤ σ.1 77 i ∧ σ.1 77 i ≤ 3 := hmm
  have h1 := h.mm (k := 0) (x := i * 3 + σ.1 77 i) (by omega) ha
  have h2 := h1.mm (k := 1) (x := i * 3 + σ.1 77 i) (by omega) hb
  have h3 := h2.mm (k := 2) (x := i * 3 + σ.1 77 i) (by omega) hc
  have h4 := h3.mm (k := 3) (x := i * 3 + σ.1 77 i) (by omega) he
  unfold apM
  refine h4.mn (by omega) (by omega) (fun j j0 j1 _ _ => ?_)
  show 1 ≤ (zu (zu (zu (zu σ 78 _ a) 79 _ b) 80 _ c) 81 _ e).1 79 _
  rw [zu_nc (by omega), zu_nc (by omega)]
  obtain ⟨-, -, ⟨-, b1, -, -⟩, -⟩ := tT
  have hb1 := hb.2.2.1
  rw [b1] at hb1
  by_cases q : j = σ.1 77 i
  · rw [q, zu_eq]; exact hb1
  · rw [zu_ne (by omega), zu_nc (by omega)]
    refine h.1.2.2 (i * 3 + j) (by omega) (by omega) ?_
    show (i * 3 + j) % 3 < σ.1 77 ((i * 3 + j) / 3)
    rw [show (i * 3 + j) / 3 = i by omega]
    omega
theorem apM_o {i a b c e : Int} {k : Nat} (hk : (k < 77 ∨ 81 < k)) : (apM σ i a b c e).1 k = σ.1 k := by
  unfold apM
  rw [zu_nc (by omega), zu_nc (by omega), zu_nc (by omega), zu_nc (by omega), zu_nc (by omega)]
theorem apM_m {i a b c e : Int} : (apM σ i a b c e).1 77 i = σ.1 77 i + 1 := by
  unfold apM
  rw [zu_eq]
def rdM (g σ : zS) (k : Nat) (i : Int) : Nat → zS
  | 0 => σ
  | n + 1 => apM (rdM g σ k i n) i (g.2 (60 + 2 * k) ((n : Int) * 4 + 0)) (g.2 (60 + 2 * k) ((n : Int) * 4 + 1)) (g.2 (60 + 2 * k) ((n : Int) * 4 + 2)) (g.2 (60 + 2 * k) ((n : Int) * 4 + 3))
theorem rdM_l {g : zS} {k : Nat} {i : Int} : ∀ n : Nat, (rdM g σ k i n).2 = σ.2
  | 0 => rfl
  | n + 1 => rdM_l n
theorem rdM_w {g : zS} {k : Nat} {i : Int} (i0 : 0 ≤ i) (i3 : i < 3) (h : WJ (mP σ)) : ∀ n : Nat, (∀ m : Nat, m < n → goA g (mP σ) k i m) → WJ (mP (rdM g σ k i n)) ∧ (rdM g σ k i n).1 77 i = σ.1 77 i + n ∧ ∀ c : Nat, (c < 77 ∨ 81 < c) → (rdM g σ k i n).1 c = σ.1 c
  | 0, _ => ⟨h, by show σ.1 77 i = σ.1 77 i + ((0 : Nat) : Int); omega, fun _ _ => rfl⟩
  | n + 1, hg => by
    obtain ⟨h1, h2, h3⟩ := rdM_w i0 i3 h n (fun m q => hg m (by omega))
    obtain ⟨g1, g2, g3⟩ := hg n (by omega)
    obtain ⟨m0, m1, m2, m3⟩ := hst4 g3
    have g2 : σ.1 77 i + n < 3 := g2
    refine ⟨apM_w h1 i0 i3 (by rw [h2]; omega) m0 m1 m2 m3, ?_, fun c hc => (apM_o hc).trans (h3 c hc)⟩
    show (apM _ i _ _ _ _).1 77 i = _
    rw [apM_m, h2]
    omega
/-- four marks told -/
def tlW (u : zS) (x : Int) (g : Int → Int) : Nat → zS
  | 0 => u
  | w + 1 => zu (tlW u x g w) (78 + w) x (g w)
theorem tlW_o {u : zS} {x : Int} {g : Int → Int} {c : Nat} (hc : c < 78) : ∀ w : Nat, (tlW u x g w).1 c = u.1 c
  | 0 => rfl
  | w + 1 => by
    show (zu (tlW u x g w) (78 + w) x (g w)).1 c = _
    rw [zu_nc (by omega)]
    exact tlW_o hc w
theorem tlW_l {u : zS} {x : Int} {g : Int → Int} : ∀ w : Nat, (tlW u x g w).2 = u.2
  | 0 => rfl
  | w + 1 => tlW_l w
set_option maxHeartbeats 8000000 in
theorem c_X5_read (hJJ : WJ (mP σ)) {g : zS} (hJ : SHJ g σ) {i q : Int} (hi : zB i) (hq : zB q) : YC 3 μX5_read [.ref 67, .int (zi i), .int (zi q)] σ (fun r s => (∃ k n : Nat, (k < 4 ∧ q = (k : Int)) ∧ (0 ≤ i ∧ i ≤ 2) ∧ g.1 (59 + 2 * k) 0 = 0 ∧ (∀ m : Nat, m < n → goA g (mP σ) k i m) ∧ ¬ goA g (mP σ) k i n ∧ r = some (.int (zi (n : Int))) ∧ s = rdM g σ k i n) ∨
    (∃ k : Nat, k < 4 ∧ q = (k : Int) ∧ (0 ≤ i ∧ i ≤ 2) ∧ g.1 (59 + 2 * k) 0 = 1 ∧ r = some (.int (zi (-11))) ∧ s = zu σ 67 4 1) ∨ (¬ ((0 ≤ i ∧ i ≤ 2) ∧ (0 ≤ q ∧ q ≤ 3)) ∧ r = some (.int (zi (-2))) ∧ s = σ)) := by
  refine YC.of2 (by decide) (Nat.le_of_ble_eq_true rfl) (fun d P hd hP => ?_)
  refine Y.iload_n dX5_read_0 rfl ?_
  refine Y.cSI dX5_read_1 mkX5_isChain csX5_121 (c_X5_isChain (by omega)) (by omega) rfl rfl (Nat.le_of_ble_eq_true rfl) ?_
  refine Y.ifz_eq 14 dX5_read_4 (by decide) (fun h_4 => ?_) (fun h_4 => ?_)
  · refine Y.bipush dX5_read_14 (by decide +kernel) ?_
    exact Y.iret dX5_read_16 rfl (hP _ _ (Or.inr (Or.inr ⟨fun z => by first | exact absurd z.1 (by assumption) | exact absurd z.2 (by assumption), rfl, rfl⟩)))
  · refine Y.iload_n dX5_read_7 rfl ?_
    refine Y.cSI dX5_read_8 mkX5_isSheet csX5_101 (c_X5_isSheet (by omega)) (by omega) rfl rfl (Nat.le_of_ble_eq_true rfl) ?_
    refine Y.ifz_ne 17 dX5_read_11 (by decide) (fun h_11 => ?_) (fun h_11 => ?_)
    · obtain ⟨k, rfl⟩ : ∃ k : Nat, q = (k : Int) := ⟨q.toNat, by omega⟩
      have hk : k < 4 := by omega
      have hsh := hJ k hk
      have hb := hsh.b
      have hm := hsh.1
      have hz := hsh.2.1
      have i0 : 0 ≤ i := by omega
      have i3 : i < 3 := by omega
      refine Y.aload_n dX5_read_17 rfl ?_
      refine Y.getf dX5_read_18 flX5_7 ob67 rfl ?_
      refine Y.iload_n dX5_read_21 rfl ?_
      refine Y.iald dX5_read_22 ia68 (by omega) (by omega) ?_
      refine Y.if_ge 32 dX5_read_23 (by decide) (by omega) (fun h_23 => ?_) (fun h_23 => ?_)
      · refine Y.iconst dX5_read_32 ?_
        refine Y.istore_n dX5_read_33 (by decide) rfl ?_
        refine Y.iconst dX5_read_34 ?_
        refine Y.istore dX5_read_35 (by decide) rfl ?_
        refine Y.iconst dX5_read_37 ?_
        refine Y.istore dX5_read_38 (by decide) rfl ?_
        refine zw3 (fun (n : Nat) (my kk : Int) => (n ≤ 3 ∧ (∀ m : Nat, m < n → goA g (mP σ) k i m) ∧ 0 ≤ kk ∧ kk ≤ 15 ∧ ((my = 1 ∧ kk = n) ∨ (my = 0 ∧ ¬ goA g (mP σ) k i n)))) (fun n my kk => Y d μX5_read 40 [some (.ref 67), some (.int (zi i)), some (.int (zi (k : Int))), some (.int (zi (n : Int))), some (.int (zi my)), some (.int (zi kk)), none] [] (rdM g σ k i n) P) (fun n my kk => (16 - kk).toNat) ?_ 0 1 0 ⟨by omega, fun m q => by omega, by omega, by omega, Or.inl ⟨rfl, rfl⟩⟩
        intro n my kk hI ih
        obtain ⟨n3, hg, kk0, kk1, hc⟩ := hI
        obtain ⟨w1, w2, w3⟩ := rdM_w (g := g) (k := k) i0 i3 hJJ n hg
        have wl := rdM_l (g := g) (σ := σ) (k := k) (i := i) n
        have hmn : 0 ≤ (rdM g σ k i n).1 77 i ∧ (rdM g σ k i n).1 77 i ≤ 3 := (w1.1.1 i i0 i3).2.2.2.2.2
        have hs77 : 0 ≤ σ.1 77 i ∧ σ.1 77 i ≤ 3 := (hJJ.1.1 i i0 i3).2.2.2.2.2
        have f69 := w3 69 (by omega)
        have f68 := w3 68 (by omega)
        refine Y.iconst dX5_read_40 ?_
        refine Y.iload dX5_read_41 rfl ?_
        refine Y.imul dX5_read_43 ?_
        refine Y.iconst dX5_read_44 ?_
        refine Y.iadd dX5_read_45 ?_
        refine Y.aload_n dX5_read_46 rfl ?_
        refine Y.getf dX5_read_47 flX5_13 ob67 rfl ?_
        refine Y.iload_n dX5_read_50 rfl ?_
        refine Y.iald dX5_read_51 ia69 (by omega) (by omega) ?_
        rw [f69]
        refine Y.icmp_ge 202 dX5_read_52 (by decide) (by omega) (by omega) (fun h_52 => ?_) (fun h_52 => ?_)
        · have hng : ¬ goA g (mP σ) k i n := by
            rcases hc with z | z
            · exact fun q => by have q1 := q.1; omega
            · exact z.2
          refine Y.iload_n dX5_read_202 rfl ?_
          exact Y.iret dX5_read_203 rfl (hP _ _ (Or.inl ⟨k, n, ⟨hk, rfl⟩, h_4, by omega, hg, hng, rfl, rfl⟩))
        · refine Y.iload dX5_read_55 rfl ?_
          refine Y.if_eq 202 dX5_read_57 (by decide) (by omega) (fun h_57 => ?_) (fun h_57 => ?_)
          · have hng : ¬ goA g (mP σ) k i n := by
              rcases hc with z | z
              · exact fun q => by have q1 := q.1; omega
              · exact z.2
            refine Y.iload_n dX5_read_202 rfl ?_
            exact Y.iret dX5_read_203 rfl (hP _ _ (Or.inl ⟨k, n, ⟨hk, rfl⟩, h_4, by omega, hg, hng, rfl, rfl⟩))
          · have hmy : my = 1 ∧ kk = (n : Int) := by rcases hc with q | q; (· exact q); exact absurd q.1 (by omega)
            obtain ⟨rfl, rfl⟩ := hmy
            have hit : ∀ w : Int, 0 ≤ w → w < 4 → (rdM g σ k i n).2 70 (60 * (k : Int) + 4 * (n : Int) + w) = g.2 (60 + 2 * k) ((n : Int) * 4 + w) ∧ zB64 (g.2 (60 + 2 * k) ((n : Int) * 4 + w)) := fun w q1 q2 => by
              have q := hsh.2.2 ((n : Int) * 4 + w) (by omega) (by omega)
              rw [wl]
              exact ⟨by rw [q.1, show 60 * (k : Int) + 4 * (n : Int) + w = 60 * (k : Int) + ((n : Int) * 4 + w) by omega], q.2⟩
            have k80 : Y d μX5_read 80 [some (.ref 67), some (.int (zi i)), some (.int (zi (k : Int))), some (.int (zi (n : Int))), some (.int (zi (zb ((rdM g σ k i n).1 77 i < 3 ∧ ∀ y : Int, 0 ≤ y → y < 0 → mrk y (g.2 (60 + 2 * k) ((n : Int) * 4 + y)))))), some (.int (zi (n : Int))), some (.int (zi 0))] [] (rdM g σ k i n) P := by
              refine zw1 (fun w => (0 ≤ w ∧ w ≤ 4)) (fun w => Y d μX5_read 80 [some (.ref 67), some (.int (zi i)), some (.int (zi (k : Int))), some (.int (zi (n : Int))), some (.int (zi (zb ((rdM g σ k i n).1 77 i < 3 ∧ ∀ y : Int, 0 ≤ y → y < w → mrk y (g.2 (60 + 2 * k) ((n : Int) * 4 + y)))))), some (.int (zi (n : Int))), some (.int (zi w))] [] (rdM g σ k i n) P) (fun w => (4 - w).toNat) ?_ 0 ⟨by omega, by omega⟩
              intro w hI1 ih1
              obtain ⟨i1, i2⟩ := hI1
              refine Y.iload dX5_read_80 rfl ?_
              refine Y.iconst dX5_read_82 ?_
              refine Y.icmp_ge 129 dX5_read_83 (by decide) (by omega) (by omega) (fun h_83 => ?_) (fun h_83 => ?_)
              · rw [show w = 4 by omega]
                by_cases hQ : ((rdM g σ k i n).1 77 i < 3 ∧ ∀ y : Int, 0 ≤ y → y < 4 → mrk y (g.2 (60 + 2 * k) ((n : Int) * 4 + y)))
                · rw [zb_t hQ]
                  have hgo : goA g (mP σ) k i n := ⟨by omega, by show σ.1 77 i + (n : Int) < 3; have := hQ.1; omega, hQ.2⟩
                  have hQ1 := hQ.1
                  refine Y.iload dX5_read_129 rfl ?_
                  refine Y.if_eq 196 dX5_read_131 (by decide) (by omega) (fun h_131 => ?_) (fun h_131 => ?_)
                  · exfalso; omega
                  refine Y.iconst dX5_read_134 ?_
                  refine Y.istore dX5_read_135 (by decide) rfl ?_
                  refine zw1 (fun w : Nat => w ≤ 4) (fun w => Y d μX5_read 137 [some (.ref 67), some (.int (zi i)), some (.int (zi (k : Int))), some (.int (zi (n : Int))), some (.int (zi 1)), some (.int (zi (n : Int))), some (.int (zi (w : Int)))] [] (tlW (rdM g σ k i n) (i * 3 + (rdM g σ k i n).1 77 i) (fun w => g.2 (60 + 2 * k) ((n : Int) * 4 + w)) w) P) (fun w => 4 - w) ?_ 0 (by omega)
                  intro w hw4 ih2
                  refine Y.iload dX5_read_137 rfl ?_
                  refine Y.iconst dX5_read_139 ?_
                  refine Y.icmp_ge 183 dX5_read_140 (by decide) (by omega) (by omega) (fun h_140 => ?_) (fun h_140 => ?_)
                  · rw [show w = 4 by omega]
                    have eT : tlW (rdM g σ k i n) (i * 3 + (rdM g σ k i n).1 77 i) (fun w => g.2 (60 + 2 * k) ((n : Int) * 4 + w)) 4 = zu (zu (zu (zu (rdM g σ k i n) 78 (i * 3 + (rdM g σ k i n).1 77 i) (g.2 (60 + 2 * k) ((n : Int) * 4 + 0))) 79 (i * 3 + (rdM g σ k i n).1 77 i) (g.2 (60 + 2 * k) ((n : Int) * 4 + 1))) 80 (i * 3 + (rdM g σ k i n).1 77 i) (g.2 (60 + 2 * k) ((n : Int) * 4 + 2))) 81 (i * 3 + (rdM g σ k i n).1 77 i) (g.2 (60 + 2 * k) ((n : Int) * 4 + 3)) := rfl
                    have eM : (tlW (rdM g σ k i n) (i * 3 + (rdM g σ k i n).1 77 i) (fun w => g.2 (60 + 2 * k) ((n : Int) * 4 + w)) 4).1 77 i = (rdM g σ k i n).1 77 i := by rw [tlW_o (by omega)]
                    refine Y.aload_n dX5_read_183 rfl ?_
                    refine Y.getf dX5_read_184 flX5_38 ob67 rfl ?_
                    refine Y.iload_n dX5_read_187 rfl ?_
                    refine Y.dup2 dX5_read_188 rfl rfl ?_
                    refine Y.iald dX5_read_189 ia77 (by omega) (by omega) ?_
                    refine Y.iconst dX5_read_190 ?_
                    refine Y.iadd dX5_read_191 ?_
                    refine Y.iast dX5_read_192 ia77 (by omega) (by omega) ?_
                    refine Y.iinc dX5_read_193 rfl (by decide) rfl ?_
                    refine Y.iinc dX5_read_196 rfl (by decide) rfl ?_
                    refine Y.goto 40 dX5_read_199 (by decide) ?_
                    rw [eM, eT]
                    have eA : zu (zu (zu (zu (zu (rdM g σ k i n) 78 (i * 3 + (rdM g σ k i n).1 77 i) (g.2 (60 + 2 * k) ((n : Int) * 4 + 0))) 79 (i * 3 + (rdM g σ k i n).1 77 i) (g.2 (60 + 2 * k) ((n : Int) * 4 + 1))) 80 (i * 3 + (rdM g σ k i n).1 77 i) (g.2 (60 + 2 * k) ((n : Int) * 4 + 2))) 81 (i * 3 + (rdM g σ k i n).1 77 i) (g.2 (60 + 2 * k) ((n : Int) * 4 + 3))) 77 i ((rdM g σ k i n).1 77 i + 1) = rdM g σ k i (n + 1) := rfl
                    rw [eA]
                    have e1 : zi ((n : Int) + 1) = zi ((n + 1 : Nat) : Int) := rfl
                    refine Y.sub (zs_s (zs_s (zs_s (zs_s (zs_s (zs_s (zs_n zs_0))))))) ?_
                    exact ih (n + 1) 1 ((n : Int) + 1) ⟨by omega, fun m q => if z : m = n then by rw [z]; exact hgo else hg m (by omega), by omega, by omega, Or.inl ⟨rfl, rfl⟩⟩ (by omega)
                  · have hiw := hit (w : Int) (by omega) (by omega)
                    have eM2 := tlW_o (u := (rdM g σ k i n)) (x := i * 3 + (rdM g σ k i n).1 77 i) (g := fun w => g.2 (60 + 2 * k) ((n : Int) * 4 + w)) (c := 77) (by omega) w
                    have eL2 := tlW_l (u := (rdM g σ k i n)) (x := i * 3 + (rdM g σ k i n).1 77 i) (g := fun w => g.2 (60 + 2 * k) ((n : Int) * 4 + w)) w
                    refine Y.aload_n dX5_read_143 rfl ?_
                    refine Y.iconst dX5_read_144 ?_
                    refine Y.iload_n dX5_read_145 rfl ?_
                    refine Y.imul dX5_read_146 ?_
                    refine Y.aload_n dX5_read_147 rfl ?_
                    refine Y.getf dX5_read_148 flX5_38 ob67 rfl ?_
                    refine Y.iload_n dX5_read_151 rfl ?_
                    refine Y.iald dX5_read_152 ia77 (by omega) (by omega) ?_
                    refine Y.iadd dX5_read_153 ?_
                    rw [congrFun eM2 i, show 3 * i + (rdM g σ k i n).1 77 i = i * 3 + (rdM g σ k i n).1 77 i by omega]
                    refine Y.iload dX5_read_154 rfl ?_
                    refine Y.aload_n dX5_read_156 rfl ?_
                    refine Y.getf dX5_read_157 flX5_16 ob67 rfl ?_
                    refine Y.bipush dX5_read_160 (by decide +kernel) ?_
                    refine Y.iload_n dX5_read_162 rfl ?_
                    refine Y.imul dX5_read_163 ?_
                    refine Y.iconst dX5_read_164 ?_
                    refine Y.iload dX5_read_165 rfl ?_
                    refine Y.imul dX5_read_167 ?_
                    refine Y.iadd dX5_read_168 ?_
                    refine Y.iload dX5_read_169 rfl ?_
                    refine Y.iadd dX5_read_171 ?_
                    refine Y.lald dX5_read_172 la70 (by omega) (by omega) ?_
                    rw [eL2, show 60 * (k : Int) + 4 * (n : Int) + (w : Int) = 60 * (k : Int) + 4 * (n : Int) + (w : Int) from rfl, hiw.1]
                    refine Y.l2i dX5_read_173 ?_
                    refine Y.cVV dX5_read_174 mkX5_tells csX5_150 ob67 ⟨_, rfl, rfl⟩ (c_X5_tells (by omega) (by omega) (by omega)) (by omega) rfl rfl (Nat.le_of_ble_eq_true rfl) ?_
                    refine Y.iinc dX5_read_177 rfl (by decide) rfl ?_
                    refine Y.goto 137 dX5_read_180 (by decide) ?_
                    have e1 : zi ((w : Int) + 1) = zi ((w + 1 : Nat) : Int) := rfl
                    rw [e1]
                    exact ih2 (w + 1) (by omega) (by omega)
                · rw [zb_f hQ]
                  have hng : ¬ goA g (mP σ) k i n := fun q => hQ ⟨by have q2 : σ.1 77 i + (n : Int) < 3 := q.2.1; omega, q.2.2⟩
                  refine Y.iload dX5_read_129 rfl ?_
                  refine Y.if_eq 196 dX5_read_131 (by decide) (by omega) (fun h_131 => ?_) (fun h_131 => ?_)
                  rotate_left
                  · exfalso; omega
                  refine Y.iinc dX5_read_196 rfl (by decide) rfl ?_
                  refine Y.goto 40 dX5_read_199 (by decide) ?_
                  refine Y.sub (zs_s (zs_s (zs_s (zs_s (zs_s (zs_s (zs_n zs_0))))))) ?_
                  exact ih n 0 ((n : Int) + 1) ⟨n3, hg, by omega, by omega, Or.inr ⟨rfl, hng⟩⟩ (by omega)
              · have hiw := hit w i1 (by omega)
                refine Y.iload dX5_read_86 rfl ?_
                refine Y.ifz_eq 120 dX5_read_88 (by decide) (fun h_88 => ?_) (fun h_88 => ?_)
                · refine Y.iconst dX5_read_120 ?_
                  refine Y.istore dX5_read_121 (by decide) rfl ?_
                  refine Y.iinc dX5_read_123 rfl (by decide) rfl ?_
                  refine Y.goto 80 dX5_read_126 (by decide) ?_
                  first
                    | (have z1 : ((rdM g σ k i n).1 77 i < 3 ∧ ∀ y : Int, 0 ≤ y → y < w + 1 → mrk y (g.2 (60 + 2 * k) ((n : Int) * 4 + y))) := ⟨(by assumption : ((rdM g σ k i n).1 77 i < 3 ∧ ∀ y : Int, 0 ≤ y → y < w → mrk y (g.2 (60 + 2 * k) ((n : Int) * 4 + y)))).1, fun y q1 q2 => if z : y = w then by rw [z]; assumption else (by assumption : ((rdM g σ k i n).1 77 i < 3 ∧ ∀ y : Int, 0 ≤ y → y < w → mrk y (g.2 (60 + 2 * k) ((n : Int) * 4 + y)))).2 y q1 (by omega)⟩
                       have qq := ih1 (w + 1) ⟨by omega, by omega⟩ (by omega)
                       rw [zb_t z1] at qq
                       exact qq)
                    | (have z1 : ¬ ((rdM g σ k i n).1 77 i < 3 ∧ ∀ y : Int, 0 ≤ y → y < w + 1 → mrk y (g.2 (60 + 2 * k) ((n : Int) * 4 + y))) := fun q => (by assumption : ¬ ((rdM g σ k i n).1 77 i < 3 ∧ ∀ y : Int, 0 ≤ y → y < w → mrk y (g.2 (60 + 2 * k) ((n : Int) * 4 + y)))) ⟨q.1, fun y q1 q2 => q.2 y q1 (by omega)⟩
                       have qq := ih1 (w + 1) ⟨by omega, by omega⟩ (by omega)
                       rw [zb_f z1] at qq
                       exact qq)
                    | (have z1 : ¬ ((rdM g σ k i n).1 77 i < 3 ∧ ∀ y : Int, 0 ≤ y → y < w + 1 → mrk y (g.2 (60 + 2 * k) ((n : Int) * 4 + y))) := fun q => absurd (q.2 w i1 (by omega)) (by assumption)
                       have qq := ih1 (w + 1) ⟨by omega, by omega⟩ (by omega)
                       rw [zb_f z1] at qq
                       exact qq)
                · refine Y.iload dX5_read_91 rfl ?_
                  refine Y.aload_n dX5_read_93 rfl ?_
                  refine Y.getf dX5_read_94 flX5_16 ob67 rfl ?_
                  refine Y.bipush dX5_read_97 (by decide +kernel) ?_
                  refine Y.iload_n dX5_read_99 rfl ?_
                  refine Y.imul dX5_read_100 ?_
                  refine Y.iconst dX5_read_101 ?_
                  refine Y.iload dX5_read_102 rfl ?_
                  refine Y.imul dX5_read_104 ?_
                  refine Y.iadd dX5_read_105 ?_
                  refine Y.iload dX5_read_106 rfl ?_
                  refine Y.iadd dX5_read_108 ?_
                  refine Y.lald dX5_read_109 la70 (by omega) (by omega) ?_
                  rw [hiw.1]
                  refine Y.cSI dX5_read_110 mkX5_mayStep csX5_146 (c_X5_mayStep (by omega) hiw.2) (by omega) rfl rfl (Nat.le_of_ble_eq_true rfl) ?_
                  refine Y.ifz_eq 120 dX5_read_113 (by decide) (fun h_113 => ?_) (fun h_113 => ?_)
                  · refine Y.iconst dX5_read_120 ?_
                    refine Y.istore dX5_read_121 (by decide) rfl ?_
                    refine Y.iinc dX5_read_123 rfl (by decide) rfl ?_
                    refine Y.goto 80 dX5_read_126 (by decide) ?_
                    first
                      | (have z1 : ((rdM g σ k i n).1 77 i < 3 ∧ ∀ y : Int, 0 ≤ y → y < w + 1 → mrk y (g.2 (60 + 2 * k) ((n : Int) * 4 + y))) := ⟨(by assumption : ((rdM g σ k i n).1 77 i < 3 ∧ ∀ y : Int, 0 ≤ y → y < w → mrk y (g.2 (60 + 2 * k) ((n : Int) * 4 + y)))).1, fun y q1 q2 => if z : y = w then by rw [z]; assumption else (by assumption : ((rdM g σ k i n).1 77 i < 3 ∧ ∀ y : Int, 0 ≤ y → y < w → mrk y (g.2 (60 + 2 * k) ((n : Int) * 4 + y)))).2 y q1 (by omega)⟩
                         have qq := ih1 (w + 1) ⟨by omega, by omega⟩ (by omega)
                         rw [zb_t z1] at qq
                         exact qq)
                      | (have z1 : ¬ ((rdM g σ k i n).1 77 i < 3 ∧ ∀ y : Int, 0 ≤ y → y < w + 1 → mrk y (g.2 (60 + 2 * k) ((n : Int) * 4 + y))) := fun q => (by assumption : ¬ ((rdM g σ k i n).1 77 i < 3 ∧ ∀ y : Int, 0 ≤ y → y < w → mrk y (g.2 (60 + 2 * k) ((n : Int) * 4 + y)))) ⟨q.1, fun y q1 q2 => q.2 y q1 (by omega)⟩
                         have qq := ih1 (w + 1) ⟨by omega, by omega⟩ (by omega)
                         rw [zb_f z1] at qq
                         exact qq)
                      | (have z1 : ¬ ((rdM g σ k i n).1 77 i < 3 ∧ ∀ y : Int, 0 ≤ y → y < w + 1 → mrk y (g.2 (60 + 2 * k) ((n : Int) * 4 + y))) := fun q => absurd (q.2 w i1 (by omega)) (by assumption)
                         have qq := ih1 (w + 1) ⟨by omega, by omega⟩ (by omega)
                         rw [zb_f z1] at qq
                         exact qq)
                  · refine Y.iconst dX5_read_116 ?_
                    refine Y.goto 121 dX5_read_117 (by decide) ?_
                    refine Y.istore dX5_read_121 (by decide) rfl ?_
                    refine Y.iinc dX5_read_123 rfl (by decide) rfl ?_
                    refine Y.goto 80 dX5_read_126 (by decide) ?_
                    first
                      | (have z1 : ((rdM g σ k i n).1 77 i < 3 ∧ ∀ y : Int, 0 ≤ y → y < w + 1 → mrk y (g.2 (60 + 2 * k) ((n : Int) * 4 + y))) := ⟨(by assumption : ((rdM g σ k i n).1 77 i < 3 ∧ ∀ y : Int, 0 ≤ y → y < w → mrk y (g.2 (60 + 2 * k) ((n : Int) * 4 + y)))).1, fun y q1 q2 => if z : y = w then by rw [z]; assumption else (by assumption : ((rdM g σ k i n).1 77 i < 3 ∧ ∀ y : Int, 0 ≤ y → y < w → mrk y (g.2 (60 + 2 * k) ((n : Int) * 4 + y)))).2 y q1 (by omega)⟩
                         have qq := ih1 (w + 1) ⟨by omega, by omega⟩ (by omega)
                         rw [zb_t z1] at qq
                         exact qq)
                      | (have z1 : ¬ ((rdM g σ k i n).1 77 i < 3 ∧ ∀ y : Int, 0 ≤ y → y < w + 1 → mrk y (g.2 (60 + 2 * k) ((n : Int) * 4 + y))) := fun q => (by assumption : ¬ ((rdM g σ k i n).1 77 i < 3 ∧ ∀ y : Int, 0 ≤ y → y < w → mrk y (g.2 (60 + 2 * k) ((n : Int) * 4 + y)))) ⟨q.1, fun y q1 q2 => q.2 y q1 (by omega)⟩
                         have qq := ih1 (w + 1) ⟨by omega, by omega⟩ (by omega)
                         rw [zb_f z1] at qq
                         exact qq)
                      | (have z1 : ¬ ((rdM g σ k i n).1 77 i < 3 ∧ ∀ y : Int, 0 ≤ y → y < w + 1 → mrk y (g.2 (60 + 2 * k) ((n : Int) * 4 + y))) := fun q => absurd (q.2 w i1 (by omega)) (by assumption)
                         have qq := ih1 (w + 1) ⟨by omega, by omega⟩ (by omega)
                         rw [zb_f z1] at qq
                         exact qq)
            refine Y.aload_n dX5_read_60 rfl ?_
            refine Y.getf dX5_read_61 flX5_38 ob67 rfl ?_
            refine Y.iload_n dX5_read_64 rfl ?_
            refine Y.iald dX5_read_65 ia77 (by omega) (by omega) ?_
            refine Y.iconst dX5_read_66 ?_
            refine Y.icmp_ge 74 dX5_read_67 (by decide) (by omega) (by omega) (fun h_67 => ?_) (fun h_67 => ?_)
            · refine Y.iconst dX5_read_74 ?_
              refine Y.istore dX5_read_75 (by decide) rfl ?_
              refine Y.iconst dX5_read_77 ?_
              refine Y.istore dX5_read_78 (by decide) rfl ?_
              first
                | (rw [zb_t (⟨by omega, fun y q1 q2 => by omega⟩ : ((rdM g σ k i n).1 77 i < 3 ∧ ∀ y : Int, 0 ≤ y → y < 0 → mrk y (g.2 (60 + 2 * k) ((n : Int) * 4 + y))))] at k80
                   exact k80)
                | (rw [zb_f (fun q => by have q1 := q.1; omega : ¬ ((rdM g σ k i n).1 77 i < 3 ∧ ∀ y : Int, 0 ≤ y → y < 0 → mrk y (g.2 (60 + 2 * k) ((n : Int) * 4 + y))))] at k80
                   exact k80)
            · refine Y.iconst dX5_read_70 ?_
              refine Y.goto 75 dX5_read_71 (by decide) ?_
              refine Y.istore dX5_read_75 (by decide) rfl ?_
              refine Y.iconst dX5_read_77 ?_
              refine Y.istore dX5_read_78 (by decide) rfl ?_
              first
                | (rw [zb_t (⟨by omega, fun y q1 q2 => by omega⟩ : ((rdM g σ k i n).1 77 i < 3 ∧ ∀ y : Int, 0 ≤ y → y < 0 → mrk y (g.2 (60 + 2 * k) ((n : Int) * 4 + y))))] at k80
                   exact k80)
                | (rw [zb_f (fun q => by have q1 := q.1; omega : ¬ ((rdM g σ k i n).1 77 i < 3 ∧ ∀ y : Int, 0 ≤ y → y < 0 → mrk y (g.2 (60 + 2 * k) ((n : Int) * 4 + y))))] at k80
                   exact k80)
      · refine Y.aload_n dX5_read_26 rfl ?_
        refine Y.iconst dX5_read_27 ?_
        refine Y.cVI dX5_read_28 mkX5_finds csX5_107 ob67 ⟨_, rfl, rfl⟩ c_X5_finds (by omega) rfl rfl (Nat.le_of_ble_eq_true rfl) ?_
        exact Y.iret dX5_read_31 rfl (hP _ _ (Or.inr (Or.inl ⟨k, hk, rfl, h_4, by omega, rfl, rfl⟩)))
    · refine Y.bipush dX5_read_14 (by decide +kernel) ?_
      exact Y.iret dX5_read_16 rfl (hP _ _ (Or.inr (Or.inr ⟨fun z => by first | exact absurd z.1 (by assumption) | exact absurd z.2 (by assumption), rfl, rfl⟩)))
noncomputable def wrM (g σ : zS) (p : zP) (k : Nat) : Nat → zS
  | 0 => σ
  | x + 1 => @ite _ (th p (x : Int) ∧ wn p (g.1 (59 + 2 * k) 2) x < g.1 (59 + 2 * k) 2) (Classical.propDecidable _) (zul (wrM g σ p k x) 70 (60 * k + wn p (g.1 (59 + 2 * k) 2) x) (wrv p (g.1 (59 + 2 * k) 1) x)) (wrM g σ p k x)
theorem wrM_n {g : zS} {p : zP} {k x : Nat} : wrM g σ p k (x + 1) = @ite _ (th p (x : Int) ∧ wn p (g.1 (59 + 2 * k) 2) x < g.1 (59 + 2 * k) 2) (Classical.propDecidable _) (zul (wrM g σ p k x) 70 (60 * k + wn p (g.1 (59 + 2 * k) 2) x) (wrv p (g.1 (59 + 2 * k) 1) x)) (wrM g σ p k x) := rfl
theorem wrM_i {g : zS} {p : zP} {k : Nat} : ∀ x : Nat, (wrM g σ p k x).1 = σ.1
  | 0 => rfl
  | x + 1 => by
    rw [wrM_n]
    split
    · rw [zul_i]; exact wrM_i x
    · exact wrM_i x
theorem MS.i1 {s t : zS} {p : zP} (h : MS s p) (hf : t.1 = s.1) : MS t p := by
  rcases h with ⟨h1, h2⟩ | ⟨r, l, h1, h2, h3, h4, h5⟩
  · exact Or.inl ⟨h1, by rw [hf]; exact h2⟩
  · exact Or.inr ⟨r, l, h1, by rw [hf]; exact h2, by rw [hf]; exact h3, h4.fr (fun c _ _ => by rw [hf]), h5.fr (fun c _ _ => by rw [hf])⟩
set_option maxHeartbeats 8000000 in
theorem c_X5_write {p : zP} (ec : mP σ = p) (hp : WP p) {g : zS} (hJ : SHJ g σ) {q : Int} (hq : zB q) : YC 10 μX5_write [.ref 67, .int (zi q)] σ (fun r s => (∃ (k : Nat) (u : zS), k < 4 ∧ q = (k : Int) ∧ g.1 (59 + 2 * k) 0 = 0 ∧ EM σ u ∧ r = some (.int (zi (wn p (g.1 (59 + 2 * k) 2) 9))) ∧ s = wrM g u p k 9) ∨
    (∃ k : Nat, k < 4 ∧ q = (k : Int) ∧ g.1 (59 + 2 * k) 0 = 1 ∧ r = some (.int (zi (-11))) ∧ s = zu σ 67 4 1) ∨ (¬ (0 ≤ q ∧ q ≤ 3) ∧ r = some (.int (zi (-2))) ∧ s = σ)) := by
  refine YC.of2 (by decide) (Nat.le_of_ble_eq_true rfl) (fun d P hd hP => ?_)
  refine Y.iload_n dX5_write_0 rfl ?_
  refine Y.cSI dX5_write_1 mkX5_isSheet csX5_101 (c_X5_isSheet (by omega)) (by omega) rfl rfl (Nat.le_of_ble_eq_true rfl) ?_
  refine Y.ifz_ne 10 dX5_write_4 (by decide) (fun h_4 => ?_) (fun h_4 => ?_)
  · obtain ⟨k, rfl⟩ : ∃ k : Nat, q = (k : Int) := ⟨q.toNat, by omega⟩
    have hk : k < 4 := by omega
    have hsh := hJ k hk
    have hb := hsh.b
    have hm := hsh.1
    have hz := hsh.2.1
    refine Y.aload_n dX5_write_10 rfl ?_
    refine Y.getf dX5_write_11 flX5_7 ob67 rfl ?_
    refine Y.iload_n dX5_write_14 rfl ?_
    refine Y.iald dX5_write_15 ia68 (by omega) (by omega) ?_
    refine Y.if_ge 25 dX5_write_16 (by decide) (by omega) (fun h_16 => ?_) (fun h_16 => ?_)
    · refine Y.aload_n dX5_write_25 rfl ?_
      refine Y.callV dX5_write_26 mkX5_settles csX5_248 ob67 ⟨_, rfl, rfl⟩ (c_X5_settles ec hp) (by omega) rfl rfl (Nat.le_of_ble_eq_true rfl) (fun r_26 s_26 p_26 => ?_)
      obtain ⟨rfl, f_26, k_26, g_26⟩ := p_26
      have ec2 := f_26.mp.trans ec
      have hE := f_26.em
      refine Y.iconst dX5_write_29 ?_
      refine Y.istore_n dX5_write_30 (by decide) rfl ?_
      refine Y.iconst dX5_write_31 ?_
      refine Y.istore_n dX5_write_32 (by decide) rfl ?_
      have e68 : s_26.1 68 = σ.1 68 := hE.1.2.1 _ (by omega) (by omega) (by omega)
      have e69 : s_26.1 69 = σ.1 69 := hE.1.2.1 _ (by omega) (by omega) (by omega)
      refine zw1 (fun x : Nat => x ≤ 9) (fun x => Y d μX5_write 33 [some (.ref 67), some (.int (zi (k : Int))), some (.int (zi (wn p (g.1 (59 + 2 * k) 2) x))), some (.int (zi (x : Int)))] [] (wrM g s_26 p k x) P) (fun x => 9 - x) ?_ 0 (by omega)
      intro x hx ih
      have wi1 := wrM_i (g := g) (σ := s_26) (p := p) (k := k) x
      have wb := wn_b (p := p) (z := g.1 (59 + 2 * k) 2) (by omega) x
      have ecx : mP (wrM g s_26 p k x) = p := (mP_of wi1).trans ec2
      have hSx : MS (wrM g s_26 p k x) p := g_26.i1 wi1
      have x68 : (wrM g s_26 p k x).1 68 (k : Int) = g.1 (59 + 2 * k) 1 := by rw [wi1, e68]; omega
      have x69 : (wrM g s_26 p k x).1 69 (k : Int) = g.1 (59 + 2 * k) 2 := by rw [wi1, e69]; omega
      refine Y.iload_n dX5_write_33 rfl ?_
      refine Y.bipush dX5_write_34 (by decide +kernel) ?_
      refine Y.icmp_ge 102 dX5_write_36 (by decide) (by omega) (by omega) (fun h_36 => ?_) (fun h_36 => ?_)
      · refine Y.iload_n dX5_write_102 rfl ?_
        exact Y.iret dX5_write_103 rfl (hP _ _ (Or.inl ⟨k, s_26, hk, rfl, by omega, hE, by rw [show x = 9 by omega], by rw [show x = 9 by omega]⟩))
      · refine Y.aload_n dX5_write_39 rfl ?_
        refine Y.iload_n dX5_write_40 rfl ?_
        refine Y.cVI dX5_write_41 mkX5_isThere csX5_160 ob67 ⟨_, rfl, rfl⟩ (k_X5_isThere ecx hp (by omega) (by omega)) (by omega) rfl rfl (Nat.le_of_ble_eq_true rfl) ?_
        refine Y.ifz_eq 96 dX5_write_44 (by decide) (fun h_44 => ?_) (fun h_44 => ?_)
        · refine Y.iinc dX5_write_96 rfl (by decide) rfl ?_
          refine Y.goto 33 dX5_write_99 (by decide) ?_
          have e9 : zi ((x : Int) + 1) = zi ((x + 1 : Nat) : Int) := rfl
          rw [e9]
          first
            | (have q0 : ¬ (th p (x : Int) ∧ (wn p (g.1 (59 + 2 * k) 2) x) < g.1 (59 + 2 * k) 2) := fun q => absurd q.1 (by assumption)
               have q1 : wn p (g.1 (59 + 2 * k) 2) (x + 1) = (wn p (g.1 (59 + 2 * k) 2) x) := by rw [wn_n, if_neg q0]
               have q2 : wrM g s_26 p k (x + 1) = wrM g s_26 p k x := by rw [wrM_n, if_neg q0]
               rw [← q1, ← q2]
               exact ih _ (by omega) (by omega))
            | (have q0 : ¬ (th p (x : Int) ∧ (wn p (g.1 (59 + 2 * k) 2) x) < g.1 (59 + 2 * k) 2) := fun q => by have := q.2; omega
               have q1 : wn p (g.1 (59 + 2 * k) 2) (x + 1) = (wn p (g.1 (59 + 2 * k) 2) x) := by rw [wn_n, if_neg q0]
               have q2 : wrM g s_26 p k (x + 1) = wrM g s_26 p k x := by rw [wrM_n, if_neg q0]
               rw [← q1, ← q2]
               exact ih _ (by omega) (by omega))
            | (have qc : th p (x : Int) ∧ (wn p (g.1 (59 + 2 * k) 2) x) < g.1 (59 + 2 * k) 2 := ⟨by assumption, by omega⟩
               have q1 : wn p (g.1 (59 + 2 * k) 2) (x + 1) = (wn p (g.1 (59 + 2 * k) 2) x) + 1 := by rw [wn_n, if_pos qc]
               have q2 : wrM g s_26 p k (x + 1) = zul (wrM g s_26 p k x) 70 (60 * k + (wn p (g.1 (59 + 2 * k) 2) x)) (zsh (bndA p (x : Int))) := by
                 rw [wrM_n, if_pos qc]
                 unfold wrv
                 rw [if_pos (by omega)]
               rw [← q1, ← q2]
               exact ih _ (by omega) (by omega))
            | (have qc : th p (x : Int) ∧ (wn p (g.1 (59 + 2 * k) 2) x) < g.1 (59 + 2 * k) 2 := ⟨by assumption, by omega⟩
               have q1 : wn p (g.1 (59 + 2 * k) 2) (x + 1) = (wn p (g.1 (59 + 2 * k) 2) x) + 1 := by rw [wn_n, if_pos qc]
               have q2 : wrM g s_26 p k (x + 1) = zul (wrM g s_26 p k x) 70 (60 * k + (wn p (g.1 (59 + 2 * k) 2) x)) (bndA p (x : Int)) := by
                 rw [wrM_n, if_pos qc]
                 unfold wrv
                 rw [if_neg (by omega)]
               rw [← q1, ← q2]
               exact ih _ (by omega) (by omega))
        · refine Y.iload_n dX5_write_47 rfl ?_
          refine Y.aload_n dX5_write_48 rfl ?_
          refine Y.getf dX5_write_49 flX5_13 ob67 rfl ?_
          refine Y.iload_n dX5_write_52 rfl ?_
          refine Y.iald dX5_write_53 ia69 (by omega) (by omega) ?_
          rw [x69]
          refine Y.icmp_ge 96 dX5_write_54 (by decide) (by omega) (by omega) (fun h_54 => ?_) (fun h_54 => ?_)
          · refine Y.iinc dX5_write_96 rfl (by decide) rfl ?_
            refine Y.goto 33 dX5_write_99 (by decide) ?_
            have e9 : zi ((x : Int) + 1) = zi ((x + 1 : Nat) : Int) := rfl
            rw [e9]
            first
              | (have q0 : ¬ (th p (x : Int) ∧ (wn p (g.1 (59 + 2 * k) 2) x) < g.1 (59 + 2 * k) 2) := fun q => absurd q.1 (by assumption)
                 have q1 : wn p (g.1 (59 + 2 * k) 2) (x + 1) = (wn p (g.1 (59 + 2 * k) 2) x) := by rw [wn_n, if_neg q0]
                 have q2 : wrM g s_26 p k (x + 1) = wrM g s_26 p k x := by rw [wrM_n, if_neg q0]
                 rw [← q1, ← q2]
                 exact ih _ (by omega) (by omega))
              | (have q0 : ¬ (th p (x : Int) ∧ (wn p (g.1 (59 + 2 * k) 2) x) < g.1 (59 + 2 * k) 2) := fun q => by have := q.2; omega
                 have q1 : wn p (g.1 (59 + 2 * k) 2) (x + 1) = (wn p (g.1 (59 + 2 * k) 2) x) := by rw [wn_n, if_neg q0]
                 have q2 : wrM g s_26 p k (x + 1) = wrM g s_26 p k x := by rw [wrM_n, if_neg q0]
                 rw [← q1, ← q2]
                 exact ih _ (by omega) (by omega))
              | (have qc : th p (x : Int) ∧ (wn p (g.1 (59 + 2 * k) 2) x) < g.1 (59 + 2 * k) 2 := ⟨by assumption, by omega⟩
                 have q1 : wn p (g.1 (59 + 2 * k) 2) (x + 1) = (wn p (g.1 (59 + 2 * k) 2) x) + 1 := by rw [wn_n, if_pos qc]
                 have q2 : wrM g s_26 p k (x + 1) = zul (wrM g s_26 p k x) 70 (60 * k + (wn p (g.1 (59 + 2 * k) 2) x)) (zsh (bndA p (x : Int))) := by
                   rw [wrM_n, if_pos qc]
                   unfold wrv
                   rw [if_pos (by omega)]
                 rw [← q1, ← q2]
                 exact ih _ (by omega) (by omega))
              | (have qc : th p (x : Int) ∧ (wn p (g.1 (59 + 2 * k) 2) x) < g.1 (59 + 2 * k) 2 := ⟨by assumption, by omega⟩
                 have q1 : wn p (g.1 (59 + 2 * k) 2) (x + 1) = (wn p (g.1 (59 + 2 * k) 2) x) + 1 := by rw [wn_n, if_pos qc]
                 have q2 : wrM g s_26 p k (x + 1) = zul (wrM g s_26 p k x) 70 (60 * k + (wn p (g.1 (59 + 2 * k) 2) x)) (bndA p (x : Int)) := by
                   rw [wrM_n, if_pos qc]
                   unfold wrv
                   rw [if_neg (by omega)]
                 rw [← q1, ← q2]
                 exact ih _ (by omega) (by omega))
          · refine Y.aload_n dX5_write_57 rfl ?_
            refine Y.getf dX5_write_58 flX5_16 ob67 rfl ?_
            refine Y.bipush dX5_write_61 (by decide +kernel) ?_
            refine Y.iload_n dX5_write_63 rfl ?_
            refine Y.imul dX5_write_64 ?_
            refine Y.iload_n dX5_write_65 rfl ?_
            refine Y.iadd dX5_write_66 ?_
            refine Y.aload_n dX5_write_67 rfl ?_
            refine Y.getf dX5_write_68 flX5_7 ob67 rfl ?_
            refine Y.iload_n dX5_write_71 rfl ?_
            refine Y.iald dX5_write_72 ia68 (by omega) (by omega) ?_
            rw [x68]
            refine Y.if_ne 86 dX5_write_73 (by decide) (by omega) (fun h_73 => ?_) (fun h_73 => ?_)
            · refine Y.aload_n dX5_write_86 rfl ?_
              refine Y.iload_n dX5_write_87 rfl ?_
              refine Y.cVI dX5_write_88 mkX5_boundBy csX5_254 ob67 ⟨_, rfl, rfl⟩ (c_X5_boundBy ecx hp hSx (by omega) (by omega) (by assumption)) (by omega) rfl rfl (Nat.le_of_ble_eq_true rfl) ?_
              have hbb := bndA_b hp (x := (x : Int)) (by omega) (by omega) (by assumption)
              refine Y.i2l dX5_write_91 (by omega) ?_
              refine Y.last dX5_write_92 la70 (by omega) (by omega) ?_
              refine Y.iinc dX5_write_93 rfl (by decide) rfl ?_
              refine Y.iinc dX5_write_96 rfl (by decide) rfl ?_
              refine Y.goto 33 dX5_write_99 (by decide) ?_
              have e9 : zi ((x : Int) + 1) = zi ((x + 1 : Nat) : Int) := rfl
              rw [e9]
              first
                | (have q0 : ¬ (th p (x : Int) ∧ (wn p (g.1 (59 + 2 * k) 2) x) < g.1 (59 + 2 * k) 2) := fun q => absurd q.1 (by assumption)
                   have q1 : wn p (g.1 (59 + 2 * k) 2) (x + 1) = (wn p (g.1 (59 + 2 * k) 2) x) := by rw [wn_n, if_neg q0]
                   have q2 : wrM g s_26 p k (x + 1) = wrM g s_26 p k x := by rw [wrM_n, if_neg q0]
                   rw [← q1, ← q2]
                   exact ih _ (by omega) (by omega))
                | (have q0 : ¬ (th p (x : Int) ∧ (wn p (g.1 (59 + 2 * k) 2) x) < g.1 (59 + 2 * k) 2) := fun q => by have := q.2; omega
                   have q1 : wn p (g.1 (59 + 2 * k) 2) (x + 1) = (wn p (g.1 (59 + 2 * k) 2) x) := by rw [wn_n, if_neg q0]
                   have q2 : wrM g s_26 p k (x + 1) = wrM g s_26 p k x := by rw [wrM_n, if_neg q0]
                   rw [← q1, ← q2]
                   exact ih _ (by omega) (by omega))
                | (have qc : th p (x : Int) ∧ (wn p (g.1 (59 + 2 * k) 2) x) < g.1 (59 + 2 * k) 2 := ⟨by assumption, by omega⟩
                   have q1 : wn p (g.1 (59 + 2 * k) 2) (x + 1) = (wn p (g.1 (59 + 2 * k) 2) x) + 1 := by rw [wn_n, if_pos qc]
                   have q2 : wrM g s_26 p k (x + 1) = zul (wrM g s_26 p k x) 70 (60 * k + (wn p (g.1 (59 + 2 * k) 2) x)) (zsh (bndA p (x : Int))) := by
                     rw [wrM_n, if_pos qc]
                     unfold wrv
                     rw [if_pos (by omega)]
                   rw [← q1, ← q2]
                   exact ih _ (by omega) (by omega))
                | (have qc : th p (x : Int) ∧ (wn p (g.1 (59 + 2 * k) 2) x) < g.1 (59 + 2 * k) 2 := ⟨by assumption, by omega⟩
                   have q1 : wn p (g.1 (59 + 2 * k) 2) (x + 1) = (wn p (g.1 (59 + 2 * k) 2) x) + 1 := by rw [wn_n, if_pos qc]
                   have q2 : wrM g s_26 p k (x + 1) = zul (wrM g s_26 p k x) 70 (60 * k + (wn p (g.1 (59 + 2 * k) 2) x)) (bndA p (x : Int)) := by
                     rw [wrM_n, if_pos qc]
                     unfold wrv
                     rw [if_neg (by omega)]
                   rw [← q1, ← q2]
                   exact ih _ (by omega) (by omega))
            · refine Y.aload_n dX5_write_76 rfl ?_
              refine Y.iload_n dX5_write_77 rfl ?_
              refine Y.cVI dX5_write_78 mkX5_boundBy csX5_254 ob67 ⟨_, rfl, rfl⟩ (c_X5_boundBy ecx hp hSx (by omega) (by omega) (by assumption)) (by omega) rfl rfl (Nat.le_of_ble_eq_true rfl) ?_
              refine Y.i2s dX5_write_81 ?_
              refine Y.i2l dX5_write_82 (zsh_B _) ?_
              refine Y.goto 92 dX5_write_83 (by decide) ?_
              refine Y.last dX5_write_92 la70 (by omega) (by omega) ?_
              refine Y.iinc dX5_write_93 rfl (by decide) rfl ?_
              refine Y.iinc dX5_write_96 rfl (by decide) rfl ?_
              refine Y.goto 33 dX5_write_99 (by decide) ?_
              have e9 : zi ((x : Int) + 1) = zi ((x + 1 : Nat) : Int) := rfl
              rw [e9]
              first
                | (have q0 : ¬ (th p (x : Int) ∧ (wn p (g.1 (59 + 2 * k) 2) x) < g.1 (59 + 2 * k) 2) := fun q => absurd q.1 (by assumption)
                   have q1 : wn p (g.1 (59 + 2 * k) 2) (x + 1) = (wn p (g.1 (59 + 2 * k) 2) x) := by rw [wn_n, if_neg q0]
                   have q2 : wrM g s_26 p k (x + 1) = wrM g s_26 p k x := by rw [wrM_n, if_neg q0]
                   rw [← q1, ← q2]
                   exact ih _ (by omega) (by omega))
                | (have q0 : ¬ (th p (x : Int) ∧ (wn p (g.1 (59 + 2 * k) 2) x) < g.1 (59 + 2 * k) 2) := fun q => by have := q.2; omega
                   have q1 : wn p (g.1 (59 + 2 * k) 2) (x + 1) = (wn p (g.1 (59 + 2 * k) 2) x) := by rw [wn_n, if_neg q0]
                   have q2 : wrM g s_26 p k (x + 1) = wrM g s_26 p k x := by rw [wrM_n, if_neg q0]
                   rw [← q1, ← q2]
                   exact ih _ (by omega) (by omega))
                | (have qc : th p (x : Int) ∧ (wn p (g.1 (59 + 2 * k) 2) x) < g.1 (59 + 2 * k) 2 := ⟨by assumption, by omega⟩
                   have q1 : wn p (g.1 (59 + 2 * k) 2) (x + 1) = (wn p (g.1 (59 + 2 * k) 2) x) + 1 := by rw [wn_n, if_pos qc]
                   have q2 : wrM g s_26 p k (x + 1) = zul (wrM g s_26 p k x) 70 (60 * k + (wn p (g.1 (59 + 2 * k) 2) x)) (zsh (bndA p (x : Int))) := by
                     rw [wrM_n, if_pos qc]
                     unfold wrv
                     rw [if_pos (by omega)]
                   rw [← q1, ← q2]
                   exact ih _ (by omega) (by omega))
                | (have qc : th p (x : Int) ∧ (wn p (g.1 (59 + 2 * k) 2) x) < g.1 (59 + 2 * k) 2 := ⟨by assumption, by omega⟩
                   have q1 : wn p (g.1 (59 + 2 * k) 2) (x + 1) = (wn p (g.1 (59 + 2 * k) 2) x) + 1 := by rw [wn_n, if_pos qc]
                   have q2 : wrM g s_26 p k (x + 1) = zul (wrM g s_26 p k x) 70 (60 * k + (wn p (g.1 (59 + 2 * k) 2) x)) (bndA p (x : Int)) := by
                     rw [wrM_n, if_pos qc]
                     unfold wrv
                     rw [if_neg (by omega)]
                   rw [← q1, ← q2]
                   exact ih _ (by omega) (by omega))
    · refine Y.aload_n dX5_write_19 rfl ?_
      refine Y.iconst dX5_write_20 ?_
      refine Y.cVI dX5_write_21 mkX5_finds csX5_107 ob67 ⟨_, rfl, rfl⟩ c_X5_finds (by omega) rfl rfl (Nat.le_of_ble_eq_true rfl) ?_
      exact Y.iret dX5_write_24 rfl (hP _ _ (Or.inr (Or.inl ⟨k, hk, rfl, by omega, rfl, rfl⟩)))
  · refine Y.bipush dX5_write_7 (by decide +kernel) ?_
    exact Y.iret dX5_write_9 rfl (hP _ _ (Or.inr (Or.inr ⟨by assumption, rfl, rfl⟩)))
end ZL5
