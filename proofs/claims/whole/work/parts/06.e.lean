section ZR5
variable {σ : zS}
theorem MRa.b88 {p : zP} (hp : WP p) {g τ : zS} {b x n : Int} (h : MRa p g τ b) (hb : b ≤ 400) (h0 : 0 ≤ x) (h9 : x < 9) (ht : th p x) (n0 : 0 ≤ n) (n1 : n < 64) : -1 ≤ τ.1 88 (64 * x + n) ∧ τ.1 88 (64 * x + n) ≤ 9000 := by
  obtain ⟨h1, h2, h3, h4, h5, h6, h7, h8, h9'⟩ := h
  by_cases q : x % 3 = 0
  · rw [h5 x n h0 h9 ht q n0 n1]
    have := rmx_b hp (i := x / 3) (by omega) (by omega) n.toNat (by omega)
    omega
  · rw [h7 x n h0 h9 ht q n0 n1]
    by_cases z : n < g.1 45 (x - 1)
    · rw [if_pos z]
      have := h9' (x - 1) n (by omega) (by omega) (th_prev q ht) n0 z
      have hk := (hp.2.1 x h0 h9).2.2.2
      omega
    · rw [if_neg z]; omega
/-- the place of a step's release in the model's rows -/
def dko (g : zS) (m : Int) : Int := if m = -1 then -1 else 64 * m + g.1 45 m
theorem dko_1 {g : zS} {m : Int} (h : m = -1) : dko g m = -1 := if_pos h
theorem dko_2 {g : zS} {m : Int} (h : ¬ m = -1) : dko g m = 64 * m + g.1 45 m := if_neg h
set_option maxHeartbeats 4000000 in
theorem c_X5_does {p : zP} (ec : mP σ = p) (hp : WP p) {g : zS} {b : Int} (hM : MRa p g σ b) (hb4 : b ≤ 400) {node t : Int} (hn : 0 ≤ node ∧ node ≤ 1) (t0 : 0 ≤ t) (t3 : t < 300) : YI 1 μX5_does [.ref 67, .int (zi node), .int (zi t)] σ (dko g (ug p g node t 9)) σ := by
  refine YC.of2 (by decide) (Nat.le_of_ble_eq_true rfl) (fun d P hd hP => ?_)
  have e6 : σ.1 78 = p 6 := by rw [← ec]; rfl
  have e7 : σ.1 79 = p 7 := by rw [← ec]; rfl
  have e8 : σ.1 80 = p 8 := by rw [← ec]; rfl
  refine Y.iconst dX5_does_0 ?_
  refine Y.istore_n dX5_does_1 (by decide) rfl ?_
  refine Y.iconst dX5_does_2 ?_
  refine Y.istore dX5_does_3 (by decide) rfl ?_
  refine zw2 (fun b0 x => (0 ≤ x ∧ x ≤ 9 ∧ b0 = dko g (ug p g node t (x - 0).toNat))) (fun b0 x => Y d μX5_does 5 [some (.ref 67), some (.int (zi node)), some (.int (zi t)), some (.int (zi b0)), some (.int (zi x)), none, none, none] [] σ P) (fun b0 x => (9 - x).toNat) ?_ _ _ ⟨by omega, by omega, rfl⟩
  intro b0 x hI ih
  obtain ⟨i1, i2, i3⟩ := hI
  have hm := ug_r (p := p) (s := g) (node := node) (t := t) (x - 0).toNat
  have hB : ∀ m : Int, (m = -1 ∨ (0 ≤ m ∧ m < ((x - 0).toNat : Int) ∧ th p m ∧ p 6 m = node ∧ rd p g m t)) → (m = -1 ∧ dko g m = -1) ∨ (0 ≤ m ∧ m < 9 ∧ dko g m = 64 * m + g.1 45 m ∧ 0 ≤ g.1 45 m ∧ g.1 45 m ≤ 60) := fun m z => by
    rcases z with z | ⟨z1, z2, z3, z4, z5⟩
    · exact Or.inl ⟨z, dko_1 z⟩
    · have := hM.2.1 m z1 (by omega) z3
      exact Or.inr ⟨z1, by omega, dko_2 (by omega), by omega, by omega⟩
  have hB0 := hB _ hm
  rw [← i3] at hB0
  generalize hmm : ug p g node t (x - 0).toNat = m at hB0 i3 hm
  have k42 : x < 9 → th p x → p 6 x = node → Y d μX5_does 42 [some (.ref 67), some (.int (zi node)), some (.int (zi t)), some (.int (zi b0)), some (.int (zi x)), some (.int (zi 0)), some (.int (zi 0)), none] [] σ P := by
    intro hx9 hth hnd
    have he := hM.2.1 x i1 hx9 hth
    have hkc := (hp.2.1 x i1 hx9).2
    refine zw3 (fun fd b n => (0 ≤ n ∧ n ≤ 64 ∧ ((fd = 0 ∧ b = b0 ∧ (n ≤ g.1 45 x ∨ ¬ rd p g x t)) ∨ (fd = 1 ∧ rd p g x t ∧ ((m = -1 ∨ p 8 m < p 8 x) → b = 64 * x + g.1 45 x) ∧ (¬ (m = -1 ∨ p 8 m < p 8 x) → b = b0))))) (fun fd b n => Y d μX5_does 42 [some (.ref 67), some (.int (zi node)), some (.int (zi t)), some (.int (zi b)), some (.int (zi x)), some (.int (zi fd)), some (.int (zi n)), none] [] σ P) (fun fd b n => (64 - n).toNat) ?_ _ _ _ ⟨by omega, by omega, Or.inl ⟨rfl, rfl, by omega⟩⟩
    intro fd b n hI2 ih2
    obtain ⟨j1, j2, j3⟩ := hI2
    have hfz : fd = 0 ∨ fd = 1 := by rcases j3 with q | q <;> omega
    have k143 : ∀ F N : Option Value, (fd = 1 ∨ 64 ≤ n) → Y d μX5_does 143 [some (.ref 67), some (.int (zi node)), some (.int (zi t)), some (.int (zi b)), some (.int (zi x)), F, N, none] [] σ P := by
      intro F N hq
      have hnew : b = dko g (ug p g node t (x + 1 - 0).toNat) := by
        rcases j3 with ⟨z1, z2, z3⟩ | ⟨z1, z2, z3, z4⟩
        · rw [ug_2 i1 (fun q => absurd q.2.2.1 (by rcases z3 with z | z; (· exact absurd z (by omega)); exact z)), hmm, ← i3]; exact z2
        · by_cases z : m = -1 ∨ p 8 m < p 8 x
          · rw [ug_1 i1 ⟨hth, hnd, z2, by rw [hmm]; exact z⟩, dko_2 (by omega)]; exact z3 z
          · rw [ug_2 i1 (fun q => z (by have := q.2.2.2; rw [hmm] at this; exact this)), hmm, ← i3]; exact z4 z
      refine Y.iinc dX5_does_143 rfl (by decide) rfl ?_
      refine Y.goto 5 dX5_does_146 (by decide) ?_
      exact Y.sub (zs_s (zs_s (zs_s (zs_s (zs_s (zs_n (zs_n (zs_n zs_0)))))))) (ih _ _ ⟨by omega, by omega, hnew⟩ (by omega))
    refine Y.iload dX5_does_42 rfl ?_
    refine Y.bipush dX5_does_44 (by decide +kernel) ?_
    refine Y.icmp_ge 143 dX5_does_46 (by decide) (by omega) (by omega) (fun h_46 => ?_) (fun h_46 => ?_)
    · exact k143 _ _ (by omega)
    · refine Y.iload dX5_does_49 rfl ?_
      refine Y.if_ne 143 dX5_does_51 (by decide) (by omega) (fun h_51 => ?_) (fun h_51 => ?_)
      · exact k143 _ _ (by omega)
      · have hb0 : b = b0 := by rcases j3 with ⟨z1, z2, z3⟩ | z; (· exact z2); exact absurd z.1 (by omega)
        have hlt : n ≤ g.1 45 x ∨ ¬ rd p g x t := by rcases j3 with ⟨z1, z2, z3⟩ | z; (· exact z3); exact absurd z.1 (by omega)
        subst hb0
        have h88 := hM.b88 hp hb4 i1 hx9 hth j1 (by omega)
        have h89 := hM.2.2.1 x n i1 hx9 hth j1 (by omega)
        have h89b : 0 ≤ σ.1 89 (64 * x + n) ∧ σ.1 89 (64 * x + n) ≤ 28 := by
          rw [h89]
          split
          · omega
          · split <;> omega
        have hA : n = g.1 45 x → rd p g x t → σ.1 88 (64 * x + n) ≠ -1 ∧ σ.1 88 (64 * x + n) ≤ t ∧ σ.1 89 (64 * x + n) < p 7 x := fun z1 z2 => by
          have q := hM.r1 hp i1 hx9 hth z2
          rw [← z1] at q
          refine ⟨q.1, q.2, ?_⟩
          rw [h89, if_neg (by omega), if_pos z1]
          omega
        have hB2 : ¬ (n = g.1 45 x ∧ rd p g x t) → σ.1 88 (64 * x + n) = -1 ∨ t < σ.1 88 (64 * x + n) ∨ p 7 x ≤ σ.1 89 (64 * x + n) := fun z => by
          by_cases z1 : n < g.1 45 x
          · exact Or.inr (Or.inr (by rw [h89, if_pos z1]; exact Int.le_refl _))
          · have z2 : ¬ rd p g x t := fun y => z ⟨by rcases hlt with q | q; (· omega); exact absurd y q, y⟩
            have := hM.r2 hp (n := n) i1 hx9 hth t3 z2 (by omega) (by omega)
            omega
        refine Y.bipush dX5_does_54 (by decide +kernel) ?_
        refine Y.iload dX5_does_56 rfl ?_
        refine Y.imul dX5_does_58 ?_
        refine Y.iload dX5_does_59 rfl ?_
        refine Y.iadd dX5_does_61 ?_
        refine Y.istore dX5_does_62 (by decide) rfl ?_
        refine Y.aload_n dX5_does_64 rfl ?_
        refine Y.getf dX5_does_65 flX5_71 ob67 rfl ?_
        refine Y.iload dX5_does_68 rfl ?_
        refine Y.iald dX5_does_70 ia88 (by omega) (by omega) ?_
        refine Y.iconst dX5_does_71 ?_
        refine Y.icmp_eq 137 dX5_does_72 (by decide) (by omega) (by omega) (fun h_72 => ?_) (fun h_72 => ?_)
        · refine Y.iinc dX5_does_137 rfl (by decide) rfl ?_
          refine Y.goto 42 dX5_does_140 (by decide) ?_
          refine Y.sub (zs_s (zs_s (zs_s (zs_s (zs_s (zs_s (zs_s (zs_n zs_0)))))))) ?_
          first
            | (have hne : ¬ (n = g.1 45 x ∧ rd p g x t) := fun z => by have := hA z.1 z.2; omega
               exact ih2 _ _ _ ⟨by omega, by omega, Or.inl ⟨by omega, rfl, by by_cases z : rd p g x t; (· exact Or.inl (by have : n ≠ g.1 45 x := fun y => hne ⟨y, z⟩; rcases hlt with q | q; (· omega); exact absurd z q)); exact Or.inr z⟩⟩ (by omega))
            | (have hyes : n = g.1 45 x ∧ rd p g x t := Classical.byContradiction (fun z => by have := hB2 z; omega)
               exact ih2 _ _ _ ⟨by omega, by omega, Or.inr ⟨rfl, hyes.2, fun z => by rw [hyes.1], fun z => absurd (by omega) z⟩⟩ (by omega))
            | (have hyes : n = g.1 45 x ∧ rd p g x t := Classical.byContradiction (fun z => by have := hB2 z; omega)
               exact ih2 _ _ _ ⟨by omega, by omega, Or.inr ⟨rfl, hyes.2, fun z => absurd z (by omega), fun z => rfl⟩⟩ (by omega))
        · refine Y.aload_n dX5_does_75 rfl ?_
          refine Y.getf dX5_does_76 flX5_71 ob67 rfl ?_
          refine Y.iload dX5_does_79 rfl ?_
          refine Y.iald dX5_does_81 ia88 (by omega) (by omega) ?_
          refine Y.iload_n dX5_does_82 rfl ?_
          refine Y.icmp_gt 137 dX5_does_83 (by decide) (by omega) (by omega) (fun h_83 => ?_) (fun h_83 => ?_)
          · refine Y.iinc dX5_does_137 rfl (by decide) rfl ?_
            refine Y.goto 42 dX5_does_140 (by decide) ?_
            refine Y.sub (zs_s (zs_s (zs_s (zs_s (zs_s (zs_s (zs_s (zs_n zs_0)))))))) ?_
            first
              | (have hne : ¬ (n = g.1 45 x ∧ rd p g x t) := fun z => by have := hA z.1 z.2; omega
                 exact ih2 _ _ _ ⟨by omega, by omega, Or.inl ⟨by omega, rfl, by by_cases z : rd p g x t; (· exact Or.inl (by have : n ≠ g.1 45 x := fun y => hne ⟨y, z⟩; rcases hlt with q | q; (· omega); exact absurd z q)); exact Or.inr z⟩⟩ (by omega))
              | (have hyes : n = g.1 45 x ∧ rd p g x t := Classical.byContradiction (fun z => by have := hB2 z; omega)
                 exact ih2 _ _ _ ⟨by omega, by omega, Or.inr ⟨rfl, hyes.2, fun z => by rw [hyes.1], fun z => absurd (by omega) z⟩⟩ (by omega))
              | (have hyes : n = g.1 45 x ∧ rd p g x t := Classical.byContradiction (fun z => by have := hB2 z; omega)
                 exact ih2 _ _ _ ⟨by omega, by omega, Or.inr ⟨rfl, hyes.2, fun z => absurd z (by omega), fun z => rfl⟩⟩ (by omega))
          · refine Y.aload_n dX5_does_86 rfl ?_
            refine Y.getf dX5_does_87 flX5_74 ob67 rfl ?_
            refine Y.iload dX5_does_90 rfl ?_
            refine Y.iald dX5_does_92 ia89 (by omega) (by omega) ?_
            refine Y.aload_n dX5_does_93 rfl ?_
            refine Y.getf dX5_does_94 flX5_44 ob67 rfl ?_
            refine Y.iload dX5_does_97 rfl ?_
            refine Y.iald dX5_does_99 ia79 (by omega) (by omega) ?_
            rw [e7]
            refine Y.icmp_ge 137 dX5_does_100 (by decide) (by omega) (by omega) (fun h_100 => ?_) (fun h_100 => ?_)
            · refine Y.iinc dX5_does_137 rfl (by decide) rfl ?_
              refine Y.goto 42 dX5_does_140 (by decide) ?_
              refine Y.sub (zs_s (zs_s (zs_s (zs_s (zs_s (zs_s (zs_s (zs_n zs_0)))))))) ?_
              first
                | (have hne : ¬ (n = g.1 45 x ∧ rd p g x t) := fun z => by have := hA z.1 z.2; omega
                   exact ih2 _ _ _ ⟨by omega, by omega, Or.inl ⟨by omega, rfl, by by_cases z : rd p g x t; (· exact Or.inl (by have : n ≠ g.1 45 x := fun y => hne ⟨y, z⟩; rcases hlt with q | q; (· omega); exact absurd z q)); exact Or.inr z⟩⟩ (by omega))
                | (have hyes : n = g.1 45 x ∧ rd p g x t := Classical.byContradiction (fun z => by have := hB2 z; omega)
                   exact ih2 _ _ _ ⟨by omega, by omega, Or.inr ⟨rfl, hyes.2, fun z => by rw [hyes.1], fun z => absurd (by omega) z⟩⟩ (by omega))
                | (have hyes : n = g.1 45 x ∧ rd p g x t := Classical.byContradiction (fun z => by have := hB2 z; omega)
                   exact ih2 _ _ _ ⟨by omega, by omega, Or.inr ⟨rfl, hyes.2, fun z => absurd z (by omega), fun z => rfl⟩⟩ (by omega))
            · refine Y.iconst dX5_does_103 ?_
              refine Y.istore dX5_does_104 (by decide) rfl ?_
              refine Y.iload_n dX5_does_106 rfl ?_
              refine Y.iconst dX5_does_107 ?_
              refine Y.icmp_eq 130 dX5_does_108 (by decide) (by omega) (by omega) (fun h_108 => ?_) (fun h_108 => ?_)
              · refine Y.iload dX5_does_130 rfl ?_
                refine Y.goto 136 dX5_does_132 (by decide) ?_
                refine Y.istore_n dX5_does_136 (by decide) rfl ?_
                refine Y.iinc dX5_does_137 rfl (by decide) rfl ?_
                refine Y.goto 42 dX5_does_140 (by decide) ?_
                refine Y.sub (zs_s (zs_s (zs_s (zs_s (zs_s (zs_s (zs_s (zs_n zs_0)))))))) ?_
                first
                  | (have hne : ¬ (n = g.1 45 x ∧ rd p g x t) := fun z => by have := hA z.1 z.2; omega
                     exact ih2 _ _ _ ⟨by omega, by omega, Or.inl ⟨by omega, rfl, by by_cases z : rd p g x t; (· exact Or.inl (by have : n ≠ g.1 45 x := fun y => hne ⟨y, z⟩; rcases hlt with q | q; (· omega); exact absurd z q)); exact Or.inr z⟩⟩ (by omega))
                  | (have hyes : n = g.1 45 x ∧ rd p g x t := Classical.byContradiction (fun z => by have := hB2 z; omega)
                     exact ih2 _ _ _ ⟨by omega, by omega, Or.inr ⟨rfl, hyes.2, fun z => by rw [hyes.1], fun z => absurd (by omega) z⟩⟩ (by omega))
                  | (have hyes : n = g.1 45 x ∧ rd p g x t := Classical.byContradiction (fun z => by have := hB2 z; omega)
                     exact ih2 _ _ _ ⟨by omega, by omega, Or.inr ⟨rfl, hyes.2, fun z => absurd z (by omega), fun z => rfl⟩⟩ (by omega))
              · have hbm : 0 ≤ m ∧ m < 9 ∧ b / 64 = m := by omega
                have hkm := hp.2.1 m (by omega) (by omega)
                refine Y.aload_n dX5_does_111 rfl ?_
                refine Y.getf dX5_does_112 flX5_47 ob67 rfl ?_
                refine Y.iload dX5_does_115 rfl ?_
                refine Y.iald dX5_does_117 ia80 (by omega) (by omega) ?_
                refine Y.aload_n dX5_does_118 rfl ?_
                refine Y.getf dX5_does_119 flX5_47 ob67 rfl ?_
                refine Y.iload_n dX5_does_122 rfl ?_
                refine Y.bipush dX5_does_123 (by decide +kernel) ?_
                refine Y.idivp dX5_does_125 (by omega) (by omega) (by omega) (by omega) ?_
                rw [hbm.2.2]
                refine Y.iald dX5_does_126 ia80 (by omega) (by omega) ?_
                rw [e8]
                refine Y.icmp_le 135 dX5_does_127 (by decide) (by omega) (by omega) (fun h_127 => ?_) (fun h_127 => ?_)
                · refine Y.iload_n dX5_does_135 rfl ?_
                  refine Y.istore_n dX5_does_136 (by decide) rfl ?_
                  refine Y.iinc dX5_does_137 rfl (by decide) rfl ?_
                  refine Y.goto 42 dX5_does_140 (by decide) ?_
                  refine Y.sub (zs_s (zs_s (zs_s (zs_s (zs_s (zs_s (zs_s (zs_n zs_0)))))))) ?_
                  first
                    | (have hne : ¬ (n = g.1 45 x ∧ rd p g x t) := fun z => by have := hA z.1 z.2; omega
                       exact ih2 _ _ _ ⟨by omega, by omega, Or.inl ⟨by omega, rfl, by by_cases z : rd p g x t; (· exact Or.inl (by have : n ≠ g.1 45 x := fun y => hne ⟨y, z⟩; rcases hlt with q | q; (· omega); exact absurd z q)); exact Or.inr z⟩⟩ (by omega))
                    | (have hyes : n = g.1 45 x ∧ rd p g x t := Classical.byContradiction (fun z => by have := hB2 z; omega)
                       exact ih2 _ _ _ ⟨by omega, by omega, Or.inr ⟨rfl, hyes.2, fun z => by rw [hyes.1], fun z => absurd (by omega) z⟩⟩ (by omega))
                    | (have hyes : n = g.1 45 x ∧ rd p g x t := Classical.byContradiction (fun z => by have := hB2 z; omega)
                       exact ih2 _ _ _ ⟨by omega, by omega, Or.inr ⟨rfl, hyes.2, fun z => absurd z (by omega), fun z => rfl⟩⟩ (by omega))
                · refine Y.iload dX5_does_130 rfl ?_
                  refine Y.goto 136 dX5_does_132 (by decide) ?_
                  refine Y.istore_n dX5_does_136 (by decide) rfl ?_
                  refine Y.iinc dX5_does_137 rfl (by decide) rfl ?_
                  refine Y.goto 42 dX5_does_140 (by decide) ?_
                  refine Y.sub (zs_s (zs_s (zs_s (zs_s (zs_s (zs_s (zs_s (zs_n zs_0)))))))) ?_
                  first
                    | (have hne : ¬ (n = g.1 45 x ∧ rd p g x t) := fun z => by have := hA z.1 z.2; omega
                       exact ih2 _ _ _ ⟨by omega, by omega, Or.inl ⟨by omega, rfl, by by_cases z : rd p g x t; (· exact Or.inl (by have : n ≠ g.1 45 x := fun y => hne ⟨y, z⟩; rcases hlt with q | q; (· omega); exact absurd z q)); exact Or.inr z⟩⟩ (by omega))
                    | (have hyes : n = g.1 45 x ∧ rd p g x t := Classical.byContradiction (fun z => by have := hB2 z; omega)
                       exact ih2 _ _ _ ⟨by omega, by omega, Or.inr ⟨rfl, hyes.2, fun z => by rw [hyes.1], fun z => absurd (by omega) z⟩⟩ (by omega))
                    | (have hyes : n = g.1 45 x ∧ rd p g x t := Classical.byContradiction (fun z => by have := hB2 z; omega)
                       exact ih2 _ _ _ ⟨by omega, by omega, Or.inr ⟨rfl, hyes.2, fun z => absurd z (by omega), fun z => rfl⟩⟩ (by omega))
  have kx : ∀ F N : Option Value, x < 9 → ¬ (th p x ∧ p 6 x = node) → Y d μX5_does 143 [some (.ref 67), some (.int (zi node)), some (.int (zi t)), some (.int (zi b0)), some (.int (zi x)), F, N, none] [] σ P := by
    intro F N hx9 hne
    have hnew : b0 = dko g (ug p g node t (x + 1 - 0).toNat) := by
      rw [ug_2 i1 (fun q => hne ⟨q.1, q.2.1⟩), hmm]
      exact i3
    refine Y.iinc dX5_does_143 rfl (by decide) rfl ?_
    refine Y.goto 5 dX5_does_146 (by decide) ?_
    exact Y.sub (zs_s (zs_s (zs_s (zs_s (zs_s (zs_n (zs_n (zs_n zs_0)))))))) (ih _ _ ⟨by omega, by omega, hnew⟩ (by omega))
  have k42b : x < 9 → ¬ (th p x ∧ p 6 x = node) → Y d μX5_does 42 [some (.ref 67), some (.int (zi node)), some (.int (zi t)), some (.int (zi b0)), some (.int (zi x)), some (.int (zi 1)), some (.int (zi 0)), none] [] σ P := by
    intro hx9 hne
    refine Y.iload dX5_does_42 rfl ?_
    refine Y.bipush dX5_does_44 (by decide +kernel) ?_
    refine Y.icmp_ge 143 dX5_does_46 (by decide) (by omega) (by omega) (fun h_46 => ?_) (fun h_46 => ?_)
    · exfalso; omega
    refine Y.iload dX5_does_49 rfl ?_
    refine Y.if_ne 143 dX5_does_51 (by decide) (by omega) (fun h_51 => ?_) (fun h_51 => ?_)
    rotate_left
    · exfalso; omega
    exact kx _ _ hx9 hne
  refine Y.iload dX5_does_5 rfl ?_
  refine Y.bipush dX5_does_7 (by decide +kernel) ?_
  refine Y.icmp_ge 149 dX5_does_9 (by decide) (by omega) (by omega) (fun h_9 => ?_) (fun h_9 => ?_)
  · refine Y.iload_n dX5_does_149 rfl ?_
    exact Y.iret dX5_does_150 rfl (hP _ _ ⟨zrI (by rw [i3, ← hmm, show x = 9 by omega]; rfl), rfl⟩)
  · refine Y.aload_n dX5_does_12 rfl ?_
    refine Y.iload dX5_does_13 rfl ?_
    have hk6 := (hp.2.1 x i1 (by omega)).1
    refine Y.cVI dX5_does_15 mkX5_isThere csX5_160 ob67 ⟨_, rfl, rfl⟩ (k_X5_isThere ec hp (by omega) (by omega)) (by omega) rfl rfl (Nat.le_of_ble_eq_true rfl) ?_
    refine Y.ifz_eq 32 dX5_does_18 (by decide) (fun h_18 => ?_) (fun h_18 => ?_)
    · refine Y.iconst dX5_does_32 ?_
      refine Y.goto 37 dX5_does_33 (by decide) ?_
      refine Y.istore dX5_does_37 (by decide) rfl ?_
      refine Y.iconst dX5_does_39 ?_
      refine Y.istore dX5_does_40 (by decide) rfl ?_
      first
        | exact k42 (by omega) (by assumption) (by omega)
        | exact k42b (by omega) (fun z => absurd z.1 (by assumption))
        | exact k42b (by omega) (fun z => by have := z.2; omega)
    · refine Y.aload_n dX5_does_21 rfl ?_
      refine Y.getf dX5_does_22 flX5_41 ob67 rfl ?_
      refine Y.iload dX5_does_25 rfl ?_
      refine Y.iald dX5_does_27 ia78 (by omega) (by omega) ?_
      refine Y.iload_n dX5_does_28 rfl ?_
      rw [e6]
      refine Y.icmp_eq 36 dX5_does_29 (by decide) (by omega) (by omega) (fun h_29 => ?_) (fun h_29 => ?_)
      · refine Y.iconst dX5_does_36 ?_
        refine Y.istore dX5_does_37 (by decide) rfl ?_
        refine Y.iconst dX5_does_39 ?_
        refine Y.istore dX5_does_40 (by decide) rfl ?_
        first
          | exact k42 (by omega) (by assumption) (by omega)
          | exact k42b (by omega) (fun z => absurd z.1 (by assumption))
          | exact k42b (by omega) (fun z => by have := z.2; omega)
      · refine Y.iconst dX5_does_32 ?_
        refine Y.goto 37 dX5_does_33 (by decide) ?_
        refine Y.istore dX5_does_37 (by decide) rfl ?_
        refine Y.iconst dX5_does_39 ?_
        refine Y.istore dX5_does_40 (by decide) rfl ?_
        first
          | exact k42 (by omega) (by assumption) (by omega)
          | exact k42b (by omega) (fun z => absurd z.1 (by assumption))
          | exact k42b (by omega) (fun z => by have := z.2; omega)
set_option maxHeartbeats 4000000 in
theorem c_X5_ends {p : zP} (ec : mP σ = p) (hp : WP p) {x n a : Int} (h0 : 0 ≤ x) (h9 : x < 9) (n0 : 0 ≤ n) (n1 : n < 60) (a0 : 0 ≤ a) (a1 : a ≤ 400) (g90 : -20000 ≤ σ.1 90 x ∧ σ.1 90 x ≤ 20000) (g91 : -20000 ≤ σ.1 91 x ∧ σ.1 91 x ≤ 20000) : YV 1 μX5_ends [.ref 67, .int (zi (64 * x + n)), .int (zi a)] σ (finM p x n a σ) := by
  refine YC.of2 (by decide) (Nat.le_of_ble_eq_true rfl) (fun d P hd hP => ?_)
  have hrl := rel_b hp (i := x / 3) (n := n) (by omega) (by omega) (by omega) (by omega)
  have hk9 := fun y a c => (hp.2.1 y a c).2.2.2
  refine Y.iload_n dX5_ends_0 rfl ?_
  refine Y.bipush dX5_ends_1 (by decide +kernel) ?_
  refine Y.idivp dX5_ends_3 (by omega) (by omega) (by omega) (by omega) ?_
  rw [show (64 * x + n) / 64 = x by omega]
  refine Y.istore_n dX5_ends_4 (by decide) rfl ?_
  refine Y.iload_n dX5_ends_5 rfl ?_
  refine Y.bipush dX5_ends_6 (by decide +kernel) ?_
  refine Y.iremp dX5_ends_8 (by omega) (by omega) (by omega) (by omega) ?_
  rw [show (64 * x + n) % 64 = n by omega]
  refine Y.istore dX5_ends_9 (by decide) rfl ?_
  refine Y.iload_n dX5_ends_11 rfl ?_
  refine Y.aload_n dX5_ends_12 rfl ?_
  refine Y.iload_n dX5_ends_13 rfl ?_
  refine Y.iload dX5_ends_14 rfl ?_
  refine Y.cVI dX5_ends_16 mkX5_releaseOf csX5_297 ob67 ⟨_, rfl, rfl⟩ (c_X5_releaseOf ec hp (by omega) (by omega)) (by omega) rfl rfl (Nat.le_of_ble_eq_true rfl) ?_
  refine Y.isub dX5_ends_19 ?_
  refine Y.istore dX5_ends_20 (by decide) rfl ?_
  refine Y.aload_n dX5_ends_22 rfl ?_
  refine Y.getf dX5_ends_23 flX5_77 ob67 rfl ?_
  refine Y.iload_n dX5_ends_26 rfl ?_
  refine Y.aload_n dX5_ends_27 rfl ?_
  refine Y.getf dX5_ends_28 flX5_77 ob67 rfl ?_
  refine Y.iload_n dX5_ends_31 rfl ?_
  refine Y.iald dX5_ends_32 ia90 (by omega) (by omega) ?_
  refine Y.iload dX5_ends_33 rfl ?_
  refine Y.cSI dX5_ends_35 mkX5_greater csX5_198 (c_X5_greater (by omega) (by omega)) (by omega) rfl rfl (Nat.le_of_ble_eq_true rfl) ?_
  refine Y.iast dX5_ends_38 ia90 (by omega) (by omega) ?_
  obtain ⟨s1, es1⟩ : ∃ s1, s1 = zu σ 90 x (max (σ.1 90 x) (a - rel p (x / 3) n)) := ⟨_, rfl⟩
  rw [← es1]
  have b1_91 : s1.1 91 = σ.1 91 := by rw [es1, zu_nc (by omega)]
  have b1_92 : s1.1 92 = σ.1 92 := by rw [es1, zu_nc (by omega)]
  have b1_81 : s1.1 81 = σ.1 81 := by rw [es1, zu_nc (by omega)]
  refine Y.aload_n dX5_ends_39 rfl ?_
  refine Y.getf dX5_ends_40 flX5_80 ob67 rfl ?_
  refine Y.iload_n dX5_ends_43 rfl ?_
  refine Y.aload_n dX5_ends_44 rfl ?_
  refine Y.getf dX5_ends_45 flX5_80 ob67 rfl ?_
  refine Y.iload_n dX5_ends_48 rfl ?_
  refine Y.iald dX5_ends_49 ia91 (by omega) (by omega) ?_
  have k70 : ∀ v : Int, v = (if σ.1 91 x = -1 then (a - rel p (x / 3) n) else min (σ.1 91 x) (a - rel p (x / 3) n)) → Y d μX5_ends 70 [some (.ref 67), some (.int (zi (64 * x + n))), some (.int (zi a)), some (.int (zi x)), some (.int (zi n)), some (.int (zi (a - rel p (x / 3) n)))] [.int (zi v), .int (zi x), .ref 91] s1 P := by
    intro v hv
    refine Y.iast dX5_ends_70 ia91 (by omega) (by omega) ?_
    obtain ⟨s2, es2⟩ : ∃ s2, s2 = zu s1 91 x (if σ.1 91 x = -1 then (a - rel p (x / 3) n) else min (σ.1 91 x) (a - rel p (x / 3) n)) := ⟨_, rfl⟩
    rw [hv, ← es2]
    have b2_92 : s2.1 92 = σ.1 92 := by rw [es2, zu_nc (by omega), b1_92]
    have b2_81 : s2.1 81 = σ.1 81 := by rw [es2, zu_nc (by omega), b1_81]
    have m2 : mP s2 = p := (mP_c (fun c q1 q2 => by rw [es2, zu_nc (by omega), es1, zu_nc (by omega)])).trans ec
    refine Y.aload_n dX5_ends_71 rfl ?_
    refine Y.getf dX5_ends_72 flX5_83 ob67 rfl ?_
    refine Y.iload_n dX5_ends_75 rfl ?_
    refine Y.dup2 dX5_ends_76 rfl rfl ?_
    refine Y.iald dX5_ends_77 ia92 (by omega) (by omega) ?_
    refine Y.iconst dX5_ends_78 ?_
    refine Y.iadd dX5_ends_79 ?_
    refine Y.iast dX5_ends_80 ia92 (by omega) (by omega) ?_
    obtain ⟨s3, es3⟩ : ∃ s3, s3 = zu s2 92 x (s2.1 92 x + 1) := ⟨_, rfl⟩
    rw [← es3]
    have m3 : mP s3 = p := (mP_c (fun c q1 q2 => by rw [es3, zu_nc (by omega)])).trans m2
    have b3_81 : s3.1 81 = p 9 := by rw [← m3]; rfl
    have efin : finM p x n a σ = @ite _ (x % 3 < 2 ∧ th p (x + 1)) (Classical.propDecidable _) (zu s3 88 (64 * x + n + 64) (a + p 9 (x + 1))) s3 := by
      have q2 : s2 = zu s1 91 x (if s1.1 91 x = -1 then (a - rel p (x / 3) n) else min (s1.1 91 x) (a - rel p (x / 3) n)) := by rw [b1_91]; exact es2
      rw [es3, q2, es1]
      rfl
    refine Y.iload_n dX5_ends_81 rfl ?_
    refine Y.iconst dX5_ends_82 ?_
    refine Y.iremp dX5_ends_83 (by omega) (by omega) (by omega) (by omega) ?_
    refine Y.iconst dX5_ends_84 ?_
    refine Y.icmp_ge 117 dX5_ends_85 (by decide) (by omega) (by omega) (fun h_85 => ?_) (fun h_85 => ?_)
    · exact Y.vret dX5_ends_117 rfl (hP _ _ ⟨rfl, by rw [efin]; first | (rw [if_pos ⟨by omega, by assumption⟩]; done) | (rw [if_neg (fun z => by have := z.1; omega)]; done) | (rw [if_neg (fun z => absurd z.2 (by assumption))]; done)⟩)
    · refine Y.aload_n dX5_ends_88 rfl ?_
      refine Y.iload_n dX5_ends_89 rfl ?_
      refine Y.iconst dX5_ends_90 ?_
      refine Y.iadd dX5_ends_91 ?_
      refine Y.cVI dX5_ends_92 mkX5_isThere csX5_160 ob67 ⟨_, rfl, rfl⟩ (k_X5_isThere m3 hp (by omega) (by omega)) (by omega) rfl rfl (Nat.le_of_ble_eq_true rfl) ?_
      refine Y.ifz_eq 117 dX5_ends_95 (by decide) (fun h_95 => ?_) (fun h_95 => ?_)
      · exact Y.vret dX5_ends_117 rfl (hP _ _ ⟨rfl, by rw [efin]; first | (rw [if_pos ⟨by omega, by assumption⟩]; done) | (rw [if_neg (fun z => by have := z.1; omega)]; done) | (rw [if_neg (fun z => absurd z.2 (by assumption))]; done)⟩)
      · refine Y.aload_n dX5_ends_98 rfl ?_
        refine Y.getf dX5_ends_99 flX5_71 ob67 rfl ?_
        refine Y.iload_n dX5_ends_102 rfl ?_
        refine Y.bipush dX5_ends_103 (by decide +kernel) ?_
        refine Y.iadd dX5_ends_105 ?_
        refine Y.iload_n dX5_ends_106 rfl ?_
        refine Y.aload_n dX5_ends_107 rfl ?_
        refine Y.getf dX5_ends_108 flX5_50 ob67 rfl ?_
        refine Y.iload_n dX5_ends_111 rfl ?_
        refine Y.iconst dX5_ends_112 ?_
        refine Y.iadd dX5_ends_113 ?_
        refine Y.iald dX5_ends_114 ia81 (by omega) (by omega) ?_
        rw [b3_81]
        refine Y.iadd dX5_ends_115 ?_
        refine Y.iast dX5_ends_116 ia88 (by omega) (by omega) ?_
        exact Y.vret dX5_ends_117 rfl (hP _ _ ⟨rfl, by rw [efin]; first | (rw [if_pos ⟨by omega, by assumption⟩]; done) | (rw [if_neg (fun z => by have := z.1; omega)]; done) | (rw [if_neg (fun z => absurd z.2 (by assumption))]; done)⟩)
  refine Y.iconst dX5_ends_50 ?_
  rw [b1_91]
  refine Y.icmp_ne 59 dX5_ends_51 (by decide) (by omega) (by omega) (fun h_51 => ?_) (fun h_51 => ?_)
  · refine Y.aload_n dX5_ends_59 rfl ?_
    refine Y.getf dX5_ends_60 flX5_80 ob67 rfl ?_
    refine Y.iload_n dX5_ends_63 rfl ?_
    refine Y.iald dX5_ends_64 ia91 (by omega) (by omega) ?_
    refine Y.iload dX5_ends_65 rfl ?_
    rw [b1_91]
    refine Y.cSI dX5_ends_67 mkX5_lesser csX5_300 (c_X5_lesser (by omega) (by omega)) (by omega) rfl rfl (Nat.le_of_ble_eq_true rfl) ?_
    exact k70 _ (by first | (rw [if_pos (by omega)]; done) | (rw [if_neg (by omega)]; done))
  · refine Y.iload dX5_ends_54 rfl ?_
    refine Y.goto 70 dX5_ends_56 (by decide) ?_
    exact k70 _ (by first | (rw [if_pos (by omega)]; done) | (rw [if_neg (by omega)]; done))
set_option maxHeartbeats 1000000 in
theorem c_X5_seenBy {x w : Int} (h0 : 0 ≤ x) (h9 : x < 9) (hw : zB w) : YI 0 μX5_seenBy [.ref 67, .int (zi x), .int (zi w)] σ (if w = 0 then σ.1 90 x else if w = 1 then σ.1 91 x else σ.1 92 x) σ := by
  refine YC.of2 (by decide) (Nat.le_of_ble_eq_true rfl) (fun d P hd hP => ?_)
  refine Y.iload_n dX5_seenBy_0 rfl ?_
  refine Y.if_ne 13 dX5_seenBy_1 (by decide) (by omega) (fun h_1 => ?_) (fun h_1 => ?_)
  · refine Y.iload_n dX5_seenBy_13 rfl ?_
    refine Y.iconst dX5_seenBy_14 ?_
    refine Y.icmp_ne 27 dX5_seenBy_15 (by decide) (by omega) (by omega) (fun h_15 => ?_) (fun h_15 => ?_)
    · refine Y.aload_n dX5_seenBy_27 rfl ?_
      refine Y.getf dX5_seenBy_28 flX5_83 ob67 rfl ?_
      refine Y.iload_n dX5_seenBy_31 rfl ?_
      refine Y.iald dX5_seenBy_32 ia92 (by omega) (by omega) ?_
      exact Y.iret dX5_seenBy_33 rfl (hP _ _ ⟨zrI (by first | rw [if_pos (by omega)] | rw [if_neg (by omega), if_pos (by omega)] | rw [if_neg (by omega), if_neg (by omega)]), rfl⟩)
    · refine Y.aload_n dX5_seenBy_18 rfl ?_
      refine Y.getf dX5_seenBy_19 flX5_80 ob67 rfl ?_
      refine Y.iload_n dX5_seenBy_22 rfl ?_
      refine Y.iald dX5_seenBy_23 ia91 (by omega) (by omega) ?_
      refine Y.goto 33 dX5_seenBy_24 (by decide) ?_
      exact Y.iret dX5_seenBy_33 rfl (hP _ _ ⟨zrI (by first | rw [if_pos (by omega)] | rw [if_neg (by omega), if_pos (by omega)] | rw [if_neg (by omega), if_neg (by omega)]), rfl⟩)
  · refine Y.aload_n dX5_seenBy_4 rfl ?_
    refine Y.getf dX5_seenBy_5 flX5_77 ob67 rfl ?_
    refine Y.iload_n dX5_seenBy_8 rfl ?_
    refine Y.iald dX5_seenBy_9 ia90 (by omega) (by omega) ?_
    refine Y.goto 33 dX5_seenBy_10 (by decide) ?_
    exact Y.iret dX5_seenBy_33 rfl (hP _ _ ⟨zrI (by first | rw [if_pos (by omega)] | rw [if_neg (by omega), if_pos (by omega)] | rw [if_neg (by omega), if_neg (by omega)]), rfl⟩)
set_option maxHeartbeats 1000000 in
theorem c_X5_tickBy {n : Int} (n0 : 0 ≤ n) (n1 : n ≤ 1) {t : Int} (t0 : 0 ≤ t) (t3 : t < 300) (hr : 0 ≤ σ.1 67 35 ∧ σ.1 67 35 ≤ 300) : YI 0 μX5_tickBy [.ref 67, .int (zi n), .int (zi t)] σ (if t < σ.1 67 35 then σ.1 93 (300 * n + t) else -1) σ := by
  refine YC.of2 (by decide) (Nat.le_of_ble_eq_true rfl) (fun d P hd hP => ?_)
  refine Y.iload_n dX5_tickBy_0 rfl ?_
  refine Y.aload_n dX5_tickBy_1 rfl ?_
  refine Y.getf dX5_tickBy_2 flX5_308 ob67 rfl ?_
  refine Y.icmp_ge 23 dX5_tickBy_5 (by decide) (by omega) (by omega) (fun h_5 => ?_) (fun h_5 => ?_)
  · refine Y.iconst dX5_tickBy_23 ?_
    exact Y.iret dX5_tickBy_24 rfl (hP _ _ ⟨zrI (by first | rw [if_pos (by omega)] | rw [if_neg (by omega)]), rfl⟩)
  · refine Y.aload_n dX5_tickBy_8 rfl ?_
    refine Y.getf dX5_tickBy_9 flX5_86 ob67 rfl ?_
    refine Y.sipush dX5_tickBy_12 (by decide +kernel) ?_
    refine Y.iload_n dX5_tickBy_15 rfl ?_
    refine Y.imul dX5_tickBy_16 ?_
    refine Y.iload_n dX5_tickBy_17 rfl ?_
    refine Y.iadd dX5_tickBy_18 ?_
    refine Y.iald dX5_tickBy_19 ia93 (by omega) (by omega) ?_
    refine Y.goto 24 dX5_tickBy_20 (by decide) ?_
    exact Y.iret dX5_tickBy_24 rfl (hP _ _ ⟨zrI (by first | rw [if_pos (by omega)] | rw [if_neg (by omega)]), rfl⟩)
set_option maxHeartbeats 1000000 in
theorem c_X5_idle {n : Int} (n0 : 0 ≤ n) (n1 : n ≤ 1) (hr : 0 ≤ σ.1 67 35 ∧ σ.1 67 35 ≤ 300) (hb : ∀ t : Int, 0 ≤ t → t < σ.1 67 35 → zB (σ.1 93 (300 * n + t))) : YI 0 μX5_idle [.ref 67, .int (zi n)] σ (sm (fun t => zb (σ.1 93 (300 * n + t) = -1)) 0 (σ.1 67 35 - 0).toNat) σ := by
  refine YC.of2 (by decide) (Nat.le_of_ble_eq_true rfl) (fun d P hd hP => ?_)
  refine Y.iconst dX5_idle_0 ?_
  refine Y.istore_n dX5_idle_1 (by decide) rfl ?_
  refine Y.iconst dX5_idle_2 ?_
  refine Y.istore_n dX5_idle_3 (by decide) rfl ?_
  refine zw2 (fun s t => (0 ≤ t ∧ t ≤ σ.1 67 35 ∧ s = sm (fun t => zb (σ.1 93 (300 * n + t) = -1)) 0 (t - 0).toNat)) (fun s t => Y d μX5_idle 4 [some (.ref 67), some (.int (zi n)), some (.int (zi s)), some (.int (zi t))] [] σ P) (fun s t => (σ.1 67 35 - t).toNat) ?_ _ _ ⟨by omega, by omega, by rw [sm_0]⟩
  intro s t hI ih
  obtain ⟨i1, i2, i3⟩ := hI
  refine Y.iload_n dX5_idle_4 rfl ?_
  refine Y.aload_n dX5_idle_5 rfl ?_
  refine Y.getf dX5_idle_6 flX5_308 ob67 rfl ?_
  refine Y.icmp_ge 42 dX5_idle_9 (by decide) (by omega) (by omega) (fun h_9 => ?_) (fun h_9 => ?_)
  · refine Y.iload_n dX5_idle_42 rfl ?_
    exact Y.iret dX5_idle_43 rfl (hP _ _ ⟨zrI (by rw [i3, show t = σ.1 67 35 by omega]), rfl⟩)
  · have hbt := hb t (by omega) (by omega)
    refine Y.iload_n dX5_idle_12 rfl ?_
    refine Y.aload_n dX5_idle_13 rfl ?_
    refine Y.getf dX5_idle_14 flX5_86 ob67 rfl ?_
    refine Y.sipush dX5_idle_17 (by decide +kernel) ?_
    refine Y.iload_n dX5_idle_20 rfl ?_
    refine Y.imul dX5_idle_21 ?_
    refine Y.iload_n dX5_idle_22 rfl ?_
    refine Y.iadd dX5_idle_23 ?_
    refine Y.iald dX5_idle_24 ia93 (by omega) (by omega) ?_
    refine Y.iconst dX5_idle_25 ?_
    refine Y.icmp_ne 33 dX5_idle_26 (by decide) (by omega) (by omega) (fun h_26 => ?_) (fun h_26 => ?_)
    · refine Y.iconst dX5_idle_33 ?_
      refine Y.iadd dX5_idle_34 ?_
      refine Y.istore_n dX5_idle_35 (by decide) rfl ?_
      refine Y.iinc dX5_idle_36 rfl (by decide) rfl ?_
      refine Y.goto 4 dX5_idle_39 (by decide) ?_
      exact ih _ _ ⟨by omega, by omega, by rw [sm_s (by omega), i3]; first | rw [zb_t (by omega)] | rw [zb_f (by omega)]⟩ (by omega)
    · refine Y.iconst dX5_idle_29 ?_
      refine Y.goto 34 dX5_idle_30 (by decide) ?_
      refine Y.iadd dX5_idle_34 ?_
      refine Y.istore_n dX5_idle_35 (by decide) rfl ?_
      refine Y.iinc dX5_idle_36 rfl (by decide) rfl ?_
      refine Y.goto 4 dX5_idle_39 (by decide) ?_
      exact ih _ _ ⟨by omega, by omega, by rw [sm_s (by omega), i3]; first | rw [zb_t (by omega)] | rw [zb_f (by omega)]⟩ (by omega)
end ZR5
