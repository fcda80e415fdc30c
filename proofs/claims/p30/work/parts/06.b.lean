section ZR2
variable {σ : zS}
theorem clr_nc {c : Nat} (h : c < 38 ∨ 46 < c ∨ c = 40) : (clr σ).1 c = σ.1 c := by
  unfold clr
  rw [zf_nc (by omega), zf_nc (by omega), zf_nc (by omega), zf_nc (by omega), zf_nc (by omega), zf_nc (by omega), zf_nc (by omega), zu_nc (by omega), zu_nc (by omega)]
theorem tkE_45 {p : zP} {s : zS} {x t y : Int} : (tkE p s x t).1 45 y = if y = x then s.1 45 x + 1 else s.1 45 y := by
  have q : (45 : Nat) ≠ 48 + x.toNat := by omega
  unfold tkE; dsimp only; split <;> simp [zu, q]
theorem tkE_46 {p : zP} {s : zS} {x t y : Int} : (tkE p s x t).1 46 y = if y = x then 0 else s.1 46 y := by
  have q : (46 : Nat) ≠ 48 + x.toNat := by omega
  unfold tkE; dsimp only; split <;> simp [zu, q]
theorem tkE_38 {p : zP} {s : zS} {x t y : Int} : (tkE p s x t).1 38 y = if y = 1 then s.1 38 1 + 1 else s.1 38 y := by
  have q : (38 : Nat) ≠ 48 + x.toNat := by omega
  unfold tkE; dsimp only; split <;> simp [zu, q]
theorem tkE_43 {p : zP} {s : zS} {x t y : Int} : (tkE p s x t).1 43 y = if y = x then max (s.1 43 x) (t + 1 - rel p (x / 3) (s.1 45 x)) else s.1 43 y := by
  have q : (43 : Nat) ≠ 48 + x.toNat := by omega
  unfold tkE; dsimp only; split <;> simp [zu, q]
theorem tkE_44 {p : zP} {s : zS} {x t y : Int} : (tkE p s x t).1 44 y = if y = x then (if s.1 44 x = -1 then t + 1 - rel p (x / 3) (s.1 45 x) else min (s.1 44 x) (t + 1 - rel p (x / 3) (s.1 45 x))) else s.1 44 y := by
  have q : (44 : Nat) ≠ 48 + x.toNat := by omega
  unfold tkE; dsimp only; split <;> simp [zu, q]
theorem tkE_57 {p : zP} {s : zS} {x t i : Int} (h0 : 0 ≤ x) (h9 : x < 9) : (tkE p s x t).1 57 i = if x % 3 = 0 ∧ i = x / 3 then max (s.1 57 (x / 3)) (rdy p (x / 3) (s.1 45 x + 1)) else s.1 57 i := by
  have q : (57 : Nat) ≠ 48 + x.toNat := by omega
  by_cases h : x % 3 = 0
  · unfold tkE; dsimp only; rw [if_pos h]; simp [zu, q, h]
  · unfold tkE; dsimp only; rw [if_neg h]; simp [zu, q, h]
theorem tkE_E {p : zP} {s : zS} {x t y n : Int} (h0 : 0 ≤ x) (h9 : x < 9) (g0 : 0 ≤ y) (g9 : y < 9) : (tkE p s x t).1 (48 + y.toNat) n = if y = x ∧ n = s.1 45 x then t + 1 else s.1 (48 + y.toNat) n := by
  have q1 : 48 + y.toNat ≠ 57 := by omega
  have q2 : 48 + y.toNat ≠ 46 := by omega
  have q3 : 48 + y.toNat ≠ 45 := by omega
  have q4 : 48 + y.toNat ≠ 38 := by omega
  have q5 : 48 + y.toNat ≠ 43 := by omega
  have q6 : 48 + y.toNat ≠ 44 := by omega
  have key : (tkE p s x t).1 (48 + y.toNat) n = (zu s (48 + x.toNat) (s.1 45 x) (t + 1)).1 (48 + y.toNat) n := by
    unfold tkE; dsimp only
    split
    · rw [zu_nc q1, zu_nc q6, zu_nc q5, zu_nc q4, zu_nc q3, zu_nc q2]
    · rw [zu_nc q6, zu_nc q5, zu_nc q4, zu_nc q3, zu_nc q2]
  rw [key]
  by_cases h : y = x
  · subst h
    by_cases hn : n = s.1 45 y
    · subst hn; rw [zu_eq, if_pos ⟨rfl, rfl⟩]
    · rw [zu_ne hn, if_neg (fun z => hn z.2)]
  · rw [zu_nc (by omega), if_neg (fun z => h z.1)]
theorem tkE_o {p : zP} {s : zS} {x t : Int} (h0 : 0 ≤ x) (h9 : x < 9) {c : Nat} (hc : c < 38 ∨ 57 < c ∨ (39 ≤ c ∧ c ≤ 42) ∨ c = 47) : (tkE p s x t).1 c = s.1 c := by
  unfold tkE; dsimp only
  split
  · rw [zu_nc (by omega), zu_nc (by omega), zu_nc (by omega), zu_nc (by omega), zu_nc (by omega), zu_nc (by omega), zu_nc (by omega)]
  · rw [zu_nc (by omega), zu_nc (by omega), zu_nc (by omega), zu_nc (by omega), zu_nc (by omega), zu_nc (by omega)]
theorem tkE_l {p : zP} {s : zS} {x t : Int} : (tkE p s x t).2 = s.2 := by
  unfold tkE; dsimp only; split <;> rfl
theorem tk_o {p : zP} {s : zS} {x t : Int} (h0 : 0 ≤ x) (h9 : x < 9) {c : Nat} (hc : c < 38 ∨ 57 < c ∨ (39 ≤ c ∧ c ≤ 42) ∨ c = 47) : (tk p s x t).1 c = s.1 c := by
  unfold tk
  split
  · rw [zu_nc (by omega)]
  · rw [tkE_o h0 h9 hc, zu_nc (by omega)]
theorem tk_l {p : zP} {s : zS} {x t : Int} : (tk p s x t).2 = s.2 := by
  unfold tk
  split
  · rfl
  · rw [tkE_l]; rfl
theorem tk_b {p : zP} (hp : WP p) {s : zS} {a x t : Int} (h0 : 0 ≤ x) (h9 : x < 9) (t0 : 0 ≤ t) (t3 : t < 300) (hR : RB p s a) (hr : rd p s x t) : RB p (tk p s x t) (a + 1) := by
  obtain ⟨hx, hi, h38, h39, h39'⟩ := hR
  have hk := (hp.2.1 x h0 h9).2.1
  have hxx := hx x h0 h9
  have hr1 := hr.1
  have hrl := rel_b hp (i := x / 3) (n := s.1 45 x) (by omega) (by omega) (by omega) (by omega)
  have hrd := rdy_b hp (i := x / 3) (n := s.1 45 x + 1) (by omega) (by omega) (by omega) (by omega)
  unfold tk
  by_cases h : s.1 46 x + 1 < p 7 x
  · rw [if_pos h]
    refine ⟨fun y a c => ?_, fun i a c => ?_, ?_, ?_, ?_⟩
    · rw [zu_nc (by omega : (45 : Nat) ≠ 46), zu_nc (by omega : (43 : Nat) ≠ 46), zu_nc (by omega : (44 : Nat) ≠ 46), zu_nc (by omega : 48 + y.toNat ≠ 46)]
      refine ⟨(hx y a c).1, ?_, (hx y a c).2.2⟩
      by_cases q : y = x
      · rw [q, zu_eq]; omega
      · rw [zu_ne q]; exact (hx y a c).2.1
    · rw [zu_nc (by omega)]; exact hi i a c
    · rw [zu_nc (by omega)]; omega
    · rw [zu_nc (by omega)]; omega
    · rw [zu_nc (by omega)]; omega
  · rw [if_neg h]
    generalize hs : zu s 46 x (s.1 46 x + 1) = s1
    have f1 : ∀ c : Nat, c ≠ 46 → s1.1 c = s.1 c := fun c q => by rw [← hs, zu_nc q]
    have f45 := f1 45 (by omega)
    have f43 := f1 43 (by omega)
    have f44 := f1 44 (by omega)
    have f57 := f1 57 (by omega)
    have f38 := f1 38 (by omega)
    refine ⟨fun y a c => ?_, fun i a c => ?_, ?_, ?_, ?_⟩
    · have hy := hx y a c
      rw [tkE_45, tkE_46, tkE_43, tkE_44, f45, f43, f44]
      refine ⟨?_, ?_, ?_, ?_, fun n n0 n1 => ?_⟩
      · split <;> omega
      · split
        · omega
        · rename_i q; rw [← hs, zu_ne q]; exact hy.2.1
      · split <;> omega
      · split
        · split <;> omega
        · omega
      · rw [tkE_E h0 h9 a c, f1 (48 + y.toNat) (by omega), f45]
        by_cases q : y = x ∧ n = s.1 45 x
        · rw [if_pos q]; omega
        · rw [if_neg q]
          by_cases q2 : y = x
          · rw [if_pos q2] at n1; exact hy.2.2.2.2 n n0 (by rw [q2]; omega)
          · rw [if_neg q2] at n1; exact hy.2.2.2.2 n n0 n1
    · rw [tkE_57 h0 h9, f57, f45]
      have hia := hi i a c
      have hib := hi (x / 3) (by omega) (by omega)
      split <;> omega
    · rw [tkE_38, if_pos rfl, f38]; omega
    · rw [tkE_o h0 h9 (by omega), f1 39 (by omega)]; omega
    · rw [tkE_o h0 h9 (by omega), f1 39 (by omega)]; omega
theorem RB.up {p : zP} {s : zS} {a b : Int} (h : RB p s a) (hab : a ≤ b) : RB p s b := ⟨h.1, h.2.1, ⟨h.2.2.1.1, by have := h.2.2.1.2; omega⟩, ⟨h.2.2.2.1.1, by have := h.2.2.2.1.2; omega⟩, ⟨h.2.2.2.2.1, by have := h.2.2.2.2.2; omega⟩⟩
theorem RB.did {p : zP} {s : zS} {a t v : Int} (h : RB p s a) {c : Nat} (hc : c = 41 ∨ c = 42) : RB p (zu s c t v) a := by
  refine ⟨fun y a c => ?_, fun i a c => ?_, ?_, ?_, ?_⟩
  · rw [zu_nc (by omega), zu_nc (by omega), zu_nc (by omega), zu_nc (by omega), zu_nc (by omega)]; exact h.1 y a c
  · rw [zu_nc (by omega)]; exact h.2.1 i a c
  · rw [zu_nc (by omega)]; exact h.2.2.1
  · rw [zu_nc (by omega)]; exact h.2.2.2.1
  · rw [zu_nc (by omega)]; exact h.2.2.2.2
theorem rd_did {p : zP} {s : zS} {x t u v : Int} {c : Nat} (hc : c = 41 ∨ c = 42) : rd p (zu s c u v) x t ↔ rd p s x t := by
  unfold rd
  rw [zu_nc (by omega), zu_nc (by omega), zu_nc (by omega)]
theorem ntk_b {p : zP} (hp : WP p) {s : zS} {a t : Int} {w : Nat} (hw : w < 2) (t0 : 0 ≤ t) (t3 : t < 300) (hR : RB p s a) : RB p (ntk p s w t) (a + 1) := by
  have e41 : 41 + ((w : Nat) : Int).toNat = 41 + w := by omega
  unfold ntk
  rw [e41]
  by_cases h : ug p s w t 9 = -1
  · rw [if_pos h]
    have h1 := hR.did (t := t) (v := -1) (show 41 + w = 41 ∨ 41 + w = 42 by omega)
    refine ⟨fun y a c => ?_, fun i a c => ?_, ?_, ?_, ?_⟩
    · rw [zu_nc (by omega : (45 : Nat) ≠ 39), zu_nc (by omega : (46 : Nat) ≠ 39), zu_nc (by omega : (43 : Nat) ≠ 39), zu_nc (by omega : (44 : Nat) ≠ 39), zu_nc (by omega : 48 + y.toNat ≠ 39)]; exact h1.1 y a c
    · rw [zu_nc (by omega)]; exact h1.2.1 i a c
    · rw [zu_nc (by omega)]; have := h1.2.2.1; omega
    · have q1 := h1.2.2.2
      by_cases q : (0 : Int) = w
      · rw [← q, zu_eq]; omega
      · rw [zu_ne q]; omega
    · have q1 := h1.2.2.2
      by_cases q : (1 : Int) = w
      · rw [← q, zu_eq]; omega
      · rw [zu_ne q]; omega
  · rw [if_neg h]
    rcases ug_r (p := p) (s := s) (node := w) (t := t) 9 with q | ⟨q1, q2, q3, q4, q5⟩
    · exact absurd q h
    · exact tk_b hp q1 q2 t0 t3 (hR.did (show 41 + w = 41 ∨ 41 + w = 42 by omega)) ((rd_did (show 41 + w = 41 ∨ 41 + w = 42 by omega)).mpr q5)
theorem ntk_o {p : zP} {s : zS} {t : Int} {w : Nat} (hw : w < 2) {c : Nat} (hc : c < 38 ∨ 57 < c) : (ntk p s w t).1 c = s.1 c := by
  have e41 : 41 + ((w : Nat) : Int).toNat = 41 + w := by omega
  unfold ntk
  rw [e41]
  by_cases h : ug p s w t 9 = -1
  · rw [if_pos h, zu_nc (by omega), zu_nc (by omega)]
  · rw [if_neg h]
    rcases ug_r (p := p) (s := s) (node := w) (t := t) 9 with q | ⟨q1, q2, q3, q4, q5⟩
    · exact absurd q h
    · rw [tk_o q1 q2 (by omega), zu_nc (by omega)]
theorem ntk_l {p : zP} {s : zS} {t : Int} {w : Nat} : (ntk p s w t).2 = s.2 := by
  unfold ntk
  split
  · rfl
  · rw [tk_l]; rfl
theorem rst_b {p : zP} (hp : WP p) (h : Int) (σ : zS) : RB p (rst p h σ) 0 := by
  have r0 := rdy_b hp (i := 0) (n := 0) (by omega) (by omega) (by omega) (by omega)
  have r1 := rdy_b hp (i := 1) (n := 0) (by omega) (by omega) (by omega) (by omega)
  have r2 := rdy_b hp (i := 2) (n := 0) (by omega) (by omega) (by omega) (by omega)
  unfold rst
  have z45 : ∀ y : Int, 0 ≤ y → y < 9 → (clr σ).1 45 y = 0 := fun y a c => by unfold clr; rw [zf_nc (by omega), zf_in a c]
  have z46 : ∀ y : Int, 0 ≤ y → y < 9 → (clr σ).1 46 y = 0 := fun y a c => by unfold clr; rw [zf_in a c]
  have z44 : ∀ y : Int, 0 ≤ y → y < 9 → (clr σ).1 44 y = -1 := fun y a c => by unfold clr; rw [zf_nc (by omega), zf_nc (by omega), zf_in a c]
  have z43 : ∀ y : Int, 0 ≤ y → y < 9 → (clr σ).1 43 y = -1 := fun y a c => by unfold clr; rw [zf_nc (by omega), zf_nc (by omega), zf_nc (by omega), zf_in a c]
  have z39 : ∀ y : Int, 0 ≤ y → y < 2 → (clr σ).1 39 y = 0 := fun y a c => by unfold clr; rw [zf_nc (by omega), zf_nc (by omega), zf_nc (by omega), zf_nc (by omega), zf_nc (by omega), zf_nc (by omega), zf_in a c]
  have z38 : (clr σ).1 38 1 = 0 := by unfold clr; rw [zf_nc (by omega), zf_nc (by omega), zf_nc (by omega), zf_nc (by omega), zf_nc (by omega), zf_nc (by omega), zf_nc (by omega), zu_eq]
  refine ⟨fun y a c => ?_, fun i a c => ?_, ?_, ?_, ?_⟩
  · rw [zu_nc (by omega : (45 : Nat) ≠ 57), zu_nc (by omega : (45 : Nat) ≠ 57), zu_nc (by omega : (45 : Nat) ≠ 57), zu_nc (by omega : (45 : Nat) ≠ 38), z45 y a c, zu_nc (by omega : (46 : Nat) ≠ 57), zu_nc (by omega : (46 : Nat) ≠ 57), zu_nc (by omega : (46 : Nat) ≠ 57), zu_nc (by omega : (46 : Nat) ≠ 38), z46 y a c, zu_nc (by omega : (43 : Nat) ≠ 57), zu_nc (by omega : (43 : Nat) ≠ 57), zu_nc (by omega : (43 : Nat) ≠ 57), zu_nc (by omega : (43 : Nat) ≠ 38), z43 y a c, zu_nc (by omega : (44 : Nat) ≠ 57), zu_nc (by omega : (44 : Nat) ≠ 57), zu_nc (by omega : (44 : Nat) ≠ 57), zu_nc (by omega : (44 : Nat) ≠ 38), z44 y a c]
    exact ⟨by omega, by omega, by omega, by omega, fun n a c => by omega⟩
  · rcases (show i = 0 ∨ i = 1 ∨ i = 2 by omega) with rfl | rfl | rfl
    · rw [zu_ne (by omega), zu_ne (by omega), zu_eq]; omega
    · rw [zu_ne (by omega), zu_eq]; omega
    · rw [zu_eq]; omega
  · rw [zu_nc (by omega), zu_nc (by omega), zu_nc (by omega), zu_ne (by omega), z38]; omega
  · rw [zu_nc (by omega), zu_nc (by omega), zu_nc (by omega), zu_nc (by omega), z39 0 (by omega) (by omega)]; omega
  · rw [zu_nc (by omega), zu_nc (by omega), zu_nc (by omega), zu_nc (by omega), z39 1 (by omega) (by omega)]; omega
theorem rst_o {p : zP} {h : Int} {c : Nat} (hc : c < 38 ∨ 57 < c) : (rst p h σ).1 c = σ.1 c := by
  unfold rst
  rw [zu_nc (by omega), zu_nc (by omega), zu_nc (by omega), zu_nc (by omega), clr_nc (by omega)]
theorem rnN_ok {p : zP} (hp : WP p) {h : Int} : ∀ n : Nat, n ≤ 300 → RB p (rnN p (rst p h σ) n) (2 * n) ∧ (∀ c : Nat, (c < 38 ∨ 57 < c) → (rnN p (rst p h σ) n).1 c = σ.1 c) ∧ (rnN p (rst p h σ) n).2 = σ.2
  | 0, _ => ⟨rst_b hp h σ, fun c hc => rst_o hc, rfl⟩
  | n + 1, hn => by
    obtain ⟨h1, h2, h3⟩ := rnN_ok hp n (by omega)
    have b0 : RB p (ntk p (rnN p (rst p h σ) n) 0 n) (2 * n + 1) := ntk_b hp (w := 0) (by omega) (by omega) (by omega) h1
    have b1 : RB p (ntk p (ntk p (rnN p (rst p h σ) n) 0 n) 1 n) (2 * n + 1 + 1) := ntk_b hp (w := 1) (by omega) (by omega) (by omega) b0
    refine ⟨b1.up (by omega), fun c hc => ?_, ?_⟩
    · exact ((ntk_o (w := 1) (by omega) hc).trans (ntk_o (w := 0) (by omega) hc)).trans (h2 c hc)
    · exact ((ntk_l (w := 1)).trans (ntk_l (w := 0))).trans h3
theorem crun_o {p : zP} (hp : WP p) {h : Int} (h3 : h ≤ 300) {c : Nat} (hc : c < 38 ∨ 57 < c) : (crun p h σ).1 c = σ.1 c := (rnN_ok hp _ (by omega)).2.1 c hc
theorem crun_l {p : zP} (hp : WP p) {h : Int} (h3 : h ≤ 300) : (crun p h σ).2 = σ.2 := (rnN_ok hp _ (by omega)).2.2
set_option maxHeartbeats 4000000 in
theorem c_X1_go {p : zP} (ec : cP σ = p) (hp : WP p) {h : Int} (h1 : 1 ≤ h) (h3 : h ≤ 300) : YV 3 μX1_go [.ref 38, .ref 1, .int (zi h)] σ (crun p h σ) := by
  refine YC.of2 (by decide) (Nat.le_of_ble_eq_true rfl) (fun d P hd hP => ?_)
  have hcp : ∀ s : zS, (∀ c : Nat, c ≤ 13 → s.1 c = (clr σ).1 c) → cP s = p := fun s hs => ((cP_c hs).trans (cP_c (fun c hc => clr_nc (by omega)))).trans ec
  have k50 : ∀ (w : Nat) (s : zS) (a t : Int), w < 2 → RB p s a → a ≤ 650 → cP s = p → 0 ≤ t → t < h → Y d μX1_go 99 [some (.ref 38), some (.ref 1), some (.int (zi h)), some (.int (zi t)), some (.int (zi (w : Int))), none] [] (ntk p s w t) P → Y d μX1_go 50 [some (.ref 38), some (.ref 1), some (.int (zi h)), some (.int (zi t)), some (.int (zi (w : Int))), none] [] s P := by
    intro w s a t hw2 hR2 ha ec2 t0 th K
    refine Y.aload_n dX1_go_50 rfl ?_
    refine Y.aload_n dX1_go_51 rfl ?_
    refine Y.iload dX1_go_52 rfl ?_
    refine Y.iload_n dX1_go_54 rfl ?_
    refine Y.cVI dX1_go_55 mkX1_mostUrgent csX1_58 ob38 ⟨_, rfl, rfl⟩ (c_X1_mostUrgent ec2 hp hR2 ⟨by omega, by omega⟩ t0 (by omega)) (by omega) rfl rfl (Nat.le_of_ble_eq_true rfl) ?_
    refine Y.istore dX1_go_58 (by decide) rfl ?_
    refine Y.aload_n dX1_go_60 rfl ?_
    refine Y.getf dX1_go_61 flX1_17 ob38 rfl ?_
    refine Y.iload dX1_go_64 rfl ?_
    refine Y.aald dX1_go_66 ra40 (by decide) (by omega) (by omega) (hqD hw2) ?_
    refine Y.iload_n dX1_go_67 rfl ?_
    refine Y.iload dX1_go_68 rfl ?_
    refine Y.iast dX1_go_70 (iaD hw2) (by omega) (by omega) ?_
    refine Y.iload dX1_go_71 rfl ?_
    refine Y.iconst dX1_go_73 ?_
    have hu := ug_r (p := p) (s := s) (node := (w : Int)) (t := t) 9
    have hRd := hR2.did (t := t) (v := ug p s (w : Int) t 9) (show 41 + w = 41 ∨ 41 + w = 42 by omega)
    have h39 : 0 ≤ (zu s (41 + w) t (ug p s (w : Int) t 9)).1 39 (w : Int) ∧ (zu s (41 + w) t (ug p s (w : Int) t 9)).1 39 (w : Int) ≤ a := by
      rcases (show w = 0 ∨ w = 1 by omega) with rfl | rfl
      · exact hRd.2.2.2.1
      · exact hRd.2.2.2.2
    refine Y.icmp_ne 91 dX1_go_74 (by decide) (by omega) (by omega) (fun h_74 => ?_) (fun h_74 => ?_)
    · obtain ⟨u1, u2, u3, u4, u5⟩ := hu.resolve_left h_74
      refine Y.aload_n dX1_go_91 rfl ?_
      refine Y.aload_n dX1_go_92 rfl ?_
      refine Y.iload dX1_go_93 rfl ?_
      refine Y.iload_n dX1_go_95 rfl ?_
      refine Y.cVV dX1_go_96 mkX1_doTick csX1_61 ob38 ⟨_, rfl, rfl⟩ (c_X1_doTick ((cP_c (fun c hc => by rw [zu_nc (by omega)])).trans ec2) hp hRd (by omega) u1 u2 t0 (by omega) ((rd_did (show 41 + w = 41 ∨ 41 + w = 42 by omega)).mpr u5)) (by omega) rfl rfl (Nat.le_of_ble_eq_true rfl) ?_
      refine Y.sub (zs_s (zs_s (zs_s (zs_s (zs_s (zs_n zs_0)))))) ?_
      first
        | (rw [show tk p (zu s (41 + w) t (ug p s (w : Int) t 9)) (ug p s (w : Int) t 9) t = ntk p s w t by unfold ntk; rw [if_neg h_74]; rfl]; exact K)
        | (rw [show zu (zu s (41 + w) t (ug p s (w : Int) t 9)) 39 (w : Int) ((zu s (41 + w) t (ug p s (w : Int) t 9)).1 39 (w : Int) + 1) = ntk p s w t by unfold ntk; rw [if_pos h_74, h_74]; rfl]; exact K)
    · refine Y.aload_n dX1_go_77 rfl ?_
      refine Y.getf dX1_go_78 flX1_9 ob38 rfl ?_
      refine Y.iload dX1_go_81 rfl ?_
      refine Y.dup2 dX1_go_83 rfl rfl ?_
      refine Y.iald dX1_go_84 ia39 (by omega) (by omega) ?_
      refine Y.iconst dX1_go_85 ?_
      refine Y.iadd dX1_go_86 ?_
      refine Y.iast dX1_go_87 ia39 (by omega) (by omega) ?_
      refine Y.goto 99 dX1_go_88 (by decide) ?_
      refine Y.sub (zs_s (zs_s (zs_s (zs_s (zs_s (zs_n zs_0)))))) ?_
      first
        | (rw [show tk p (zu s (41 + w) t (ug p s (w : Int) t 9)) (ug p s (w : Int) t 9) t = ntk p s w t by unfold ntk; rw [if_neg h_74]; rfl]; exact K)
        | (rw [show zu (zu s (41 + w) t (ug p s (w : Int) t 9)) 39 (w : Int) ((zu s (41 + w) t (ug p s (w : Int) t 9)).1 39 (w : Int) + 1) = ntk p s w t by unfold ntk; rw [if_pos h_74, h_74]; rfl]; exact K)
  refine Y.aload_n dX1_go_0 rfl ?_
  refine Y.cVV dX1_go_1 mkX1_clear csX1_38 ob38 ⟨_, rfl, rfl⟩ c_X1_clear (by omega) rfl rfl (Nat.le_of_ble_eq_true rfl) ?_
  refine Y.aload_n dX1_go_4 rfl ?_
  refine Y.iload_n dX1_go_5 rfl ?_
  refine Y.putf 0 dX1_go_6 fpX1_41 ob38 os38_0 (Nat.le_of_ble_eq_true rfl) (Or.inl rfl) rfl ?_
  refine Y.iconst dX1_go_9 ?_
  refine Y.istore_n dX1_go_10 (by decide) rfl ?_
  refine Y.iload_n dX1_go_11 rfl ?_
  refine Y.iconst dX1_go_12 ?_
  refine Y.icmp_ge 34 dX1_go_13 (by decide) (by omega) (by omega) (fun h_13 => ?_) (fun h_13 => ?_)
  · exfalso; omega
  refine Y.aload_n dX1_go_16 rfl ?_
  refine Y.getf dX1_go_17 flX1_35 ob38 rfl ?_
  refine Y.iload_n dX1_go_20 rfl ?_
  refine Y.aload_n dX1_go_21 rfl ?_
  refine Y.iload_n dX1_go_22 rfl ?_
  refine Y.iconst dX1_go_23 ?_
  refine Y.cSI dX1_go_24 mkX1_firstReady csX1_54 (c_X1_firstReady (hcp _ (fun c hc => by first | (rw [zu_nc (by omega), zu_nc (by omega), zu_nc (by omega)]; done) | (rw [zu_nc (by omega), zu_nc (by omega)]; done) | (rw [zu_nc (by omega)]; done))) hp (by omega) (by omega) (by omega) (by omega)) (by omega) rfl rfl (Nat.le_of_ble_eq_true rfl) ?_
  refine Y.iast dX1_go_27 ia57 (by omega) (by omega) ?_
  refine Y.iinc dX1_go_28 rfl (by decide) rfl ?_
  refine Y.goto 11 dX1_go_31 (by decide) ?_
  refine Y.iload_n dX1_go_11 rfl ?_
  refine Y.iconst dX1_go_12 ?_
  refine Y.icmp_ge 34 dX1_go_13 (by decide) (by omega) (by omega) (fun h_13 => ?_) (fun h_13 => ?_)
  · exfalso; omega
  refine Y.aload_n dX1_go_16 rfl ?_
  refine Y.getf dX1_go_17 flX1_35 ob38 rfl ?_
  refine Y.iload_n dX1_go_20 rfl ?_
  refine Y.aload_n dX1_go_21 rfl ?_
  refine Y.iload_n dX1_go_22 rfl ?_
  refine Y.iconst dX1_go_23 ?_
  refine Y.cSI dX1_go_24 mkX1_firstReady csX1_54 (c_X1_firstReady (hcp _ (fun c hc => by first | (rw [zu_nc (by omega), zu_nc (by omega), zu_nc (by omega)]; done) | (rw [zu_nc (by omega), zu_nc (by omega)]; done) | (rw [zu_nc (by omega)]; done))) hp (by omega) (by omega) (by omega) (by omega)) (by omega) rfl rfl (Nat.le_of_ble_eq_true rfl) ?_
  refine Y.iast dX1_go_27 ia57 (by omega) (by omega) ?_
  refine Y.iinc dX1_go_28 rfl (by decide) rfl ?_
  refine Y.goto 11 dX1_go_31 (by decide) ?_
  refine Y.iload_n dX1_go_11 rfl ?_
  refine Y.iconst dX1_go_12 ?_
  refine Y.icmp_ge 34 dX1_go_13 (by decide) (by omega) (by omega) (fun h_13 => ?_) (fun h_13 => ?_)
  · exfalso; omega
  refine Y.aload_n dX1_go_16 rfl ?_
  refine Y.getf dX1_go_17 flX1_35 ob38 rfl ?_
  refine Y.iload_n dX1_go_20 rfl ?_
  refine Y.aload_n dX1_go_21 rfl ?_
  refine Y.iload_n dX1_go_22 rfl ?_
  refine Y.iconst dX1_go_23 ?_
  refine Y.cSI dX1_go_24 mkX1_firstReady csX1_54 (c_X1_firstReady (hcp _ (fun c hc => by first | (rw [zu_nc (by omega), zu_nc (by omega), zu_nc (by omega)]; done) | (rw [zu_nc (by omega), zu_nc (by omega)]; done) | (rw [zu_nc (by omega)]; done))) hp (by omega) (by omega) (by omega) (by omega)) (by omega) rfl rfl (Nat.le_of_ble_eq_true rfl) ?_
  refine Y.iast dX1_go_27 ia57 (by omega) (by omega) ?_
  refine Y.iinc dX1_go_28 rfl (by decide) rfl ?_
  refine Y.goto 11 dX1_go_31 (by decide) ?_
  refine Y.iload_n dX1_go_11 rfl ?_
  refine Y.iconst dX1_go_12 ?_
  refine Y.icmp_ge 34 dX1_go_13 (by decide) (by omega) (by omega) (fun h_13 => ?_) (fun h_13 => ?_)
  rotate_left
  · exfalso; omega
  refine Y.iconst dX1_go_34 ?_
  refine Y.istore_n dX1_go_35 (by decide) rfl ?_
  refine zw1 (fun t => (0 ≤ t ∧ t ≤ h)) (fun t => Y d μX1_go 36 [some (.ref 38), some (.ref 1), some (.int (zi h)), some (.int (zi t)), none, none] [] (rnN p (rst p h σ) (t - 0).toNat) P) (fun t => (h - t).toNat) ?_ 0 ⟨by omega, by omega⟩
  intro t hI ih
  obtain ⟨t0, t1⟩ := hI
  refine Y.iload_n dX1_go_36 rfl ?_
  refine Y.iload_n dX1_go_37 rfl ?_
  refine Y.icmp_ge 111 dX1_go_38 (by decide) (by omega) (by omega) (fun h_38 => ?_) (fun h_38 => ?_)
  · exact Y.vret dX1_go_111 rfl (hP _ _ ⟨rfl, by rw [show t = h by omega]; rfl⟩)
  · have hok := rnN_ok (σ := σ) hp (h := h) (t - 0).toNat (by omega)
    have hR0 : RB p (rnN p (rst p h σ) (t - 0).toNat) (2 * t) := hok.1.up (by omega)
    have ec0 : cP (rnN p (rst p h σ) (t - 0).toNat) = p := (cP_c (fun c hc => hok.2.1 c (by omega))).trans ec
    have b0 : RB p (ntk p (rnN p (rst p h σ) (t - 0).toNat) 0 t) (2 * t + 1) := ntk_b hp (w := 0) (by omega) t0 (by omega) hR0
    have ec1 : cP (ntk p (rnN p (rst p h σ) (t - 0).toNat) 0 t) = p := (cP_c (fun c hc => ntk_o (w := 0) (by omega) (by omega))).trans ec0
    have k105 : Y d μX1_go 105 [some (.ref 38), some (.ref 1), some (.int (zi h)), some (.int (zi t)), none, none] [] (tka p (rnN p (rst p h σ) (t - 0).toNat) t) P := by
      refine Y.iinc dX1_go_105 rfl (by decide) rfl ?_
      refine Y.goto 36 dX1_go_108 (by decide) ?_
      rw [← rnN_s t0]
      exact ih _ ⟨by omega, by omega⟩ (by omega)
    have k99b : Y d μX1_go 99 [some (.ref 38), some (.ref 1), some (.int (zi h)), some (.int (zi t)), some (.int (zi 1)), none] [] (ntk p (ntk p (rnN p (rst p h σ) (t - 0).toNat) 0 t) 1 t) P := by
      refine Y.iinc dX1_go_99 rfl (by decide) rfl ?_
      refine Y.goto 44 dX1_go_102 (by decide) ?_
      refine Y.iload dX1_go_44 rfl ?_
      refine Y.iconst dX1_go_46 ?_
      refine Y.icmp_ge 105 dX1_go_47 (by decide) (by omega) (by omega) (fun h_47 => ?_) (fun h_47 => ?_)
      rotate_left
      · exfalso; omega
      exact Y.sub (zs_s (zs_s (zs_s (zs_s (zs_n (zs_n zs_0)))))) k105
    have k99a : Y d μX1_go 99 [some (.ref 38), some (.ref 1), some (.int (zi h)), some (.int (zi t)), some (.int (zi 0)), none] [] (ntk p (rnN p (rst p h σ) (t - 0).toNat) 0 t) P := by
      refine Y.iinc dX1_go_99 rfl (by decide) rfl ?_
      refine Y.goto 44 dX1_go_102 (by decide) ?_
      refine Y.iload dX1_go_44 rfl ?_
      refine Y.iconst dX1_go_46 ?_
      refine Y.icmp_ge 105 dX1_go_47 (by decide) (by omega) (by omega) (fun h_47 => ?_) (fun h_47 => ?_)
      · exfalso; omega
      exact k50 1 _ (2 * t + 1) t (by omega) b0 (by omega) ec1 t0 (by omega) k99b
    refine Y.iconst dX1_go_41 ?_
    refine Y.istore dX1_go_42 (by decide) rfl ?_
    refine Y.iload dX1_go_44 rfl ?_
    refine Y.iconst dX1_go_46 ?_
    refine Y.icmp_ge 105 dX1_go_47 (by decide) (by omega) (by omega) (fun h_47 => ?_) (fun h_47 => ?_)
    · exfalso; omega
    exact k50 0 _ (2 * t) t (by omega) hR0 (by omega) ec0 t0 (by omega) k99a
set_option maxHeartbeats 1000000 in
theorem c_X1_seenOf {x w : Int} (h0 : 0 ≤ x) (h9 : x < 9) (hw : zB w) : YI 0 μX1_seenOf [.ref 38, .int (zi x), .int (zi w)] σ (if w = 0 then σ.1 43 x else if w = 1 then σ.1 44 x else σ.1 45 x) σ := by
  refine YC.of2 (by decide) (Nat.le_of_ble_eq_true rfl) (fun d P hd hP => ?_)
  refine Y.iload_n dX1_seenOf_0 rfl ?_
  refine Y.if_ne 13 dX1_seenOf_1 (by decide) (by omega) (fun h_1 => ?_) (fun h_1 => ?_)
  · refine Y.iload_n dX1_seenOf_13 rfl ?_
    refine Y.iconst dX1_seenOf_14 ?_
    refine Y.icmp_ne 27 dX1_seenOf_15 (by decide) (by omega) (by omega) (fun h_15 => ?_) (fun h_15 => ?_)
    · refine Y.aload_n dX1_seenOf_27 rfl ?_
      refine Y.getf dX1_seenOf_28 flX1_26 ob38 rfl ?_
      refine Y.iload_n dX1_seenOf_31 rfl ?_
      refine Y.iald dX1_seenOf_32 ia45 (by omega) (by omega) ?_
      exact Y.iret dX1_seenOf_33 rfl (hP _ _ ⟨zrI (by first | rw [if_pos (by omega)] | rw [if_neg (by omega), if_pos (by omega)] | rw [if_neg (by omega), if_neg (by omega)]), rfl⟩)
    · refine Y.aload_n dX1_seenOf_18 rfl ?_
      refine Y.getf dX1_seenOf_19 flX1_23 ob38 rfl ?_
      refine Y.iload_n dX1_seenOf_22 rfl ?_
      refine Y.iald dX1_seenOf_23 ia44 (by omega) (by omega) ?_
      refine Y.goto 33 dX1_seenOf_24 (by decide) ?_
      exact Y.iret dX1_seenOf_33 rfl (hP _ _ ⟨zrI (by first | rw [if_pos (by omega)] | rw [if_neg (by omega), if_pos (by omega)] | rw [if_neg (by omega), if_neg (by omega)]), rfl⟩)
  · refine Y.aload_n dX1_seenOf_4 rfl ?_
    refine Y.getf dX1_seenOf_5 flX1_20 ob38 rfl ?_
    refine Y.iload_n dX1_seenOf_8 rfl ?_
    refine Y.iald dX1_seenOf_9 ia43 (by omega) (by omega) ?_
    refine Y.goto 33 dX1_seenOf_10 (by decide) ?_
    exact Y.iret dX1_seenOf_33 rfl (hP _ _ ⟨zrI (by first | rw [if_pos (by omega)] | rw [if_neg (by omega), if_pos (by omega)] | rw [if_neg (by omega), if_neg (by omega)]), rfl⟩)
end ZR2
