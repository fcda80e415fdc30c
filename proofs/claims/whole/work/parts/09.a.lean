section ZO1
variable {σ : zS}
def JJ (σ : zS) : Prop := JD σ ∧ STL σ
theorem JD.pl (hD : JD σ) {s : zS} (hl : s.2 = σ.2) (hf : ∀ c : Nat, (c < 3 ∨ 14 < c) → (c < 72 ∨ 81 < c) → s.1 c = σ.1 c) (hw : WJ (cP s)) (hm : mP s = cP s) : JD s := by
  obtain ⟨-, -, j3, j4, j5⟩ := hD
  refine ⟨hw, hm, fun k hk => ?_, ?_, by rw [hf 0 (by omega) (by omega), hf 67 (by omega) (by omega)]; exact j5⟩
  · unfold SHs
    rw [hf _ (by omega) (by omega), hf 68 (by omega) (by omega), hf 69 (by omega) (by omega), hl]
    exact j3 k hk
  · unfold RNJ
    rw [hf 38 (by omega) (by omega), hf 67 (by omega) (by omega), hf 90 (by omega) (by omega), hf 91 (by omega) (by omega), hf 92 (by omega) (by omega), hf 43 (by omega) (by omega), hf 44 (by omega) (by omega), hf 45 (by omega) (by omega), hf 93 (by omega) (by omega)]
    refine ⟨j4.1, j4.2.1, j4.2.2.1, ?_, fun w hw => ?_⟩
    · unfold GS
      rw [hf 38 (by omega) (by omega), hf 45 (by omega) (by omega)]
      exact j4.2.2.2.1
    · unfold GN
      rw [hf _ (by omega) (by omega), hf 39 (by omega) (by omega)]
      exact j4.2.2.2.2 w hw
theorem JD.sh (hD : JD σ) {s : zS} (hf : ∀ c : Nat, (c < 59 ∨ 69 < c) → s.1 c = σ.1 c) (h67 : s.1 67 = σ.1 67) (hs : SHJ s s) : JD s := by
  obtain ⟨j1, j2, -, j4, j5⟩ := hD
  have ec : cP s = cP σ := cP_c (fun c hc => hf c (by omega))
  have em : mP s = mP σ := mP_c (fun c a e => hf c (by omega))
  refine ⟨by rw [ec]; exact j1, by rw [ec, em]; exact j2, hs, ?_, by rw [hf 0 (by omega), h67]; exact j5⟩
  unfold RNJ
  rw [hf 38 (by omega), h67, hf 90 (by omega), hf 91 (by omega), hf 92 (by omega), hf 43 (by omega), hf 44 (by omega), hf 45 (by omega), hf 93 (by omega)]
  refine ⟨j4.1, j4.2.1, j4.2.2.1, ?_, fun w hw => ?_⟩
  · unfold GS
    rw [hf 38 (by omega), hf 45 (by omega)]
    exact j4.2.2.2.1
  · unfold GN
    rw [hf _ (by omega), hf 39 (by omega)]
    exact j4.2.2.2.2 w hw
theorem JD.fd (hD : JD σ) (f : Int) : JD (zu (zu σ 0 5 f) 67 4 f) := by
  obtain ⟨j1, j2, j3, j4, j5⟩ := hD
  have hf : ∀ c : Nat, c ≠ 0 → c ≠ 67 → (zu (zu σ 0 5 f) 67 4 f).1 c = σ.1 c := fun c q1 q2 => by rw [zu_nc q2, zu_nc q1]
  have h35 : (zu (zu σ 0 5 f) 67 4 f).1 67 35 = σ.1 67 35 := by rw [zu_ne (by omega), zu_nc (by omega)]
  have ec : cP (zu (zu σ 0 5 f) 67 4 f) = cP σ := by
    funext k
    unfold cP
    rcases k with _ | _ | _ | _ | _ | _ | _ | _ | _ | k <;> exact hf _ (by omega) (by omega)
  have em : mP (zu (zu σ 0 5 f) 67 4 f) = mP σ := mP_c (fun c a e => hf c (by omega) (by omega))
  refine ⟨by rw [ec]; exact j1, by rw [ec, em]; exact j2, fun k hk => ?_, ?_, by rw [zu_nc (by omega), zu_eq, zu_eq]⟩
  · unfold SHs
    rw [hf _ (by omega) (by omega), hf 68 (by omega) (by omega), hf 69 (by omega) (by omega)]
    exact j3 k hk
  · unfold RNJ
    rw [hf 38 (by omega) (by omega), h35, hf 90 (by omega) (by omega), hf 91 (by omega) (by omega), hf 92 (by omega) (by omega), hf 43 (by omega) (by omega), hf 44 (by omega) (by omega), hf 45 (by omega) (by omega), hf 93 (by omega) (by omega)]
    refine ⟨j4.1, j4.2.1, j4.2.2.1, ?_, fun w hw => ?_⟩
    · unfold GS
      rw [hf 38 (by omega) (by omega), hf 45 (by omega) (by omega)]
      exact j4.2.2.2.1
    · unfold GN
      rw [hf _ (by omega) (by omega), hf 39 (by omega) (by omega)]
      exact j4.2.2.2.2 w hw
theorem STL.ag2 {s t : zS} (h : STL s) (hf : ∀ c : Nat, 0 < c → c ≤ 25 → t.1 c = s.1 c) : STL t := by
  have e : cP t = cP s := by
    funext k
    unfold cP
    rcases k with _ | _ | _ | _ | _ | _ | _ | _ | _ | k <;> exact hf _ (by omega) (by omega)
  refine ⟨by rw [hf 14 (by omega) (by omega)]; exact h.1, fun q => ?_⟩
  rw [hf 14 (by omega) (by omega)] at q
  rw [e]
  rcases h.2 q with ⟨h1, h2⟩ | ⟨r, l, h1, h2, h3, h4, h5⟩
  · exact Or.inl ⟨h1, by rw [hf 14 (by omega) (by omega)]; exact h2⟩
  · refine Or.inr ⟨r, l, h1, by rw [hf 14 (by omega) (by omega)]; exact h2, ⟨e.trans h3.1, h3.2.1, h3.2.2.1, fun i a c => by rw [hf _ (by omega) (by omega)]; exact h3.2.2.2.1 i a c, fun i a c => by rw [hf _ (by omega) (by omega)]; exact h3.2.2.2.2 i a c⟩, h4.fr (fun c a e => hf c (by omega) (by omega)), h5.fr (fun c a e => hf c (by omega) (by omega))⟩
theorem JJ.fd (hJ : JJ σ) (f : Int) : JJ (zu (zu σ 0 5 f) 67 4 f) := ⟨hJ.1.fd f, hJ.2.ag2 (fun c q1 q2 => by rw [zu_nc (by omega), zu_nc (by omega)])⟩
theorem JJ.em {s : zS} (hJ : JJ σ) (h : EM σ s) : JJ s := ⟨h.1.jd hJ.1, h.stl hJ.2⟩
/-- the model's sheets are where they were -/
theorem SHJ.to {s : zS} (h : SHJ σ σ) (h8 : s.1 68 = σ.1 68) (h9 : s.1 69 = σ.1 69) (hl : s.2 70 = σ.2 70) : SHJ σ s := fun k hk => by
  unfold SHs
  rw [h8, h9, hl]
  exact h k hk
/-! what is told, on both sides -/
theorem JJ.chain (hJ : JJ σ) {k : Nat} (hk : k < 5) {i v : Int} (hv : trt k v) : JJ (zu (zu (zu σ (cC k) i v) 14 17 1) (72 + k) i v) := by
  have hc : cC k ≤ 7 := by rcases (show k = 0 ∨ k = 1 ∨ k = 2 ∨ k = 3 ∨ k = 4 by omega) with rfl | rfl | rfl | rfl | rfl <;> decide
  have hc3 : 3 ≤ cC k := by rcases (show k = 0 ∨ k = 1 ∨ k = 2 ∨ k = 3 ∨ k = 4 by omega) with rfl | rfl | rfl | rfl | rfl <;> decide
  have e : cP (zu (zu (zu σ (cC k) i v) 14 17 1) (72 + k) i v) = cP (zu σ (cC k) i v) := cP_c (fun c q => by rw [zu_nc (by omega), zu_nc (by omega)])
  have em : mP (zu (zu σ (cC k) i v) 14 17 1) = cP σ := (mP_c (fun c a b => by rw [zu_nc (by omega), zu_nc (by omega)])).trans hJ.1.2.1
  refine ⟨hJ.1.pl rfl (fun c q1 q2 => by rw [zu_nc (by omega), zu_nc (by omega), zu_nc (by omega)]) (by rw [e]; exact hJ.1.1.zt hk hv) (by rw [e]; exact mc_pu (by omega) em), STL.on (by rw [zu_nc (by omega), zu_eq])⟩
theorem JJ.tune (hJ : JJ σ) {k : Nat} (hk : k < 4) {x v : Int} (hv : mrk k v) : JJ (zu (zu (zu σ (cC (6 + k)) x v) 14 17 1) (78 + k) x v) := by
  have hc : cC (6 + k) ≤ 12 := by rcases zs4 hk with rfl | rfl | rfl | rfl <;> decide
  have hc3 : 9 ≤ cC (6 + k) := by rcases zs4 hk with rfl | rfl | rfl | rfl <;> decide
  have e : cP (zu (zu (zu σ (cC (6 + k)) x v) 14 17 1) (78 + k) x v) = cP (zu σ (cC (6 + k)) x v) := cP_c (fun c q => by rw [zu_nc (by omega), zu_nc (by omega)])
  have em : mP (zu (zu σ (cC (6 + k)) x v) 14 17 1) = cP σ := (mP_c (fun c a b => by rw [zu_nc (by omega), zu_nc (by omega)])).trans hJ.1.2.1
  refine ⟨hJ.1.pl rfl (fun c q1 q2 => by rw [zu_nc (by omega), zu_nc (by omega), zu_nc (by omega)]) (by rw [e]; exact hJ.1.1.zm hk hv) (by rw [e, show 78 + k = 72 + (6 + k) by omega]; exact mc_pu (by omega) em), STL.on (by rw [zu_nc (by omega), zu_eq])⟩
theorem ap_mc {a b : zS} (h : mP a = cP b) {i w x y z : Int} : mP (apM a i w x y z) = cP (apC b i w x y z) := by
  have e : a.1 77 i = b.1 13 i := congrFun (congrFun h 5) i
  unfold apM apC
  rw [e]
  exact mc_pu (k := 5) (by omega) (mc_pu (k := 9) (by omega) (mc_pu (k := 8) (by omega) (mc_pu (k := 7) (by omega) (mc_pu (k := 6) (by omega) h))))
theorem JJ.step (hJ : JJ σ) {i a b c e : Int} (i0 : 0 ≤ i) (i3 : i ≤ 2) (hm : cP σ 5 i < 3) (ha : mrk 0 a) (hb : mrk 1 b) (hc : mrk 2 c) (he : mrk 3 e) : JJ (apM (apC (zu σ 14 17 1) i a b c e) i a b c e) := by
  have e1 : cP (zu σ 14 17 1) = cP σ := cP_c (fun c q => by rw [zu_nc (by omega)])
  have e2 : cP (apM (apC (zu σ 14 17 1) i a b c e) i a b c e) = cP (apC (zu σ 14 17 1) i a b c e) := cP_c (fun c q => apM_o (by omega))
  have em : mP (apC (zu σ 14 17 1) i a b c e) = cP (zu σ 14 17 1) := by
    rw [e1, ← hJ.1.2.1]
    exact mP_c (fun c q1 q2 => by rw [apC_o (by omega), zu_nc (by omega)])
  refine ⟨hJ.1.pl rfl (fun c q1 q2 => by rw [apM_o (by omega), apC_o (by omega), zu_nc (by omega)]) (by rw [e2]; exact apC_w (by rw [e1]; exact hJ.1.1) i0 (by omega) (by rw [zu_nc (by omega)]; exact hm) ha hb hc he) (by rw [e2]; exact ap_mc em), STL.on (by rw [apM_o (by omega), apC_o (by omega), zu_eq])⟩
theorem JJ.back (hJ : JJ σ) {i : Int} (i0 : 0 ≤ i) (i3 : i ≤ 2) (hm : 0 < cP σ 5 i) : JJ (zu (zu (zu σ 13 i (cP σ 5 i - 1)) 14 17 1) 77 i (cP σ 5 i - 1)) := by
  have hmm := (hJ.1.1.1.1 i i0 (by omega)).2.2.2.2.2
  have e : cP (zu (zu (zu σ 13 i (cP σ 5 i - 1)) 14 17 1) 77 i (cP σ 5 i - 1)) = cP (zu σ 13 i (cP σ 5 i - 1)) := cP_c (fun c q => by rw [zu_nc (by omega), zu_nc (by omega)])
  have em : mP (zu (zu σ 13 i (cP σ 5 i - 1)) 14 17 1) = cP σ := (mP_c (fun c a b => by rw [zu_nc (by omega), zu_nc (by omega)])).trans hJ.1.2.1
  refine ⟨hJ.1.pl rfl (fun c q1 q2 => by rw [zu_nc (by omega), zu_nc (by omega), zu_nc (by omega)]) (by
    rw [e]
    refine hJ.1.1.zn (by omega) (by omega) (fun j j0 j1 _ _ => hJ.1.1.1.2.2 (i * 3 + j) (by omega) (by omega) ?_)
    show (i * 3 + j) % 3 < cP σ 5 ((i * 3 + j) / 3)
    rw [show (i * 3 + j) / 3 = i by omega]
    omega) (by rw [e]; exact mc_pu (k := 5) (by omega) em), STL.on (by rw [zu_nc (by omega), zu_eq])⟩
theorem rd_mc {a : zS} {k : Nat} {i : Int} (h : mP a = cP σ) : ∀ n : Nat, mP (rdM σ a k i n) = cP (rdC σ k i n)
  | 0 => h
  | n + 1 => ap_mc (rd_mc h n)
theorem rdC_o {k : Nat} {i : Int} {c : Nat} (hc : c < 9 ∨ 13 < c) : ∀ n : Nat, (rdC σ k i n).1 c = σ.1 c
  | 0 => rfl
  | n + 1 => (apC_o hc).trans (rdC_o hc n)
theorem rdM_o {g : zS} {k : Nat} {i : Int} {c : Nat} (hc : c < 77 ∨ 81 < c) : ∀ n : Nat, (rdM g σ k i n).1 c = σ.1 c
  | 0 => rfl
  | n + 1 => (apM_o hc).trans (rdM_o hc n)
theorem JJ.read (hJ : JJ σ) {k n : Nat} {i : Int} (i0 : 0 ≤ i) (i3 : i ≤ 2) (hg : ∀ m : Nat, m < n → goA σ (cP σ) k i m) : JJ (rdM σ (if 0 < n then zu (rdC σ k i n) 14 17 1 else σ) k i n) := by
  by_cases q : 0 < n
  · rw [if_pos q]
    have e : cP (rdM σ (zu (rdC σ k i n) 14 17 1) k i n) = cP (rdC σ k i n) := cP_c (fun c h => by rw [rdM_o (by omega), zu_nc (by omega)])
    have em : mP (zu (rdC σ k i n) 14 17 1) = cP σ := (mP_c (fun c a b => by rw [zu_nc (by omega), rdC_o (by omega)])).trans hJ.1.2.1
    refine ⟨hJ.1.pl (by rw [rdM_l]; exact rdC_l n) (fun c q1 q2 => by rw [rdM_o (by omega), zu_nc (by omega), rdC_o (by omega)]) (by rw [e]; exact (rdC_w i0 (by omega) hJ.1.1 n hg).1) (by rw [e]; exact rd_mc em n), STL.on (by rw [rdM_o (by omega), zu_eq])⟩
  · rw [if_neg q, show n = 0 by omega]
    exact hJ
theorem JJ.run (hJ : JJ σ) {h : Int} (h1 : 1 ≤ h) (h3 : h ≤ 300) {s : zS} (hF : FRr (crun (cP σ) h σ) s) (hR : RR (crun (cP σ) h σ) s h) : JJ s := by
  obtain ⟨⟨j1, j2, j3, j4, j5⟩, hS⟩ := hJ
  have hp := j1.1
  have f : ∀ c : Nat, c ≠ 67 → (c < 38 ∨ 57 < c) → (c < 88 ∨ 93 < c) → s.1 c = σ.1 c := fun c q1 q2 q3 => (hF.2.1 c q1 q3).trans (crun_o hp h3 q2)
  have f2 : ∀ c : Nat, 38 ≤ c → c ≤ 57 → s.1 c = (crun (cP σ) h σ).1 c := fun c q1 q2 => hF.2.1 c (by omega) (by omega)
  have f67 : ∀ i : Int, i ≠ 35 → s.1 67 i = σ.1 67 i := fun i q => (hF.2.2 i q).trans (congrFun (crun_o hp h3 (by omega)) i)
  have fl : s.2 = σ.2 := hF.1.trans (crun_l hp h3)
  have ec : cP s = cP σ := cP_c (fun c hc => f c (by omega) (by omega) (by omega))
  have em : mP s = mP σ := mP_c (fun c a e => f c (by omega) (by omega) (by omega))
  obtain ⟨g0, g1, g2, g3⟩ := rnN_g (σ := σ) (p := cP σ) (h := h) (h - 0).toNat (by omega)
  refine ⟨⟨by rw [ec]; exact j1, by rw [ec, em]; exact j2, fun k hk => ?_, ?_, by rw [f 0 (by omega) (by omega) (by omega), f67 4 (by omega)]; exact j5⟩, hS.ag (fun c q => f c (by omega) (by omega) (by omega))⟩
  · unfold SHs
    rw [f _ (by omega) (by omega) (by omega), f 68 (by omega) (by omega) (by omega), f 69 (by omega) (by omega) (by omega), fl]
    exact j3 k hk
  · refine ⟨?_, by rw [hR.1]; omega, fun x a c => ?_, ?_, fun w hw => ⟨?_, fun t a c => ?_⟩⟩
    · rw [hR.1, f2 38 (by omega) (by omega)]; exact g3
    · rw [f2 43 (by omega) (by omega), f2 44 (by omega) (by omega), f2 45 (by omega) (by omega)]; exact hR.2.1 x a c
    · unfold GS
      rw [f2 38 (by omega) (by omega), f2 45 (by omega) (by omega)]
      exact g2
    · unfold GN
      rw [hR.1, f2 _ (by omega) (by omega), f2 39 (by omega) (by omega)]
      rcases (show w = 0 ∨ w = 1 by omega) with rfl | rfl
      · exact g0
      · exact g1
    · rw [hR.1] at c
      rw [f2 (41 + w) (by omega) (by omega)]
      exact hR.2.2 w hw t a c
/-! sheets -/
theorem JJ.sheet (hJ : JJ σ) {k : Nat} (hk : k < 4) {f n : Int} (hf : 0 ≤ f ∧ f ≤ 2) (hn : 0 ≤ n ∧ n ≤ 60) : JJ (bgM (bgC σ k f n) k f n) := by
  have hi : (bgM (bgC σ k f n) k f n).1 = (zu (zu (zu (zu (zu σ (59 + 2 * k) 0 0) (59 + 2 * k) 1 f) (59 + 2 * k) 2 n) 68 k f) 69 k n).1 := rfl
  have hl : ∀ c : Nat, c ≠ 60 + 2 * k → c ≠ 70 → (bgM (bgC σ k f n) k f n).2 c = σ.2 c := fun c q1 q2 => by
    show (if c = 70 then _ else (zfl σ (60 + 2 * k) 60 0).2 c) = _
    rw [if_neg q2, zfl_nc q1]
  have hl1 : ∀ y : Int, 0 ≤ y → y < 60 → (bgM (bgC σ k f n) k f n).2 (60 + 2 * k) y = 0 := fun y q1 q2 => by
    show (if 60 + 2 * k = 70 then _ else (zfl σ (60 + 2 * k) 60 0).2 (60 + 2 * k)) y = _
    rw [if_neg (by omega), zfl_in q1 q2]
  have hl2 : ∀ y : Int, (bgM (bgC σ k f n) k f n).2 70 y = if 60 * (k : Int) ≤ y ∧ y < 60 * (k : Int) + n then 0 else σ.2 70 y := fun y => by
    show (if 60 * (k : Int) ≤ y ∧ y < 60 * (k : Int) + n then 0 else (zfl σ (60 + 2 * k) 60 0).2 70 y) = _
    rw [zfl_nc (by omega)]
  have hcl : ∀ c : Nat, (c < 59 ∨ 69 < c) → (bgM (bgC σ k f n) k f n).1 c = σ.1 c := fun c q => by
    rw [hi, zu_nc (by omega), zu_nc (by omega), zu_nc (by omega), zu_nc (by omega), zu_nc (by omega)]
  have h67 : (bgM (bgC σ k f n) k f n).1 67 = σ.1 67 := by rw [hi, zu_nc (by omega), zu_nc (by omega), zu_nc (by omega), zu_nc (by omega), zu_nc (by omega)]
  refine ⟨hJ.1.sh hcl h67 (fun m hm => ?_), hJ.2.ag (fun c q => hcl c (by omega))⟩
  have hb := hJ.1.2.2.1 m hm
  unfold SHs
  rw [hi]
  by_cases q : m = k
  · subst q
    rw [zu_nc (show 59 + 2 * m ≠ 69 by omega), zu_nc (show 59 + 2 * m ≠ 68 by omega), zu_ne (show (0 : Int) ≠ 2 by omega), zu_ne (show (0 : Int) ≠ 1 by omega), zu_eq, zu_ne (show (1 : Int) ≠ 2 by omega), zu_eq, zu_eq, zu_nc (show 68 ≠ 69 by omega), zu_eq, zu_eq]
    exact ⟨Or.inr ⟨rfl, rfl, hf.1, hf.2⟩, ⟨rfl, hn.1, hn.2⟩, fun i a c => by rw [hl1 i a (by omega), hl2, if_pos (by omega)]; omega⟩
  · rw [zu_nc (show 59 + 2 * m ≠ 69 by omega), zu_nc (show 59 + 2 * m ≠ 68 by omega), zu_nc (show 59 + 2 * m ≠ 59 + 2 * k by omega), zu_nc (show 59 + 2 * m ≠ 59 + 2 * k by omega), zu_nc (show 59 + 2 * m ≠ 59 + 2 * k by omega), zu_nc (show 68 ≠ 69 by omega), zu_ne (show (m : Int) ≠ k by omega), zu_ne (show (m : Int) ≠ k by omega), zu_nc (show 68 ≠ 59 + 2 * k by omega), zu_nc (show 68 ≠ 59 + 2 * k by omega), zu_nc (show 68 ≠ 59 + 2 * k by omega), zu_nc (show 69 ≠ 68 by omega), zu_nc (show 69 ≠ 59 + 2 * k by omega), zu_nc (show 69 ≠ 59 + 2 * k by omega), zu_nc (show 69 ≠ 59 + 2 * k by omega)]
    refine ⟨hb.1, hb.2.1, fun i a c => ?_⟩
    have hz := hb.2.1
    rw [hl _ (by omega) (by omega), hl2, if_neg (by omega)]
    exact hb.2.2 i a c
theorem JJ.lose (hJ : JJ σ) {k : Nat} (hk : k < 4) : JJ (zu (zu σ (59 + 2 * k) 0 1) 68 k (-1)) := by
  refine ⟨hJ.1.sh (fun c q => by rw [zu_nc (by omega), zu_nc (by omega)]) (by rw [zu_nc (by omega), zu_nc (by omega)]) (fun m hm => ?_), hJ.2.ag (fun c q => by rw [zu_nc (by omega), zu_nc (by omega)])⟩
  have hb := hJ.1.2.2.1 m hm
  unfold SHs
  by_cases q : m = k
  · subst q
    rw [zu_nc (show 59 + 2 * m ≠ 68 by omega), zu_eq, zu_eq, zu_ne (show (2 : Int) ≠ 0 by omega), zu_nc (show 69 ≠ 68 by omega), zu_nc (show 69 ≠ 59 + 2 * m by omega)]
    exact ⟨Or.inl ⟨rfl, rfl⟩, hb.2.1, hb.2.2⟩
  · rw [zu_nc (show 59 + 2 * m ≠ 68 by omega), zu_nc (show 59 + 2 * m ≠ 59 + 2 * k by omega), zu_ne (show (m : Int) ≠ k by omega), zu_nc (show 68 ≠ 59 + 2 * k by omega), zu_nc (show 69 ≠ 68 by omega), zu_nc (show 69 ≠ 59 + 2 * k by omega)]
    exact hb
theorem lvA_64 {f v : Int} (hf : 0 ≤ f ∧ f ≤ 2) (hv : zB v) : zB64 (lvA f v) := by
  unfold lvA
  split
  · exact zsh_64 v
  · split <;> omega
theorem JJ.lay (hJ : JJ σ) {k : Nat} (hk : k < 4) {i v : Int} (hi : 0 ≤ i ∧ i < σ.1 (59 + 2 * k) 2) (hv : zB64 v) : JJ (zul (zul σ (60 + 2 * k) i v) 70 (60 * k + i) v) := by
  refine ⟨hJ.1.sh (fun c q => rfl) rfl (fun m hm => ?_), hJ.2.ag (fun c q => rfl)⟩
  have hb := hJ.1.2.2.1 m hm
  have hk2 := (hJ.1.2.2.1 k hk).2.1
  have hz := hb.2.1
  refine ⟨hb.1, hb.2.1, fun y a c => ?_⟩
  have c : y < σ.1 (59 + 2 * m) 2 := c
  by_cases q : m = k
  · subst q
    rw [zul_nc (show 60 + 2 * m ≠ 70 by omega)]
    by_cases e : y = i
    · subst e
      rw [zul_eq, zul_eq]
      exact ⟨rfl, hv⟩
    · rw [zul_ne e, zul_ne (show 60 * (m : Int) + y ≠ 60 * m + i by omega), zul_nc (show 70 ≠ 60 + 2 * m by omega)]
      exact hb.2.2 y a c
  · rw [zul_nc (show 60 + 2 * m ≠ 70 by omega), zul_nc (show 60 + 2 * m ≠ 60 + 2 * k by omega), zul_ne (show 60 * (m : Int) + y ≠ 60 * k + i by omega), zul_nc (show 70 ≠ 60 + 2 * k by omega)]
    exact hb.2.2 y a c
theorem JJ.copy (hJ : JJ σ) {k l : Nat} (hk : k < 4) (hl : l < 4) {i j n : Int} (hr : rgA σ k i n ∧ rgA σ l j n) {s : zS} (hs : cpM (cpC σ k l i j n) s k l i j n) : JJ s := by
  obtain ⟨s1, s2, s3⟩ := hs
  have s1 : s.1 = σ.1 := s1
  obtain ⟨⟨a1, a2, a3, a4⟩, b1, b2, b3, b4⟩ := hr
  refine ⟨hJ.1.sh (fun c q => by rw [s1]) (by rw [s1]) (fun m hm => ?_), hJ.2.ag (fun c q => by rw [s1])⟩
  have hb := hJ.1.2.2.1 m hm
  have hbk := hJ.1.2.2.1 k hk
  have hzl := (hJ.1.2.2.1 l hl).2.1
  have hz := hb.2.1
  unfold SHs
  rw [s1]
  refine ⟨hb.1, hb.2.1, fun y a c => ?_⟩
  have e70 : (cpC σ k l i j n).2 70 = σ.2 70 := by
    show (if 70 = 60 + 2 * l then _ else σ.2 70) = _
    rw [if_neg (by omega)]
  rw [s2 _ (by omega) (by omega), s3 (60 * (m : Int) + y), e70]
  by_cases q : m = l
  · subst q
    have er : (cpC σ k m i j n).2 (60 + 2 * m) y = if j ≤ y ∧ y < j + n then σ.2 (60 + 2 * k) (i + (y - j)) else σ.2 (60 + 2 * m) y := by
      unfold cpC
      dsimp only
      rw [if_pos rfl]
    rw [er]
    by_cases e : j ≤ y ∧ y < j + n
    · rw [if_pos e, if_pos (by omega), show 60 * (k : Int) + i + (60 * (m : Int) + y - (60 * (m : Int) + j)) = 60 * (k : Int) + (i + (y - j)) by omega]
      exact hbk.2.2 (i + (y - j)) (by omega) (by omega)
    · rw [if_neg e, if_neg (by omega)]
      exact hb.2.2 y a c
  · have er : (cpC σ k l i j n).2 (60 + 2 * m) = σ.2 (60 + 2 * m) := by
      unfold cpC
      dsimp only
      rw [if_neg (show ¬(60 + 2 * m = 60 + 2 * l) by omega)]
    rw [er, if_neg (by omega)]
    exact hb.2.2 y a c
theorem wr_it {g u u' : zS} {p : zP} (hp : WP p) {k : Nat} (hk : k < 4) (hz0 : 0 ≤ g.1 (59 + 2 * k) 2) (e1 : u.1 (59 + 2 * k) = g.1 (59 + 2 * k)) (hb : ∀ i : Int, 0 ≤ i → i < g.1 (59 + 2 * k) 2 → u.2 (60 + 2 * k) i = u'.2 70 (60 * k + i) ∧ zB64 (u.2 (60 + 2 * k) i)) :
    ∀ x : Nat, x ≤ 9 → (∀ i : Int, 0 ≤ i → i < g.1 (59 + 2 * k) 2 → (wrC u p k x).2 (60 + 2 * k) i = (wrM g u' p k x).2 70 (60 * k + i) ∧ zB64 ((wrC u p k x).2 (60 + 2 * k) i)) ∧ (∀ c : Nat, c ≠ 60 + 2 * k → (wrC u p k x).2 c = u.2 c) ∧ (∀ c : Nat, c ≠ 70 → (wrM g u' p k x).2 c = u'.2 c) ∧ ∀ y : Int, (y < 60 * (k : Int) ∨ 60 * (k : Int) + g.1 (59 + 2 * k) 2 ≤ y) → (wrM g u' p k x).2 70 y = u'.2 70 y
  | 0, _ => ⟨hb, fun _ _ => rfl, fun _ _ => rfl, fun _ _ => rfl⟩
  | x + 1, hx => by
    obtain ⟨h1, h2, h3, h4⟩ := wr_it hp hk hz0 e1 hb x (by omega)
    have hw := wn_b (p := p) hz0 x
    rw [wrC_n, wrM_n, e1]
    by_cases q : th p (x : Int) ∧ wn p (g.1 (59 + 2 * k) 2) x < g.1 (59 + 2 * k) 2
    · rw [if_pos q, if_pos q]
      have hbb := bndA_b hp (x := (x : Int)) (by omega) (by omega) q.1
      have hv : zB64 (wrv p (g.1 (59 + 2 * k) 1) x) := by
        unfold wrv
        split
        · exact zsh_64 _
        · omega
      refine ⟨fun i a c => ?_, fun c hc => by rw [zul_nc hc]; exact h2 c hc, fun c hc => by rw [zul_nc hc]; exact h3 c hc, fun y hy => by rw [zul_ne (by omega)]; exact h4 y hy⟩
      by_cases e : i = wn p (g.1 (59 + 2 * k) 2) x
      · rw [e, zul_eq, zul_eq]
        exact ⟨rfl, hv⟩
      · rw [zul_ne e, zul_ne (by omega)]
        exact h1 i a c
    · rw [if_neg q, if_neg q]
      exact ⟨h1, h2, h3, h4⟩
theorem JJ.write (hJ : JJ σ) {k : Nat} (hk : k < 4) {u v : zS} (hE : EQ σ u) (hS : STL u) (hM : EM (wrC u (cP σ) k 9) v) : JJ (wrM σ v (cP σ) k 9) := by
  have hp := hJ.1.1.1
  have e59 : ∀ m : Nat, m < 4 → u.1 (59 + 2 * m) = σ.1 (59 + 2 * m) := fun m hm => hE.2.1 _ (by omega) (by omega) (by omega)
  have hbk := hJ.1.2.2.1 k hk
  have e70 : ∀ c : Nat, c ≠ 67 → v.2 c = (wrC u (cP σ) k 9).2 c := fun c hc => hM.1.l hc
  have base : ∀ x : Nat, x ≤ 9 → (wrC u (cP σ) k x).2 70 = u.2 70 := fun x hx => by
    have : ∀ x : Nat, (wrC u (cP σ) k x).2 70 = u.2 70 := fun x => by
      induction x with
      | zero => rfl
      | succ x ih =>
        rw [wrC_n]
        split
        · rw [zul_nc (by omega)]; exact ih
        · exact ih
    exact this x
  have hw := wr_it (g := σ) (u := u) (u' := v) hp hk hbk.2.1.2.1 (e59 k hk) (fun i a c => by rw [hE.l (by omega), e70 70 (by omega), base 9 (by omega), hE.l (by omega)]; exact hbk.2.2 i a c) 9 (by omega)
  have hDu := hE.jd hJ.1
  have i1 : (wrM σ v (cP σ) k 9).1 = v.1 := wrM_i 9
  have iC : (wrC u (cP σ) k 9).1 = u.1 := wrC_i 9
  have f : ∀ c : Nat, c ≠ 67 → (c < 82 ∨ 87 < c) → (wrM σ v (cP σ) k 9).1 c = u.1 c := fun c q1 q2 => by
    rw [i1, ← iC]
    by_cases q : c < 67
    · exact hM.2 c q
    · exact hM.1.2.1 c q1 (by omega) q2
  have f67 : ∀ i : Int, (i < 19 ∨ (22 < i ∧ i < 27) ∨ 28 < i) → (wrM σ v (cP σ) k 9).1 67 i = u.1 67 i := fun i q => by
    rw [i1, ← iC]
    exact hM.1.2.2 i q
  obtain ⟨j1, j2, j3, j4, j5⟩ := hDu
  have ec : cP (wrM σ v (cP σ) k 9) = cP u := cP_c (fun c hc => f c (by omega) (by omega))
  have em : mP (wrM σ v (cP σ) k 9) = mP u := mP_c (fun c a e => f c (by omega) (by omega))
  refine ⟨⟨by rw [ec]; exact j1, by rw [ec, em]; exact j2, fun m hm => ?_, ?_, by rw [f 0 (by omega) (by omega), f67 4 (by omega)]; exact j5⟩, hS.ag (fun c q => f c (by omega) (by omega))⟩
  · have hb := hJ.1.2.2.1 m hm
    have hjm := j3 m hm
    have e69 := f (59 + 2 * m) (by omega) (by omega)
    unfold SHs
    rw [e69, f 68 (by omega) (by omega), f 69 (by omega) (by omega)]
    refine ⟨hjm.1, hjm.2.1, fun y a c => ?_⟩
    have c' : y < σ.1 (59 + 2 * m) 2 := by rw [e59 m hm] at c; exact c
    by_cases q : m = k
    · subst q
      rw [hw.2.2.1 _ (by omega), e70 _ (by omega)]
      exact hw.1 y a c'
    · have hzm := hb.2.1
      have hzk := hbk.2.1
      rw [hw.2.2.1 _ (by omega), e70 _ (by omega), hw.2.1 _ (by omega), hE.l (by omega), hw.2.2.2 _ (by omega), e70 70 (by omega), base 9 (by omega), hE.l (by omega)]
      exact hb.2.2 y a c'
  · unfold RNJ
    rw [f 38 (by omega) (by omega), f67 35 (by omega), f 90 (by omega) (by omega), f 91 (by omega) (by omega), f 92 (by omega) (by omega), f 43 (by omega) (by omega), f 44 (by omega) (by omega), f 45 (by omega) (by omega), f 93 (by omega) (by omega)]
    refine ⟨j4.1, j4.2.1, j4.2.2.1, ?_, fun w hw => ?_⟩
    · unfold GS
      rw [f 38 (by omega) (by omega), f 45 (by omega) (by omega)]
      exact j4.2.2.2.1
    · unfold GN
      rw [f _ (by omega) (by omega), f 39 (by omega) (by omega)]
      exact j4.2.2.2.2 w hw
end ZO1
