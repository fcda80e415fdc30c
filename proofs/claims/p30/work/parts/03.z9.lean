section YX
variable {hd d : Nat} {μ ν : zU} {pc : Nat} {L : List (Option Value)} {st : List Value} {σ σ' : zS} {P P' : Option Value → zS → Prop} {idx n b ci : Nat} {fs : zS → List Value} {As rest : List Value} {v : Int}
theorem Y.cVI (hdg : decode μ.2.1 pc = .ok (.invokevirtual idx, 3)) (hm : zMk ν n) (hs : zSV μ.1.cls idx ν) (ho : zOB b ci fs) (hci : ∃ q : vw_C, vwCl[ci]? = some q ∧ q.1 = ν.1.cls) (hc : YI hd ν (.ref b :: As) σ v σ') (hd1 : hd + 1 ≤ d) (hAn : As.length = n) (hst : st = As.reverse ++ .ref b :: rest) (hcat : (rest.map fun v => v.category).sum ≤ 8) (k : Y d μ (pc + 3) L (.int (zi v) :: rest) σ' P) : Y d μ pc L st σ P :=
  Y.callV hdg hm hs ho hci hc hd1 hAn hst hcat (fun r s h => by rw [h.1, h.2]; exact k)
theorem Y.cVV (hdg : decode μ.2.1 pc = .ok (.invokevirtual idx, 3)) (hm : zMk ν n) (hs : zSV μ.1.cls idx ν) (ho : zOB b ci fs) (hci : ∃ q : vw_C, vwCl[ci]? = some q ∧ q.1 = ν.1.cls) (hc : YV hd ν (.ref b :: As) σ σ') (hd1 : hd + 1 ≤ d) (hAn : As.length = n) (hst : st = As.reverse ++ .ref b :: rest) (hcat : (rest.map fun v => v.category).sum ≤ 8) (k : Y d μ (pc + 3) L rest σ' P) : Y d μ pc L st σ P :=
  Y.callV hdg hm hs ho hci hc hd1 hAn hst hcat (fun r s h => by rw [h.1, h.2]; exact k)
theorem Y.cVJ (hdg : decode μ.2.1 pc = .ok (.invokevirtual idx, 3)) (hm : zMk ν n) (hs : zSV μ.1.cls idx ν) (ho : zOB b ci fs) (hci : ∃ q : vw_C, vwCl[ci]? = some q ∧ q.1 = ν.1.cls) (hc : YJ hd ν (.ref b :: As) σ v σ') (hd1 : hd + 1 ≤ d) (hAn : As.length = n) (hst : st = As.reverse ++ .ref b :: rest) (hcat : (rest.map fun v => v.category).sum ≤ 8) (k : Y d μ (pc + 3) L (.long (zl v) :: rest) σ' P) : Y d μ pc L st σ P :=
  Y.callV hdg hm hs ho hci hc hd1 hAn hst hcat (fun r s h => by rw [h.1, h.2]; exact k)
theorem Y.cSI (hdg : decode μ.2.1 pc = .ok (.invokestatic idx, 3)) (hm : zMk ν n) (hs : zSS μ.1.cls idx ν) (hc : YI hd ν As σ v σ') (hd1 : hd + 1 ≤ d) (hAn : As.length = n) (hst : st = As.reverse ++ rest) (hcat : (rest.map fun v => v.category).sum ≤ 8) (k : Y d μ (pc + 3) L (.int (zi v) :: rest) σ' P) : Y d μ pc L st σ P :=
  Y.callS hdg hm hs hc hd1 hAn hst hcat (fun r s h => by rw [h.1, h.2]; exact k)
theorem Y.cSV (hdg : decode μ.2.1 pc = .ok (.invokestatic idx, 3)) (hm : zMk ν n) (hs : zSS μ.1.cls idx ν) (hc : YV hd ν As σ σ') (hd1 : hd + 1 ≤ d) (hAn : As.length = n) (hst : st = As.reverse ++ rest) (hcat : (rest.map fun v => v.category).sum ≤ 8) (k : Y d μ (pc + 3) L rest σ' P) : Y d μ pc L st σ P :=
  Y.callS hdg hm hs hc hd1 hAn hst hcat (fun r s h => by rw [h.1, h.2]; exact k)
theorem Y.cSJ (hdg : decode μ.2.1 pc = .ok (.invokestatic idx, 3)) (hm : zMk ν n) (hs : zSS μ.1.cls idx ν) (hc : YJ hd ν As σ v σ') (hd1 : hd + 1 ≤ d) (hAn : As.length = n) (hst : st = As.reverse ++ rest) (hcat : (rest.map fun v => v.category).sum ≤ 8) (k : Y d μ (pc + 3) L (.long (zl v) :: rest) σ' P) : Y d μ pc L st σ P :=
  Y.callS hdg hm hs hc hd1 hAn hst hcat (fun r s h => by rw [h.1, h.2]; exact k)
/-- a truth value as an int -/
noncomputable def zb (p : Prop) : Int := @ite Int p (Classical.propDecidable p) 1 0
theorem zb_t {p : Prop} (h : p) : zb p = 1 := if_pos h
theorem zb_f {p : Prop} (h : ¬ p) : zb p = 0 := if_neg h
theorem zb_0 {p : Prop} : zb p = 0 ↔ ¬ p := by
  by_cases h : p
  · rw [zb_t h]; exact ⟨fun q => by omega, fun q => absurd h q⟩
  · rw [zb_f h]; exact ⟨fun _ => h, fun _ => rfl⟩
theorem zb_1 {p : Prop} : zb p = 1 ↔ p := by
  by_cases h : p
  · rw [zb_t h]; exact ⟨fun _ => h, fun _ => rfl⟩
  · rw [zb_f h]; exact ⟨fun q => by omega, fun q => absurd q h⟩
theorem zb_01 {p : Prop} : zb p = 0 ∨ zb p = 1 := by
  by_cases h : p
  · exact Or.inr (zb_t h)
  · exact Or.inl (zb_f h)
theorem zb_B {p : Prop} : zB (zb p) := by rcases zb_01 (p := p) with h | h <;> rw [h] <;> exact ⟨by decide, by decide⟩
theorem zb_c {p q : Prop} (h : p ↔ q) : zb p = zb q := by
  by_cases hp : p
  · rw [zb_t hp, zb_t (h.mp hp)]
  · rw [zb_f hp, zb_f (fun x => hp (h.mpr x))]
theorem Y.ifz_eq {p : Prop} {off : Int} (tgt : Nat) (hdg : decode μ.2.1 pc = .ok (.ifCond .eq off, 3)) (ht : (pc : Int) + off = (tgt : Int)) (k1 : ¬ p → Y d μ tgt L st σ P) (k2 : p → Y d μ (pc + 3) L st σ P) : Y d μ pc L (.int (zi (zb p)) :: st) σ P :=
  Y.if_eq tgt hdg ht zb_B (fun h => k1 (zb_0.mp h)) (fun h => k2 (Classical.byContradiction fun q => h (zb_0.mpr q)))
theorem Y.ifz_ne {p : Prop} {off : Int} (tgt : Nat) (hdg : decode μ.2.1 pc = .ok (.ifCond .ne off, 3)) (ht : (pc : Int) + off = (tgt : Int)) (k1 : p → Y d μ tgt L st σ P) (k2 : ¬ p → Y d μ (pc + 3) L st σ P) : Y d μ pc L (.int (zi (zb p)) :: st) σ P :=
  Y.if_ne tgt hdg ht zb_B (fun h => k1 (Classical.byContradiction fun q => h (zb_0.mpr q))) (fun h => k2 (zb_0.mp h))
theorem Y.idivp {a b : Int} (hdg : decode μ.2.1 pc = .ok (.idiv, 1)) (ha : zB a) (hb : zB b) (h0 : 0 ≤ a) (h1 : 0 < b) (k : Y d μ (pc + 1) L (.int (zi (a / b)) :: st) σ P) : Y d μ pc L (.int (zi b) :: .int (zi a) :: st) σ P :=
  Y.idiv hdg ha hb (by omega) (by rw [Int.tdiv_eq_ediv_of_nonneg h0]; exact k)
theorem Y.iremp {a b : Int} (hdg : decode μ.2.1 pc = .ok (.irem, 1)) (ha : zB a) (hb : zB b) (h0 : 0 ≤ a) (h1 : 0 < b) (k : Y d μ (pc + 1) L (.int (zi (a % b)) :: st) σ P) : Y d μ pc L (.int (zi b) :: .int (zi a) :: st) σ P :=
  Y.irem hdg ha hb (by omega) (by rw [Int.tmod_eq_emod_of_nonneg h0]; exact k)
theorem Y.ldivp {a b : Int} (hdg : decode μ.2.1 pc = .ok (.ldiv, 1)) (ha : zB64 a) (hb : zB64 b) (h0 : 0 ≤ a) (h1 : 0 < b) (k : Y d μ (pc + 1) L (.long (zl (a / b)) :: st) σ P) : Y d μ pc L (.long (zl b) :: .long (zl a) :: st) σ P :=
  Y.ldiv hdg ha hb (by omega) (by rw [Int.tdiv_eq_ediv_of_nonneg h0]; exact k)
theorem Y.lremp {a b : Int} (hdg : decode μ.2.1 pc = .ok (.lrem, 1)) (ha : zB64 a) (hb : zB64 b) (h0 : 0 ≤ a) (h1 : 0 < b) (k : Y d μ (pc + 1) L (.long (zl (a % b)) :: st) σ P) : Y d μ pc L (.long (zl b) :: .long (zl a) :: st) σ P :=
  Y.lrem hdg ha hb (by omega) (by rw [Int.tmod_eq_emod_of_nonneg h0]; exact k)
theorem zrI {v v' : Int} (h : v = v') : some (Value.int (zi v)) = some (.int (zi v')) := by rw [h]
theorem zrL {v v' : Int} (h : v = v') : some (Value.long (zl v)) = some (.long (zl v')) := by rw [h]
theorem hqT {w : Nat} (h : w < 5) : [some 3, some 4, some 5, some 6, some 7][((w : Nat) : Int).toNat]? = some (some (3 + w)) := by
  rcases (show w = 0 ∨ w = 1 ∨ w = 2 ∨ w = 3 ∨ w = 4 by omega) with rfl | rfl | rfl | rfl | rfl <;> rfl
theorem hqM {w : Nat} (h : w < 4) : [some 9, some 10, some 11, some 12][((w : Nat) : Int).toNat]? = some (some (9 + w)) := by
  rcases zs4 h with rfl | rfl | rfl | rfl <;> rfl
theorem hqD {w : Nat} (h : w < 2) : [some 41, some 42][((w : Nat) : Int).toNat]? = some (some (41 + w)) := by
  rcases (show w = 0 ∨ w = 1 by omega) with rfl | rfl <;> rfl
theorem hqE {w : Nat} (h : w < 9) : [some 48, some 49, some 50, some 51, some 52, some 53, some 54, some 55, some 56][((w : Nat) : Int).toNat]? = some (some (48 + w)) := by
  rcases (show w = 0 ∨ w = 1 ∨ w = 2 ∨ w = 3 ∨ w = 4 ∨ w = 5 ∨ w = 6 ∨ w = 7 ∨ w = 8 by omega) with rfl | rfl | rfl | rfl | rfl | rfl | rfl | rfl | rfl <;> rfl
theorem hqS {w : Nat} (h : w < 4) : [some 59, some 61, some 63, some 65][((w : Nat) : Int).toNat]? = some (some (59 + 2 * w)) := by
  rcases zs4 h with rfl | rfl | rfl | rfl <;> rfl
theorem zt_1 (x y : Int) : zB x → zB y → -100 ≤ x → x ≤ 100 → zB (x + 3) := by
  intro h1 h2 h3 h4
  omega
end YX
