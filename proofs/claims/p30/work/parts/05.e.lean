section ZG3
variable {σ : zS}
theorem zMet_F {l : Launch} {y : MethodName} {ws ws' : List Cond} {rm : Room} {Pc : Array Value → State → Prop} {Qc : Array Value → State → Outcome → State → Prop} {mc ms : Nat} {free : Addr → Prop} {cc : ByteArray} {maxL : Nat} {ret : Option FieldType}
    (hy : plainFor y = true) (hw : ws = Cond.code y cc maxL ret :: ws')
    (body : ∀ p e s m args below meth c s₁, BodyLoose p l y (headSpec ws rm) cc maxL ret e s m args below meth c s₁ → c.maxLocals = maxL → Pc args s →
      W p l e (headSpec ws rm).room s m args below meth c s.heap [] 0 0 (MQ below Qc args s mc ms free) (entryFrame m args maxL)) : Met l y ws rm Pc Qc mc ms free := by
  refine MetFree.of_bodySF (code := cc) (maxLocals := maxL) (ret := ret) hy (fun args s m h hn => ?_) (fun p e s m args below meth c s₁ B hml hP _ => ?_)
  · obtain ⟨meth, c, h1, h2, h3, h4, h5, h6, -, -⟩ := Cond.code_spec hn (atoms_spec (ws := ws) h _ (by rw [hw]; exact List.mem_cons_self))
    exact ⟨meth, c, h1, h2, h3, h4, h5, h6⟩
  · obtain ⟨t, a1, o, b1, b2, b3⟩ := body p e s m args below meth c s₁ B hml hP s₁ (by rw [B.state]; rfl) (Stand.of_body B)
    exact ⟨t, o, a1, b1, b2, ⟨b3.1, b3.2⟩⟩
theorem zC_F {mc ms hd : Nat} {μ : zU} {avs : List Value} {h0 : zH} {Post : Option Value → zH → Prop} (hpl : plainFor μ.1 = true) (hsl : (lg_sl avs).length ≤ μ.2.2.1)
    (k : ∀ d : Nat, hd ≤ d → Z mc ms d μ 0 (zEnt avs μ.2.2.1) [] h0 0 0 Post) : zC mc ms hd μ avs h0 Post := by
  intro d hd' l D cI ρ0 sz
  refine zMet_F (cc := μ.2.1) (maxL := μ.2.2.1) (ret := μ.2.2.2) hpl rfl ?_
  intro p e s m args below meth c s₁ B hml hv
  obtain ⟨rfl, hsz, hP, hK, hD0, hN, hT⟩ := hv
  have hts0 := atoms_spec (ws := .code μ.1 μ.2.1 μ.2.2.1 μ.2.2.2 :: zWd) B.pre
  have hown : s.vm.findClass μ.1.cls = some m.cls := findClass_of_methodNamed B.named
  have hin : meth.name = μ.1.name := (name_of_methodNamed B.named B.method).1
  subst hsz
  have hD := hD0.self (sz := s.heap.size)
  have hl := lv_entry (avs.map (zV ρ0)) (n := μ.2.2.1) (by rw [zSl]; exact hsl)
  rw [lg_entry_eq]
  exact k d hd' p l e s m _ below meth c D cI _ ρ0 h0.length ⟨B.exec, B.bytes, hml, B.returns, B.notSynchronized, hin, hown, fun w hw => hts0 w (List.mem_cons_of_mem _ hw), hN, hK, fun q hq => Or.inr hq⟩ (Nat.le_refl _) ρ0 s.heap [] _ zRel.rf ⟨hP, hD, va_S.rf, zL_ent hl, hT⟩
theorem YC.ofJ {hd : Nat} {μ : zU} {avs : List Value} {Q : Option Value → zS → Prop} (hpl : plainFor μ.1 = true) (hsl : (lg_sl avs).length ≤ μ.2.2.1) (k : ∀ (d : Nat) (P : Option Value → zS → Prop), hd ≤ d → (∀ r s, Q r s → P r s) → Y d μ 0 (zEnt avs μ.2.2.1) [] σ P) : YC hd μ avs σ Q := zC_F hpl hsl (fun d h => k d Q h (fun _ _ h => h))
theorem x_s (x y : Int32) (hy : 0 ≤ y.toInt) : (x ^^^ y).toInt < 0 ↔ x.toInt < 0 := by
  have e : ∀ z : Int32, z.toBitVec.msb = decide (z.toInt < 0) := fun z => BitVec.msb_eq_toInt
  have h1 := e (x ^^^ y)
  have h2 : decide (y.toInt < 0) = false := decide_eq_false (by omega)
  rw [Int32.toBitVec_xor, BitVec.msb_xor, e x, e y, h2, Bool.xor_false] at h1
  rw [decide_eq_decide] at h1
  exact h1.symm
theorem Y.ixors {d : Nat} {μ : zU} {pc : Nat} {L : List (Option Value)} {st : List Value} {P : Option Value → zS → Prop} {a b : Int} (hdg : decode μ.2.1 pc = .ok (.ixor, 1)) (ha : zB a) (hb : zB b) (h0 : 0 ≤ b) (k : ∀ c : Int, zB c → (c < 0 ↔ a < 0) → Y d μ (pc + 1) L (.int (zi c) :: st) σ P) : Y d μ pc L (.int (zi b) :: .int (zi a) :: st) σ P :=
  Z.ixor hdg (by
    obtain ⟨c, hc, e⟩ := zi_of (zi a ^^^ zi b)
    have h := x_s (zi a) (zi b) (by rw [zi_toInt hb]; exact h0)
    rw [e, zi_toInt hc, zi_toInt ha] at h
    rw [e]
    exact k c hc h)
set_option maxHeartbeats 1000000 in
theorem c_J9_floorMod {a b : Int} (ha : zB a) (hb : zB b) (h0 : 0 < b) : YI 0 μJ9_floorMod_7cf53 [.int (zi a), .int (zi b)] σ (a % b) σ := by
  refine YC.ofJ (by decide +kernel) (Nat.le_of_ble_eq_true rfl) (fun d P hd hP => ?_)
  have he : a.tmod b = if 0 ≤ a ∨ b ∣ a then a % b else a % b - b := by rw [Int.tmod_eq_emod]; split <;> omega
  have m0 := Int.emod_nonneg a (show b ≠ 0 by omega)
  have m1 := Int.emod_lt_of_pos a h0
  have hd0 : b ∣ a ↔ a % b = 0 := Int.dvd_iff_emod_eq_zero
  have hr : (0 ≤ a ∧ a.tmod b = a % b) ∨ (a < 0 ∧ a % b = 0 ∧ a.tmod b = 0) ∨ (a < 0 ∧ 0 < a % b ∧ a.tmod b = a % b - b) := by
    by_cases q : 0 ≤ a
    · exact Or.inl ⟨q, by rw [he, if_pos (Or.inl q)]⟩
    · by_cases q2 : a % b = 0
      · exact Or.inr (Or.inl ⟨by omega, q2, by rw [he, if_pos (Or.inr (hd0.mpr q2))]; exact q2⟩)
      · exact Or.inr (Or.inr ⟨by omega, by omega, by rw [he, if_neg (fun w => w.elim q (fun w => q2 (hd0.mp w)))]⟩)
  refine Y.iload_n dJ9_floorMod_7cf53_0 rfl ?_
  refine Y.iload_n dJ9_floorMod_7cf53_1 rfl ?_
  refine Y.irem dJ9_floorMod_7cf53_2 (by omega) (by omega) (by omega) ?_
  refine Y.istore_n dJ9_floorMod_7cf53_3 (by decide) rfl ?_
  refine Y.iload_n dJ9_floorMod_7cf53_4 rfl ?_
  refine Y.iload_n dJ9_floorMod_7cf53_5 rfl ?_
  refine Y.ixors dJ9_floorMod_7cf53_6 (by omega) (by omega) (by omega) (fun c hc hc2 => ?_)
  refine Y.if_ge 18 dJ9_floorMod_7cf53_7 (by decide) (by omega) (fun h_7 => ?_) (fun h_7 => ?_)
  · refine Y.iload_n dJ9_floorMod_7cf53_18 rfl ?_
    exact Y.iret dJ9_floorMod_7cf53_19 rfl (hP _ _ ⟨zrI (by omega), rfl⟩)
  · refine Y.iload_n dJ9_floorMod_7cf53_10 rfl ?_
    refine Y.if_eq 18 dJ9_floorMod_7cf53_11 (by decide) (by omega) (fun h_11 => ?_) (fun h_11 => ?_)
    · refine Y.iload_n dJ9_floorMod_7cf53_18 rfl ?_
      exact Y.iret dJ9_floorMod_7cf53_19 rfl (hP _ _ ⟨zrI (by omega), rfl⟩)
    · refine Y.iload_n dJ9_floorMod_7cf53_14 rfl ?_
      refine Y.iload_n dJ9_floorMod_7cf53_15 rfl ?_
      refine Y.iadd dJ9_floorMod_7cf53_16 ?_
      exact Y.iret dJ9_floorMod_7cf53_17 rfl (hP _ _ ⟨zrI (by omega), rfl⟩)
theorem k_X2_isStep {p : zP} (ec : cP σ = p) (hp : WP p) {x : Int} (h0 : 0 ≤ x) (h9 : x < 9) : YI 0 μX2_isStep [.ref 1, .int (zi x)] σ (zb (th p x)) σ := by
  subst ec; exact c_X2_isStep hp h0 h9
theorem k_X2_isRival {p : zP} (ec : cP σ = p) (hp : WP p) {x y : Int} (h0 : 0 ≤ x) (h9 : x < 9) (g0 : 0 ≤ y) (g9 : y < 9) : YI 1 μX2_isRival [.ref 1, .int (zi x), .int (zi y)] σ (zb (riv p x y)) σ := by
  subst ec; exact c_X2_isRival hp h0 h9 g0 g9
theorem k_X2_earliestOf {p : zP} (ec : cP σ = p) (hp : WP p) {x : Int} (h0 : 0 ≤ x) (h9 : x < 9) : YI 0 μX2_earliestOf [.ref 1, .int (zi x)] σ (ear p x) σ := by
  subst ec; exact c_X2_earliestOf hp h0 h9
theorem k_X2_isOverloaded {p : zP} (ec : cP σ = p) (hp : WP p) {x : Int} (h0 : 0 ≤ x) (h9 : x < 9) : YI 4 μX2_isOverloaded [.ref 1, .int (zi x)] σ (zb (ovl p x)) σ := by
  subst ec; exact c_X2_isOverloaded hp h0 h9
theorem k_X2_lastOf {p : zP} (ec : cP σ = p) (hp : WP p) {i : Int} (h0 : 0 ≤ i) (h3 : i < 3) : YI 0 μX2_lastOf [.ref 1, .int (zi i)] σ (i * 3 + p 5 i - 1) σ := by
  subst ec; exact c_X2_lastOf hp h0 h3
theorem k_X2_periodOf {p : zP} (ec : cP σ = p) (hp : WP p) {i : Int} (h0 : 0 ≤ i) (h3 : i < 3) : YI 1 μX2_periodOf [.ref 1, .int (zi i)] σ (p 0 i) σ := by
  subst ec; exact c_X2_periodOf hp h0 h3
theorem k_X2_dueBits {p : zP} (ec : cP σ = p) (hp : WP p) : YI 0 μX2_dueBits [.ref 1] σ (bts (due p)) σ := by
  subst ec; exact c_X2_dueBits hp
def zFg (b : Nat) (σ t : zS) : Prop := t.2 = σ.2 ∧ ∀ c : Nat, c ≠ b + 9 → c ≠ b + 10 → c ≠ b + 11 → t.1 c = σ.1 c
def Gd (b : Nat) (t : zS) (p : zP) (x i : Int) : Prop := ∀ i2 : Int, 0 ≤ i2 → i2 < i → t.1 (b + 10) i2 = rn p x i2 ∧ t.1 (b + 11) i2 = -1 ∧ ∀ n : Int, 0 ≤ n → n < rn p x i2 → t.1 (b + 9) (i2 * 3 + n) = rl p x i2 n
def Gj (b : Nat) (t : zS) (p : zP) (x i j : Int) : Prop := t.1 (b + 10) i = cn p x i j ∧ t.1 (b + 11) i = -1 ∧ ∀ n : Int, 0 ≤ n → n < cn p x i j → t.1 (b + 9) (i * 3 + n) = rl p x i n
theorem cn_b {p : zP} {x i j : Int} (h0 : 0 ≤ j) (h3 : j ≤ 3) : 0 ≤ cn p x i j ∧ cn p x i j ≤ j := by
  rcases (show j = 0 ∨ j = 1 ∨ j = 2 ∨ j = 3 by omega) with rfl | rfl | rfl | rfl
  · rw [cn_0]; omega
  · rw [cn_1]; rcases zb_2 (riv p x (i * 3 + 0)) with e | e <;> omega
  · rw [cn_2]; rcases zb_2 (riv p x (i * 3 + 0)) with e | e <;> rcases zb_2 (riv p x (i * 3 + 1)) with e2 | e2 <;> omega
  · rw [cn_3]; exact rn_b p x i
theorem Gj.put {b : Nat} {t : zS} {p : zP} {x i j : Int} (i0 : 0 ≤ i) (j0 : 0 ≤ j) (j3 : j < 3) (hr : riv p x (i * 3 + j)) (hd : Gd b t p x i) (h : Gj b t p x i j) : Gd b (zu (zu t (b + 9) (i * 3 + t.1 (b + 10) i) j) (b + 10) i (t.1 (b + 10) i + 1)) p x i ∧ Gj b (zu (zu t (b + 9) (i * 3 + t.1 (b + 10) i) j) (b + 10) i (t.1 (b + 10) i + 1)) p x i (j + 1) := by
  have hb := cn_b (p := p) (x := x) (i := i) j0 (by omega)
  have ha := rl_at j0 j3 hr
  have hs : cn p x i (j + 1) = cn p x i j + 1 := by rw [cn_s j0, zb_t hr]
  obtain ⟨h1, h2, h3⟩ := h
  rw [h1]
  constructor
  · intro i2 a c
    obtain ⟨e1, e2, e3⟩ := hd i2 a c
    refine ⟨by rw [zu_ne (by omega), zu_nc (by omega)]; exact e1, by rw [zu_nc (by omega), zu_nc (by omega)]; exact e2, fun n n0 n1 => ?_⟩
    have := rn_b p x i2
    rw [zu_nc (by omega), zu_ne (by omega)]
    exact e3 n n0 n1
  · refine ⟨by rw [zu_eq, hs], by rw [zu_nc (by omega), zu_nc (by omega)]; exact h2, fun n n0 n1 => ?_⟩
    rw [zu_nc (by omega)]
    by_cases q : n = cn p x i j
    · subst q
      rw [zu_eq]
      exact ha.1.symm
    · rw [zu_ne (by omega)]
      exact h3 n n0 (by omega)
theorem zFg.up {b : Nat} {σ t : zS} {c : Nat} {i v : Int} (h : zFg b σ t) (hc : c = b + 9 ∨ c = b + 10 ∨ c = b + 11) : zFg b σ (zu t c i v) :=
  ⟨h.1, fun e h1 h2 h3 => by rw [zu_nc (by omega)]; exact h.2 e h1 h2 h3⟩
theorem zFg.cp {b : Nat} {σ t : zS} (hb : zAb b) (h : zFg b σ t) : cP t = cP σ := by
  have hb' : b = 14 ∨ b = 26 := hb
  funext k
  unfold cP
  rcases k with _ | _ | _ | _ | _ | _ | _ | _ | _ | k <;> exact h.2 _ (by omega) (by omega) (by omega)
set_option maxHeartbeats 4000000 in
theorem c_X0_gatherRivals {b : Nat} (hb : zAb b) {p : zP} (ec : cP σ = p) (hp : WP p) {x : Int} (h0 : 0 ≤ x) (h9 : x < 9) : YC 2 μX0_gatherRivals [.ref b, .int (zi x)] σ (fun r s => r = none ∧ zFg b σ s ∧ GP b s p x ∧ ∀ i : Int, 0 ≤ i → i < 3 → s.1 (b + 11) i = -1) := by
  refine YC.of2 (by decide) (Nat.le_of_ble_eq_true rfl) (fun d P hd hP => ?_)
  refine Y.iconst dX0_gatherRivals_0 ?_
  refine Y.istore_n dX0_gatherRivals_1 (by decide) rfl ?_
  refine zw2 (fun t i => (0 ≤ i ∧ i ≤ 3 ∧ zFg b σ t ∧ Gd b t p x i)) (fun t i => Y d μX0_gatherRivals 2 [some (.ref b), some (.int (zi x)), some (.int (zi i)), none] [] t P) (fun t i => (3 - i).toNat) ?_ _ _ ⟨by omega, by omega, ⟨rfl, fun _ _ _ _ => rfl⟩, fun i2 a c => by omega⟩
  intro t i hI ih
  obtain ⟨j1, j2, j3, j4⟩ := hI
  refine Y.iload_n dX0_gatherRivals_2 rfl ?_
  refine Y.iconst dX0_gatherRivals_3 ?_
  refine Y.icmp_ge 90 dX0_gatherRivals_4 (by decide) (by omega) (by omega) (fun h_4 => ?_) (fun h_4 => ?_)
  · exact Y.vret dX0_gatherRivals_90 rfl (hP _ _ ⟨rfl, j3, fun i2 a c => ⟨(j4 i2 a (by omega)).1, (j4 i2 a (by omega)).2.2⟩, fun i2 a c => (j4 i2 a (by omega)).2.1⟩)
  · refine Y.aload_n dX0_gatherRivals_7 rfl ?_
    refine Y.getf dX0_gatherRivals_8 flX0_42 (obA hb) rfl ?_
    refine Y.iload_n dX0_gatherRivals_11 rfl ?_
    refine Y.iconst dX0_gatherRivals_12 ?_
    refine Y.iast dX0_gatherRivals_13 (iaA11 hb) (by omega) (by omega) ?_
    refine Y.aload_n dX0_gatherRivals_14 rfl ?_
    refine Y.getf dX0_gatherRivals_15 flX0_39 (obA hb) rfl ?_
    refine Y.iload_n dX0_gatherRivals_18 rfl ?_
    refine Y.iconst dX0_gatherRivals_19 ?_
    refine Y.iast dX0_gatherRivals_20 (iaA10 hb) (by omega) (by omega) ?_
    refine Y.iconst dX0_gatherRivals_21 ?_
    refine Y.istore_n dX0_gatherRivals_22 (by decide) rfl ?_
    have hm := (hp.1 i (by omega) (by omega)).2.2.2.2.2
    refine zw2 (fun t j => (0 ≤ j ∧ j ≤ p 5 i ∧ zFg b σ t ∧ Gd b t p x i ∧ Gj b t p x i j)) (fun t j => Y d μX0_gatherRivals 23 [some (.ref b), some (.int (zi x)), some (.int (zi i)), some (.int (zi j))] [] t P) (fun t j => (3 - j).toNat) ?_ _ _ ⟨by omega, by omega, (j3.up (Or.inr (Or.inr rfl))).up (Or.inr (Or.inl rfl)), fun i2 a c => by
      obtain ⟨e1, e2, e3⟩ := j4 i2 a c
      exact ⟨by rw [zu_ne (by omega), zu_nc (by omega)]; exact e1, by rw [zu_nc (by omega), zu_ne (by omega)]; exact e2, fun n n0 n1 => by rw [zu_nc (by omega), zu_nc (by omega)]; exact e3 n n0 n1⟩, by rw [zu_eq, cn_0], by rw [zu_nc (by omega), zu_eq], fun n n0 n1 => by rw [cn_0] at n1; omega⟩
    intro t2 j hI ih2
    obtain ⟨m1, m2, m3, m4, m5⟩ := hI
    have ept := (m3.cp hb).trans ec
    have em : t2.1 13 i = p 5 i := by rw [← ept]; rfl
    have hcb := cn_b (p := p) (x := x) (i := i) (j := j) m1 (by omega)
    have hm5 := m5.1
    refine Y.iload_n dX0_gatherRivals_23 rfl ?_
    refine Y.aload_n dX0_gatherRivals_24 rfl ?_
    refine Y.getf dX0_gatherRivals_25 flX0_45 (obA hb) rfl ?_
    refine Y.getf dX0_gatherRivals_28 flX0_129 ob1 rfl ?_
    refine Y.iload_n dX0_gatherRivals_31 rfl ?_
    refine Y.iald dX0_gatherRivals_32 ia13 (by omega) (by omega) ?_
    refine Y.icmp_ge 84 dX0_gatherRivals_33 (by decide) (by omega) (by omega) (fun h_33 => ?_) (fun h_33 => ?_)
    · refine Y.iinc dX0_gatherRivals_84 rfl (by decide) rfl ?_
      refine Y.goto 2 dX0_gatherRivals_87 (by decide) ?_
      refine Y.sub (zs_s (zs_s (zs_s (zs_n zs_0)))) (ih _ _ ⟨by omega, by omega, m3, fun i2 a c => ?_⟩ (by omega))
      by_cases q : i2 = i
      · subst q
        have e9 := cn_m (x := x) hp j1 (by omega)
        rw [← e9, ← show j = p 5 i2 by omega]
        exact m5
      · exact m4 i2 a (by omega)
    · refine Y.aload_n dX0_gatherRivals_36 rfl ?_
      refine Y.getf dX0_gatherRivals_37 flX0_45 (obA hb) rfl ?_
      refine Y.iload_n dX0_gatherRivals_40 rfl ?_
      refine Y.iload_n dX0_gatherRivals_41 rfl ?_
      refine Y.iconst dX0_gatherRivals_42 ?_
      refine Y.imul dX0_gatherRivals_43 ?_
      refine Y.iload_n dX0_gatherRivals_44 rfl ?_
      refine Y.iadd dX0_gatherRivals_45 ?_
      refine Y.cVI dX0_gatherRivals_46 mkX2_isRival csX0_135 ob1 ⟨_, rfl, rfl⟩ (k_X2_isRival ept hp (by omega) (by omega) (by omega) (by omega)) (by omega) rfl rfl (Nat.le_of_ble_eq_true rfl) ?_
      refine Y.ifz_eq 78 dX0_gatherRivals_49 (by decide) (fun h_49 => ?_) (fun h_49 => ?_)
      · refine Y.iinc dX0_gatherRivals_78 rfl (by decide) rfl ?_
        refine Y.goto 23 dX0_gatherRivals_81 (by decide) ?_
        first
          | (have hq : cn p x i (j + 1) = cn p x i j := by rw [cn_s m1, zb_f h_49, Int.add_zero]
             refine ih2 _ _ ⟨by omega, by omega, m3, m4, ?_⟩ (by omega)
             unfold Gj
             rw [hq]
             exact m5)
          | (have hq := Gj.put (b := b) (t := t2) (p := p) (x := x) (i := i) (j := j) j1 m1 (by omega) h_49 m4 m5
             have e8 : (zu t2 (b + 9) (i * 3 + t2.1 (b + 10) i) j).1 (b + 10) i = t2.1 (b + 10) i := by rw [zu_nc (by omega)]
             rw [e8]
             exact ih2 _ _ ⟨by omega, by omega, (m3.up (Or.inl rfl)).up (Or.inr (Or.inl rfl)), hq.1, hq.2⟩ (by omega))
      · refine Y.aload_n dX0_gatherRivals_52 rfl ?_
        refine Y.getf dX0_gatherRivals_53 flX0_36 (obA hb) rfl ?_
        refine Y.iload_n dX0_gatherRivals_56 rfl ?_
        refine Y.iconst dX0_gatherRivals_57 ?_
        refine Y.imul dX0_gatherRivals_58 ?_
        refine Y.aload_n dX0_gatherRivals_59 rfl ?_
        refine Y.getf dX0_gatherRivals_60 flX0_39 (obA hb) rfl ?_
        refine Y.iload_n dX0_gatherRivals_63 rfl ?_
        refine Y.iald dX0_gatherRivals_64 (iaA10 hb) (by omega) (by omega) ?_
        refine Y.iadd dX0_gatherRivals_65 ?_
        refine Y.iload_n dX0_gatherRivals_66 rfl ?_
        refine Y.iast dX0_gatherRivals_67 (iaA9 hb) (by omega) (by omega) ?_
        refine Y.aload_n dX0_gatherRivals_68 rfl ?_
        refine Y.getf dX0_gatherRivals_69 flX0_39 (obA hb) rfl ?_
        refine Y.iload_n dX0_gatherRivals_72 rfl ?_
        refine Y.dup2 dX0_gatherRivals_73 rfl rfl ?_
        refine Y.iald dX0_gatherRivals_74 (iaA10 hb) (by omega) (by omega) ?_
        refine Y.iconst dX0_gatherRivals_75 ?_
        refine Y.iadd dX0_gatherRivals_76 ?_
        refine Y.iast dX0_gatherRivals_77 (iaA10 hb) (by omega) (by omega) ?_
        refine Y.iinc dX0_gatherRivals_78 rfl (by decide) rfl ?_
        refine Y.goto 23 dX0_gatherRivals_81 (by decide) ?_
        first
          | (have hq : cn p x i (j + 1) = cn p x i j := by rw [cn_s m1, zb_f h_49, Int.add_zero]
             refine ih2 _ _ ⟨by omega, by omega, m3, m4, ?_⟩ (by omega)
             unfold Gj
             rw [hq]
             exact m5)
          | (have hq := Gj.put (b := b) (t := t2) (p := p) (x := x) (i := i) (j := j) j1 m1 (by omega) h_49 m4 m5
             have e8 : (zu t2 (b + 9) (i * 3 + t2.1 (b + 10) i) j).1 (b + 10) i = t2.1 (b + 10) i := by rw [zu_nc (by omega)]
             rw [e8]
             exact ih2 _ _ ⟨by omega, by omega, (m3.up (Or.inl rfl)).up (Or.inr (Or.inl rfl)), hq.1, hq.2⟩ (by omega))
end ZG3
