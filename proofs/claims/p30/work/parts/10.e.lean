section ZXO1
variable {X : State → (Nat → Nat) → (Nat → Prop) → Nat → Prop} {mc ms d : Nat} {μ : zU} {pc : Nat} {L : List (Option Value)} {st : List Value} {h : zH} {kc ks : Nat} {Post : Option Value → zH → Prop} {idx : Nat} {XO : State → Prop} {mc' ms' hd n : Nat} {ν : zU} {Post' : Option Value → zH → Prop}
theorem z_preO {p : Program} {s : State} {m : MethodId} {args : Array Value} {meth : Method} {c : Code} {D : va_G} {cI : FieldType → ClassId} {A : Nat → Prop} {ρ : Nat → Nat} {H : Heap} {locs : List Loc} {ls : Array Slot} (avs : List Value) (hC : zCx μ p s m args meth c D cI A) (hS : zSt μ D cI A s h L ρ H locs ls) (hO : XO s) (hOm : ∀ u U : State, u.vm.Alike U.vm → XO u → XO U) :
    PreS s H (va_Pc (avs.map (zV ρ)) (fun U => U.heap.size = H.size ∧ va_P D vwCl (zw cI ρ h) U.heap ∧ va_K D vwCl (zTys cI) U ∧ va_D (fun _ => True) (zw cI ρ h) ∧ zNw U ∧ zT ρ (va_A (zw cI ρ h) H.size) U U.heap ∧ XO U)) (avs.map (zV ρ)) := by
  obtain ⟨f1, f2⟩ := z_pre avs hC hS
  refine ⟨fun a U g mk q => ?_, fun U hU hW => ?_⟩
  · obtain ⟨q0, q1, qP, qK, qD, qN, qT, qO⟩ := q
    obtain ⟨r0, r1, rP, rK, rD, rN, rT⟩ := f1 a U g mk ⟨q0, q1, qP, qK, qD, qN, qT⟩
    exact ⟨r0, r1, rP, rK, rD, rN, rT, hOm U _ (Vm.Alike.refl U.vm) qO⟩
  · obtain ⟨r0, r1, rP, rK, rD, rN, rT⟩ := f2 U hU hW
    exact ⟨r0, r1, rP, rK, rD, rN, rT, hOm s U hW.alike hO⟩
set_option maxHeartbeats 1000000 in
theorem ZX.callO {b : Nat} {As rest : List Value} (hdg : decode μ.2.1 pc = .ok (.invokespecial idx, 3)) (hm : zMk ν n) (hs : zSI μ.1.cls idx ν) (hO : ∀ (s : State) (ρ : Nat → Nat) (A : Nat → Prop) (n : Nat), X s ρ A n → XO s) (hOm : ∀ u U : State, u.vm.Alike U.vm → XO u → XO U) (hc : zCO XO mc' ms' hd ν (.ref b :: As) h Post') (hd1 : hd + 1 ≤ d) (hAn : As.length = n) (hst : st = As.reverse ++ .ref b :: rest) (hcat : (rest.map fun v => v.category).sum ≤ 8) (hon : zOX X mc ms d μ pc L rest h kc ks mc' ms' Post' Post) : ZX X mc ms d μ pc L st h kc ks Post := by
  intro p l e s m args below meth c D cI A ρ0 n0 hC hn hX ρ H locs ls hR hS
  obtain ⟨hx, hb, hml, hr0, hlk, hnm, hown, hts, hNw, hK, hA⟩ := id hC
  obtain ⟨hP, hD, hSS, hLL, hT⟩ := id hS
  obtain ⟨hm1, hm2, hm3, hm4⟩ := hm
  obtain ⟨hs1, hs2, hs3, hs4⟩ := hs
  obtain ⟨ny, ncc, nn, nr⟩ := ν
  dsimp only at hs4
  subst hs4
  have hM := hc (d - 1) (by omega) l D cI ρ H.size
  have hp := z_preO (.ref b :: As) hC hS (hO _ _ _ _ hX) hOm
  refine zx_land (a := ((Value.ref b :: As).map (zV ρ)).toArray) (rest := rest) hon hC hn hX hR hS ?_
  rcases hs1 with hs1 | ⟨host, hs1⟩
  · exact va_runI (As := As.map (zV ρ)) (rest := rest.map (zV ρ)) (b := ρ b) (own := μ.1.cls) (n := n) (index := idx) ⟨hx, hb, hml, hown, hts⟩ hM ⟨callB_of n hts (zWd_good hm1) rfl rfl rfl (hts _ hm2) (hts _ hs1) hm3 (z_room (by omega) hm4), hs3, hts _ hs2⟩ hp rfl (by rw [List.length_map]; exact hAn) hLL.1 (by rw [hst]; simp [zV, F0]) (lv_room (by rw [zV_cats]; exact hcat)) hdg ⟨hon.2.1, hon.2.2.1⟩
  · exact va_runIN (As := As.map (zV ρ)) (rest := rest.map (zV ρ)) (b := ρ b) (own := μ.1.cls) (host := host) (n := n) (index := idx) ⟨hx, hb, hml, hown, hts⟩ hM ⟨va_cnB n hts (zWd_good hm1) rfl rfl rfl (hNw _ hs1) (hts _ hm2) hm3 (z_room (by omega) hm4), hs3, hts _ hs2⟩ hp rfl (by rw [List.length_map]; exact hAn) hLL.1 (by rw [hst]; simp [zV, F0]) (lv_room (by rw [zV_cats]; exact hcat)) hdg ⟨hon.2.1, hon.2.2.1⟩
theorem va_AOA.moved {ty : FieldType} {u U : State} (hvm : u.vm.Alike U.vm) (h : va_AOA ty u) : va_AOA ty U := by
  obtain ⟨comp, c, k, h1, h2, h3, h4, h5⟩ := arrayOverA_spec h
  obtain ⟨k', hk', he⟩ := hvm.2.2 _ _ h3
  have g2 : (U.vm.classes.findIdx? fun (x : Class) => match x.kind with | .array component _ => component == comp | _ => false) = some c := (hvm.findIdx?_eq _ (fun _ => rfl)).trans h2
  have g4 : k'.kind = .array comp (.array ty) := by rw [he]; exact h4
  have g1 : U.vm.findClass (FieldType.array ty).toString = some comp := by rw [hvm.findClass]; exact h1
  have g5 : U.vm.findClass ("[" ++ (FieldType.array ty).toString) = some c := by rw [hvm.findClass]; exact h5
  unfold va_AOA Cond.before Cond.holds
  simp only [Cond.value, g1, Option.bind_some]
  refine (congrArg (fun z : Option Nat => (z.bind (fun c => (U.vm.classes[c]?).map fun (k : Class) => match k.kind with | .array _ t => decide (t = FieldType.array ty) && decide (U.vm.findClass ("[" ++ (FieldType.array ty).toString) = some c) | _ => false) == some true)) g2).trans ?_
  simp [hk', g4, g5]
/-- what the tables say of arrays of references -/
def XOO (s : State) : Prop := va_AO "OffsetChains$Sheet" s ∧ va_AOA .int s
theorem XOO.moved : ∀ u U : State, u.vm.Alike U.vm → XOO u → XOO U := fun _ _ hvm h => ⟨va_AO.moved hvm h.1, va_AOA.moved hvm h.2⟩
abbrev XOx : State → (Nat → Nat) → (Nat → Prop) → Nat → Prop := fun s _ _ _ => XOO s
theorem ZX.new' (r : Nat) {ci N : Nat} {C : String} {T : u_T} (ty : Nat → FieldType) (fs : List Value) (hdg : decode μ.2.1 pc = .ok (.new idx, 3)) (hcl : zCl ci C T N) (hw : Cond.classLink μ.1.cls idx C ∈ zWd ∧ Cond.instantiable C N ∈ zWd ∧ Cond.initialized C ∈ zWd) (hty : ∀ k, k < N → parseFieldDescriptor (T k).2.2.1 = some (ty k)) (hfs : ∀ j, j < N → defaultValue (ty j) = vp_V fs j) (hfr : ∀ ρ : Nat → Nat, fs.map (zV ρ) = fs)
    (hr : h.length = r) (hk : (kc + 1 ≤ mc ∧ ks + N ≤ ms) ∧ r < 9000) (wf : zWfH h = true) (wL : zWfL r L = true) (wS : zWfS r st = true) (k9 : ZX X mc ms d μ (pc + 3) L (.ref r :: st) (h ++ [.inr (ci, fs)]) (kc + 1) (ks + N) Post) : ZX X mc ms d μ pc L st h kc ks Post := by
  subst hr
  exact ZX.new ty fs hdg hcl hw hty hfs hfr hk.1 hk.2 wf wL wS k9
theorem ZX.newI' (r N : Nat) {n : Int32} (hdg : decode μ.2.1 pc = .ok (.newarray .int, 2)) (hN : n.toNatClampNeg = N) (hn0 : ¬ n < 0) (hr : h.length = r) (hk : (N ≤ 1000 ∧ kc + 1 ≤ mc ∧ ks + N ≤ ms) ∧ r < 9000) (wf : zWfH h = true) (wL : zWfL r L = true) (wS : zWfS r st = true)
    (k9 : ZX X mc ms d μ (pc + 2) L (.ref r :: st) (h ++ [.inl (.int, N, .inl (fun _ => 0))]) (kc + 1) (ks + N) Post) : ZX X mc ms d μ pc L (.int n :: st) h kc ks Post := by
  subst hr
  exact ZX.newI hdg hN hn0 hk.1.1 hk.1.2 hk.2 wf wL wS k9
theorem ZX.newL' (r N : Nat) {n : Int32} (hdg : decode μ.2.1 pc = .ok (.newarray .long, 2)) (hN : n.toNatClampNeg = N) (hn0 : ¬ n < 0) (hr : h.length = r) (hk : (N ≤ 1000 ∧ kc + 1 ≤ mc ∧ ks + N ≤ ms) ∧ r < 9000) (wf : zWfH h = true) (wL : zWfL r L = true) (wS : zWfS r st = true)
    (k9 : ZX X mc ms d μ (pc + 2) L (.ref r :: st) (h ++ [.inl (.long, N, .inr (.inl (fun _ => 0)))]) (kc + 1) (ks + N) Post) : ZX X mc ms d μ pc L (.int n :: st) h kc ks Post := by
  subst hr
  exact ZX.newL hdg hN hn0 hk.1.1 hk.1.2 hk.2 wf wL wS k9
theorem ZX.newS' (r N : Nat) {n : Int32} (hdg : decode μ.2.1 pc = .ok (.anewarray idx, 3)) (hw : Cond.classLink μ.1.cls idx "OffsetChains$Sheet" ∈ zWd) (hO : ∀ (s : State) (ρ : Nat → Nat) (A : Nat → Prop) (n : Nat), X s ρ A n → XOO s) (hN : n.toNatClampNeg = N) (hn0 : ¬ n < 0) (hr : h.length = r) (hk : (N ≤ 1000 ∧ kc + 1 ≤ mc ∧ ks + N ≤ ms) ∧ r < 9000) (wf : zWfH h = true) (wL : zWfL r L = true) (wS : zWfS r st = true)
    (k9 : ZX X mc ms d μ (pc + 3) L (.ref r :: st) (h ++ [.inl (.object "OffsetChains$Sheet", N, .inr (.inr (List.replicate N none)))]) (kc + 1) (ks + N) Post) : ZX X mc ms d μ pc L (.int n :: st) h kc ks Post := by
  subst hr
  exact ZX.newS hdg hw (fun s ρ A n q => (hO s ρ A n q).1) hN hn0 hk.1.1 hk.1.2 hk.2 wf wL wS k9
theorem ZX.multi' (r N M : Nat) {n k : Int32} (hdg : decode μ.2.1 pc = .ok (.multianewarray idx 2, 4)) (hw : Cond.classLink μ.1.cls idx "[[I" ∈ zWd) (hO : ∀ (s : State) (ρ : Nat → Nat) (A : Nat → Prop) (n : Nat), X s ρ A n → XOO s) (hN : n.toNatClampNeg = N) (hM : k.toNatClampNeg = M) (hn0 : ¬ n < 0) (hk0 : ¬ k < 0) (hr : h.length = r) (hk : (N ≤ 100 ∧ M ≤ 1000 ∧ kc + (1 + N) ≤ mc ∧ ks + (N + N * M) ≤ ms) ∧ r + N < 9000) (wf : zWfH h = true) (wL : zWfL r L = true) (wS : zWfS r st = true)
    (k9 : ZX X mc ms d μ (pc + 4) L (.ref r :: st) (h ++ zmE r N M) (kc + (1 + N)) (ks + (N + N * M)) Post) : ZX X mc ms d μ pc L (.int k :: .int n :: st) h kc ks Post := by
  subst hr
  exact ZX.multi hdg hw (fun s ρ A n q => (hO s ρ A n q).2) hN hM hn0 hk0 hk.1.1 hk.1.2.1 hk.1.2.2 hk.2 wf wL wS k9
theorem ZX.w {h' : zH} (e : h' = h) (k : ZX X mc ms d μ pc L st h' kc ks Post) : ZX X mc ms d μ pc L st h kc ks Post := by
  subst e
  exact k
def zflf (N : Nat) (v : Int32) (f : Nat → Int32) : Nat → Int32 := fun j => if j < N then v else f j
set_option maxHeartbeats 1000000 in
theorem c_Z_fill {h : zH} {a N : Nat} {f : Nat → Int32} {v : Int32} (ha : h[a]? = some (.inl (.int, N, .inl f))) (hN : N < 2 ^ 31) : zC 0 0 0 μJ7_fill_53178 [.ref a, .int v] h (fun r h' => r = none ∧ h' = h.set a (.inl (.int, N, .inl (zflf N v f)))) := by
  refine zC.of (by decide +kernel) (Nat.le_of_ble_eq_true rfl) (fun d hd => ?_)
  have hl : a < h.length := (List.getElem?_eq_some_iff.mp ha).1
  have key := zw1 (fun i : Nat => i ≤ N) (fun i => Z 0 0 d μJ7_fill_53178 5 [some (.ref a), some (.int v), some (.int (nI i)), some (.int (nI N))] [] (h.set a (.inl (.int, N, .inl (zflf i v f)))) 0 0 (fun r h' => r = none ∧ h' = h.set a (.inl (.int, N, .inl (zflf N v f))))) (fun i => N - i) (by
    intro i hi ih
    refine Z.iload_n dJ7_fill_53178_5 rfl ?_
    refine Z.iload_n dJ7_fill_53178_6 rfl ?_
    refine Z.icmp_ge 20 dJ7_fill_53178_7 (by decide) (fun h_7 => ?_) (fun h_7 => ?_)
    · have e : i = N := by
        rcases Nat.lt_or_ge i N with q | q
        · exact absurd h_7 (nI_ge q hN)
        · omega
      exact Z.vret dJ7_fill_53178_20 rfl ⟨Nat.le_refl _, Nat.le_refl _⟩ ⟨rfl, by rw [e]⟩
    · have e : i < N := by
        rcases Nat.lt_or_ge i N with q | q
        · exact q
        · exact absurd (nI_le q (by omega)) h_7
      refine Z.aload_n dJ7_fill_53178_10 rfl ?_
      refine Z.iload_n dJ7_fill_53178_11 rfl ?_
      refine Z.iload_n dJ7_fill_53178_12 rfl ?_
      refine Z.iast dJ7_fill_53178_13 (List.getElem?_set_self hl) (nI_in e hN) ?_
      refine Z.iinc dJ7_fill_53178_14 rfl (by decide) rfl ?_
      refine Z.goto 5 dJ7_fill_53178_17 (by decide) ?_
      have k := ih (i + 1) (by omega) (by omega)
      have eF : upd (zflf i v f) (nI i).toNatClampNeg v = zflf (i + 1) v f := by
        funext j
        rw [nI_clamp (by omega)]
        show (if j = i then v else if j < i then v else f j) = if j < i + 1 then v else f j
        by_cases q : j = i
        · rw [if_pos q, if_pos (by omega)]
        · rw [if_neg q]
          by_cases q2 : j < i
          · rw [if_pos q2, if_pos (by omega)]
          · rw [if_neg q2, if_neg (by omega)]
      rw [nI_succ] at k
      rw [List.set_set, eF]
      exact k) 0 (Nat.zero_le _)
  have e0 : h.set a (.inl (.int, N, .inl (zflf 0 v f))) = h := by
    apply List.ext_getElem?
    intro i
    rw [List.getElem?_set]
    by_cases e : a = i
    · rw [if_pos e, if_pos (by omega), ← e, ha]
      rfl
    · rw [if_neg e]
  rw [e0] at key
  refine Z.iconst 0 dJ7_fill_53178_0 rfl ?_
  refine Z.istore_n dJ7_fill_53178_1 (by decide) rfl ?_
  refine Z.aload_n dJ7_fill_53178_2 rfl ?_
  refine Z.alen dJ7_fill_53178_3 (Or.inl ⟨rfl, rfl⟩) ha rfl ?_
  refine Z.istore_n dJ7_fill_53178_4 (by decide) rfl ?_
  exact key
end ZXO1
