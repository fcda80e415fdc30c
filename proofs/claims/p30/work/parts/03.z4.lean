section ZC
def zWfV (n : Nat) : Value → Bool
  | .ref k => decide (k < n) || decide (9000 ≤ k)
  | _ => true
theorem zWfV_use {mc n : Nat} {ρ ρ' : Nat → Nat} {v : Value} (hR : zRel mc n ρ ρ') (h : zWfV n v = true) : zV ρ' v = zV ρ v := by
  cases v with
  | ref k =>
    have h1 : k < n ∨ 9000 ≤ k := by simpa [zWfV] using h
    show Value.ref (ρ' k) = .ref (ρ k)
    rw [hR.2 k h1]
  | _ => rfl
def zWfL (n : Nat) (L : List (Option Value)) : Bool := L.all (fun x => match x with
  | some v => zWfV n v
  | none => true)
def zWfS (n : Nat) (st : List Value) : Bool := st.all (zWfV n)
theorem zWfS_use {mc n : Nat} {ρ ρ' : Nat → Nat} {st : List Value} (hR : zRel mc n ρ ρ') (h : zWfS n st = true) : st.map (zV ρ') = st.map (zV ρ) :=
  List.map_congr_left (fun v hv => zWfV_use hR (List.all_eq_true.mp h v hv))
theorem zWfL_use {mc n nL : Nat} {ρ ρ' : Nat → Nat} {ls : Array Slot} {L : List (Option Value)} (hR : zRel mc n ρ ρ') (h : zWfL n L = true) (hl : zL nL ρ ls L) : zL nL ρ' ls L := by
  refine ⟨hl.1, hl.2.1, fun i v hv => ?_⟩
  have h1 := List.all_eq_true.mp h _ (List.mem_of_getElem? hv)
  rw [zWfV_use hR h1]
  exact hl.2.2 i v hv
theorem zT.rel9 {ρ ρ' : Nat → Nat} {A : Nat → Prop} {U : State} {H : Heap} (hR : ∀ k : Nat, 9000 ≤ k → ρ' k = ρ k) (h : zT ρ A U H) : zT ρ' A U H := by
  refine ⟨fun i hi => ?_, ?_⟩
  · rw [hR (9000 + i) (Nat.le_add_right _ _)]
    exact h.1 i hi
  · rw [hR 9004 (by omega)]
    exact h.2
theorem zT.rel {mc n : Nat} {ρ ρ' : Nat → Nat} {A : Nat → Prop} {U : State} {H : Heap} (hR : zRel mc n ρ ρ') (h : zT ρ A U H) : zT ρ' A U H := h.rel9 (fun k hk => hR.2 k (Or.inr hk))
theorem zT.pass {ρ : Nat → Nat} {A B : Nat → Prop} {s U : State} {H : Heap} {locs : List Loc} (h : zT ρ A s s.heap) (hS : va_S A s.heap H locs) (hAB : ∀ q, B q → A q) (hvm : s.vm.Alike U.vm) (hU : U.heap = H) : zT ρ B U U.heap := by
  obtain ⟨h, Ln, xs, x0, x1, x2, x3⟩ := h
  refine ⟨fun i hi => ?_, Ln, xs, x0, ?_, ?_, fun q => x3 (hAB _ q)⟩
  · obtain ⟨h1, h2⟩ := h i hi
    rw [hU]
    exact ⟨va_Z.moved hvm (va_Z.narrow (va_Z.kept h1 (fun a h9 h8 => hS.2.1 a h9 h8)) hAB), va_T.moved hvm (va_T.narrow (va_T.kept h2 (fun a h9 h8 => hS.2.1 a h9 h8)) hAB)⟩
  · rw [hU]
    exact va_X.moved hvm (va_X.kept x1 (hS.2.1 _ x2 x3))
  · rw [hU]
    exact Nat.lt_of_lt_of_le x2 hS.1
theorem z_back {p : Program} {l : Launch} {e : Env} {R : Room} {s : State} {m : MethodId} {args : Array Value} {below : List Frame} {meth : Method} {c : Code} {H : Heap} {locs : List Loc} {cells slots : Nat} {Q : State → Prop} {pc : Nat} {ls : Array Slot} {rest st0 : List Value} {a : Array Value} {A0 A1 : Nat → Prop} {H0 : Heap} {mc' ms' n' : Nat} {D : va_G} {cI : FieldType → ClassId} {ρ : Nat → Nat} {Post' : Option Value → zH → Prop}
    (hr : va_Run p l e R s m args below meth c H locs cells slots mc' ms' (F0 m pc ls st0) rest (zQ D cI ρ n' mc' A1 Post' a) A1) (hS : va_S A0 H0 H locs) (hA : ∀ q, A1 q → A0 q)
    (kk : ∀ (r : Option Value) (h' : zH) (ρ' : Nat → Nat) (H1 : Heap) (locs1 : List Loc), Post' r h' → zRel mc' n' ρ ρ' → n' ≤ h'.length → va_P D vwCl (zw cI ρ' h') H1 → va_D A1 (zw cI ρ' h') → va_S A0 H0 H1 locs1 → W p l e R s m args below meth c H1 locs1 (cells + mc') (slots + ms') Q (F0 m (pc + 3) ls ((r.map (zV ρ')).toList ++ rest))) : W p l e R s m args below meth c H locs cells slots Q (F0 m pc ls st0) := by
  intro T hT X
  obtain ⟨v, st₀, t, T', L, h0, X', hL, e1, e2, ⟨⟨r, h', ρ', hp, hv, hrel, hn, hP, hD⟩, hz, hk⟩, st⟩ := hr T hT X
  cases hv
  rw [h0] at hz hk
  obtain ⟨t2, a1, b1⟩ := kk r h' ρ' T'.heap (locs ++ L) hp hrel hn (by rw [e1]; exact hP) hD
    ⟨Nat.le_trans hS.1 (by rw [e1]; exact hz), fun q h1 h2 => by rw [e1, hk q (Nat.lt_of_lt_of_le h1 hS.1) (fun z => h2 (hA q z))]; exact hS.2.1 q h1 h2, fun q hq => by
      rcases List.mem_append.mp hq with h | h
      · exact hS.2.2 q h
      · exact hA _ (hL q h)⟩ T' rfl X'
  exact ⟨t2, st t2 a1, b1⟩
/-- a method that the tables know -/
def zMk (μ : zU) (n : Nat) : Prop := Cond.code μ.1 μ.2.1 μ.2.2.1 μ.2.2.2 ∈ zWd ∧ Cond.initialized μ.1.cls ∈ zWd ∧ (μ.1.cls ≠ "java/lang/invoke/MethodHandle" ∧ μ.1.cls ≠ "java/lang/invoke/VarHandle" ∧ (parseMethodDescriptor μ.1.desc).map (fun d => d.parameters.length) = some n) ∧ μ.2.2.1 ≤ 24
variable {mc ms d : Nat} {μ : zU} {pc : Nat} {L : List (Option Value)} {st : List Value} {h : zH} {kc ks : Nat} {Post : Option Value → zH → Prop} {mc' ms' hd idx n : Nat} {ν : zU} {Post' : Option Value → zH → Prop}
/-- what a call's landing asks: the caller goes on with the callee's end -/
def zOn (mc ms d : Nat) (μ : zU) (pc : Nat) (L : List (Option Value)) (rest : List Value) (h : zH) (kc ks mc' ms' : Nat) (Post' Post : Option Value → zH → Prop) : Prop :=
  (mc' = 0 ∨ (zWfL h.length L = true ∧ zWfS h.length rest = true)) ∧ kc + mc' ≤ mc ∧ ks + ms' ≤ ms ∧ ∀ r h', Post' r h' → Z mc ms d μ (pc + 3) L (r.toList ++ rest) h' (kc + mc') (ks + ms') Post
set_option maxHeartbeats 1000000 in
theorem z_land {p : Program} {l : Launch} {e : Env} {s : State} {m : MethodId} {args : Array Value} {below : List Frame} {meth : Method} {c : Code} {D : va_G} {cI : FieldType → ClassId} {A : Nat → Prop} {ρ0 ρ : Nat → Nat} {n0 : Nat} {H : Heap} {locs : List Loc} {ls : Array Slot} {rest st0 : List Value} {a : Array Value} (hon : zOn mc ms d μ pc L rest h kc ks mc' ms' Post' Post)
    (hC : zCx μ p s m args meth c D cI A) (hn : n0 ≤ h.length) (hR : zRel mc n0 ρ0 ρ) (hS : zSt μ D cI A s h L ρ H locs ls)
    (hr : va_Run p l e (zR mc ms d) s m args below meth c H locs kc ks mc' ms' (F0 m pc ls st0) (rest.map (zV ρ)) (zQ D cI ρ h.length mc' (va_A (zw cI ρ h) H.size) Post' a) (va_A (zw cI ρ h) H.size)) :
    W p l e (zR mc ms d) s m args below meth c H locs kc ks (MQ below (zQ D cI ρ0 n0 mc A Post) args s mc ms A) (F0 m pc ls st0) := by
  obtain ⟨hx, hb, hml, hr0, hlk, hnm, hown, hts, hNw, hK, hA⟩ := id hC
  obtain ⟨hP, hD, hSS, hLL, hT⟩ := id hS
  obtain ⟨hwf, hkc, hks, hk⟩ := hon
  have hAA : ∀ q, va_A (zw cI ρ h) H.size q → A q := fun q hq => by
    rcases hq with ⟨k, e9, h9⟩ | h9
    · exact hD.2 k (q, e9) h9
    · exact hA q (Nat.le_trans hSS.1 h9)
  refine z_back hr hSS hAA (fun r h' ρ' H1 locs1 hp hrel hn' hP1 hD1 hS1 => ?_)
  have hL2 : zL μ.2.2.1 ρ' ls L ∧ rest.map (zV ρ') = rest.map (zV ρ) := by
    rcases hwf with h9 | ⟨h9, h8⟩
    · rw [hrel.1 h9]
      exact ⟨hLL, rfl⟩
    · exact ⟨zWfL_use hrel h9 hLL, zWfS_use hrel h8⟩
  have hR2 : zRel mc n0 ρ0 ρ' := by
    refine ⟨fun h9 => ?_, fun k hk9 => ?_⟩
    · have h8 : mc' = 0 := by omega
      rw [hrel.1 h8]
      exact hR.1 h9
    · rw [hrel.2 k (by omega), hR.2 k hk9]
  have w := hk r h' hp p l e s m args below meth c D cI A ρ0 n0 hC (by omega) ρ' H1 locs1 ls hR2 ⟨hP1, hD1.weaken (fun _ q _ h9 => hAA q.1 h9), hS1, hL2.1, hT.rel hrel⟩
  have e9 : (r.toList ++ rest).map (zV ρ') = (r.map (zV ρ')).toList ++ rest.map (zV ρ) := by
    rw [List.map_append, hL2.2]
    cases r <;> rfl
  rw [e9] at w
  exact w
theorem z_pre {p : Program} {s : State} {m : MethodId} {args : Array Value} {meth : Method} {c : Code} {D : va_G} {cI : FieldType → ClassId} {A : Nat → Prop} {ρ : Nat → Nat} {H : Heap} {locs : List Loc} {ls : Array Slot} (avs : List Value) (hC : zCx μ p s m args meth c D cI A) (hS : zSt μ D cI A s h L ρ H locs ls) :
    PreS s H (va_Pc (avs.map (zV ρ)) (fun U => U.heap.size = H.size ∧ va_P D vwCl (zw cI ρ h) U.heap ∧ va_K D vwCl (zTys cI) U ∧ va_D (fun _ => True) (zw cI ρ h) ∧ zNw U ∧ zT ρ (va_A (zw cI ρ h) H.size) U U.heap)) (avs.map (zV ρ)) := by
  obtain ⟨hx, hb, hml, hr0, hlk, hnm, hown, hts, hNw, hK, hA⟩ := id hC
  obtain ⟨hP, hD, hSS, hLL, hT⟩ := id hS
  have hAA : ∀ q, va_A (zw cI ρ h) H.size q → A q := fun q hq => by
    rcases hq with ⟨k, e9, h9⟩ | h9
    · exact hD.2 k (q, e9) h9
    · exact hA q (Nat.le_trans hSS.1 h9)
  refine ⟨fun a U g mk q => ?_, fun U hU hW => ⟨rfl, by rw [hU], by rw [hU]; exact hP, va_K.moved hW.alike hK, hD.weaken (fun _ _ _ _ => trivial), hNw.warm hW, hT.pass hSS hAA hW.alike hU⟩⟩
  obtain ⟨q0, q1, qP, qK, qD, qN, qT⟩ := q
  refine ⟨q0, q1, qP, va_K.moved (u := U) (U := U.calling g mk a) (Vm.Alike.refl U.vm) qK, qD, zNw.same (u := U) (U := U.calling g mk a) rfl qN, ?_⟩
  obtain ⟨qT, Ln, xs, x0, x1, x2, x3⟩ := qT
  refine ⟨fun i hi => ?_, Ln, xs, x0, va_X.moved (u := U) (U := U.calling g mk a) (Vm.Alike.refl U.vm) x1, x2, x3⟩
  obtain ⟨t1, t2⟩ := qT i hi
  exact ⟨va_Z.moved (u := U) (U := U.calling g mk a) (Vm.Alike.refl U.vm) t1, va_T.moved (u := U) (U := U.calling g mk a) (Vm.Alike.refl U.vm) t2⟩
theorem z_room {mc ms mc' ms' d k : Nat} (hd : 1 ≤ d) (hk : k ≤ 24) : (zR mc' ms' (d - 1)).frames + 1 ≤ (zR mc ms d).frames ∧ 8 + (k + 11) + (zR mc' ms' (d - 1)).locals ≤ (zR mc ms d).locals := by
  constructor
  · show d - 1 + 1 ≤ d
    omega
  · show 8 + (k + 11) + 43 * (d - 1) ≤ 43 * d
    omega
def zSV (own : String) (idx : Nat) (ν : zU) : Prop := Cond.methodLink own idx ν.1 ∈ zWd ∧ Cond.instanceMethod ν.1 ∈ zWd ∧ Cond.selects ν.1.cls ν.1 ν.1 ∈ zWd
def zSS (own : String) (idx : Nat) (ν : zU) : Prop := (Cond.methodLink own idx ν.1 ∈ zWd ∨ ∃ host : String, Cond.methodLinkNest own idx ν.1 host ∈ zNs) ∧ Cond.static ν.1 ∈ zWd
def zSI (own : String) (idx : Nat) (ν : zU) : Prop := (Cond.methodLink own idx ν.1 ∈ zWd ∨ ∃ host : String, Cond.methodLinkNest own idx ν.1 host ∈ zNs) ∧ Cond.instanceMethod ν.1 ∈ zWd ∧ ν.1.name = "<init>" ∧ ν.2.2.2 = none
set_option maxHeartbeats 1000000 in
theorem Z.callV {b ci : Nat} {fs : List Value} {As rest : List Value} (hdg : decode μ.2.1 pc = .ok (.invokevirtual idx, 3)) (hm : zMk ν n) (hs : zSV μ.1.cls idx ν) (hc : zC mc' ms' hd ν (.ref b :: As) h Post') (hd1 : hd + 1 ≤ d) (he : h[b]? = some (.inr (ci, fs))) (hci : ∃ q : vw_C, vwCl[ci]? = some q ∧ q.1 = ν.1.cls) (hAn : As.length = n) (hst : st = As.reverse ++ .ref b :: rest) (hcat : (rest.map fun v => v.category).sum ≤ 8) (hon : zOn mc ms d μ pc L rest h kc ks mc' ms' Post' Post) : Z mc ms d μ pc L st h kc ks Post := by
  intro p l e s m args below meth c D cI A ρ0 n0 hC hn ρ H locs ls hR hS
  obtain ⟨hx, hb, hml, hr0, hlk, hnm, hown, hts, hNw, hK, hA⟩ := id hC
  obtain ⟨hP, hD, hSS, hLL, hT⟩ := id hS
  obtain ⟨q, hq1, hq2⟩ := hci
  obtain ⟨hm1, hm2, hm3, hm4⟩ := hm
  obtain ⟨hs1, hs2, hs3⟩ := hs
  have hM := hc (d - 1) (by omega) l D cI ρ H.size
  have hp := z_pre (.ref b :: As) hC hS
  have hrecv := va_recv hK hP (ci := ci) hq1 (zw_at he)
  rw [hq2] at hrecv
  refine z_land (a := ((Value.ref b :: As).map (zV ρ)).toArray) (rest := rest) hon hC hn hR hS ?_
  exact va_runV (As := As.map (zV ρ)) (rest := rest.map (zV ρ)) (b := ρ b) (C := ν.1.cls) (own := μ.1.cls) (n := n) (index := idx) ⟨hx, hb, hml, hown, hts⟩ hM ⟨callB_of n hts (zWd_good hm1) rfl rfl rfl (hts _ hm2) (hts _ hs1) hm3 (z_room (by omega) hm4), hts _ hs2, hts _ hs3⟩ ⟨hp.1, hrecv, hp.2⟩ rfl (by rw [List.length_map]; exact hAn) hLL.1 (by rw [hst]; simp [zV, F0]) (lv_room (by rw [zV_cats]; exact hcat)) hdg ⟨hon.2.1, hon.2.2.1⟩
set_option maxHeartbeats 1000000 in
theorem Z.callS {As rest : List Value} (hdg : decode μ.2.1 pc = .ok (.invokestatic idx, 3)) (hm : zMk ν n) (hs : zSS μ.1.cls idx ν) (hc : zC mc' ms' hd ν As h Post') (hd1 : hd + 1 ≤ d) (hAn : As.length = n) (hst : st = As.reverse ++ rest) (hcat : (rest.map fun v => v.category).sum ≤ 8) (hon : zOn mc ms d μ pc L rest h kc ks mc' ms' Post' Post) : Z mc ms d μ pc L st h kc ks Post := by
  intro p l e s m args below meth c D cI A ρ0 n0 hC hn ρ H locs ls hR hS
  obtain ⟨hx, hb, hml, hr0, hlk, hnm, hown, hts, hNw, hK, hA⟩ := id hC
  obtain ⟨hP, hD, hSS, hLL, hT⟩ := id hS
  obtain ⟨hm1, hm2, hm3, hm4⟩ := hm
  obtain ⟨hs1, hs2⟩ := hs
  have hM := hc (d - 1) (by omega) l D cI ρ H.size
  have hp := z_pre As hC hS
  refine z_land (a := (As.map (zV ρ)).toArray) (rest := rest) hon hC hn hR hS ?_
  rcases hs1 with hs1 | ⟨host, hs1⟩
  · exact va_runS (As := As.map (zV ρ)) (rest := rest.map (zV ρ)) (own := μ.1.cls) (n := n) (index := idx) ⟨hx, hb, hml, hown, hts⟩ hM ⟨callB_of n hts (zWd_good hm1) rfl rfl rfl (hts _ hm2) (hts _ hs1) hm3 (z_room (by omega) hm4), hts _ hs2⟩ hp rfl (by rw [List.length_map]; exact hAn) hLL.1 (by rw [hst]; simp [F0]) (lv_room (by rw [zV_cats]; exact hcat)) hdg ⟨hon.2.1, hon.2.2.1⟩
  · exact va_runSN (As := As.map (zV ρ)) (rest := rest.map (zV ρ)) (own := μ.1.cls) (host := host) (n := n) (index := idx) ⟨hx, hb, hml, hown, hts⟩ hM ⟨va_cnB n hts (zWd_good hm1) rfl rfl rfl (hNw _ hs1) (hts _ hm2) hm3 (z_room (by omega) hm4), hts _ hs2, trivial⟩ hp rfl (by rw [List.length_map]; exact hAn) hLL.1 (by rw [hst]; simp [F0]) (lv_room (by rw [zV_cats]; exact hcat)) hdg ⟨hon.2.1, hon.2.2.1⟩
set_option maxHeartbeats 1000000 in
theorem Z.callI {b : Nat} {As rest : List Value} (hdg : decode μ.2.1 pc = .ok (.invokespecial idx, 3)) (hm : zMk ν n) (hs : zSI μ.1.cls idx ν) (hc : zC mc' ms' hd ν (.ref b :: As) h Post') (hd1 : hd + 1 ≤ d) (hAn : As.length = n) (hst : st = As.reverse ++ .ref b :: rest) (hcat : (rest.map fun v => v.category).sum ≤ 8) (hon : zOn mc ms d μ pc L rest h kc ks mc' ms' Post' Post) : Z mc ms d μ pc L st h kc ks Post := by
  intro p l e s m args below meth c D cI A ρ0 n0 hC hn ρ H locs ls hR hS
  obtain ⟨hx, hb, hml, hr0, hlk, hnm, hown, hts, hNw, hK, hA⟩ := id hC
  obtain ⟨hP, hD, hSS, hLL, hT⟩ := id hS
  obtain ⟨hm1, hm2, hm3, hm4⟩ := hm
  obtain ⟨hs1, hs2, hs3, hs4⟩ := hs
  obtain ⟨ny, ncc, nn, nr⟩ := ν
  dsimp only at hs4
  subst hs4
  have hM := hc (d - 1) (by omega) l D cI ρ H.size
  have hp := z_pre (.ref b :: As) hC hS
  refine z_land (a := ((Value.ref b :: As).map (zV ρ)).toArray) (rest := rest) hon hC hn hR hS ?_
  rcases hs1 with hs1 | ⟨host, hs1⟩
  · exact va_runI (As := As.map (zV ρ)) (rest := rest.map (zV ρ)) (b := ρ b) (own := μ.1.cls) (n := n) (index := idx) ⟨hx, hb, hml, hown, hts⟩ hM ⟨callB_of n hts (zWd_good hm1) rfl rfl rfl (hts _ hm2) (hts _ hs1) hm3 (z_room (by omega) hm4), hs3, hts _ hs2⟩ hp rfl (by rw [List.length_map]; exact hAn) hLL.1 (by rw [hst]; simp [zV, F0]) (lv_room (by rw [zV_cats]; exact hcat)) hdg ⟨hon.2.1, hon.2.2.1⟩
  · exact va_runIN (As := As.map (zV ρ)) (rest := rest.map (zV ρ)) (b := ρ b) (own := μ.1.cls) (host := host) (n := n) (index := idx) ⟨hx, hb, hml, hown, hts⟩ hM ⟨va_cnB n hts (zWd_good hm1) rfl rfl rfl (hNw _ hs1) (hts _ hm2) hm3 (z_room (by omega) hm4), hs3, hts _ hs2⟩ hp rfl (by rw [List.length_map]; exact hAn) hLL.1 (by rw [hst]; simp [zV, F0]) (lv_room (by rw [zV_cats]; exact hcat)) hdg ⟨hon.2.1, hon.2.2.1⟩
end ZC
