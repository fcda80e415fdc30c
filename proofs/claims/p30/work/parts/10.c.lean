section ZXN
variable {X : State → (Nat → Nat) → (Nat → Prop) → Nat → Prop} {mc ms d : Nat} {μ : zU} {pc : Nat} {L : List (Option Value)} {st : List Value} {h : zH} {kc ks : Nat} {Post : Option Value → zH → Prop} {idx : Nat}
def zWfE (n : Nat) : zE → Bool
  | .inl q => match q.2.2 with
    | .inr (.inr l) => l.all (fun o => match o with
      | some k => decide (k < n) || decide (9000 ≤ k)
      | none => true)
    | _ => true
  | .inr q => q.2.all (zWfV n)
def zWfH (h : zH) : Bool := h.all (zWfE h.length)
theorem zM_use {cI : FieldType → ClassId} {ρ ρ' : Nat → Nat} {n : Nat} {e : zE} (hr : ∀ k : Nat, (k < n ∨ 9000 ≤ k) → ρ' k = ρ k) (he : zWfE n e = true) : zM cI ρ' e = zM cI ρ e := by
  rcases e with ⟨ty, N, f | f | l⟩ | ⟨ci, fs⟩
  · rfl
  · rfl
  · show Sum.inl (cI ty, N, Sum.inr (Sum.inr (Sum.inr (Sum.inr (fun j => (l.getD j none).map ρ'))))) = Sum.inl (cI ty, N, Sum.inr (Sum.inr (Sum.inr (Sum.inr (fun j => (l.getD j none).map ρ)))))
    have e : (fun j => (l.getD j none).map ρ') = (fun j => (l.getD j none).map ρ) := by
      funext j
      cases hj : l.getD j none with
      | none => rfl
      | some k =>
        have hm : some k ∈ l := by
          rw [List.getD_eq_getElem?_getD] at hj
          cases hk : l[j]? with
          | none => rw [hk] at hj; cases hj
          | some x => rw [hk] at hj; rw [← show x = some k from hj]; exact List.mem_of_getElem? hk
        have h1 := List.all_eq_true.mp he _ hm
        have h2 : k < n ∨ 9000 ≤ k := by simpa using h1
        show some (ρ' k) = some (ρ k)
        rw [hr k h2]
    rw [e]
  · show Sum.inr (ci, fs.map (zV ρ')) = Sum.inr (ci, fs.map (zV ρ))
    have e : fs.map (zV ρ') = fs.map (zV ρ) := List.map_congr_left (fun v hv => zWfV_use (mc := 1) ⟨fun q => absurd q (by decide), hr⟩ (List.all_eq_true.mp he v hv))
    rw [e]
theorem zw_app {cI : FieldType → ClassId} {ρ ρ' : Nat → Nat} {h es : zH} (wf : zWfH h = true) (hr : ∀ k : Nat, (k < h.length ∨ 9000 ≤ k) → ρ' k = ρ k) : zw cI ρ' (h ++ es) = zw cI ρ h ++ es.mapIdx (fun i e => (ρ' (i + h.length), zM cI ρ' e)) := by
  unfold zw
  rw [List.mapIdx_append]
  congr 1
  apply List.ext_getElem?
  intro i
  simp only [List.getElem?_mapIdx]
  cases hi : h[i]? with
  | none => rfl
  | some e =>
    have hl : i < h.length := (List.getElem?_eq_some_iff.mp hi).1
    show some (ρ' i, zM cI ρ' e) = some (ρ i, zM cI ρ e)
    rw [hr i (Or.inl hl), zM_use hr (List.all_eq_true.mp wf e (List.mem_of_getElem? hi))]
theorem zx_grow {p : Program} {l : Launch} {e : Env} {s : State} {m : MethodId} {args : Array Value} {below : List Frame} {meth : Method} {c : Code} {D : va_G} {cI : FieldType → ClassId} {A : Nat → Prop} {ρ0 ρ ρ' : Nat → Nat} {n0 : Nat} {H H1 : Heap} {locs locs1 : List Loc} {ls : Array Slot} {pc' kc' ks' : Nat} {st' : List Value} {es : zH}
    (k9 : ZX X mc ms d μ pc' L st' (h ++ es) kc' ks' Post) (hC : zCx μ p s m args meth c D cI A) (hn : n0 ≤ h.length) (hX : X s ρ0 A n0) (hR : zRel mc n0 ρ0 ρ) (hS : zSt μ D cI A s h L ρ H locs ls) (hr : ∀ k : Nat, (k < h.length ∨ 9000 ≤ k) → ρ' k = ρ k) (wf : zWfH h = true) (wL : zWfL h.length L = true) (hmc : mc ≠ 0)
    (h1 : va_P D vwCl (zw cI ρ h ++ es.mapIdx (fun i e => (ρ' (i + h.length), zM cI ρ' e))) H1) (h2 : va_D A (zw cI ρ h ++ es.mapIdx (fun i e => (ρ' (i + h.length), zM cI ρ' e)))) (h3 : va_S A s.heap H1 locs1) :
    W p l e (zR mc ms d) s m args below meth c H1 locs1 kc' ks' (MQ below (zQ D cI ρ0 n0 mc A Post) args s mc ms A) (F0 m pc' ls (st'.map (zV ρ'))) := by
  rw [← zw_app wf hr] at h1 h2
  refine k9 p l e s m args below meth c D cI A ρ0 n0 hC (by rw [List.length_append]; omega) hX ρ' H1 locs1 ls ⟨fun q => absurd q hmc, fun k hk => ?_⟩ ⟨h1, h2, h3, zWfL_use (mc := 1) ⟨fun q => absurd q (by decide), hr⟩ wL hS.2.2.2.1, ?_⟩
  · rw [hr k (by omega), hR.2 k hk]
  · exact hS.2.2.2.2.rel9 (fun k hk => hr k (Or.inr hk))
def zUp (ρ : Nat → Nat) (n q : Nat) : Nat → Nat := fun k => if k = n then q else ρ k
theorem zUp_n {ρ : Nat → Nat} {n q : Nat} : zUp ρ n q n = q := if_pos rfl
theorem zUp_r {ρ : Nat → Nat} {n q : Nat} (h9 : n < 9000) : ∀ k : Nat, (k < n ∨ 9000 ≤ k) → zUp ρ n q k = ρ k := fun k hk => if_neg (by omega)
theorem zUp_s {ρ : Nat → Nat} {n q : Nat} (h9 : n < 9000) (wS : zWfS n st = true) : .ref q :: st.map (zV ρ) = (.ref n :: st).map (zV (zUp ρ n q)) := by
  show _ = Value.ref (zUp ρ n q n) :: st.map (zV (zUp ρ n q))
  rw [zUp_n, zWfS_use (mc := 1) ⟨fun q => absurd q (by decide), zUp_r h9⟩ wS]
theorem ZX.new {ci N : Nat} {C : String} {T : u_T} (ty : Nat → FieldType) (fs : List Value) (hdg : decode μ.2.1 pc = .ok (.new idx, 3)) (hcl : zCl ci C T N) (hw : Cond.classLink μ.1.cls idx C ∈ zWd ∧ Cond.instantiable C N ∈ zWd ∧ Cond.initialized C ∈ zWd) (hty : ∀ k, k < N → parseFieldDescriptor (T k).2.2.1 = some (ty k)) (hfs : ∀ j, j < N → defaultValue (ty j) = vp_V fs j) (hfr : ∀ ρ : Nat → Nat, fs.map (zV ρ) = fs)
    (hk : kc + 1 ≤ mc ∧ ks + N ≤ ms) (h9 : h.length < 9000) (wf : zWfH h = true) (wL : zWfL h.length L = true) (wS : zWfS h.length st = true) (k9 : ZX X mc ms d μ (pc + 3) L (.ref h.length :: st) (h ++ [.inr (ci, fs)]) (kc + 1) (ks + N) Post) : ZX X mc ms d μ pc L st h kc ks Post := by
  intro p l e s m args below meth c D cI A ρ0 n0 hC hn hX ρ H locs ls hR hS
  obtain ⟨hx, hb, hml, hr0, hlk, hnm, hown, hts, hNw, hK, hA⟩ := id hC
  obtain ⟨hP, hD, hSS, hLL, hT⟩ := id hS
  refine va_new (D := D) (ci := ci) (fs := fs) hx hb hts hcl.2.1 ty hty hown (hts _ hw.1) (hts _ hw.2.1) (hts _ hw.2.2) hK hP hD hSS hA hcl.1 hfs hk.1 hk.2 hdg (fun q H1 q1 q2 q3 => ?_)
  rw [zUp_s h9 wS]
  have eE : [(q, Sum.inr (ci, fs))] = [(Sum.inr (ci, fs) : zE)].mapIdx (fun i e => (zUp ρ h.length q (i + h.length), zM cI (zUp ρ h.length q) e)) := by
    show _ = [(zUp ρ h.length q (0 + h.length), Sum.inr (ci, fs.map (zV (zUp ρ h.length q))))]
    rw [hfr, Nat.zero_add, zUp_n]
  rw [eE] at q1 q2
  exact zx_grow k9 hC hn hX hR hS (zUp_r h9) wf wL (by omega) q1 q2 q3
theorem ZX.newI {n : Int32} {N : Nat} (hdg : decode μ.2.1 pc = .ok (.newarray .int, 2)) (hN : n.toNatClampNeg = N) (hn0 : ¬ n < 0) (hb : N ≤ 1000) (hk : kc + 1 ≤ mc ∧ ks + N ≤ ms) (h9 : h.length < 9000) (wf : zWfH h = true) (wL : zWfL h.length L = true) (wS : zWfS h.length st = true)
    (k9 : ZX X mc ms d μ (pc + 2) L (.ref h.length :: st) (h ++ [.inl (.int, N, .inl (fun _ => 0))]) (kc + 1) (ks + N) Post) : ZX X mc ms d μ pc L (.int n :: st) h kc ks Post := by
  intro p l e s m args below meth c D cI A ρ0 n0 hC hn hX ρ H locs ls hR hS
  obtain ⟨hx, hb1, hml, hr0, hlk, hnm, hown, hts, hNw, hK, hA⟩ := id hC
  obtain ⟨hP, hD, hSS, hLL, hT⟩ := id hS
  refine va_newa (D := D) (a0 := (N, .inl (fun _ => 0))) hx hb1 (ty := .int) (hts _ (zWd_in 66 (by decide +kernel) rfl)) rfl hK hP hD hSS hA (fun _ => rfl) hn0 hN (show N * 4 ≤ _ by omega) hk.1 hk.2 hdg (fun q cA H1 q0 q1 q2 q3 => ?_)
  rw [zUp_s h9 wS]
  have ec : cA = cI .int := Option.some.inj ((va_nm_int (q0.2 4 (cA, .int) rfl).2).symm.trans (va_nm_int (hK.2 0 (cI .int, .int) rfl).2))
  have eE : [(q, (Sum.inl (cA, (N, Sum.inl (fun _ => 0))) : va_E))] = [(Sum.inl (.int, N, .inl (fun _ => 0)) : zE)].mapIdx (fun i e => (zUp ρ h.length q (i + h.length), zM cI (zUp ρ h.length q) e)) := by
    show _ = [(zUp ρ h.length q (0 + h.length), _)]
    rw [ec, Nat.zero_add, zUp_n]
    rfl
  rw [eE] at q1 q2
  exact zx_grow k9 hC hn hX hR hS (zUp_r h9) wf wL (by omega) q1 q2 q3
theorem ZX.newL {n : Int32} {N : Nat} (hdg : decode μ.2.1 pc = .ok (.newarray .long, 2)) (hN : n.toNatClampNeg = N) (hn0 : ¬ n < 0) (hb : N ≤ 1000) (hk : kc + 1 ≤ mc ∧ ks + N ≤ ms) (h9 : h.length < 9000) (wf : zWfH h = true) (wL : zWfL h.length L = true) (wS : zWfS h.length st = true)
    (k9 : ZX X mc ms d μ (pc + 2) L (.ref h.length :: st) (h ++ [.inl (.long, N, .inr (.inl (fun _ => 0)))]) (kc + 1) (ks + N) Post) : ZX X mc ms d μ pc L (.int n :: st) h kc ks Post := by
  intro p l e s m args below meth c D cI A ρ0 n0 hC hn hX ρ H locs ls hR hS
  obtain ⟨hx, hb1, hml, hr0, hlk, hnm, hown, hts, hNw, hK, hA⟩ := id hC
  obtain ⟨hP, hD, hSS, hLL, hT⟩ := id hS
  refine va_newa (D := D) (a0 := (N, .inr (.inl (fun _ => 0)))) hx hb1 (ty := .long) (hts _ (zWd_in 194 (by decide +kernel) rfl)) rfl hK hP hD hSS hA (fun _ => rfl) hn0 hN (show N * 8 ≤ _ by omega) hk.1 hk.2 hdg (fun q cA H1 q0 q1 q2 q3 => ?_)
  rw [zUp_s h9 wS]
  have ec : cA = cI .long := Option.some.inj ((va_nm_long (q0.2 4 (cA, .long) rfl).2).symm.trans (va_nm_long (hK.2 1 (cI .long, .long) rfl).2))
  have eE : [(q, (Sum.inl (cA, (N, Sum.inr (Sum.inl (fun _ => 0)))) : va_E))] = [(Sum.inl (.long, N, .inr (.inl (fun _ => 0))) : zE)].mapIdx (fun i e => (zUp ρ h.length q (i + h.length), zM cI (zUp ρ h.length q) e)) := by
    show _ = [(zUp ρ h.length q (0 + h.length), _)]
    rw [ec, Nat.zero_add, zUp_n]
    rfl
  rw [eE] at q1 q2
  exact zx_grow k9 hC hn hX hR hS (zUp_r h9) wf wL (by omega) q1 q2 q3
theorem ZX.objI (hdg : decode μ.2.1 pc = .ok (.invokespecial idx, 3)) (hw : Cond.methodLink μ.1.cls idx objectInit ∈ zWd ∧ Cond.instanceMethod objectInit ∈ zWd ∧ Cond.code objectInit ⟨#[0xb1]⟩ 1 none ∈ zWd) {a : Nat} (hd1 : 1 ≤ d) (hcat : (st.map fun v => v.category).sum ≤ 8) (k9 : ZX X mc ms d μ (pc + 3) L st h kc ks Post) : ZX X mc ms d μ pc L (.ref a :: st) h kc ks Post := by
  intro p l e s m args below meth c D cI A ρ0 n0 hC hn hX ρ H locs ls hR hS
  obtain ⟨hx, hb, hml, hr0, hlk, hnm, hown, hts, hNw, hK, hA⟩ := id hC
  obtain ⟨hP, hD, hSS, hLL, hT⟩ := id hS
  refine W.objInit hx hb hown (hts _ hw.1) (hts _ hw.2.1) (hts _ hw.2.2) rfl (by rw [hml]; exact hLL.1) rfl hdg hd1 ?_ (k9 p l e s m args below meth c D cI A ρ0 n0 hC hn hX ρ H locs ls hR hS)
  show 2 * 0 + ((st.map (zV ρ)).map fun v => v.category).sum + 12 ≤ 43 * d
  rw [zV_cats]
  omega
end ZXN
