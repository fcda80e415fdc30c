section ZXM
variable {X : State → (Nat → Nat) → (Nat → Prop) → Nat → Prop} {mc ms d : Nat} {μ : zU} {pc : Nat} {L : List (Option Value)} {st : List Value} {h : zH} {kc ks : Nat} {Post : Option Value → zH → Prop} {idx : Nat}
theorem zrow_q {ρ : Nat → Nat} {l : List (Option Nat)} {f : Nat → Option Nat} (h : ∀ j : Nat, (l.getD j none).map ρ = f j) : zMA ρ (.inr (.inr l)) = .inr (.inr (.inr (.inr f))) := by
  show Sum.inr (Sum.inr (Sum.inr (Sum.inr (fun j => (l.getD j none).map ρ)))) = _
  rw [show (fun j => (l.getD j none).map ρ) = f from funext h]
theorem zrow_none (N j : Nat) (ρ : Nat → Nat) : ((List.replicate N (none : Option Nat)).getD j none).map ρ = none := by
  rw [List.getD_eq_getElem?_getD, List.getElem?_replicate]
  split <;> rfl
theorem ZX.newS {n : Int32} {N : Nat} (hdg : decode μ.2.1 pc = .ok (.anewarray idx, 3)) (hw : Cond.classLink μ.1.cls idx "OffsetChains$Sheet" ∈ zWd) (hO : ∀ (s : State) (ρ : Nat → Nat) (A : Nat → Prop) (n : Nat), X s ρ A n → va_AO "OffsetChains$Sheet" s) (hN : n.toNatClampNeg = N) (hn0 : ¬ n < 0) (hb : N ≤ 1000) (hk : kc + 1 ≤ mc ∧ ks + N ≤ ms) (h9 : h.length < 9000) (wf : zWfH h = true) (wL : zWfL h.length L = true) (wS : zWfS h.length st = true)
    (k9 : ZX X mc ms d μ (pc + 3) L (.ref h.length :: st) (h ++ [.inl (.object "OffsetChains$Sheet", N, .inr (.inr (List.replicate N none)))]) (kc + 1) (ks + N) Post) : ZX X mc ms d μ pc L (.int n :: st) h kc ks Post := by
  intro p l e s m args below meth c D cI A ρ0 n0 hC hn hX ρ H locs ls hR hS
  obtain ⟨hx, hb1, hml, hr0, hlk, hnm, hown, hts, hNw, hK, hA⟩ := id hC
  obtain ⟨hP, hD, hSS, hLL, hT⟩ := id hS
  refine va_newq (D := D) hx hb1 hown (hts _ hw) (hO _ _ _ _ hX) hK hP hD hSS hA hn0 hN (by omega) hk.1 hk.2 hdg (fun q cA H1 q0 q1 q2 q3 => ?_)
  rw [zUp_s h9 wS]
  have ec : cA = cI (.object "OffsetChains$Sheet") := Option.some.inj ((va_nmO (q0.2 4 (cA, .object "OffsetChains$Sheet") rfl).2 rfl).symm.trans (va_nmO (hK.2 3 (cI (.object "OffsetChains$Sheet"), .object "OffsetChains$Sheet") rfl).2 rfl))
  have eE : [(q, (Sum.inl (cA, (N, Sum.inr (Sum.inr (Sum.inr (Sum.inr (fun _ => none)))))) : va_E))] = [(Sum.inl (.object "OffsetChains$Sheet", N, .inr (.inr (List.replicate N none))) : zE)].mapIdx (fun i e => (zUp ρ h.length q (i + h.length), zM cI (zUp ρ h.length q) e)) := by
    show _ = [(zUp ρ h.length q (0 + h.length), Sum.inl (cI (.object "OffsetChains$Sheet"), N, zMA (zUp ρ h.length q) (.inr (.inr (List.replicate N none)))))]
    rw [ec, Nat.zero_add, zUp_n, zrow_q (fun j => zrow_none N j _)]
  rw [eE] at q1 q2
  exact zx_grow k9 hC hn hX hR hS (zUp_r h9) wf wL (by omega) q1 q2 q3
theorem ZX.aastS {a n v : Nat} {fs : List Value} {q : List (Option Nat)} {i : Int32} {k : Nat} (hdg : decode μ.2.1 pc = .ok (.aastore, 1)) (he : h[a]? = some (.inl (.object "OffsetChains$Sheet", n, .inr (.inr q)))) (hv : h[v]? = some (.inr (3, fs))) (hi : i.toNatClampNeg = k) (hin : vp_in i n) (hq : q.length = n)
    (k9 : ZX X mc ms d μ (pc + 1) L st (h.set a (.inl (.object "OffsetChains$Sheet", n, .inr (.inr (q.set k (some v)))))) kc ks Post) : ZX X mc ms d μ pc L (.ref v :: .int i :: .ref a :: st) h kc ks Post := by
  intro p l e s m args below meth c D cI A ρ0 n0 hC hn hX ρ H locs ls hR hS
  obtain ⟨hx, hb1, hml, hr0, hlk, hnm, hown, hts, hNw, hK, hA⟩ := id hC
  obtain ⟨hP, hD, hSS, hLL, hT⟩ := id hS
  subst hi
  have hlt : i.toNatClampNeg < n := Nat.not_le.mp fun q => hin (Or.inr q)
  have eM : zM cI ρ (.inl (.object "OffsetChains$Sheet", n, .inr (.inr (q.set i.toNatClampNeg (some v))))) = .inl (cI (.object "OffsetChains$Sheet"), n, .inr (.inr (.inr (.inr (va_up (fun j => (q.getD j none).map ρ) i.toNatClampNeg (some (ρ v))))))) := by
    show Sum.inl (cI (.object "OffsetChains$Sheet"), n, zMA ρ (.inr (.inr (q.set i.toNatClampNeg (some v))))) = _
    rw [zrow_q (f := va_up (fun j => (q.getD j none).map ρ) i.toNatClampNeg (some (ρ v))) (fun j => ?_)]
    show _ = if j = i.toNatClampNeg then _ else _
    rw [List.getD_eq_getElem?_getD, List.getElem?_set]
    by_cases e : j = i.toNatClampNeg
    · rw [if_pos e, if_pos e.symm, if_pos (by omega)]
      rfl
    · rw [if_neg e, if_neg (fun z => e z.symm)]
      show _ = Option.map ρ (q.getD j none)
      rw [List.getD_eq_getElem?_getD]
  refine va_astq (D := D) (ci := 3) (vs := fs.map (zV ρ)) hx hb1 hK hP hD hSS a 3 v (zw_at he) (r := (RX3, TX3, 4)) rfl (zw_at hv) rfl hin hdg (fun H1 locs1 q1 q2 q3 => ?_)
  have q1' : va_P D vwCl ((zw cI ρ h).set a (ρ a, zM cI ρ (.inl (.object "OffsetChains$Sheet", n, .inr (.inr (q.set i.toNatClampNeg (some v))))))) H1 := by rw [eM]; exact q1
  have q2' : va_D A ((zw cI ρ h).set a (ρ a, zM cI ρ (.inl (.object "OffsetChains$Sheet", n, .inr (.inr (q.set i.toNatClampNeg (some v))))))) := by rw [eM]; exact q2
  exact k9 p l e s m args below meth c D cI A ρ0 n0 hC (by rw [List.length_set]; exact hn) hX ρ H1 locs1 ls hR (hS.set q1' q2' q3)
/-- the cells of an array of N rows -/
def zmE (b N M : Nat) : zH := .inl (.array .int, N, .inr (.inr ((List.range N).map (fun i => some (b + 1 + i))))) :: List.replicate N (.inl (.int, M, .inl (fun _ => 0)))
def zUm (ρ : Nat → Nat) (n N q : Nat) : Nat → Nat := fun k => if n ≤ k ∧ k ≤ n + N then q + (k - n) else ρ k
theorem zUm_r {ρ : Nat → Nat} {n N q : Nat} (h9 : n + N < 9000) : ∀ k : Nat, (k < n ∨ 9000 ≤ k) → zUm ρ n N q k = ρ k := fun k hk => if_neg (by omega)
theorem zUm_n {ρ : Nat → Nat} {n N q i : Nat} (hi : i ≤ N) : zUm ρ n N q (n + i) = q + i := by
  unfold zUm
  rw [if_pos (by omega)]
  omega
theorem ZX.multi {n k : Int32} {N M : Nat} (hdg : decode μ.2.1 pc = .ok (.multianewarray idx 2, 4)) (hw : Cond.classLink μ.1.cls idx "[[I" ∈ zWd) (hO : ∀ (s : State) (ρ : Nat → Nat) (A : Nat → Prop) (n : Nat), X s ρ A n → va_AOA .int s) (hN : n.toNatClampNeg = N) (hM : k.toNatClampNeg = M) (hn0 : ¬ n < 0) (hk0 : ¬ k < 0) (bN : N ≤ 100) (bM : M ≤ 1000)
    (hk : kc + (1 + N) ≤ mc ∧ ks + (N + N * M) ≤ ms) (h9 : h.length + N < 9000) (wf : zWfH h = true) (wL : zWfL h.length L = true) (wS : zWfS h.length st = true)
    (k9 : ZX X mc ms d μ (pc + 4) L (.ref h.length :: st) (h ++ zmE h.length N M) (kc + (1 + N)) (ks + (N + N * M)) Post) : ZX X mc ms d μ pc L (.int k :: .int n :: st) h kc ks Post := by
  intro p l e s m args below meth c D cI A ρ0 n0 hC hn hX ρ H locs ls hR hS
  obtain ⟨hx, hb1, hml, hr0, hlk, hnm, hown, hts, hNw, hK, hA⟩ := id hC
  obtain ⟨hP, hD, hSS, hLL, hT⟩ := id hS
  have eAA : "[" ++ (FieldType.array .int).toString = "[[I" := by decide +kernel
  have eI : "[" ++ FieldType.int.toString = "[I" := by decide +kernel
  refine zMulti hx hb1 hown (by rw [eAA]; exact hts _ hw) (va_AOA.use (hO _ _ _ _ hX)) (hts _ (zWd_in 66 (by decide +kernel) rfl)) rfl hdg rfl hN hM hn0 hk0 bN bM hk.1 hk.2 (fun cA comp H1 L1 f1 f2 z1 o1 l1 e0 e1 => ?_)
  have cO : cA = cI (.array .int) := Option.some.inj (f1.symm.trans (hK.2 2 (cI (.array .int), .array .int) rfl).2)
  have cR : comp = cI .int := Option.some.inj (f2.symm.trans (hK.2 0 (cI .int, .int) rfl).2)
  subst cO
  subst cR
  have e9 : (Value.ref H.size :: st.map (zV ρ)) = (.ref h.length :: st).map (zV (zUm ρ h.length N H.size)) := by
    show _ = Value.ref (zUm ρ h.length N H.size h.length) :: st.map (zV (zUm ρ h.length N H.size))
    rw [zWfS_use (mc := 1) ⟨fun q => absurd q (by decide), zUm_r h9⟩ wS, show zUm ρ h.length N H.size h.length = H.size from zUm_n (i := 0) (Nat.zero_le _)]
  show W p l e (zR mc ms d) s m args below meth c H1 L1 _ _ _ (F0 m (pc + 4) ls (.ref H.size :: st.map (zV ρ)))
  rw [e9]
  have hlt : ∀ (i : Nat) (q : Nat × va_E), (zw cI ρ h)[i]? = some q → q.1 < H.size := fun i q hq => (hP i q hq).lt
  have hlen : (zmE h.length N M).length = N + 1 := by simp [zmE]
  -- the new cells, by their number
  have hE : ∀ (i : Nat) (q : Nat × va_E), ((zmE h.length N M).mapIdx (fun i e => (zUm ρ h.length N H.size (i + h.length), zM cI (zUm ρ h.length N H.size) e)))[i]? = some q → i ≤ N ∧ q.1 = H.size + i ∧ va_at D vwCl q H1 := fun i q hq => by
    rw [List.getElem?_mapIdx] at hq
    have hi : i < (zmE h.length N M).length := by
      rcases Nat.lt_or_ge i (zmE h.length N M).length with h | h
      · exact h
      · rw [List.getElem?_eq_none h] at hq
        cases hq
    have hi' : i ≤ N := by omega
    have ea : zUm ρ h.length N H.size (i + h.length) = H.size + i := by rw [Nat.add_comm i]; exact zUm_n hi'
    cases i with
    | zero =>
      have hq2 : some (zUm ρ h.length N H.size (0 + h.length), zM cI (zUm ρ h.length N H.size) (.inl (.array .int, N, .inr (.inr ((List.range N).map (fun i => some (h.length + 1 + i))))))) = some q := hq
      cases hq2
      refine ⟨hi', ea, ?_⟩
      show H1[zUm ρ h.length N H.size (0 + h.length)]? = some (vp_cell (cI (.array .int)) (N, zMA (zUm ρ h.length N H.size) (.inr (.inr ((List.range N).map (fun i => some (h.length + 1 + i)))))))
      rw [ea, zrow_q (f := fun j => if j < N then some (H.size + 1 + j) else none) (fun j => ?_)]
      · rw [vp_cell_q]
        refine e0.trans ?_
        congr 2
        funext j
        by_cases q : j < N
        · rw [if_pos q, if_pos q]
          rfl
        · rw [if_neg q, if_neg q]
          rfl
      · rw [List.getD_eq_getElem?_getD, List.getElem?_map]
        by_cases q : j < N
        · rw [if_pos q, List.getElem?_range q]
          show some (zUm ρ h.length N H.size (h.length + 1 + j)) = _
          rw [Nat.add_assoc, zUm_n (by omega), Nat.add_assoc]
        · rw [if_neg q, List.getElem?_eq_none (by rw [List.length_range]; omega)]
          rfl
    | succ i =>
      have hr : (zmE h.length N M)[i + 1]? = some (.inl (.int, M, .inl (fun _ => 0))) := by
        show (List.replicate N (Sum.inl (FieldType.int, M, Sum.inl (fun _ => 0)) : zE))[i]? = _
        rw [List.getElem?_replicate, if_pos (by omega)]
      rw [hr] at hq
      cases hq
      refine ⟨hi', ea, ?_⟩
      show H1[zUm ρ h.length N H.size (i + 1 + h.length)]? = some (vp_cell (cI .int) (M, .inl (fun _ => 0)))
      rw [ea, show H.size + (i + 1) = H.size + 1 + i by omega]
      exact e1 i (by omega)
  refine zx_grow k9 hC hn hX hR hS (zUm_r h9) wf wL (by omega) ?_ ?_ ?_
  · exact (hP.kept (fun i q hq => o1 q.1 (hlt i q hq))).app (fun i q hq => (hE i q hq).2.2)
  · refine hD.app ⟨fun i j a b ha hb e => ?_, fun i q hq => ?_⟩ (fun i j a b ha hb e => ?_)
    · have h1 := (hE i a ha).2.1
      have h2 := (hE j b hb).2.1
      omega
    · have h1 := (hE i q hq).2.1
      exact hA _ (by have := hSS.1; omega)
    · have h1 := hlt i a ha
      have h2 := (hE j b hb).2.1
      omega
  · refine ⟨by have := hSS.1; omega, fun q h1 h2 => (o1 q (Nat.lt_of_lt_of_le h1 hSS.1)).trans (hSS.2.1 q h1 h2), fun q hq => ?_⟩
    rcases l1 q hq with h | h
    · exact hSS.2.2 q h
    · rw [h]
      exact hA _ hSS.1
/-! contracts of what makes things -/
def zMetO (XO : State → Prop) (mc ms d : Nat) (μ : zU) (avs : List Value) (h0 : zH) (Post : Option Value → zH → Prop) : Prop :=
  ∀ (l : Launch) (D : va_G) (cI : FieldType → ClassId) (ρ0 : Nat → Nat) (sz : Nat), Met l μ.1 (.code μ.1 μ.2.1 μ.2.2.1 μ.2.2.2 :: zWd) (zR mc ms d)
    (va_Pc (avs.map (zV ρ0)) (fun U => U.heap.size = sz ∧ va_P D vwCl (zw cI ρ0 h0) U.heap ∧ va_K D vwCl (zTys cI) U ∧ va_D (fun _ => True) (zw cI ρ0 h0) ∧ zNw U ∧ zT ρ0 (va_A (zw cI ρ0 h0) sz) U U.heap ∧ XO U))
    (zQ D cI ρ0 h0.length mc (va_A (zw cI ρ0 h0) sz) Post) mc ms (va_A (zw cI ρ0 h0) sz)
def zCO (XO : State → Prop) (mc ms hd : Nat) (μ : zU) (avs : List Value) (h0 : zH) (Post : Option Value → zH → Prop) : Prop := ∀ d : Nat, hd ≤ d → zMetO XO mc ms d μ avs h0 Post
theorem zCO.of {XO : State → Prop} {hd : Nat} {avs : List Value} {h0 : zH} (hpl : plainName μ.1.cls = true) (hsl : (lg_sl avs).length ≤ μ.2.2.1)
    (k : ∀ d : Nat, hd ≤ d → ZX (fun s _ _ _ => XO s) mc ms d μ 0 (zEnt avs μ.2.2.1) [] h0 0 0 Post) : zCO XO mc ms hd μ avs h0 Post := by
  intro d hd' l D cI ρ0 sz
  refine Met.ofW (cc := μ.2.1) (maxL := μ.2.2.1) (ret := μ.2.2.2) hpl rfl ?_
  intro p e s m args below meth c s₁ B hml hv
  obtain ⟨rfl, hsz, hP, hK, hD0, hN, hT, hO⟩ := hv
  have hts0 := atoms_spec (ws := .code μ.1 μ.2.1 μ.2.2.1 μ.2.2.2 :: zWd) B.pre
  have hown : s.vm.findClass μ.1.cls = some m.cls := findClass_of_methodNamed B.named
  have hin : meth.name = μ.1.name := (name_of_methodNamed B.named B.method).1
  subst hsz
  have hD := hD0.self (sz := s.heap.size)
  have hl := lv_entry (avs.map (zV ρ0)) (n := μ.2.2.1) (by rw [zSl]; exact hsl)
  rw [lg_entry_eq]
  exact k d hd' p l e s m _ below meth c D cI _ ρ0 h0.length ⟨B.exec, B.bytes, hml, B.returns, B.notSynchronized, hin, hown, fun w hw => hts0 w (List.mem_cons_of_mem _ hw), hN, hK, fun q hq => Or.inr hq⟩ (Nat.le_refl _) hO ρ0 s.heap [] _ zRel.rf ⟨hP, hD, va_S.rf, zL_ent hl, hT⟩
end ZXM
