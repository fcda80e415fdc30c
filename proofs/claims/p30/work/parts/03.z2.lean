section ZI
variable {mc ms d : Nat} {μ : zU} {pc : Nat} {L : List (Option Value)} {st : List Value} {h : zH} {kc ks : Nat} {Post : Option Value → zH → Prop}
theorem Z.pure {pc' : Nat} {st' : List Value} (f : ∀ {p : Program} {l : Launch} {e : Env} {s : State} {m : MethodId} {args : Array Value} {below : List Frame} {meth : Method} {c : Code} {H : Heap} {locs : List Loc} {ls : Array Slot} {ρ : Nat → Nat} {Q : State → Prop}, p.tables.exec = Jvm.exec → c.code = μ.2.1 → s.vm.findClass μ.1.cls = some m.cls → (∀ w ∈ zWd, w.before args s = true) →
      W p l e (zR mc ms d) s m args below meth c H locs kc ks Q (F0 m pc' ls (st'.map (zV ρ))) → W p l e (zR mc ms d) s m args below meth c H locs kc ks Q (F0 m pc ls (st.map (zV ρ))))
    (k : Z mc ms d μ pc' L st' h kc ks Post) : Z mc ms d μ pc L st h kc ks Post := by
  intro p l e s m args below meth c D cI A ρ0 n0 hC hn ρ H locs ls hR hS
  exact f hC.1 hC.2.1 hC.2.2.2.2.2.2.1 hC.2.2.2.2.2.2.2.1 (k p l e s m args below meth c D cI A ρ0 n0 hC hn ρ H locs ls hR hS)
theorem Z.br {c1 : Prop} {pc1 pc2 : Nat} {st' : List Value} (f : ∀ {p : Program} {l : Launch} {e : Env} {s : State} {m : MethodId} {args : Array Value} {below : List Frame} {meth : Method} {c : Code} {H : Heap} {locs : List Loc} {ls : Array Slot} {ρ : Nat → Nat} {Q : State → Prop}, p.tables.exec = Jvm.exec → c.code = μ.2.1 →
      (c1 → W p l e (zR mc ms d) s m args below meth c H locs kc ks Q (F0 m pc1 ls (st'.map (zV ρ)))) → (¬ c1 → W p l e (zR mc ms d) s m args below meth c H locs kc ks Q (F0 m pc2 ls (st'.map (zV ρ)))) → W p l e (zR mc ms d) s m args below meth c H locs kc ks Q (F0 m pc ls (st.map (zV ρ))))
    (k1 : c1 → Z mc ms d μ pc1 L st' h kc ks Post) (k2 : ¬ c1 → Z mc ms d μ pc2 L st' h kc ks Post) : Z mc ms d μ pc L st h kc ks Post := by
  intro p l e s m args below meth c D cI A ρ0 n0 hC hn ρ H locs ls hR hS
  exact f hC.1 hC.2.1 (fun q => k1 q p l e s m args below meth c D cI A ρ0 n0 hC hn ρ H locs ls hR hS) (fun q => k2 q p l e s m args below meth c D cI A ρ0 n0 hC hn ρ H locs ls hR hS)
/-- the locals' reading: a value that is known -/
theorem Z.lds {pc' : Nat} {i : Nat} {v : Value} (f : ∀ {p : Program} {l : Launch} {e : Env} {s : State} {m : MethodId} {args : Array Value} {below : List Frame} {meth : Method} {c : Code} {H : Heap} {locs : List Loc} {ls : Array Slot} {ρ : Nat → Nat} {Q : State → Prop}, p.tables.exec = Jvm.exec → c.code = μ.2.1 → ls[i]? = some (.val (zV ρ v)) →
      W p l e (zR mc ms d) s m args below meth c H locs kc ks Q (F0 m pc' ls ((v :: st).map (zV ρ))) → W p l e (zR mc ms d) s m args below meth c H locs kc ks Q (F0 m pc ls (st.map (zV ρ))))
    (hl : L[i]? = some (some v)) (k : Z mc ms d μ pc' L (v :: st) h kc ks Post) : Z mc ms d μ pc L st h kc ks Post := by
  intro p l e s m args below meth c D cI A ρ0 n0 hC hn ρ H locs ls hR hS
  exact f hC.1 hC.2.1 (hS.2.2.2.1.2.2 i v hl) (k p l e s m args below meth c D cI A ρ0 n0 hC hn ρ H locs ls hR hS)
def zNl (L : List (Option Value)) (i : Nat) : Bool := match i with
  | 0 => true
  | j + 1 => match L[j]? with
    | some (some v) => v.category == 1
    | _ => true
def zAs (ρ : Nat → Nat) (L : List (Option Value)) : List (Nat × Value) := (List.range L.length).filterMap (fun i => match L[i]? with
  | some (some v) => some (i, zV ρ v)
  | _ => none)
theorem zAs_in {ρ : Nat → Nat} {L : List (Option Value)} {i : Nat} {v : Value} (h : L[i]? = some (some v)) : (i, zV ρ v) ∈ zAs ρ L := by
  refine List.mem_filterMap.mpr ⟨i, List.mem_range.mpr (List.getElem?_eq_some_iff.mp h).1, ?_⟩
  rw [h]
theorem zAs_of {ρ : Nat → Nat} {L : List (Option Value)} {q : Nat × Value} (h : q ∈ zAs ρ L) : ∃ v, L[q.1]? = some (some v) ∧ q.2 = zV ρ v := by
  obtain ⟨i, -, hi⟩ := List.mem_filterMap.mp h
  split at hi
  · rename_i v hv
    cases hi
    exact ⟨v, hv, rfl⟩
  · cases hi
theorem zL_has {nL : Nat} {ρ : Nat → Nat} {ls : Array Slot} {L : List (Option Value)} (h : zL nL ρ ls L) : lv_has ls nL (zAs ρ L) := by
  refine ⟨h.1, h.2.1, fun q hq => ?_⟩
  obtain ⟨v, h1, h2⟩ := zAs_of hq
  rw [h2]
  exact h.2.2 _ _ h1
theorem zNl_use {L : List (Option Value)} {i j : Nat} {v : Value} (h : zNl L i = true) (hj : L[j]? = some (some v)) (e : j + 1 = i) : (v.category == 2) = false := by
  subst e
  unfold zNl at h
  dsimp only at h
  rw [hj] at h
  have : v.category = 1 := by simpa using h
  rw [this]
  rfl
theorem zL_set1 {nL : Nat} {ρ : Nat → Nat} {ls' : Array Slot} {L : List (Option Value)} {i : Nat} {v : Value} (hn : zNl L i = true) (h : lv_has ls' nL ((i, zV ρ v) :: (zAs ρ L).filter (fun q => !(q.1 == i) && !(q.1 + 1 == i && q.2.category == 2)))) : zL nL ρ ls' (L.set i (some v)) := by
  refine ⟨h.1, h.2.1, fun j u hj => ?_⟩
  by_cases e : i = j
  · subst e
    have hl : i < L.length := by
      have := (List.getElem?_eq_some_iff.mp hj).1
      simpa using this
    rw [List.getElem?_set_self hl] at hj
    cases hj
    exact h.2.2 _ List.mem_cons_self
  · rw [List.getElem?_set_ne e] at hj
    refine h.2.2 (j, zV ρ u) (List.mem_cons_of_mem _ (List.mem_filter.mpr ⟨zAs_in hj, ?_⟩))
    have e2 : (j == i) = false := by simpa using fun q => e q.symm
    show (!(j == i) && !(j + 1 == i && (zV ρ u).category == 2)) = true
    rw [e2, zV_cat]
    by_cases e3 : j + 1 = i
    · rw [zNl_use hn hj e3]
      simp
    · simp [e3]
theorem zL_set2 {nL : Nat} {ρ : Nat → Nat} {ls' : Array Slot} {L : List (Option Value)} {i : Nat} {v : Value} (hn : zNl L i = true) (h : lv_has ls' nL ((i, zV ρ v) :: (zAs ρ L).filter (fun q => !(q.1 == i) && (!(q.1 == i + 1) && !(q.1 + 1 == i && q.2.category == 2))))) : zL nL ρ ls' ((L.set i (some v)).set (i + 1) none) := by
  refine ⟨h.1, h.2.1, fun j u hj => ?_⟩
  by_cases e0 : i + 1 = j
  · subst e0
    rw [List.getElem?_set] at hj
    split at hj
    · split at hj <;> cases hj
    · exact absurd rfl ‹_›
  · rw [List.getElem?_set_ne e0] at hj
    by_cases e : i = j
    · subst e
      have hl : i < L.length := by
        have := (List.getElem?_eq_some_iff.mp hj).1
        simpa using this
      rw [List.getElem?_set_self hl] at hj
      cases hj
      exact h.2.2 _ List.mem_cons_self
    · rw [List.getElem?_set_ne e] at hj
      refine h.2.2 (j, zV ρ u) (List.mem_cons_of_mem _ (List.mem_filter.mpr ⟨zAs_in hj, ?_⟩))
      have e2 : (j == i) = false := by simpa using fun q => e q.symm
      have e4 : (j == i + 1) = false := by simpa using fun q => e0 q.symm
      show (!(j == i) && (!(j == i + 1) && !(j + 1 == i && (zV ρ u).category == 2))) = true
      rw [e2, e4, zV_cat]
      by_cases e3 : j + 1 = i
      · rw [zNl_use hn hj e3]
        simp
      · simp [e3]
/-- a store into the locals -/
theorem Z.sto {pc' : Nat} {L' : List (Option Value)} {st' : List Value} (f : ∀ {p : Program} {l : Launch} {e : Env} {s : State} {m : MethodId} {args : Array Value} {below : List Frame} {meth : Method} {c : Code} {H : Heap} {locs : List Loc} {ls : Array Slot} {ρ : Nat → Nat} {Q : State → Prop}, p.tables.exec = Jvm.exec → c.code = μ.2.1 → zL μ.2.2.1 ρ ls L →
      (∀ ls' : Array Slot, zL μ.2.2.1 ρ ls' L' → W p l e (zR mc ms d) s m args below meth c H locs kc ks Q (F0 m pc' ls' (st'.map (zV ρ)))) → W p l e (zR mc ms d) s m args below meth c H locs kc ks Q (F0 m pc ls (st.map (zV ρ))))
    (k : Z mc ms d μ pc' L' st' h kc ks Post) : Z mc ms d μ pc L st h kc ks Post := by
  intro p l e s m args below meth c D cI A ρ0 n0 hC hn ρ H locs ls hR hS
  exact f hC.1 hC.2.1 hS.2.2.2.1 (fun ls' hl' => k p l e s m args below meth c D cI A ρ0 n0 hC hn ρ H locs ls' hR ⟨hS.1, hS.2.1, hS.2.2.1, hl', hS.2.2.2.2⟩)
theorem Z.iadd {x y : Int32} (hdg : decode μ.2.1 pc = .ok (.iadd, 1))  (k : Z mc ms d μ (pc + 1) L (.int (x + y) :: st) h kc ks Post) : Z mc ms d μ pc L (.int y :: .int x :: st) h kc ks Post := Z.pure (fun hx hb ho ht w => lv_iadd hx hb hdg w) k
theorem Z.isub {x y : Int32} (hdg : decode μ.2.1 pc = .ok (.isub, 1))  (k : Z mc ms d μ (pc + 1) L (.int (x - y) :: st) h kc ks Post) : Z mc ms d μ pc L (.int y :: .int x :: st) h kc ks Post := Z.pure (fun hx hb ho ht w => lv_isub hx hb hdg w) k
theorem Z.imul {x y : Int32} (hdg : decode μ.2.1 pc = .ok (.imul, 1))  (k : Z mc ms d μ (pc + 1) L (.int (x * y) :: st) h kc ks Post) : Z mc ms d μ pc L (.int y :: .int x :: st) h kc ks Post := Z.pure (fun hx hb ho ht w => lv_imul hx hb hdg w) k
theorem Z.iand {x y : Int32} (hdg : decode μ.2.1 pc = .ok (.iand, 1))  (k : Z mc ms d μ (pc + 1) L (.int (x &&& y) :: st) h kc ks Post) : Z mc ms d μ pc L (.int y :: .int x :: st) h kc ks Post := Z.pure (fun hx hb ho ht w => lv_iand hx hb hdg w) k
theorem Z.ior {x y : Int32} (hdg : decode μ.2.1 pc = .ok (.ior, 1))  (k : Z mc ms d μ (pc + 1) L (.int (x ||| y) :: st) h kc ks Post) : Z mc ms d μ pc L (.int y :: .int x :: st) h kc ks Post := Z.pure (fun hx hb ho ht w => lv_ior hx hb hdg w) k
theorem Z.ixor {x y : Int32} (hdg : decode μ.2.1 pc = .ok (.ixor, 1))  (k : Z mc ms d μ (pc + 1) L (.int (x ^^^ y) :: st) h kc ks Post) : Z mc ms d μ pc L (.int y :: .int x :: st) h kc ks Post := Z.pure (fun hx hb ho ht w => lv_ixor hx hb hdg w) k
theorem Z.ishl {x y : Int32} (hdg : decode μ.2.1 pc = .ok (.ishl, 1))  (k : Z mc ms d μ (pc + 1) L (.int (x <<< (y &&& 31)) :: st) h kc ks Post) : Z mc ms d μ pc L (.int y :: .int x :: st) h kc ks Post := Z.pure (fun hx hb ho ht w => lv_ishl hx hb hdg w) k
theorem Z.ishr {x y : Int32} (hdg : decode μ.2.1 pc = .ok (.ishr, 1))  (k : Z mc ms d μ (pc + 1) L (.int (x >>> (y &&& 31)) :: st) h kc ks Post) : Z mc ms d μ pc L (.int y :: .int x :: st) h kc ks Post := Z.pure (fun hx hb ho ht w => lv_ishr hx hb hdg w) k
theorem Z.iushr {x y : Int32} (hdg : decode μ.2.1 pc = .ok (.iushr, 1))  (k : Z mc ms d μ (pc + 1) L (.int (x.toUInt32 >>> (y.toUInt32 &&& Int32.toUInt32 31)).toInt32 :: st) h kc ks Post) : Z mc ms d μ pc L (.int y :: .int x :: st) h kc ks Post := Z.pure (fun hx hb ho ht w => lv_iushr hx hb hdg rfl w) k
theorem Z.idiv {x y : Int32} (hdg : decode μ.2.1 pc = .ok (.idiv, 1)) (hne : ¬ y = 0) (k : Z mc ms d μ (pc + 1) L (.int (x / y) :: st) h kc ks Post) : Z mc ms d μ pc L (.int y :: .int x :: st) h kc ks Post := Z.pure (fun hx hb ho ht w => lv_idiv hx hb hdg hne w) k
theorem Z.irem {x y : Int32} (hdg : decode μ.2.1 pc = .ok (.irem, 1)) (hne : ¬ y = 0) (k : Z mc ms d μ (pc + 1) L (.int (x - x / y * y) :: st) h kc ks Post) : Z mc ms d μ pc L (.int y :: .int x :: st) h kc ks Post := Z.pure (fun hx hb ho ht w => lv_irem hx hb hdg hne w) k
theorem Z.ladd {x y : Int64} (hdg : decode μ.2.1 pc = .ok (.ladd, 1))  (k : Z mc ms d μ (pc + 1) L (.long (x + y) :: st) h kc ks Post) : Z mc ms d μ pc L (.long y :: .long x :: st) h kc ks Post := Z.pure (fun hx hb ho ht w => lv_ladd hx hb hdg w) k
theorem Z.lsub {x y : Int64} (hdg : decode μ.2.1 pc = .ok (.lsub, 1))  (k : Z mc ms d μ (pc + 1) L (.long (x - y) :: st) h kc ks Post) : Z mc ms d μ pc L (.long y :: .long x :: st) h kc ks Post := Z.pure (fun hx hb ho ht w => lv_lsub hx hb hdg w) k
theorem Z.lmul {x y : Int64} (hdg : decode μ.2.1 pc = .ok (.lmul, 1))  (k : Z mc ms d μ (pc + 1) L (.long (x * y) :: st) h kc ks Post) : Z mc ms d μ pc L (.long y :: .long x :: st) h kc ks Post := Z.pure (fun hx hb ho ht w => lv_lmul hx hb hdg w) k
theorem Z.ldiv {x y : Int64} (hdg : decode μ.2.1 pc = .ok (.ldiv, 1)) (hne : ¬ y = 0) (k : Z mc ms d μ (pc + 1) L (.long (x / y) :: st) h kc ks Post) : Z mc ms d μ pc L (.long y :: .long x :: st) h kc ks Post := Z.pure (fun hx hb ho ht w => lv_ldiv hx hb hdg hne w) k
theorem Z.lrem {x y : Int64} (hdg : decode μ.2.1 pc = .ok (.lrem, 1)) (hne : ¬ y = 0) (k : Z mc ms d μ (pc + 1) L (.long (x - x / y * y) :: st) h kc ks Post) : Z mc ms d μ pc L (.long y :: .long x :: st) h kc ks Post := Z.pure (fun hx hb ho ht w => lv_lrem hx hb hdg hne w) k
theorem Z.lcmp {x y : Int64} (hdg : decode μ.2.1 pc = .ok (.lcmp, 1))  (k : Z mc ms d μ (pc + 1) L (.int (lg_cmp x y) :: st) h kc ks Post) : Z mc ms d μ pc L (.long y :: .long x :: st) h kc ks Post := Z.pure (fun hx hb ho ht w => W.lcmp hx hb hdg w) k
theorem Z.i2l {x : Int32} (hdg : decode μ.2.1 pc = .ok (.i2l, 1))  (k : Z mc ms d μ (pc + 1) L (.long x.toInt64 :: st) h kc ks Post) : Z mc ms d μ pc L (.int x :: st) h kc ks Post := Z.pure (fun hx hb ho ht w => lv_i2l hx hb hdg rfl w) k
theorem Z.l2i {x : Int64} (hdg : decode μ.2.1 pc = .ok (.l2i, 1))  (k : Z mc ms d μ (pc + 1) L (.int x.toInt32 :: st) h kc ks Post) : Z mc ms d μ pc L (.long x :: st) h kc ks Post := Z.pure (fun hx hb ho ht w => lv_l2i hx hb hdg rfl w) k
theorem Z.i2s {x : Int32} (hdg : decode μ.2.1 pc = .ok (.i2s, 1))  (k : Z mc ms d μ (pc + 1) L (.int x.toInt16.toInt32 :: st) h kc ks Post) : Z mc ms d μ pc L (.int x :: st) h kc ks Post := Z.pure (fun hx hb ho ht w => lv_i2s hx hb hdg rfl w) k
theorem Z.dup {v : Value} (hdg : decode μ.2.1 pc = .ok (.dup, 1)) (hv : v.category = 1) (k : Z mc ms d μ (pc + 1) L (v :: v :: st) h kc ks Post) : Z mc ms d μ pc L (v :: st) h kc ks Post := Z.pure (fun hx hb ho ht w => lv_dup hx hb hdg (by rw [zV_cat]; exact hv) w) k
theorem Z.dup2 {v u : Value} (hdg : decode μ.2.1 pc = .ok (.dup2, 1)) (hv : v.category = 1) (hu : u.category = 1) (k : Z mc ms d μ (pc + 1) L (v :: u :: v :: u :: st) h kc ks Post) : Z mc ms d μ pc L (v :: u :: st) h kc ks Post := Z.pure (fun hx hb ho ht w => lv_dup2_11 hx hb hdg (by rw [zV_cat]; exact hv) (by rw [zV_cat]; exact hu) w) k
theorem Z.pop {v : Value} (hdg : decode μ.2.1 pc = .ok (.pop, 1)) (hv : v.category = 1) (k : Z mc ms d μ (pc + 1) L (st) h kc ks Post) : Z mc ms d μ pc L (v :: st) h kc ks Post := Z.pure (fun hx hb ho ht w => lv_pop hx hb hdg (by rw [zV_cat]; exact hv) w) k
theorem Z.iconst {n : Int} (v : Int32) (hdg : decode μ.2.1 pc = .ok (.iconst n, 1)) (hv : Int32.ofInt n = v) (k : Z mc ms d μ (pc + 1) L (.int v :: st) h kc ks Post) : Z mc ms d μ pc L st h kc ks Post := Z.pure (fun hx hb ho ht w => lv_iconst hx hb hdg hv w) k
theorem Z.bipush {n : Int} (v : Int32) (hdg : decode μ.2.1 pc = .ok (.bipush n, 2)) (hv : (Int8.ofInt n).toInt32 = v) (k : Z mc ms d μ (pc + 2) L (.int v :: st) h kc ks Post) : Z mc ms d μ pc L st h kc ks Post := Z.pure (fun hx hb ho ht w => lv_bipush hx hb hdg hv w) k
theorem Z.sipush {n : Int} (v : Int32) (hdg : decode μ.2.1 pc = .ok (.sipush n, 3)) (hv : (Int16.ofInt n).toInt32 = v) (k : Z mc ms d μ (pc + 3) L (.int v :: st) h kc ks Post) : Z mc ms d μ pc L st h kc ks Post := Z.pure (fun hx hb ho ht w => lv_sipush hx hb hdg hv w) k
theorem Z.lconst {n : Fin 2} (v : Int64) (hdg : decode μ.2.1 pc = .ok (.lconst n, 1)) (hv : Int64.ofNat (n : Nat) = v) (k : Z mc ms d μ (pc + 1) L (.long v :: st) h kc ks Post) : Z mc ms d μ pc L st h kc ks Post := Z.pure (fun hx hb ho ht w => lv_lconst hx hb hdg hv w) k
theorem Z.ldc {index : Nat} (v : Int32) (hdg : decode μ.2.1 pc = .ok (.ldc index, 2)) (hw : Cond.constant μ.1.cls index v ∈ zWd) (k : Z mc ms d μ (pc + 2) L (.int v :: st) h kc ks Post) : Z mc ms d μ pc L st h kc ks Post := Z.pure (fun hx hb ho ht w => lv_ldc hx hb ho (ht _ hw) hdg w) k
theorem Z.ldc2 {index : Nat} (v : Int64) (hdg : decode μ.2.1 pc = .ok (.ldc2_w index, 3)) (hw : Cond.constantLong μ.1.cls index v ∈ zWd) (k : Z mc ms d μ (pc + 3) L (.long v :: st) h kc ks Post) : Z mc ms d μ pc L st h kc ks Post := Z.pure (fun hx hb ho ht w => lv_ldc2 hx hb ho (ht _ hw) hdg w) k
theorem Z.goto {off : Int} (tgt : Nat) (hdg : decode μ.2.1 pc = .ok (.goto off, 3)) (ht : (pc : Int) + off = (tgt : Int)) (k : Z mc ms d μ tgt L st h kc ks Post) : Z mc ms d μ pc L st h kc ks Post := Z.pure (fun hx hb _ _ w => lv_goto hx hb hdg ht w) k
theorem Z.tin {dflt lo hi : Int} {offs : Array Int} {len : Nat} {x : Int32} {off : Int} (tgt : Nat) (hdg : decode μ.2.1 pc = .ok (.tableswitch dflt lo hi offs, len)) (h1 : ¬ x.toInt < lo) (h2 : ¬ hi < x.toInt) (ho : offs[(x.toInt - lo).toNat]? = some off) (ht : (pc : Int) + off = (tgt : Int)) (k : Z mc ms d μ tgt L st h kc ks Post) : Z mc ms d μ pc L (.int x :: st) h kc ks Post := Z.pure (fun hx hb _ _ w => lv_tableIn hx hb hdg h1 h2 ho ht w) k
theorem Z.tout {dflt lo hi : Int} {offs : Array Int} {len : Nat} {x : Int32} (tgt : Nat) (hdg : decode μ.2.1 pc = .ok (.tableswitch dflt lo hi offs, len)) (h1 : x.toInt < lo ∨ hi < x.toInt) (ht : (pc : Int) + dflt = (tgt : Int)) (k : Z mc ms d μ tgt L st h kc ks Post) : Z mc ms d μ pc L (.int x :: st) h kc ks Post := Z.pure (fun hx hb _ _ w => lv_tableOut hx hb hdg h1 ht w) k
theorem Z.if_eq {x : Int32} {off : Int} (tgt : Nat) (hdg : decode μ.2.1 pc = .ok (.ifCond .eq off, 3)) (ht : (pc : Int) + off = (tgt : Int)) (k1 : x = 0 → Z mc ms d μ tgt L st h kc ks Post) (k2 : ¬ (x = 0) → Z mc ms d μ (pc + 3) L st h kc ks Post) : Z mc ms d μ pc L (.int x :: st) h kc ks Post := Z.br (fun hx hb w1 w2 => lv_if_eq hx hb hdg ht w1 w2) k1 k2
theorem Z.icmp_eq {x y : Int32} {off : Int} (tgt : Nat) (hdg : decode μ.2.1 pc = .ok (.if_icmp .eq off, 3)) (ht : (pc : Int) + off = (tgt : Int)) (k1 : x = y → Z mc ms d μ tgt L st h kc ks Post) (k2 : ¬ (x = y) → Z mc ms d μ (pc + 3) L st h kc ks Post) : Z mc ms d μ pc L (.int y :: .int x :: st) h kc ks Post := Z.br (fun hx hb w1 w2 => lv_icmp_eq hx hb hdg ht w1 w2) k1 k2
theorem Z.if_ne {x : Int32} {off : Int} (tgt : Nat) (hdg : decode μ.2.1 pc = .ok (.ifCond .ne off, 3)) (ht : (pc : Int) + off = (tgt : Int)) (k1 : ¬ x = 0 → Z mc ms d μ tgt L st h kc ks Post) (k2 : x = 0 → Z mc ms d μ (pc + 3) L st h kc ks Post) : Z mc ms d μ pc L (.int x :: st) h kc ks Post := Z.br (c1 := x = 0) (fun hx hb w1 w2 => lv_if_ne hx hb hdg ht w2 w1) k2 k1
theorem Z.icmp_ne {x y : Int32} {off : Int} (tgt : Nat) (hdg : decode μ.2.1 pc = .ok (.if_icmp .ne off, 3)) (ht : (pc : Int) + off = (tgt : Int)) (k1 : ¬ x = y → Z mc ms d μ tgt L st h kc ks Post) (k2 : x = y → Z mc ms d μ (pc + 3) L st h kc ks Post) : Z mc ms d μ pc L (.int y :: .int x :: st) h kc ks Post := Z.br (c1 := x = y) (fun hx hb w1 w2 => lv_icmp_ne hx hb hdg ht w2 w1) k2 k1
theorem Z.if_lt {x : Int32} {off : Int} (tgt : Nat) (hdg : decode μ.2.1 pc = .ok (.ifCond .lt off, 3)) (ht : (pc : Int) + off = (tgt : Int)) (k1 : x < 0 → Z mc ms d μ tgt L st h kc ks Post) (k2 : ¬ (x < 0) → Z mc ms d μ (pc + 3) L st h kc ks Post) : Z mc ms d μ pc L (.int x :: st) h kc ks Post := Z.br (fun hx hb w1 w2 => lv_if_lt hx hb hdg ht w1 w2) k1 k2
theorem Z.icmp_lt {x y : Int32} {off : Int} (tgt : Nat) (hdg : decode μ.2.1 pc = .ok (.if_icmp .lt off, 3)) (ht : (pc : Int) + off = (tgt : Int)) (k1 : x < y → Z mc ms d μ tgt L st h kc ks Post) (k2 : ¬ (x < y) → Z mc ms d μ (pc + 3) L st h kc ks Post) : Z mc ms d μ pc L (.int y :: .int x :: st) h kc ks Post := Z.br (fun hx hb w1 w2 => lv_icmp_lt hx hb hdg ht w1 w2) k1 k2
theorem Z.if_ge {x : Int32} {off : Int} (tgt : Nat) (hdg : decode μ.2.1 pc = .ok (.ifCond .ge off, 3)) (ht : (pc : Int) + off = (tgt : Int)) (k1 : 0 ≤ x → Z mc ms d μ tgt L st h kc ks Post) (k2 : ¬ (0 ≤ x) → Z mc ms d μ (pc + 3) L st h kc ks Post) : Z mc ms d μ pc L (.int x :: st) h kc ks Post := Z.br (fun hx hb w1 w2 => lv_if_ge hx hb hdg ht w1 w2) k1 k2
theorem Z.icmp_ge {x y : Int32} {off : Int} (tgt : Nat) (hdg : decode μ.2.1 pc = .ok (.if_icmp .ge off, 3)) (ht : (pc : Int) + off = (tgt : Int)) (k1 : y ≤ x → Z mc ms d μ tgt L st h kc ks Post) (k2 : ¬ (y ≤ x) → Z mc ms d μ (pc + 3) L st h kc ks Post) : Z mc ms d μ pc L (.int y :: .int x :: st) h kc ks Post := Z.br (fun hx hb w1 w2 => lv_icmp_ge hx hb hdg ht w1 w2) k1 k2
theorem Z.if_gt {x : Int32} {off : Int} (tgt : Nat) (hdg : decode μ.2.1 pc = .ok (.ifCond .gt off, 3)) (ht : (pc : Int) + off = (tgt : Int)) (k1 : 0 < x → Z mc ms d μ tgt L st h kc ks Post) (k2 : ¬ (0 < x) → Z mc ms d μ (pc + 3) L st h kc ks Post) : Z mc ms d μ pc L (.int x :: st) h kc ks Post := Z.br (fun hx hb w1 w2 => lv_if_gt hx hb hdg ht w1 w2) k1 k2
theorem Z.icmp_gt {x y : Int32} {off : Int} (tgt : Nat) (hdg : decode μ.2.1 pc = .ok (.if_icmp .gt off, 3)) (ht : (pc : Int) + off = (tgt : Int)) (k1 : y < x → Z mc ms d μ tgt L st h kc ks Post) (k2 : ¬ (y < x) → Z mc ms d μ (pc + 3) L st h kc ks Post) : Z mc ms d μ pc L (.int y :: .int x :: st) h kc ks Post := Z.br (fun hx hb w1 w2 => lv_icmp_gt hx hb hdg ht w1 w2) k1 k2
theorem Z.if_le {x : Int32} {off : Int} (tgt : Nat) (hdg : decode μ.2.1 pc = .ok (.ifCond .le off, 3)) (ht : (pc : Int) + off = (tgt : Int)) (k1 : x ≤ 0 → Z mc ms d μ tgt L st h kc ks Post) (k2 : ¬ (x ≤ 0) → Z mc ms d μ (pc + 3) L st h kc ks Post) : Z mc ms d μ pc L (.int x :: st) h kc ks Post := Z.br (fun hx hb w1 w2 => lv_if_le hx hb hdg ht w1 w2) k1 k2
theorem Z.icmp_le {x y : Int32} {off : Int} (tgt : Nat) (hdg : decode μ.2.1 pc = .ok (.if_icmp .le off, 3)) (ht : (pc : Int) + off = (tgt : Int)) (k1 : x ≤ y → Z mc ms d μ tgt L st h kc ks Post) (k2 : ¬ (x ≤ y) → Z mc ms d μ (pc + 3) L st h kc ks Post) : Z mc ms d μ pc L (.int y :: .int x :: st) h kc ks Post := Z.br (fun hx hb w1 w2 => lv_icmp_le hx hb hdg ht w1 w2) k1 k2
theorem Z.iload_n {q : Fin 4} {x : Int32} (hdg : decode μ.2.1 pc = .ok (.iload_n q, 1)) (hl : L[(q : Nat)]? = some (some (.int x))) (k : Z mc ms d μ (pc + 1) L (.int x :: st) h kc ks Post) : Z mc ms d μ pc L st h kc ks Post := Z.lds (fun hx hb hv w => lv_iload_n hx hb hdg rfl hv w) hl k
theorem Z.iload {i : Nat} {x : Int32} (hdg : decode μ.2.1 pc = .ok (.iload i, 2)) (hl : L[i]? = some (some (.int x))) (k : Z mc ms d μ (pc + 2) L (.int x :: st) h kc ks Post) : Z mc ms d μ pc L st h kc ks Post := Z.lds (fun hx hb hv w => lv_iload hx hb hdg hv w) hl k
theorem Z.lload_n {q : Fin 4} {x : Int64} (hdg : decode μ.2.1 pc = .ok (.lload_n q, 1)) (hl : L[(q : Nat)]? = some (some (.long x))) (k : Z mc ms d μ (pc + 1) L (.long x :: st) h kc ks Post) : Z mc ms d μ pc L st h kc ks Post := Z.lds (fun hx hb hv w => lv_lload_n hx hb hdg rfl hv w) hl k
theorem Z.lload {i : Nat} {x : Int64} (hdg : decode μ.2.1 pc = .ok (.lload i, 2)) (hl : L[i]? = some (some (.long x))) (k : Z mc ms d μ (pc + 2) L (.long x :: st) h kc ks Post) : Z mc ms d μ pc L st h kc ks Post := Z.lds (fun hx hb hv w => lv_lload hx hb hdg hv w) hl k
theorem Z.aload_n {q : Fin 4} {x : Nat} (hdg : decode μ.2.1 pc = .ok (.aload_n q, 1)) (hl : L[(q : Nat)]? = some (some (.ref x))) (k : Z mc ms d μ (pc + 1) L (.ref x :: st) h kc ks Post) : Z mc ms d μ pc L st h kc ks Post := Z.lds (fun hx hb hv w => lv_aload_n hx hb hdg rfl hv w) hl k
theorem Z.aload {i : Nat} {x : Nat} (hdg : decode μ.2.1 pc = .ok (.aload i, 2)) (hl : L[i]? = some (some (.ref x))) (k : Z mc ms d μ (pc + 2) L (.ref x :: st) h kc ks Post) : Z mc ms d μ pc L st h kc ks Post := Z.lds (fun hx hb hv w => lv_aload hx hb hdg hv w) hl k
theorem Z.istore_n {q : Fin 4} {x : Int32} (hdg : decode μ.2.1 pc = .ok (.istore_n q, 1)) (hi : (q : Nat) < μ.2.2.1) (hn : zNl L q = true) (k : Z mc ms d μ (pc + 1) (L.set q (some (.int x))) st h kc ks Post) : Z mc ms d μ pc L (.int x :: st) h kc ks Post := Z.sto (fun hx hb hL w => lv_istore_n hx hb hdg rfl (zL_has hL) hi rfl (fun ls' hl' => w ls' (zL_set1 (v := .int x) hn hl'))) k
theorem Z.istore {i : Nat} {x : Int32} (hdg : decode μ.2.1 pc = .ok (.istore i, 2)) (hi : i < μ.2.2.1) (hn : zNl L i = true) (k : Z mc ms d μ (pc + 2) (L.set i (some (.int x))) st h kc ks Post) : Z mc ms d μ pc L (.int x :: st) h kc ks Post := Z.sto (fun hx hb hL w => lv_istore hx hb hdg (zL_has hL) hi rfl (fun ls' hl' => w ls' (zL_set1 (v := .int x) hn hl'))) k
theorem Z.astore_n {q : Fin 4} {x : Nat} (hdg : decode μ.2.1 pc = .ok (.astore_n q, 1)) (hi : (q : Nat) < μ.2.2.1) (hn : zNl L q = true) (k : Z mc ms d μ (pc + 1) (L.set q (some (.ref x))) st h kc ks Post) : Z mc ms d μ pc L (.ref x :: st) h kc ks Post := Z.sto (fun hx hb hL w => lv_astore_n hx hb hdg rfl (zL_has hL) hi rfl (fun ls' hl' => w ls' (zL_set1 (v := .ref x) hn hl'))) k
theorem Z.astore {i : Nat} {x : Nat} (hdg : decode μ.2.1 pc = .ok (.astore i, 2)) (hi : i < μ.2.2.1) (hn : zNl L i = true) (k : Z mc ms d μ (pc + 2) (L.set i (some (.ref x))) st h kc ks Post) : Z mc ms d μ pc L (.ref x :: st) h kc ks Post := Z.sto (fun hx hb hL w => lv_astore hx hb hdg (zL_has hL) hi rfl (fun ls' hl' => w ls' (zL_set1 (v := .ref x) hn hl'))) k
theorem Z.lstore_n {q : Fin 4} {x : Int64} (hdg : decode μ.2.1 pc = .ok (.lstore_n q, 1)) (hi : (q : Nat) + 1 < μ.2.2.1) (hn : zNl L q = true) (k : Z mc ms d μ (pc + 1) ((L.set q (some (.long x))).set (q + 1) none) st h kc ks Post) : Z mc ms d μ pc L (.long x :: st) h kc ks Post := Z.sto (fun hx hb hL w => lv_lstore_n hx hb hdg rfl (zL_has hL) hi rfl (fun ls' hl' => w ls' (zL_set2 (v := .long x) hn hl'))) k
theorem Z.lstore {i : Nat} {x : Int64} (hdg : decode μ.2.1 pc = .ok (.lstore i, 2)) (hi : i + 1 < μ.2.2.1) (hn : zNl L i = true) (k : Z mc ms d μ (pc + 2) ((L.set i (some (.long x))).set (i + 1) none) st h kc ks Post) : Z mc ms d μ pc L (.long x :: st) h kc ks Post := Z.sto (fun hx hb hL w => lv_lstore hx hb hdg (zL_has hL) hi rfl (fun ls' hl' => w ls' (zL_set2 (v := .long x) hn hl'))) k
theorem Z.iinc {i : Nat} {n : Int} {x : Int32} (hdg : decode μ.2.1 pc = .ok (.iinc i n, 3)) (hl : L[i]? = some (some (.int x))) (hi : i < μ.2.2.1) (hn : zNl L i = true) (k : Z mc ms d μ (pc + 3) (L.set i (some (.int (x + Int32.ofInt n)))) st h kc ks Post) : Z mc ms d μ pc L st h kc ks Post := Z.sto (fun hx hb hL w => by
    obtain ⟨j, hj⟩ := List.getElem?_of_mem (zAs_in (ρ := _) hl)
    exact lv_iinc hx hb hdg (zL_has hL) hj rfl hi rfl (fun ls' hl' => w ls' (zL_set1 (v := .int (x + Int32.ofInt n)) hn hl'))) k
theorem Z.mono {Post' : Option Value → zH → Prop} (hP : ∀ r h', Post' r h' → Post r h') (k : Z mc ms d μ pc L st h kc ks Post') : Z mc ms d μ pc L st h kc ks Post := by
  intro p l e s m args below meth c D cI A ρ0 n0 hC hn ρ H locs ls hR hS
  intro T hT X
  obtain ⟨t, h1, o, h2, h3, ⟨⟨r, h', ρ', h4, h5⟩, h6⟩, h7⟩ := k p l e s m args below meth c D cI A ρ0 n0 hC hn ρ H locs ls hR hS T hT X
  exact ⟨t, h1, o, h2, h3, ⟨⟨r, h', ρ', hP r h' h4, h5⟩, h6⟩, h7⟩
/-- fewer locals are known -/
theorem Z.loc {L' : List (Option Value)} (hL : ∀ (i : Nat) (v : Value), L'[i]? = some (some v) → L[i]? = some (some v)) (k : Z mc ms d μ pc L' st h kc ks Post) : Z mc ms d μ pc L st h kc ks Post := by
  intro p l e s m args below meth c D cI A ρ0 n0 hC hn ρ H locs ls hR hS
  exact k p l e s m args below meth c D cI A ρ0 n0 hC hn ρ H locs ls hR ⟨hS.1, hS.2.1, hS.2.2.1, ⟨hS.2.2.2.1.1, hS.2.2.2.1.2.1, fun i v hv => hS.2.2.2.1.2.2 i v (hL i v hv)⟩, hS.2.2.2.2⟩
end ZI
