section ZP1
theorem zma_one {E : CtlPost} {e : Env} {d : Bool} {acts : List Action} {u : State} {Q : Addr → Pre} {cA comp len : Nat} {k : Class} {ty : FieldType} {v : Value} (hk : u.vm.classes[cA]? = some k) (hkind : k.kind = .array comp ty) (hv : fits ty v = true)
    (b1 : len ≤ e.platform.arrayLengthLimit) (b2 : len * componentBytes ty ≤ e.platform.maxHeapBytes) (b3 : u.heap.size < e.platform.maxCells) (b4 : u.slotsUsed + len ≤ e.platform.maxSlots)
    (hq : ∀ a2 : List Action, Q u.heap.size d a2 (u.pushCell { cls := cA, slots := Array.replicate len v, vm := .none })) : wp (Jvm.newArray cA len v) Q E e d acts u := by
  have n1 : ¬ len > e.platform.arrayLengthLimit := by omega
  have n2 : ¬ len * componentBytes ty > e.platform.maxHeapBytes := by omega
  have hf : ∀ (i : Nat) (x : Value), (Array.replicate len v)[i]? = some x → u.fitsSlot cA .none i x = true := fun i x hx => by
    rw [Array.getElem?_replicate] at hx
    split at hx
    · cases hx
      simp [State.fitsSlot, State.slotType?, hk, hkind, hv]
    · cases hx
  simp only [Jvm.newArray, Jvm.arrayFits, wp_bind', _root_.Jvm.W.ask, _root_.Jvm.W.ite, n1, if_false, wp_pure', _root_.Jvm.W.theClass, hk, hkind, n2, _root_.Jvm.W.alloc, Option.some.injEq, exists_eq_left', Array.size_replicate]
  rw [if_neg (by omega)]
  exact ⟨b3, b4, hf, hq _⟩
/-- behind i rows -/
def zmS (T : State) (cA comp N M : Nat) : Nat → State
  | 0 => T.pushCell (arrV cA N (fun _ => .null))
  | i + 1 => ((zmS T cA comp N M i).pushCell (arrV comp M (fun _ => .int 0))).setCell T.heap.size (arrV cA N (fun j => if j < i + 1 then .ref (T.heap.size + 1 + j) else .null))
theorem zmS_top (T : State) (f : JFrame) (cA comp N M : Nat) : ∀ i : Nat, zmS (T.setTop f) cA comp N M i = (zmS T cA comp N M i).setTop f
  | 0 => rfl
  | i + 1 => by
    show ((zmS (T.setTop f) cA comp N M i).pushCell _).setCell _ _ = _
    rw [zmS_top T f cA comp N M i]
    rfl
theorem zmS_g (T : State) (cA comp N M : Nat) : ∀ i : Nat, (zmS T cA comp N M i).vm = T.vm ∧ (zmS T cA comp N M i).heap.size = T.heap.size + 1 + i ∧ (zmS T cA comp N M i).slotsUsed = T.slotsUsed + (N + i * M) ∧ (zmS T cA comp N M i).heap[T.heap.size]? = some (arrV cA N (fun j => if j < i then .ref (T.heap.size + 1 + j) else .null))
  | 0 => by
    refine ⟨rfl, ?_, ?_, ?_⟩
    · show (T.heap.push _).size = _
      rw [Array.size_push]
    · show T.slotsUsed + (arrV cA N (fun _ => .null)).slots.size = _
      rw [arrV_size, Nat.zero_mul]
      rfl
    · show (T.heap.push _)[T.heap.size]? = _
      rw [Array.getElem?_push, if_pos rfl]
      congr 2
  | i + 1 => by
    obtain ⟨h1, h2, h3, h4⟩ := zmS_g T cA comp N M i
    have eS : zmS T cA comp N M (i + 1) = ((zmS T cA comp N M i).pushCell (arrV comp M (fun _ => .int 0))).setCell T.heap.size (arrV cA N (fun j => if j < i + 1 then .ref (T.heap.size + 1 + j) else .null)) := rfl
    rw [eS]
    generalize zmS T cA comp N M i = V at *
    refine ⟨h1, ?_, ?_, ?_⟩
    · rw [State.heap_setCell, Array.size_setIfInBounds, State.heap_pushCell, Array.size_push, h2]
      omega
    · show V.slotsUsed + (arrV comp M (fun _ => .int 0)).slots.size = _
      rw [arrV_size, h3, Nat.succ_mul]
      omega
    · rw [State.heap_setCell, Array.getElem?_setIfInBounds, if_pos rfl, if_pos (by rw [State.heap_pushCell, Array.size_push]; omega)]
theorem arrV_next (cA N b i : Nat) : (arrV cA N (fun j => if j < i then Value.ref (b + j) else .null)).setSlot i (.ref (b + i)) = arrV cA N (fun j => if j < i + 1 then .ref (b + j) else .null) := by
  refine (arrV_store _ _ _ _ _).trans ?_
  congr 1
  funext j
  show (if j = i then _ else _) = _
  by_cases q : j = i
  · rw [if_pos q, if_pos (by omega), q]
  · rw [if_neg q]
    show (if j < i then _ else _) = _
    by_cases q2 : j < i
    · rw [if_pos q2, if_pos (by omega)]
    · rw [if_neg q2, if_neg (by omega)]
set_option maxHeartbeats 2000000 in
theorem zma_two {E : CtlPost} {e : Env} {d : Bool} {acts : List Action} {u : State} {Q : Addr → Pre} {cA comp cc N M : Nat} {kA kC : Class} {n k : Int32} (hkA : u.vm.classes[cA]? = some kA) (qA : kA.kind = .array comp (.array .int)) (hkC : u.vm.classes[comp]? = some kC) (qC : kC.kind = .array cc .int)
    (hN : n.toNatClampNeg = N) (hM : k.toNatClampNeg = M) (hn : ¬ n < 0) (hk : ¬ k < 0) (b1 : N ≤ e.platform.arrayLengthLimit) (b2 : N * 4 ≤ e.platform.maxHeapBytes) (b3 : M ≤ e.platform.arrayLengthLimit) (b4 : M * 4 ≤ e.platform.maxHeapBytes) (b5 : u.heap.size + (1 + N) ≤ e.platform.maxCells) (b6 : u.slotsUsed + (N + N * M) ≤ e.platform.maxSlots)
    (hq : ∀ (d' : Bool) (a2 : List Action), Q u.heap.size d' a2 (zmS u cA comp N M N)) : wp (multianewarray.make cA [n, k]) Q E e d acts u := by
  subst hN
  subst hM
  rw [multianewarray.make]
  simp only [wp_bind', _root_.Jvm.W.ite, hn, if_false, wp_pure', _root_.Jvm.W.theClass, hkA, qA, Option.some.injEq, exists_eq_left']
  refine zma_one hkA qA rfl b1 b2 (by omega) (by have := Nat.zero_le (n.toNatClampNeg * k.toNatClampNeg); omega) (fun a2 => ?_)
  have hfd : ([k].find? (· < 0)) = none := by simp [hk]
  simp only [hfd]
  rw [ite_self, wp_bind', Std.Legacy.Range.forIn_eq_forIn_range']
  rw [show ([:n.toNatClampNeg] : Std.Legacy.Range).size = n.toNatClampNeg by simp [Std.Legacy.Range.size]]
  show wp (forIn (List.range' 0 n.toNatClampNeg 1) PUnit.unit _) _ E e d _ _
  generalize hN : n.toNatClampNeg = N at *
  refine wp_forIn_inv (fun rest v => ∃ i : Nat, i ≤ N ∧ rest = List.range' i (N - i) ∧ v = zmS u cA comp N k.toNatClampNeg i) _ _ ⟨0, Nat.zero_le _, rfl, ?_⟩ ?_ ?_
  · show _ = u.pushCell (arrV cA N (fun _ => .null))
    rw [← arrV_new]
  · rintro x rest v d' a' Q' ⟨i, hi, hl, rfl⟩ hnx
    have hlt : i < N := by
      rcases Nat.lt_or_ge i N with h | h
      · exact h
      · rw [show N - i = 0 by omega] at hl
        cases hl
    rw [show N - i = (N - (i + 1)) + 1 by omega, List.range'_succ] at hl
    obtain ⟨rfl, rfl⟩ := List.cons.inj hl
    obtain ⟨f1, f2, f3, f4⟩ := zmS_g u cA comp N k.toNatClampNeg x
    have hmul : x * k.toNatClampNeg + k.toNatClampNeg ≤ N * k.toNatClampNeg := by
      rw [← Nat.succ_mul]
      exact Nat.mul_le_mul_right _ hlt
    simp only [wp_bind']
    rw [multianewarray.make]
    simp only [wp_bind', _root_.Jvm.W.ite, hk, if_false, wp_pure', _root_.Jvm.W.theClass, f1, hkC, qC, Option.some.injEq, exists_eq_left']
    refine zma_one (k := kC) (by rw [f1]; exact hkC) qC rfl b3 b4 (by rw [f2]; omega) (by rw [f3]; omega) (fun a3 => ?_)
    simp only [wp_bind', _root_.Jvm.W.writeLoc, wp_pure']
    refine ⟨arrV cA N (fun j => if j < x then .ref (u.heap.size + 1 + j) else .null), ?_, ?_, ?_, ?_, hnx _ _ _ ⟨x + 1, hlt, rfl, ?_⟩⟩
    · rw [State.heap_pushCell, Array.getElem?_push, if_neg (by omega)]
      exact f4
    · intro h
      cases h
    · rw [arrV_size]
      exact hlt
    · simp [State.fitsSlot, State.slotType?, f1, arrV, hkA, qA]
      rfl
    · rw [f2, arrV_next, arrV_new]
      rfl
  · rintro v d' a' ⟨i, hi, hl, rfl⟩
    have hiN : i = N := by
      rcases Nat.lt_or_ge i N with h | h
      · rw [show N - i = (N - (i + 1)) + 1 by omega, List.range'_succ] at hl
        cases hl
      · omega
    subst hiN
    simp only [wp_pure']
    exact hq _ _
variable {p : Program} {l : Launch} {e : Env} {R : Room} {s : State} {m : MethodId} {args : Array Value} {below : List Frame} {meth : Method} {c : Code} {T : State} {locs : List Loc} {cells slots : Nat}
theorem arrV_up (cA N : Nat) (f : Nat → Value) (i : Nat) (x : Value) : (arrV cA N f).setSlot i x = arrV cA N (fun j => if j = i then x else f j) := arrV_store _ _ _ _ _
theorem zmS_f (X : Stand p l e R s m args below meth c T locs cells slots) (cA comp N M : Nat) : ∀ i : Nat, i ≤ N → ∃ L : List Loc, Stand p l e R s m args below meth c (zmS T cA comp N M i) L (cells + (1 + i)) (slots + (N + i * M)) ∧ (zmS T cA comp N M i).vm = T.vm ∧
    (zmS T cA comp N M i).heap.size = T.heap.size + 1 + i ∧ (zmS T cA comp N M i).slotsUsed = T.slotsUsed + (N + i * M) ∧ (∀ q : Nat, q < T.heap.size → (zmS T cA comp N M i).heap[q]? = T.heap[q]?) ∧ (∀ q ∈ L, q ∈ locs ∨ q.base = T.heap.size) ∧
    (zmS T cA comp N M i).heap[T.heap.size]? = some (arrV cA N (fun j => if j < i then .ref (T.heap.size + 1 + j) else .null)) ∧ ∀ j : Nat, j < i → (zmS T cA comp N M i).heap[T.heap.size + 1 + j]? = some (arrV comp M (fun _ => .int 0))
  | 0, _ => by
    have Y := X.pushed (arrV cA N (fun _ => .null))
    rw [arrV_size] at Y
    refine ⟨locs, ?_, rfl, ?_, ?_, fun q hq => ?_, fun q hq => Or.inl hq, ?_, fun j hj => absurd hj (Nat.not_lt_zero _)⟩
    · rw [Nat.zero_mul]
      exact Y
    · show (T.heap.push _).size = _
      rw [Array.size_push]
    · show T.slotsUsed + (arrV cA N (fun _ => .null)).slots.size = _
      rw [arrV_size, Nat.zero_mul]
      rfl
    · show (T.heap.push _)[q]? = _
      rw [Array.getElem?_push, if_neg (by omega)]
    · show (T.heap.push _)[T.heap.size]? = _
      rw [Array.getElem?_push, if_pos rfl]
      congr 2
  | i + 1, hi => by
    obtain ⟨L, X, h1, h2, h2', h3, h4, h5, h6⟩ := zmS_f X cA comp N M i (by omega)
    have eS : zmS T cA comp N M (i + 1) = ((zmS T cA comp N M i).pushCell (arrV comp M (fun _ => .int 0))).setCell T.heap.size (arrV cA N (fun j => if j < i + 1 then .ref (T.heap.size + 1 + j) else .null)) := rfl
    rw [eS]
    generalize zmS T cA comp N M i = V at *
    have k5 : (V.pushCell (arrV comp M (fun _ => .int 0))).heap[T.heap.size]? = some (arrV cA N (fun j => if j < i then .ref (T.heap.size + 1 + j) else .null)) := by rw [State.heap_pushCell, Array.getElem?_push, if_neg (by omega)]; exact h5
    have Y := (X.pushed (arrV comp M (fun _ => .int 0))).stored k5 i (.ref V.heap.size)
    have eA : (arrV cA N (fun j => if j < i then Value.ref (T.heap.size + 1 + j) else .null)).setSlot i (.ref V.heap.size) = arrV cA N (fun j => if j < i + 1 then .ref (T.heap.size + 1 + j) else .null) := by
      rw [arrV_up]
      congr 1
      funext j
      by_cases q : j = i
      · rw [if_pos q, if_pos (by omega), q, h2]
      · rw [if_neg q]
        by_cases q2 : j < i
        · rw [if_pos q2, if_pos (by omega)]
        · rw [if_neg q2, if_neg (by omega)]
    rw [arrV_size, Nat.add_assoc cells, Nat.add_assoc slots, eA] at Y
    have lo : ∀ q : Nat, q ≠ T.heap.size → q < V.heap.size → ((V.pushCell (arrV comp M (fun _ => .int 0))).setCell T.heap.size (arrV cA N (fun j => if j < i + 1 then .ref (T.heap.size + 1 + j) else .null))).heap[q]? = V.heap[q]? := fun q q1 q2 => by
      rw [State.heap_setCell, Array.getElem?_setIfInBounds, if_neg (fun h => q1 h.symm), State.heap_pushCell, Array.getElem?_push, if_neg (by omega)]
    refine ⟨L ++ [⟨T.heap.size, i⟩], ?_, h1, ?_, ?_, fun q hq => (lo q (by omega) (by omega)).trans (h3 q hq), fun q hq => ?_, ?_, fun j hj => ?_⟩
    · rw [show N + (i + 1) * M = N + i * M + M by rw [Nat.succ_mul]; omega, show 1 + (i + 1) = 1 + i + 1 by omega]
      exact Y
    · rw [State.heap_setCell, Array.size_setIfInBounds, State.heap_pushCell, Array.size_push, h2]
      omega
    · show V.slotsUsed + (arrV comp M (fun _ => .int 0)).slots.size = _
      rw [arrV_size, h2', Nat.succ_mul]
      omega
    · rcases List.mem_append.mp hq with h | h
      · exact h4 q h
      · rw [List.mem_singleton.mp h]
        exact Or.inr rfl
    · rw [State.heap_setCell, Array.getElem?_setIfInBounds, if_pos rfl, if_pos (by rw [State.heap_pushCell, Array.size_push]; omega)]
    · by_cases q : j = i
      · rw [State.heap_setCell, Array.getElem?_setIfInBounds, if_neg (by omega), State.heap_pushCell, Array.getElem?_push, if_pos (by omega)]
      · rw [lo _ (by omega) (by omega)]
        exact h6 j (by omega)
set_option maxHeartbeats 2000000 in
/-- an array of N rows of M ints -/
theorem zMulti {H : Heap} {Q : State → Prop} {cc : ByteArray} (hexec : p.tables.exec = Jvm.exec) (hb : c.code = cc) {own : String} {index : Nat} (hown : s.vm.findClass own = some m.cls) (hclink : (Cond.classLink own index ("[" ++ (FieldType.array .int).toString)).before args s = true)
    (hover : (Cond.arrayOver (.array .int)).before args s = true) (harr : (Cond.arrayClass .int).before args s = true) {g : JFrame} (hg : g.method = m) (hdg : decode cc g.pc = .ok (.multianewarray index 2, 4)) {n k : Int32} {rest : List Value} (hstack : g.stack = .int k :: .int n :: rest)
    {N M : Nat} (hN : n.toNatClampNeg = N) (hM : k.toNatClampNeg = M) (hn : ¬ n < 0) (hk : ¬ k < 0) (bN : N ≤ 100) (bM : M ≤ 1000) (hcells : cells + (1 + N) ≤ R.cells) (hslots : slots + (N + N * M) ≤ R.slots)
    (kk : ∀ (cA comp : ClassId) (H1 : Heap) (L : List Loc), s.vm.findClass ("[" ++ (FieldType.array .int).toString) = some cA → s.vm.findClass ("[" ++ FieldType.int.toString) = some comp → H1.size = H.size + 1 + N → (∀ q : Nat, q < H.size → H1[q]? = H[q]?) → (∀ q ∈ L, q ∈ locs ∨ q.base = H.size) →
      H1[H.size]? = some (arrV cA N (fun j => if j < N then .ref (H.size + 1 + j) else .null)) → (∀ j : Nat, j < N → H1[H.size + 1 + j]? = some (arrV comp M (fun _ => .int 0))) →
      W p l e R s m args below meth c H1 L (cells + (1 + N)) (slots + (N + N * M)) Q { g with pc := g.pc + 4, stack := .ref H.size :: rest }) : W p l e R s m args below meth c H locs cells slots Q g := by
  intro T hT X
  subst hT; subst hb; subst hg; subst hN; subst hM
  have hpl : e.platform.magicAccessors = ({} : Platform).magicAccessors := by rw [X.admits.platform]
  obtain ⟨comp, cA, kA, hcomp, hidx, hkA, hkindA, hnameA⟩ := arrayOverA_spec hover
  obtain ⟨comp', kC, cc, hcomp', hkC, hkindC⟩ := Cond.arrayClass_spec harr
  have ec : comp' = comp := Option.some.inj (hcomp'.symm.trans hcomp)
  subst ec
  obtain ⟨c0, hfc0, hcl⟩ := Cond.classLink_spec hown hclink e.platform hpl
  cases hnameA.symm.trans hfc0
  obtain ⟨hg1, hw1, hr1⟩ := State.classEntry (e := e) X.warmed hcl
  generalize T.vm.noted g.method.cls index (.cls cA) = v1 at hg1 hw1 hr1
  obtain ⟨kA1, hkA1, eA⟩ := hw1.alike.2.2 _ _ hkA
  obtain ⟨kC1, hkC1, eC⟩ := hw1.alike.2.2 _ _ hkC
  have qA : kA1.kind = .array comp' (.array .int) := by rw [eA]; exact hkindA
  have qC : kC1.kind = .array cc .int := by rw [eC]; exact hkindC
  have X1 := X.noted hw1
  obtain ⟨r1, r2⟩ := X.roomAbove hcells hslots
  have lA : n.toNatClampNeg ≤ e.platform.arrayLengthLimit := by rw [Launch.admits_arrayLengthLimit X.admits]; omega
  have lC : k.toNatClampNeg ≤ e.platform.arrayLengthLimit := by rw [Launch.admits_arrayLengthLimit X.admits]; omega
  have mA : n.toNatClampNeg * componentBytes (.array .int) ≤ e.platform.maxHeapBytes := by rw [Launch.admits_maxHeapBytes X.admits]; show n.toNatClampNeg * 4 ≤ 536870912; omega
  have mC : k.toNatClampNeg * componentBytes .int ≤ e.platform.maxHeapBytes := by rw [Launch.admits_maxHeapBytes X.admits]; show k.toNatClampNeg * 4 ≤ 536870912; omega
  generalize hN : n.toNatClampNeg = N at *
  generalize hM : k.toNatClampNeg = M at *
  obtain ⟨L, hX, h1, h2, h2', h3, h4, h5, h6⟩ := zmS_f X1 cA comp' N M N (Nat.le_refl _)
  obtain ⟨t, a1, b1⟩ := kk cA comp' (zmS (T.setVm v1) cA comp' N M N).heap L hnameA hcomp' h2 h3 h4 h5 h6 _ rfl hX
  refine ⟨t, ?_, b1⟩
  have top : T.topJava?.isSome := X.here.top
  jvm_step X.here [hexec, hdg]
  simp only [multianewarray.sem, wp_bind', _root_.Jvm.W.resolveClassAt_links (State.method?_setTop g X.here.top) hg1]
  rw [_root_.Jvm.W.popN, if_neg (by decide)]
  refine ⟨g, State.topJava?_setTop' (s := T.setVm v1) g X.here.top, [.int n, .int k], rest, rfl, hstack, ?_⟩
  simp only [List.mapM_cons, List.mapM_nil, wp_bind', wp_pure']
  refine zma_two (kA := kA1) (kC := kC1) hkA1 qA hkC1 qC hN hM hn hk lA mA lC mC (show T.heap.size + (1 + N) ≤ _ from r1) (show T.slotsUsed + (N + N * M) ≤ _ from r2) (fun d' a2 => ?_)
  have eS : ((T.setTop g).setVm v1).setTop { g with stack := rest } = (T.setVm v1).setTop { g with stack := rest } := by
    show ((T.setVm v1).setTop g).setTop _ = _
    rw [State.setTop_setTop]
  rw [eS, zmS_top]
  simp only [wp_bind', _root_.Jvm.W.mark, _root_.Jvm.W.pushRef, State.topJava?_setTop' _ hX.here.top, Option.some.injEq, exists_eq_left', State.setTop_setTop, State.heap_setTop]
  intro acts
  simp [jvm, hX.here.top]
  exact a1
end ZP1
