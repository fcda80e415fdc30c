section ZK
/-- a value whose references are places in the world -/
def zV (ρ : Nat → Nat) : Value → Value
  | .ref k => .ref (ρ k)
  | v => v
theorem zV_cat (ρ : Nat → Nat) (v : Value) : (zV ρ v).category = v.category := by cases v <;> rfl
theorem zV_cats (ρ : Nat → Nat) (st : List Value) : ((st.map (zV ρ)).map fun v => v.category).sum = (st.map fun v => v.category).sum := by
  rw [List.map_map]
  congr 1
  exact List.map_congr_left (fun v _ => zV_cat ρ v)
abbrev zA : Type := (Nat → Int32) ⊕ (Nat → Int64) ⊕ List (Option Nat)
abbrev zE : Type := (FieldType × Nat × zA) ⊕ (Nat × List Value)
abbrev zH : Type := List zE
def zMA (ρ : Nat → Nat) : zA → ((Nat → Int32) ⊕ (Nat → Int64) ⊕ (Nat → UInt32) ⊕ (Nat → UInt64) ⊕ (Nat → Option Nat))
  | .inl f => .inl f
  | .inr (.inl f) => .inr (.inl f)
  | .inr (.inr l) => .inr (.inr (.inr (.inr (fun j => (l.getD j none).map ρ))))
def zM (cI : FieldType → ClassId) (ρ : Nat → Nat) : zE → va_E
  | .inl q => .inl (cI q.1, q.2.1, zMA ρ q.2.2)
  | .inr q => .inr (q.1, q.2.map (zV ρ))
def zw (cI : FieldType → ClassId) (ρ : Nat → Nat) (h : zH) : va_W := h.mapIdx (fun k e => (ρ k, zM cI ρ e))
theorem zw_at {cI : FieldType → ClassId} {ρ : Nat → Nat} {h : zH} {k : Nat} {e : zE} (hk : h[k]? = some e) : (zw cI ρ h)[k]? = some (ρ k, zM cI ρ e) := by
  simp [zw, List.getElem?_mapIdx, hk]
theorem zw_of {cI : FieldType → ClassId} {ρ : Nat → Nat} {h : zH} {k : Nat} {q : Nat × va_E} (hk : (zw cI ρ h)[k]? = some q) : ∃ e, h[k]? = some e ∧ q = (ρ k, zM cI ρ e) := by
  rw [zw, List.getElem?_mapIdx] at hk
  cases he : h[k]? with
  | none => rw [he] at hk; cases hk
  | some e => rw [he] at hk; cases hk; exact ⟨e, rfl, rfl⟩
theorem zw_set {cI : FieldType → ClassId} {ρ : Nat → Nat} {h : zH} {k : Nat} {e : zE} : (zw cI ρ h).set k (ρ k, zM cI ρ e) = zw cI ρ (h.set k e) := by
  apply List.ext_getElem?
  intro i
  simp only [zw, List.getElem?_mapIdx, List.getElem?_set, List.length_mapIdx]
  by_cases hi : k = i
  · subst hi
    by_cases hl : k < h.length
    · simp [hl]
    · simp [hl]
  · simp [hi]
def zTys (cI : FieldType → ClassId) : List (ClassId × FieldType) := [(cI .int, .int), (cI .long, .long), (cI (.array .int), .array .int), (cI (.object "OffsetChains$Sheet"), .object "OffsetChains$Sheet")]
/-- the tables' words that pass from a state to any warmed one -/
def zWd : List Cond := lw_tbl.filter goodWord
theorem zWd_in {w : Cond} (i : Nat) (h : lw_tbl[i]? = some w) (g : goodWord w = true) : w ∈ zWd := List.mem_filter.mpr ⟨List.mem_of_getElem? h, g⟩
theorem zWd_of {w : Cond} (h : w ∈ lw_tbl) (g : goodWord w = true) : w ∈ zWd := List.mem_filter.mpr ⟨h, g⟩
theorem zWd_good {y : MethodName} {cc : ByteArray} {n : Nat} {r : Option FieldType} (h : Cond.code y cc n r ∈ zWd) : GoodIn zWd (.code y cc n r :: zWd) := by
  intro w hw
  have hw2 : w ∈ zWd := by
    rcases List.mem_cons.mp hw with e | e
    · rw [e]; exact h
    · exact e
  exact ⟨hw2, good_of_word (List.mem_filter.mp hw2).2⟩
/-- the nest's words -/
def zIsN : Cond → Bool
  | .fieldLinkNest .. => true
  | .methodLinkNest .. => true
  | _ => false
def zNs : List Cond := lw_tbl.filter zIsN
theorem zNs_in {w : Cond} (i : Nat) (h : lw_tbl[i]? = some w) (g : zIsN w = true) : w ∈ zNs := List.mem_filter.mpr ⟨List.mem_of_getElem? h, g⟩
def zNw (U : State) : Prop := ∀ w ∈ zNs, va_Nw w U
theorem zNw.warm {s U : State} (hW : s.WarmedH U.vm) (h : zNw s) : zNw U := by
  intro w hw
  have h1 := h w hw
  have h2 := (List.mem_filter.mp hw).2
  cases w <;> first | exact h1.warmF hW | exact va_Nw.warmF hW h1 | exact va_Nw.warmM hW h1 | cases h2
theorem zNw.same {u U : State} (e : u.vm = U.vm) (h : zNw u) : zNw U := by
  intro w hw
  have h1 := h w hw
  have h2 := (List.mem_filter.mp hw).2
  cases w <;> first | exact va_Nw.same rfl e h1 | cases h2
/-- the static tables: 9000 on -/
def zTn : Nat → String
  | 0 => "TRAIT_LEAST"
  | 1 => "TRAIT_MOST"
  | 2 => "MARK_LEAST"
  | _ => "MARK_MOST"
def zTl : Nat → Nat
  | 0 => 5
  | 1 => 5
  | 2 => 4
  | _ => 4
def zTf : Nat → Nat → Int32
  | 0, 0 => 5
  | 0, _ => 0
  | 1, 0 => 100
  | 1, 1 => 30
  | 1, 2 => 200
  | 1, 3 => 99
  | 1, _ => 9
  | 2, 1 => 1
  | 2, _ => 0
  | _, 0 => 1
  | _, 1 => 20
  | _, 2 => 9
  | _, _ => 20
def zT (ρ : Nat → Nat) (A : Nat → Prop) (U : State) (H : Heap) : Prop := (∀ i : Nat, i < 4 → va_Z "OffsetChains" (zTn i) "[I" (.ref (ρ (9000 + i))) A U H ∧ va_T .int (ρ (9000 + i)) (zTl i) (fun j => .int (zTf i j)) A U H) ∧
  ∃ (Ln : Nat) (xs : Nat → Int32), Ln ≤ 3072 ∧ va_X (ρ 9004) Ln xs U H ∧ ρ 9004 < H.size ∧ ¬ A (ρ 9004)
/-- a method: name, code, locals, what it returns -/
abbrev zU : Type := MethodName × ByteArray × Nat × Option FieldType
def zRel (mc n : Nat) (ρ ρ' : Nat → Nat) : Prop := (mc = 0 → ρ' = ρ) ∧ ∀ k : Nat, (k < n ∨ 9000 ≤ k) → ρ' k = ρ k
theorem zRel.rf {mc n : Nat} {ρ : Nat → Nat} : zRel mc n ρ ρ := ⟨fun _ => rfl, fun _ _ => rfl⟩
def zR (mc ms d : Nat) : Room := { frames := d, cells := mc, slots := ms, locals := 43 * d }
def zL (nL : Nat) (ρ : Nat → Nat) (ls : Array Slot) (L : List (Option Value)) : Prop := ls.size = nL ∧ lv_wf ls ∧ ∀ (i : Nat) (v : Value), L[i]? = some (some v) → ls[i]? = some (.val (zV ρ v))
def zQ (D : va_G) (cI : FieldType → ClassId) (ρ0 : Nat → Nat) (n0 mc : Nat) (A : Nat → Prop) (Post : Option Value → zH → Prop) : Array Value → State → Outcome → State → Prop := fun _ st oc t =>
  (∃ (r : Option Value) (h' : zH) (ρ' : Nat → Nat), Post r h' ∧ oc = .returned (r.map (zV ρ')) ∧ zRel mc n0 ρ0 ρ' ∧ n0 ≤ h'.length ∧ va_P D vwCl (zw cI ρ' h') t.heap ∧ va_D A (zw cI ρ' h')) ∧ va_F A st t
def zCx (μ : zU) (p : Program) (s : State) (m : MethodId) (args : Array Value) (meth : Method) (c : Code) (D : va_G) (cI : FieldType → ClassId) (A : Nat → Prop) : Prop :=
  p.tables.exec = Jvm.exec ∧ c.code = μ.2.1 ∧ c.maxLocals = μ.2.2.1 ∧ meth.sig.returnType = μ.2.2.2 ∧ meth.locks = false ∧ meth.name = μ.1.name ∧ s.vm.findClass μ.1.cls = some m.cls ∧ (∀ w ∈ zWd, w.before args s = true) ∧ zNw s ∧ va_K D vwCl (zTys cI) s ∧ ∀ q : Nat, s.heap.size ≤ q → A q
def zSt (μ : zU) (D : va_G) (cI : FieldType → ClassId) (A : Nat → Prop) (s : State) (h : zH) (L : List (Option Value)) (ρ : Nat → Nat) (H : Heap) (locs : List Loc) (ls : Array Slot) : Prop :=
  va_P D vwCl (zw cI ρ h) H ∧ va_D A (zw cI ρ h) ∧ va_S A s.heap H locs ∧ zL μ.2.2.1 ρ ls L ∧ zT ρ A s s.heap
/-- from pc on, with locals L, operands st and world h, the method comes to its end, with Post -/
def Z (mc ms d : Nat) (μ : zU) (pc : Nat) (L : List (Option Value)) (st : List Value) (h : zH) (kc ks : Nat) (Post : Option Value → zH → Prop) : Prop :=
  ∀ (p : Program) (l : Launch) (e : Env) (s : State) (m : MethodId) (args : Array Value) (below : List Frame) (meth : Method) (c : Code) (D : va_G) (cI : FieldType → ClassId) (A : Nat → Prop) (ρ0 : Nat → Nat) (n0 : Nat),
    zCx μ p s m args meth c D cI A → n0 ≤ h.length → ∀ (ρ : Nat → Nat) (H : Heap) (locs : List Loc) (ls : Array Slot), zRel mc n0 ρ0 ρ → zSt μ D cI A s h L ρ H locs ls →
      W p l e (zR mc ms d) s m args below meth c H locs kc ks (MQ below (zQ D cI ρ0 n0 mc A Post) args s mc ms A) (F0 m pc ls (st.map (zV ρ)))
/-- a method's contract -/
def zMet (mc ms d : Nat) (μ : zU) (avs : List Value) (h0 : zH) (Post : Option Value → zH → Prop) : Prop :=
  ∀ (l : Launch) (D : va_G) (cI : FieldType → ClassId) (ρ0 : Nat → Nat) (sz : Nat), Met l μ.1 (.code μ.1 μ.2.1 μ.2.2.1 μ.2.2.2 :: zWd) (zR mc ms d)
    (va_Pc (avs.map (zV ρ0)) (fun U => U.heap.size = sz ∧ va_P D vwCl (zw cI ρ0 h0) U.heap ∧ va_K D vwCl (zTys cI) U ∧ va_D (fun _ => True) (zw cI ρ0 h0) ∧ zNw U ∧ zT ρ0 (va_A (zw cI ρ0 h0) sz) U U.heap))
    (zQ D cI ρ0 h0.length mc (va_A (zw cI ρ0 h0) sz) Post) mc ms (va_A (zw cI ρ0 h0) sz)
def zC (mc ms hd : Nat) (μ : zU) (avs : List Value) (h0 : zH) (Post : Option Value → zH → Prop) : Prop := ∀ d : Nat, hd ≤ d → zMet mc ms d μ avs h0 Post
def zLk (l : List (Nat × Value)) (i : Nat) : Option Value := (l.find? (fun q => q.1 == i)).map (fun q => q.2)
/-- the locals at the entry -/
def zEnt (avs : List Value) (n : Nat) : List (Option Value) := (List.range n).map (zLk (lv_args 0 avs))
theorem zLk_in {l : List (Nat × Value)} {i : Nat} {v : Value} (h : zLk l i = some v) : (i, v) ∈ l := by
  unfold zLk at h
  cases hf : l.find? (fun q => q.1 == i) with
  | none => rw [hf] at h; cases h
  | some q =>
    rw [hf] at h
    have h1 := List.mem_of_find?_eq_some hf
    have h2 := List.find?_some hf
    cases h
    have h3 : q.1 = i := by simpa using h2
    rw [← h3]
    exact h1
theorem zArgs (ρ : Nat → Nat) : ∀ (avs : List Value) (k : Nat), lv_args k (avs.map (zV ρ)) = (lv_args k avs).map (fun q => (q.1, zV ρ q.2))
  | [], _ => rfl
  | v :: vs, k => by
    show (k, zV ρ v) :: lv_args (if (zV ρ v).category = 2 then k + 2 else k + 1) (vs.map (zV ρ)) = _
    rw [zV_cat, zArgs ρ vs]
    rfl
theorem zSl (ρ : Nat → Nat) (avs : List Value) : (lg_sl (avs.map (zV ρ))).length = (lg_sl avs).length := by
  unfold lg_sl
  induction avs with
  | nil => rfl
  | cons v vs ih =>
    simp only [List.map_cons, List.flatMap_cons, List.length_append, ih, zV_cat]
    split <;> rfl
theorem zL_ent {nL : Nat} {ρ : Nat → Nat} {avs : List Value} {ls : Array Slot} (h : lv_has ls nL (lv_args 0 (avs.map (zV ρ)))) : zL nL ρ ls (zEnt avs nL) := by
  refine ⟨h.1, h.2.1, fun i v hv => ?_⟩
  rw [zEnt, List.getElem?_map] at hv
  cases hr : (List.range nL)[i]? with
  | none => rw [hr] at hv; cases hv
  | some j =>
    rw [hr] at hv
    have hj : j = i := by
      have := List.getElem?_eq_some_iff.mp hr
      obtain ⟨h1, h2⟩ := this
      simpa using h2.symm
    subst hj
    have h1 : zLk (lv_args 0 avs) j = some v := Option.some.inj hv
    have h2 := zLk_in h1
    have h3 : (j, zV ρ v) ∈ lv_args 0 (avs.map (zV ρ)) := by
      rw [zArgs]
      exact List.mem_map.mpr ⟨(j, v), h2, rfl⟩
    exact h.2.2 _ h3
set_option maxHeartbeats 1000000 in
theorem zC.of {mc ms hd : Nat} {μ : zU} {avs : List Value} {h0 : zH} {Post : Option Value → zH → Prop} (hpl : plainName μ.1.cls = true) (hsl : (lg_sl avs).length ≤ μ.2.2.1)
    (k : ∀ d : Nat, hd ≤ d → Z mc ms d μ 0 (zEnt avs μ.2.2.1) [] h0 0 0 Post) : zC mc ms hd μ avs h0 Post := by
  intro d hd' l D cI ρ0 sz
  refine Met.ofW (cc := μ.2.1) (maxL := μ.2.2.1) (ret := μ.2.2.2) hpl rfl ?_
  intro p e s m args below meth c s₁ B hml hv
  obtain ⟨rfl, hsz, hP, hK, hD0, hN, hT⟩ := hv
  have hts0 := atoms_spec (ws := .code μ.1 μ.2.1 μ.2.2.1 μ.2.2.2 :: zWd) B.pre
  have hown : s.vm.findClass μ.1.cls = some m.cls := findClass_of_methodNamed B.named
  have hin : meth.name = μ.1.name := (name_of_methodNamed B.named B.method).1
  subst hsz
  have hD := hD0.self (sz := s.heap.size)
  have hl := lv_entry (avs.map (zV ρ0)) (n := μ.2.2.1) (by rw [zSl]; exact hsl)
  rw [lg_entry_eq]
  exact k d hd' p l e s m _ below meth c D cI _ ρ0 h0.length ⟨B.exec, B.bytes, hml, B.returns, B.notSynchronized, hin, hown, fun w hw => hts0 w (List.mem_cons_of_mem _ hw), hN, hK, fun q hq => Or.inr hq⟩ (Nat.le_refl _) ρ0 s.heap [] _ zRel.rf ⟨hP, hD, va_S.rf, zL_ent hl, hT⟩
end ZK
