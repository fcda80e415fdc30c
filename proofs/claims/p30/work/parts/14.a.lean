/-! THE CLAIM OUT OF ONE WALK OF THE LAW'S BODY. Your part is whole_start (and what it stands on); all else here is the same for every law, but numbers. -/
def R_law : String := "OffsetChainsLaw"
def lw_P (b : Addr) (xs : List Int32) (args : Array Value) (s : State) : Prop := args = #[.ref b] ∧ s.IntsAt b xs ∧ xs.length ≤ 260 ∧ (Jvm.Cond.and given_1 narrow_1).before args s = true
def lw_Q (_ : Array Value) (s : State) (o : Outcome) (t : State) : Prop := o = .returned (some (.int 1)) ∧ Framed s o t [] 600000 7302250
def lw_Z (below : List Frame) (a : Array Value) (s : State) : State → Prop := fun t => ∃ o, t.status = .running ∧ Ended t below o ∧ lw_Q a s o t
/-- the law's own end, with 1 on the stack, nothing written that was there before, its room as the claim has it -/
theorem lw_ret {p : Program} {l : Launch} {e : Env} {s : State} {m : MethodId} {below : List Frame} {meth : Method} {c : Code} {b : Nat} (hx : p.tables.exec = Jvm.exec) (hb : c.code = code) (hr : meth.sig.returnType = ret) (hlocks : meth.locks = false) {pc : Nat} {H : Heap} {ls : Array Slot} (hdg : decode code pc = .ok (.ireturn, 1)) : W p l e room_1 s m #[Value.ref b] below meth c H [] 600000 7302250 (lw_Z below #[Value.ref b] s) (F0 m pc ls [.int 1]) := by
  intro T hT X
  obtain ⟨fs, hret, hrun, hended, hW, hframe⟩ := X.leave (v := some (.int 1)) (hlocks := hlocks) (fun h => by rw [hr] at h; cases h)
  have hmeth' : T.vm.method? m = some meth := X.method'
  refine ⟨T.setFrames fs, ?_, .returned (some (.int 1)), hrun, hended, rfl, ⟨_, rfl⟩, hW, hframe⟩
  jvm_step X.here [X.here.top, hx, hb, hdg, hmeth', hr, ret, narrow_b1]
  (try refine ⟨rfl, ?_⟩); (try refine ⟨rfl, ?_⟩)
  first | (intro acts; rw [hret _ acts rfl rfl rfl]) | rw [hret _ _ rfl rfl rfl]
  exact Steps.refl _
/-- what holds at the law's entry: the machine, the code, the tables' words (any of lw_tbl by 'hts w (by decide +kernel)'), the script of L ints xs at the cell b, what the Statement gives of the start (any of its parts by flat_of_before) -/
def lw_At (p : Program) (s : State) (m : MethodId) (meth : Method) (c : Code) (b L : Nat) (xs : Nat → Int32) : Prop :=
  p.tables.exec = Jvm.exec ∧ c.code = code ∧ meth.sig.returnType = ret ∧ c.maxLocals = 13 ∧ s.vm.findClass R_law = some m.cls ∧ (∀ w ∈ lw_tbl, w.before #[Value.ref b] s = true) ∧ va_X b L xs s s.heap ∧ b < s.heap.size ∧ meth.locks = false ∧ (Jvm.Cond.and given_1 narrow_1).before #[Value.ref b] s = true
theorem Stand.less {p : Program} {l : Launch} {e : Env} {R R2 : Room} {s : State} {m : MethodId} {args : Array Value} {below : List Frame} {meth : Method} {c : Code} {T : State} {locs : List Loc} {cells slots : Nat} (X : Stand p l e R s m args below meth c T locs cells slots) (h1 : R2.frames ≤ R.frames) (h2 : R2.locals ≤ R.locals) (h3 : R2.cells ≤ R.cells) (h4 : R2.slots ≤ R.slots) : Stand p l e R2 s m args below meth c T locs cells slots := by
  have hr : s.hasRoom e.platform R2 = true := by
    have h := X.room
    unfold State.hasRoom at h ⊢
    simp only [Bool.and_eq_true, decide_eq_true_eq] at h ⊢
    refine ⟨⟨⟨by omega, by omega⟩, ?_⟩, h.2⟩
    omega
  exact ⟨X.admits, X.cas, X.clock, X.frames, hr, X.hears, X.method, X.code, X.here, X.tail, X.warmed, X.limits, X.bytes, X.same⟩
set_option maxHeartbeats 2000000 in
theorem whole_start {p : Program} {e : Env} {s : State} {m : MethodId} {below : List Frame} {meth : Method} {c : Code} (l : Launch) (hflags : l.flags = flags0) {b L : Nat} {xs : Nat → Int32} (hL : L ≤ 260) (C0 : lw_At p s m meth c b L xs) : W p l e room_1 s m #[Value.ref b] below meth c s.heap [] 0 0 (lw_Z below #[Value.ref b] s) (entryFrame m ([Value.ref b] : List Value).toArray 13) := by
  obtain ⟨hx, hb, hr, hml, hown, hts, hX, hbl, hlk, hgv⟩ := C0
  have hs := flat_of_before _ hgv
  obtain ⟨t0, e0, T0⟩ : ∃ t : Nat, (Term.static "OffsetChains" "TRAIT_LEAST" "[I").eval #[Value.ref b] s none [] s = some (.ref t) ∧ va_T .int t 5 (fun j => .int (zTf 0 j)) (fun q => s.heap.size ≤ q) s s.heap := by
    refine va_Tof (by decide) (hs (.arrayOf (.static "OffsetChains" "TRAIT_LEAST" "[I") .int) (by decide +kernel)) (va_eqt (hs (.eq (.length (.static "OffsetChains" "TRAIT_LEAST" "[I")) (.int 5)) (by decide +kernel))) (fun j hj => ?_) (fun a h1 h2 => absurd h1 (Nat.not_lt.mpr h2))
    rcases j with _ | _ | _ | _ | _ | j
    · exact va_eqt (hs (.eq (.elem (.static "OffsetChains" "TRAIT_LEAST" "[I") (.int 0)) (.int 5)) (by decide +kernel))
    · exact va_eqt (hs (.eq (.elem (.static "OffsetChains" "TRAIT_LEAST" "[I") (.int 1)) (.int 0)) (by decide +kernel))
    · exact va_eqt (hs (.eq (.elem (.static "OffsetChains" "TRAIT_LEAST" "[I") (.int 2)) (.int 0)) (by decide +kernel))
    · exact va_eqt (hs (.eq (.elem (.static "OffsetChains" "TRAIT_LEAST" "[I") (.int 3)) (.int 0)) (by decide +kernel))
    · exact va_eqt (hs (.eq (.elem (.static "OffsetChains" "TRAIT_LEAST" "[I") (.int 4)) (.int 0)) (by decide +kernel))
    · omega
  have Z0 : va_Z "OffsetChains" "TRAIT_LEAST" "[I" (.ref t0) (fun q => s.heap.size ≤ q) s s.heap := va_Zref (hts (.laysStatic "OffsetChains" "TRAIT_LEAST" "[I") (by decide +kernel)) (hts (.initialized "OffsetChains") (by decide +kernel)) e0 (fun a h1 h2 => absurd h1 (Nat.not_lt.mpr h2))
  obtain ⟨t1, e1, T1⟩ : ∃ t : Nat, (Term.static "OffsetChains" "TRAIT_MOST" "[I").eval #[Value.ref b] s none [] s = some (.ref t) ∧ va_T .int t 5 (fun j => .int (zTf 1 j)) (fun q => s.heap.size ≤ q) s s.heap := by
    refine va_Tof (by decide) (hs (.arrayOf (.static "OffsetChains" "TRAIT_MOST" "[I") .int) (by decide +kernel)) (va_eqt (hs (.eq (.length (.static "OffsetChains" "TRAIT_MOST" "[I")) (.int 5)) (by decide +kernel))) (fun j hj => ?_) (fun a h1 h2 => absurd h1 (Nat.not_lt.mpr h2))
    rcases j with _ | _ | _ | _ | _ | j
    · exact va_eqt (hs (.eq (.elem (.static "OffsetChains" "TRAIT_MOST" "[I") (.int 0)) (.int 100)) (by decide +kernel))
    · exact va_eqt (hs (.eq (.elem (.static "OffsetChains" "TRAIT_MOST" "[I") (.int 1)) (.int 30)) (by decide +kernel))
    · exact va_eqt (hs (.eq (.elem (.static "OffsetChains" "TRAIT_MOST" "[I") (.int 2)) (.int 200)) (by decide +kernel))
    · exact va_eqt (hs (.eq (.elem (.static "OffsetChains" "TRAIT_MOST" "[I") (.int 3)) (.int 99)) (by decide +kernel))
    · exact va_eqt (hs (.eq (.elem (.static "OffsetChains" "TRAIT_MOST" "[I") (.int 4)) (.int 9)) (by decide +kernel))
    · omega
  have Z1 : va_Z "OffsetChains" "TRAIT_MOST" "[I" (.ref t1) (fun q => s.heap.size ≤ q) s s.heap := va_Zref (hts (.laysStatic "OffsetChains" "TRAIT_MOST" "[I") (by decide +kernel)) (hts (.initialized "OffsetChains") (by decide +kernel)) e1 (fun a h1 h2 => absurd h1 (Nat.not_lt.mpr h2))
  obtain ⟨t2, e2, T2⟩ : ∃ t : Nat, (Term.static "OffsetChains" "MARK_LEAST" "[I").eval #[Value.ref b] s none [] s = some (.ref t) ∧ va_T .int t 4 (fun j => .int (zTf 2 j)) (fun q => s.heap.size ≤ q) s s.heap := by
    refine va_Tof (by decide) (hs (.arrayOf (.static "OffsetChains" "MARK_LEAST" "[I") .int) (by decide +kernel)) (va_eqt (hs (.eq (.length (.static "OffsetChains" "MARK_LEAST" "[I")) (.int 4)) (by decide +kernel))) (fun j hj => ?_) (fun a h1 h2 => absurd h1 (Nat.not_lt.mpr h2))
    rcases j with _ | _ | _ | _ | j
    · exact va_eqt (hs (.eq (.elem (.static "OffsetChains" "MARK_LEAST" "[I") (.int 0)) (.int 0)) (by decide +kernel))
    · exact va_eqt (hs (.eq (.elem (.static "OffsetChains" "MARK_LEAST" "[I") (.int 1)) (.int 1)) (by decide +kernel))
    · exact va_eqt (hs (.eq (.elem (.static "OffsetChains" "MARK_LEAST" "[I") (.int 2)) (.int 0)) (by decide +kernel))
    · exact va_eqt (hs (.eq (.elem (.static "OffsetChains" "MARK_LEAST" "[I") (.int 3)) (.int 0)) (by decide +kernel))
    · omega
  have Z2 : va_Z "OffsetChains" "MARK_LEAST" "[I" (.ref t2) (fun q => s.heap.size ≤ q) s s.heap := va_Zref (hts (.laysStatic "OffsetChains" "MARK_LEAST" "[I") (by decide +kernel)) (hts (.initialized "OffsetChains") (by decide +kernel)) e2 (fun a h1 h2 => absurd h1 (Nat.not_lt.mpr h2))
  obtain ⟨t3, e3, T3⟩ : ∃ t : Nat, (Term.static "OffsetChains" "MARK_MOST" "[I").eval #[Value.ref b] s none [] s = some (.ref t) ∧ va_T .int t 4 (fun j => .int (zTf 3 j)) (fun q => s.heap.size ≤ q) s s.heap := by
    refine va_Tof (by decide) (hs (.arrayOf (.static "OffsetChains" "MARK_MOST" "[I") .int) (by decide +kernel)) (va_eqt (hs (.eq (.length (.static "OffsetChains" "MARK_MOST" "[I")) (.int 4)) (by decide +kernel))) (fun j hj => ?_) (fun a h1 h2 => absurd h1 (Nat.not_lt.mpr h2))
    rcases j with _ | _ | _ | _ | j
    · exact va_eqt (hs (.eq (.elem (.static "OffsetChains" "MARK_MOST" "[I") (.int 0)) (.int 1)) (by decide +kernel))
    · exact va_eqt (hs (.eq (.elem (.static "OffsetChains" "MARK_MOST" "[I") (.int 1)) (.int 20)) (by decide +kernel))
    · exact va_eqt (hs (.eq (.elem (.static "OffsetChains" "MARK_MOST" "[I") (.int 2)) (.int 9)) (by decide +kernel))
    · exact va_eqt (hs (.eq (.elem (.static "OffsetChains" "MARK_MOST" "[I") (.int 3)) (.int 20)) (by decide +kernel))
    · omega
  have Z3 : va_Z "OffsetChains" "MARK_MOST" "[I" (.ref t3) (fun q => s.heap.size ≤ q) s s.heap := va_Zref (hts (.laysStatic "OffsetChains" "MARK_MOST" "[I") (by decide +kernel)) (hts (.initialized "OffsetChains") (by decide +kernel)) e3 (fun a h1 h2 => absurd h1 (Nat.not_lt.mpr h2))
  obtain ⟨c0, iS0, hK0⟩ := u_known (C := RX0) (T := TX0) (N := 18) (n := 18) hts (fun w h => inX0 w h) (hts (.instantiable RX0 18) (by decide +kernel))
  obtain ⟨c1, iS1, hK1⟩ := u_known (C := RX1) (T := TX1) (N := 10) (n := 10) hts (fun w h => inX1 w h) (hts (.instantiable RX1 10) (by decide +kernel))
  obtain ⟨c2, iS2, hK2⟩ := u_known (C := RX2) (T := TX2) (N := 3) (n := 3) hts (fun w h => inX2 w h) (hts (.instantiable RX2 3) (by decide +kernel))
  obtain ⟨c3, iS3, hK3⟩ := u_known (C := RX3) (T := TX3) (N := 4) (n := 4) hts (fun w h => inX3 w h) (hts (.instantiable RX3 4) (by decide +kernel))
  obtain ⟨c4, iS4, hK4⟩ := u_known (C := RX4) (T := TX4) (N := 6) (n := 6) hts (fun w h => inX4 w h) (hts (.instantiable RX4 6) (by decide +kernel))
  have hK0' : ∃ D : va_G, va_K D vwCl [] s := by
    refine ⟨((fun k => match k with | 0 => c0 | 1 => c1 | 2 => c2 | 3 => c3 | _ => c4), (fun k => match k with | 0 => iS0 | 1 => iS1 | 2 => iS2 | 3 => iS3 | _ => iS4)), fun k q h => ?_, fun k q h => by cases h⟩
    rcases k with _ | _ | _ | _ | _ | k
    · cases h; exact hK0
    · cases h; exact hK1
    · cases h; exact hK2
    · cases h; exact hK3
    · cases h; exact hK4
    · cases h
  obtain ⟨D, hK⟩ := hK0'
  obtain ⟨a0, k0, q0, f01, f02, f03⟩ := Cond.arrayClass_spec (hts (.arrayClass .int) (by decide +kernel))
  obtain ⟨a1, k1, q1, f11, f12, f13⟩ := Cond.arrayClass_spec (hts (.arrayClass .long) (by decide +kernel))
  have hO2 : va_AOA .int s := va_AOA.of (hts (.arrayOver (.array .int)) (by decide +kernel))
  have hO3 : va_AO "OffsetChains$Sheet" s := va_AO.of (hts (.arrayOver (.object "OffsetChains$Sheet")) (by decide +kernel))
  obtain ⟨q2, a2, k2, f21, f22, f23, f24, f25⟩ := arrayOverA_spec hO2
  obtain ⟨q3, a3, k3, f31, f32, f33, f34, f35⟩ := Cond.arrayOver_spec hO3
  have hcI : ∃ cI : FieldType → ClassId, cI .int = a0 ∧ cI .long = a1 ∧ cI (.array .int) = a2 ∧ cI (.object "OffsetChains$Sheet") = a3 := ⟨fun ty => match ty with | .int => a0 | .long => a1 | .array _ => a2 | _ => a3, rfl, rfl, rfl, rfl⟩
  obtain ⟨cI, g0, g1, g2, g3⟩ := hcI
  subst g0; subst g1; subst g2; subst g3
  have hK9 : va_K D vwCl (zTys cI) s := ⟨hK.1, fun k q h => by
    rcases k with _ | _ | _ | _ | k
    · cases h
      exact ⟨fun _ _ => ⟨(fun _ h => by cases h), k0, f02, q0, f03⟩, f01⟩
    · cases h
      exact ⟨fun _ _ => ⟨(fun _ h => by cases h), k1, f12, q1, f13⟩, f11⟩
    · cases h
      exact ⟨fun _ _ => ⟨(fun _ h => by cases h), k2, f23, q2, f24⟩, f25⟩
    · cases h
      exact ⟨fun _ _ => ⟨(fun _ h => by cases h), k3, f33, q3, f34⟩, ⟨k3, q3, f33, f34, f31, f35⟩⟩
    · cases h⟩
  have hNw : zNw s := fun w hw => by
    have h1 := hts w (List.mem_filter.mp hw).1
    have h2 := (List.mem_filter.mp hw).2
    cases w <;> first | exact va_Nw.of rfl h1 | cases h2
  have hρ : ∃ ρ : Nat → Nat, ρ 9000 = t0 ∧ ρ 9001 = t1 ∧ ρ 9002 = t2 ∧ ρ 9003 = t3 ∧ ρ 9004 = b := ⟨fun k => if k = 9000 then t0 else if k = 9001 then t1 else if k = 9002 then t2 else if k = 9003 then t3 else b, rfl, rfl, rfl, rfl, rfl⟩
  obtain ⟨ρ, r0, r1, r2, r3, r4⟩ := hρ
  have hT : zT ρ (fun q => s.heap.size ≤ q) s s.heap := ⟨fun i hi => by
    rcases i with _ | _ | _ | _ | i
    · show va_Z _ _ _ (.ref (ρ 9000)) _ _ _ ∧ va_T _ (ρ 9000) _ _ _ _ _
      rw [r0]
      exact ⟨Z0, T0⟩
    · show va_Z _ _ _ (.ref (ρ 9001)) _ _ _ ∧ va_T _ (ρ 9001) _ _ _ _ _
      rw [r1]
      exact ⟨Z1, T1⟩
    · show va_Z _ _ _ (.ref (ρ 9002)) _ _ _ ∧ va_T _ (ρ 9002) _ _ _ _ _
      rw [r2]
      exact ⟨Z2, T2⟩
    · show va_Z _ _ _ (.ref (ρ 9003)) _ _ _ ∧ va_T _ (ρ 9003) _ _ _ _ _
      rw [r3]
      exact ⟨Z3, T3⟩
    · omega, L, xs, by omega, by rw [r4]; exact hX, by rw [r4]; exact hbl, by rw [r4]; exact Nat.not_le.mpr hbl⟩
  have hl := lv_entry ([.ref b] : List Value) (n := 13) (Nat.le_of_ble_eq_true rfl)
  rw [lg_entry_eq]
  generalize ((lg_sl ([.ref b] : List Value) ++ List.replicate (13 - (lg_sl ([.ref b] : List Value)).length) Slot.unset).toArray) = ls at hl ⊢
  have hl2 : zL 13 ρ ls [some (.ref 9004), none, none, none, none, none, none, none, none, none, none, none, none] := by
    refine zL_ent (avs := [.ref 9004]) ?_
    show lv_has ls 13 (lv_args 0 [.ref (ρ 9004)])
    rw [r4]
    exact hl
  have hC : zCx (μL meth.name "") p s m #[Value.ref b] meth c D cI (fun q => s.heap.size ≤ q) :=
    ⟨hx, hb, hml, hr, hlk, rfl, hown, fun w hw => hts w (List.mem_filter.mp hw).1, hNw, hK9, fun _ h => h⟩
  have hXL : XN s ρ (fun q => s.heap.size ≤ q) 0 := ⟨⟨hO3, hO2⟩, rfl⟩
  have hSt : zSt (μL meth.name "") D cI (fun q => s.heap.size ≤ q) s [] [some (.ref 9004), none, none, none, none, none, none, none, none, none, none, none, none] ρ s.heap [] ls :=
    ⟨fun k q h => (by cases h), ⟨fun i j p q h => (by cases h), fun k q h => (by cases h)⟩, va_S.rf, hl2, hT⟩
  have w := lw_main (nm := meth.name) (ds := "") p l e s m #[Value.ref b] below meth c D cI (fun q => s.heap.size ≤ q) ρ 0 hC (Nat.le_refl _) hXL ρ s.heap [] ls zRel.rf hSt
  intro T hT0 X
  obtain ⟨t, h1, o, h2, h3, ⟨⟨r, h', ρ', hp, hv, -⟩, h6⟩, LL, ⟨u1, u2, u3⟩, h8⟩ := w T hT0 (Stand.less X (Nat.le_refl _) (Nat.le_of_ble_eq_true rfl) (Nat.le_refl _) (Nat.le_refl _))
  have hp : r = some (.int 1) := hp
  subst hp
  exact ⟨t, h1, o, h2, h3, hv, u1, u2, u3.weaken (fun y hy hlt => absurd hlt (Nat.not_lt.mpr (h8 y hy))) (Nat.le_refl _) (Nat.le_refl _)⟩
set_option maxHeartbeats 4000000 in
theorem lw_walk (l : Launch) (hflags : l.flags = flags0) (b : Addr) (xs : List Int32) : MetFree l x (headSpec (Jvm.Cond.code x code maxLocals ret :: tables_1) room_1) (lw_P b xs) (fun _ _ _ _ _ => True) lw_Q := by
  refine MetFree.of_bodyS (code := code) (maxLocals := maxLocals) (ret := ret) (by decide) ?_ ?_
  · intro args s m h hn
    obtain ⟨meth, c, h1, h2, h3, h4, h5, h6, -, -⟩ := Cond.code_spec hn (atoms_spec (ws := Jvm.Cond.code x code maxLocals ret :: tables_1) h _ List.mem_cons_self)
    exact ⟨meth, c, h1, h2, h3, h4, h5, h6⟩
  · intro p e s m args below meth c s₁ B hml0 hP _
    obtain ⟨rfl, hx, hbd, hgv⟩ := hP
    obtain ⟨scr, harrAt, hlist, hof, hsmall⟩ := hx
    obtain ⟨hcb, hkn, -, -⟩ := State.arrayAt?_spec harrAt
    have hown : s.vm.findClass R_law = some m.cls := findClass_of_methodNamed B.named
    have hts0 : ∀ c ∈ (Jvm.Cond.code x code maxLocals ret :: tables_1), c.before #[Value.ref b] s = true := atoms_spec (ws := Jvm.Cond.code x code maxLocals ret :: tables_1) B.pre
    have hts : ∀ w ∈ lw_tbl, w.before #[Value.ref b] s = true := k2_hts_sels lw_privs (fun w hw => hts0 w (List.mem_cons_of_mem _ hw)) lw_privs_ok
    have hml : c.maxLocals = 13 := B.maxLocals_eq (hts0 _ List.mem_cons_self)
    have X₀ : Stand p l e room_1 s m #[Value.ref b] below meth c s₁ [] 0 0 := Stand.of_body B
    have hh0 : s₁.heap = s.heap := by rw [B.state]; rfl
    have hsz : scr.slots.size = xs.length := by rw [← Array.length_toList, hlist, List.length_map]
    have hval : ∀ j : Nat, j < xs.length → scr.slots[j]? = some (.int (xs.getD j 0)) := fun j hj => by
      rw [← Array.getElem?_toList, hlist]
      simp [hj]
    have hbl : b < s.heap.size := (Array.getElem?_eq_some_iff.mp hcb).1
    have hX : va_X b xs.length (fun j => xs.getD j 0) s s.heap := ⟨scr, hcb, hof, hkn, hsz, hval⟩
    have K : W p l e room_1 s m #[Value.ref b] below meth c s₁.heap [] 0 0 (lw_Z below #[Value.ref b] s) (entryFrame m ([Value.ref b] : List Value).toArray 13) := by
      rw [hh0]
      exact whole_start l hflags hbd ⟨B.exec, B.bytes, B.returns, hml, hown, hts, hX, hbl, B.notSynchronized, hgv⟩
    obtain ⟨t, a1, o, b1, b2, b3⟩ := K s₁ rfl X₀
    exact ⟨t, o, a1, b1, b2, b3⟩
theorem lw_pre_spec {args : Array Value} {s : State} (h : (Jvm.Cond.and given_1 narrow_1).before args s = true) (hr : rest_1_c.before args s = true) : ∃ (b : Addr) (xs : List Int32), lw_P b xs args s := by
  have hs := flat_of_before _ h
  have hq := flat_of_before _ hr
  have hc : (Cond.count 1).before args s = true := hs _ (by decide +kernel)
  have harr : (Cond.arrayOf (.arg 0) .int).before args s = true := hs _ (by decide +kernel)
  have hle : (Cond.le (.length (.arg 0)) (.int 260)).before args s = true := hs _ (by decide +kernel)
  have hlen : (Cond.isInt (.length (.arg 0))).before args s = true := hq _ (by decide +kernel)
  have hall : (Cond.all (.arg 0) (.isInt (.elem (.arg 0) (.index 0)))).before args s = true := hq _ (by decide +kernel)
  obtain ⟨b, xs, hb, hx⟩ := State.ints_of_pre rfl harr hlen hall
  have hsm : xs.length < 2 ^ 31 := hx.choose_spec.2.2.2
  have hev : (Term.length (.arg 0)).eval args s none [] s = some (.int xs.length.toInt32) := hx.length_eval hb
  have hv := Cond.le_ints hev (show (Term.int 260).eval args s none [] s = some (.int 260) from rfl)
  have hd : xs.length.toInt32 ≤ 260 := by
    simpa [Cond.before, Cond.holds, hv] using hle
  have hN : xs.length ≤ 260 := (Int32.ofNat_le_ofNat hsm (by decide)).mp (show Int32.ofNat xs.length ≤ Int32.ofNat 260 from hd)
  exact ⟨b, xs, Cond.one_arg hc (show args[0]? = some (.ref b) from hb), hx, hN, h⟩
theorem lw_comes (l : Launch) (hflags : l.flags = flags0) : Comes l x (Jvm.Cond.code x code maxLocals ret :: tables_1) room_1 (fun tb e args s => Calls_1 tb e args s ∧ rest_1 tb e args s ∧ Pre_1 tb e args s)
    (fun _ _ args s o t => lw_Q args s o t) := by
  intro p e ha hc hk s m args below hf hfit hheap happ hpre
  obtain ⟨b, xs, hP⟩ := lw_pre_spec hpre.2.2 hpre.2.1
  obtain ⟨k, o, h1, h2, h3, hQ⟩ := lw_walk l hflags b xs p e ha hc hk s m args below hf ((Spec.applies_iff_loose hf).mp happ).1 hP trivial
  exact ⟨k, o, h1, h2, h3, hQ⟩
theorem lw_frame {s t : State} {o : Outcome} {args : Array Value} (h : Framed s o t [] 600000 7302250) :
    Framed s o t (fieldLocs frame_1_writes args s ++ arrayLocs frame_1_arrays args s ++ staticLocs frame_1_statics s) 600000 7302250 := h
theorem lw_limb (L : Cond) (hL : ∀ (args : Array Value) (s t : State), L.after args s (.returned (some (.int 1))) t = true) :
    ArmFor flags0 classFile x code maxLocals ret World_1 tables_1 room_1 Calls_1 rest_1 Pre_1
      (fun tb e a s o t => postC L tb e a s o t ∧ Framed s o t (fieldLocs frame_1_writes a s ++ arrayLocs frame_1_arrays a s ++ staticLocs frame_1_statics s) 600000 7302250) := by
  intro l hflags _ _ p e ha hc hk s m args below hf hfit hheap happ hpre
  obtain ⟨k, o, h1, h2, h3, rfl, hF⟩ := lw_comes l hflags p e ha hc hk s m args below hf hfit hheap happ hpre
  exact ⟨k, _, h1, h2, h3, hL args s _, lw_frame hF⟩
theorem i_vc : Claimed_1_1 ∧ Claimed_1_2 := ⟨lw_limb limb_1_1 (fun args s t => by simp [limb_1_1, Cond.after, Cond.holds, Cond.value]), lw_limb limb_1_2 (fun args s t => Cond.after_iff.mpr (by
  first | (rw [show limb_1_2 = Cond.eq .result (.int 1) from rfl, Cond.eq_ints (x := 1) (y := 1) rfl rfl]; simp; done) | (simp [limb_1_2, Cond.value, Term.eval]; done)))⟩
