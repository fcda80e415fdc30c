section ZXX
variable {X : State → (Nat → Nat) → (Nat → Prop) → Nat → Prop} {mc ms d : Nat} {μ : zU} {pc : Nat} {L : List (Option Value)} {st : List Value} {h : zH} {kc ks : Nat} {Post : Option Value → zH → Prop}
/-- Z, with one thing more known at the method's entry -/
def ZX (X : State → (Nat → Nat) → (Nat → Prop) → Nat → Prop) (mc ms d : Nat) (μ : zU) (pc : Nat) (L : List (Option Value)) (st : List Value) (h : zH) (kc ks : Nat) (Post : Option Value → zH → Prop) : Prop :=
  ∀ (p : Program) (l : Launch) (e : Env) (s : State) (m : MethodId) (args : Array Value) (below : List Frame) (meth : Method) (c : Code) (D : va_G) (cI : FieldType → ClassId) (A : Nat → Prop) (ρ0 : Nat → Nat) (n0 : Nat),
    zCx μ p s m args meth c D cI A → n0 ≤ h.length → X s ρ0 A n0 → ∀ (ρ : Nat → Nat) (H : Heap) (locs : List Loc) (ls : Array Slot), zRel mc n0 ρ0 ρ → zSt μ D cI A s h L ρ H locs ls →
      W p l e (zR mc ms d) s m args below meth c H locs kc ks (MQ below (zQ D cI ρ0 n0 mc A Post) args s mc ms A) (F0 m pc ls (st.map (zV ρ)))
theorem ZX.pure {pc' : Nat} {st' : List Value} (f : ∀ {p : Program} {l : Launch} {e : Env} {s : State} {m : MethodId} {args : Array Value} {below : List Frame} {meth : Method} {c : Code} {H : Heap} {locs : List Loc} {ls : Array Slot} {ρ : Nat → Nat} {Q : State → Prop}, p.tables.exec = Jvm.exec → c.code = μ.2.1 → s.vm.findClass μ.1.cls = some m.cls → (∀ w ∈ zWd, w.before args s = true) →
      W p l e (zR mc ms d) s m args below meth c H locs kc ks Q (F0 m pc' ls (st'.map (zV ρ))) → W p l e (zR mc ms d) s m args below meth c H locs kc ks Q (F0 m pc ls (st.map (zV ρ))))
    (k : ZX X mc ms d μ pc' L st' h kc ks Post) : ZX X mc ms d μ pc L st h kc ks Post := by
  intro p l e s m args below meth c D cI A ρ0 n0 hC hn hX ρ H locs ls hR hS
  exact f hC.1 hC.2.1 hC.2.2.2.2.2.2.1 hC.2.2.2.2.2.2.2.1 (k p l e s m args below meth c D cI A ρ0 n0 hC hn hX ρ H locs ls hR hS)
theorem ZX.br {c1 : Prop} {pc1 pc2 : Nat} {st' : List Value} (f : ∀ {p : Program} {l : Launch} {e : Env} {s : State} {m : MethodId} {args : Array Value} {below : List Frame} {meth : Method} {c : Code} {H : Heap} {locs : List Loc} {ls : Array Slot} {ρ : Nat → Nat} {Q : State → Prop}, p.tables.exec = Jvm.exec → c.code = μ.2.1 →
      (c1 → W p l e (zR mc ms d) s m args below meth c H locs kc ks Q (F0 m pc1 ls (st'.map (zV ρ)))) → (¬ c1 → W p l e (zR mc ms d) s m args below meth c H locs kc ks Q (F0 m pc2 ls (st'.map (zV ρ)))) → W p l e (zR mc ms d) s m args below meth c H locs kc ks Q (F0 m pc ls (st.map (zV ρ))))
    (k1 : c1 → ZX X mc ms d μ pc1 L st' h kc ks Post) (k2 : ¬ c1 → ZX X mc ms d μ pc2 L st' h kc ks Post) : ZX X mc ms d μ pc L st h kc ks Post := by
  intro p l e s m args below meth c D cI A ρ0 n0 hC hn hX ρ H locs ls hR hS
  exact f hC.1 hC.2.1 (fun q => k1 q p l e s m args below meth c D cI A ρ0 n0 hC hn hX ρ H locs ls hR hS) (fun q => k2 q p l e s m args below meth c D cI A ρ0 n0 hC hn hX ρ H locs ls hR hS)
/-- the locals' reading: a value that is known -/
theorem ZX.lds {pc' : Nat} {i : Nat} {v : Value} (f : ∀ {p : Program} {l : Launch} {e : Env} {s : State} {m : MethodId} {args : Array Value} {below : List Frame} {meth : Method} {c : Code} {H : Heap} {locs : List Loc} {ls : Array Slot} {ρ : Nat → Nat} {Q : State → Prop}, p.tables.exec = Jvm.exec → c.code = μ.2.1 → ls[i]? = some (.val (zV ρ v)) →
      W p l e (zR mc ms d) s m args below meth c H locs kc ks Q (F0 m pc' ls ((v :: st).map (zV ρ))) → W p l e (zR mc ms d) s m args below meth c H locs kc ks Q (F0 m pc ls (st.map (zV ρ))))
    (hl : L[i]? = some (some v)) (k : ZX X mc ms d μ pc' L (v :: st) h kc ks Post) : ZX X mc ms d μ pc L st h kc ks Post := by
  intro p l e s m args below meth c D cI A ρ0 n0 hC hn hX ρ H locs ls hR hS
  exact f hC.1 hC.2.1 (hS.2.2.2.1.2.2 i v hl) (k p l e s m args below meth c D cI A ρ0 n0 hC hn hX ρ H locs ls hR hS)
/-- a store into the locals -/
theorem ZX.sto {pc' : Nat} {L' : List (Option Value)} {st' : List Value} (f : ∀ {p : Program} {l : Launch} {e : Env} {s : State} {m : MethodId} {args : Array Value} {below : List Frame} {meth : Method} {c : Code} {H : Heap} {locs : List Loc} {ls : Array Slot} {ρ : Nat → Nat} {Q : State → Prop}, p.tables.exec = Jvm.exec → c.code = μ.2.1 → zL μ.2.2.1 ρ ls L →
      (∀ ls' : Array Slot, zL μ.2.2.1 ρ ls' L' → W p l e (zR mc ms d) s m args below meth c H locs kc ks Q (F0 m pc' ls' (st'.map (zV ρ)))) → W p l e (zR mc ms d) s m args below meth c H locs kc ks Q (F0 m pc ls (st.map (zV ρ))))
    (k : ZX X mc ms d μ pc' L' st' h kc ks Post) : ZX X mc ms d μ pc L st h kc ks Post := by
  intro p l e s m args below meth c D cI A ρ0 n0 hC hn hX ρ H locs ls hR hS
  exact f hC.1 hC.2.1 hS.2.2.2.1 (fun ls' hl' => k p l e s m args below meth c D cI A ρ0 n0 hC hn hX ρ H locs ls' hR ⟨hS.1, hS.2.1, hS.2.2.1, hl', hS.2.2.2.2⟩)
theorem ZX.iadd {x y : Int32} (hdg : decode μ.2.1 pc = .ok (.iadd, 1))  (k : ZX X mc ms d μ (pc + 1) L (.int (x + y) :: st) h kc ks Post) : ZX X mc ms d μ pc L (.int y :: .int x :: st) h kc ks Post := ZX.pure (fun hx hb ho ht w => lv_iadd hx hb hdg w) k
theorem ZX.isub {x y : Int32} (hdg : decode μ.2.1 pc = .ok (.isub, 1))  (k : ZX X mc ms d μ (pc + 1) L (.int (x - y) :: st) h kc ks Post) : ZX X mc ms d μ pc L (.int y :: .int x :: st) h kc ks Post := ZX.pure (fun hx hb ho ht w => lv_isub hx hb hdg w) k
theorem ZX.imul {x y : Int32} (hdg : decode μ.2.1 pc = .ok (.imul, 1))  (k : ZX X mc ms d μ (pc + 1) L (.int (x * y) :: st) h kc ks Post) : ZX X mc ms d μ pc L (.int y :: .int x :: st) h kc ks Post := ZX.pure (fun hx hb ho ht w => lv_imul hx hb hdg w) k
theorem ZX.iand {x y : Int32} (hdg : decode μ.2.1 pc = .ok (.iand, 1))  (k : ZX X mc ms d μ (pc + 1) L (.int (x &&& y) :: st) h kc ks Post) : ZX X mc ms d μ pc L (.int y :: .int x :: st) h kc ks Post := ZX.pure (fun hx hb ho ht w => lv_iand hx hb hdg w) k
theorem ZX.ior {x y : Int32} (hdg : decode μ.2.1 pc = .ok (.ior, 1))  (k : ZX X mc ms d μ (pc + 1) L (.int (x ||| y) :: st) h kc ks Post) : ZX X mc ms d μ pc L (.int y :: .int x :: st) h kc ks Post := ZX.pure (fun hx hb ho ht w => lv_ior hx hb hdg w) k
theorem ZX.ixor {x y : Int32} (hdg : decode μ.2.1 pc = .ok (.ixor, 1))  (k : ZX X mc ms d μ (pc + 1) L (.int (x ^^^ y) :: st) h kc ks Post) : ZX X mc ms d μ pc L (.int y :: .int x :: st) h kc ks Post := ZX.pure (fun hx hb ho ht w => lv_ixor hx hb hdg w) k
theorem ZX.ishl {x y : Int32} (hdg : decode μ.2.1 pc = .ok (.ishl, 1))  (k : ZX X mc ms d μ (pc + 1) L (.int (x <<< (y &&& 31)) :: st) h kc ks Post) : ZX X mc ms d μ pc L (.int y :: .int x :: st) h kc ks Post := ZX.pure (fun hx hb ho ht w => lv_ishl hx hb hdg w) k
theorem ZX.ishr {x y : Int32} (hdg : decode μ.2.1 pc = .ok (.ishr, 1))  (k : ZX X mc ms d μ (pc + 1) L (.int (x >>> (y &&& 31)) :: st) h kc ks Post) : ZX X mc ms d μ pc L (.int y :: .int x :: st) h kc ks Post := ZX.pure (fun hx hb ho ht w => lv_ishr hx hb hdg w) k
theorem ZX.iushr {x y : Int32} (hdg : decode μ.2.1 pc = .ok (.iushr, 1))  (k : ZX X mc ms d μ (pc + 1) L (.int (x.toUInt32 >>> (y.toUInt32 &&& Int32.toUInt32 31)).toInt32 :: st) h kc ks Post) : ZX X mc ms d μ pc L (.int y :: .int x :: st) h kc ks Post := ZX.pure (fun hx hb ho ht w => lv_iushr hx hb hdg rfl w) k
theorem ZX.idiv {x y : Int32} (hdg : decode μ.2.1 pc = .ok (.idiv, 1)) (hne : ¬ y = 0) (k : ZX X mc ms d μ (pc + 1) L (.int (x / y) :: st) h kc ks Post) : ZX X mc ms d μ pc L (.int y :: .int x :: st) h kc ks Post := ZX.pure (fun hx hb ho ht w => lv_idiv hx hb hdg hne w) k
theorem ZX.irem {x y : Int32} (hdg : decode μ.2.1 pc = .ok (.irem, 1)) (hne : ¬ y = 0) (k : ZX X mc ms d μ (pc + 1) L (.int (x - x / y * y) :: st) h kc ks Post) : ZX X mc ms d μ pc L (.int y :: .int x :: st) h kc ks Post := ZX.pure (fun hx hb ho ht w => lv_irem hx hb hdg hne w) k
theorem ZX.ladd {x y : Int64} (hdg : decode μ.2.1 pc = .ok (.ladd, 1))  (k : ZX X mc ms d μ (pc + 1) L (.long (x + y) :: st) h kc ks Post) : ZX X mc ms d μ pc L (.long y :: .long x :: st) h kc ks Post := ZX.pure (fun hx hb ho ht w => lv_ladd hx hb hdg w) k
theorem ZX.lsub {x y : Int64} (hdg : decode μ.2.1 pc = .ok (.lsub, 1))  (k : ZX X mc ms d μ (pc + 1) L (.long (x - y) :: st) h kc ks Post) : ZX X mc ms d μ pc L (.long y :: .long x :: st) h kc ks Post := ZX.pure (fun hx hb ho ht w => lv_lsub hx hb hdg w) k
theorem ZX.lmul {x y : Int64} (hdg : decode μ.2.1 pc = .ok (.lmul, 1))  (k : ZX X mc ms d μ (pc + 1) L (.long (x * y) :: st) h kc ks Post) : ZX X mc ms d μ pc L (.long y :: .long x :: st) h kc ks Post := ZX.pure (fun hx hb ho ht w => lv_lmul hx hb hdg w) k
theorem ZX.ldiv {x y : Int64} (hdg : decode μ.2.1 pc = .ok (.ldiv, 1)) (hne : ¬ y = 0) (k : ZX X mc ms d μ (pc + 1) L (.long (x / y) :: st) h kc ks Post) : ZX X mc ms d μ pc L (.long y :: .long x :: st) h kc ks Post := ZX.pure (fun hx hb ho ht w => lv_ldiv hx hb hdg hne w) k
theorem ZX.lrem {x y : Int64} (hdg : decode μ.2.1 pc = .ok (.lrem, 1)) (hne : ¬ y = 0) (k : ZX X mc ms d μ (pc + 1) L (.long (x - x / y * y) :: st) h kc ks Post) : ZX X mc ms d μ pc L (.long y :: .long x :: st) h kc ks Post := ZX.pure (fun hx hb ho ht w => lv_lrem hx hb hdg hne w) k
theorem ZX.lcmp {x y : Int64} (hdg : decode μ.2.1 pc = .ok (.lcmp, 1))  (k : ZX X mc ms d μ (pc + 1) L (.int (lg_cmp x y) :: st) h kc ks Post) : ZX X mc ms d μ pc L (.long y :: .long x :: st) h kc ks Post := ZX.pure (fun hx hb ho ht w => W.lcmp hx hb hdg w) k
theorem ZX.i2l {x : Int32} (hdg : decode μ.2.1 pc = .ok (.i2l, 1))  (k : ZX X mc ms d μ (pc + 1) L (.long x.toInt64 :: st) h kc ks Post) : ZX X mc ms d μ pc L (.int x :: st) h kc ks Post := ZX.pure (fun hx hb ho ht w => lv_i2l hx hb hdg rfl w) k
theorem ZX.l2i {x : Int64} (hdg : decode μ.2.1 pc = .ok (.l2i, 1))  (k : ZX X mc ms d μ (pc + 1) L (.int x.toInt32 :: st) h kc ks Post) : ZX X mc ms d μ pc L (.long x :: st) h kc ks Post := ZX.pure (fun hx hb ho ht w => lv_l2i hx hb hdg rfl w) k
theorem ZX.i2s {x : Int32} (hdg : decode μ.2.1 pc = .ok (.i2s, 1))  (k : ZX X mc ms d μ (pc + 1) L (.int x.toInt16.toInt32 :: st) h kc ks Post) : ZX X mc ms d μ pc L (.int x :: st) h kc ks Post := ZX.pure (fun hx hb ho ht w => lv_i2s hx hb hdg rfl w) k
theorem ZX.dup {v : Value} (hdg : decode μ.2.1 pc = .ok (.dup, 1)) (hv : v.category = 1) (k : ZX X mc ms d μ (pc + 1) L (v :: v :: st) h kc ks Post) : ZX X mc ms d μ pc L (v :: st) h kc ks Post := ZX.pure (fun hx hb ho ht w => lv_dup hx hb hdg (by rw [zV_cat]; exact hv) w) k
theorem ZX.dup2 {v u : Value} (hdg : decode μ.2.1 pc = .ok (.dup2, 1)) (hv : v.category = 1) (hu : u.category = 1) (k : ZX X mc ms d μ (pc + 1) L (v :: u :: v :: u :: st) h kc ks Post) : ZX X mc ms d μ pc L (v :: u :: st) h kc ks Post := ZX.pure (fun hx hb ho ht w => lv_dup2_11 hx hb hdg (by rw [zV_cat]; exact hv) (by rw [zV_cat]; exact hu) w) k
theorem ZX.pop {v : Value} (hdg : decode μ.2.1 pc = .ok (.pop, 1)) (hv : v.category = 1) (k : ZX X mc ms d μ (pc + 1) L (st) h kc ks Post) : ZX X mc ms d μ pc L (v :: st) h kc ks Post := ZX.pure (fun hx hb ho ht w => lv_pop hx hb hdg (by rw [zV_cat]; exact hv) w) k
theorem ZX.iconst {n : Int} (v : Int32) (hdg : decode μ.2.1 pc = .ok (.iconst n, 1)) (hv : Int32.ofInt n = v) (k : ZX X mc ms d μ (pc + 1) L (.int v :: st) h kc ks Post) : ZX X mc ms d μ pc L st h kc ks Post := ZX.pure (fun hx hb ho ht w => lv_iconst hx hb hdg hv w) k
theorem ZX.bipush {n : Int} (v : Int32) (hdg : decode μ.2.1 pc = .ok (.bipush n, 2)) (hv : (Int8.ofInt n).toInt32 = v) (k : ZX X mc ms d μ (pc + 2) L (.int v :: st) h kc ks Post) : ZX X mc ms d μ pc L st h kc ks Post := ZX.pure (fun hx hb ho ht w => lv_bipush hx hb hdg hv w) k
theorem ZX.sipush {n : Int} (v : Int32) (hdg : decode μ.2.1 pc = .ok (.sipush n, 3)) (hv : (Int16.ofInt n).toInt32 = v) (k : ZX X mc ms d μ (pc + 3) L (.int v :: st) h kc ks Post) : ZX X mc ms d μ pc L st h kc ks Post := ZX.pure (fun hx hb ho ht w => lv_sipush hx hb hdg hv w) k
theorem ZX.lconst {n : Fin 2} (v : Int64) (hdg : decode μ.2.1 pc = .ok (.lconst n, 1)) (hv : Int64.ofNat (n : Nat) = v) (k : ZX X mc ms d μ (pc + 1) L (.long v :: st) h kc ks Post) : ZX X mc ms d μ pc L st h kc ks Post := ZX.pure (fun hx hb ho ht w => lv_lconst hx hb hdg hv w) k
theorem ZX.ldc {index : Nat} (v : Int32) (hdg : decode μ.2.1 pc = .ok (.ldc index, 2)) (hw : Cond.constant μ.1.cls index v ∈ zWd) (k : ZX X mc ms d μ (pc + 2) L (.int v :: st) h kc ks Post) : ZX X mc ms d μ pc L st h kc ks Post := ZX.pure (fun hx hb ho ht w => lv_ldc hx hb ho (ht _ hw) hdg w) k
theorem ZX.ldc2 {index : Nat} (v : Int64) (hdg : decode μ.2.1 pc = .ok (.ldc2_w index, 3)) (hw : Cond.constantLong μ.1.cls index v ∈ zWd) (k : ZX X mc ms d μ (pc + 3) L (.long v :: st) h kc ks Post) : ZX X mc ms d μ pc L st h kc ks Post := ZX.pure (fun hx hb ho ht w => lv_ldc2 hx hb ho (ht _ hw) hdg w) k
theorem ZX.goto {off : Int} (tgt : Nat) (hdg : decode μ.2.1 pc = .ok (.goto off, 3)) (ht : (pc : Int) + off = (tgt : Int)) (k : ZX X mc ms d μ tgt L st h kc ks Post) : ZX X mc ms d μ pc L st h kc ks Post := ZX.pure (fun hx hb _ _ w => lv_goto hx hb hdg ht w) k
theorem ZX.tin {dflt lo hi : Int} {offs : Array Int} {len : Nat} {x : Int32} {off : Int} (tgt : Nat) (hdg : decode μ.2.1 pc = .ok (.tableswitch dflt lo hi offs, len)) (h1 : ¬ x.toInt < lo) (h2 : ¬ hi < x.toInt) (ho : offs[(x.toInt - lo).toNat]? = some off) (ht : (pc : Int) + off = (tgt : Int)) (k : ZX X mc ms d μ tgt L st h kc ks Post) : ZX X mc ms d μ pc L (.int x :: st) h kc ks Post := ZX.pure (fun hx hb _ _ w => lv_tableIn hx hb hdg h1 h2 ho ht w) k
theorem ZX.tout {dflt lo hi : Int} {offs : Array Int} {len : Nat} {x : Int32} (tgt : Nat) (hdg : decode μ.2.1 pc = .ok (.tableswitch dflt lo hi offs, len)) (h1 : x.toInt < lo ∨ hi < x.toInt) (ht : (pc : Int) + dflt = (tgt : Int)) (k : ZX X mc ms d μ tgt L st h kc ks Post) : ZX X mc ms d μ pc L (.int x :: st) h kc ks Post := ZX.pure (fun hx hb _ _ w => lv_tableOut hx hb hdg h1 ht w) k
theorem ZX.if_eq {x : Int32} {off : Int} (tgt : Nat) (hdg : decode μ.2.1 pc = .ok (.ifCond .eq off, 3)) (ht : (pc : Int) + off = (tgt : Int)) (k1 : x = 0 → ZX X mc ms d μ tgt L st h kc ks Post) (k2 : ¬ (x = 0) → ZX X mc ms d μ (pc + 3) L st h kc ks Post) : ZX X mc ms d μ pc L (.int x :: st) h kc ks Post := ZX.br (fun hx hb w1 w2 => lv_if_eq hx hb hdg ht w1 w2) k1 k2
theorem ZX.icmp_eq {x y : Int32} {off : Int} (tgt : Nat) (hdg : decode μ.2.1 pc = .ok (.if_icmp .eq off, 3)) (ht : (pc : Int) + off = (tgt : Int)) (k1 : x = y → ZX X mc ms d μ tgt L st h kc ks Post) (k2 : ¬ (x = y) → ZX X mc ms d μ (pc + 3) L st h kc ks Post) : ZX X mc ms d μ pc L (.int y :: .int x :: st) h kc ks Post := ZX.br (fun hx hb w1 w2 => lv_icmp_eq hx hb hdg ht w1 w2) k1 k2
theorem ZX.if_ne {x : Int32} {off : Int} (tgt : Nat) (hdg : decode μ.2.1 pc = .ok (.ifCond .ne off, 3)) (ht : (pc : Int) + off = (tgt : Int)) (k1 : ¬ x = 0 → ZX X mc ms d μ tgt L st h kc ks Post) (k2 : x = 0 → ZX X mc ms d μ (pc + 3) L st h kc ks Post) : ZX X mc ms d μ pc L (.int x :: st) h kc ks Post := ZX.br (c1 := x = 0) (fun hx hb w1 w2 => lv_if_ne hx hb hdg ht w2 w1) k2 k1
theorem ZX.icmp_ne {x y : Int32} {off : Int} (tgt : Nat) (hdg : decode μ.2.1 pc = .ok (.if_icmp .ne off, 3)) (ht : (pc : Int) + off = (tgt : Int)) (k1 : ¬ x = y → ZX X mc ms d μ tgt L st h kc ks Post) (k2 : x = y → ZX X mc ms d μ (pc + 3) L st h kc ks Post) : ZX X mc ms d μ pc L (.int y :: .int x :: st) h kc ks Post := ZX.br (c1 := x = y) (fun hx hb w1 w2 => lv_icmp_ne hx hb hdg ht w2 w1) k2 k1
theorem ZX.if_lt {x : Int32} {off : Int} (tgt : Nat) (hdg : decode μ.2.1 pc = .ok (.ifCond .lt off, 3)) (ht : (pc : Int) + off = (tgt : Int)) (k1 : x < 0 → ZX X mc ms d μ tgt L st h kc ks Post) (k2 : ¬ (x < 0) → ZX X mc ms d μ (pc + 3) L st h kc ks Post) : ZX X mc ms d μ pc L (.int x :: st) h kc ks Post := ZX.br (fun hx hb w1 w2 => lv_if_lt hx hb hdg ht w1 w2) k1 k2
theorem ZX.icmp_lt {x y : Int32} {off : Int} (tgt : Nat) (hdg : decode μ.2.1 pc = .ok (.if_icmp .lt off, 3)) (ht : (pc : Int) + off = (tgt : Int)) (k1 : x < y → ZX X mc ms d μ tgt L st h kc ks Post) (k2 : ¬ (x < y) → ZX X mc ms d μ (pc + 3) L st h kc ks Post) : ZX X mc ms d μ pc L (.int y :: .int x :: st) h kc ks Post := ZX.br (fun hx hb w1 w2 => lv_icmp_lt hx hb hdg ht w1 w2) k1 k2
theorem ZX.if_ge {x : Int32} {off : Int} (tgt : Nat) (hdg : decode μ.2.1 pc = .ok (.ifCond .ge off, 3)) (ht : (pc : Int) + off = (tgt : Int)) (k1 : 0 ≤ x → ZX X mc ms d μ tgt L st h kc ks Post) (k2 : ¬ (0 ≤ x) → ZX X mc ms d μ (pc + 3) L st h kc ks Post) : ZX X mc ms d μ pc L (.int x :: st) h kc ks Post := ZX.br (fun hx hb w1 w2 => lv_if_ge hx hb hdg ht w1 w2) k1 k2
theorem ZX.icmp_ge {x y : Int32} {off : Int} (tgt : Nat) (hdg : decode μ.2.1 pc = .ok (.if_icmp .ge off, 3)) (ht : (pc : Int) + off = (tgt : Int)) (k1 : y ≤ x → ZX X mc ms d μ tgt L st h kc ks Post) (k2 : ¬ (y ≤ x) → ZX X mc ms d μ (pc + 3) L st h kc ks Post) : ZX X mc ms d μ pc L (.int y :: .int x :: st) h kc ks Post := ZX.br (fun hx hb w1 w2 => lv_icmp_ge hx hb hdg ht w1 w2) k1 k2
theorem ZX.if_gt {x : Int32} {off : Int} (tgt : Nat) (hdg : decode μ.2.1 pc = .ok (.ifCond .gt off, 3)) (ht : (pc : Int) + off = (tgt : Int)) (k1 : 0 < x → ZX X mc ms d μ tgt L st h kc ks Post) (k2 : ¬ (0 < x) → ZX X mc ms d μ (pc + 3) L st h kc ks Post) : ZX X mc ms d μ pc L (.int x :: st) h kc ks Post := ZX.br (fun hx hb w1 w2 => lv_if_gt hx hb hdg ht w1 w2) k1 k2
theorem ZX.icmp_gt {x y : Int32} {off : Int} (tgt : Nat) (hdg : decode μ.2.1 pc = .ok (.if_icmp .gt off, 3)) (ht : (pc : Int) + off = (tgt : Int)) (k1 : y < x → ZX X mc ms d μ tgt L st h kc ks Post) (k2 : ¬ (y < x) → ZX X mc ms d μ (pc + 3) L st h kc ks Post) : ZX X mc ms d μ pc L (.int y :: .int x :: st) h kc ks Post := ZX.br (fun hx hb w1 w2 => lv_icmp_gt hx hb hdg ht w1 w2) k1 k2
theorem ZX.if_le {x : Int32} {off : Int} (tgt : Nat) (hdg : decode μ.2.1 pc = .ok (.ifCond .le off, 3)) (ht : (pc : Int) + off = (tgt : Int)) (k1 : x ≤ 0 → ZX X mc ms d μ tgt L st h kc ks Post) (k2 : ¬ (x ≤ 0) → ZX X mc ms d μ (pc + 3) L st h kc ks Post) : ZX X mc ms d μ pc L (.int x :: st) h kc ks Post := ZX.br (fun hx hb w1 w2 => lv_if_le hx hb hdg ht w1 w2) k1 k2
theorem ZX.icmp_le {x y : Int32} {off : Int} (tgt : Nat) (hdg : decode μ.2.1 pc = .ok (.if_icmp .le off, 3)) (ht : (pc : Int) + off = (tgt : Int)) (k1 : x ≤ y → ZX X mc ms d μ tgt L st h kc ks Post) (k2 : ¬ (x ≤ y) → ZX X mc ms d μ (pc + 3) L st h kc ks Post) : ZX X mc ms d μ pc L (.int y :: .int x :: st) h kc ks Post := ZX.br (fun hx hb w1 w2 => lv_icmp_le hx hb hdg ht w1 w2) k1 k2
theorem ZX.iload_n {q : Fin 4} {x : Int32} (hdg : decode μ.2.1 pc = .ok (.iload_n q, 1)) (hl : L[(q : Nat)]? = some (some (.int x))) (k : ZX X mc ms d μ (pc + 1) L (.int x :: st) h kc ks Post) : ZX X mc ms d μ pc L st h kc ks Post := ZX.lds (fun hx hb hv w => lv_iload_n hx hb hdg rfl hv w) hl k
theorem ZX.iload {i : Nat} {x : Int32} (hdg : decode μ.2.1 pc = .ok (.iload i, 2)) (hl : L[i]? = some (some (.int x))) (k : ZX X mc ms d μ (pc + 2) L (.int x :: st) h kc ks Post) : ZX X mc ms d μ pc L st h kc ks Post := ZX.lds (fun hx hb hv w => lv_iload hx hb hdg hv w) hl k
theorem ZX.lload_n {q : Fin 4} {x : Int64} (hdg : decode μ.2.1 pc = .ok (.lload_n q, 1)) (hl : L[(q : Nat)]? = some (some (.long x))) (k : ZX X mc ms d μ (pc + 1) L (.long x :: st) h kc ks Post) : ZX X mc ms d μ pc L st h kc ks Post := ZX.lds (fun hx hb hv w => lv_lload_n hx hb hdg rfl hv w) hl k
theorem ZX.lload {i : Nat} {x : Int64} (hdg : decode μ.2.1 pc = .ok (.lload i, 2)) (hl : L[i]? = some (some (.long x))) (k : ZX X mc ms d μ (pc + 2) L (.long x :: st) h kc ks Post) : ZX X mc ms d μ pc L st h kc ks Post := ZX.lds (fun hx hb hv w => lv_lload hx hb hdg hv w) hl k
theorem ZX.aload_n {q : Fin 4} {x : Nat} (hdg : decode μ.2.1 pc = .ok (.aload_n q, 1)) (hl : L[(q : Nat)]? = some (some (.ref x))) (k : ZX X mc ms d μ (pc + 1) L (.ref x :: st) h kc ks Post) : ZX X mc ms d μ pc L st h kc ks Post := ZX.lds (fun hx hb hv w => lv_aload_n hx hb hdg rfl hv w) hl k
theorem ZX.aload {i : Nat} {x : Nat} (hdg : decode μ.2.1 pc = .ok (.aload i, 2)) (hl : L[i]? = some (some (.ref x))) (k : ZX X mc ms d μ (pc + 2) L (.ref x :: st) h kc ks Post) : ZX X mc ms d μ pc L st h kc ks Post := ZX.lds (fun hx hb hv w => lv_aload hx hb hdg hv w) hl k
theorem ZX.istore_n {q : Fin 4} {x : Int32} (hdg : decode μ.2.1 pc = .ok (.istore_n q, 1)) (hi : (q : Nat) < μ.2.2.1) (hn : zNl L q = true) (k : ZX X mc ms d μ (pc + 1) (L.set q (some (.int x))) st h kc ks Post) : ZX X mc ms d μ pc L (.int x :: st) h kc ks Post := ZX.sto (fun hx hb hL w => lv_istore_n hx hb hdg rfl (zL_has hL) hi rfl (fun ls' hl' => w ls' (zL_set1 (v := .int x) hn hl'))) k
theorem ZX.istore {i : Nat} {x : Int32} (hdg : decode μ.2.1 pc = .ok (.istore i, 2)) (hi : i < μ.2.2.1) (hn : zNl L i = true) (k : ZX X mc ms d μ (pc + 2) (L.set i (some (.int x))) st h kc ks Post) : ZX X mc ms d μ pc L (.int x :: st) h kc ks Post := ZX.sto (fun hx hb hL w => lv_istore hx hb hdg (zL_has hL) hi rfl (fun ls' hl' => w ls' (zL_set1 (v := .int x) hn hl'))) k
theorem ZX.astore_n {q : Fin 4} {x : Nat} (hdg : decode μ.2.1 pc = .ok (.astore_n q, 1)) (hi : (q : Nat) < μ.2.2.1) (hn : zNl L q = true) (k : ZX X mc ms d μ (pc + 1) (L.set q (some (.ref x))) st h kc ks Post) : ZX X mc ms d μ pc L (.ref x :: st) h kc ks Post := ZX.sto (fun hx hb hL w => lv_astore_n hx hb hdg rfl (zL_has hL) hi rfl (fun ls' hl' => w ls' (zL_set1 (v := .ref x) hn hl'))) k
theorem ZX.astore {i : Nat} {x : Nat} (hdg : decode μ.2.1 pc = .ok (.astore i, 2)) (hi : i < μ.2.2.1) (hn : zNl L i = true) (k : ZX X mc ms d μ (pc + 2) (L.set i (some (.ref x))) st h kc ks Post) : ZX X mc ms d μ pc L (.ref x :: st) h kc ks Post := ZX.sto (fun hx hb hL w => lv_astore hx hb hdg (zL_has hL) hi rfl (fun ls' hl' => w ls' (zL_set1 (v := .ref x) hn hl'))) k
theorem ZX.lstore_n {q : Fin 4} {x : Int64} (hdg : decode μ.2.1 pc = .ok (.lstore_n q, 1)) (hi : (q : Nat) + 1 < μ.2.2.1) (hn : zNl L q = true) (k : ZX X mc ms d μ (pc + 1) ((L.set q (some (.long x))).set (q + 1) none) st h kc ks Post) : ZX X mc ms d μ pc L (.long x :: st) h kc ks Post := ZX.sto (fun hx hb hL w => lv_lstore_n hx hb hdg rfl (zL_has hL) hi rfl (fun ls' hl' => w ls' (zL_set2 (v := .long x) hn hl'))) k
theorem ZX.lstore {i : Nat} {x : Int64} (hdg : decode μ.2.1 pc = .ok (.lstore i, 2)) (hi : i + 1 < μ.2.2.1) (hn : zNl L i = true) (k : ZX X mc ms d μ (pc + 2) ((L.set i (some (.long x))).set (i + 1) none) st h kc ks Post) : ZX X mc ms d μ pc L (.long x :: st) h kc ks Post := ZX.sto (fun hx hb hL w => lv_lstore hx hb hdg (zL_has hL) hi rfl (fun ls' hl' => w ls' (zL_set2 (v := .long x) hn hl'))) k
theorem ZX.iinc {i : Nat} {n : Int} {x : Int32} (hdg : decode μ.2.1 pc = .ok (.iinc i n, 3)) (hl : L[i]? = some (some (.int x))) (hi : i < μ.2.2.1) (hn : zNl L i = true) (k : ZX X mc ms d μ (pc + 3) (L.set i (some (.int (x + Int32.ofInt n)))) st h kc ks Post) : ZX X mc ms d μ pc L st h kc ks Post := ZX.sto (fun hx hb hL w => by
    obtain ⟨j, hj⟩ := List.getElem?_of_mem (zAs_in (ρ := _) hl)
    exact lv_iinc hx hb hdg (zL_has hL) hj rfl hi rfl (fun ls' hl' => w ls' (zL_set1 (v := .int (x + Int32.ofInt n)) hn hl'))) k
theorem ZX.mono {Post' : Option Value → zH → Prop} (hP : ∀ r h', Post' r h' → Post r h') (k : ZX X mc ms d μ pc L st h kc ks Post') : ZX X mc ms d μ pc L st h kc ks Post := by
  intro p l e s m args below meth c D cI A ρ0 n0 hC hn hX ρ H locs ls hR hS
  intro T hT X
  obtain ⟨t, h1, o, h2, h3, ⟨⟨r, h', ρ', h4, h5⟩, h6⟩, h7⟩ := k p l e s m args below meth c D cI A ρ0 n0 hC hn hX ρ H locs ls hR hS T hT X
  exact ⟨t, h1, o, h2, h3, ⟨⟨r, h', ρ', hP r h' h4, h5⟩, h6⟩, h7⟩
/-- fewer locals are known -/
theorem ZX.loc {L' : List (Option Value)} (hL : ∀ (i : Nat) (v : Value), L'[i]? = some (some v) → L[i]? = some (some v)) (k : ZX X mc ms d μ pc L' st h kc ks Post) : ZX X mc ms d μ pc L st h kc ks Post := by
  intro p l e s m args below meth c D cI A ρ0 n0 hC hn hX ρ H locs ls hR hS
  exact k p l e s m args below meth c D cI A ρ0 n0 hC hn hX ρ H locs ls hR ⟨hS.1, hS.2.1, hS.2.2.1, ⟨hS.2.2.2.1.1, hS.2.2.2.1.2.1, fun i v hv => hS.2.2.2.1.2.2 i v (hL i v hv)⟩, hS.2.2.2.2⟩
set_option maxHeartbeats 1000000 in
theorem ZX.getf {idx : Nat} {ci k : Nat} {o : Nat} {fs : List Value} {v : Value} (hdg : decode μ.2.1 pc = .ok (.getfield idx, 3)) (hf : zFl μ.1.cls idx ci k) (he : h[o]? = some (.inr (ci, fs))) (hv : fs[k]? = some v) (k9 : ZX X mc ms d μ (pc + 3) L (v :: st) h kc ks Post) : ZX X mc ms d μ pc L (.ref o :: st) h kc ks Post := by
  intro p l e s m args below meth c D cI A ρ0 n0 hC hn hX ρ H locs ls hR hS
  obtain ⟨hx, hb, hml, hr0, hlk, hnm, hown, hts, hNw, hK, hA⟩ := id hC
  obtain ⟨hP, hD, hSS, hLL, hT⟩ := id hS
  obtain ⟨C, T, N, ⟨h1, h2, ⟨ty0, h3⟩, h4, h5⟩, hkN, hlink⟩ := hf
  have w := k9 p l e s m args below meth c D cI A ρ0 n0 hC hn hX ρ H locs ls hR hS
  have hv' : (fs.map (zV ρ))[k]? = some (zV ρ v) := by rw [List.getElem?_map, hv]; rfl
  rcases hlink with hl | ⟨host, hl⟩
  · exact va_get (D := D) (ci := ci) (v := zV ρ v) (C := C) (T := T) (N := N) hx hb hts h2 hown hK hP o (zw_at he) h1 k hkN (hts _ hl) (fun x hx9 => by rw [h5 k hkN] at hx9; exact hx9) hv' hdg w
  · exact va_getN (D := D) (ci := ci) (v := zV ρ v) (C := C) (T := T) (N := N) (host := host) hx hb hts h2 hown hK hP o (zw_at he) h1 k hkN (va_Nw.use rfl (hNw _ hl)) (fun x hx9 => by rw [h5 k hkN] at hx9; exact hx9) hv' hdg w
set_option maxHeartbeats 1000000 in
theorem ZX.putf {idx : Nat} {ci k : Nat} {o : Nat} {fs : List Value} {v : Value} {ty : FieldType} (hdg : decode μ.2.1 pc = .ok (.putfield idx, 3)) (hf : zFp μ.1.cls idx ci k ty false) (he : h[o]? = some (.inr (ci, fs))) (hl : k < fs.length) (hnf : ∀ ρ : Nat → Nat, narrow ty (zV ρ v) = zV ρ v ∧ fits ty (zV ρ v) = true) (k9 : ZX X mc ms d μ (pc + 3) L st (h.set o (.inr (ci, fs.set k v))) kc ks Post) : ZX X mc ms d μ pc L (v :: .ref o :: st) h kc ks Post := by
  intro p l e s m args below meth c D cI A ρ0 n0 hC hn hX ρ H locs ls hR hS
  obtain ⟨hx, hb, hml, hr0, hlk, hnm, hown, hts, hNw, hK, hA⟩ := id hC
  obtain ⟨hP, hD, hSS, hLL, hT⟩ := id hS
  obtain ⟨C, T, N, ⟨h1, h2, ⟨ty0, h3⟩, h4, h5⟩, hkN, hlink, hfin, hty, -⟩ := hf
  have hl' : k < (fs.map (zV ρ)).length := by rw [List.length_map]; exact hl
  have e9 : (zM cI ρ (.inr (ci, fs.set k v))) = .inr (ci, (fs.map (zV ρ)).set k (zV ρ v)) := by
    show Sum.inr (ci, (fs.set k v).map (zV ρ)) = _
    rw [List.map_set]
  have w : ∀ (H1 : Heap) (locs1 : List Loc), va_P D vwCl ((zw cI ρ h).set o (ρ o, .inr (ci, (fs.map (zV ρ)).set k (zV ρ v)))) H1 → va_D A ((zw cI ρ h).set o (ρ o, .inr (ci, (fs.map (zV ρ)).set k (zV ρ v)))) → va_S A s.heap H1 locs1 → W p l e (zR mc ms d) s m args below meth c H1 locs1 kc ks (MQ below (zQ D cI ρ0 n0 mc A Post) args s mc ms A) (F0 m (pc + 3) ls (st.map (zV ρ))) := fun H1 locs1 q1 q2 q3 => by
    rw [← e9] at q1 q2
    exact k9 p l e s m args below meth c D cI A ρ0 n0 hC (by rw [List.length_set]; exact hn) hX ρ H1 locs1 ls hR (hS.set q1 q2 q3)
  rcases hlink with hl9 | ⟨-, host, hl9⟩
  · exact va_put (D := D) (ci := ci) (v := zV ρ v) (ty := ty) (C := C) (T := T) (N := N) hx hb hts h2 ty0 h3 h4 hown hK hP hD hSS o (zw_at he) h1 k hkN (hts _ hl9) (fun x hx9 => by rw [h5 k hkN] at hx9; exact hx9) hfin hty (hnf ρ).1 (hnf ρ).2 hl' hdg w
  · exact va_putN (D := D) (ci := ci) (v := zV ρ v) (ty := ty) (C := C) (T := T) (N := N) (host := host) hx hb hts h2 ty0 h3 h4 hown hK hP hD hSS o (zw_at he) h1 k hkN (va_Nw.use rfl (hNw _ hl9)) (fun x hx9 => by rw [h5 k hkN] at hx9; exact hx9) hfin hty (hnf ρ).1 (hnf ρ).2 hl' hdg w
set_option maxHeartbeats 1000000 in
theorem ZX.putF {idx : Nat} {ci k : Nat} {o : Nat} {fs : List Value} {v : Value} {ty : FieldType} (hdg : decode μ.2.1 pc = .ok (.putfield idx, 3)) (hf : zFp μ.1.cls idx ci k ty true) (hini : μ.1.name = "<init>") (he : h[o]? = some (.inr (ci, fs))) (hl : k < fs.length) (hnf : ∀ ρ : Nat → Nat, narrow ty (zV ρ v) = zV ρ v ∧ fits ty (zV ρ v) = true) (k9 : ZX X mc ms d μ (pc + 3) L st (h.set o (.inr (ci, fs.set k v))) kc ks Post) : ZX X mc ms d μ pc L (v :: .ref o :: st) h kc ks Post := by
  intro p l e s m args below meth c D cI A ρ0 n0 hC hn hX ρ H locs ls hR hS
  obtain ⟨hx, hb, hml, hr0, hlk, hnm, hown, hts, hNw, hK, hA⟩ := id hC
  obtain ⟨hP, hD, hSS, hLL, hT⟩ := id hS
  obtain ⟨C, T, N, ⟨h1, h2, ⟨ty0, h3⟩, h4, h5⟩, hkN, hlink, hfin, hty, hCo⟩ := hf
  have hl' : k < (fs.map (zV ρ)).length := by rw [List.length_map]; exact hl
  have e9 : (zM cI ρ (.inr (ci, fs.set k v))) = .inr (ci, (fs.map (zV ρ)).set k (zV ρ v)) := by
    show Sum.inr (ci, (fs.set k v).map (zV ρ)) = _
    rw [List.map_set]
  have w : ∀ (H1 : Heap) (locs1 : List Loc), va_P D vwCl ((zw cI ρ h).set o (ρ o, .inr (ci, (fs.map (zV ρ)).set k (zV ρ v)))) H1 → va_D A ((zw cI ρ h).set o (ρ o, .inr (ci, (fs.map (zV ρ)).set k (zV ρ v)))) → va_S A s.heap H1 locs1 → W p l e (zR mc ms d) s m args below meth c H1 locs1 kc ks (MQ below (zQ D cI ρ0 n0 mc A Post) args s mc ms A) (F0 m (pc + 3) ls (st.map (zV ρ))) := fun H1 locs1 q1 q2 q3 => by
    rw [← e9] at q1 q2
    exact k9 p l e s m args below meth c D cI A ρ0 n0 hC (by rw [List.length_set]; exact hn) hX ρ H1 locs1 ls hR (hS.set q1 q2 q3)
  rcases hlink with hl9 | ⟨q9, -⟩
  · exact va_putF (D := D) (ci := ci) (v := zV ρ v) (ty := ty) (C := C) (T := T) (N := N) hx hb hts h2 ty0 h3 h4 hown hK hP hD hSS o (zw_at he) h1 k hkN (hts _ hl9) (fun x hx9 => by rw [h5 k hkN] at hx9; exact hx9) hfin (by rw [hnm]; exact hini) (by rw [h5 k hkN]; exact hCo rfl) hty (hnf ρ).1 (hnf ρ).2 hl' hdg w
  · cases q9
theorem ZX.iald {a n : Nat} {f : Nat → Int32} {i : Int32} (hdg : decode μ.2.1 pc = .ok (.iaload, 1)) (he : h[a]? = some (.inl (.int, n, .inl f))) (hin : vp_in i n) (k9 : ZX X mc ms d μ (pc + 1) L (.int (f i.toNatClampNeg) :: st) h kc ks Post) : ZX X mc ms d μ pc L (.int i :: .ref a :: st) h kc ks Post := by
  intro p l e s m args below meth c D cI A ρ0 n0 hC hn hX ρ H locs ls hR hS
  obtain ⟨hx, hb, hml, hr0, hlk, hnm, hown, hts, hNw, hK, hA⟩ := id hC
  obtain ⟨hP, hD, hSS, hLL, hT⟩ := id hS
  exact va_iald (D := D) hx hb hK hP a 0 (zw_at he) rfl hin hdg (k9 p l e s m args below meth c D cI A ρ0 n0 hC hn hX ρ H locs ls hR hS)
theorem ZX.lald {a n : Nat} {f : Nat → Int64} {i : Int32} (hdg : decode μ.2.1 pc = .ok (.laload, 1)) (he : h[a]? = some (.inl (.long, n, .inr (.inl f)))) (hin : vp_in i n) (k9 : ZX X mc ms d μ (pc + 1) L (.long (f i.toNatClampNeg) :: st) h kc ks Post) : ZX X mc ms d μ pc L (.int i :: .ref a :: st) h kc ks Post := by
  intro p l e s m args below meth c D cI A ρ0 n0 hC hn hX ρ H locs ls hR hS
  obtain ⟨hx, hb, hml, hr0, hlk, hnm, hown, hts, hNw, hK, hA⟩ := id hC
  obtain ⟨hP, hD, hSS, hLL, hT⟩ := id hS
  exact va_lald (D := D) hx hb hK hP a 1 (zw_at he) rfl hin hdg (k9 p l e s m args below meth c D cI A ρ0 n0 hC hn hX ρ H locs ls hR hS)
theorem ZX.iast {a n : Nat} {f : Nat → Int32} {i x : Int32} (hdg : decode μ.2.1 pc = .ok (.iastore, 1)) (he : h[a]? = some (.inl (.int, n, .inl f))) (hin : vp_in i n) (k9 : ZX X mc ms d μ (pc + 1) L st (h.set a (.inl (.int, n, .inl (upd f i.toNatClampNeg x)))) kc ks Post) : ZX X mc ms d μ pc L (.int x :: .int i :: .ref a :: st) h kc ks Post := by
  intro p l e s m args below meth c D cI A ρ0 n0 hC hn hX ρ H locs ls hR hS
  obtain ⟨hx, hb, hml, hr0, hlk, hnm, hown, hts, hNw, hK, hA⟩ := id hC
  obtain ⟨hP, hD, hSS, hLL, hT⟩ := id hS
  exact va_iast (D := D) hx hb hK hP hD hSS a 0 (zw_at he) rfl hin hdg (fun H1 locs1 q1 q2 q3 => k9 p l e s m args below meth c D cI A ρ0 n0 hC (by rw [List.length_set]; exact hn) hX ρ H1 locs1 ls hR (hS.set q1 q2 q3))
theorem ZX.last {a n : Nat} {f : Nat → Int64} {i : Int32} {x : Int64} (hdg : decode μ.2.1 pc = .ok (.lastore, 1)) (he : h[a]? = some (.inl (.long, n, .inr (.inl f)))) (hin : vp_in i n) (k9 : ZX X mc ms d μ (pc + 1) L st (h.set a (.inl (.long, n, .inr (.inl (vp_updL f i.toNatClampNeg x))))) kc ks Post) : ZX X mc ms d μ pc L (.long x :: .int i :: .ref a :: st) h kc ks Post := by
  intro p l e s m args below meth c D cI A ρ0 n0 hC hn hX ρ H locs ls hR hS
  obtain ⟨hx, hb, hml, hr0, hlk, hnm, hown, hts, hNw, hK, hA⟩ := id hC
  obtain ⟨hP, hD, hSS, hLL, hT⟩ := id hS
  exact va_last (D := D) hx hb hK hP hD hSS a 1 (zw_at he) rfl hin hdg (fun H1 locs1 q1 q2 q3 => k9 p l e s m args below meth c D cI A ρ0 n0 hC (by rw [List.length_set]; exact hn) hX ρ H1 locs1 ls hR (hS.set q1 q2 q3))
theorem ZX.aald {a n t0 : Nat} {ty : FieldType} {q : List (Option Nat)} {i : Int32} {r : Nat} (hdg : decode μ.2.1 pc = .ok (.aaload, 1)) (ht : (t0 = 2 ∧ ty = .array .int) ∨ (t0 = 3 ∧ ty = .object "OffsetChains$Sheet")) (he : h[a]? = some (.inl (ty, n, .inr (.inr q)))) (hin : vp_in i n) (hq : q[i.toNatClampNeg]? = some (some r)) (k9 : ZX X mc ms d μ (pc + 1) L (.ref r :: st) h kc ks Post) : ZX X mc ms d μ pc L (.int i :: .ref a :: st) h kc ks Post := by
  intro p l e s m args below meth c D cI A ρ0 n0 hC hn hX ρ H locs ls hR hS
  obtain ⟨hx, hb, hml, hr0, hlk, hnm, hown, hts, hNw, hK, hA⟩ := id hC
  obtain ⟨hP, hD, hSS, hLL, hT⟩ := id hS
  have hlt : i.toNatClampNeg < n := Nat.not_le.mp fun q => hin (Or.inr q)
  have w := k9 p l e s m args below meth c D cI A ρ0 n0 hC hn hX ρ H locs ls hR hS
  have hz := hP a _ (zw_at he)
  have e1 : va_rf ((q.getD i.toNatClampNeg none).map ρ) = .ref (ρ r) := by rw [List.getD_eq_getElem?_getD, hq]; rfl
  rcases ht with ⟨rfl, rfl⟩ | ⟨rfl, rfl⟩
  · exact W.aald (v := .ref (ρ r)) (ty := .array .int) hx hb hz ((hK.2 2 (cI (.array .int), .array .int) rfl).1 n (fun j => va_rf ((q.getD j none).map ρ))) rfl (fun q => by cases q) (by show ¬ (i < 0 ∨ (arrV _ _ _).slots.size ≤ _); rw [arrV_size]; exact hin) (by show (arrV _ _ _).slots[_]? = _; rw [arrV_read _ _ hlt, e1]) rfl rfl hdg w
  · exact W.aald (v := .ref (ρ r)) (ty := .object "OffsetChains$Sheet") hx hb hz ((hK.2 3 (cI (.object "OffsetChains$Sheet"), .object "OffsetChains$Sheet") rfl).1 n (fun j => va_rf ((q.getD j none).map ρ))) rfl (fun q => by cases q) (by show ¬ (i < 0 ∨ (arrV _ _ _).slots.size ≤ _); rw [arrV_size]; exact hin) (by show (arrV _ _ _).slots[_]? = _; rw [arrV_read _ _ hlt, e1]) rfl rfl hdg w
theorem ZX.alen {a n t0 : Nat} {ty : FieldType} {x : zA} {v : Int32} (hdg : decode μ.2.1 pc = .ok (.arraylength, 1)) (ht : (t0 = 0 ∧ ty = .int) ∨ (t0 = 1 ∧ ty = .long)) (he : h[a]? = some (.inl (ty, n, x))) (hv : Int32.ofNat n = v) (k9 : ZX X mc ms d μ (pc + 1) L (.int v :: st) h kc ks Post) : ZX X mc ms d μ pc L (.ref a :: st) h kc ks Post := by
  intro p l e s m args below meth c D cI A ρ0 n0 hC hn hX ρ H locs ls hR hS
  obtain ⟨hx, hb, hml, hr0, hlk, hnm, hown, hts, hNw, hK, hA⟩ := id hC
  obtain ⟨hP, hD, hSS, hLL, hT⟩ := id hS
  have w := k9 p l e s m args below meth c D cI A ρ0 n0 hC hn hX ρ H locs ls hR hS
  rcases ht with ⟨rfl, rfl⟩ | ⟨rfl, rfl⟩
  · exact va_alen (D := D) hx hb hK hP a 0 (zw_at he) (ty := .int) rfl hv hdg w
  · exact va_alen (D := D) hx hb hK hP a 1 (zw_at he) (ty := .long) rfl hv hdg w
theorem ZX.iret {v : Int32} (hdg : decode μ.2.1 pc = .ok (.ireturn, 1)) (hr : ∃ ty : FieldType, μ.2.2.2 = some ty ∧ narrow ty (.int v) = .int v) (hk : kc ≤ mc ∧ ks ≤ ms) (hp : Post (some (.int v)) h) : ZX X mc ms d μ pc L [.int v] h kc ks Post := by
  intro p l e s m args below meth c D cI A ρ0 n0 hC hn hX ρ H locs ls hR hS
  obtain ⟨hx, hb, hml, hr0, hlk, hnm, hown, hts, hNw, hK, hA⟩ := id hC
  obtain ⟨hP, hD, hSS, hLL, hT⟩ := id hS
  obtain ⟨ty, hr1, hr2⟩ := hr
  refine W.widen hk.1 hk.2 ?_
  exact W.zret (v := v) (ty := ty) hx hb (hr0.trans hr1) hr2 (fun t ht _ => hS.end hR hn hp ht) (fun q hq => hSS.2.2 q hq) hdg hlk
theorem ZX.lret {v : Int64} (hdg : decode μ.2.1 pc = .ok (.lreturn, 1)) (hr : μ.2.2.2 = some .long) (hk : kc ≤ mc ∧ ks ≤ ms) (hp : Post (some (.long v)) h) : ZX X mc ms d μ pc L [.long v] h kc ks Post := by
  intro p l e s m args below meth c D cI A ρ0 n0 hC hn hX ρ H locs ls hR hS
  obtain ⟨hx, hb, hml, hr0, hlk, hnm, hown, hts, hNw, hK, hA⟩ := id hC
  obtain ⟨hP, hD, hSS, hLL, hT⟩ := id hS
  refine W.widen hk.1 hk.2 ?_
  exact W.lret (v := v) hx hb (hr0.trans hr) (fun t ht _ => hS.end hR hn hp ht) (fun q hq => hSS.2.2 q hq) hdg hlk
theorem ZX.vret (hdg : decode μ.2.1 pc = .ok (.return_, 1)) (hr : μ.2.2.2 = none) (hk : kc ≤ mc ∧ ks ≤ ms) (hp : Post none h) : ZX X mc ms d μ pc L [] h kc ks Post := by
  intro p l e s m args below meth c D cI A ρ0 n0 hC hn hX ρ H locs ls hR hS
  obtain ⟨hx, hb, hml, hr0, hlk, hnm, hown, hts, hNw, hK, hA⟩ := id hC
  obtain ⟨hP, hD, hSS, hLL, hT⟩ := id hS
  refine W.widen hk.1 hk.2 ?_
  exact W.vret hx hb (hr0.trans hr) (fun t ht _ => hS.end hR hn hp ht) (fun q hq => hSS.2.2 q hq) hdg hlk
end ZXX
section ZXC
variable {X : State → (Nat → Nat) → (Nat → Prop) → Nat → Prop} {mc ms d : Nat} {μ : zU} {pc : Nat} {L : List (Option Value)} {st : List Value} {h : zH} {kc ks : Nat} {Post : Option Value → zH → Prop} {mc' ms' hd idx n : Nat} {ν : zU} {Post' : Option Value → zH → Prop}
def zOX (X : State → (Nat → Nat) → (Nat → Prop) → Nat → Prop) (mc ms d : Nat) (μ : zU) (pc : Nat) (L : List (Option Value)) (rest : List Value) (h : zH) (kc ks mc' ms' : Nat) (Post' Post : Option Value → zH → Prop) : Prop :=
  (mc' = 0 ∨ (zWfL h.length L = true ∧ zWfS h.length rest = true)) ∧ kc + mc' ≤ mc ∧ ks + ms' ≤ ms ∧ ∀ r h', Post' r h' → ZX X mc ms d μ (pc + 3) L (r.toList ++ rest) h' (kc + mc') (ks + ms') Post
set_option maxHeartbeats 1000000 in
theorem zx_land {p : Program} {l : Launch} {e : Env} {s : State} {m : MethodId} {args : Array Value} {below : List Frame} {meth : Method} {c : Code} {D : va_G} {cI : FieldType → ClassId} {A : Nat → Prop} {ρ0 ρ : Nat → Nat} {n0 : Nat} {H : Heap} {locs : List Loc} {ls : Array Slot} {rest st0 : List Value} {a : Array Value} (hon : zOX X mc ms d μ pc L rest h kc ks mc' ms' Post' Post)
    (hC : zCx μ p s m args meth c D cI A) (hn : n0 ≤ h.length) (hX : X s ρ0 A n0) (hR : zRel mc n0 ρ0 ρ) (hS : zSt μ D cI A s h L ρ H locs ls)
    (hr : va_Run p l e (zR mc ms d) s m args below meth c H locs kc ks mc' ms' (F0 m pc ls st0) (rest.map (zV ρ)) (zQ D cI ρ h.length mc' (va_A (zw cI ρ h) H.size) Post' a) (va_A (zw cI ρ h) H.size)) :
    W p l e (zR mc ms d) s m args below meth c H locs kc ks (MQ below (zQ D cI ρ0 n0 mc A Post) args s mc ms A) (F0 m pc ls st0) := by
  obtain ⟨hx, hb, hml, hr0, hlk, hnm, hown, hts, hNw, hK, hA⟩ := id hC
  obtain ⟨hP, hD, hSS, hLL, hT⟩ := id hS
  obtain ⟨hwf, hkc, hks, hk⟩ := hon
  have hAA : ∀ q, va_A (zw cI ρ h) H.size q → A q := fun q hq => by
    rcases hq with ⟨k, e9, h9⟩ | h9
    · exact hD.2 k (q, e9) h9
    · exact hA q (Nat.le_trans hSS.1 h9)
  refine z_back hr hSS hAA (fun r h' ρ' H1 locs1 hp hrel hn' hP1 hD1 hS1 => ?_)
  have hL2 : zL μ.2.2.1 ρ' ls L ∧ rest.map (zV ρ') = rest.map (zV ρ) := by
    rcases hwf with h9 | ⟨h9, h8⟩
    · rw [hrel.1 h9]
      exact ⟨hLL, rfl⟩
    · exact ⟨zWfL_use hrel h9 hLL, zWfS_use hrel h8⟩
  have hR2 : zRel mc n0 ρ0 ρ' := by
    refine ⟨fun h9 => ?_, fun k hk9 => ?_⟩
    · have h8 : mc' = 0 := by omega
      rw [hrel.1 h8]
      exact hR.1 h9
    · rw [hrel.2 k (by omega), hR.2 k hk9]
  have w := hk r h' hp p l e s m args below meth c D cI A ρ0 n0 hC (by omega) hX ρ' H1 locs1 ls hR2 ⟨hP1, hD1.weaken (fun _ q _ h9 => hAA q.1 h9), hS1, hL2.1, hT.rel hrel⟩
  have e9 : (r.toList ++ rest).map (zV ρ') = (r.map (zV ρ')).toList ++ rest.map (zV ρ) := by
    rw [List.map_append, hL2.2]
    cases r <;> rfl
  rw [e9] at w
  exact w
set_option maxHeartbeats 1000000 in
theorem ZX.callV {b ci : Nat} {fs : List Value} {As rest : List Value} (hdg : decode μ.2.1 pc = .ok (.invokevirtual idx, 3)) (hm : zMk ν n) (hs : zSV μ.1.cls idx ν) (hc : zC mc' ms' hd ν (.ref b :: As) h Post') (hd1 : hd + 1 ≤ d) (he : h[b]? = some (.inr (ci, fs))) (hci : ∃ q : vw_C, vwCl[ci]? = some q ∧ q.1 = ν.1.cls) (hAn : As.length = n) (hst : st = As.reverse ++ .ref b :: rest) (hcat : (rest.map fun v => v.category).sum ≤ 8) (hon : zOX X mc ms d μ pc L rest h kc ks mc' ms' Post' Post) : ZX X mc ms d μ pc L st h kc ks Post := by
  intro p l e s m args below meth c D cI A ρ0 n0 hC hn hX ρ H locs ls hR hS
  obtain ⟨hx, hb, hml, hr0, hlk, hnm, hown, hts, hNw, hK, hA⟩ := id hC
  obtain ⟨hP, hD, hSS, hLL, hT⟩ := id hS
  obtain ⟨q, hq1, hq2⟩ := hci
  obtain ⟨hm1, hm2, hm3, hm4⟩ := hm
  obtain ⟨hs1, hs2, hs3⟩ := hs
  have hM := hc (d - 1) (by omega) l D cI ρ H.size
  have hp := z_pre (.ref b :: As) hC hS
  have hrecv := va_recv hK hP (ci := ci) hq1 (zw_at he)
  rw [hq2] at hrecv
  refine zx_land (a := ((Value.ref b :: As).map (zV ρ)).toArray) (rest := rest) hon hC hn hX hR hS ?_
  exact va_runV (As := As.map (zV ρ)) (rest := rest.map (zV ρ)) (b := ρ b) (C := ν.1.cls) (own := μ.1.cls) (n := n) (index := idx) ⟨hx, hb, hml, hown, hts⟩ hM ⟨callB_of n hts (zWd_good hm1) rfl rfl rfl (hts _ hm2) (hts _ hs1) hm3 (z_room (by omega) hm4), hts _ hs2, hts _ hs3⟩ ⟨hp.1, hrecv, hp.2⟩ rfl (by rw [List.length_map]; exact hAn) hLL.1 (by rw [hst]; simp [zV, F0]) (lv_room (by rw [zV_cats]; exact hcat)) hdg ⟨hon.2.1, hon.2.2.1⟩
set_option maxHeartbeats 1000000 in
theorem ZX.callS {As rest : List Value} (hdg : decode μ.2.1 pc = .ok (.invokestatic idx, 3)) (hm : zMk ν n) (hs : zSS μ.1.cls idx ν) (hc : zC mc' ms' hd ν As h Post') (hd1 : hd + 1 ≤ d) (hAn : As.length = n) (hst : st = As.reverse ++ rest) (hcat : (rest.map fun v => v.category).sum ≤ 8) (hon : zOX X mc ms d μ pc L rest h kc ks mc' ms' Post' Post) : ZX X mc ms d μ pc L st h kc ks Post := by
  intro p l e s m args below meth c D cI A ρ0 n0 hC hn hX ρ H locs ls hR hS
  obtain ⟨hx, hb, hml, hr0, hlk, hnm, hown, hts, hNw, hK, hA⟩ := id hC
  obtain ⟨hP, hD, hSS, hLL, hT⟩ := id hS
  obtain ⟨hm1, hm2, hm3, hm4⟩ := hm
  obtain ⟨hs1, hs2⟩ := hs
  have hM := hc (d - 1) (by omega) l D cI ρ H.size
  have hp := z_pre As hC hS
  refine zx_land (a := (As.map (zV ρ)).toArray) (rest := rest) hon hC hn hX hR hS ?_
  rcases hs1 with hs1 | ⟨host, hs1⟩
  · exact va_runS (As := As.map (zV ρ)) (rest := rest.map (zV ρ)) (own := μ.1.cls) (n := n) (index := idx) ⟨hx, hb, hml, hown, hts⟩ hM ⟨callB_of n hts (zWd_good hm1) rfl rfl rfl (hts _ hm2) (hts _ hs1) hm3 (z_room (by omega) hm4), hts _ hs2⟩ hp rfl (by rw [List.length_map]; exact hAn) hLL.1 (by rw [hst]; simp [F0]) (lv_room (by rw [zV_cats]; exact hcat)) hdg ⟨hon.2.1, hon.2.2.1⟩
  · exact va_runSN (As := As.map (zV ρ)) (rest := rest.map (zV ρ)) (own := μ.1.cls) (host := host) (n := n) (index := idx) ⟨hx, hb, hml, hown, hts⟩ hM ⟨va_cnB n hts (zWd_good hm1) rfl rfl rfl (hNw _ hs1) (hts _ hm2) hm3 (z_room (by omega) hm4), hts _ hs2, trivial⟩ hp rfl (by rw [List.length_map]; exact hAn) hLL.1 (by rw [hst]; simp [F0]) (lv_room (by rw [zV_cats]; exact hcat)) hdg ⟨hon.2.1, hon.2.2.1⟩
set_option maxHeartbeats 1000000 in
theorem ZX.callI {b : Nat} {As rest : List Value} (hdg : decode μ.2.1 pc = .ok (.invokespecial idx, 3)) (hm : zMk ν n) (hs : zSI μ.1.cls idx ν) (hc : zC mc' ms' hd ν (.ref b :: As) h Post') (hd1 : hd + 1 ≤ d) (hAn : As.length = n) (hst : st = As.reverse ++ .ref b :: rest) (hcat : (rest.map fun v => v.category).sum ≤ 8) (hon : zOX X mc ms d μ pc L rest h kc ks mc' ms' Post' Post) : ZX X mc ms d μ pc L st h kc ks Post := by
  intro p l e s m args below meth c D cI A ρ0 n0 hC hn hX ρ H locs ls hR hS
  obtain ⟨hx, hb, hml, hr0, hlk, hnm, hown, hts, hNw, hK, hA⟩ := id hC
  obtain ⟨hP, hD, hSS, hLL, hT⟩ := id hS
  obtain ⟨hm1, hm2, hm3, hm4⟩ := hm
  obtain ⟨hs1, hs2, hs3, hs4⟩ := hs
  obtain ⟨ny, ncc, nn, nr⟩ := ν
  dsimp only at hs4
  subst hs4
  have hM := hc (d - 1) (by omega) l D cI ρ H.size
  have hp := z_pre (.ref b :: As) hC hS
  refine zx_land (a := ((Value.ref b :: As).map (zV ρ)).toArray) (rest := rest) hon hC hn hX hR hS ?_
  rcases hs1 with hs1 | ⟨host, hs1⟩
  · exact va_runI (As := As.map (zV ρ)) (rest := rest.map (zV ρ)) (b := ρ b) (own := μ.1.cls) (n := n) (index := idx) ⟨hx, hb, hml, hown, hts⟩ hM ⟨callB_of n hts (zWd_good hm1) rfl rfl rfl (hts _ hm2) (hts _ hs1) hm3 (z_room (by omega) hm4), hs3, hts _ hs2⟩ hp rfl (by rw [List.length_map]; exact hAn) hLL.1 (by rw [hst]; simp [zV, F0]) (lv_room (by rw [zV_cats]; exact hcat)) hdg ⟨hon.2.1, hon.2.2.1⟩
  · exact va_runIN (As := As.map (zV ρ)) (rest := rest.map (zV ρ)) (b := ρ b) (own := μ.1.cls) (host := host) (n := n) (index := idx) ⟨hx, hb, hml, hown, hts⟩ hM ⟨va_cnB n hts (zWd_good hm1) rfl rfl rfl (hNw _ hs1) (hts _ hm2) hm3 (z_room (by omega) hm4), hs3, hts _ hs2⟩ hp rfl (by rw [List.length_map]; exact hAn) hLL.1 (by rw [hst]; simp [zV, F0]) (lv_room (by rw [zV_cats]; exact hcat)) hdg ⟨hon.2.1, hon.2.2.1⟩
end ZXC
