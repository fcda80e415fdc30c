section ZYX
variable {X : State → (Nat → Nat) → (Nat → Prop) → Nat → Prop} {mc ms kc ks : Nat} {hd hd' d : Nat} {μ ν : zU} {pc : Nat} {L : List (Option Value)} {st : List Value} {σ : zS} {P : Option Value → zH → Prop} {P' : Option Value → zS → Prop} {avs : List Value} {idx n b ci : Nat} {fs : zS → List Value} {As rest : List Value} {v : Int}
/-- Y, with one thing more known at the entry, and cells made -/
def YX (X : State → (Nat → Nat) → (Nat → Prop) → Nat → Prop) (mc ms kc ks d : Nat) (μ : zU) (pc : Nat) (L : List (Option Value)) (st : List Value) (σ : zS) (P : Option Value → zH → Prop) : Prop := ZX X mc ms d μ pc L st (zHp σ) kc ks P
theorem YX.sub {L' : List (Option Value)} (hs : zSub L' L) (k : YX X mc ms kc ks d μ pc L' st σ P) : YX X mc ms kc ks d μ pc L st σ P := ZX.loc hs k
theorem YX.on {rest : List Value} (hk : kc ≤ mc ∧ ks ≤ ms) (k : ∀ r σ', P' r σ' → YX X mc ms kc ks d μ (pc + 3) L (r.toList ++ rest) σ' P) : zOX X mc ms d μ pc L rest (zHp σ) kc ks 0 0 (fun r h => ∃ σ', h = zHp σ' ∧ P' r σ') P :=
  ⟨Or.inl rfl, hk.1, hk.2, fun r h' ⟨σ', h1, h2⟩ => by rw [h1]; exact k r σ' h2⟩
theorem YX.callV {b ci n : Nat} {fs : zS → List Value} {As rest : List Value} (hk : kc ≤ mc ∧ ks ≤ ms) (hdg : decode μ.2.1 pc = .ok (.invokevirtual idx, 3)) (hm : zMk ν n) (hs : zSV μ.1.cls idx ν) (ho : zOB b ci fs) (hci : ∃ q : vw_C, vwCl[ci]? = some q ∧ q.1 = ν.1.cls) (hc : YC hd ν (.ref b :: As) σ P') (hd1 : hd + 1 ≤ d) (hAn : As.length = n) (hst : st = As.reverse ++ .ref b :: rest) (hcat : (rest.map fun v => v.category).sum ≤ 8) (k : ∀ r σ', P' r σ' → YX X mc ms kc ks d μ (pc + 3) L (r.toList ++ rest) σ' P) : YX X mc ms kc ks d μ pc L st σ P :=
  ZX.callV hdg hm hs hc hd1 (ho σ) hci hAn hst hcat (YX.on hk k)
theorem YX.callS {n : Nat} {As rest : List Value} (hk : kc ≤ mc ∧ ks ≤ ms) (hdg : decode μ.2.1 pc = .ok (.invokestatic idx, 3)) (hm : zMk ν n) (hs : zSS μ.1.cls idx ν) (hc : YC hd ν As σ P') (hd1 : hd + 1 ≤ d) (hAn : As.length = n) (hst : st = As.reverse ++ rest) (hcat : (rest.map fun v => v.category).sum ≤ 8) (k : ∀ r σ', P' r σ' → YX X mc ms kc ks d μ (pc + 3) L (r.toList ++ rest) σ' P) : YX X mc ms kc ks d μ pc L st σ P :=
  ZX.callS hdg hm hs hc hd1 hAn hst hcat (YX.on hk k)
theorem YX.iadd {a b : Int} (hdg : decode μ.2.1 pc = .ok (.iadd, 1)) (k : YX X mc ms kc ks d μ (pc + 1) L (.int (zi (a + b)) :: st) σ P) : YX X mc ms kc ks d μ pc L (.int (zi b) :: .int (zi a) :: st) σ P := ZX.iadd hdg (by rw [zi_add]; exact k)
theorem YX.isub {a b : Int} (hdg : decode μ.2.1 pc = .ok (.isub, 1)) (k : YX X mc ms kc ks d μ (pc + 1) L (.int (zi (a - b)) :: st) σ P) : YX X mc ms kc ks d μ pc L (.int (zi b) :: .int (zi a) :: st) σ P := ZX.isub hdg (by rw [zi_sub]; exact k)
theorem YX.imul {a b : Int} (hdg : decode μ.2.1 pc = .ok (.imul, 1)) (k : YX X mc ms kc ks d μ (pc + 1) L (.int (zi (a * b)) :: st) σ P) : YX X mc ms kc ks d μ pc L (.int (zi b) :: .int (zi a) :: st) σ P := ZX.imul hdg (by rw [zi_mul]; exact k)
theorem YX.ladd {a b : Int} (hdg : decode μ.2.1 pc = .ok (.ladd, 1)) (k : YX X mc ms kc ks d μ (pc + 1) L (.long (zl (a + b)) :: st) σ P) : YX X mc ms kc ks d μ pc L (.long (zl b) :: .long (zl a) :: st) σ P := ZX.ladd hdg (by rw [zl_add]; exact k)
theorem YX.lsub {a b : Int} (hdg : decode μ.2.1 pc = .ok (.lsub, 1)) (k : YX X mc ms kc ks d μ (pc + 1) L (.long (zl (a - b)) :: st) σ P) : YX X mc ms kc ks d μ pc L (.long (zl b) :: .long (zl a) :: st) σ P := ZX.lsub hdg (by rw [zl_sub]; exact k)
theorem YX.lmul {a b : Int} (hdg : decode μ.2.1 pc = .ok (.lmul, 1)) (k : YX X mc ms kc ks d μ (pc + 1) L (.long (zl (a * b)) :: st) σ P) : YX X mc ms kc ks d μ pc L (.long (zl b) :: .long (zl a) :: st) σ P := ZX.lmul hdg (by rw [zl_mul]; exact k)
theorem YX.idiv {a b : Int} (hdg : decode μ.2.1 pc = .ok (.idiv, 1)) (ha : zB a) (hb : zB b) (h0 : ¬ b = 0) (k : YX X mc ms kc ks d μ (pc + 1) L (.int (zi (a.tdiv b)) :: st) σ P) : YX X mc ms kc ks d μ pc L (.int (zi b) :: .int (zi a) :: st) σ P := ZX.idiv hdg (zi_n0 hb h0) (by rw [zi_div ha hb]; exact k)
theorem YX.irem {a b : Int} (hdg : decode μ.2.1 pc = .ok (.irem, 1)) (ha : zB a) (hb : zB b) (h0 : ¬ b = 0) (k : YX X mc ms kc ks d μ (pc + 1) L (.int (zi (a.tmod b)) :: st) σ P) : YX X mc ms kc ks d μ pc L (.int (zi b) :: .int (zi a) :: st) σ P := ZX.irem hdg (zi_n0 hb h0) (by rw [zi_rem ha hb]; exact k)
theorem YX.ldiv {a b : Int} (hdg : decode μ.2.1 pc = .ok (.ldiv, 1)) (ha : zB64 a) (hb : zB64 b) (h0 : ¬ b = 0) (k : YX X mc ms kc ks d μ (pc + 1) L (.long (zl (a.tdiv b)) :: st) σ P) : YX X mc ms kc ks d μ pc L (.long (zl b) :: .long (zl a) :: st) σ P := ZX.ldiv hdg (zl_n0 hb h0) (by rw [zl_div ha hb]; exact k)
theorem YX.lrem {a b : Int} (hdg : decode μ.2.1 pc = .ok (.lrem, 1)) (ha : zB64 a) (hb : zB64 b) (h0 : ¬ b = 0) (k : YX X mc ms kc ks d μ (pc + 1) L (.long (zl (a.tmod b)) :: st) σ P) : YX X mc ms kc ks d μ pc L (.long (zl b) :: .long (zl a) :: st) σ P := ZX.lrem hdg (zl_n0 hb h0) (by rw [zl_rem ha hb]; exact k)
theorem YX.lcmp {a b : Int} (hdg : decode μ.2.1 pc = .ok (.lcmp, 1)) (ha : zB64 a) (hb : zB64 b) (k : ∀ c : Int, zB c → (c < 0 ↔ a < b) → (c = 0 ↔ a = b) → YX X mc ms kc ks d μ (pc + 1) L (.int (zi c) :: st) σ P) : YX X mc ms kc ks d μ pc L (.long (zl b) :: .long (zl a) :: st) σ P := by
  refine ZX.lcmp hdg ?_
  rw [zl_cmp ha hb]
  refine k _ ?_ ?_ ?_ <;> (split <;> try split) <;> omega
theorem YX.i2l {a : Int} (hdg : decode μ.2.1 pc = .ok (.i2l, 1)) (ha : zB a) (k : YX X mc ms kc ks d μ (pc + 1) L (.long (zl a) :: st) σ P) : YX X mc ms kc ks d μ pc L (.int (zi a) :: st) σ P := ZX.i2l hdg (by rw [zi_long ha]; exact k)
theorem YX.l2i {a : Int} (hdg : decode μ.2.1 pc = .ok (.l2i, 1)) (k : YX X mc ms kc ks d μ (pc + 1) L (.int (zi a) :: st) σ P) : YX X mc ms kc ks d μ pc L (.long (zl a) :: st) σ P := ZX.l2i hdg (by rw [zl_int]; exact k)
theorem YX.i2s {a : Int} (hdg : decode μ.2.1 pc = .ok (.i2s, 1)) (k : YX X mc ms kc ks d μ (pc + 1) L (.int (zi (zsh a)) :: st) σ P) : YX X mc ms kc ks d μ pc L (.int (zi a) :: st) σ P := ZX.i2s hdg (by rw [zsh_eq]; exact k)
theorem YX.iconst {n : Int} (hdg : decode μ.2.1 pc = .ok (.iconst n, 1)) (k : YX X mc ms kc ks d μ (pc + 1) L (.int (zi n) :: st) σ P) : YX X mc ms kc ks d μ pc L st σ P := ZX.iconst (zi n) hdg rfl k
theorem YX.bipush {n : Int} (hdg : decode μ.2.1 pc = .ok (.bipush n, 2)) (hv : (Int8.ofInt n).toInt32 = zi n) (k : YX X mc ms kc ks d μ (pc + 2) L (.int (zi n) :: st) σ P) : YX X mc ms kc ks d μ pc L st σ P := ZX.bipush (zi n) hdg hv k
theorem YX.sipush {n : Int} (hdg : decode μ.2.1 pc = .ok (.sipush n, 3)) (hv : (Int16.ofInt n).toInt32 = zi n) (k : YX X mc ms kc ks d μ (pc + 3) L (.int (zi n) :: st) σ P) : YX X mc ms kc ks d μ pc L st σ P := ZX.sipush (zi n) hdg hv k
theorem YX.lconst {n : Fin 2} (v : Int) (hdg : decode μ.2.1 pc = .ok (.lconst n, 1)) (hv : Int64.ofNat (n : Nat) = zl v) (k : YX X mc ms kc ks d μ (pc + 1) L (.long (zl v) :: st) σ P) : YX X mc ms kc ks d μ pc L st σ P := ZX.lconst (zl v) hdg hv k
theorem YX.dup {v : Value} (hdg : decode μ.2.1 pc = .ok (.dup, 1)) (hv : v.category = 1) (k : YX X mc ms kc ks d μ (pc + 1) L (v :: v :: st) σ P) : YX X mc ms kc ks d μ pc L (v :: st) σ P := ZX.dup hdg hv k
theorem YX.dup2 {v u : Value} (hdg : decode μ.2.1 pc = .ok (.dup2, 1)) (hv : v.category = 1) (hu : u.category = 1) (k : YX X mc ms kc ks d μ (pc + 1) L (v :: u :: v :: u :: st) σ P) : YX X mc ms kc ks d μ pc L (v :: u :: st) σ P := ZX.dup2 hdg hv hu k
theorem YX.pop {v : Value} (hdg : decode μ.2.1 pc = .ok (.pop, 1)) (hv : v.category = 1) (k : YX X mc ms kc ks d μ (pc + 1) L st σ P) : YX X mc ms kc ks d μ pc L (v :: st) σ P := ZX.pop hdg hv k
theorem YX.goto {off : Int} (tgt : Nat) (hdg : decode μ.2.1 pc = .ok (.goto off, 3)) (ht : (pc : Int) + off = (tgt : Int)) (k : YX X mc ms kc ks d μ tgt L st σ P) : YX X mc ms kc ks d μ pc L st σ P := ZX.goto tgt hdg ht k
theorem YX.tin {dflt lo hi : Int} {offs : Array Int} {len : Nat} {a off : Int} (tgt : Nat) (hdg : decode μ.2.1 pc = .ok (.tableswitch dflt lo hi offs, len)) (ha : zB a) (h1 : lo ≤ a) (h2 : a ≤ hi) (ho : offs[(a - lo).toNat]? = some off) (ht : (pc : Int) + off = (tgt : Int)) (k : YX X mc ms kc ks d μ tgt L st σ P) : YX X mc ms kc ks d μ pc L (.int (zi a) :: st) σ P := ZX.tin tgt hdg (by rw [zi_toInt ha]; omega) (by rw [zi_toInt ha]; omega) (by rw [zi_toInt ha]; exact ho) ht k
theorem YX.tout {dflt lo hi : Int} {offs : Array Int} {len : Nat} {a : Int} (tgt : Nat) (hdg : decode μ.2.1 pc = .ok (.tableswitch dflt lo hi offs, len)) (ha : zB a) (h1 : a < lo ∨ hi < a) (ht : (pc : Int) + dflt = (tgt : Int)) (k : YX X mc ms kc ks d μ tgt L st σ P) : YX X mc ms kc ks d μ pc L (.int (zi a) :: st) σ P := ZX.tout tgt hdg (by rw [zi_toInt ha]; exact h1) ht k
theorem YX.if_eq {a off : Int} (tgt : Nat) (hdg : decode μ.2.1 pc = .ok (.ifCond .eq off, 3)) (ht : (pc : Int) + off = (tgt : Int)) (ha : zB a) (k1 : a = 0 → YX X mc ms kc ks d μ tgt L st σ P) (k2 : ¬ (a = 0) → YX X mc ms kc ks d μ (pc + 3) L st σ P) : YX X mc ms kc ks d μ pc L (.int (zi a) :: st) σ P := ZX.if_eq tgt hdg ht (fun q => k1 ((zi_eq ha zB0).mp q)) (fun q => k2 (fun q2 => q ((zi_eq ha zB0).mpr q2)))
theorem YX.icmp_eq {a b off : Int} (tgt : Nat) (hdg : decode μ.2.1 pc = .ok (.if_icmp .eq off, 3)) (ht : (pc : Int) + off = (tgt : Int)) (ha : zB a) (hb : zB b) (k1 : a = b → YX X mc ms kc ks d μ tgt L st σ P) (k2 : ¬ (a = b) → YX X mc ms kc ks d μ (pc + 3) L st σ P) : YX X mc ms kc ks d μ pc L (.int (zi b) :: .int (zi a) :: st) σ P := ZX.icmp_eq tgt hdg ht (fun q => k1 ((zi_eq ha hb).mp q)) (fun q => k2 (fun q2 => q ((zi_eq ha hb).mpr q2)))
theorem YX.if_lt {a off : Int} (tgt : Nat) (hdg : decode μ.2.1 pc = .ok (.ifCond .lt off, 3)) (ht : (pc : Int) + off = (tgt : Int)) (ha : zB a) (k1 : a < 0 → YX X mc ms kc ks d μ tgt L st σ P) (k2 : ¬ (a < 0) → YX X mc ms kc ks d μ (pc + 3) L st σ P) : YX X mc ms kc ks d μ pc L (.int (zi a) :: st) σ P := ZX.if_lt tgt hdg ht (fun q => k1 ((zi_lt ha zB0).mp q)) (fun q => k2 (fun q2 => q ((zi_lt ha zB0).mpr q2)))
theorem YX.icmp_lt {a b off : Int} (tgt : Nat) (hdg : decode μ.2.1 pc = .ok (.if_icmp .lt off, 3)) (ht : (pc : Int) + off = (tgt : Int)) (ha : zB a) (hb : zB b) (k1 : a < b → YX X mc ms kc ks d μ tgt L st σ P) (k2 : ¬ (a < b) → YX X mc ms kc ks d μ (pc + 3) L st σ P) : YX X mc ms kc ks d μ pc L (.int (zi b) :: .int (zi a) :: st) σ P := ZX.icmp_lt tgt hdg ht (fun q => k1 ((zi_lt ha hb).mp q)) (fun q => k2 (fun q2 => q ((zi_lt ha hb).mpr q2)))
theorem YX.if_ge {a off : Int} (tgt : Nat) (hdg : decode μ.2.1 pc = .ok (.ifCond .ge off, 3)) (ht : (pc : Int) + off = (tgt : Int)) (ha : zB a) (k1 : 0 ≤ a → YX X mc ms kc ks d μ tgt L st σ P) (k2 : ¬ (0 ≤ a) → YX X mc ms kc ks d μ (pc + 3) L st σ P) : YX X mc ms kc ks d μ pc L (.int (zi a) :: st) σ P := ZX.if_ge tgt hdg ht (fun q => k1 ((zi_le zB0 ha).mp q)) (fun q => k2 (fun q2 => q ((zi_le zB0 ha).mpr q2)))
theorem YX.icmp_ge {a b off : Int} (tgt : Nat) (hdg : decode μ.2.1 pc = .ok (.if_icmp .ge off, 3)) (ht : (pc : Int) + off = (tgt : Int)) (ha : zB a) (hb : zB b) (k1 : b ≤ a → YX X mc ms kc ks d μ tgt L st σ P) (k2 : ¬ (b ≤ a) → YX X mc ms kc ks d μ (pc + 3) L st σ P) : YX X mc ms kc ks d μ pc L (.int (zi b) :: .int (zi a) :: st) σ P := ZX.icmp_ge tgt hdg ht (fun q => k1 ((zi_le hb ha).mp q)) (fun q => k2 (fun q2 => q ((zi_le hb ha).mpr q2)))
theorem YX.if_gt {a off : Int} (tgt : Nat) (hdg : decode μ.2.1 pc = .ok (.ifCond .gt off, 3)) (ht : (pc : Int) + off = (tgt : Int)) (ha : zB a) (k1 : 0 < a → YX X mc ms kc ks d μ tgt L st σ P) (k2 : ¬ (0 < a) → YX X mc ms kc ks d μ (pc + 3) L st σ P) : YX X mc ms kc ks d μ pc L (.int (zi a) :: st) σ P := ZX.if_gt tgt hdg ht (fun q => k1 ((zi_lt zB0 ha).mp q)) (fun q => k2 (fun q2 => q ((zi_lt zB0 ha).mpr q2)))
theorem YX.icmp_gt {a b off : Int} (tgt : Nat) (hdg : decode μ.2.1 pc = .ok (.if_icmp .gt off, 3)) (ht : (pc : Int) + off = (tgt : Int)) (ha : zB a) (hb : zB b) (k1 : b < a → YX X mc ms kc ks d μ tgt L st σ P) (k2 : ¬ (b < a) → YX X mc ms kc ks d μ (pc + 3) L st σ P) : YX X mc ms kc ks d μ pc L (.int (zi b) :: .int (zi a) :: st) σ P := ZX.icmp_gt tgt hdg ht (fun q => k1 ((zi_lt hb ha).mp q)) (fun q => k2 (fun q2 => q ((zi_lt hb ha).mpr q2)))
theorem YX.if_le {a off : Int} (tgt : Nat) (hdg : decode μ.2.1 pc = .ok (.ifCond .le off, 3)) (ht : (pc : Int) + off = (tgt : Int)) (ha : zB a) (k1 : a ≤ 0 → YX X mc ms kc ks d μ tgt L st σ P) (k2 : ¬ (a ≤ 0) → YX X mc ms kc ks d μ (pc + 3) L st σ P) : YX X mc ms kc ks d μ pc L (.int (zi a) :: st) σ P := ZX.if_le tgt hdg ht (fun q => k1 ((zi_le ha zB0).mp q)) (fun q => k2 (fun q2 => q ((zi_le ha zB0).mpr q2)))
theorem YX.icmp_le {a b off : Int} (tgt : Nat) (hdg : decode μ.2.1 pc = .ok (.if_icmp .le off, 3)) (ht : (pc : Int) + off = (tgt : Int)) (ha : zB a) (hb : zB b) (k1 : a ≤ b → YX X mc ms kc ks d μ tgt L st σ P) (k2 : ¬ (a ≤ b) → YX X mc ms kc ks d μ (pc + 3) L st σ P) : YX X mc ms kc ks d μ pc L (.int (zi b) :: .int (zi a) :: st) σ P := ZX.icmp_le tgt hdg ht (fun q => k1 ((zi_le ha hb).mp q)) (fun q => k2 (fun q2 => q ((zi_le ha hb).mpr q2)))
theorem YX.if_ne {a off : Int} (tgt : Nat) (hdg : decode μ.2.1 pc = .ok (.ifCond .ne off, 3)) (ht : (pc : Int) + off = (tgt : Int)) (ha : zB a) (k1 : ¬ a = 0 → YX X mc ms kc ks d μ tgt L st σ P) (k2 : a = 0 → YX X mc ms kc ks d μ (pc + 3) L st σ P) : YX X mc ms kc ks d μ pc L (.int (zi a) :: st) σ P := ZX.if_ne tgt hdg ht (fun q => k1 (fun q2 => q ((zi_eq ha zB0).mpr q2))) (fun q => k2 ((zi_eq ha zB0).mp q))
theorem YX.icmp_ne {a b off : Int} (tgt : Nat) (hdg : decode μ.2.1 pc = .ok (.if_icmp .ne off, 3)) (ht : (pc : Int) + off = (tgt : Int)) (ha : zB a) (hb : zB b) (k1 : ¬ a = b → YX X mc ms kc ks d μ tgt L st σ P) (k2 : a = b → YX X mc ms kc ks d μ (pc + 3) L st σ P) : YX X mc ms kc ks d μ pc L (.int (zi b) :: .int (zi a) :: st) σ P := ZX.icmp_ne tgt hdg ht (fun q => k1 (fun q2 => q ((zi_eq ha hb).mpr q2))) (fun q => k2 ((zi_eq ha hb).mp q))
theorem YX.iload_n {q : Fin 4} {x : Int32} (hdg : decode μ.2.1 pc = .ok (.iload_n q, 1)) (hl : L[(q : Nat)]? = some (some (.int x))) (k : YX X mc ms kc ks d μ (pc + 1) L (.int x :: st) σ P) : YX X mc ms kc ks d μ pc L st σ P := ZX.iload_n hdg hl k
theorem YX.iload {i : Nat} {x : Int32} (hdg : decode μ.2.1 pc = .ok (.iload i, 2)) (hl : L[i]? = some (some (.int x))) (k : YX X mc ms kc ks d μ (pc + 2) L (.int x :: st) σ P) : YX X mc ms kc ks d μ pc L st σ P := ZX.iload hdg hl k
theorem YX.lload_n {q : Fin 4} {x : Int64} (hdg : decode μ.2.1 pc = .ok (.lload_n q, 1)) (hl : L[(q : Nat)]? = some (some (.long x))) (k : YX X mc ms kc ks d μ (pc + 1) L (.long x :: st) σ P) : YX X mc ms kc ks d μ pc L st σ P := ZX.lload_n hdg hl k
theorem YX.lload {i : Nat} {x : Int64} (hdg : decode μ.2.1 pc = .ok (.lload i, 2)) (hl : L[i]? = some (some (.long x))) (k : YX X mc ms kc ks d μ (pc + 2) L (.long x :: st) σ P) : YX X mc ms kc ks d μ pc L st σ P := ZX.lload hdg hl k
theorem YX.aload_n {q : Fin 4} {x : Nat} (hdg : decode μ.2.1 pc = .ok (.aload_n q, 1)) (hl : L[(q : Nat)]? = some (some (.ref x))) (k : YX X mc ms kc ks d μ (pc + 1) L (.ref x :: st) σ P) : YX X mc ms kc ks d μ pc L st σ P := ZX.aload_n hdg hl k
theorem YX.aload {i : Nat} {x : Nat} (hdg : decode μ.2.1 pc = .ok (.aload i, 2)) (hl : L[i]? = some (some (.ref x))) (k : YX X mc ms kc ks d μ (pc + 2) L (.ref x :: st) σ P) : YX X mc ms kc ks d μ pc L st σ P := ZX.aload hdg hl k
theorem YX.istore_n {q : Fin 4} {x : Int32} (hdg : decode μ.2.1 pc = .ok (.istore_n q, 1)) (hi : (q : Nat) < μ.2.2.1) (hn : zNl L q = true) (k : YX X mc ms kc ks d μ (pc + 1) (L.set q (some (.int x))) st σ P) : YX X mc ms kc ks d μ pc L (.int x :: st) σ P := ZX.istore_n hdg hi hn k
theorem YX.istore {i : Nat} {x : Int32} (hdg : decode μ.2.1 pc = .ok (.istore i, 2)) (hi : i < μ.2.2.1) (hn : zNl L i = true) (k : YX X mc ms kc ks d μ (pc + 2) (L.set i (some (.int x))) st σ P) : YX X mc ms kc ks d μ pc L (.int x :: st) σ P := ZX.istore hdg hi hn k
theorem YX.astore_n {q : Fin 4} {x : Nat} (hdg : decode μ.2.1 pc = .ok (.astore_n q, 1)) (hi : (q : Nat) < μ.2.2.1) (hn : zNl L q = true) (k : YX X mc ms kc ks d μ (pc + 1) (L.set q (some (.ref x))) st σ P) : YX X mc ms kc ks d μ pc L (.ref x :: st) σ P := ZX.astore_n hdg hi hn k
theorem YX.astore {i : Nat} {x : Nat} (hdg : decode μ.2.1 pc = .ok (.astore i, 2)) (hi : i < μ.2.2.1) (hn : zNl L i = true) (k : YX X mc ms kc ks d μ (pc + 2) (L.set i (some (.ref x))) st σ P) : YX X mc ms kc ks d μ pc L (.ref x :: st) σ P := ZX.astore hdg hi hn k
theorem YX.lstore_n {q : Fin 4} {x : Int64} (hdg : decode μ.2.1 pc = .ok (.lstore_n q, 1)) (hi : (q : Nat) + 1 < μ.2.2.1) (hn : zNl L q = true) (k : YX X mc ms kc ks d μ (pc + 1) ((L.set q (some (.long x))).set (q + 1) none) st σ P) : YX X mc ms kc ks d μ pc L (.long x :: st) σ P := ZX.lstore_n hdg hi hn k
theorem YX.lstore {i : Nat} {x : Int64} (hdg : decode μ.2.1 pc = .ok (.lstore i, 2)) (hi : i + 1 < μ.2.2.1) (hn : zNl L i = true) (k : YX X mc ms kc ks d μ (pc + 2) ((L.set i (some (.long x))).set (i + 1) none) st σ P) : YX X mc ms kc ks d μ pc L (.long x :: st) σ P := ZX.lstore hdg hi hn k
theorem YX.iinc {i : Nat} {n a : Int} (hdg : decode μ.2.1 pc = .ok (.iinc i n, 3)) (hl : L[i]? = some (some (.int (zi a)))) (hi : i < μ.2.2.1) (hn : zNl L i = true) (k : YX X mc ms kc ks d μ (pc + 3) (L.set i (some (.int (zi (a + n))))) st σ P) : YX X mc ms kc ks d μ pc L st σ P := ZX.iinc hdg hl hi hn (by rw [show Int32.ofInt n = zi n from rfl, zi_add]; exact k)
theorem YX.getf {ci k o : Nat} {fs : zS → List Value} {v : Value} (hdg : decode μ.2.1 pc = .ok (.getfield idx, 3)) (hf : zFl μ.1.cls idx ci k) (ho : zOB o ci fs) (hv : (fs σ)[k]? = some v) (k9 : YX X mc ms kc ks d μ (pc + 3) L (v :: st) σ P) : YX X mc ms kc ks d μ pc L (.ref o :: st) σ P := ZX.getf hdg hf (ho σ) hv k9
theorem YX.putf {ci k o : Nat} {fs : zS → List Value} {v : Int} {ty : FieldType} (ki : Int) (hdg : decode μ.2.1 pc = .ok (.putfield idx, 3)) (hf : zFp μ.1.cls idx ci k ty false) (ho : zOB o ci fs) (hs : zOS o ci k fs) (hl : k < (fs σ).length) (hty : ty = .int ∨ (ty = .boolean ∧ (v = 0 ∨ v = 1))) (hki : (k : Int) = ki) (k9 : YX X mc ms kc ks d μ (pc + 3) L st (zu σ o ki v) P) : YX X mc ms kc ks d μ pc L (.int (zi v) :: .ref o :: st) σ P :=
  ZX.putf hdg hf (ho σ) hl (fun ρ => by
    rcases hty with rfl | ⟨rfl, rfl | rfl⟩ <;> exact ⟨rfl, rfl⟩) (by rw [hs, hki]; exact k9)
theorem YX.putl {ci k o : Nat} {fs : zS → List Value} {v : Int} (ki : Int) (hdg : decode μ.2.1 pc = .ok (.putfield idx, 3)) (hf : zFp μ.1.cls idx ci k .long false) (ho : zOB o ci fs) (hs : zOL o ci k fs) (hl : k < (fs σ).length) (hki : (k : Int) = ki) (k9 : YX X mc ms kc ks d μ (pc + 3) L st (zul σ o ki v) P) : YX X mc ms kc ks d μ pc L (.long (zl v) :: .ref o :: st) σ P :=
  ZX.putf hdg hf (ho σ) hl (fun ρ => ⟨rfl, rfl⟩) (by rw [hs, hki]; exact k9)
theorem YX.iald {a n : Nat} {i : Int} (hdg : decode μ.2.1 pc = .ok (.iaload, 1)) (hc : zIA a n) (h0 : 0 ≤ i) (h1 : i < n) (k9 : YX X mc ms kc ks d μ (pc + 1) L (.int (zi (σ.1 a i)) :: st) σ P) : YX X mc ms kc ks d μ pc L (.int (zi i) :: .ref a :: st) σ P :=
  ZX.iald hdg (hc.2.1 σ) (zi_in h0 h1 hc.1) (by
    have hn := hc.1
    rw [zi_cl ⟨by omega, by omega⟩, zInt h0]
    exact k9)
theorem YX.lald {a n : Nat} {i : Int} (hdg : decode μ.2.1 pc = .ok (.laload, 1)) (hc : zLA a n) (h0 : 0 ≤ i) (h1 : i < n) (k9 : YX X mc ms kc ks d μ (pc + 1) L (.long (zl (σ.2 a i)) :: st) σ P) : YX X mc ms kc ks d μ pc L (.int (zi i) :: .ref a :: st) σ P :=
  ZX.lald hdg (hc.2.1 σ) (zi_in h0 h1 hc.1) (by
    have hn := hc.1
    rw [zi_cl ⟨by omega, by omega⟩, zInt h0]
    exact k9)
theorem YX.iast {a n : Nat} {i v : Int} (hdg : decode μ.2.1 pc = .ok (.iastore, 1)) (hc : zIA a n) (h0 : 0 ≤ i) (h1 : i < n) (k9 : YX X mc ms kc ks d μ (pc + 1) L st (zu σ a i v) P) : YX X mc ms kc ks d μ pc L (.int (zi v) :: .int (zi i) :: .ref a :: st) σ P :=
  ZX.iast hdg (hc.2.1 σ) (zi_in h0 h1 hc.1) (by
    have hn := hc.1
    rw [zupd h0 (by omega), hc.2.2]
    exact k9)
theorem YX.last {a n : Nat} {i v : Int} (hdg : decode μ.2.1 pc = .ok (.lastore, 1)) (hc : zLA a n) (h0 : 0 ≤ i) (h1 : i < n) (k9 : YX X mc ms kc ks d μ (pc + 1) L st (zul σ a i v) P) : YX X mc ms kc ks d μ pc L (.long (zl v) :: .int (zi i) :: .ref a :: st) σ P :=
  ZX.last hdg (hc.2.1 σ) (zi_in h0 h1 hc.1) (by
    have hn := hc.1
    rw [zupdL h0 (by omega), hc.2.2]
    exact k9)
theorem YX.aald {a n : Nat} {ty : FieldType} {q : List (Option Nat)} {i : Int} {r : Nat} (hdg : decode μ.2.1 pc = .ok (.aaload, 1)) (hc : zRA a n ty q) (ht : ty = .array .int ∨ ty = .object "OffsetChains$Sheet") (h0 : 0 ≤ i) (h1 : i < n) (hq : q[i.toNat]? = some (some r)) (k9 : YX X mc ms kc ks d μ (pc + 1) L (.ref r :: st) σ P) : YX X mc ms kc ks d μ pc L (.int (zi i) :: .ref a :: st) σ P :=
  ZX.aald (t0 := if ty = .array .int then 2 else 3) hdg (by
    rcases ht with rfl | rfl
    · exact Or.inl ⟨rfl, rfl⟩
    · exact Or.inr ⟨rfl, rfl⟩) (hc.2 σ) (zi_in h0 h1 hc.1) (by
    have hn := hc.1
    rw [zi_cl ⟨by omega, by omega⟩]
    exact hq) k9
theorem YX.aleni {a n : Nat} (hdg : decode μ.2.1 pc = .ok (.arraylength, 1)) (hc : zIA a n) (k9 : YX X mc ms kc ks d μ (pc + 1) L (.int (zi n) :: st) σ P) : YX X mc ms kc ks d μ pc L (.ref a :: st) σ P := ZX.alen (t0 := 0) hdg (Or.inl ⟨rfl, rfl⟩) (hc.2.1 σ) rfl k9
theorem YX.alenl {a n : Nat} (hdg : decode μ.2.1 pc = .ok (.arraylength, 1)) (hc : zLA a n) (k9 : YX X mc ms kc ks d μ (pc + 1) L (.int (zi n) :: st) σ P) : YX X mc ms kc ks d μ pc L (.ref a :: st) σ P := ZX.alen (t0 := 1) hdg (Or.inr ⟨rfl, rfl⟩) (hc.2.1 σ) rfl k9
theorem YX.ifz_eq {p : Prop} {off : Int} (tgt : Nat) (hdg : decode μ.2.1 pc = .ok (.ifCond .eq off, 3)) (ht : (pc : Int) + off = (tgt : Int)) (k1 : ¬ p → YX X mc ms kc ks d μ tgt L st σ P) (k2 : p → YX X mc ms kc ks d μ (pc + 3) L st σ P) : YX X mc ms kc ks d μ pc L (.int (zi (zb p)) :: st) σ P :=
  YX.if_eq tgt hdg ht zb_B (fun h => k1 (zb_0.mp h)) (fun h => k2 (Classical.byContradiction fun q => h (zb_0.mpr q)))
theorem YX.ifz_ne {p : Prop} {off : Int} (tgt : Nat) (hdg : decode μ.2.1 pc = .ok (.ifCond .ne off, 3)) (ht : (pc : Int) + off = (tgt : Int)) (k1 : p → YX X mc ms kc ks d μ tgt L st σ P) (k2 : ¬ p → YX X mc ms kc ks d μ (pc + 3) L st σ P) : YX X mc ms kc ks d μ pc L (.int (zi (zb p)) :: st) σ P :=
  YX.if_ne tgt hdg ht zb_B (fun h => k1 (Classical.byContradiction fun q => h (zb_0.mpr q))) (fun h => k2 (zb_0.mp h))
theorem YX.idivp {a b : Int} (hdg : decode μ.2.1 pc = .ok (.idiv, 1)) (ha : zB a) (hb : zB b) (h0 : 0 ≤ a) (h1 : 0 < b) (k : YX X mc ms kc ks d μ (pc + 1) L (.int (zi (a / b)) :: st) σ P) : YX X mc ms kc ks d μ pc L (.int (zi b) :: .int (zi a) :: st) σ P :=
  YX.idiv hdg ha hb (by omega) (by rw [Int.tdiv_eq_ediv_of_nonneg h0]; exact k)
theorem YX.iremp {a b : Int} (hdg : decode μ.2.1 pc = .ok (.irem, 1)) (ha : zB a) (hb : zB b) (h0 : 0 ≤ a) (h1 : 0 < b) (k : YX X mc ms kc ks d μ (pc + 1) L (.int (zi (a % b)) :: st) σ P) : YX X mc ms kc ks d μ pc L (.int (zi b) :: .int (zi a) :: st) σ P :=
  YX.irem hdg ha hb (by omega) (by rw [Int.tmod_eq_emod_of_nonneg h0]; exact k)
theorem YX.ldivp {a b : Int} (hdg : decode μ.2.1 pc = .ok (.ldiv, 1)) (ha : zB64 a) (hb : zB64 b) (h0 : 0 ≤ a) (h1 : 0 < b) (k : YX X mc ms kc ks d μ (pc + 1) L (.long (zl (a / b)) :: st) σ P) : YX X mc ms kc ks d μ pc L (.long (zl b) :: .long (zl a) :: st) σ P :=
  YX.ldiv hdg ha hb (by omega) (by rw [Int.tdiv_eq_ediv_of_nonneg h0]; exact k)
theorem YX.lremp {a b : Int} (hdg : decode μ.2.1 pc = .ok (.lrem, 1)) (ha : zB64 a) (hb : zB64 b) (h0 : 0 ≤ a) (h1 : 0 < b) (k : YX X mc ms kc ks d μ (pc + 1) L (.long (zl (a % b)) :: st) σ P) : YX X mc ms kc ks d μ pc L (.long (zl b) :: .long (zl a) :: st) σ P :=
  YX.lrem hdg ha hb (by omega) (by rw [Int.tmod_eq_emod_of_nonneg h0]; exact k)
end ZYX
section ZRL
variable {X : State → (Nat → Nat) → (Nat → Prop) → Nat → Prop} {mc ms d : Nat} {μ : zU} {pc : Nat} {L L2 : List (Option Value)} {st st2 : List Value} {h h2 : zH} {kc ks : Nat} {Post : Option Value → zH → Prop}
/-! the world laid anew: other places, and fewer -/
def zRv (f : Nat → Nat) : Value → Value
  | .ref k => .ref (f k)
  | v => v
def zRn (f : Nat → Nat) : zE → zE
  | .inl q => .inl (q.1, q.2.1, match q.2.2 with
    | .inl g => .inl g
    | .inr (.inl g) => .inr (.inl g)
    | .inr (.inr l) => .inr (.inr (l.map (fun o => o.map f))))
  | .inr q => .inr (q.1, q.2.map (zRv f))
theorem zRv_V (ρ f : Nat → Nat) (v : Value) : zV (fun k => ρ (f k)) v = zV ρ (zRv f v) := by cases v <;> rfl
theorem zRn_M (cI : FieldType → ClassId) (ρ f : Nat → Nat) (e : zE) : zM cI (fun k => ρ (f k)) e = zM cI ρ (zRn f e) := by
  rcases e with ⟨ty, N, g | g | l⟩ | ⟨ci, fs⟩
  · rfl
  · rfl
  · show Sum.inl (cI ty, N, Sum.inr (Sum.inr (Sum.inr (Sum.inr (fun j => (l.getD j none).map (fun k => ρ (f k))))))) = Sum.inl (cI ty, N, Sum.inr (Sum.inr (Sum.inr (Sum.inr (fun j => ((l.map (fun o => o.map f)).getD j none).map ρ)))))
    have e : (fun j => (l.getD j none).map (fun k => ρ (f k))) = (fun j => ((l.map (fun o => o.map f)).getD j none).map ρ) := by
      funext j
      rw [List.getD_eq_getElem?_getD, List.getD_eq_getElem?_getD, List.getElem?_map]
      cases l[j]? with
      | none => rfl
      | some o => cases o <;> rfl
    rw [e]
  · show Sum.inr (ci, fs.map (zV (fun k => ρ (f k)))) = Sum.inr (ci, (fs.map (zRv f)).map (zV ρ))
    rw [List.map_map]
    congr 2
    exact List.map_congr_left (fun v _ => zRv_V ρ f v)
theorem ZX.relay (f : Nat → Nat) (f9 : ∀ k, 9000 ≤ k → f k = k) (hn : ∀ (s : State) (ρ : Nat → Nat) (A : Nat → Prop) (n : Nat), X s ρ A n → n = 0) (hmc : mc ≠ 0) (hcell : ∀ (k : Nat) (e : zE), h2[k]? = some e → h[f k]? = some (zRn f e)) (hinj : ∀ i j : Nat, i < h2.length → j < h2.length → f i = f j → i = j)
    (hL : ∀ (i : Nat) (v : Value), L2[i]? = some (some v) → L[i]? = some (some (zRv f v))) (hst : st = st2.map (zRv f)) (k9 : ZX X mc ms d μ pc L2 st2 h2 kc ks Post) : ZX X mc ms d μ pc L st h kc ks Post := by
  intro p l e s m args below meth c D cI A ρ0 n0 hC hn0 hX ρ H locs ls hR hS
  obtain ⟨hP, hD, hSS, hLL, hT⟩ := id hS
  have h0 := hn _ _ _ _ hX
  subst h0
  have key : ∀ (k : Nat) (q : Nat × va_E), (zw cI (fun k => ρ (f k)) h2)[k]? = some q → k < h2.length ∧ (zw cI ρ h)[f k]? = some q := by
    intro k q hq
    obtain ⟨e, e1, e2⟩ := zw_of hq
    refine ⟨(List.getElem?_eq_some_iff.mp e1).1, ?_⟩
    rw [e2, zRn_M]
    exact zw_at (hcell k e e1)
  have w := k9 p l e s m args below meth c D cI A ρ0 0 hC (Nat.zero_le _) hX (fun k => ρ (f k)) H locs ls ⟨fun q => absurd q hmc, fun k hk => by
    show ρ (f k) = ρ0 k
    rw [f9 k (by omega)]
    exact hR.2 k hk⟩ ⟨fun k q hq => hP (f k) q (key k q hq).2, ⟨fun i j a b ha hb hab => hinj i j (key i a ha).1 (key j b hb).1 (hD.1 (f i) (f j) a b (key i a ha).2 (key j b hb).2 hab), fun k q hq => hD.2 (f k) q (key k q hq).2⟩, hSS, ⟨hLL.1, hLL.2.1, fun i v hv => by
      rw [zRv_V]
      exact hLL.2.2 i _ (hL i v hv)⟩, hT.rel9 (fun k hk => by rw [f9 k hk])⟩
  rw [hst, List.map_map]
  rw [show (zV ρ ∘ zRv f) = zV (fun k => ρ (f k)) from funext (fun v => (zRv_V ρ f v).symm)]
  exact w
end ZRL
section ZSC
variable {mc ms d : Nat} {μ : zU} {pc : Nat} {L : List (Option Value)} {st : List Value} {h : zH} {kc ks : Nat} {Post : Option Value → zH → Prop} {σ : zS}
/-- the script, as the tables' word has it -/
def XS (Ln : Nat) (xs : Nat → Int32) : State → (Nat → Nat) → (Nat → Prop) → Nat → Prop := fun s ρ A _ => va_X (ρ 9004) Ln xs s s.heap ∧ ρ 9004 < s.heap.size ∧ ¬ A (ρ 9004)
theorem Z.script (k : ∀ (Ln : Nat) (xs : Nat → Int32), Ln ≤ 3072 → ZX (XS Ln xs) mc ms d μ pc L st h kc ks Post) : Z mc ms d μ pc L st h kc ks Post := by
  intro p l e s m args below meth c D cI A ρ0 n0 hC hn ρ H locs ls hR hS
  obtain ⟨_, Ln, xs, x0, x1, x2, x3⟩ := hS.2.2.2.2
  have e9 : ρ 9004 = ρ0 9004 := hR.2 9004 (Or.inr (by omega))
  rw [e9] at x1 x2 x3
  exact k Ln xs x0 p l e s m args below meth c D cI A ρ0 n0 hC hn ⟨x1, x2, x3⟩ ρ H locs ls hR hS
variable {Ln : Nat} {xs : Nat → Int32}
theorem ZX.sld {i : Int32} (hdg : decode μ.2.1 pc = .ok (.iaload, 1)) (hin : vp_in i Ln) (k9 : ZX (XS Ln xs) mc ms d μ (pc + 1) L (.int (xs i.toNatClampNeg) :: st) h kc ks Post) : ZX (XS Ln xs) mc ms d μ pc L (.int i :: .ref 9004 :: st) h kc ks Post := by
  intro p l e s m args below meth c D cI A ρ0 n0 hC hn hX ρ H locs ls hR hS
  obtain ⟨hx, hb, hml, hr0, hlk, hnm, hown, hts, hNw, hK, hA⟩ := id hC
  obtain ⟨hP, hD, hSS, hLL, hT⟩ := id hS
  have w := k9 p l e s m args below meth c D cI A ρ0 n0 hC hn hX ρ H locs ls hR hS
  obtain ⟨x1, x2, x3⟩ := hX
  have e9 : ρ 9004 = ρ0 9004 := hR.2 9004 (Or.inr (by omega))
  show W p l e (zR mc ms d) s m args below meth c H locs kc ks _ (F0 m pc ls (.int i :: .ref (ρ 9004) :: st.map (zV ρ)))
  rw [e9]
  exact va_sld hx hb x1 x2 x3 hSS hin hdg w
theorem ZX.slen (hdg : decode μ.2.1 pc = .ok (.arraylength, 1)) (k9 : ZX (XS Ln xs) mc ms d μ (pc + 1) L (.int (zi (Ln : Int)) :: st) h kc ks Post) : ZX (XS Ln xs) mc ms d μ pc L (.ref 9004 :: st) h kc ks Post := by
  intro p l e s m args below meth c D cI A ρ0 n0 hC hn hX ρ H locs ls hR hS
  obtain ⟨hx, hb, hml, hr0, hlk, hnm, hown, hts, hNw, hK, hA⟩ := id hC
  obtain ⟨hP, hD, hSS, hLL, hT⟩ := id hS
  have w := k9 p l e s m args below meth c D cI A ρ0 n0 hC hn hX ρ H locs ls hR hS
  obtain ⟨x1, x2, x3⟩ := hX
  have e9 : ρ 9004 = ρ0 9004 := hR.2 9004 (Or.inr (by omega))
  show W p l e (zR mc ms d) s m args below meth c H locs kc ks _ (F0 m pc ls (.ref (ρ 9004) :: st.map (zV ρ)))
  rw [e9]
  exact va_slen hx hb x1 x2 x3 hSS hdg w
theorem ZX.iretA {v : Int32} (hdg : decode μ.2.1 pc = .ok (.ireturn, 1)) (hr : μ.2.2.2 = some .int) (hk : kc ≤ mc ∧ ks ≤ ms) (hp : Post (some (.int v)) h) {X : State → (Nat → Nat) → (Nat → Prop) → Nat → Prop} : ZX X mc ms d μ pc L [.int v] h kc ks Post := ZX.iret hdg ⟨.int, hr, rfl⟩ hk hp
/-! cell, up: some int; an int of a range -/
theorem c_L_cell {k : Int} (k0 : 0 ≤ k) (kB : zB k) : YC 0 μL_cell [.ref 9004, .int (zi k)] σ (fun r s => (∃ v : Int, zB v ∧ r = some (.int (zi v))) ∧ s = σ) := by
  refine YC.of2 (by decide) (Nat.le_of_ble_eq_true rfl) (fun d P hd hP => ?_)
  have fin : ∀ x : Int32, P (some (.int x)) σ := fun x => by
    obtain ⟨v, b, e⟩ := zi_of x
    exact hP _ _ ⟨⟨v, b, by rw [e]⟩, rfl⟩
  refine Z.script (fun Ln xs hLn => ?_)
  refine ZX.iload_n dL_cell_0 rfl ?_
  refine ZX.aload_n dL_cell_1 rfl ?_
  refine ZX.slen dL_cell_2 ?_
  refine ZX.icmp_ge 12 dL_cell_3 (by decide) (fun _ => ?_) (fun q => ?_)
  · refine ZX.ldc (zi 763049417) dL_cell_12 kL_7 ?_
    refine ZX.iload_n dL_cell_14 rfl ?_
    refine ZX.iconst 3 dL_cell_15 rfl ?_
    refine ZX.iadd dL_cell_16 ?_
    refine ZX.imul dL_cell_17 ?_
    exact ZX.iretA dL_cell_18 rfl ⟨Nat.le_refl _, Nat.le_refl _⟩ ⟨σ, rfl, fin _⟩
  · have hlt : k < (Ln : Int) := by
      rw [zi_le (by omega) kB] at q
      omega
    refine ZX.aload_n dL_cell_6 rfl ?_
    refine ZX.iload_n dL_cell_7 rfl ?_
    refine ZX.sld dL_cell_8 (zi_in k0 hlt (by omega)) ?_
    refine ZX.goto 18 dL_cell_9 (by decide) ?_
    exact ZX.iretA dL_cell_18 rfl ⟨Nat.le_refl _, Nat.le_refl _⟩ ⟨σ, rfl, fin _⟩
theorem and_nn (x : Int32) : ∃ v : Int, 0 ≤ v ∧ v < 2147483648 ∧ x &&& zi 2147483647 = zi v := by
  obtain ⟨j, j1, j2⟩ := pk_andE x (m := zi 2147483647) 31 (by decide +kernel)
  refine ⟨(j : Int), by omega, by omega, j2.trans ?_⟩
  rw [← Int32.toInt_inj, nI_toInt j1, zi_toInt ⟨by omega, by omega⟩]
theorem and_1 (x : Int32) : ∃ v : Int, 0 ≤ v ∧ v ≤ 1 ∧ x &&& zi 1 = zi v := by
  obtain ⟨j, j1, j2⟩ := pk_andE x (m := zi 1) 1 (by decide +kernel)
  refine ⟨(j : Int), by omega, by omega, j2.trans ?_⟩
  rw [← Int32.toInt_inj, nI_toInt (by omega), zi_toInt ⟨by omega, by omega⟩]
theorem c_L_up {x n : Int} (hn : 1 ≤ n) (n9 : n ≤ 1000) : YC 0 μL_up [.int (zi x), .int (zi n)] σ (fun r s => (∃ v : Int, (0 ≤ v ∧ v < n) ∧ r = some (.int (zi v))) ∧ s = σ) := by
  refine YC.of2 (by decide) (Nat.le_of_ble_eq_true rfl) (fun d P hd hP => ?_)
  refine Y.iload_n dL_up_0 rfl ?_
  refine Z.ldc (zi 2147483647) dL_up_1 kL_8 ?_
  refine Y.iand_ dL_up_3 ?_
  obtain ⟨v, v0, v1, e⟩ := and_nn (zi x)
  rw [e]
  refine Y.iload_n dL_up_4 rfl ?_
  refine Y.iremp dL_up_5 (by omega) (by omega) (by omega) (by omega) ?_
  have m0 := Int.emod_nonneg v (show n ≠ 0 by omega)
  have m1 := Int.emod_lt_of_pos v (show 0 < n by omega)
  exact Y.iret dL_up_6 rfl (hP _ _ ⟨⟨_, ⟨m0, m1⟩, rfl⟩, rfl⟩)
theorem Y.ishrU {μ : zU} {P : Option Value → zS → Prop} {x y : Int32} (hdg : decode μ.2.1 pc = .ok (.ishr, 1)) (k : ∀ v : Int, zB v → Y d μ (pc + 1) L (.int (zi v) :: st) σ P) : Y d μ pc L (.int y :: .int x :: st) σ P := by
  obtain ⟨v, b, e⟩ := zi_of (x >>> (y &&& 31))
  exact Y.ishr_ hdg (by rw [e]; exact k v b)
theorem Y.iandU {μ : zU} {P : Option Value → zS → Prop} {x y : Int32} (hdg : decode μ.2.1 pc = .ok (.iand, 1)) (k : ∀ v : Int, zB v → Y d μ (pc + 1) L (.int (zi v) :: st) σ P) : Y d μ pc L (.int y :: .int x :: st) σ P := by
  obtain ⟨v, b, e⟩ := zi_of (x &&& y)
  exact Y.iand_ hdg (by rw [e]; exact k v b)
theorem Y.iand1 {μ : zU} {P : Option Value → zS → Prop} {x : Int32} (hdg : decode μ.2.1 pc = .ok (.iand, 1)) (k : ∀ v : Int, 0 ≤ v → v ≤ 1 → Y d μ (pc + 1) L (.int (zi v) :: st) σ P) : Y d μ pc L (.int (zi 1) :: .int x :: st) σ P := by
  obtain ⟨v, b, c, e⟩ := and_1 x
  exact Y.iand_ hdg (by rw [e]; exact k v b c)
theorem YX.ishrU {X : State → (Nat → Nat) → (Nat → Prop) → Nat → Prop} {P : Option Value → zH → Prop} {x y : Int32} (hdg : decode μ.2.1 pc = .ok (.ishr, 1)) (k : ∀ v : Int, zB v → YX X mc ms kc ks d μ (pc + 1) L (.int (zi v) :: st) σ P) : YX X mc ms kc ks d μ pc L (.int y :: .int x :: st) σ P := by
  obtain ⟨v, b, e⟩ := zi_of (x >>> (y &&& 31))
  exact ZX.ishr hdg (by rw [e]; exact k v b)
theorem YX.ishr_ {X : State → (Nat → Nat) → (Nat → Prop) → Nat → Prop} {P : Option Value → zH → Prop} {x y : Int32} (hdg : decode μ.2.1 pc = .ok (.ishr, 1)) (k : YX X mc ms kc ks d μ (pc + 1) L (.int (x >>> (y &&& 31)) :: st) σ P) : YX X mc ms kc ks d μ pc L (.int y :: .int x :: st) σ P := ZX.ishr hdg k
theorem YX.iand_ {X : State → (Nat → Nat) → (Nat → Prop) → Nat → Prop} {P : Option Value → zH → Prop} {x y : Int32} (hdg : decode μ.2.1 pc = .ok (.iand, 1)) (k : YX X mc ms kc ks d μ (pc + 1) L (.int (x &&& y) :: st) σ P) : YX X mc ms kc ks d μ pc L (.int y :: .int x :: st) σ P := ZX.iand hdg k
/-! a step more -/
theorem WJ.zt (h : WJ (cP σ)) {k : Nat} (hk : k < 5) {i v : Int} (hv : trt k v) : WJ (cP (zu σ (cC k) i v)) := (h.trait (i := i) hk hv).ex (cP_pu (by omega))
theorem WJ.zm (h : WJ (cP σ)) {k : Nat} (hk : k < 4) {x v : Int} (hv : mrk k v) : WJ (cP (zu σ (cC (6 + k)) x v)) := (h.mark (x := x) hk hv).ex (cP_pu (by omega))
theorem WJ.zn (h : WJ (cP σ)) {i v : Int} (h0 : 0 ≤ v) (h3 : v ≤ 3) (hc : ∀ j : Int, 0 ≤ j → j < v → 0 ≤ i → i < 3 → 1 ≤ σ.1 10 (i * 3 + j)) : WJ (cP (zu σ 13 i v)) := (h.many (i := i) h0 h3 hc).ex (cP_pu (k := 5) (by omega))
theorem apC_w (h : WJ (cP σ)) {i a b c e : Int} (i0 : 0 ≤ i) (i3 : i < 3) (hm : σ.1 13 i < 3) (ha : mrk 0 a) (hb : mrk 1 b) (hc : mrk 2 c) (he : mrk 3 e) : WJ (cP (apC σ i a b c e)) := by
  have hmm := (h.1.1 i i0 i3).2.2.2.2.2
  have hmm : 0 ≤ σ.1 13 i ∧ σ.1 13 i ≤ 3 := hmm
  have h1 := h.zm (k := 0) (x := i * 3 + σ.1 13 i) (by omega) ha
  have h2 := h1.zm (k := 1) (x := i * 3 + σ.1 13 i) (by omega) hb
  have h3 := h2.zm (k := 2) (x := i * 3 + σ.1 13 i) (by omega) hc
  have h4 := h3.zm (k := 3) (x := i * 3 + σ.1 13 i) (by omega) he
  unfold apC
  refine h4.zn (by omega) (by omega) (fun j j0 j1 _ _ => ?_)
  show 1 ≤ (zu (zu (zu (zu σ 9 _ a) 10 _ b) 11 _ c) 12 _ e).1 10 _
  rw [zu_nc (by omega), zu_nc (by omega)]
  obtain ⟨-, -, ⟨-, b1, -, -⟩, -⟩ := tT
  have hb1 := hb.2.2.1
  rw [b1] at hb1
  by_cases q : j = σ.1 13 i
  · rw [q, zu_eq]; exact hb1
  · rw [zu_ne (by omega), zu_nc (by omega)]
    refine h.1.2.2 (i * 3 + j) (by omega) (by omega) ?_
    show (i * 3 + j) % 3 < σ.1 13 ((i * 3 + j) / 3)
    rw [show (i * 3 + j) / 3 = i by omega]
    omega
theorem apC_o {i a b c e : Int} {k : Nat} (hk : (k < 9 ∨ 13 < k)) : (apC σ i a b c e).1 k = σ.1 k := by
  unfold apC
  rw [zu_nc (by omega), zu_nc (by omega), zu_nc (by omega), zu_nc (by omega), zu_nc (by omega)]
theorem apC_m {i a b c e : Int} : (apC σ i a b c e).1 13 i = σ.1 13 i + 1 := by
  unfold apC
  rw [zu_eq]
end ZSC
