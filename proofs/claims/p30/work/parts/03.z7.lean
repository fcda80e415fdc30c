section YR
/-- from pc on, in the world σ, with no cell made -/
def Y (d : Nat) (μ : zU) (pc : Nat) (L : List (Option Value)) (st : List Value) (σ : zS) (P : Option Value → zS → Prop) : Prop := Z 0 0 d μ pc L st (zHp σ) 0 0 (fun r h => ∃ σ', h = zHp σ' ∧ P r σ')
def YC (hd : Nat) (μ : zU) (avs : List Value) (σ : zS) (P : Option Value → zS → Prop) : Prop := zC 0 0 hd μ avs (zHp σ) (fun r h => ∃ σ', h = zHp σ' ∧ P r σ')
variable {hd hd' d : Nat} {μ ν : zU} {pc : Nat} {L : List (Option Value)} {st : List Value} {σ : zS} {P P' : Option Value → zS → Prop} {avs : List Value} {idx : Nat}
theorem YC.of (hpl : plainName μ.1.cls = true) (hsl : (lg_sl avs).length ≤ μ.2.2.1) (k : ∀ d : Nat, hd ≤ d → Y d μ 0 (zEnt avs μ.2.2.1) [] σ P) : YC hd μ avs σ P := zC.of hpl hsl k
theorem YC.up (h : YC hd μ avs σ P) (h1 : hd ≤ hd') : YC hd' μ avs σ P := fun d h2 => h d (Nat.le_trans h1 h2)
theorem Y.mono (hP : ∀ r σ', P' r σ' → P r σ') (k : Y d μ pc L st σ P') : Y d μ pc L st σ P := Z.mono (fun r h' ⟨σ', h1, h2⟩ => ⟨σ', h1, hP r σ' h2⟩) k
theorem YC.mono (hpl : plainName μ.1.cls = true) (hP : ∀ r σ', P' r σ' → P r σ') (k : YC hd μ avs σ P') : YC hd μ avs σ P := by
  intro d h2 l D cI ρ0 sz
  intro p e h1 h3 h4 s m args below h5 h6 h7 h8
  obtain ⟨n, o, a1, a2, a3, a4, a5⟩ := k d h2 l D cI ρ0 sz p e h1 h3 h4 s m args below h5 h6 h7 h8
  refine ⟨n, o, a1, a2, a3, ?_, a5⟩
  obtain ⟨⟨r, h', ρ', ⟨σ', b1, b2⟩, b3⟩, b4⟩ := a4
  exact ⟨⟨r, h', ρ', ⟨σ', b1, hP r σ' b2⟩, b3⟩, b4⟩
/-- an answer that is an int, and the world behind it -/
abbrev YI (hd : Nat) (μ : zU) (avs : List Value) (σ : zS) (v : Int) (σ' : zS) : Prop := YC hd μ avs σ (fun r s => r = some (.int (zi v)) ∧ s = σ')
abbrev YV (hd : Nat) (μ : zU) (avs : List Value) (σ σ' : zS) : Prop := YC hd μ avs σ (fun r s => r = none ∧ s = σ')
abbrev YJ (hd : Nat) (μ : zU) (avs : List Value) (σ : zS) (v : Int) (σ' : zS) : Prop := YC hd μ avs σ (fun r s => r = some (.long (zl v)) ∧ s = σ')
theorem Y.loc {L' : List (Option Value)} (k : Y d μ pc L' st σ P) (hL : ∀ (i : Nat) (v : Value), L'[i]? = some (some v) → L[i]? = some (some v)) : Y d μ pc L st σ P := Z.loc hL k
theorem zi0 : (0 : Int32) = zi 0 := rfl
theorem zl0 : (0 : Int64) = zl 0 := rfl
theorem zB0 : zB 0 := ⟨by decide, by decide⟩
theorem zi_n0 {a : Int} (ha : zB a) (h : ¬ a = 0) : ¬ zi a = 0 := by rw [zi0, zi_eq ha zB0]; exact h
theorem zl_n0 {a : Int} (ha : zB64 a) (h : ¬ a = 0) : ¬ zl a = 0 := by rw [zl0, zl_eq ha ⟨by decide, by decide⟩]; exact h
theorem Y.iadd {a b : Int} (hdg : decode μ.2.1 pc = .ok (.iadd, 1)) (k : Y d μ (pc + 1) L (.int (zi (a + b)) :: st) σ P) : Y d μ pc L (.int (zi b) :: .int (zi a) :: st) σ P := Z.iadd hdg (by rw [zi_add]; exact k)
theorem Y.isub {a b : Int} (hdg : decode μ.2.1 pc = .ok (.isub, 1)) (k : Y d μ (pc + 1) L (.int (zi (a - b)) :: st) σ P) : Y d μ pc L (.int (zi b) :: .int (zi a) :: st) σ P := Z.isub hdg (by rw [zi_sub]; exact k)
theorem Y.imul {a b : Int} (hdg : decode μ.2.1 pc = .ok (.imul, 1)) (k : Y d μ (pc + 1) L (.int (zi (a * b)) :: st) σ P) : Y d μ pc L (.int (zi b) :: .int (zi a) :: st) σ P := Z.imul hdg (by rw [zi_mul]; exact k)
theorem Y.ladd {a b : Int} (hdg : decode μ.2.1 pc = .ok (.ladd, 1)) (k : Y d μ (pc + 1) L (.long (zl (a + b)) :: st) σ P) : Y d μ pc L (.long (zl b) :: .long (zl a) :: st) σ P := Z.ladd hdg (by rw [zl_add]; exact k)
theorem Y.lsub {a b : Int} (hdg : decode μ.2.1 pc = .ok (.lsub, 1)) (k : Y d μ (pc + 1) L (.long (zl (a - b)) :: st) σ P) : Y d μ pc L (.long (zl b) :: .long (zl a) :: st) σ P := Z.lsub hdg (by rw [zl_sub]; exact k)
theorem Y.lmul {a b : Int} (hdg : decode μ.2.1 pc = .ok (.lmul, 1)) (k : Y d μ (pc + 1) L (.long (zl (a * b)) :: st) σ P) : Y d μ pc L (.long (zl b) :: .long (zl a) :: st) σ P := Z.lmul hdg (by rw [zl_mul]; exact k)
theorem Y.idiv {a b : Int} (hdg : decode μ.2.1 pc = .ok (.idiv, 1)) (ha : zB a) (hb : zB b) (h0 : ¬ b = 0) (k : Y d μ (pc + 1) L (.int (zi (a.tdiv b)) :: st) σ P) : Y d μ pc L (.int (zi b) :: .int (zi a) :: st) σ P := Z.idiv hdg (zi_n0 hb h0) (by rw [zi_div ha hb]; exact k)
theorem Y.irem {a b : Int} (hdg : decode μ.2.1 pc = .ok (.irem, 1)) (ha : zB a) (hb : zB b) (h0 : ¬ b = 0) (k : Y d μ (pc + 1) L (.int (zi (a.tmod b)) :: st) σ P) : Y d μ pc L (.int (zi b) :: .int (zi a) :: st) σ P := Z.irem hdg (zi_n0 hb h0) (by rw [zi_rem ha hb]; exact k)
theorem Y.ldiv {a b : Int} (hdg : decode μ.2.1 pc = .ok (.ldiv, 1)) (ha : zB64 a) (hb : zB64 b) (h0 : ¬ b = 0) (k : Y d μ (pc + 1) L (.long (zl (a.tdiv b)) :: st) σ P) : Y d μ pc L (.long (zl b) :: .long (zl a) :: st) σ P := Z.ldiv hdg (zl_n0 hb h0) (by rw [zl_div ha hb]; exact k)
theorem Y.lrem {a b : Int} (hdg : decode μ.2.1 pc = .ok (.lrem, 1)) (ha : zB64 a) (hb : zB64 b) (h0 : ¬ b = 0) (k : Y d μ (pc + 1) L (.long (zl (a.tmod b)) :: st) σ P) : Y d μ pc L (.long (zl b) :: .long (zl a) :: st) σ P := Z.lrem hdg (zl_n0 hb h0) (by rw [zl_rem ha hb]; exact k)
theorem Y.lcmp {a b : Int} (hdg : decode μ.2.1 pc = .ok (.lcmp, 1)) (ha : zB64 a) (hb : zB64 b) (k : ∀ c : Int, zB c → (c < 0 ↔ a < b) → (c = 0 ↔ a = b) → Y d μ (pc + 1) L (.int (zi c) :: st) σ P) : Y d μ pc L (.long (zl b) :: .long (zl a) :: st) σ P := by
  refine Z.lcmp hdg ?_
  rw [zl_cmp ha hb]
  refine k _ ?_ ?_ ?_ <;> (split <;> try split) <;> omega
theorem Y.i2l {a : Int} (hdg : decode μ.2.1 pc = .ok (.i2l, 1)) (ha : zB a) (k : Y d μ (pc + 1) L (.long (zl a) :: st) σ P) : Y d μ pc L (.int (zi a) :: st) σ P := Z.i2l hdg (by rw [zi_long ha]; exact k)
theorem Y.l2i {a : Int} (hdg : decode μ.2.1 pc = .ok (.l2i, 1)) (k : Y d μ (pc + 1) L (.int (zi a) :: st) σ P) : Y d μ pc L (.long (zl a) :: st) σ P := Z.l2i hdg (by rw [zl_int]; exact k)
/-- what a short keeps -/
def zsh (a : Int) : Int := ((zi a).toInt16.toInt32).toInt
theorem zsh_eq (a : Int) : (zi a).toInt16.toInt32 = zi (zsh a) := (Int32.ofInt_toInt _).symm
theorem zsh_B (a : Int) : zB (zsh a) := ⟨Int32.le_toInt _, Int32.toInt_lt _⟩
theorem Y.i2s {a : Int} (hdg : decode μ.2.1 pc = .ok (.i2s, 1)) (k : Y d μ (pc + 1) L (.int (zi (zsh a)) :: st) σ P) : Y d μ pc L (.int (zi a) :: st) σ P := Z.i2s hdg (by rw [zsh_eq]; exact k)
theorem Y.iconst {n : Int} (hdg : decode μ.2.1 pc = .ok (.iconst n, 1)) (k : Y d μ (pc + 1) L (.int (zi n) :: st) σ P) : Y d μ pc L st σ P := Z.iconst (zi n) hdg rfl k
theorem Y.bipush {n : Int} (hdg : decode μ.2.1 pc = .ok (.bipush n, 2)) (hv : (Int8.ofInt n).toInt32 = zi n) (k : Y d μ (pc + 2) L (.int (zi n) :: st) σ P) : Y d μ pc L st σ P := Z.bipush (zi n) hdg hv k
theorem Y.sipush {n : Int} (hdg : decode μ.2.1 pc = .ok (.sipush n, 3)) (hv : (Int16.ofInt n).toInt32 = zi n) (k : Y d μ (pc + 3) L (.int (zi n) :: st) σ P) : Y d μ pc L st σ P := Z.sipush (zi n) hdg hv k
theorem Y.lconst {n : Fin 2} (v : Int) (hdg : decode μ.2.1 pc = .ok (.lconst n, 1)) (hv : Int64.ofNat (n : Nat) = zl v) (k : Y d μ (pc + 1) L (.long (zl v) :: st) σ P) : Y d μ pc L st σ P := Z.lconst (zl v) hdg hv k
theorem Y.ldc2 (v : Int) (hdg : decode μ.2.1 pc = .ok (.ldc2_w idx, 3)) (hw : Cond.constantLong μ.1.cls idx (zl v) ∈ zWd) (k : Y d μ (pc + 3) L (.long (zl v) :: st) σ P) : Y d μ pc L st σ P := Z.ldc2 (zl v) hdg hw k
theorem Y.dup {v : Value} (hdg : decode μ.2.1 pc = .ok (.dup, 1)) (hv : v.category = 1) (k : Y d μ (pc + 1) L (v :: v :: st) σ P) : Y d μ pc L (v :: st) σ P := Z.dup hdg hv k
theorem Y.dup2 {v u : Value} (hdg : decode μ.2.1 pc = .ok (.dup2, 1)) (hv : v.category = 1) (hu : u.category = 1) (k : Y d μ (pc + 1) L (v :: u :: v :: u :: st) σ P) : Y d μ pc L (v :: u :: st) σ P := Z.dup2 hdg hv hu k
theorem Y.pop {v : Value} (hdg : decode μ.2.1 pc = .ok (.pop, 1)) (hv : v.category = 1) (k : Y d μ (pc + 1) L st σ P) : Y d μ pc L (v :: st) σ P := Z.pop hdg hv k
theorem Y.goto {off : Int} (tgt : Nat) (hdg : decode μ.2.1 pc = .ok (.goto off, 3)) (ht : (pc : Int) + off = (tgt : Int)) (k : Y d μ tgt L st σ P) : Y d μ pc L st σ P := Z.goto tgt hdg ht k
theorem Y.tin {dflt lo hi : Int} {offs : Array Int} {len : Nat} {a off : Int} (tgt : Nat) (hdg : decode μ.2.1 pc = .ok (.tableswitch dflt lo hi offs, len)) (ha : zB a) (h1 : lo ≤ a) (h2 : a ≤ hi) (ho : offs[(a - lo).toNat]? = some off) (ht : (pc : Int) + off = (tgt : Int)) (k : Y d μ tgt L st σ P) : Y d μ pc L (.int (zi a) :: st) σ P := Z.tin tgt hdg (by rw [zi_toInt ha]; omega) (by rw [zi_toInt ha]; omega) (by rw [zi_toInt ha]; exact ho) ht k
theorem Y.tout {dflt lo hi : Int} {offs : Array Int} {len : Nat} {a : Int} (tgt : Nat) (hdg : decode μ.2.1 pc = .ok (.tableswitch dflt lo hi offs, len)) (ha : zB a) (h1 : a < lo ∨ hi < a) (ht : (pc : Int) + dflt = (tgt : Int)) (k : Y d μ tgt L st σ P) : Y d μ pc L (.int (zi a) :: st) σ P := Z.tout tgt hdg (by rw [zi_toInt ha]; exact h1) ht k
theorem Y.if_eq {a off : Int} (tgt : Nat) (hdg : decode μ.2.1 pc = .ok (.ifCond .eq off, 3)) (ht : (pc : Int) + off = (tgt : Int)) (ha : zB a) (k1 : a = 0 → Y d μ tgt L st σ P) (k2 : ¬ (a = 0) → Y d μ (pc + 3) L st σ P) : Y d μ pc L (.int (zi a) :: st) σ P := Z.if_eq tgt hdg ht (fun q => k1 ((zi_eq ha zB0).mp q)) (fun q => k2 (fun q2 => q ((zi_eq ha zB0).mpr q2)))
theorem Y.icmp_eq {a b off : Int} (tgt : Nat) (hdg : decode μ.2.1 pc = .ok (.if_icmp .eq off, 3)) (ht : (pc : Int) + off = (tgt : Int)) (ha : zB a) (hb : zB b) (k1 : a = b → Y d μ tgt L st σ P) (k2 : ¬ (a = b) → Y d μ (pc + 3) L st σ P) : Y d μ pc L (.int (zi b) :: .int (zi a) :: st) σ P := Z.icmp_eq tgt hdg ht (fun q => k1 ((zi_eq ha hb).mp q)) (fun q => k2 (fun q2 => q ((zi_eq ha hb).mpr q2)))
theorem Y.if_lt {a off : Int} (tgt : Nat) (hdg : decode μ.2.1 pc = .ok (.ifCond .lt off, 3)) (ht : (pc : Int) + off = (tgt : Int)) (ha : zB a) (k1 : a < 0 → Y d μ tgt L st σ P) (k2 : ¬ (a < 0) → Y d μ (pc + 3) L st σ P) : Y d μ pc L (.int (zi a) :: st) σ P := Z.if_lt tgt hdg ht (fun q => k1 ((zi_lt ha zB0).mp q)) (fun q => k2 (fun q2 => q ((zi_lt ha zB0).mpr q2)))
theorem Y.icmp_lt {a b off : Int} (tgt : Nat) (hdg : decode μ.2.1 pc = .ok (.if_icmp .lt off, 3)) (ht : (pc : Int) + off = (tgt : Int)) (ha : zB a) (hb : zB b) (k1 : a < b → Y d μ tgt L st σ P) (k2 : ¬ (a < b) → Y d μ (pc + 3) L st σ P) : Y d μ pc L (.int (zi b) :: .int (zi a) :: st) σ P := Z.icmp_lt tgt hdg ht (fun q => k1 ((zi_lt ha hb).mp q)) (fun q => k2 (fun q2 => q ((zi_lt ha hb).mpr q2)))
theorem Y.if_ge {a off : Int} (tgt : Nat) (hdg : decode μ.2.1 pc = .ok (.ifCond .ge off, 3)) (ht : (pc : Int) + off = (tgt : Int)) (ha : zB a) (k1 : 0 ≤ a → Y d μ tgt L st σ P) (k2 : ¬ (0 ≤ a) → Y d μ (pc + 3) L st σ P) : Y d μ pc L (.int (zi a) :: st) σ P := Z.if_ge tgt hdg ht (fun q => k1 ((zi_le zB0 ha).mp q)) (fun q => k2 (fun q2 => q ((zi_le zB0 ha).mpr q2)))
theorem Y.icmp_ge {a b off : Int} (tgt : Nat) (hdg : decode μ.2.1 pc = .ok (.if_icmp .ge off, 3)) (ht : (pc : Int) + off = (tgt : Int)) (ha : zB a) (hb : zB b) (k1 : b ≤ a → Y d μ tgt L st σ P) (k2 : ¬ (b ≤ a) → Y d μ (pc + 3) L st σ P) : Y d μ pc L (.int (zi b) :: .int (zi a) :: st) σ P := Z.icmp_ge tgt hdg ht (fun q => k1 ((zi_le hb ha).mp q)) (fun q => k2 (fun q2 => q ((zi_le hb ha).mpr q2)))
theorem Y.if_gt {a off : Int} (tgt : Nat) (hdg : decode μ.2.1 pc = .ok (.ifCond .gt off, 3)) (ht : (pc : Int) + off = (tgt : Int)) (ha : zB a) (k1 : 0 < a → Y d μ tgt L st σ P) (k2 : ¬ (0 < a) → Y d μ (pc + 3) L st σ P) : Y d μ pc L (.int (zi a) :: st) σ P := Z.if_gt tgt hdg ht (fun q => k1 ((zi_lt zB0 ha).mp q)) (fun q => k2 (fun q2 => q ((zi_lt zB0 ha).mpr q2)))
theorem Y.icmp_gt {a b off : Int} (tgt : Nat) (hdg : decode μ.2.1 pc = .ok (.if_icmp .gt off, 3)) (ht : (pc : Int) + off = (tgt : Int)) (ha : zB a) (hb : zB b) (k1 : b < a → Y d μ tgt L st σ P) (k2 : ¬ (b < a) → Y d μ (pc + 3) L st σ P) : Y d μ pc L (.int (zi b) :: .int (zi a) :: st) σ P := Z.icmp_gt tgt hdg ht (fun q => k1 ((zi_lt hb ha).mp q)) (fun q => k2 (fun q2 => q ((zi_lt hb ha).mpr q2)))
theorem Y.if_le {a off : Int} (tgt : Nat) (hdg : decode μ.2.1 pc = .ok (.ifCond .le off, 3)) (ht : (pc : Int) + off = (tgt : Int)) (ha : zB a) (k1 : a ≤ 0 → Y d μ tgt L st σ P) (k2 : ¬ (a ≤ 0) → Y d μ (pc + 3) L st σ P) : Y d μ pc L (.int (zi a) :: st) σ P := Z.if_le tgt hdg ht (fun q => k1 ((zi_le ha zB0).mp q)) (fun q => k2 (fun q2 => q ((zi_le ha zB0).mpr q2)))
theorem Y.icmp_le {a b off : Int} (tgt : Nat) (hdg : decode μ.2.1 pc = .ok (.if_icmp .le off, 3)) (ht : (pc : Int) + off = (tgt : Int)) (ha : zB a) (hb : zB b) (k1 : a ≤ b → Y d μ tgt L st σ P) (k2 : ¬ (a ≤ b) → Y d μ (pc + 3) L st σ P) : Y d μ pc L (.int (zi b) :: .int (zi a) :: st) σ P := Z.icmp_le tgt hdg ht (fun q => k1 ((zi_le ha hb).mp q)) (fun q => k2 (fun q2 => q ((zi_le ha hb).mpr q2)))
theorem Y.if_ne {a off : Int} (tgt : Nat) (hdg : decode μ.2.1 pc = .ok (.ifCond .ne off, 3)) (ht : (pc : Int) + off = (tgt : Int)) (ha : zB a) (k1 : ¬ a = 0 → Y d μ tgt L st σ P) (k2 : a = 0 → Y d μ (pc + 3) L st σ P) : Y d μ pc L (.int (zi a) :: st) σ P := Z.if_ne tgt hdg ht (fun q => k1 (fun q2 => q ((zi_eq ha zB0).mpr q2))) (fun q => k2 ((zi_eq ha zB0).mp q))
theorem Y.icmp_ne {a b off : Int} (tgt : Nat) (hdg : decode μ.2.1 pc = .ok (.if_icmp .ne off, 3)) (ht : (pc : Int) + off = (tgt : Int)) (ha : zB a) (hb : zB b) (k1 : ¬ a = b → Y d μ tgt L st σ P) (k2 : a = b → Y d μ (pc + 3) L st σ P) : Y d μ pc L (.int (zi b) :: .int (zi a) :: st) σ P := Z.icmp_ne tgt hdg ht (fun q => k1 (fun q2 => q ((zi_eq ha hb).mpr q2))) (fun q => k2 ((zi_eq ha hb).mp q))
theorem Y.iload_n {q : Fin 4} {x : Int32} (hdg : decode μ.2.1 pc = .ok (.iload_n q, 1)) (hl : L[(q : Nat)]? = some (some (.int x))) (k : Y d μ (pc + 1) L (.int x :: st) σ P) : Y d μ pc L st σ P := Z.iload_n hdg hl k
theorem Y.iload {i : Nat} {x : Int32} (hdg : decode μ.2.1 pc = .ok (.iload i, 2)) (hl : L[i]? = some (some (.int x))) (k : Y d μ (pc + 2) L (.int x :: st) σ P) : Y d μ pc L st σ P := Z.iload hdg hl k
theorem Y.lload_n {q : Fin 4} {x : Int64} (hdg : decode μ.2.1 pc = .ok (.lload_n q, 1)) (hl : L[(q : Nat)]? = some (some (.long x))) (k : Y d μ (pc + 1) L (.long x :: st) σ P) : Y d μ pc L st σ P := Z.lload_n hdg hl k
theorem Y.lload {i : Nat} {x : Int64} (hdg : decode μ.2.1 pc = .ok (.lload i, 2)) (hl : L[i]? = some (some (.long x))) (k : Y d μ (pc + 2) L (.long x :: st) σ P) : Y d μ pc L st σ P := Z.lload hdg hl k
theorem Y.aload_n {q : Fin 4} {x : Nat} (hdg : decode μ.2.1 pc = .ok (.aload_n q, 1)) (hl : L[(q : Nat)]? = some (some (.ref x))) (k : Y d μ (pc + 1) L (.ref x :: st) σ P) : Y d μ pc L st σ P := Z.aload_n hdg hl k
theorem Y.aload {i : Nat} {x : Nat} (hdg : decode μ.2.1 pc = .ok (.aload i, 2)) (hl : L[i]? = some (some (.ref x))) (k : Y d μ (pc + 2) L (.ref x :: st) σ P) : Y d μ pc L st σ P := Z.aload hdg hl k
theorem Y.istore_n {q : Fin 4} {x : Int32} (hdg : decode μ.2.1 pc = .ok (.istore_n q, 1)) (hi : (q : Nat) < μ.2.2.1) (hn : zNl L q = true) (k : Y d μ (pc + 1) (L.set q (some (.int x))) st σ P) : Y d μ pc L (.int x :: st) σ P := Z.istore_n hdg hi hn k
theorem Y.istore {i : Nat} {x : Int32} (hdg : decode μ.2.1 pc = .ok (.istore i, 2)) (hi : i < μ.2.2.1) (hn : zNl L i = true) (k : Y d μ (pc + 2) (L.set i (some (.int x))) st σ P) : Y d μ pc L (.int x :: st) σ P := Z.istore hdg hi hn k
theorem Y.astore_n {q : Fin 4} {x : Nat} (hdg : decode μ.2.1 pc = .ok (.astore_n q, 1)) (hi : (q : Nat) < μ.2.2.1) (hn : zNl L q = true) (k : Y d μ (pc + 1) (L.set q (some (.ref x))) st σ P) : Y d μ pc L (.ref x :: st) σ P := Z.astore_n hdg hi hn k
theorem Y.astore {i : Nat} {x : Nat} (hdg : decode μ.2.1 pc = .ok (.astore i, 2)) (hi : i < μ.2.2.1) (hn : zNl L i = true) (k : Y d μ (pc + 2) (L.set i (some (.ref x))) st σ P) : Y d μ pc L (.ref x :: st) σ P := Z.astore hdg hi hn k
theorem Y.lstore_n {q : Fin 4} {x : Int64} (hdg : decode μ.2.1 pc = .ok (.lstore_n q, 1)) (hi : (q : Nat) + 1 < μ.2.2.1) (hn : zNl L q = true) (k : Y d μ (pc + 1) ((L.set q (some (.long x))).set (q + 1) none) st σ P) : Y d μ pc L (.long x :: st) σ P := Z.lstore_n hdg hi hn k
theorem Y.lstore {i : Nat} {x : Int64} (hdg : decode μ.2.1 pc = .ok (.lstore i, 2)) (hi : i + 1 < μ.2.2.1) (hn : zNl L i = true) (k : Y d μ (pc + 2) ((L.set i (some (.long x))).set (i + 1) none) st σ P) : Y d μ pc L (.long x :: st) σ P := Z.lstore hdg hi hn k
theorem Y.iinc {i : Nat} {n a : Int} (hdg : decode μ.2.1 pc = .ok (.iinc i n, 3)) (hl : L[i]? = some (some (.int (zi a)))) (hi : i < μ.2.2.1) (hn : zNl L i = true) (k : Y d μ (pc + 3) (L.set i (some (.int (zi (a + n))))) st σ P) : Y d μ pc L st σ P := Z.iinc hdg hl hi hn (by rw [show Int32.ofInt n = zi n from rfl, zi_add]; exact k)
theorem Y.getf {ci k o : Nat} {fs : zS → List Value} {v : Value} (hdg : decode μ.2.1 pc = .ok (.getfield idx, 3)) (hf : zFl μ.1.cls idx ci k) (ho : zOB o ci fs) (hv : (fs σ)[k]? = some v) (k9 : Y d μ (pc + 3) L (v :: st) σ P) : Y d μ pc L (.ref o :: st) σ P := Z.getf hdg hf (ho σ) hv k9
theorem Y.putf {ci k o : Nat} {fs : zS → List Value} {v : Int} {ty : FieldType} (ki : Int) (hdg : decode μ.2.1 pc = .ok (.putfield idx, 3)) (hf : zFp μ.1.cls idx ci k ty false) (ho : zOB o ci fs) (hs : zOS o ci k fs) (hl : k < (fs σ).length) (hty : ty = .int ∨ (ty = .boolean ∧ (v = 0 ∨ v = 1))) (hki : (k : Int) = ki) (k9 : Y d μ (pc + 3) L st (zu σ o ki v) P) : Y d μ pc L (.int (zi v) :: .ref o :: st) σ P :=
  Z.putf hdg hf (ho σ) hl (fun ρ => by
    rcases hty with rfl | ⟨rfl, rfl | rfl⟩ <;> exact ⟨rfl, rfl⟩) (by rw [hs, hki]; exact k9)
theorem Y.putl {ci k o : Nat} {fs : zS → List Value} {v : Int} (ki : Int) (hdg : decode μ.2.1 pc = .ok (.putfield idx, 3)) (hf : zFp μ.1.cls idx ci k .long false) (ho : zOB o ci fs) (hs : zOL o ci k fs) (hl : k < (fs σ).length) (hki : (k : Int) = ki) (k9 : Y d μ (pc + 3) L st (zul σ o ki v) P) : Y d μ pc L (.long (zl v) :: .ref o :: st) σ P :=
  Z.putf hdg hf (ho σ) hl (fun ρ => ⟨rfl, rfl⟩) (by rw [hs, hki]; exact k9)
theorem zInt {i : Int} (h : 0 ≤ i) : ((i.toNat : Nat) : Int) = i := Int.toNat_of_nonneg h
theorem Y.iald {a n : Nat} {i : Int} (hdg : decode μ.2.1 pc = .ok (.iaload, 1)) (hc : zIA a n) (h0 : 0 ≤ i) (h1 : i < n) (k9 : Y d μ (pc + 1) L (.int (zi (σ.1 a i)) :: st) σ P) : Y d μ pc L (.int (zi i) :: .ref a :: st) σ P :=
  Z.iald hdg (hc.2.1 σ) (zi_in h0 h1 hc.1) (by
    have hn := hc.1
    rw [zi_cl ⟨by omega, by omega⟩, zInt h0]
    exact k9)
theorem Y.lald {a n : Nat} {i : Int} (hdg : decode μ.2.1 pc = .ok (.laload, 1)) (hc : zLA a n) (h0 : 0 ≤ i) (h1 : i < n) (k9 : Y d μ (pc + 1) L (.long (zl (σ.2 a i)) :: st) σ P) : Y d μ pc L (.int (zi i) :: .ref a :: st) σ P :=
  Z.lald hdg (hc.2.1 σ) (zi_in h0 h1 hc.1) (by
    have hn := hc.1
    rw [zi_cl ⟨by omega, by omega⟩, zInt h0]
    exact k9)
theorem zupd {a : Nat} {i v : Int} (h0 : 0 ≤ i) (h1 : i < 2147483648) : upd (fun j : Nat => zi (σ.1 a j)) (zi i).toNatClampNeg (zi v) = fun j : Nat => zi ((zu σ a i v).1 a j) := by
  funext j
  rw [zi_cl ⟨by omega, by omega⟩]
  unfold upd
  by_cases hj : j = i.toNat
  · rw [if_pos hj, show (j : Int) = i by omega, zu_eq]
  · rw [if_neg hj, zu_ne (by omega)]
theorem zupdL {a : Nat} {i v : Int} (h0 : 0 ≤ i) (h1 : i < 2147483648) : vp_updL (fun j : Nat => zl (σ.2 a j)) (zi i).toNatClampNeg (zl v) = fun j : Nat => zl ((zul σ a i v).2 a j) := by
  funext j
  rw [zi_cl ⟨by omega, by omega⟩]
  unfold vp_updL
  by_cases hj : j = i.toNat
  · rw [if_pos hj, show (j : Int) = i by omega, zul_eq]
  · rw [if_neg hj, zul_ne (by omega)]
theorem Y.iast {a n : Nat} {i v : Int} (hdg : decode μ.2.1 pc = .ok (.iastore, 1)) (hc : zIA a n) (h0 : 0 ≤ i) (h1 : i < n) (k9 : Y d μ (pc + 1) L st (zu σ a i v) P) : Y d μ pc L (.int (zi v) :: .int (zi i) :: .ref a :: st) σ P :=
  Z.iast hdg (hc.2.1 σ) (zi_in h0 h1 hc.1) (by
    have hn := hc.1
    rw [zupd h0 (by omega), hc.2.2]
    exact k9)
theorem Y.last {a n : Nat} {i v : Int} (hdg : decode μ.2.1 pc = .ok (.lastore, 1)) (hc : zLA a n) (h0 : 0 ≤ i) (h1 : i < n) (k9 : Y d μ (pc + 1) L st (zul σ a i v) P) : Y d μ pc L (.long (zl v) :: .int (zi i) :: .ref a :: st) σ P :=
  Z.last hdg (hc.2.1 σ) (zi_in h0 h1 hc.1) (by
    have hn := hc.1
    rw [zupdL h0 (by omega), hc.2.2]
    exact k9)
theorem Y.aald {a n : Nat} {ty : FieldType} {q : List (Option Nat)} {i : Int} {r : Nat} (hdg : decode μ.2.1 pc = .ok (.aaload, 1)) (hc : zRA a n ty q) (ht : ty = .array .int ∨ ty = .object "OffsetChains$Sheet") (h0 : 0 ≤ i) (h1 : i < n) (hq : q[i.toNat]? = some (some r)) (k9 : Y d μ (pc + 1) L (.ref r :: st) σ P) : Y d μ pc L (.int (zi i) :: .ref a :: st) σ P :=
  Z.aald (t0 := if ty = .array .int then 2 else 3) hdg (by
    rcases ht with rfl | rfl
    · exact Or.inl ⟨rfl, rfl⟩
    · exact Or.inr ⟨rfl, rfl⟩) (hc.2 σ) (zi_in h0 h1 hc.1) (by
    have hn := hc.1
    rw [zi_cl ⟨by omega, by omega⟩]
    exact hq) k9
theorem Y.aleni {a n : Nat} (hdg : decode μ.2.1 pc = .ok (.arraylength, 1)) (hc : zIA a n) (k9 : Y d μ (pc + 1) L (.int (zi n) :: st) σ P) : Y d μ pc L (.ref a :: st) σ P := Z.alen (t0 := 0) hdg (Or.inl ⟨rfl, rfl⟩) (hc.2.1 σ) rfl k9
theorem Y.alenl {a n : Nat} (hdg : decode μ.2.1 pc = .ok (.arraylength, 1)) (hc : zLA a n) (k9 : Y d μ (pc + 1) L (.int (zi n) :: st) σ P) : Y d μ pc L (.ref a :: st) σ P := Z.alen (t0 := 1) hdg (Or.inr ⟨rfl, rfl⟩) (hc.2.1 σ) rfl k9
theorem Y.gets {t : Nat} (hdg : decode μ.2.1 pc = .ok (.getstatic idx, 3)) (ht : t < 4) (hw : Cond.fieldLink μ.1.cls idx "OffsetChains" (zTn t) "[I" ∈ zWd) (k9 : Y d μ (pc + 3) L (.ref (9000 + t) :: st) σ P) : Y d μ pc L st σ P := Z.gets hdg ht hw k9
def zTi (t : Nat) (i : Int) : Int := (zTf t i.toNat).toInt
theorem Y.tld {t : Nat} {i : Int} (hdg : decode μ.2.1 pc = .ok (.iaload, 1)) (ht : t < 4) (h0 : 0 ≤ i) (h1 : i < zTl t) (k9 : Y d μ (pc + 1) L (.int (zi (zTi t i)) :: st) σ P) : Y d μ pc L (.int (zi i) :: .ref (9000 + t) :: st) σ P := by
  have hn : zTl t ≤ 5 := by
    rcases (show t = 0 ∨ t = 1 ∨ t = 2 ∨ t = 3 by omega) with rfl | rfl | rfl | rfl <;> decide
  refine Z.tld hdg ht (zi_in h0 h1 (by omega)) ?_
  rw [zi_cl ⟨by omega, by omega⟩, show zTf t i.toNat = zi (zTi t i) from (Int32.ofInt_toInt _).symm]
  exact k9
theorem Y.iret {v : Int} (hdg : decode μ.2.1 pc = .ok (.ireturn, 1)) (hr : μ.2.2.2 = some .int) (hp : P (some (.int (zi v))) σ) : Y d μ pc L [.int (zi v)] σ P := Z.iret hdg ⟨.int, hr, rfl⟩ ⟨Nat.le_refl _, Nat.le_refl _⟩ ⟨σ, rfl, hp⟩
theorem Y.zret {v : Int} (hdg : decode μ.2.1 pc = .ok (.ireturn, 1)) (hr : μ.2.2.2 = some .boolean) (hv : v = 0 ∨ v = 1) (hp : P (some (.int (zi v))) σ) : Y d μ pc L [.int (zi v)] σ P := Z.iret hdg ⟨.boolean, hr, by rcases hv with rfl | rfl <;> rfl⟩ ⟨Nat.le_refl _, Nat.le_refl _⟩ ⟨σ, rfl, hp⟩
theorem Y.lret {v : Int} (hdg : decode μ.2.1 pc = .ok (.lreturn, 1)) (hr : μ.2.2.2 = some .long) (hp : P (some (.long (zl v))) σ) : Y d μ pc L [.long (zl v)] σ P := Z.lret hdg hr ⟨Nat.le_refl _, Nat.le_refl _⟩ ⟨σ, rfl, hp⟩
theorem Y.vret (hdg : decode μ.2.1 pc = .ok (.return_, 1)) (hr : μ.2.2.2 = none) (hp : P none σ) : Y d μ pc L [] σ P := Z.vret hdg hr ⟨Nat.le_refl _, Nat.le_refl _⟩ ⟨σ, rfl, hp⟩
theorem Y.on {rest : List Value} (k : ∀ r σ', P' r σ' → Y d μ (pc + 3) L (r.toList ++ rest) σ' P) : zOn 0 0 d μ pc L rest (zHp σ) 0 0 0 0 (fun r h => ∃ σ', h = zHp σ' ∧ P' r σ') (fun r h => ∃ σ', h = zHp σ' ∧ P r σ') :=
  ⟨Or.inl rfl, Nat.le_refl _, Nat.le_refl _, fun r h' ⟨σ', h1, h2⟩ => by rw [h1]; exact k r σ' h2⟩
theorem Y.callV {b ci n : Nat} {fs : zS → List Value} {As rest : List Value} (hdg : decode μ.2.1 pc = .ok (.invokevirtual idx, 3)) (hm : zMk ν n) (hs : zSV μ.1.cls idx ν) (ho : zOB b ci fs) (hci : ∃ q : vw_C, vwCl[ci]? = some q ∧ q.1 = ν.1.cls) (hc : YC hd ν (.ref b :: As) σ P') (hd1 : hd + 1 ≤ d) (hAn : As.length = n) (hst : st = As.reverse ++ .ref b :: rest) (hcat : (rest.map fun v => v.category).sum ≤ 8) (k : ∀ r σ', P' r σ' → Y d μ (pc + 3) L (r.toList ++ rest) σ' P) : Y d μ pc L st σ P :=
  Z.callV hdg hm hs hc hd1 (ho σ) hci hAn hst hcat (Y.on k)
theorem Y.callS {n : Nat} {As rest : List Value} (hdg : decode μ.2.1 pc = .ok (.invokestatic idx, 3)) (hm : zMk ν n) (hs : zSS μ.1.cls idx ν) (hc : YC hd ν As σ P') (hd1 : hd + 1 ≤ d) (hAn : As.length = n) (hst : st = As.reverse ++ rest) (hcat : (rest.map fun v => v.category).sum ≤ 8) (k : ∀ r σ', P' r σ' → Y d μ (pc + 3) L (r.toList ++ rest) σ' P) : Y d μ pc L st σ P :=
  Z.callS hdg hm hs hc hd1 hAn hst hcat (Y.on k)
theorem Y.mmax {a b : Int} (hdg : decode μ.2.1 pc = .ok (.invokestatic idx, 3)) (hw : Cond.methodLink μ.1.cls idx Lib.Math.max.name ∈ zWd ∧ Cond.static Lib.Math.max.name ∈ zWd ∧ Cond.initialized "java/lang/Math" ∈ zWd ∧ Cond.code Lib.Math.max.name Lib.Math.max.code 2 (some .int) ∈ zWd) (hd1 : 1 ≤ d) (hcat : (st.map fun v => v.category).sum ≤ 8) (ha : zB a) (hb : zB b) (k9 : Y d μ (pc + 3) L (.int (zi (max a b)) :: st) σ P) : Y d μ pc L (.int (zi b) :: .int (zi a) :: st) σ P := by
  refine Z.mmax hdg hw hd1 hcat ⟨Nat.le_refl _, Nat.le_refl _⟩ ?_
  have e : (if zi a < zi b then zi b else zi a) = zi (max a b) := by
    by_cases h : a < b
    · rw [if_pos ((zi_lt ha hb).mpr h)]; congr 1; omega
    · rw [if_neg (fun q => h ((zi_lt ha hb).mp q))]; congr 1; omega
  rw [e]
  exact k9
theorem Y.mmin {a b : Int} (hdg : decode μ.2.1 pc = .ok (.invokestatic idx, 3)) (hw : Cond.methodLink μ.1.cls idx Lib.Math.min.name ∈ zWd ∧ Cond.static Lib.Math.min.name ∈ zWd ∧ Cond.initialized "java/lang/Math" ∈ zWd ∧ Cond.code Lib.Math.min.name Lib.Math.min.code 2 (some .int) ∈ zWd) (hd1 : 1 ≤ d) (hcat : (st.map fun v => v.category).sum ≤ 8) (ha : zB a) (hb : zB b) (k9 : Y d μ (pc + 3) L (.int (zi (min a b)) :: st) σ P) : Y d μ pc L (.int (zi b) :: .int (zi a) :: st) σ P := by
  refine Z.mmin hdg hw hd1 hcat ⟨Nat.le_refl _, Nat.le_refl _⟩ ?_
  have e : (if zi b < zi a then zi b else zi a) = zi (min a b) := by
    by_cases h : b < a
    · rw [if_pos ((zi_lt hb ha).mpr h)]; congr 1; omega
    · rw [if_neg (fun q => h ((zi_lt hb ha).mp q))]; congr 1; omega
  rw [e]
  exact k9
end YR
