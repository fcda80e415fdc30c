section ZY
def zi (a : Int) : Int32 := Int32.ofInt a
def zl (a : Int) : Int64 := Int64.ofInt a
abbrev zB (a : Int) : Prop := -2147483648 ≤ a ∧ a < 2147483648
abbrev zB64 (a : Int) : Prop := -9223372036854775808 ≤ a ∧ a < 9223372036854775808
theorem zi_toInt {a : Int} (h : zB a) : (zi a).toInt = a := Int32.toInt_ofInt_of_le (by omega) (by omega)
theorem zl_toInt {a : Int} (h : zB64 a) : (zl a).toInt = a := Int64.toInt_ofInt_of_le (by omega) (by omega)
theorem zi_of (x : Int32) : ∃ a : Int, zB a ∧ x = zi a := ⟨x.toInt, ⟨Int32.le_toInt x, Int32.toInt_lt x⟩, (Int32.ofInt_toInt x).symm⟩
theorem zi_add (a b : Int) : zi a + zi b = zi (a + b) := (Int32.ofInt_add a b).symm
theorem zi_sub (a b : Int) : zi a - zi b = zi (a - b) := (Int32.ofInt_sub a b).symm
theorem zi_mul (a b : Int) : zi a * zi b = zi (a * b) := (Int32.ofInt_mul a b).symm
theorem zl_add (a b : Int) : zl a + zl b = zl (a + b) := (Int64.ofInt_add a b).symm
theorem zl_sub (a b : Int) : zl a - zl b = zl (a - b) := (Int64.ofInt_sub a b).symm
theorem zl_mul (a b : Int) : zl a * zl b = zl (a * b) := (Int64.ofInt_mul a b).symm
theorem zi_div {a b : Int} (ha : zB a) (hb : zB b) : zi a / zi b = zi (a.tdiv b) := by
  unfold zi
  exact (Int32.ofInt_tdiv (by show (-2147483648 : Int) ≤ a; omega) (by show a ≤ 2147483647; omega) (by show (-2147483648 : Int) ≤ b; omega) (by show b ≤ 2147483647; omega)).symm
theorem zl_div {a b : Int} (ha : zB64 a) (hb : zB64 b) : zl a / zl b = zl (a.tdiv b) := by
  unfold zl
  exact (Int64.ofInt_tdiv (by show (-9223372036854775808 : Int) ≤ a; omega) (by show a ≤ 9223372036854775807; omega) (by show (-9223372036854775808 : Int) ≤ b; omega) (by show b ≤ 9223372036854775807; omega)).symm
theorem zi_rem {a b : Int} (ha : zB a) (hb : zB b) : zi a - zi a / zi b * zi b = zi (a.tmod b) := by
  rw [zi_div ha hb, zi_mul, zi_sub]
  congr 1
  have := Int.tmod_add_mul_tdiv a b
  rw [Int.mul_comm] at this
  omega
theorem zl_rem {a b : Int} (ha : zB64 a) (hb : zB64 b) : zl a - zl a / zl b * zl b = zl (a.tmod b) := by
  rw [zl_div ha hb, zl_mul, zl_sub]
  congr 1
  have := Int.tmod_add_mul_tdiv a b
  rw [Int.mul_comm] at this
  omega
theorem zi_lt {a b : Int} (ha : zB a) (hb : zB b) : zi a < zi b ↔ a < b := by rw [Int32.lt_iff_toInt_lt, zi_toInt ha, zi_toInt hb]
theorem zi_le {a b : Int} (ha : zB a) (hb : zB b) : zi a ≤ zi b ↔ a ≤ b := by rw [Int32.le_iff_toInt_le, zi_toInt ha, zi_toInt hb]
theorem zi_eq {a b : Int} (ha : zB a) (hb : zB b) : zi a = zi b ↔ a = b := by rw [← Int32.toInt_inj, zi_toInt ha, zi_toInt hb]
theorem zl_lt {a b : Int} (ha : zB64 a) (hb : zB64 b) : zl a < zl b ↔ a < b := by rw [Int64.lt_iff_toInt_lt, zl_toInt ha, zl_toInt hb]
theorem zl_eq {a b : Int} (ha : zB64 a) (hb : zB64 b) : zl a = zl b ↔ a = b := by rw [← Int64.toInt_inj, zl_toInt ha, zl_toInt hb]
theorem zi_long {a : Int} (h : zB a) : (zi a).toInt64 = zl a := Int32.toInt64_ofInt (by show (-2147483648 : Int) ≤ a; omega) (by show a ≤ 2147483647; omega)
theorem zl_int (a : Int) : (zl a).toInt32 = zi a := Int64.toInt32_ofInt
theorem zl_cmp {a b : Int} (ha : zB64 a) (hb : zB64 b) : lg_cmp (zl a) (zl b) = zi (if b < a then 1 else if a = b then 0 else -1) := by
  unfold lg_cmp
  have e1 : (zl a > zl b) ↔ b < a := zl_lt hb ha
  have e2 : (zl a = zl b) ↔ a = b := zl_eq ha hb
  by_cases h1 : b < a
  · rw [if_pos (e1.mpr h1), if_pos h1]; rfl
  · rw [if_neg (fun q => h1 (e1.mp q)), if_neg h1]
    by_cases h2 : a = b
    · rw [if_pos (e2.mpr h2), if_pos h2]; rfl
    · rw [if_neg (fun q => h2 (e2.mp q)), if_neg h2]; rfl
theorem zi_cl {a : Int} (ha : zB a) : (zi a).toNatClampNeg = a.toNat := Int32.toNatClampNeg_ofInt_of_le (by omega) (by omega)
theorem zi_in {a : Int} {n : Nat} (h0 : 0 ≤ a) (hn : a < n) (hN : n < 2147483648) : vp_in (zi a) n := by
  have hB : zB a := ⟨by omega, by omega⟩
  rw [vp_in_iff, zi_toInt hB]
  exact ⟨h0, hn⟩
/-- the world behind the constructors: ints and longs, by cell and place -/
abbrev zS : Type := (Nat → Int → Int) × (Nat → Int → Int)
def zu (σ : zS) (c : Nat) (i v : Int) : zS := (fun c' => if c' = c then (fun i' => if i' = i then v else σ.1 c i') else σ.1 c', σ.2)
def zul (σ : zS) (c : Nat) (i v : Int) : zS := (σ.1, fun c' => if c' = c then (fun i' => if i' = i then v else σ.2 c i') else σ.2 c')
theorem zu_eq {σ : zS} {c : Nat} {i v : Int} : (zu σ c i v).1 c i = v := by simp [zu]
theorem zu_ne {σ : zS} {c : Nat} {i j v : Int} (h : j ≠ i) : (zu σ c i v).1 c j = σ.1 c j := by simp [zu, h]
theorem zu_nc {σ : zS} {c c' : Nat} {i v : Int} (h : c' ≠ c) : (zu σ c i v).1 c' = σ.1 c' := by simp [zu, h]
theorem zu_l {σ : zS} {c : Nat} {i v : Int} : (zu σ c i v).2 = σ.2 := rfl
theorem zul_i {σ : zS} {c : Nat} {i v : Int} : (zul σ c i v).1 = σ.1 := rfl
theorem zul_eq {σ : zS} {c : Nat} {i v : Int} : (zul σ c i v).2 c i = v := by simp [zul]
theorem zul_ne {σ : zS} {c : Nat} {i j v : Int} (h : j ≠ i) : (zul σ c i v).2 c j = σ.2 c j := by simp [zul, h]
theorem zul_nc {σ : zS} {c c' : Nat} {i v : Int} (h : c' ≠ c) : (zul σ c i v).2 c' = σ.2 c' := by simp [zul, h]

def zHp (σ : zS) : zH := [
  .inr (4, [.ref 1, .ref 14, .ref 26, .ref 38, .ref 58, .int (zi (σ.1 0 5))]),
  .inr (2, [.ref 2, .ref 8, .ref 13]),
  .inl (.array .int, 5, .inr (.inr [some 3, some 4, some 5, some 6, some 7])),
  .inl (.int, 3, .inl (fun j => zi (σ.1 3 j))),
  .inl (.int, 3, .inl (fun j => zi (σ.1 4 j))),
  .inl (.int, 3, .inl (fun j => zi (σ.1 5 j))),
  .inl (.int, 3, .inl (fun j => zi (σ.1 6 j))),
  .inl (.int, 3, .inl (fun j => zi (σ.1 7 j))),
  .inl (.array .int, 4, .inr (.inr [some 9, some 10, some 11, some 12])),
  .inl (.int, 9, .inl (fun j => zi (σ.1 9 j))),
  .inl (.int, 9, .inl (fun j => zi (σ.1 10 j))),
  .inl (.int, 9, .inl (fun j => zi (σ.1 11 j))),
  .inl (.int, 9, .inl (fun j => zi (σ.1 12 j))),
  .inl (.int, 3, .inl (fun j => zi (σ.1 13 j))),
  .inr (0, [.ref 1, .ref 15, .ref 16, .ref 17, .ref 18, .ref 19, .ref 20, .ref 21, .ref 22, .ref 23, .ref 24, .ref 25, .int (zi (σ.1 14 12)), .int (zi (σ.1 14 13)), .int (zi (σ.1 14 14)), .int (zi (σ.1 14 15)), .int (zi (σ.1 14 16)), .int (zi (σ.1 14 17))]),
  .inl (.int, 3, .inl (fun j => zi (σ.1 15 j))),
  .inl (.int, 9, .inl (fun j => zi (σ.1 16 j))),
  .inl (.int, 9, .inl (fun j => zi (σ.1 17 j))),
  .inl (.int, 9, .inl (fun j => zi (σ.1 18 j))),
  .inl (.int, 9, .inl (fun j => zi (σ.1 19 j))),
  .inl (.int, 9, .inl (fun j => zi (σ.1 20 j))),
  .inl (.int, 27, .inl (fun j => zi (σ.1 21 j))),
  .inl (.int, 27, .inl (fun j => zi (σ.1 22 j))),
  .inl (.int, 9, .inl (fun j => zi (σ.1 23 j))),
  .inl (.int, 3, .inl (fun j => zi (σ.1 24 j))),
  .inl (.int, 3, .inl (fun j => zi (σ.1 25 j))),
  .inr (0, [.ref 1, .ref 27, .ref 28, .ref 29, .ref 30, .ref 31, .ref 32, .ref 33, .ref 34, .ref 35, .ref 36, .ref 37, .int (zi (σ.1 26 12)), .int (zi (σ.1 26 13)), .int (zi (σ.1 26 14)), .int (zi (σ.1 26 15)), .int (zi (σ.1 26 16)), .int (zi (σ.1 26 17))]),
  .inl (.int, 3, .inl (fun j => zi (σ.1 27 j))),
  .inl (.int, 9, .inl (fun j => zi (σ.1 28 j))),
  .inl (.int, 9, .inl (fun j => zi (σ.1 29 j))),
  .inl (.int, 9, .inl (fun j => zi (σ.1 30 j))),
  .inl (.int, 9, .inl (fun j => zi (σ.1 31 j))),
  .inl (.int, 9, .inl (fun j => zi (σ.1 32 j))),
  .inl (.int, 27, .inl (fun j => zi (σ.1 33 j))),
  .inl (.int, 27, .inl (fun j => zi (σ.1 34 j))),
  .inl (.int, 9, .inl (fun j => zi (σ.1 35 j))),
  .inl (.int, 3, .inl (fun j => zi (σ.1 36 j))),
  .inl (.int, 3, .inl (fun j => zi (σ.1 37 j))),
  .inr (1, [.int (zi (σ.1 38 0)), .int (zi (σ.1 38 1)), .ref 39, .ref 40, .ref 43, .ref 44, .ref 45, .ref 46, .ref 47, .ref 57]),
  .inl (.int, 2, .inl (fun j => zi (σ.1 39 j))),
  .inl (.array .int, 2, .inr (.inr [some 41, some 42])),
  .inl (.int, 300, .inl (fun j => zi (σ.1 41 j))),
  .inl (.int, 300, .inl (fun j => zi (σ.1 42 j))),
  .inl (.int, 9, .inl (fun j => zi (σ.1 43 j))),
  .inl (.int, 9, .inl (fun j => zi (σ.1 44 j))),
  .inl (.int, 9, .inl (fun j => zi (σ.1 45 j))),
  .inl (.int, 9, .inl (fun j => zi (σ.1 46 j))),
  .inl (.array .int, 9, .inr (.inr [some 48, some 49, some 50, some 51, some 52, some 53, some 54, some 55, some 56])),
  .inl (.int, 60, .inl (fun j => zi (σ.1 48 j))),
  .inl (.int, 60, .inl (fun j => zi (σ.1 49 j))),
  .inl (.int, 60, .inl (fun j => zi (σ.1 50 j))),
  .inl (.int, 60, .inl (fun j => zi (σ.1 51 j))),
  .inl (.int, 60, .inl (fun j => zi (σ.1 52 j))),
  .inl (.int, 60, .inl (fun j => zi (σ.1 53 j))),
  .inl (.int, 60, .inl (fun j => zi (σ.1 54 j))),
  .inl (.int, 60, .inl (fun j => zi (σ.1 55 j))),
  .inl (.int, 60, .inl (fun j => zi (σ.1 56 j))),
  .inl (.int, 3, .inl (fun j => zi (σ.1 57 j))),
  .inl (.object "OffsetChains$Sheet", 4, .inr (.inr [some 59, some 61, some 63, some 65])),
  .inr (3, [.int (zi (σ.1 59 0)), .int (zi (σ.1 59 1)), .int (zi (σ.1 59 2)), .ref 60]),
  .inl (.long, 60, .inr (.inl (fun j => zl (σ.2 60 j)))),
  .inr (3, [.int (zi (σ.1 61 0)), .int (zi (σ.1 61 1)), .int (zi (σ.1 61 2)), .ref 62]),
  .inl (.long, 60, .inr (.inl (fun j => zl (σ.2 62 j)))),
  .inr (3, [.int (zi (σ.1 63 0)), .int (zi (σ.1 63 1)), .int (zi (σ.1 63 2)), .ref 64]),
  .inl (.long, 60, .inr (.inl (fun j => zl (σ.2 64 j)))),
  .inr (3, [.int (zi (σ.1 65 0)), .int (zi (σ.1 65 1)), .int (zi (σ.1 65 2)), .ref 66]),
  .inl (.long, 60, .inr (.inl (fun j => zl (σ.2 66 j)))),
  .inl (.int, 63, .inl (fun j => zi (σ.1 67 j)))]
theorem zHp_len (σ : zS) : (zHp σ).length = 68 := rfl
def zIA (a n : Nat) : Prop := n < 2147483648 ∧ (∀ σ : zS, (zHp σ)[a]? = some (.inl (.int, n, .inl (fun j => zi (σ.1 a j))))) ∧ ∀ (σ : zS) (i v : Int), (zHp σ).set a (.inl (.int, n, .inl (fun j => zi ((zu σ a i v).1 a j)))) = zHp (zu σ a i v)
def zLA (a n : Nat) : Prop := n < 2147483648 ∧ (∀ σ : zS, (zHp σ)[a]? = some (.inl (.long, n, .inr (.inl (fun j => zl (σ.2 a j)))))) ∧ ∀ (σ : zS) (i v : Int), (zHp σ).set a (.inl (.long, n, .inr (.inl (fun j => zl ((zul σ a i v).2 a j))))) = zHp (zul σ a i v)
def zRA (a n : Nat) (ty : FieldType) (q : List (Option Nat)) : Prop := n < 2147483648 ∧ ∀ σ : zS, (zHp σ)[a]? = some (.inl (ty, n, .inr (.inr q)))
def zOB (o ci : Nat) (fs : zS → List Value) : Prop := ∀ σ : zS, (zHp σ)[o]? = some (.inr (ci, fs σ))
def zOS (o ci k : Nat) (fs : zS → List Value) : Prop := ∀ (σ : zS) (v : Int), (zHp σ).set o (.inr (ci, (fs σ).set k (.int (zi v)))) = zHp (zu σ o k v)
def zOL (o ci k : Nat) (fs : zS → List Value) : Prop := ∀ (σ : zS) (v : Int), (zHp σ).set o (.inr (ci, (fs σ).set k (.long (zl v)))) = zHp (zul σ o k v)

abbrev fs0 : zS → List Value := fun σ => [.ref 1, .ref 14, .ref 26, .ref 38, .ref 58, .int (zi (σ.1 0 5))]
theorem ob0 : zOB 0 4 fs0 := fun _ => rfl
theorem os0_5 : zOS 0 4 5 fs0 := fun _ _ => rfl
abbrev fs1 : zS → List Value := fun σ => [.ref 2, .ref 8, .ref 13]
theorem ob1 : zOB 1 2 fs1 := fun _ => rfl
theorem ra2 : zRA 2 5 (.array .int) [some 3, some 4, some 5, some 6, some 7] := ⟨by decide, fun _ => rfl⟩
theorem ia3 : zIA 3 3 := ⟨by decide, fun _ => rfl, fun _ _ _ => rfl⟩
theorem ia4 : zIA 4 3 := ⟨by decide, fun _ => rfl, fun _ _ _ => rfl⟩
theorem ia5 : zIA 5 3 := ⟨by decide, fun _ => rfl, fun _ _ _ => rfl⟩
theorem ia6 : zIA 6 3 := ⟨by decide, fun _ => rfl, fun _ _ _ => rfl⟩
theorem ia7 : zIA 7 3 := ⟨by decide, fun _ => rfl, fun _ _ _ => rfl⟩
theorem ra8 : zRA 8 4 (.array .int) [some 9, some 10, some 11, some 12] := ⟨by decide, fun _ => rfl⟩
theorem ia9 : zIA 9 9 := ⟨by decide, fun _ => rfl, fun _ _ _ => rfl⟩
theorem ia10 : zIA 10 9 := ⟨by decide, fun _ => rfl, fun _ _ _ => rfl⟩
theorem ia11 : zIA 11 9 := ⟨by decide, fun _ => rfl, fun _ _ _ => rfl⟩
theorem ia12 : zIA 12 9 := ⟨by decide, fun _ => rfl, fun _ _ _ => rfl⟩
theorem ia13 : zIA 13 3 := ⟨by decide, fun _ => rfl, fun _ _ _ => rfl⟩
abbrev fs14 : zS → List Value := fun σ => [.ref 1, .ref 15, .ref 16, .ref 17, .ref 18, .ref 19, .ref 20, .ref 21, .ref 22, .ref 23, .ref 24, .ref 25, .int (zi (σ.1 14 12)), .int (zi (σ.1 14 13)), .int (zi (σ.1 14 14)), .int (zi (σ.1 14 15)), .int (zi (σ.1 14 16)), .int (zi (σ.1 14 17))]
theorem ob14 : zOB 14 0 fs14 := fun _ => rfl
theorem os14_12 : zOS 14 0 12 fs14 := fun _ _ => rfl
theorem os14_13 : zOS 14 0 13 fs14 := fun _ _ => rfl
theorem os14_14 : zOS 14 0 14 fs14 := fun _ _ => rfl
theorem os14_15 : zOS 14 0 15 fs14 := fun _ _ => rfl
theorem os14_16 : zOS 14 0 16 fs14 := fun _ _ => rfl
theorem os14_17 : zOS 14 0 17 fs14 := fun _ _ => rfl
theorem ia15 : zIA 15 3 := ⟨by decide, fun _ => rfl, fun _ _ _ => rfl⟩
theorem ia16 : zIA 16 9 := ⟨by decide, fun _ => rfl, fun _ _ _ => rfl⟩
theorem ia17 : zIA 17 9 := ⟨by decide, fun _ => rfl, fun _ _ _ => rfl⟩
theorem ia18 : zIA 18 9 := ⟨by decide, fun _ => rfl, fun _ _ _ => rfl⟩
theorem ia19 : zIA 19 9 := ⟨by decide, fun _ => rfl, fun _ _ _ => rfl⟩
theorem ia20 : zIA 20 9 := ⟨by decide, fun _ => rfl, fun _ _ _ => rfl⟩
theorem ia21 : zIA 21 27 := ⟨by decide, fun _ => rfl, fun _ _ _ => rfl⟩
theorem ia22 : zIA 22 27 := ⟨by decide, fun _ => rfl, fun _ _ _ => rfl⟩
theorem ia23 : zIA 23 9 := ⟨by decide, fun _ => rfl, fun _ _ _ => rfl⟩
theorem ia24 : zIA 24 3 := ⟨by decide, fun _ => rfl, fun _ _ _ => rfl⟩
theorem ia25 : zIA 25 3 := ⟨by decide, fun _ => rfl, fun _ _ _ => rfl⟩
abbrev fs26 : zS → List Value := fun σ => [.ref 1, .ref 27, .ref 28, .ref 29, .ref 30, .ref 31, .ref 32, .ref 33, .ref 34, .ref 35, .ref 36, .ref 37, .int (zi (σ.1 26 12)), .int (zi (σ.1 26 13)), .int (zi (σ.1 26 14)), .int (zi (σ.1 26 15)), .int (zi (σ.1 26 16)), .int (zi (σ.1 26 17))]
theorem ob26 : zOB 26 0 fs26 := fun _ => rfl
theorem os26_12 : zOS 26 0 12 fs26 := fun _ _ => rfl
theorem os26_13 : zOS 26 0 13 fs26 := fun _ _ => rfl
theorem os26_14 : zOS 26 0 14 fs26 := fun _ _ => rfl
theorem os26_15 : zOS 26 0 15 fs26 := fun _ _ => rfl
theorem os26_16 : zOS 26 0 16 fs26 := fun _ _ => rfl
theorem os26_17 : zOS 26 0 17 fs26 := fun _ _ => rfl
theorem ia27 : zIA 27 3 := ⟨by decide, fun _ => rfl, fun _ _ _ => rfl⟩
theorem ia28 : zIA 28 9 := ⟨by decide, fun _ => rfl, fun _ _ _ => rfl⟩
theorem ia29 : zIA 29 9 := ⟨by decide, fun _ => rfl, fun _ _ _ => rfl⟩
theorem ia30 : zIA 30 9 := ⟨by decide, fun _ => rfl, fun _ _ _ => rfl⟩
theorem ia31 : zIA 31 9 := ⟨by decide, fun _ => rfl, fun _ _ _ => rfl⟩
theorem ia32 : zIA 32 9 := ⟨by decide, fun _ => rfl, fun _ _ _ => rfl⟩
theorem ia33 : zIA 33 27 := ⟨by decide, fun _ => rfl, fun _ _ _ => rfl⟩
theorem ia34 : zIA 34 27 := ⟨by decide, fun _ => rfl, fun _ _ _ => rfl⟩
theorem ia35 : zIA 35 9 := ⟨by decide, fun _ => rfl, fun _ _ _ => rfl⟩
theorem ia36 : zIA 36 3 := ⟨by decide, fun _ => rfl, fun _ _ _ => rfl⟩
theorem ia37 : zIA 37 3 := ⟨by decide, fun _ => rfl, fun _ _ _ => rfl⟩
abbrev fs38 : zS → List Value := fun σ => [.int (zi (σ.1 38 0)), .int (zi (σ.1 38 1)), .ref 39, .ref 40, .ref 43, .ref 44, .ref 45, .ref 46, .ref 47, .ref 57]
theorem ob38 : zOB 38 1 fs38 := fun _ => rfl
theorem os38_0 : zOS 38 1 0 fs38 := fun _ _ => rfl
theorem os38_1 : zOS 38 1 1 fs38 := fun _ _ => rfl
theorem ia39 : zIA 39 2 := ⟨by decide, fun _ => rfl, fun _ _ _ => rfl⟩
theorem ra40 : zRA 40 2 (.array .int) [some 41, some 42] := ⟨by decide, fun _ => rfl⟩
theorem ia41 : zIA 41 300 := ⟨by decide, fun _ => rfl, fun _ _ _ => rfl⟩
theorem ia42 : zIA 42 300 := ⟨by decide, fun _ => rfl, fun _ _ _ => rfl⟩
theorem ia43 : zIA 43 9 := ⟨by decide, fun _ => rfl, fun _ _ _ => rfl⟩
theorem ia44 : zIA 44 9 := ⟨by decide, fun _ => rfl, fun _ _ _ => rfl⟩
theorem ia45 : zIA 45 9 := ⟨by decide, fun _ => rfl, fun _ _ _ => rfl⟩
theorem ia46 : zIA 46 9 := ⟨by decide, fun _ => rfl, fun _ _ _ => rfl⟩
theorem ra47 : zRA 47 9 (.array .int) [some 48, some 49, some 50, some 51, some 52, some 53, some 54, some 55, some 56] := ⟨by decide, fun _ => rfl⟩
theorem ia48 : zIA 48 60 := ⟨by decide, fun _ => rfl, fun _ _ _ => rfl⟩
theorem ia49 : zIA 49 60 := ⟨by decide, fun _ => rfl, fun _ _ _ => rfl⟩
theorem ia50 : zIA 50 60 := ⟨by decide, fun _ => rfl, fun _ _ _ => rfl⟩
theorem ia51 : zIA 51 60 := ⟨by decide, fun _ => rfl, fun _ _ _ => rfl⟩
theorem ia52 : zIA 52 60 := ⟨by decide, fun _ => rfl, fun _ _ _ => rfl⟩
theorem ia53 : zIA 53 60 := ⟨by decide, fun _ => rfl, fun _ _ _ => rfl⟩
theorem ia54 : zIA 54 60 := ⟨by decide, fun _ => rfl, fun _ _ _ => rfl⟩
theorem ia55 : zIA 55 60 := ⟨by decide, fun _ => rfl, fun _ _ _ => rfl⟩
theorem ia56 : zIA 56 60 := ⟨by decide, fun _ => rfl, fun _ _ _ => rfl⟩
theorem ia57 : zIA 57 3 := ⟨by decide, fun _ => rfl, fun _ _ _ => rfl⟩
theorem ra58 : zRA 58 4 (.object "OffsetChains$Sheet") [some 59, some 61, some 63, some 65] := ⟨by decide, fun _ => rfl⟩
abbrev fs59 : zS → List Value := fun σ => [.int (zi (σ.1 59 0)), .int (zi (σ.1 59 1)), .int (zi (σ.1 59 2)), .ref 60]
theorem ob59 : zOB 59 3 fs59 := fun _ => rfl
theorem os59_0 : zOS 59 3 0 fs59 := fun _ _ => rfl
theorem os59_1 : zOS 59 3 1 fs59 := fun _ _ => rfl
theorem os59_2 : zOS 59 3 2 fs59 := fun _ _ => rfl
theorem la60 : zLA 60 60 := ⟨by decide, fun _ => rfl, fun _ _ _ => rfl⟩
abbrev fs61 : zS → List Value := fun σ => [.int (zi (σ.1 61 0)), .int (zi (σ.1 61 1)), .int (zi (σ.1 61 2)), .ref 62]
theorem ob61 : zOB 61 3 fs61 := fun _ => rfl
theorem os61_0 : zOS 61 3 0 fs61 := fun _ _ => rfl
theorem os61_1 : zOS 61 3 1 fs61 := fun _ _ => rfl
theorem os61_2 : zOS 61 3 2 fs61 := fun _ _ => rfl
theorem la62 : zLA 62 60 := ⟨by decide, fun _ => rfl, fun _ _ _ => rfl⟩
abbrev fs63 : zS → List Value := fun σ => [.int (zi (σ.1 63 0)), .int (zi (σ.1 63 1)), .int (zi (σ.1 63 2)), .ref 64]
theorem ob63 : zOB 63 3 fs63 := fun _ => rfl
theorem os63_0 : zOS 63 3 0 fs63 := fun _ _ => rfl
theorem os63_1 : zOS 63 3 1 fs63 := fun _ _ => rfl
theorem os63_2 : zOS 63 3 2 fs63 := fun _ _ => rfl
theorem la64 : zLA 64 60 := ⟨by decide, fun _ => rfl, fun _ _ _ => rfl⟩
abbrev fs65 : zS → List Value := fun σ => [.int (zi (σ.1 65 0)), .int (zi (σ.1 65 1)), .int (zi (σ.1 65 2)), .ref 66]
theorem ob65 : zOB 65 3 fs65 := fun _ => rfl
theorem os65_0 : zOS 65 3 0 fs65 := fun _ _ => rfl
theorem os65_1 : zOS 65 3 1 fs65 := fun _ _ => rfl
theorem os65_2 : zOS 65 3 2 fs65 := fun _ _ => rfl
theorem la66 : zLA 66 60 := ⟨by decide, fun _ => rfl, fun _ _ _ => rfl⟩
theorem ia67 : zIA 67 63 := ⟨by decide, fun _ => rfl, fun _ _ _ => rfl⟩
def zAb (b : Nat) : Prop := b = 14 ∨ b = 26
theorem iaA1 {b : Nat} (hb : zAb b) : zIA (b + 1) 3 := by rcases hb with rfl | rfl <;> first | exact ia15 | exact ia27
theorem iaA2 {b : Nat} (hb : zAb b) : zIA (b + 2) 9 := by rcases hb with rfl | rfl <;> first | exact ia16 | exact ia28
theorem iaA3 {b : Nat} (hb : zAb b) : zIA (b + 3) 9 := by rcases hb with rfl | rfl <;> first | exact ia17 | exact ia29
theorem iaA4 {b : Nat} (hb : zAb b) : zIA (b + 4) 9 := by rcases hb with rfl | rfl <;> first | exact ia18 | exact ia30
theorem iaA5 {b : Nat} (hb : zAb b) : zIA (b + 5) 9 := by rcases hb with rfl | rfl <;> first | exact ia19 | exact ia31
theorem iaA6 {b : Nat} (hb : zAb b) : zIA (b + 6) 9 := by rcases hb with rfl | rfl <;> first | exact ia20 | exact ia32
theorem iaA7 {b : Nat} (hb : zAb b) : zIA (b + 7) 27 := by rcases hb with rfl | rfl <;> first | exact ia21 | exact ia33
theorem iaA8 {b : Nat} (hb : zAb b) : zIA (b + 8) 27 := by rcases hb with rfl | rfl <;> first | exact ia22 | exact ia34
theorem iaA9 {b : Nat} (hb : zAb b) : zIA (b + 9) 9 := by rcases hb with rfl | rfl <;> first | exact ia23 | exact ia35
theorem iaA10 {b : Nat} (hb : zAb b) : zIA (b + 10) 3 := by rcases hb with rfl | rfl <;> first | exact ia24 | exact ia36
theorem iaA11 {b : Nat} (hb : zAb b) : zIA (b + 11) 3 := by rcases hb with rfl | rfl <;> first | exact ia25 | exact ia37
abbrev fsA (b : Nat) : zS → List Value := fun σ => [.ref 1, .ref (b + 1), .ref (b + 2), .ref (b + 3), .ref (b + 4), .ref (b + 5), .ref (b + 6), .ref (b + 7), .ref (b + 8), .ref (b + 9), .ref (b + 10), .ref (b + 11), .int (zi (σ.1 b 12)), .int (zi (σ.1 b 13)), .int (zi (σ.1 b 14)), .int (zi (σ.1 b 15)), .int (zi (σ.1 b 16)), .int (zi (σ.1 b 17))]
theorem obA {b : Nat} (hb : zAb b) : zOB b 0 (fsA b) := by rcases hb with rfl | rfl <;> exact fun _ => rfl
theorem osA_12 {b : Nat} (hb : zAb b) : zOS b 0 12 (fsA b) := by rcases hb with rfl | rfl <;> exact fun _ _ => rfl
theorem osA_13 {b : Nat} (hb : zAb b) : zOS b 0 13 (fsA b) := by rcases hb with rfl | rfl <;> exact fun _ _ => rfl
theorem osA_14 {b : Nat} (hb : zAb b) : zOS b 0 14 (fsA b) := by rcases hb with rfl | rfl <;> exact fun _ _ => rfl
theorem osA_15 {b : Nat} (hb : zAb b) : zOS b 0 15 (fsA b) := by rcases hb with rfl | rfl <;> exact fun _ _ => rfl
theorem osA_16 {b : Nat} (hb : zAb b) : zOS b 0 16 (fsA b) := by rcases hb with rfl | rfl <;> exact fun _ _ => rfl
theorem osA_17 {b : Nat} (hb : zAb b) : zOS b 0 17 (fsA b) := by rcases hb with rfl | rfl <;> exact fun _ _ => rfl
theorem zs4 {s : Nat} (h : s < 4) : s = 0 ∨ s = 1 ∨ s = 2 ∨ s = 3 := by omega
abbrev fsS (s : Nat) : zS → List Value := fun σ => [.int (zi (σ.1 (59 + 2 * s) 0)), .int (zi (σ.1 (59 + 2 * s) 1)), .int (zi (σ.1 (59 + 2 * s) 2)), .ref (60 + 2 * s)]
theorem obS {s : Nat} (h : s < 4) : zOB (59 + 2 * s) 3 (fsS s) := by rcases zs4 h with rfl | rfl | rfl | rfl <;> exact fun _ => rfl
theorem osS_0 {s : Nat} (h : s < 4) : zOS (59 + 2 * s) 3 0 (fsS s) := by rcases zs4 h with rfl | rfl | rfl | rfl <;> exact fun _ _ => rfl
theorem osS_1 {s : Nat} (h : s < 4) : zOS (59 + 2 * s) 3 1 (fsS s) := by rcases zs4 h with rfl | rfl | rfl | rfl <;> exact fun _ _ => rfl
theorem osS_2 {s : Nat} (h : s < 4) : zOS (59 + 2 * s) 3 2 (fsS s) := by rcases zs4 h with rfl | rfl | rfl | rfl <;> exact fun _ _ => rfl
theorem laS {s : Nat} (h : s < 4) : zLA (60 + 2 * s) 60 := by rcases zs4 h with rfl | rfl | rfl | rfl <;> first | exact la60 | exact la62 | exact la64 | exact la66
theorem iaT {k : Nat} (h : k < 5) : zIA (3 + k) 3 := by
  rcases (show k = 0 ∨ k = 1 ∨ k = 2 ∨ k = 3 ∨ k = 4 by omega) with rfl | rfl | rfl | rfl | rfl <;> first | exact ia3 | exact ia4 | exact ia5 | exact ia6 | exact ia7
theorem iaM {k : Nat} (h : k < 4) : zIA (9 + k) 9 := by
  rcases zs4 h with rfl | rfl | rfl | rfl <;> first | exact ia9 | exact ia10 | exact ia11 | exact ia12
theorem iaD {k : Nat} (h : k < 2) : zIA (41 + k) 300 := by
  rcases (show k = 0 ∨ k = 1 by omega) with rfl | rfl <;> first | exact ia41 | exact ia42
theorem iaE {k : Nat} (h : k < 9) : zIA (48 + k) 60 := by
  rcases (show k = 0 ∨ k = 1 ∨ k = 2 ∨ k = 3 ∨ k = 4 ∨ k = 5 ∨ k = 6 ∨ k = 7 ∨ k = 8 by omega) with rfl | rfl | rfl | rfl | rfl | rfl | rfl | rfl | rfl <;> first | exact ia48 | exact ia49 | exact ia50 | exact ia51 | exact ia52 | exact ia53 | exact ia54 | exact ia55 | exact ia56
end ZY
