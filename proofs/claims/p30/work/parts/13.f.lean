section ZW6
/-- what the constructors leave, with g in k -/
def s0i (c : Nat) (i : Int) : Int := match c with
  | 3 => if i < 3 then 20 else 0
  | 14 => if i = 16 then -1 else if i = 17 then 1 else 0
  | 26 => if i = 16 then -1 else if i = 17 then 1 else 0
  | 41 => if i < 300 then -1 else 0
  | 42 => if i < 300 then -1 else 0
  | 43 => if i < 9 then -1 else 0
  | 44 => if i < 9 then -1 else 0
  | 59 => if i = 0 then 1 else 0
  | 61 => if i = 0 then 1 else 0
  | 63 => if i = 0 then 1 else 0
  | 65 => if i = 0 then 1 else 0
  | _ => 0
def s0g (g : Int → Int) : zS := (fun c => if c = 67 then g else s0i c, fun _ _ => 0)
theorem zfle (N : Nat) (v : Int) (x : Int32) (hx : x = zi v) : zflf N x (fun _ => 0) = fun j : Nat => zi (if (j : Int) < (N : Int) then v else 0) := by
  subst hx
  funext j
  unfold zflf
  by_cases q : j < N
  · rw [if_pos q, if_pos (by omega)]
  · rw [if_neg q, if_neg (by omega)]
    rfl
theorem zfl00 (N : Nat) : zflf N 0 (fun _ => 0) = fun _ => 0 := by
  funext j
  unfold zflf
  split <;> rfl
def fL (k : Nat) : Nat := if k = 67 then 0 else if k < 67 then k + 1 else k
theorem fL_9 : ∀ k : Nat, 9000 ≤ k → fL k = k := fun k h => by
  unfold fL
  rw [if_neg (by omega), if_neg (by omega)]
theorem fL_i : ∀ i j : Nat, i < 68 → j < 68 → fL i = fL j → i = j := fun i j hi hj h => by
  unfold fL at h
  by_cases a : i = 67
  · by_cases b : j = 67
    · omega
    · rw [if_pos a, if_neg b, if_pos (by omega)] at h; omega
  · by_cases b : j = 67
    · rw [if_neg a, if_pos b, if_pos (by omega)] at h; omega
    · rw [if_neg a, if_neg b, if_pos (by omega), if_pos (by omega)] at h; omega
set_option maxRecDepth 20000 in
theorem rl_0 (g : Int → Int) : (wZ1 (fun j => zi (g j)))[1]? = some (zRn fL (.inr (4, [.ref 1, .ref 14, .ref 26, .ref 38, .ref 58, .int (zi ((s0g g).1 0 5))]))) := rfl
set_option maxRecDepth 20000 in
theorem rl_1 (g : Int → Int) : (wZ1 (fun j => zi (g j)))[2]? = some (zRn fL (.inr (2, [.ref 2, .ref 8, .ref 13]))) := rfl
set_option maxRecDepth 20000 in
theorem rl_2 (g : Int → Int) : (wZ1 (fun j => zi (g j)))[3]? = some (zRn fL (.inl (.array .int, 5, .inr (.inr [some 3, some 4, some 5, some 6, some 7])))) := rfl
set_option maxRecDepth 20000 in
theorem rl_3 (g : Int → Int) : (wZ1 (fun j => zi (g j)))[4]? = some (zRn fL (.inl (.int, 3, .inl (fun j => zi ((s0g g).1 3 j))))) := by
  show some (Sum.inl (FieldType.int, 3, Sum.inl (zflf 3 20 (fun _ => 0)))) = _
  rw [zfle 3 20 20 rfl]
  rfl
set_option maxRecDepth 20000 in
theorem rl_4 (g : Int → Int) : (wZ1 (fun j => zi (g j)))[5]? = some (zRn fL (.inl (.int, 3, .inl (fun j => zi ((s0g g).1 4 j))))) := rfl
set_option maxRecDepth 20000 in
theorem rl_5 (g : Int → Int) : (wZ1 (fun j => zi (g j)))[6]? = some (zRn fL (.inl (.int, 3, .inl (fun j => zi ((s0g g).1 5 j))))) := rfl
set_option maxRecDepth 20000 in
theorem rl_6 (g : Int → Int) : (wZ1 (fun j => zi (g j)))[7]? = some (zRn fL (.inl (.int, 3, .inl (fun j => zi ((s0g g).1 6 j))))) := rfl
set_option maxRecDepth 20000 in
theorem rl_7 (g : Int → Int) : (wZ1 (fun j => zi (g j)))[8]? = some (zRn fL (.inl (.int, 3, .inl (fun j => zi ((s0g g).1 7 j))))) := rfl
set_option maxRecDepth 20000 in
theorem rl_8 (g : Int → Int) : (wZ1 (fun j => zi (g j)))[9]? = some (zRn fL (.inl (.array .int, 4, .inr (.inr [some 9, some 10, some 11, some 12])))) := rfl
set_option maxRecDepth 20000 in
theorem rl_9 (g : Int → Int) : (wZ1 (fun j => zi (g j)))[10]? = some (zRn fL (.inl (.int, 9, .inl (fun j => zi ((s0g g).1 9 j))))) := rfl
set_option maxRecDepth 20000 in
theorem rl_10 (g : Int → Int) : (wZ1 (fun j => zi (g j)))[11]? = some (zRn fL (.inl (.int, 9, .inl (fun j => zi ((s0g g).1 10 j))))) := rfl
set_option maxRecDepth 20000 in
theorem rl_11 (g : Int → Int) : (wZ1 (fun j => zi (g j)))[12]? = some (zRn fL (.inl (.int, 9, .inl (fun j => zi ((s0g g).1 11 j))))) := rfl
set_option maxRecDepth 20000 in
theorem rl_12 (g : Int → Int) : (wZ1 (fun j => zi (g j)))[13]? = some (zRn fL (.inl (.int, 9, .inl (fun j => zi ((s0g g).1 12 j))))) := rfl
set_option maxRecDepth 20000 in
theorem rl_13 (g : Int → Int) : (wZ1 (fun j => zi (g j)))[14]? = some (zRn fL (.inl (.int, 3, .inl (fun j => zi ((s0g g).1 13 j))))) := rfl
set_option maxRecDepth 20000 in
theorem rl_14 (g : Int → Int) : (wZ1 (fun j => zi (g j)))[15]? = some (zRn fL (.inr (0, [.ref 1, .ref 15, .ref 16, .ref 17, .ref 18, .ref 19, .ref 20, .ref 21, .ref 22, .ref 23, .ref 24, .ref 25, .int (zi ((s0g g).1 14 12)), .int (zi ((s0g g).1 14 13)), .int (zi ((s0g g).1 14 14)), .int (zi ((s0g g).1 14 15)), .int (zi ((s0g g).1 14 16)), .int (zi ((s0g g).1 14 17))]))) := rfl
set_option maxRecDepth 20000 in
theorem rl_15 (g : Int → Int) : (wZ1 (fun j => zi (g j)))[16]? = some (zRn fL (.inl (.int, 3, .inl (fun j => zi ((s0g g).1 15 j))))) := rfl
set_option maxRecDepth 20000 in
theorem rl_16 (g : Int → Int) : (wZ1 (fun j => zi (g j)))[17]? = some (zRn fL (.inl (.int, 9, .inl (fun j => zi ((s0g g).1 16 j))))) := rfl
set_option maxRecDepth 20000 in
theorem rl_17 (g : Int → Int) : (wZ1 (fun j => zi (g j)))[18]? = some (zRn fL (.inl (.int, 9, .inl (fun j => zi ((s0g g).1 17 j))))) := rfl
set_option maxRecDepth 20000 in
theorem rl_18 (g : Int → Int) : (wZ1 (fun j => zi (g j)))[19]? = some (zRn fL (.inl (.int, 9, .inl (fun j => zi ((s0g g).1 18 j))))) := rfl
set_option maxRecDepth 20000 in
theorem rl_19 (g : Int → Int) : (wZ1 (fun j => zi (g j)))[20]? = some (zRn fL (.inl (.int, 9, .inl (fun j => zi ((s0g g).1 19 j))))) := rfl
set_option maxRecDepth 20000 in
theorem rl_20 (g : Int → Int) : (wZ1 (fun j => zi (g j)))[21]? = some (zRn fL (.inl (.int, 9, .inl (fun j => zi ((s0g g).1 20 j))))) := rfl
set_option maxRecDepth 20000 in
theorem rl_21 (g : Int → Int) : (wZ1 (fun j => zi (g j)))[22]? = some (zRn fL (.inl (.int, 27, .inl (fun j => zi ((s0g g).1 21 j))))) := rfl
set_option maxRecDepth 20000 in
theorem rl_22 (g : Int → Int) : (wZ1 (fun j => zi (g j)))[23]? = some (zRn fL (.inl (.int, 27, .inl (fun j => zi ((s0g g).1 22 j))))) := rfl
set_option maxRecDepth 20000 in
theorem rl_23 (g : Int → Int) : (wZ1 (fun j => zi (g j)))[24]? = some (zRn fL (.inl (.int, 9, .inl (fun j => zi ((s0g g).1 23 j))))) := rfl
set_option maxRecDepth 20000 in
theorem rl_24 (g : Int → Int) : (wZ1 (fun j => zi (g j)))[25]? = some (zRn fL (.inl (.int, 3, .inl (fun j => zi ((s0g g).1 24 j))))) := rfl
set_option maxRecDepth 20000 in
theorem rl_25 (g : Int → Int) : (wZ1 (fun j => zi (g j)))[26]? = some (zRn fL (.inl (.int, 3, .inl (fun j => zi ((s0g g).1 25 j))))) := rfl
set_option maxRecDepth 20000 in
theorem rl_26 (g : Int → Int) : (wZ1 (fun j => zi (g j)))[27]? = some (zRn fL (.inr (0, [.ref 1, .ref 27, .ref 28, .ref 29, .ref 30, .ref 31, .ref 32, .ref 33, .ref 34, .ref 35, .ref 36, .ref 37, .int (zi ((s0g g).1 26 12)), .int (zi ((s0g g).1 26 13)), .int (zi ((s0g g).1 26 14)), .int (zi ((s0g g).1 26 15)), .int (zi ((s0g g).1 26 16)), .int (zi ((s0g g).1 26 17))]))) := rfl
set_option maxRecDepth 20000 in
theorem rl_27 (g : Int → Int) : (wZ1 (fun j => zi (g j)))[28]? = some (zRn fL (.inl (.int, 3, .inl (fun j => zi ((s0g g).1 27 j))))) := rfl
set_option maxRecDepth 20000 in
theorem rl_28 (g : Int → Int) : (wZ1 (fun j => zi (g j)))[29]? = some (zRn fL (.inl (.int, 9, .inl (fun j => zi ((s0g g).1 28 j))))) := rfl
set_option maxRecDepth 20000 in
theorem rl_29 (g : Int → Int) : (wZ1 (fun j => zi (g j)))[30]? = some (zRn fL (.inl (.int, 9, .inl (fun j => zi ((s0g g).1 29 j))))) := rfl
set_option maxRecDepth 20000 in
theorem rl_30 (g : Int → Int) : (wZ1 (fun j => zi (g j)))[31]? = some (zRn fL (.inl (.int, 9, .inl (fun j => zi ((s0g g).1 30 j))))) := rfl
set_option maxRecDepth 20000 in
theorem rl_31 (g : Int → Int) : (wZ1 (fun j => zi (g j)))[32]? = some (zRn fL (.inl (.int, 9, .inl (fun j => zi ((s0g g).1 31 j))))) := rfl
set_option maxRecDepth 20000 in
theorem rl_32 (g : Int → Int) : (wZ1 (fun j => zi (g j)))[33]? = some (zRn fL (.inl (.int, 9, .inl (fun j => zi ((s0g g).1 32 j))))) := rfl
set_option maxRecDepth 20000 in
theorem rl_33 (g : Int → Int) : (wZ1 (fun j => zi (g j)))[34]? = some (zRn fL (.inl (.int, 27, .inl (fun j => zi ((s0g g).1 33 j))))) := rfl
set_option maxRecDepth 20000 in
theorem rl_34 (g : Int → Int) : (wZ1 (fun j => zi (g j)))[35]? = some (zRn fL (.inl (.int, 27, .inl (fun j => zi ((s0g g).1 34 j))))) := rfl
set_option maxRecDepth 20000 in
theorem rl_35 (g : Int → Int) : (wZ1 (fun j => zi (g j)))[36]? = some (zRn fL (.inl (.int, 9, .inl (fun j => zi ((s0g g).1 35 j))))) := rfl
set_option maxRecDepth 20000 in
theorem rl_36 (g : Int → Int) : (wZ1 (fun j => zi (g j)))[37]? = some (zRn fL (.inl (.int, 3, .inl (fun j => zi ((s0g g).1 36 j))))) := rfl
set_option maxRecDepth 20000 in
theorem rl_37 (g : Int → Int) : (wZ1 (fun j => zi (g j)))[38]? = some (zRn fL (.inl (.int, 3, .inl (fun j => zi ((s0g g).1 37 j))))) := rfl
set_option maxRecDepth 20000 in
theorem rl_38 (g : Int → Int) : (wZ1 (fun j => zi (g j)))[39]? = some (zRn fL (.inr (1, [.int (zi ((s0g g).1 38 0)), .int (zi ((s0g g).1 38 1)), .ref 39, .ref 40, .ref 43, .ref 44, .ref 45, .ref 46, .ref 47, .ref 57]))) := rfl
set_option maxRecDepth 20000 in
theorem rl_39 (g : Int → Int) : (wZ1 (fun j => zi (g j)))[40]? = some (zRn fL (.inl (.int, 2, .inl (fun j => zi ((s0g g).1 39 j))))) := by
  show some (Sum.inl (FieldType.int, 2, Sum.inl (zflf 2 0 (fun _ => 0)))) = _
  rw [zfl00 2]
  rfl
set_option maxRecDepth 20000 in
theorem rl_40 (g : Int → Int) : (wZ1 (fun j => zi (g j)))[41]? = some (zRn fL (.inl (.array .int, 2, .inr (.inr [some 41, some 42])))) := rfl
set_option maxRecDepth 20000 in
theorem rl_41 (g : Int → Int) : (wZ1 (fun j => zi (g j)))[42]? = some (zRn fL (.inl (.int, 300, .inl (fun j => zi ((s0g g).1 41 j))))) := by
  show some (Sum.inl (FieldType.int, 300, Sum.inl (zflf 300 (-1) (fun _ => 0)))) = _
  rw [zfle 300 (-1) (-1) rfl]
  rfl
set_option maxRecDepth 20000 in
theorem rl_42 (g : Int → Int) : (wZ1 (fun j => zi (g j)))[43]? = some (zRn fL (.inl (.int, 300, .inl (fun j => zi ((s0g g).1 42 j))))) := by
  show some (Sum.inl (FieldType.int, 300, Sum.inl (zflf 300 (-1) (fun _ => 0)))) = _
  rw [zfle 300 (-1) (-1) rfl]
  rfl
set_option maxRecDepth 20000 in
theorem rl_43 (g : Int → Int) : (wZ1 (fun j => zi (g j)))[44]? = some (zRn fL (.inl (.int, 9, .inl (fun j => zi ((s0g g).1 43 j))))) := by
  show some (Sum.inl (FieldType.int, 9, Sum.inl (zflf 9 (-1) (fun _ => 0)))) = _
  rw [zfle 9 (-1) (-1) rfl]
  rfl
set_option maxRecDepth 20000 in
theorem rl_44 (g : Int → Int) : (wZ1 (fun j => zi (g j)))[45]? = some (zRn fL (.inl (.int, 9, .inl (fun j => zi ((s0g g).1 44 j))))) := by
  show some (Sum.inl (FieldType.int, 9, Sum.inl (zflf 9 (-1) (fun _ => 0)))) = _
  rw [zfle 9 (-1) (-1) rfl]
  rfl
set_option maxRecDepth 20000 in
theorem rl_45 (g : Int → Int) : (wZ1 (fun j => zi (g j)))[46]? = some (zRn fL (.inl (.int, 9, .inl (fun j => zi ((s0g g).1 45 j))))) := by
  show some (Sum.inl (FieldType.int, 9, Sum.inl (zflf 9 0 (fun _ => 0)))) = _
  rw [zfl00 9]
  rfl
set_option maxRecDepth 20000 in
theorem rl_46 (g : Int → Int) : (wZ1 (fun j => zi (g j)))[47]? = some (zRn fL (.inl (.int, 9, .inl (fun j => zi ((s0g g).1 46 j))))) := by
  show some (Sum.inl (FieldType.int, 9, Sum.inl (zflf 9 0 (fun _ => 0)))) = _
  rw [zfl00 9]
  rfl
set_option maxRecDepth 20000 in
theorem rl_47 (g : Int → Int) : (wZ1 (fun j => zi (g j)))[48]? = some (zRn fL (.inl (.array .int, 9, .inr (.inr [some 48, some 49, some 50, some 51, some 52, some 53, some 54, some 55, some 56])))) := rfl
set_option maxRecDepth 20000 in
theorem rl_48 (g : Int → Int) : (wZ1 (fun j => zi (g j)))[49]? = some (zRn fL (.inl (.int, 60, .inl (fun j => zi ((s0g g).1 48 j))))) := rfl
set_option maxRecDepth 20000 in
theorem rl_49 (g : Int → Int) : (wZ1 (fun j => zi (g j)))[50]? = some (zRn fL (.inl (.int, 60, .inl (fun j => zi ((s0g g).1 49 j))))) := rfl
set_option maxRecDepth 20000 in
theorem rl_50 (g : Int → Int) : (wZ1 (fun j => zi (g j)))[51]? = some (zRn fL (.inl (.int, 60, .inl (fun j => zi ((s0g g).1 50 j))))) := rfl
set_option maxRecDepth 20000 in
theorem rl_51 (g : Int → Int) : (wZ1 (fun j => zi (g j)))[52]? = some (zRn fL (.inl (.int, 60, .inl (fun j => zi ((s0g g).1 51 j))))) := rfl
set_option maxRecDepth 20000 in
theorem rl_52 (g : Int → Int) : (wZ1 (fun j => zi (g j)))[53]? = some (zRn fL (.inl (.int, 60, .inl (fun j => zi ((s0g g).1 52 j))))) := rfl
set_option maxRecDepth 20000 in
theorem rl_53 (g : Int → Int) : (wZ1 (fun j => zi (g j)))[54]? = some (zRn fL (.inl (.int, 60, .inl (fun j => zi ((s0g g).1 53 j))))) := rfl
set_option maxRecDepth 20000 in
theorem rl_54 (g : Int → Int) : (wZ1 (fun j => zi (g j)))[55]? = some (zRn fL (.inl (.int, 60, .inl (fun j => zi ((s0g g).1 54 j))))) := rfl
set_option maxRecDepth 20000 in
theorem rl_55 (g : Int → Int) : (wZ1 (fun j => zi (g j)))[56]? = some (zRn fL (.inl (.int, 60, .inl (fun j => zi ((s0g g).1 55 j))))) := rfl
set_option maxRecDepth 20000 in
theorem rl_56 (g : Int → Int) : (wZ1 (fun j => zi (g j)))[57]? = some (zRn fL (.inl (.int, 60, .inl (fun j => zi ((s0g g).1 56 j))))) := rfl
set_option maxRecDepth 20000 in
theorem rl_57 (g : Int → Int) : (wZ1 (fun j => zi (g j)))[58]? = some (zRn fL (.inl (.int, 3, .inl (fun j => zi ((s0g g).1 57 j))))) := rfl
set_option maxRecDepth 20000 in
theorem rl_58 (g : Int → Int) : (wZ1 (fun j => zi (g j)))[59]? = some (zRn fL (.inl (.object "OffsetChains$Sheet", 4, .inr (.inr [some 59, some 61, some 63, some 65])))) := rfl
set_option maxRecDepth 20000 in
theorem rl_59 (g : Int → Int) : (wZ1 (fun j => zi (g j)))[60]? = some (zRn fL (.inr (3, [.int (zi ((s0g g).1 59 0)), .int (zi ((s0g g).1 59 1)), .int (zi ((s0g g).1 59 2)), .ref 60]))) := rfl
set_option maxRecDepth 20000 in
theorem rl_60 (g : Int → Int) : (wZ1 (fun j => zi (g j)))[61]? = some (zRn fL (.inl (.long, 60, .inr (.inl (fun j => zl ((s0g g).2 60 j)))))) := rfl
set_option maxRecDepth 20000 in
theorem rl_61 (g : Int → Int) : (wZ1 (fun j => zi (g j)))[62]? = some (zRn fL (.inr (3, [.int (zi ((s0g g).1 61 0)), .int (zi ((s0g g).1 61 1)), .int (zi ((s0g g).1 61 2)), .ref 62]))) := rfl
set_option maxRecDepth 20000 in
theorem rl_62 (g : Int → Int) : (wZ1 (fun j => zi (g j)))[63]? = some (zRn fL (.inl (.long, 60, .inr (.inl (fun j => zl ((s0g g).2 62 j)))))) := rfl
set_option maxRecDepth 20000 in
theorem rl_63 (g : Int → Int) : (wZ1 (fun j => zi (g j)))[64]? = some (zRn fL (.inr (3, [.int (zi ((s0g g).1 63 0)), .int (zi ((s0g g).1 63 1)), .int (zi ((s0g g).1 63 2)), .ref 64]))) := rfl
set_option maxRecDepth 20000 in
theorem rl_64 (g : Int → Int) : (wZ1 (fun j => zi (g j)))[65]? = some (zRn fL (.inl (.long, 60, .inr (.inl (fun j => zl ((s0g g).2 64 j)))))) := rfl
set_option maxRecDepth 20000 in
theorem rl_65 (g : Int → Int) : (wZ1 (fun j => zi (g j)))[66]? = some (zRn fL (.inr (3, [.int (zi ((s0g g).1 65 0)), .int (zi ((s0g g).1 65 1)), .int (zi ((s0g g).1 65 2)), .ref 66]))) := rfl
set_option maxRecDepth 20000 in
theorem rl_66 (g : Int → Int) : (wZ1 (fun j => zi (g j)))[67]? = some (zRn fL (.inl (.long, 60, .inr (.inl (fun j => zl ((s0g g).2 66 j)))))) := rfl
set_option maxRecDepth 20000 in
theorem rl_67 (g : Int → Int) : (wZ1 (fun j => zi (g j)))[0]? = some (zRn fL (.inl (.int, 63, .inl (fun j => zi ((s0g g).1 67 j))))) := rfl
set_option maxRecDepth 20000 in
theorem rl_all (g : Int → Int) : ∀ (k : Nat) (e : zE), (zHp (s0g g))[k]? = some e → (wZ1 (fun j => zi (g j)))[fL k]? = some (zRn fL e) := by
  intro k e h
  have hk : k < 68 := (List.getElem?_eq_some_iff.mp h).1
  by_cases q0 : k = 0
  · subst q0
    rw [← Option.some.inj ((show (zHp (s0g g))[0]? = some (.inr (4, [.ref 1, .ref 14, .ref 26, .ref 38, .ref 58, .int (zi ((s0g g).1 0 5))])) from rfl).symm.trans h)]
    exact rl_0 g
  by_cases q1 : k = 1
  · subst q1
    rw [← Option.some.inj ((show (zHp (s0g g))[1]? = some (.inr (2, [.ref 2, .ref 8, .ref 13])) from rfl).symm.trans h)]
    exact rl_1 g
  by_cases q2 : k = 2
  · subst q2
    rw [← Option.some.inj ((show (zHp (s0g g))[2]? = some (.inl (.array .int, 5, .inr (.inr [some 3, some 4, some 5, some 6, some 7]))) from rfl).symm.trans h)]
    exact rl_2 g
  by_cases q3 : k = 3
  · subst q3
    rw [← Option.some.inj ((show (zHp (s0g g))[3]? = some (.inl (.int, 3, .inl (fun j => zi ((s0g g).1 3 j)))) from rfl).symm.trans h)]
    exact rl_3 g
  by_cases q4 : k = 4
  · subst q4
    rw [← Option.some.inj ((show (zHp (s0g g))[4]? = some (.inl (.int, 3, .inl (fun j => zi ((s0g g).1 4 j)))) from rfl).symm.trans h)]
    exact rl_4 g
  by_cases q5 : k = 5
  · subst q5
    rw [← Option.some.inj ((show (zHp (s0g g))[5]? = some (.inl (.int, 3, .inl (fun j => zi ((s0g g).1 5 j)))) from rfl).symm.trans h)]
    exact rl_5 g
  by_cases q6 : k = 6
  · subst q6
    rw [← Option.some.inj ((show (zHp (s0g g))[6]? = some (.inl (.int, 3, .inl (fun j => zi ((s0g g).1 6 j)))) from rfl).symm.trans h)]
    exact rl_6 g
  by_cases q7 : k = 7
  · subst q7
    rw [← Option.some.inj ((show (zHp (s0g g))[7]? = some (.inl (.int, 3, .inl (fun j => zi ((s0g g).1 7 j)))) from rfl).symm.trans h)]
    exact rl_7 g
  by_cases q8 : k = 8
  · subst q8
    rw [← Option.some.inj ((show (zHp (s0g g))[8]? = some (.inl (.array .int, 4, .inr (.inr [some 9, some 10, some 11, some 12]))) from rfl).symm.trans h)]
    exact rl_8 g
  by_cases q9 : k = 9
  · subst q9
    rw [← Option.some.inj ((show (zHp (s0g g))[9]? = some (.inl (.int, 9, .inl (fun j => zi ((s0g g).1 9 j)))) from rfl).symm.trans h)]
    exact rl_9 g
  by_cases q10 : k = 10
  · subst q10
    rw [← Option.some.inj ((show (zHp (s0g g))[10]? = some (.inl (.int, 9, .inl (fun j => zi ((s0g g).1 10 j)))) from rfl).symm.trans h)]
    exact rl_10 g
  by_cases q11 : k = 11
  · subst q11
    rw [← Option.some.inj ((show (zHp (s0g g))[11]? = some (.inl (.int, 9, .inl (fun j => zi ((s0g g).1 11 j)))) from rfl).symm.trans h)]
    exact rl_11 g
  by_cases q12 : k = 12
  · subst q12
    rw [← Option.some.inj ((show (zHp (s0g g))[12]? = some (.inl (.int, 9, .inl (fun j => zi ((s0g g).1 12 j)))) from rfl).symm.trans h)]
    exact rl_12 g
  by_cases q13 : k = 13
  · subst q13
    rw [← Option.some.inj ((show (zHp (s0g g))[13]? = some (.inl (.int, 3, .inl (fun j => zi ((s0g g).1 13 j)))) from rfl).symm.trans h)]
    exact rl_13 g
  by_cases q14 : k = 14
  · subst q14
    rw [← Option.some.inj ((show (zHp (s0g g))[14]? = some (.inr (0, [.ref 1, .ref 15, .ref 16, .ref 17, .ref 18, .ref 19, .ref 20, .ref 21, .ref 22, .ref 23, .ref 24, .ref 25, .int (zi ((s0g g).1 14 12)), .int (zi ((s0g g).1 14 13)), .int (zi ((s0g g).1 14 14)), .int (zi ((s0g g).1 14 15)), .int (zi ((s0g g).1 14 16)), .int (zi ((s0g g).1 14 17))])) from rfl).symm.trans h)]
    exact rl_14 g
  by_cases q15 : k = 15
  · subst q15
    rw [← Option.some.inj ((show (zHp (s0g g))[15]? = some (.inl (.int, 3, .inl (fun j => zi ((s0g g).1 15 j)))) from rfl).symm.trans h)]
    exact rl_15 g
  by_cases q16 : k = 16
  · subst q16
    rw [← Option.some.inj ((show (zHp (s0g g))[16]? = some (.inl (.int, 9, .inl (fun j => zi ((s0g g).1 16 j)))) from rfl).symm.trans h)]
    exact rl_16 g
  by_cases q17 : k = 17
  · subst q17
    rw [← Option.some.inj ((show (zHp (s0g g))[17]? = some (.inl (.int, 9, .inl (fun j => zi ((s0g g).1 17 j)))) from rfl).symm.trans h)]
    exact rl_17 g
  by_cases q18 : k = 18
  · subst q18
    rw [← Option.some.inj ((show (zHp (s0g g))[18]? = some (.inl (.int, 9, .inl (fun j => zi ((s0g g).1 18 j)))) from rfl).symm.trans h)]
    exact rl_18 g
  by_cases q19 : k = 19
  · subst q19
    rw [← Option.some.inj ((show (zHp (s0g g))[19]? = some (.inl (.int, 9, .inl (fun j => zi ((s0g g).1 19 j)))) from rfl).symm.trans h)]
    exact rl_19 g
  by_cases q20 : k = 20
  · subst q20
    rw [← Option.some.inj ((show (zHp (s0g g))[20]? = some (.inl (.int, 9, .inl (fun j => zi ((s0g g).1 20 j)))) from rfl).symm.trans h)]
    exact rl_20 g
  by_cases q21 : k = 21
  · subst q21
    rw [← Option.some.inj ((show (zHp (s0g g))[21]? = some (.inl (.int, 27, .inl (fun j => zi ((s0g g).1 21 j)))) from rfl).symm.trans h)]
    exact rl_21 g
  by_cases q22 : k = 22
  · subst q22
    rw [← Option.some.inj ((show (zHp (s0g g))[22]? = some (.inl (.int, 27, .inl (fun j => zi ((s0g g).1 22 j)))) from rfl).symm.trans h)]
    exact rl_22 g
  by_cases q23 : k = 23
  · subst q23
    rw [← Option.some.inj ((show (zHp (s0g g))[23]? = some (.inl (.int, 9, .inl (fun j => zi ((s0g g).1 23 j)))) from rfl).symm.trans h)]
    exact rl_23 g
  by_cases q24 : k = 24
  · subst q24
    rw [← Option.some.inj ((show (zHp (s0g g))[24]? = some (.inl (.int, 3, .inl (fun j => zi ((s0g g).1 24 j)))) from rfl).symm.trans h)]
    exact rl_24 g
  by_cases q25 : k = 25
  · subst q25
    rw [← Option.some.inj ((show (zHp (s0g g))[25]? = some (.inl (.int, 3, .inl (fun j => zi ((s0g g).1 25 j)))) from rfl).symm.trans h)]
    exact rl_25 g
  by_cases q26 : k = 26
  · subst q26
    rw [← Option.some.inj ((show (zHp (s0g g))[26]? = some (.inr (0, [.ref 1, .ref 27, .ref 28, .ref 29, .ref 30, .ref 31, .ref 32, .ref 33, .ref 34, .ref 35, .ref 36, .ref 37, .int (zi ((s0g g).1 26 12)), .int (zi ((s0g g).1 26 13)), .int (zi ((s0g g).1 26 14)), .int (zi ((s0g g).1 26 15)), .int (zi ((s0g g).1 26 16)), .int (zi ((s0g g).1 26 17))])) from rfl).symm.trans h)]
    exact rl_26 g
  by_cases q27 : k = 27
  · subst q27
    rw [← Option.some.inj ((show (zHp (s0g g))[27]? = some (.inl (.int, 3, .inl (fun j => zi ((s0g g).1 27 j)))) from rfl).symm.trans h)]
    exact rl_27 g
  by_cases q28 : k = 28
  · subst q28
    rw [← Option.some.inj ((show (zHp (s0g g))[28]? = some (.inl (.int, 9, .inl (fun j => zi ((s0g g).1 28 j)))) from rfl).symm.trans h)]
    exact rl_28 g
  by_cases q29 : k = 29
  · subst q29
    rw [← Option.some.inj ((show (zHp (s0g g))[29]? = some (.inl (.int, 9, .inl (fun j => zi ((s0g g).1 29 j)))) from rfl).symm.trans h)]
    exact rl_29 g
  by_cases q30 : k = 30
  · subst q30
    rw [← Option.some.inj ((show (zHp (s0g g))[30]? = some (.inl (.int, 9, .inl (fun j => zi ((s0g g).1 30 j)))) from rfl).symm.trans h)]
    exact rl_30 g
  by_cases q31 : k = 31
  · subst q31
    rw [← Option.some.inj ((show (zHp (s0g g))[31]? = some (.inl (.int, 9, .inl (fun j => zi ((s0g g).1 31 j)))) from rfl).symm.trans h)]
    exact rl_31 g
  by_cases q32 : k = 32
  · subst q32
    rw [← Option.some.inj ((show (zHp (s0g g))[32]? = some (.inl (.int, 9, .inl (fun j => zi ((s0g g).1 32 j)))) from rfl).symm.trans h)]
    exact rl_32 g
  by_cases q33 : k = 33
  · subst q33
    rw [← Option.some.inj ((show (zHp (s0g g))[33]? = some (.inl (.int, 27, .inl (fun j => zi ((s0g g).1 33 j)))) from rfl).symm.trans h)]
    exact rl_33 g
  by_cases q34 : k = 34
  · subst q34
    rw [← Option.some.inj ((show (zHp (s0g g))[34]? = some (.inl (.int, 27, .inl (fun j => zi ((s0g g).1 34 j)))) from rfl).symm.trans h)]
    exact rl_34 g
  by_cases q35 : k = 35
  · subst q35
    rw [← Option.some.inj ((show (zHp (s0g g))[35]? = some (.inl (.int, 9, .inl (fun j => zi ((s0g g).1 35 j)))) from rfl).symm.trans h)]
    exact rl_35 g
  by_cases q36 : k = 36
  · subst q36
    rw [← Option.some.inj ((show (zHp (s0g g))[36]? = some (.inl (.int, 3, .inl (fun j => zi ((s0g g).1 36 j)))) from rfl).symm.trans h)]
    exact rl_36 g
  by_cases q37 : k = 37
  · subst q37
    rw [← Option.some.inj ((show (zHp (s0g g))[37]? = some (.inl (.int, 3, .inl (fun j => zi ((s0g g).1 37 j)))) from rfl).symm.trans h)]
    exact rl_37 g
  by_cases q38 : k = 38
  · subst q38
    rw [← Option.some.inj ((show (zHp (s0g g))[38]? = some (.inr (1, [.int (zi ((s0g g).1 38 0)), .int (zi ((s0g g).1 38 1)), .ref 39, .ref 40, .ref 43, .ref 44, .ref 45, .ref 46, .ref 47, .ref 57])) from rfl).symm.trans h)]
    exact rl_38 g
  by_cases q39 : k = 39
  · subst q39
    rw [← Option.some.inj ((show (zHp (s0g g))[39]? = some (.inl (.int, 2, .inl (fun j => zi ((s0g g).1 39 j)))) from rfl).symm.trans h)]
    exact rl_39 g
  by_cases q40 : k = 40
  · subst q40
    rw [← Option.some.inj ((show (zHp (s0g g))[40]? = some (.inl (.array .int, 2, .inr (.inr [some 41, some 42]))) from rfl).symm.trans h)]
    exact rl_40 g
  by_cases q41 : k = 41
  · subst q41
    rw [← Option.some.inj ((show (zHp (s0g g))[41]? = some (.inl (.int, 300, .inl (fun j => zi ((s0g g).1 41 j)))) from rfl).symm.trans h)]
    exact rl_41 g
  by_cases q42 : k = 42
  · subst q42
    rw [← Option.some.inj ((show (zHp (s0g g))[42]? = some (.inl (.int, 300, .inl (fun j => zi ((s0g g).1 42 j)))) from rfl).symm.trans h)]
    exact rl_42 g
  by_cases q43 : k = 43
  · subst q43
    rw [← Option.some.inj ((show (zHp (s0g g))[43]? = some (.inl (.int, 9, .inl (fun j => zi ((s0g g).1 43 j)))) from rfl).symm.trans h)]
    exact rl_43 g
  by_cases q44 : k = 44
  · subst q44
    rw [← Option.some.inj ((show (zHp (s0g g))[44]? = some (.inl (.int, 9, .inl (fun j => zi ((s0g g).1 44 j)))) from rfl).symm.trans h)]
    exact rl_44 g
  by_cases q45 : k = 45
  · subst q45
    rw [← Option.some.inj ((show (zHp (s0g g))[45]? = some (.inl (.int, 9, .inl (fun j => zi ((s0g g).1 45 j)))) from rfl).symm.trans h)]
    exact rl_45 g
  by_cases q46 : k = 46
  · subst q46
    rw [← Option.some.inj ((show (zHp (s0g g))[46]? = some (.inl (.int, 9, .inl (fun j => zi ((s0g g).1 46 j)))) from rfl).symm.trans h)]
    exact rl_46 g
  by_cases q47 : k = 47
  · subst q47
    rw [← Option.some.inj ((show (zHp (s0g g))[47]? = some (.inl (.array .int, 9, .inr (.inr [some 48, some 49, some 50, some 51, some 52, some 53, some 54, some 55, some 56]))) from rfl).symm.trans h)]
    exact rl_47 g
  by_cases q48 : k = 48
  · subst q48
    rw [← Option.some.inj ((show (zHp (s0g g))[48]? = some (.inl (.int, 60, .inl (fun j => zi ((s0g g).1 48 j)))) from rfl).symm.trans h)]
    exact rl_48 g
  by_cases q49 : k = 49
  · subst q49
    rw [← Option.some.inj ((show (zHp (s0g g))[49]? = some (.inl (.int, 60, .inl (fun j => zi ((s0g g).1 49 j)))) from rfl).symm.trans h)]
    exact rl_49 g
  by_cases q50 : k = 50
  · subst q50
    rw [← Option.some.inj ((show (zHp (s0g g))[50]? = some (.inl (.int, 60, .inl (fun j => zi ((s0g g).1 50 j)))) from rfl).symm.trans h)]
    exact rl_50 g
  by_cases q51 : k = 51
  · subst q51
    rw [← Option.some.inj ((show (zHp (s0g g))[51]? = some (.inl (.int, 60, .inl (fun j => zi ((s0g g).1 51 j)))) from rfl).symm.trans h)]
    exact rl_51 g
  by_cases q52 : k = 52
  · subst q52
    rw [← Option.some.inj ((show (zHp (s0g g))[52]? = some (.inl (.int, 60, .inl (fun j => zi ((s0g g).1 52 j)))) from rfl).symm.trans h)]
    exact rl_52 g
  by_cases q53 : k = 53
  · subst q53
    rw [← Option.some.inj ((show (zHp (s0g g))[53]? = some (.inl (.int, 60, .inl (fun j => zi ((s0g g).1 53 j)))) from rfl).symm.trans h)]
    exact rl_53 g
  by_cases q54 : k = 54
  · subst q54
    rw [← Option.some.inj ((show (zHp (s0g g))[54]? = some (.inl (.int, 60, .inl (fun j => zi ((s0g g).1 54 j)))) from rfl).symm.trans h)]
    exact rl_54 g
  by_cases q55 : k = 55
  · subst q55
    rw [← Option.some.inj ((show (zHp (s0g g))[55]? = some (.inl (.int, 60, .inl (fun j => zi ((s0g g).1 55 j)))) from rfl).symm.trans h)]
    exact rl_55 g
  by_cases q56 : k = 56
  · subst q56
    rw [← Option.some.inj ((show (zHp (s0g g))[56]? = some (.inl (.int, 60, .inl (fun j => zi ((s0g g).1 56 j)))) from rfl).symm.trans h)]
    exact rl_56 g
  by_cases q57 : k = 57
  · subst q57
    rw [← Option.some.inj ((show (zHp (s0g g))[57]? = some (.inl (.int, 3, .inl (fun j => zi ((s0g g).1 57 j)))) from rfl).symm.trans h)]
    exact rl_57 g
  by_cases q58 : k = 58
  · subst q58
    rw [← Option.some.inj ((show (zHp (s0g g))[58]? = some (.inl (.object "OffsetChains$Sheet", 4, .inr (.inr [some 59, some 61, some 63, some 65]))) from rfl).symm.trans h)]
    exact rl_58 g
  by_cases q59 : k = 59
  · subst q59
    rw [← Option.some.inj ((show (zHp (s0g g))[59]? = some (.inr (3, [.int (zi ((s0g g).1 59 0)), .int (zi ((s0g g).1 59 1)), .int (zi ((s0g g).1 59 2)), .ref 60])) from rfl).symm.trans h)]
    exact rl_59 g
  by_cases q60 : k = 60
  · subst q60
    rw [← Option.some.inj ((show (zHp (s0g g))[60]? = some (.inl (.long, 60, .inr (.inl (fun j => zl ((s0g g).2 60 j))))) from rfl).symm.trans h)]
    exact rl_60 g
  by_cases q61 : k = 61
  · subst q61
    rw [← Option.some.inj ((show (zHp (s0g g))[61]? = some (.inr (3, [.int (zi ((s0g g).1 61 0)), .int (zi ((s0g g).1 61 1)), .int (zi ((s0g g).1 61 2)), .ref 62])) from rfl).symm.trans h)]
    exact rl_61 g
  by_cases q62 : k = 62
  · subst q62
    rw [← Option.some.inj ((show (zHp (s0g g))[62]? = some (.inl (.long, 60, .inr (.inl (fun j => zl ((s0g g).2 62 j))))) from rfl).symm.trans h)]
    exact rl_62 g
  by_cases q63 : k = 63
  · subst q63
    rw [← Option.some.inj ((show (zHp (s0g g))[63]? = some (.inr (3, [.int (zi ((s0g g).1 63 0)), .int (zi ((s0g g).1 63 1)), .int (zi ((s0g g).1 63 2)), .ref 64])) from rfl).symm.trans h)]
    exact rl_63 g
  by_cases q64 : k = 64
  · subst q64
    rw [← Option.some.inj ((show (zHp (s0g g))[64]? = some (.inl (.long, 60, .inr (.inl (fun j => zl ((s0g g).2 64 j))))) from rfl).symm.trans h)]
    exact rl_64 g
  by_cases q65 : k = 65
  · subst q65
    rw [← Option.some.inj ((show (zHp (s0g g))[65]? = some (.inr (3, [.int (zi ((s0g g).1 65 0)), .int (zi ((s0g g).1 65 1)), .int (zi ((s0g g).1 65 2)), .ref 66])) from rfl).symm.trans h)]
    exact rl_65 g
  by_cases q66 : k = 66
  · subst q66
    rw [← Option.some.inj ((show (zHp (s0g g))[66]? = some (.inl (.long, 60, .inr (.inl (fun j => zl ((s0g g).2 66 j))))) from rfl).symm.trans h)]
    exact rl_66 g
  by_cases q67 : k = 67
  · subst q67
    rw [← Option.some.inj ((show (zHp (s0g g))[67]? = some (.inl (.int, 63, .inl (fun j => zi ((s0g g).1 67 j)))) from rfl).symm.trans h)]
    exact rl_67 g
  omega
theorem s0_TK (g : Int → Int) : TK (s0g g) 0 := by
  have c : ∀ k : Nat, k ≠ 67 → (s0g g).1 k = s0i k := fun k hk => if_neg hk
  have hc : ∀ k : Nat, cP (s0g g) k = s0i (cC k) := fun k => by
    rw [cP_k, c _ (by rcases k with _ | _ | _ | _ | _ | _ | _ | _ | _ | k <;> first | decide | (show (12 : Nat) ≠ 67; decide))]
  have hth : ∀ x : Int, 0 ≤ x → ¬ th (cP (s0g g)) x := fun x hx h => by
    have h1 : x % 3 < 0 := by
      have h2 : x % 3 < cP (s0g g) 5 (x / 3) := h
      rw [hc] at h2
      exact h2
    omega
  refine ⟨⟨⟨fun i a b => ?_, fun x a b => ?_, fun x a b h => absurd h (hth x a)⟩, fun x a b => ?_⟩, by rw [c 14 (by omega)]; rfl, fun y a b => by rw [c 5 (by omega)]; rfl, fun y a b => ⟨by rw [c 3 (by omega)]; exact if_pos b, by rw [c 4 (by omega)]; rfl, by rw [c 6 (by omega)]; rfl, by rw [c 7 (by omega)]; rfl, by rw [c 13 (by omega)]; rfl⟩, fun y a b => by omega⟩
  · have e0 : cP (s0g g) 0 i = 20 := by rw [hc]; exact if_pos b
    have e1 : cP (s0g g) 1 i = 0 := by rw [hc]; rfl
    have e2 : cP (s0g g) 2 i = 0 := by rw [hc]; rfl
    have e3 : cP (s0g g) 3 i = 0 := by rw [hc]; rfl
    have e4 : cP (s0g g) 4 i = 0 := by rw [hc]; rfl
    have e5 : cP (s0g g) 5 i = 0 := by rw [hc]; rfl
    omega
  · have e6 : cP (s0g g) 6 x = 0 := by rw [hc]; rfl
    have e7 : cP (s0g g) 7 x = 0 := by rw [hc]; rfl
    have e8 : cP (s0g g) 8 x = 0 := by rw [hc]; rfl
    have e9 : cP (s0g g) 9 x = 0 := by rw [hc]; rfl
    omega
  · have e7 : cP (s0g g) 7 x = 0 := by rw [hc]; rfl
    omega
end ZW6
