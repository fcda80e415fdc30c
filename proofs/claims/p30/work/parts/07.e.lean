section ZK4
variable {σ : zS}
section RR2
variable {d : Nat} {μ : zU} {pc idx : Nat} {L : List (Option Value)} {st : List Value} {P : Option Value → zS → Prop} {x y : Int32}
theorem Y.iadd_ (hdg : decode μ.2.1 pc = .ok (.iadd, 1)) (k : Y d μ (pc + 1) L (.int (x + y) :: st) σ P) : Y d μ pc L (.int y :: .int x :: st) σ P := Z.iadd hdg k
theorem Y.isub_ (hdg : decode μ.2.1 pc = .ok (.isub, 1)) (k : Y d μ (pc + 1) L (.int (x - y) :: st) σ P) : Y d μ pc L (.int y :: .int x :: st) σ P := Z.isub hdg k
theorem Y.ldcw (v : Int) (hdg : decode μ.2.1 pc = .ok (.ldc_w idx, 3)) (hw : Cond.constant μ.1.cls idx (zi v) ∈ zWd) (k : Y d μ (pc + 3) L (.int (zi v) :: st) σ P) : Y d μ pc L st σ P := Z.pure (fun hx hb ho ht w => lv_ldcw hx hb ho (ht _ hw) hdg w) k
theorem Y.iretr (v : Int) (hdg : decode μ.2.1 pc = .ok (.ireturn, 1)) (hr : μ.2.2.2 = some .int) (hv : x = zi v) (hp : P (some (.int (zi v))) σ) : Y d μ pc L [.int x] σ P := by
  rw [hv]
  exact Y.iret hdg hr hp
/-- an int as it is held -/
def wi (a : Int) : Int := (zi a).toInt
theorem wi_B (a : Int) : zB (wi a) := ⟨Int32.le_toInt _, Int32.toInt_lt _⟩
theorem Y.i2lw {a : Int} (hdg : decode μ.2.1 pc = .ok (.i2l, 1)) (k : Y d μ (pc + 1) L (.long (zl (wi a)) :: st) σ P) : Y d μ pc L (.int (zi a) :: st) σ P := by
  have e : zi a = zi (wi a) := (Int32.ofInt_toInt _).symm
  rw [e]
  exact Y.i2l hdg (wi_B a) k
end RR2
set_option maxHeartbeats 2000000 in
theorem c_J6_bitCount {b : Int} (h0 : 0 ≤ b) (h8 : b < 8) : YI 0 μJ6_bitCount_0f7a4 [.int (zi b)] σ (b % 2 + b / 2 % 2 + b / 4) σ := by
  refine YC.ofJ (by decide +kernel) (Nat.le_of_ble_eq_true rfl) (fun d P hd hP => ?_)
  rcases (show b = 0 ∨ b = 1 ∨ b = 2 ∨ b = 3 ∨ b = 4 ∨ b = 5 ∨ b = 6 ∨ b = 7 by omega) with rfl | rfl | rfl | rfl | rfl | rfl | rfl | rfl
  · refine Y.iload_n dJ6_bitCount_0f7a4_0 rfl ?_
    refine Y.iload_n dJ6_bitCount_0f7a4_1 rfl ?_
    refine Y.iconst dJ6_bitCount_0f7a4_2 ?_
    refine Y.iushr_ dJ6_bitCount_0f7a4_3 ?_
    refine Y.ldcw (1431655765) dJ6_bitCount_0f7a4_4 kJ6_265 ?_
    refine Y.iand_ dJ6_bitCount_0f7a4_7 ?_
    refine Y.isub_ dJ6_bitCount_0f7a4_8 ?_
    refine Y.istore_n dJ6_bitCount_0f7a4_9 (by decide) rfl ?_
    refine Y.iload_n dJ6_bitCount_0f7a4_10 rfl ?_
    refine Y.ldcw (858993459) dJ6_bitCount_0f7a4_11 kJ6_266 ?_
    refine Y.iand_ dJ6_bitCount_0f7a4_14 ?_
    refine Y.iload_n dJ6_bitCount_0f7a4_15 rfl ?_
    refine Y.iconst dJ6_bitCount_0f7a4_16 ?_
    refine Y.iushr_ dJ6_bitCount_0f7a4_17 ?_
    refine Y.ldcw (858993459) dJ6_bitCount_0f7a4_18 kJ6_266 ?_
    refine Y.iand_ dJ6_bitCount_0f7a4_21 ?_
    refine Y.iadd_ dJ6_bitCount_0f7a4_22 ?_
    refine Y.istore_n dJ6_bitCount_0f7a4_23 (by decide) rfl ?_
    refine Y.iload_n dJ6_bitCount_0f7a4_24 rfl ?_
    refine Y.iload_n dJ6_bitCount_0f7a4_25 rfl ?_
    refine Y.iconst dJ6_bitCount_0f7a4_26 ?_
    refine Y.iushr_ dJ6_bitCount_0f7a4_27 ?_
    refine Y.iadd_ dJ6_bitCount_0f7a4_28 ?_
    refine Y.ldcw (252645135) dJ6_bitCount_0f7a4_29 kJ6_267 ?_
    refine Y.iand_ dJ6_bitCount_0f7a4_32 ?_
    refine Y.istore_n dJ6_bitCount_0f7a4_33 (by decide) rfl ?_
    refine Y.iload_n dJ6_bitCount_0f7a4_34 rfl ?_
    refine Y.iload_n dJ6_bitCount_0f7a4_35 rfl ?_
    refine Y.bipush dJ6_bitCount_0f7a4_36 (by decide +kernel) ?_
    refine Y.iushr_ dJ6_bitCount_0f7a4_38 ?_
    refine Y.iadd_ dJ6_bitCount_0f7a4_39 ?_
    refine Y.istore_n dJ6_bitCount_0f7a4_40 (by decide) rfl ?_
    refine Y.iload_n dJ6_bitCount_0f7a4_41 rfl ?_
    refine Y.iload_n dJ6_bitCount_0f7a4_42 rfl ?_
    refine Y.bipush dJ6_bitCount_0f7a4_43 (by decide +kernel) ?_
    refine Y.iushr_ dJ6_bitCount_0f7a4_45 ?_
    refine Y.iadd_ dJ6_bitCount_0f7a4_46 ?_
    refine Y.istore_n dJ6_bitCount_0f7a4_47 (by decide) rfl ?_
    refine Y.iload_n dJ6_bitCount_0f7a4_48 rfl ?_
    refine Y.bipush dJ6_bitCount_0f7a4_49 (by decide +kernel) ?_
    refine Y.iand_ dJ6_bitCount_0f7a4_51 ?_
    exact Y.iretr 0 dJ6_bitCount_0f7a4_52 rfl (by decide +kernel) (hP _ _ ⟨rfl, rfl⟩)
  · refine Y.iload_n dJ6_bitCount_0f7a4_0 rfl ?_
    refine Y.iload_n dJ6_bitCount_0f7a4_1 rfl ?_
    refine Y.iconst dJ6_bitCount_0f7a4_2 ?_
    refine Y.iushr_ dJ6_bitCount_0f7a4_3 ?_
    refine Y.ldcw (1431655765) dJ6_bitCount_0f7a4_4 kJ6_265 ?_
    refine Y.iand_ dJ6_bitCount_0f7a4_7 ?_
    refine Y.isub_ dJ6_bitCount_0f7a4_8 ?_
    refine Y.istore_n dJ6_bitCount_0f7a4_9 (by decide) rfl ?_
    refine Y.iload_n dJ6_bitCount_0f7a4_10 rfl ?_
    refine Y.ldcw (858993459) dJ6_bitCount_0f7a4_11 kJ6_266 ?_
    refine Y.iand_ dJ6_bitCount_0f7a4_14 ?_
    refine Y.iload_n dJ6_bitCount_0f7a4_15 rfl ?_
    refine Y.iconst dJ6_bitCount_0f7a4_16 ?_
    refine Y.iushr_ dJ6_bitCount_0f7a4_17 ?_
    refine Y.ldcw (858993459) dJ6_bitCount_0f7a4_18 kJ6_266 ?_
    refine Y.iand_ dJ6_bitCount_0f7a4_21 ?_
    refine Y.iadd_ dJ6_bitCount_0f7a4_22 ?_
    refine Y.istore_n dJ6_bitCount_0f7a4_23 (by decide) rfl ?_
    refine Y.iload_n dJ6_bitCount_0f7a4_24 rfl ?_
    refine Y.iload_n dJ6_bitCount_0f7a4_25 rfl ?_
    refine Y.iconst dJ6_bitCount_0f7a4_26 ?_
    refine Y.iushr_ dJ6_bitCount_0f7a4_27 ?_
    refine Y.iadd_ dJ6_bitCount_0f7a4_28 ?_
    refine Y.ldcw (252645135) dJ6_bitCount_0f7a4_29 kJ6_267 ?_
    refine Y.iand_ dJ6_bitCount_0f7a4_32 ?_
    refine Y.istore_n dJ6_bitCount_0f7a4_33 (by decide) rfl ?_
    refine Y.iload_n dJ6_bitCount_0f7a4_34 rfl ?_
    refine Y.iload_n dJ6_bitCount_0f7a4_35 rfl ?_
    refine Y.bipush dJ6_bitCount_0f7a4_36 (by decide +kernel) ?_
    refine Y.iushr_ dJ6_bitCount_0f7a4_38 ?_
    refine Y.iadd_ dJ6_bitCount_0f7a4_39 ?_
    refine Y.istore_n dJ6_bitCount_0f7a4_40 (by decide) rfl ?_
    refine Y.iload_n dJ6_bitCount_0f7a4_41 rfl ?_
    refine Y.iload_n dJ6_bitCount_0f7a4_42 rfl ?_
    refine Y.bipush dJ6_bitCount_0f7a4_43 (by decide +kernel) ?_
    refine Y.iushr_ dJ6_bitCount_0f7a4_45 ?_
    refine Y.iadd_ dJ6_bitCount_0f7a4_46 ?_
    refine Y.istore_n dJ6_bitCount_0f7a4_47 (by decide) rfl ?_
    refine Y.iload_n dJ6_bitCount_0f7a4_48 rfl ?_
    refine Y.bipush dJ6_bitCount_0f7a4_49 (by decide +kernel) ?_
    refine Y.iand_ dJ6_bitCount_0f7a4_51 ?_
    exact Y.iretr 1 dJ6_bitCount_0f7a4_52 rfl (by decide +kernel) (hP _ _ ⟨rfl, rfl⟩)
  · refine Y.iload_n dJ6_bitCount_0f7a4_0 rfl ?_
    refine Y.iload_n dJ6_bitCount_0f7a4_1 rfl ?_
    refine Y.iconst dJ6_bitCount_0f7a4_2 ?_
    refine Y.iushr_ dJ6_bitCount_0f7a4_3 ?_
    refine Y.ldcw (1431655765) dJ6_bitCount_0f7a4_4 kJ6_265 ?_
    refine Y.iand_ dJ6_bitCount_0f7a4_7 ?_
    refine Y.isub_ dJ6_bitCount_0f7a4_8 ?_
    refine Y.istore_n dJ6_bitCount_0f7a4_9 (by decide) rfl ?_
    refine Y.iload_n dJ6_bitCount_0f7a4_10 rfl ?_
    refine Y.ldcw (858993459) dJ6_bitCount_0f7a4_11 kJ6_266 ?_
    refine Y.iand_ dJ6_bitCount_0f7a4_14 ?_
    refine Y.iload_n dJ6_bitCount_0f7a4_15 rfl ?_
    refine Y.iconst dJ6_bitCount_0f7a4_16 ?_
    refine Y.iushr_ dJ6_bitCount_0f7a4_17 ?_
    refine Y.ldcw (858993459) dJ6_bitCount_0f7a4_18 kJ6_266 ?_
    refine Y.iand_ dJ6_bitCount_0f7a4_21 ?_
    refine Y.iadd_ dJ6_bitCount_0f7a4_22 ?_
    refine Y.istore_n dJ6_bitCount_0f7a4_23 (by decide) rfl ?_
    refine Y.iload_n dJ6_bitCount_0f7a4_24 rfl ?_
    refine Y.iload_n dJ6_bitCount_0f7a4_25 rfl ?_
    refine Y.iconst dJ6_bitCount_0f7a4_26 ?_
    refine Y.iushr_ dJ6_bitCount_0f7a4_27 ?_
    refine Y.iadd_ dJ6_bitCount_0f7a4_28 ?_
    refine Y.ldcw (252645135) dJ6_bitCount_0f7a4_29 kJ6_267 ?_
    refine Y.iand_ dJ6_bitCount_0f7a4_32 ?_
    refine Y.istore_n dJ6_bitCount_0f7a4_33 (by decide) rfl ?_
    refine Y.iload_n dJ6_bitCount_0f7a4_34 rfl ?_
    refine Y.iload_n dJ6_bitCount_0f7a4_35 rfl ?_
    refine Y.bipush dJ6_bitCount_0f7a4_36 (by decide +kernel) ?_
    refine Y.iushr_ dJ6_bitCount_0f7a4_38 ?_
    refine Y.iadd_ dJ6_bitCount_0f7a4_39 ?_
    refine Y.istore_n dJ6_bitCount_0f7a4_40 (by decide) rfl ?_
    refine Y.iload_n dJ6_bitCount_0f7a4_41 rfl ?_
    refine Y.iload_n dJ6_bitCount_0f7a4_42 rfl ?_
    refine Y.bipush dJ6_bitCount_0f7a4_43 (by decide +kernel) ?_
    refine Y.iushr_ dJ6_bitCount_0f7a4_45 ?_
    refine Y.iadd_ dJ6_bitCount_0f7a4_46 ?_
    refine Y.istore_n dJ6_bitCount_0f7a4_47 (by decide) rfl ?_
    refine Y.iload_n dJ6_bitCount_0f7a4_48 rfl ?_
    refine Y.bipush dJ6_bitCount_0f7a4_49 (by decide +kernel) ?_
    refine Y.iand_ dJ6_bitCount_0f7a4_51 ?_
    exact Y.iretr 1 dJ6_bitCount_0f7a4_52 rfl (by decide +kernel) (hP _ _ ⟨rfl, rfl⟩)
  · refine Y.iload_n dJ6_bitCount_0f7a4_0 rfl ?_
    refine Y.iload_n dJ6_bitCount_0f7a4_1 rfl ?_
    refine Y.iconst dJ6_bitCount_0f7a4_2 ?_
    refine Y.iushr_ dJ6_bitCount_0f7a4_3 ?_
    refine Y.ldcw (1431655765) dJ6_bitCount_0f7a4_4 kJ6_265 ?_
    refine Y.iand_ dJ6_bitCount_0f7a4_7 ?_
    refine Y.isub_ dJ6_bitCount_0f7a4_8 ?_
    refine Y.istore_n dJ6_bitCount_0f7a4_9 (by decide) rfl ?_
    refine Y.iload_n dJ6_bitCount_0f7a4_10 rfl ?_
    refine Y.ldcw (858993459) dJ6_bitCount_0f7a4_11 kJ6_266 ?_
    refine Y.iand_ dJ6_bitCount_0f7a4_14 ?_
    refine Y.iload_n dJ6_bitCount_0f7a4_15 rfl ?_
    refine Y.iconst dJ6_bitCount_0f7a4_16 ?_
    refine Y.iushr_ dJ6_bitCount_0f7a4_17 ?_
    refine Y.ldcw (858993459) dJ6_bitCount_0f7a4_18 kJ6_266 ?_
    refine Y.iand_ dJ6_bitCount_0f7a4_21 ?_
    refine Y.iadd_ dJ6_bitCount_0f7a4_22 ?_
    refine Y.istore_n dJ6_bitCount_0f7a4_23 (by decide) rfl ?_
    refine Y.iload_n dJ6_bitCount_0f7a4_24 rfl ?_
    refine Y.iload_n dJ6_bitCount_0f7a4_25 rfl ?_
    refine Y.iconst dJ6_bitCount_0f7a4_26 ?_
    refine Y.iushr_ dJ6_bitCount_0f7a4_27 ?_
    refine Y.iadd_ dJ6_bitCount_0f7a4_28 ?_
    refine Y.ldcw (252645135) dJ6_bitCount_0f7a4_29 kJ6_267 ?_
    refine Y.iand_ dJ6_bitCount_0f7a4_32 ?_
    refine Y.istore_n dJ6_bitCount_0f7a4_33 (by decide) rfl ?_
    refine Y.iload_n dJ6_bitCount_0f7a4_34 rfl ?_
    refine Y.iload_n dJ6_bitCount_0f7a4_35 rfl ?_
    refine Y.bipush dJ6_bitCount_0f7a4_36 (by decide +kernel) ?_
    refine Y.iushr_ dJ6_bitCount_0f7a4_38 ?_
    refine Y.iadd_ dJ6_bitCount_0f7a4_39 ?_
    refine Y.istore_n dJ6_bitCount_0f7a4_40 (by decide) rfl ?_
    refine Y.iload_n dJ6_bitCount_0f7a4_41 rfl ?_
    refine Y.iload_n dJ6_bitCount_0f7a4_42 rfl ?_
    refine Y.bipush dJ6_bitCount_0f7a4_43 (by decide +kernel) ?_
    refine Y.iushr_ dJ6_bitCount_0f7a4_45 ?_
    refine Y.iadd_ dJ6_bitCount_0f7a4_46 ?_
    refine Y.istore_n dJ6_bitCount_0f7a4_47 (by decide) rfl ?_
    refine Y.iload_n dJ6_bitCount_0f7a4_48 rfl ?_
    refine Y.bipush dJ6_bitCount_0f7a4_49 (by decide +kernel) ?_
    refine Y.iand_ dJ6_bitCount_0f7a4_51 ?_
    exact Y.iretr 2 dJ6_bitCount_0f7a4_52 rfl (by decide +kernel) (hP _ _ ⟨rfl, rfl⟩)
  · refine Y.iload_n dJ6_bitCount_0f7a4_0 rfl ?_
    refine Y.iload_n dJ6_bitCount_0f7a4_1 rfl ?_
    refine Y.iconst dJ6_bitCount_0f7a4_2 ?_
    refine Y.iushr_ dJ6_bitCount_0f7a4_3 ?_
    refine Y.ldcw (1431655765) dJ6_bitCount_0f7a4_4 kJ6_265 ?_
    refine Y.iand_ dJ6_bitCount_0f7a4_7 ?_
    refine Y.isub_ dJ6_bitCount_0f7a4_8 ?_
    refine Y.istore_n dJ6_bitCount_0f7a4_9 (by decide) rfl ?_
    refine Y.iload_n dJ6_bitCount_0f7a4_10 rfl ?_
    refine Y.ldcw (858993459) dJ6_bitCount_0f7a4_11 kJ6_266 ?_
    refine Y.iand_ dJ6_bitCount_0f7a4_14 ?_
    refine Y.iload_n dJ6_bitCount_0f7a4_15 rfl ?_
    refine Y.iconst dJ6_bitCount_0f7a4_16 ?_
    refine Y.iushr_ dJ6_bitCount_0f7a4_17 ?_
    refine Y.ldcw (858993459) dJ6_bitCount_0f7a4_18 kJ6_266 ?_
    refine Y.iand_ dJ6_bitCount_0f7a4_21 ?_
    refine Y.iadd_ dJ6_bitCount_0f7a4_22 ?_
    refine Y.istore_n dJ6_bitCount_0f7a4_23 (by decide) rfl ?_
    refine Y.iload_n dJ6_bitCount_0f7a4_24 rfl ?_
    refine Y.iload_n dJ6_bitCount_0f7a4_25 rfl ?_
    refine Y.iconst dJ6_bitCount_0f7a4_26 ?_
    refine Y.iushr_ dJ6_bitCount_0f7a4_27 ?_
    refine Y.iadd_ dJ6_bitCount_0f7a4_28 ?_
    refine Y.ldcw (252645135) dJ6_bitCount_0f7a4_29 kJ6_267 ?_
    refine Y.iand_ dJ6_bitCount_0f7a4_32 ?_
    refine Y.istore_n dJ6_bitCount_0f7a4_33 (by decide) rfl ?_
    refine Y.iload_n dJ6_bitCount_0f7a4_34 rfl ?_
    refine Y.iload_n dJ6_bitCount_0f7a4_35 rfl ?_
    refine Y.bipush dJ6_bitCount_0f7a4_36 (by decide +kernel) ?_
    refine Y.iushr_ dJ6_bitCount_0f7a4_38 ?_
    refine Y.iadd_ dJ6_bitCount_0f7a4_39 ?_
    refine Y.istore_n dJ6_bitCount_0f7a4_40 (by decide) rfl ?_
    refine Y.iload_n dJ6_bitCount_0f7a4_41 rfl ?_
    refine Y.iload_n dJ6_bitCount_0f7a4_42 rfl ?_
    refine Y.bipush dJ6_bitCount_0f7a4_43 (by decide +kernel) ?_
    refine Y.iushr_ dJ6_bitCount_0f7a4_45 ?_
    refine Y.iadd_ dJ6_bitCount_0f7a4_46 ?_
    refine Y.istore_n dJ6_bitCount_0f7a4_47 (by decide) rfl ?_
    refine Y.iload_n dJ6_bitCount_0f7a4_48 rfl ?_
    refine Y.bipush dJ6_bitCount_0f7a4_49 (by decide +kernel) ?_
    refine Y.iand_ dJ6_bitCount_0f7a4_51 ?_
    exact Y.iretr 1 dJ6_bitCount_0f7a4_52 rfl (by decide +kernel) (hP _ _ ⟨rfl, rfl⟩)
  · refine Y.iload_n dJ6_bitCount_0f7a4_0 rfl ?_
    refine Y.iload_n dJ6_bitCount_0f7a4_1 rfl ?_
    refine Y.iconst dJ6_bitCount_0f7a4_2 ?_
    refine Y.iushr_ dJ6_bitCount_0f7a4_3 ?_
    refine Y.ldcw (1431655765) dJ6_bitCount_0f7a4_4 kJ6_265 ?_
    refine Y.iand_ dJ6_bitCount_0f7a4_7 ?_
    refine Y.isub_ dJ6_bitCount_0f7a4_8 ?_
    refine Y.istore_n dJ6_bitCount_0f7a4_9 (by decide) rfl ?_
    refine Y.iload_n dJ6_bitCount_0f7a4_10 rfl ?_
    refine Y.ldcw (858993459) dJ6_bitCount_0f7a4_11 kJ6_266 ?_
    refine Y.iand_ dJ6_bitCount_0f7a4_14 ?_
    refine Y.iload_n dJ6_bitCount_0f7a4_15 rfl ?_
    refine Y.iconst dJ6_bitCount_0f7a4_16 ?_
    refine Y.iushr_ dJ6_bitCount_0f7a4_17 ?_
    refine Y.ldcw (858993459) dJ6_bitCount_0f7a4_18 kJ6_266 ?_
    refine Y.iand_ dJ6_bitCount_0f7a4_21 ?_
    refine Y.iadd_ dJ6_bitCount_0f7a4_22 ?_
    refine Y.istore_n dJ6_bitCount_0f7a4_23 (by decide) rfl ?_
    refine Y.iload_n dJ6_bitCount_0f7a4_24 rfl ?_
    refine Y.iload_n dJ6_bitCount_0f7a4_25 rfl ?_
    refine Y.iconst dJ6_bitCount_0f7a4_26 ?_
    refine Y.iushr_ dJ6_bitCount_0f7a4_27 ?_
    refine Y.iadd_ dJ6_bitCount_0f7a4_28 ?_
    refine Y.ldcw (252645135) dJ6_bitCount_0f7a4_29 kJ6_267 ?_
    refine Y.iand_ dJ6_bitCount_0f7a4_32 ?_
    refine Y.istore_n dJ6_bitCount_0f7a4_33 (by decide) rfl ?_
    refine Y.iload_n dJ6_bitCount_0f7a4_34 rfl ?_
    refine Y.iload_n dJ6_bitCount_0f7a4_35 rfl ?_
    refine Y.bipush dJ6_bitCount_0f7a4_36 (by decide +kernel) ?_
    refine Y.iushr_ dJ6_bitCount_0f7a4_38 ?_
    refine Y.iadd_ dJ6_bitCount_0f7a4_39 ?_
    refine Y.istore_n dJ6_bitCount_0f7a4_40 (by decide) rfl ?_
    refine Y.iload_n dJ6_bitCount_0f7a4_41 rfl ?_
    refine Y.iload_n dJ6_bitCount_0f7a4_42 rfl ?_
    refine Y.bipush dJ6_bitCount_0f7a4_43 (by decide +kernel) ?_
    refine Y.iushr_ dJ6_bitCount_0f7a4_45 ?_
    refine Y.iadd_ dJ6_bitCount_0f7a4_46 ?_
    refine Y.istore_n dJ6_bitCount_0f7a4_47 (by decide) rfl ?_
    refine Y.iload_n dJ6_bitCount_0f7a4_48 rfl ?_
    refine Y.bipush dJ6_bitCount_0f7a4_49 (by decide +kernel) ?_
    refine Y.iand_ dJ6_bitCount_0f7a4_51 ?_
    exact Y.iretr 2 dJ6_bitCount_0f7a4_52 rfl (by decide +kernel) (hP _ _ ⟨rfl, rfl⟩)
  · refine Y.iload_n dJ6_bitCount_0f7a4_0 rfl ?_
    refine Y.iload_n dJ6_bitCount_0f7a4_1 rfl ?_
    refine Y.iconst dJ6_bitCount_0f7a4_2 ?_
    refine Y.iushr_ dJ6_bitCount_0f7a4_3 ?_
    refine Y.ldcw (1431655765) dJ6_bitCount_0f7a4_4 kJ6_265 ?_
    refine Y.iand_ dJ6_bitCount_0f7a4_7 ?_
    refine Y.isub_ dJ6_bitCount_0f7a4_8 ?_
    refine Y.istore_n dJ6_bitCount_0f7a4_9 (by decide) rfl ?_
    refine Y.iload_n dJ6_bitCount_0f7a4_10 rfl ?_
    refine Y.ldcw (858993459) dJ6_bitCount_0f7a4_11 kJ6_266 ?_
    refine Y.iand_ dJ6_bitCount_0f7a4_14 ?_
    refine Y.iload_n dJ6_bitCount_0f7a4_15 rfl ?_
    refine Y.iconst dJ6_bitCount_0f7a4_16 ?_
    refine Y.iushr_ dJ6_bitCount_0f7a4_17 ?_
    refine Y.ldcw (858993459) dJ6_bitCount_0f7a4_18 kJ6_266 ?_
    refine Y.iand_ dJ6_bitCount_0f7a4_21 ?_
    refine Y.iadd_ dJ6_bitCount_0f7a4_22 ?_
    refine Y.istore_n dJ6_bitCount_0f7a4_23 (by decide) rfl ?_
    refine Y.iload_n dJ6_bitCount_0f7a4_24 rfl ?_
    refine Y.iload_n dJ6_bitCount_0f7a4_25 rfl ?_
    refine Y.iconst dJ6_bitCount_0f7a4_26 ?_
    refine Y.iushr_ dJ6_bitCount_0f7a4_27 ?_
    refine Y.iadd_ dJ6_bitCount_0f7a4_28 ?_
    refine Y.ldcw (252645135) dJ6_bitCount_0f7a4_29 kJ6_267 ?_
    refine Y.iand_ dJ6_bitCount_0f7a4_32 ?_
    refine Y.istore_n dJ6_bitCount_0f7a4_33 (by decide) rfl ?_
    refine Y.iload_n dJ6_bitCount_0f7a4_34 rfl ?_
    refine Y.iload_n dJ6_bitCount_0f7a4_35 rfl ?_
    refine Y.bipush dJ6_bitCount_0f7a4_36 (by decide +kernel) ?_
    refine Y.iushr_ dJ6_bitCount_0f7a4_38 ?_
    refine Y.iadd_ dJ6_bitCount_0f7a4_39 ?_
    refine Y.istore_n dJ6_bitCount_0f7a4_40 (by decide) rfl ?_
    refine Y.iload_n dJ6_bitCount_0f7a4_41 rfl ?_
    refine Y.iload_n dJ6_bitCount_0f7a4_42 rfl ?_
    refine Y.bipush dJ6_bitCount_0f7a4_43 (by decide +kernel) ?_
    refine Y.iushr_ dJ6_bitCount_0f7a4_45 ?_
    refine Y.iadd_ dJ6_bitCount_0f7a4_46 ?_
    refine Y.istore_n dJ6_bitCount_0f7a4_47 (by decide) rfl ?_
    refine Y.iload_n dJ6_bitCount_0f7a4_48 rfl ?_
    refine Y.bipush dJ6_bitCount_0f7a4_49 (by decide +kernel) ?_
    refine Y.iand_ dJ6_bitCount_0f7a4_51 ?_
    exact Y.iretr 2 dJ6_bitCount_0f7a4_52 rfl (by decide +kernel) (hP _ _ ⟨rfl, rfl⟩)
  · refine Y.iload_n dJ6_bitCount_0f7a4_0 rfl ?_
    refine Y.iload_n dJ6_bitCount_0f7a4_1 rfl ?_
    refine Y.iconst dJ6_bitCount_0f7a4_2 ?_
    refine Y.iushr_ dJ6_bitCount_0f7a4_3 ?_
    refine Y.ldcw (1431655765) dJ6_bitCount_0f7a4_4 kJ6_265 ?_
    refine Y.iand_ dJ6_bitCount_0f7a4_7 ?_
    refine Y.isub_ dJ6_bitCount_0f7a4_8 ?_
    refine Y.istore_n dJ6_bitCount_0f7a4_9 (by decide) rfl ?_
    refine Y.iload_n dJ6_bitCount_0f7a4_10 rfl ?_
    refine Y.ldcw (858993459) dJ6_bitCount_0f7a4_11 kJ6_266 ?_
    refine Y.iand_ dJ6_bitCount_0f7a4_14 ?_
    refine Y.iload_n dJ6_bitCount_0f7a4_15 rfl ?_
    refine Y.iconst dJ6_bitCount_0f7a4_16 ?_
    refine Y.iushr_ dJ6_bitCount_0f7a4_17 ?_
    refine Y.ldcw (858993459) dJ6_bitCount_0f7a4_18 kJ6_266 ?_
    refine Y.iand_ dJ6_bitCount_0f7a4_21 ?_
    refine Y.iadd_ dJ6_bitCount_0f7a4_22 ?_
    refine Y.istore_n dJ6_bitCount_0f7a4_23 (by decide) rfl ?_
    refine Y.iload_n dJ6_bitCount_0f7a4_24 rfl ?_
    refine Y.iload_n dJ6_bitCount_0f7a4_25 rfl ?_
    refine Y.iconst dJ6_bitCount_0f7a4_26 ?_
    refine Y.iushr_ dJ6_bitCount_0f7a4_27 ?_
    refine Y.iadd_ dJ6_bitCount_0f7a4_28 ?_
    refine Y.ldcw (252645135) dJ6_bitCount_0f7a4_29 kJ6_267 ?_
    refine Y.iand_ dJ6_bitCount_0f7a4_32 ?_
    refine Y.istore_n dJ6_bitCount_0f7a4_33 (by decide) rfl ?_
    refine Y.iload_n dJ6_bitCount_0f7a4_34 rfl ?_
    refine Y.iload_n dJ6_bitCount_0f7a4_35 rfl ?_
    refine Y.bipush dJ6_bitCount_0f7a4_36 (by decide +kernel) ?_
    refine Y.iushr_ dJ6_bitCount_0f7a4_38 ?_
    refine Y.iadd_ dJ6_bitCount_0f7a4_39 ?_
    refine Y.istore_n dJ6_bitCount_0f7a4_40 (by decide) rfl ?_
    refine Y.iload_n dJ6_bitCount_0f7a4_41 rfl ?_
    refine Y.iload_n dJ6_bitCount_0f7a4_42 rfl ?_
    refine Y.bipush dJ6_bitCount_0f7a4_43 (by decide +kernel) ?_
    refine Y.iushr_ dJ6_bitCount_0f7a4_45 ?_
    refine Y.iadd_ dJ6_bitCount_0f7a4_46 ?_
    refine Y.istore_n dJ6_bitCount_0f7a4_47 (by decide) rfl ?_
    refine Y.iload_n dJ6_bitCount_0f7a4_48 rfl ?_
    refine Y.bipush dJ6_bitCount_0f7a4_49 (by decide +kernel) ?_
    refine Y.iand_ dJ6_bitCount_0f7a4_51 ?_
    exact Y.iretr 3 dJ6_bitCount_0f7a4_52 rfl (by decide +kernel) (hP _ _ ⟨rfl, rfl⟩)
theorem bts_c (Q : Int → Prop) : bts Q % 2 + bts Q / 2 % 2 + bts Q / 4 = zb (Q 0) + zb (Q 1) + zb (Q 2) := by
  rw [bts_3]
  rcases zb_2 (Q 0) with e | e <;> rcases zb_2 (Q 1) with e2 | e2 <;> rcases zb_2 (Q 2) with e3 | e3 <;> rw [e, e2, e3] <;> decide
/-- what count() tells -/
noncomputable def cntA (σ : zS) (p : zP) : Nat → Int
  | 0 => p 5 0 + p 5 1 + p 5 2
  | 1 => zb (SR p ≠ none)
  | 2 => zb (metP p 0) + zb (metP p 1) + zb (metP p 2)
  | 3 => σ.1 38 1
  | 4 => σ.1 39 0
  | 5 => σ.1 39 1
  | 6 => σ.1 38 0
  | 7 => ovs p
  | _ => σ.1 0 5
theorem cntA_e {s : zS} {p : zP} (h : EQ σ s) (k : Nat) : cntA s p k = cntA σ p k := by
  have f38 := h.2 38 (by omega)
  have f39 := h.2 39 (by omega)
  have f0 := h.2 0 (by omega)
  rcases k with _ | _ | _ | _ | _ | _ | _ | _ | k
  · rfl
  · rfl
  · rfl
  · show s.1 38 1 = _; rw [f38]; rfl
  · show s.1 39 0 = _; rw [f39]; rfl
  · show s.1 39 1 = _; rw [f39]; rfl
  · show s.1 38 0 = _; rw [f38]; rfl
  · rfl
  · show s.1 0 5 = _; rw [f0]; rfl
theorem snA_e {s : zS} (h : EQ σ s) (x w : Int) : snA s x w = snA σ x w := by
  unfold snA
  rw [h.2 43 (by omega), h.2 44 (by omega), h.2 45 (by omega)]
set_option maxHeartbeats 2000000 in
theorem c_X4_countOf {p : zP} (ec : cP σ = p) (hp : WP p) {k : Nat} (hk : k < 9) (hS : k = 1 ∨ k = 2 → SA 14 σ p) : YI 6 μX4_countOf [.ref 0, .int (zi (k : Int))] σ (cntA σ p k) σ := by
  refine YC.of2 (by decide) (Nat.le_of_ble_eq_true rfl) (fun d P hd hP => ?_)
  rcases (show k = 0 ∨ k = 1 ∨ k = 2 ∨ k = 3 ∨ k = 4 ∨ k = 5 ∨ k = 6 ∨ k = 7 ∨ k = 8 by omega) with rfl | rfl | rfl | rfl | rfl | rfl | rfl | rfl | rfl
  · refine Y.iload_n dX4_countOf_0 rfl ?_
    refine Y.tin 48 dX4_countOf_1 (by omega) (by omega) (by omega) rfl (by decide) ?_
    refine Y.aload_n dX4_countOf_48 rfl ?_
    refine Y.getf dX4_countOf_49 flX4_12 ob0 rfl ?_
    refine Y.cVI dX4_countOf_52 mkX2_stepsInAll csX4_220 ob1 ⟨_, rfl, rfl⟩ (k_X2_stepsInAll ec hp) (by omega) rfl rfl (Nat.le_of_ble_eq_true rfl) ?_
    exact Y.iret dX4_countOf_55 rfl (hP _ _ ⟨rfl, rfl⟩)
  · rcases hS (by omega) with ⟨h1, h2⟩ | ⟨r, l, h1, h2, _⟩
    · refine Y.iload_n dX4_countOf_0 rfl ?_
      refine Y.tin 56 dX4_countOf_1 (by omega) (by omega) (by omega) rfl (by decide) ?_
      refine Y.aload_n dX4_countOf_56 rfl ?_
      refine Y.getf dX4_countOf_57 flX4_21 ob0 rfl ?_
      refine Y.getf dX4_countOf_60 flX4_129 (obA (Or.inl rfl)) rfl ?_
      refine Y.iconst dX4_countOf_63 ?_
      rw [h2]
      refine Y.icmp_ne 71 dX4_countOf_64 (by decide) (by omega) (by omega) (fun h_64 => ?_) (fun h_64 => ?_)
      · exfalso; omega
      refine Y.iconst dX4_countOf_67 ?_
      refine Y.goto 72 dX4_countOf_68 (by decide) ?_
      exact Y.iret dX4_countOf_72 rfl (hP _ _ ⟨zrI (by show _ = zb (SR p ≠ none); rw [zb_f (fun q => q h1)]), rfl⟩)
    · refine Y.iload_n dX4_countOf_0 rfl ?_
      refine Y.tin 56 dX4_countOf_1 (by omega) (by omega) (by omega) rfl (by decide) ?_
      refine Y.aload_n dX4_countOf_56 rfl ?_
      refine Y.getf dX4_countOf_57 flX4_21 ob0 rfl ?_
      refine Y.getf dX4_countOf_60 flX4_129 (obA (Or.inl rfl)) rfl ?_
      refine Y.iconst dX4_countOf_63 ?_
      have hr := (SR_b hp h1).2.2
      have hr : 1 ≤ r ∧ r ≤ 20 := hr
      rw [h2]
      refine Y.icmp_ne 71 dX4_countOf_64 (by decide) (by omega) (by omega) (fun h_64 => ?_) (fun h_64 => ?_)
      rotate_left
      · exfalso; omega
      refine Y.iconst dX4_countOf_71 ?_
      exact Y.iret dX4_countOf_72 rfl (hP _ _ ⟨zrI (by show _ = zb (SR p ≠ none); rw [zb_t (by rw [h1]; exact Option.some_ne_none _)]), rfl⟩)
  · refine Y.iload_n dX4_countOf_0 rfl ?_
    refine Y.tin 73 dX4_countOf_1 (by omega) (by omega) (by omega) rfl (by decide) ?_
    refine Y.aload_n dX4_countOf_73 rfl ?_
    refine Y.getf dX4_countOf_74 flX4_21 ob0 rfl ?_
    refine Y.cVI dX4_countOf_77 mkX0_meetingBits csX4_135 (obA (Or.inl rfl)) ⟨_, rfl, rfl⟩ (c_X0_meetingBits (Or.inl rfl) ec hp (hS (by omega))) (by omega) rfl rfl (Nat.le_of_ble_eq_true rfl) ?_
    have hbb := bts_b (metP p)
    refine Y.cSI dX4_countOf_80 mkJ6_bitCount_0f7a4 csX4_223 (c_J6_bitCount (by omega) (by omega)) (by omega) rfl rfl (Nat.le_of_ble_eq_true rfl) ?_
    exact Y.iret dX4_countOf_83 rfl (hP _ _ ⟨zrI (by rw [bts_c]; rfl), rfl⟩)
  · refine Y.iload_n dX4_countOf_0 rfl ?_
    refine Y.tin 84 dX4_countOf_1 (by omega) (by omega) (by omega) rfl (by decide) ?_
    refine Y.aload_n dX4_countOf_84 rfl ?_
    refine Y.getf dX4_countOf_85 flX4_31 ob0 rfl ?_
    refine Y.getf dX4_countOf_88 flX4_149 ob38 rfl ?_
    exact Y.iret dX4_countOf_91 rfl (hP _ _ ⟨rfl, rfl⟩)
  · refine Y.iload_n dX4_countOf_0 rfl ?_
    refine Y.tin 92 dX4_countOf_1 (by omega) (by omega) (by omega) rfl (by decide) ?_
    refine Y.aload_n dX4_countOf_92 rfl ?_
    refine Y.getf dX4_countOf_93 flX4_31 ob0 rfl ?_
    refine Y.getf dX4_countOf_96 flX4_228 ob38 rfl ?_
    refine Y.iconst dX4_countOf_99 ?_
    refine Y.iald dX4_countOf_100 ia39 (by omega) (by omega) ?_
    exact Y.iret dX4_countOf_101 rfl (hP _ _ ⟨rfl, rfl⟩)
  · refine Y.iload_n dX4_countOf_0 rfl ?_
    refine Y.tin 102 dX4_countOf_1 (by omega) (by omega) (by omega) rfl (by decide) ?_
    refine Y.aload_n dX4_countOf_102 rfl ?_
    refine Y.getf dX4_countOf_103 flX4_31 ob0 rfl ?_
    refine Y.getf dX4_countOf_106 flX4_228 ob38 rfl ?_
    refine Y.iconst dX4_countOf_109 ?_
    refine Y.iald dX4_countOf_110 ia39 (by omega) (by omega) ?_
    exact Y.iret dX4_countOf_111 rfl (hP _ _ ⟨rfl, rfl⟩)
  · refine Y.iload_n dX4_countOf_0 rfl ?_
    refine Y.tin 112 dX4_countOf_1 (by omega) (by omega) (by omega) rfl (by decide) ?_
    refine Y.aload_n dX4_countOf_112 rfl ?_
    refine Y.getf dX4_countOf_113 flX4_31 ob0 rfl ?_
    refine Y.getf dX4_countOf_116 flX4_231 ob38 rfl ?_
    exact Y.iret dX4_countOf_119 rfl (hP _ _ ⟨rfl, rfl⟩)
  · refine Y.iload_n dX4_countOf_0 rfl ?_
    refine Y.tin 120 dX4_countOf_1 (by omega) (by omega) (by omega) rfl (by decide) ?_
    refine Y.aload_n dX4_countOf_120 rfl ?_
    refine Y.getf dX4_countOf_121 flX4_12 ob0 rfl ?_
    refine Y.cVI dX4_countOf_124 mkX2_overloadedSteps csX4_234 ob1 ⟨_, rfl, rfl⟩ (k_X2_overloadedSteps ec hp) (by omega) rfl rfl (Nat.le_of_ble_eq_true rfl) ?_
    exact Y.iret dX4_countOf_127 rfl (hP _ _ ⟨rfl, rfl⟩)
  · refine Y.iload_n dX4_countOf_0 rfl ?_
    refine Y.tout 128 dX4_countOf_1 (by omega) (by omega) (by decide) ?_
    refine Y.aload_n dX4_countOf_128 rfl ?_
    refine Y.getf dX4_countOf_129 flX4_42 ob0 rfl ?_
    exact Y.iret dX4_countOf_132 rfl (hP _ _ ⟨rfl, rfl⟩)
set_option maxHeartbeats 1000000 in
theorem c_X4_count {p : zP} (ec : cP σ = p) (hp : WP p) (hs : σ.1 14 17 = 0 ∨ σ.1 14 17 = 1) (hst : σ.1 14 17 = 0 → SA 14 σ p) {w : Int} (hw : zB w) : YC 7 μX4_count [.ref 0, .int (zi w)] σ (fun r s => RQ (0 ≤ w ∧ w ≤ 8) (cntA σ p w.toNat) r ∧ EQ σ s ∧ STL s) := by
  refine YC.of2 (by decide) (Nat.le_of_ble_eq_true rfl) (fun d P hd hP => ?_)
  refine Y.iload_n dX4_count_0 rfl ?_
  refine Y.i2l dX4_count_1 (by omega) ?_
  refine Y.iconst dX4_count_2 ?_
  refine Y.bipush dX4_count_3 (by decide +kernel) ?_
  refine Y.cSI dX4_count_5 mkX4_within csX4_50 (c_X4_within (by omega) (by omega) (by omega)) (by omega) rfl rfl (Nat.le_of_ble_eq_true rfl) ?_
  refine Y.ifz_ne 14 dX4_count_8 (by decide) (fun h_8 => ?_) (fun h_8 => ?_)
  · obtain ⟨k, rfl⟩ : ∃ k : Nat, w = (k : Int) := ⟨w.toNat, by omega⟩
    refine Y.iload_n dX4_count_14 rfl ?_
    refine Y.iconst dX4_count_15 ?_
    refine Y.icmp_eq 24 dX4_count_16 (by decide) (by omega) (by omega) (fun h_16 => ?_) (fun h_16 => ?_)
    · refine Y.aload_n dX4_count_24 rfl ?_
      refine Y.getf dX4_count_25 flX4_21 ob0 rfl ?_
      refine Y.callV dX4_count_28 mkX0_settle csX4_111 (obA (Or.inl rfl)) ⟨_, rfl, rfl⟩ (c_X0_settle (Or.inl rfl) ec hp hs hst) (by omega) rfl rfl (Nat.le_of_ble_eq_true rfl) (fun r_28 s_28 p_28 => ?_)
      obtain ⟨rfl, f_28, g_28, a_28⟩ := p_28
      have ec2 := (f_28.cp (Or.inl rfl)).trans ec
      have hE := f_28.eq (Or.inl rfl)
      have hT : STL s_28 := STL.of ec2 g_28 a_28
      refine Y.aload_n dX4_count_31 rfl ?_
      refine Y.iload_n dX4_count_32 rfl ?_
      refine Y.cVI dX4_count_33 mkX4_countOf csX4_194 ob0 ⟨_, rfl, rfl⟩ (c_X4_countOf (by first | exact ec2 | exact ec) hp (by omega) (fun q => by first | exact a_28 | (exfalso; omega))) (by omega) rfl rfl (Nat.le_of_ble_eq_true rfl) ?_
      exact Y.iret dX4_count_36 rfl (hP _ _ ⟨Or.inl ⟨by assumption, zrI (by first | exact cntA_e hE _ | rfl)⟩, by first | exact ⟨hE, hT⟩ | exact ⟨EQ.rf, hs, fun q => by rw [ec]; exact hst q⟩⟩)
    · refine Y.iload_n dX4_count_19 rfl ?_
      refine Y.iconst dX4_count_20 ?_
      refine Y.icmp_ne 31 dX4_count_21 (by decide) (by omega) (by omega) (fun h_21 => ?_) (fun h_21 => ?_)
      · refine Y.aload_n dX4_count_31 rfl ?_
        refine Y.iload_n dX4_count_32 rfl ?_
        refine Y.cVI dX4_count_33 mkX4_countOf csX4_194 ob0 ⟨_, rfl, rfl⟩ (c_X4_countOf (by first | exact ec2 | exact ec) hp (by omega) (fun q => by first | exact a_28 | (exfalso; omega))) (by omega) rfl rfl (Nat.le_of_ble_eq_true rfl) ?_
        exact Y.iret dX4_count_36 rfl (hP _ _ ⟨Or.inl ⟨by assumption, zrI (by first | exact cntA_e hE _ | rfl)⟩, by first | exact ⟨hE, hT⟩ | exact ⟨EQ.rf, hs, fun q => by rw [ec]; exact hst q⟩⟩)
      · refine Y.aload_n dX4_count_24 rfl ?_
        refine Y.getf dX4_count_25 flX4_21 ob0 rfl ?_
        refine Y.callV dX4_count_28 mkX0_settle csX4_111 (obA (Or.inl rfl)) ⟨_, rfl, rfl⟩ (c_X0_settle (Or.inl rfl) ec hp hs hst) (by omega) rfl rfl (Nat.le_of_ble_eq_true rfl) (fun r_28 s_28 p_28 => ?_)
        obtain ⟨rfl, f_28, g_28, a_28⟩ := p_28
        have ec2 := (f_28.cp (Or.inl rfl)).trans ec
        have hE := f_28.eq (Or.inl rfl)
        have hT : STL s_28 := STL.of ec2 g_28 a_28
        refine Y.aload_n dX4_count_31 rfl ?_
        refine Y.iload_n dX4_count_32 rfl ?_
        refine Y.cVI dX4_count_33 mkX4_countOf csX4_194 ob0 ⟨_, rfl, rfl⟩ (c_X4_countOf (by first | exact ec2 | exact ec) hp (by omega) (fun q => by first | exact a_28 | (exfalso; omega))) (by omega) rfl rfl (Nat.le_of_ble_eq_true rfl) ?_
        exact Y.iret dX4_count_36 rfl (hP _ _ ⟨Or.inl ⟨by assumption, zrI (by first | exact cntA_e hE _ | rfl)⟩, by first | exact ⟨hE, hT⟩ | exact ⟨EQ.rf, hs, fun q => by rw [ec]; exact hst q⟩⟩)
  · refine Y.bipush dX4_count_11 (by decide +kernel) ?_
    exact Y.iret dX4_count_13 rfl (hP _ _ ⟨Or.inr ⟨by assumption, rfl⟩, EQ.rf, hs, fun q => by rw [ec]; exact hst q⟩)
/-- the digest, step by step -/
def dg (h v : Int) : Int := 31 * h + wi v
def dgf (F : Int → Int → Int) : Nat → Int → Int
  | 0, h => h
  | n + 1, h => F n (dgf F n h)
theorem dgf_s {F : Int → Int → Int} {w h : Int} (h0 : 0 ≤ w) : dgf F (w + 1 - 0).toNat h = F w (dgf F (w - 0).toNat h) := by
  rw [show (w + 1 - 0).toNat = (w - 0).toNat + 1 by omega]
  show F _ _ = _
  rw [show (((w - 0).toNat : Nat) : Int) = w by omega]
noncomputable def stT (σ : zS) (p : zP) (x h : Int) : Int :=
  dgf (fun w h => dg h (snA σ x w)) 3 (dgf (fun w h => dg h (wrsA p x w)) 3 (dg (dg (dg (dg (dg (dgf (fun w h => dg h (infA p x w.toNat)) 7 h) (ldp p x 0)) (ldp p x 1)) (bndA p x)) (srcA p x)) (qckA p x)))
noncomputable def dgA (σ : zS) (p : zP) : Int :=
  dgf (fun t h => dg (dg h (σ.1 41 t)) (σ.1 42 t)) 60 (dgf (fun x h => @ite _ (th p x) (Classical.propDecidable _) (stT σ p x h) h) 9 (dgf (fun i h => dgf (fun w h => dg h (p w.toNat i)) 6 h) 3 (dg (dg (dgf (fun w h => dg h (cntA σ p w.toNat)) 8 17) (rndA p)) (bts (metP p)))))
theorem zFQ.tr {b : Nat} {s t : zS} (h : zFQ b σ s) (h2 : zFQ b s t) : zFQ b σ t := ⟨h2.1.trans h.1, fun c q1 q2 q3 q4 => (h2.2.1 c q1 q2 q3 q4).trans (h.2.1 c q1 q2 q3 q4), fun i q => (h2.2.2 i q).trans (h.2.2 i q)⟩
end ZK4
