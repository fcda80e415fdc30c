section ZK4
variable {σ : zS}
section RR2
variable {d : Nat} {μ : zU} {pc idx : Nat} {L : List (Option Value)} {st : List Value} {P : Option Value → zS → Prop} {x y : Int32}
theorem Y.iadd_ (hdg : decode μ.2.1 pc = .ok (.iadd, 1)) (k : Y d μ (pc + 1) L (.int (x + y) :: st) σ P) : Y d μ pc L (.int y :: .int x :: st) σ P := Z.iadd hdg k
theorem Y.isub_ (hdg : decode μ.2.1 pc = .ok (.isub, 1)) (k : Y d μ (pc + 1) L (.int (x - y) :: st) σ P) : Y d μ pc L (.int y :: .int x :: st) σ P := Z.isub hdg k
theorem Y.ldcw (v : Int) (hdg : decode μ.2.1 pc = .ok (.ldc_w idx, 3)) (hw : Cond.constant μ.1.cls idx (zi v) ∈ zWd) (k : Y d μ (pc + 3) L (.int (zi v) :: st) σ P) : Y d μ pc L st σ P := Z.pure (fun hx hb ho ht w => lv_ldcw hx hb ho (ht _ hw) hdg w) k
theorem Y.iretr (v : Int) (hdg : decode μ.2.1 pc = .ok (.ireturn, 1)) (hr : μ.2.2.2 = some .int) (hv : x = zi v) (hp : P (some (.int (zi v))) σ) : Y d μ pc L [.int x] σ P := by
  rw [hv]
  exact Y.iret hdg hr hp
/-- an int as it is held -/
def wi (a : Int) : Int := (zi a).toInt
theorem wi_B (a : Int) : zB (wi a) := ⟨Int32.le_toInt _, Int32.toInt_lt _⟩
theorem Y.i2lw {a : Int} (hdg : decode μ.2.1 pc = .ok (.i2l, 1)) (k : Y d μ (pc + 1) L (.long (zl (wi a)) :: st) σ P) : Y d μ pc L (.int (zi a) :: st) σ P := by
  have e : zi a = zi (wi a) := (Int32.ofInt_toInt _).symm
  rw [e]
  exact Y.i2l hdg (wi_B a) k
end RR2
set_option maxHeartbeats 2000000 in
theorem c_J6_bitCount {b : Int} (h0 : 0 ≤ b) (h8 : b < 8) : YI 0 μJ6_bitCount_0f7a4 [.int (zi b)] σ (b % 2 + b / 2 % 2 + b / 4) σ := by
  refine YC.ofJ (by decide +kernel) (Nat.le_of_ble_eq_true rfl) (fun d P hd hP => ?_)
  rcases (show b = 0 ∨ b = 1 ∨ b = 2 ∨ b = 3 ∨ b = 4 ∨ b = 5 ∨ b = 6 ∨ b = 7 by omega) with rfl | rfl | rfl | rfl | rfl | rfl | rfl | rfl
  · refine Y.iload_n dJ6_bitCount_0f7a4_0 rfl ?_
    refine Y.iload_n dJ6_bitCount_0f7a4_1 rfl ?_
    refine Y.iconst dJ6_bitCount_0f7a4_2 ?_
    refine Y.iushr_ dJ6_bitCount_0f7a4_3 ?_
    refine Y.ldcw (1431655765) dJ6_bitCount_0f7a4_4 kJ6_265 ?_
    refine Y.iand_ dJ6_bitCount_0f7a4_7 ?_
    refine Y.isub_ dJ6_bitCount_0f7a4_8 ?_
    refine Y.istore_n dJ6_bitCount_0f7a4_9 (by decide) rfl ?_
    refine Y.iload_n dJ6_bitCount_0f7a4_10 rfl ?_
    refine Y.ldcw (858993459) dJ6_bitCount_0f7a4_11 kJ6_266 ?_
    refine Y.iand_ dJ6_bitCount_0f7a4_14 ?_
    refine Y.iload_n dJ6_bitCount_0f7a4_15 rfl ?_
    refine Y.iconst dJ6_bitCount_0f7a4_16 ?_
    refine Y.iushr_ dJ6_bitCount_0f7a4_17 ?_
    refine Y.ldcw (858993459) dJ6_bitCount_0f7a4_18 kJ6_266 ?_
    refine Y.iand_ dJ6_bitCount_0f7a4_21 ?_
    refine Y.iadd_ dJ6_bitCount_0f7a4_22 ?_
    refine Y.istore_n dJ6_bitCount_0f7a4_23 (by decide) rfl ?_
    refine Y.iload_n dJ6_bitCount_0f7a4_24 rfl ?_
    refine Y.iload_n dJ6_bitCount_0f7a4_25 rfl ?_
    refine Y.iconst dJ6_bitCount_0f7a4_26 ?_
    refine Y.iushr_ dJ6_bitCount_0f7a4_27 ?_
    refine Y.iadd_ dJ6_bitCount_0f7a4_28 ?_
    refine Y.ldcw (252645135) dJ6_bitCount_0f7a4_29 kJ6_267 ?_
    refine Y.iand_ dJ6_bitCount_0f7a4_32 ?_
    refine Y.istore_n dJ6_bitCount_0f7a4_33 (by decide) rfl ?_
    refine Y.iload_n dJ6_bitCount_0f7a4_34 rfl ?_
    refine Y.iload_n dJ6_bitCount_0f7a4_35 rfl ?_
    refine Y.bipush dJ6_bitCount_0f7a4_36 (by decide +kernel) ?_
    refine Y.iushr_ dJ6_bitCount_0f7a4_38 ?_
    refine Y.iadd_ dJ6_bitCount_0f7a4_39 ?_
    refine Y.istore_n dJ6_bitCount_0f7a4_40 (by decide) rfl ?_
    refine Y.iload_n dJ6_bitCount_0f7a4_41 rfl ?_
    refine Y.iload_n dJ6_bitCount_0f7a4_42 rfl ?_
    refine Y.bipush dJ6_bitCount_0f7a4_43 (by decide +kernel) ?_
    refine Y.iushr_ dJ6_bitCount_0f7a4_45 ?_
    refine Y.iadd_ dJ6_bitCount_0f7a4_46 ?_
    refine Y.istore_n dJ6_bitCount_0f7a4_47 (by decide) rfl ?_
    refine Y.iload_n dJ6_bitCount_0f7a4_48 rfl ?_
    refine Y.bipush dJ6_bitCount_0f7a4_49 (by decide +kernel) ?_
    refine Y.iand_ dJ6_bitCount_0f7a4_51 ?_
    exact Y.iretr 0 dJ6_bitCount_0f7a4_52 rfl (by decide +kernel) (hP _ _ ⟨rfl, rfl⟩)
  · refine Y.iload_n dJ6_bitCount_0f7a4_0 rfl ?_
    refine Y.iload_n dJ6_bitCount_0f7a4_1 rfl ?_
    refine Y.iconst dJ6_bitCount_0f7a4_2 ?_
    refine Y.iushr_ dJ6_bitCount_0f7a4_3 ?_
    refine Y.ldcw (1431655765) dJ6_bitCount_0f7a4_4 kJ6_265 ?_
    refine Y.iand_ dJ6_bitCount_0f7a4_7 ?_
    refine Y.isub_ dJ6_bitCount_0f7a4_8 ?_
    refine Y.istore_n dJ6_bitCount_0f7a4_9 (by decide) rfl ?_
    refine Y.iload_n dJ6_bitCount_0f7a4_10 rfl ?_
    refine Y.ldcw (858993459) dJ6_bitCount_0f7a4_11 kJ6_266 ?_
    refine Y.iand_ dJ6_bitCount_0f7a4_14 ?_
    refine Y.iload_n dJ6_bitCount_0f7a4_15 rfl ?_
    refine Y.iconst dJ6_bitCount_0f7a4_16 ?_
    refine Y.iushr_ dJ6_bitCount_0f7a4_17 ?_
    refine Y.ldcw (858993459) dJ6_bitCount_0f7a4_18 kJ6_266 ?_
    refine Y.iand_ dJ6_bitCount_0f7a4_21 ?_
    refine Y.iadd_ dJ6_bitCount_0f7a4_22 ?_
    refine Y.istore_n dJ6_bitCount_0f7a4_23 (by decide) rfl ?_
    refine Y.iload_n dJ6_bitCount_0f7a4_24 rfl ?_
    refine Y.iload_n dJ6_bitCount_0f7a4_25 rfl ?_
    refine Y.iconst dJ6_bitCount_0f7a4_26 ?_
    refine Y.iushr_ dJ6_bitCount_0f7a4_27 ?_
    refine Y.iadd_ dJ6_bitCount_0f7a4_28 ?_
    refine Y.ldcw (252645135) dJ6_bitCount_0f7a4_29 kJ6_267 ?_
    refine Y.iand_ dJ6_bitCount_0f7a4_32 ?_
    refine Y.istore_n dJ6_bitCount_0f7a4_33 (by decide) rfl ?_
    refine Y.iload_n dJ6_bitCount_0f7a4_34 rfl ?_
    refine Y.iload_n dJ6_bitCount_0f7a4_35 rfl ?_
    refine Y.bipush dJ6_bitCount_0f7a4_36 (by decide +kernel) ?_
    refine Y.iushr_ dJ6_bitCount_0f7a4_38 ?_
    refine Y.iadd_ dJ6_bitCount_0f7a4_39 ?_
    refine Y.istore_n dJ6_bitCount_0f7a4_40 (by decide) rfl ?_
    refine Y.iload_n dJ6_bitCount_0f7a4_41 rfl ?_
    refine Y.iload_n dJ6_bitCount_0f7a4_42 rfl ?_
    refine Y.bipush dJ6_bitCount_0f7a4_43 (by decide +kernel) ?_
    refine Y.iushr_ dJ6_bitCount_0f7a4_45 ?_
    refine Y.iadd_ dJ6_bitCount_0f7a4_46 ?_
    refine Y.istore_n dJ6_bitCount_0f7a4_47 (by decide) rfl ?_
    refine Y.iload_n dJ6_bitCount_0f7a4_48 rfl ?_
    refine Y.bipush dJ6_bitCount_0f7a4_49 (by decide +kernel) ?_
    refine Y.iand_ dJ6_bitCount_0f7a4_51 ?_
    exact Y.iretr 1 dJ6_bitCount_0f7a4_52 rfl (by decide +kernel) (hP _ _ ⟨rfl, rfl⟩)
  · refine Y.iload_n dJ6_bitCount_0f7a4_0 rfl ?_
    refine Y.iload_n dJ6_bitCount_0f7a4_1 rfl ?_
    refine Y.iconst dJ6_bitCount_0f7a4_2 ?_
    refine Y.iushr_ dJ6_bitCount_0f7a4_3 ?_
    refine Y.ldcw (1431655765) dJ6_bitCount_0f7a4_4 kJ6_265 ?_
    refine Y.iand_ dJ6_bitCount_0f7a4_7 ?_
    refine Y.isub_ dJ6_bitCount_0f7a4_8 ?_
    refine Y.istore_n dJ6_bitCount_0f7a4_9 (by decide) rfl ?_
    refine Y.iload_n dJ6_bitCount_0f7a4_10 rfl ?_
    refine Y.ldcw (858993459) dJ6_bitCount_0f7a4_11 kJ6_266 ?_
    refine Y.iand_ dJ6_bitCount_0f7a4_14 ?_
    refine Y.iload_n dJ6_bitCount_0f7a4_15 rfl ?_
    refine Y.iconst dJ6_bitCount_0f7a4_16 ?_
    refine Y.iushr_ dJ6_bitCount_0f7a4_17 ?_
    refine Y.ldcw (858993459) dJ6_bitCount_0f7a4_18 kJ6_266 ?_
    refine Y.iand_ dJ6_bitCount_0f7a4_21 ?_
    refine Y.iadd_ dJ6_bitCount_0f7a4_22 ?_
    refine Y.istore_n dJ6_bitCount_0f7a4_23 (by decide) rfl ?_
    refine Y.iload_n dJ6_bitCount_0f7a4_24 rfl ?_
    refine Y.iload_n dJ6_bitCount_0f7a4_25 rfl ?_
    refine Y.iconst dJ6_bitCount_0f7a4_26 ?_
    refine Y.iushr_ dJ6_bitCount_0f7a4_27 ?_
    refine Y.iadd_ dJ6_bitCount_0f7a4_28 ?_
    refine Y.ldcw (252645135) dJ6_bitCount_0f7a4_29 kJ6_267 ?_
    refine Y.iand_ dJ6_bitCount_0f7a4_32 ?_
    refine Y.istore_n dJ6_bitCount_0f7a4_33 (by decide) rfl ?_
    refine Y.iload_n dJ6_bitCount_0f7a4_34 rfl ?_
    refine Y.iload_n dJ6_bitCount_0f7a4_35 rfl ?_
    refine Y.bipush dJ6_bitCount_0f7a4_36 (by decide +kernel) ?_
    refine Y.iushr_ dJ6_bitCount_0f7a4_38 ?_
    refine Y.iadd_ dJ6_bitCount_0f7a4_39 ?_
    refine Y.istore_n dJ6_bitCount_0f7a4_40 (by decide) rfl ?_
    refine Y.iload_n dJ6_bitCount_0f7a4_41 rfl ?_
    refine Y.iload_n dJ6_bitCount_0f7a4_42 rfl ?_
    refine Y.bipush dJ6_bitCount_0f7a4_43 (by decide +kernel) ?_
    refine Y.iushr_ dJ6_bitCount_0f7a4_45 ?_
    refine Y.iadd_ dJ6_bitCount_0f7a4_46 ?_
    refine Y.istore_n dJ6_bitCount_0f7a4_47 (by decide) rfl ?_
    refine Y.iload_n dJ6_bitCount_0f7a4_48 rfl ?_
    refine Y.bipush dJ6_bitCount_0f7a4_49 (by decide +kernel) ?_
    refine Y.iand_ dJ6_bitCount_0f7a4_51 ?_
    exact Y.iretr 1 dJ6_bitCount_0f7a4_52 rfl (by decide +kernel) (hP _ _ ⟨rfl, rfl⟩)
  · refine Y.iload_n dJ6_bitCount_0f7a4_0 rfl ?_
    refine Y.iload_n dJ6_bitCount_0f7a4_1 rfl ?_
    refine Y.iconst dJ6_bitCount_0f7a4_2 ?_
    refine Y.iushr_ dJ6_bitCount_0f7a4_3 ?_
    refine Y.ldcw (1431655765) dJ6_bitCount_0f7a4_4 kJ6_265 ?_
    refine Y.iand_ dJ6_bitCount_0f7a4_7 ?_
    refine Y.isub_ dJ6_bitCount_0f7a4_8 ?_
    refine Y.istore_n dJ6_bitCount_0f7a4_9 (by decide) rfl ?_
    refine Y.iload_n dJ6_bitCount_0f7a4_10 rfl ?_
    refine Y.ldcw (858993459) dJ6_bitCount_0f7a4_11 kJ6_266 ?_
    refine Y.iand_ dJ6_bitCount_0f7a4_14 ?_
    refine Y.iload_n dJ6_bitCount_0f7a4_15 rfl ?_
    refine Y.iconst dJ6_bitCount_0f7a4_16 ?_
    refine Y.iushr_ dJ6_bitCount_0f7a4_17 ?_
    refine Y.ldcw (858993459) dJ6_bitCount_0f7a4_18 kJ6_266 ?_
    refine Y.iand_ dJ6_bitCount_0f7a4_21 ?_
    refine Y.iadd_ dJ6_bitCount_0f7a4_22 ?_
    refine Y.istore_n dJ6_bitCount_0f7a4_23 (by decide) rfl ?_
    refine Y.iload_n dJ6_bitCount_0f7a4_24 rfl ?_
    refine Y.iload_n dJ6_bitCount_0f7a4_25 rfl ?_
    refine Y.iconst dJ6_bitCount_0f7a4_26 ?_
    refine Y.iushr_ dJ6_bitCount_0f7a4_27 ?_
    refine Y.iadd_ dJ6_bitCount_0f7a4_28 ?_
    refine Y.ldcw (252645135) dJ6_bitCount_0f7a4_29 kJ6_267 ?_
    refine Y.iand_ dJ6_bitCount_0f7a4_32 ?_
    refine Y.istore_n dJ6_bitCount_0f7a4_33 (by decide) rfl ?_
    refine Y.iload_n dJ6_bitCount_0f7a4_34 rfl ?_
    refine Y.iload_n dJ6_bitCount_0f7a4_35 rfl ?_
    refine Y.bipush dJ6_bitCount_0f7a4_36 (by decide +kernel) ?_
    refine Y.iushr_ dJ6_bitCount_0f7a4_38 ?_
    refine Y.iadd_ dJ6_bitCount_0f7a4_39 ?_
    refine Y.istore_n dJ6_bitCount_0f7a4_40 (by decide) rfl ?_
    refine Y.iload_n dJ6_bitCount_0f7a4_41 rfl ?_
    refine Y.iload_n dJ6_bitCount_0f7a4_42 rfl ?_
    refine Y.bipush dJ6_bitCount_0f7a4_43 (by decide +kernel) ?_
    refine Y.iushr_ dJ6_bitCount_0f7a4_45 ?_
    refine Y.iadd_ dJ6_bitCount_0f7a4_46 ?_
    refine Y.istore_n dJ6_bitCount_0f7a4_47 (by decide) rfl ?_
    refine Y.iload_n dJ6_bitCount_0f7a4_48 rfl ?_
    refine Y.bipush dJ6_bitCount_0f7a4_49 (by decide +kernel) ?_
    refine Y.iand_ dJ6_bitCount_0f7a4_51 ?_
    exact Y.iretr 2 dJ6_bitCount_0f7a4_52 rfl (by decide +kernel) (hP _ _ ⟨rfl, rfl⟩)
  · refine Y.iload_n dJ6_bitCount_0f7a4_0 rfl ?_
    refine Y.iload_n dJ6_bitCount_0f7a4_1 rfl ?_
    refine Y.iconst dJ6_bitCount_0f7a4_2 ?_
    refine Y.iushr_ dJ6_bitCount_0f7a4_3 ?_
    refine Y.ldcw (1431655765) dJ6_bitCount_0f7a4_4 kJ6_265 ?_
    refine Y.iand_ dJ6_bitCount_0f7a4_7 ?_
    refine Y.isub_ dJ6_bitCount_0f7a4_8 ?_
    refine Y.istore_n dJ6_bitCount_0f7a4_9 (by decide) rfl ?_
    refine Y.iload_n dJ6_bitCount_0f7a4_10 rfl ?_
    refine Y.ldcw (858993459) dJ6_bitCount_0f7a4_11 kJ6_266 ?_
    refine Y.iand_ dJ6_bitCount_0f7a4_14 ?_
    refine Y.iload_n dJ6_bitCount_0f7a4_15 rfl ?_
    refine Y.iconst dJ6_bitCount_0f7a4_16 ?_
    refine Y.iushr_ dJ6_bitCount_0f7a4_17 ?_
    refine Y.ldcw (858993459) dJ6_bitCount_0f7a4_18 kJ6_266 ?_
    refine Y.iand_ dJ6_bitCount_0f7a4_21 ?_
    refine Y.iadd_ dJ6_bitCount_0f7a4_22 ?_
    refine Y.istore_n dJ6_bitCount_0f7a4_23 (by decide) rfl ?_
    refine Y.iload_n dJ6_bitCount_0f7a4_24 rfl ?_
    refine Y.iload_n dJ6_bitCount_0f7a4_25 rfl ?_
    refine Y.iconst dJ6_bitCount_0f7a4_26 ?_
    refine Y.iushr_ dJ6_bitCount_0f7a4_27 ?_
    refine Y.iadd_ dJ6_bitCount_0f7a4_28 ?_
    refine Y.ldcw (252645135) dJ6_bitCount_0f7a4_29 kJ6_267 ?_
    refine Y.iand_ dJ6_bitCount_0f7a4_32 ?_
    refine Y.istore_n dJ6_bitCount_0f7a4_33 (by decide) rfl ?_
    refine Y.iload_n dJ6_bitCount_0f7a4_34 rfl ?_
    refine Y.iload_n dJ6_bitCount_0f7a4_35 rfl ?_
    refine Y.bipush dJ6_bitCount_0f7a4_36 (by decide +kernel) ?_
    refine Y.iushr_ dJ6_bitCount_0f7a4_38 ?_
    refine Y.iadd_ dJ6_bitCount_0f7a4_39 ?_
    refine Y.istore_n dJ6_bitCount_0f7a4_40 (by decide) rfl ?_
    refine Y.iload_n dJ6_bitCount_0f7a4_41 rfl ?_
    refine Y.iload_n dJ6_bitCount_0f7a4_42 rfl ?_
    refine Y.bipush dJ6_bitCount_0f7a4_43 (by decide +kernel) ?_
    refine Y.iushr_ dJ6_bitCount_0f7a4_45 ?_
    refine Y.iadd_ dJ6_bitCount_0f7a4_46 ?_
    refine Y.istore_n dJ6_bitCount_0f7a4_47 (by decide) rfl ?_
    refine Y.iload_n dJ6_bitCount_0f7a4_48 rfl ?_
    refine Y.bipush dJ6_bitCount_0f7a4_49 (by decide +kernel) ?_
    refine Y.iand_ dJ6_bitCount_0f7a4_51 ?_
    exact Y.iretr 1 dJ6_bitCount_0f7a4_52 rfl (by decide +kernel) (hP _ _ ⟨rfl, rfl⟩)
  · refine Y.iload_n dJ6_bitCount_0f7a4_0 rfl ?_
    refine Y.iload_n dJ6_bitCount_0f7a4_1 rfl ?_
    refine Y.iconst dJ6_bitCount_0f7a4_2 ?_
    refine Y.iushr_ dJ6_bitCount_0f7a4_3 ?_
    refine Y.ldcw (1431655765) dJ6_bitCount_0f7a4_4 kJ6_265 ?_
    refine Y.iand_ dJ6_bitCount_0f7a4_7 ?_
    refine Y.isub_ dJ6_bitCount_0f7a4_8 ?_
    refine Y.istore_n dJ6_bitCount_0f7a4_9 (by decide) rfl ?_
    refine Y.iload_n dJ6_bitCount_0f7a4_10 rfl ?_
    refine Y.ldcw (858993459) dJ6_bitCount_0f7a4_11 kJ6_266 ?_
    refine Y.iand_ dJ6_bitCount_0f7a4_14 ?_
    refine Y.iload_n dJ6_bitCount_0f7a4_15 rfl ?_
    refine Y.iconst dJ6_bitCount_0f7a4_16 ?_
    refine Y.iushr_ dJ6_bitCount_0f7a4_17 ?_
    refine Y.ldcw (858993459) dJ6_bitCount_0f7a4_18 kJ6_266 ?_
    refine Y.iand_ dJ6_bitCount_0f7a4_21 ?_
    refine Y.iadd_ dJ6_bitCount_0f7a4_22 ?_
    refine Y.istore_n dJ6_bitCount_0f7a4_23 (by decide) rfl ?_
    refine Y.iload_n dJ6_bitCount_0f7a4_24 rfl ?_
    refine Y.iload_n dJ6_bitCount_0f7a4_25 rfl ?_
    refine Y.iconst dJ6_bitCount_0f7a4_26 ?_
    refine Y.iushr_ dJ6_bitCount_0f7a4_27 ?_
    refine Y.iadd_ dJ6_bitCount_0f7a4_28 ?_
    refine Y.ldcw (252645135) dJ6_bitCount_0f7a4_29 kJ6_267 ?_
    refine Y.iand_ dJ6_bitCount_0f7a4_32 ?_
    refine Y.istore_n dJ6_bitCount_0f7a4_33 (by decide) rfl ?_
    refine Y.iload_n dJ6_bitCount_0f7a4_34 rfl ?_
    refine Y.iload_n dJ6_bitCount_0f7a4_35 rfl ?_
    refine Y.bipush dJ6_bitCount_0f7a4_36 (by decide +kernel) ?_
    refine Y.iushr_ dJ6_bitCount_0f7a4_38 ?_
    refine Y.iadd_ dJ6_bitCount_0f7a4_39 ?_
    refine Y.istore_n dJ6_bitCount_0f7a4_40 (by decide) rfl ?_
    refine Y.iload_n dJ6_bitCount_0f7a4_41 rfl ?_
    refine Y.iload_n dJ6_bitCount_0f7a4_42 rfl ?_
    refine Y.bipush dJ6_bitCount_0f7a4_43 (by decide +kernel) ?_
    refine Y.iushr_ dJ6_bitCount_0f7a4_45 ?_
    refine Y.iadd_ dJ6_bitCount_0f7a4_46 ?_
    refine Y.istore_n dJ6_bitCount_0f7a4_47 (by decide) rfl ?_
    refine Y.iload_n dJ6_bitCount_0f7a4_48 rfl ?_
    refine Y.bipush dJ6_bitCount_0f7a4_49 (by decide +kernel) ?_
    refine Y.iand_ dJ6_bitCount_0f7a4_51 ?_
    exact Y.iretr 2 dJ6_bitCount_0f7a4_52 rfl (by decide +kernel) (hP _ _ ⟨rfl, rfl⟩)
  · refine Y.iload_n dJ6_bitCount_0f7a4_0 rfl ?_
    refine Y.iload_n dJ6_bitCount_0f7a4_1 rfl ?_
    refine Y.iconst dJ6_bitCount_0f7a4_2 ?_
    refine Y.iushr_ dJ6_bitCount_0f7a4_3 ?_
    refine Y.ldcw (1431655765) dJ6_bitCount_0f7a4_4 kJ6_265 ?_
    refine Y.iand_ dJ6_bitCount_0f7a4_7 ?_
    refine Y.isub_ dJ6_bitCount_0f7a4_8 ?_
    refine Y.istore_n dJ6_bitCount_0f7a4_9 (by decide) rfl ?_
    refine Y.iload_n dJ6_bitCount_0f7a4_10 rfl ?_
    refine Y.ldcw (858993459) dJ6_bitCount_0f7a4_11 kJ6_266 ?_
    refine Y.iand_ dJ6_bitCount_0f7a4_14 ?_
    refine Y.iload_n dJ6_bitCount_0f7a4_15 rfl ?_
    refine Y.iconst dJ6_bitCount_0f7a4_16 ?_
    refine Y.iushr_ dJ6_bitCount_0f7a4_17 ?_
    refine Y.ldcw (858993459) dJ6_bitCount_0f7a4_18 kJ6_266 ?_
    refine Y.iand_ dJ6_bitCount_0f7a4_21 ?_
    refine Y.iadd_ dJ6_bitCount_0f7a4_22 ?_
    refine Y.istore_n dJ6_bitCount_0f7a4_23 (by decide) rfl ?_
    refine Y.iload_n dJ6_bitCount_0f7a4_24 rfl ?_
    refine Y.iload_n dJ6_bitCount_0f7a4_25 rfl ?_
    refine Y.iconst dJ6_bitCount_0f7a4_26 ?_
    refine Y.iushr_ dJ6_bitCount_0f7a4_27 ?_
    refine Y.iadd_ dJ6_bitCount_0f7a4_28 ?_
    refine Y.ldcw (252645135) dJ6_bitCount_0f7a4_29 kJ6_267 ?_
    refine Y.iand_ dJ6_bitCount_0f7a4_32 ?_
    refine Y.istore_n dJ6_bitCount_0f7a4_33 (by decide) rfl ?_
    refine Y.iload_n dJ6_bitCount_0f7a4_34 rfl ?_
    refine Y.iload_n dJ6_bitCount_0f7a4_35 rfl ?_
    refine Y.bipush dJ6_bitCount_0f7a4_36 (by decide +kernel) ?_
    refine Y.iushr_ dJ6_bitCount_0f7a4_38 ?_
    refine Y.iadd_ dJ6_bitCount_0f7a4_39 ?_
    refine Y.istore_n dJ6_bitCount_0f7a4_40 (by decide) rfl ?_
    refine Y.iload_n dJ6_bitCount_0f7a4_41 rfl ?_
    refine Y.iload_n dJ6_bitCount_0f7a4_42 rfl ?_
    refine Y.bipush dJ6_bitCount_0f7a4_43 (by decide +kernel) ?_
    refine Y.iushr_ dJ6_bitCount_0f7a4_45 ?_
    refine Y.iadd_ dJ6_bitCount_0f7a4_46 ?_
    refine Y.istore_n dJ6_bitCount_0f7a4_47 (by decide) rfl ?_
    refine Y.iload_n dJ6_bitCount_0f7a4_48 rfl ?_
    refine Y.bipush dJ6_bitCount_0f7a4_49 (by decide +kernel) ?_
    refine Y.iand_ dJ6_bitCount_0f7a4_51 ?_
    exact Y.iretr 2 dJ6_bitCount_0f7a4_52 rfl (by decide +kernel) (hP _ _ ⟨rfl, rfl⟩)
  · refine Y.iload_n dJ6_bitCount_0f7a4_0 rfl ?_
    refine Y.iload_n dJ6_bitCount_0f7a4_1 rfl ?_
    refine Y.iconst dJ6_bitCount_0f7a4_2 ?_
    refine Y.iushr_ dJ6_bitCount_0f7a4_3 ?_
    refine Y.ldcw (1431655765) dJ6_bitCount_0f7a4_4 kJ6_265 ?_
    refine Y.iand_ dJ6_bitCount_0f7a4_7 ?_
    refine Y.isub_ dJ6_bitCount_0f7a4_8 ?_
    refine Y.istore_n dJ6_bitCount_0f7a4_9 (by decide) rfl ?_
    refine Y.iload_n dJ6_bitCount_0f7a4_10 rfl ?_
    refine Y.ldcw (858993459) dJ6_bitCount_0f7a4_11 kJ6_266 ?_
    refine Y.iand_ dJ6_bitCount_0f7a4_14 ?_
    refine Y.iload_n dJ6_bitCount_0f7a4_15 rfl ?_
    refine Y.iconst dJ6_bitCount_0f7a4_16 ?_
    refine Y.iushr_ dJ6_bitCount_0f7a4_17 ?_
    refine Y.ldcw (858993459) dJ6_bitCount_0f7a4_18 kJ6_266 ?_
    refine Y.iand_ dJ6_bitCount_0f7a4_21 ?_
    refine Y.iadd_ dJ6_bitCount_0f7a4_22 ?_
    refine Y.istore_n dJ6_bitCount_0f7a4_23 (by decide) rfl ?_
    refine Y.iload_n dJ6_bitCount_0f7a4_24 rfl ?_
    refine Y.iload_n dJ6_bitCount_0f7a4_25 rfl ?_
    refine Y.iconst dJ6_bitCount_0f7a4_26 ?_
    refine Y.iushr_ dJ6_bitCount_0f7a4_27 ?_
    refine Y.iadd_ dJ6_bitCount_0f7a4_28 ?_
    refine Y.ldcw (252645135) dJ6_bitCount_0f7a4_29 kJ6_267 ?_
    refine Y.iand_ dJ6_bitCount_0f7a4_32 ?_
    refine Y.istore_n dJ6_bitCount_0f7a4_33 (by decide) rfl ?_
    refine Y.iload_n dJ6_bitCount_0f7a4_34 rfl ?_
    refine Y.iload_n dJ6_bitCount_0f7a4_35 rfl ?_
    refine Y.bipush dJ6_bitCount_0f7a4_36 (by decide +kernel) ?_
    refine Y.iushr_ dJ6_bitCount_0f7a4_38 ?_
    refine Y.iadd_ dJ6_bitCount_0f7a4_39 ?_
    refine Y.istore_n dJ6_bitCount_0f7a4_40 (by decide) rfl ?_
    refine Y.iload_n dJ6_bitCount_0f7a4_41 rfl ?_
    refine Y.iload_n dJ6_bitCount_0f7a4_42 rfl ?_
    refine Y.bipush dJ6_bitCount_0f7a4_43 (by decide +kernel) ?_
    refine Y.iushr_ dJ6_bitCount_0f7a4_45 ?_
    refine Y.iadd_ dJ6_bitCount_0f7a4_46 ?_
    refine Y.istore_n dJ6_bitCount_0f7a4_47 (by decide) rfl ?_
    refine Y.iload_n dJ6_bitCount_0f7a4_48 rfl ?_
    refine Y.bipush dJ6_bitCount_0f7a4_49 (by decide +kernel) ?_
    refine Y.iand_ dJ6_bitCount_0f7a4_51 ?_
    exact Y.iretr 3 dJ6_bitCount_0f7a4_52 rfl (by decide +kernel) (hP _ _ ⟨rfl, rfl⟩)
theorem bts_c (Q : Int → Prop) : bts Q % 2 + bts Q / 2 % 2 + bts Q / 4 = zb (Q 0) + zb (Q 1) + zb (Q 2) := by
  rw [bts_3]
  rcases zb_2 (Q 0) with e | e <;> rcases zb_2 (Q 1) with e2 | e2 <;> rcases zb_2 (Q 2) with e3 | e3 <;> rw [e, e2, e3] <;> decide
/-- what count() tells -/
noncomputable def cntA (σ : zS) (p : zP) : Nat → Int
  | 0 => p 5 0 + p 5 1 + p 5 2
  | 1 => zb (SR p ≠ none)
  | 2 => zb (metP p 0) + zb (metP p 1) + zb (metP p 2)
  | 3 => σ.1 38 1
  | 4 => σ.1 39 0
  | 5 => σ.1 39 1
  | 6 => σ.1 38 0
  | 7 => ovs p
  | _ => σ.1 0 5
theorem cntA_e {s : zS} {p : zP} (h : EQ σ s) (k : Nat) : cntA s p k = cntA σ p k := by
  have f38 := h.2.1 38 (by omega) (by omega) (by omega)
  have f39 := h.2.1 39 (by omega) (by omega) (by omega)
  have f0 := h.2.1 0 (by omega) (by omega) (by omega)
  rcases k with _ | _ | _ | _ | _ | _ | _ | _ | k
  · rfl
  · rfl
  · rfl
  · show s.1 38 1 = _; rw [f38]; rfl
  · show s.1 39 0 = _; rw [f39]; rfl
  · show s.1 39 1 = _; rw [f39]; rfl
  · show s.1 38 0 = _; rw [f38]; rfl
  · rfl
  · show s.1 0 5 = _; rw [f0]; rfl
theorem snA_e {s : zS} (h : EQ σ s) (x w : Int) : snA s x w = snA σ x w := by
  unfold snA
  rw [h.2.1 43 (by omega) (by omega) (by omega), h.2.1 44 (by omega) (by omega) (by omega), h.2.1 45 (by omega) (by omega) (by omega)]
set_option maxHeartbeats 2000000 in
theorem c_X4_countOf {p : zP} (ec : cP σ = p) (hp : WP p) {k : Nat} (hk : k < 9) (hS : k = 1 ∨ k = 2 → SA 14 σ p) : YI 6 μX4_countOf [.ref 0, .int (zi (k : Int))] σ (cntA σ p k) σ := by
  refine YC.of2 (by decide) (Nat.le_of_ble_eq_true rfl) (fun d P hd hP => ?_)
  rcases (show k = 0 ∨ k = 1 ∨ k = 2 ∨ k = 3 ∨ k = 4 ∨ k = 5 ∨ k = 6 ∨ k = 7 ∨ k = 8 by omega) with rfl | rfl | rfl | rfl | rfl | rfl | rfl | rfl | rfl
  · refine Y.iload_n dX4_countOf_0 rfl ?_
    refine Y.tin 48 dX4_countOf_1 (by omega) (by omega) (by omega) rfl (by decide) ?_
    refine Y.aload_n dX4_countOf_48 rfl ?_
    refine Y.getf dX4_countOf_49 flX4_12 ob0 rfl ?_
    refine Y.cVI dX4_countOf_52 mkX2_stepsInAll csX4_220 ob1 ⟨_, rfl, rfl⟩ (k_X2_stepsInAll ec hp) (by omega) rfl rfl (Nat.le_of_ble_eq_true rfl) ?_
    exact Y.iret dX4_countOf_55 rfl (hP _ _ ⟨rfl, rfl⟩)
  · rcases hS (by omega) with ⟨h1, h2⟩ | ⟨r, l, h1, h2, _⟩
    · refine Y.iload_n dX4_countOf_0 rfl ?_
      refine Y.tin 56 dX4_countOf_1 (by omega) (by omega) (by omega) rfl (by decide) ?_
      refine Y.aload_n dX4_countOf_56 rfl ?_
      refine Y.getf dX4_countOf_57 flX4_21 ob0 rfl ?_
      refine Y.getf dX4_countOf_60 flX4_129 (obA (Or.inl rfl)) rfl ?_
      refine Y.iconst dX4_countOf_63 ?_
      rw [h2]
      refine Y.icmp_ne 71 dX4_countOf_64 (by decide) (by omega) (by omega) (fun h_64 => ?_) (fun h_64 => ?_)
      · exfalso; omega
      refine Y.iconst dX4_countOf_67 ?_
      refine Y.goto 72 dX4_countOf_68 (by decide) ?_
      exact Y.iret dX4_countOf_72 rfl (hP _ _ ⟨zrI (by show _ = zb (SR p ≠ none); rw [zb_f (fun q => q h1)]), rfl⟩)
    · refine Y.iload_n dX4_countOf_0 rfl ?_
      refine Y.tin 56 dX4_countOf_1 (by omega) (by omega) (by omega) rfl (by decide) ?_
      refine Y.aload_n dX4_countOf_56 rfl ?_
      refine Y.getf dX4_countOf_57 flX4_21 ob0 rfl ?_
      refine Y.getf dX4_countOf_60 flX4_129 (obA (Or.inl rfl)) rfl ?_
      refine Y.iconst dX4_countOf_63 ?_
      have hr := (SR_b hp h1).2.2
      have hr : 1 ≤ r ∧ r ≤ 20 := hr
      rw [h2]
      refine Y.icmp_ne 71 dX4_countOf_64 (by decide) (by omega) (by omega) (fun h_64 => ?_) (fun h_64 => ?_)
      rotate_left
      · exfalso; omega
      refine Y.iconst dX4_countOf_71 ?_
      exact Y.iret dX4_countOf_72 rfl (hP _ _ ⟨zrI (by show _ = zb (SR p ≠ none); rw [zb_t (by rw [h1]; exact Option.some_ne_none _)]), rfl⟩)
  · refine Y.iload_n dX4_countOf_0 rfl ?_
    refine Y.tin 73 dX4_countOf_1 (by omega) (by omega) (by omega) rfl (by decide) ?_
    refine Y.aload_n dX4_countOf_73 rfl ?_
    refine Y.getf dX4_countOf_74 flX4_21 ob0 rfl ?_
    refine Y.cVI dX4_countOf_77 mkX0_meetingBits csX4_135 (obA (Or.inl rfl)) ⟨_, rfl, rfl⟩ (c_X0_meetingBits (Or.inl rfl) ec hp (hS (by omega))) (by omega) rfl rfl (Nat.le_of_ble_eq_true rfl) ?_
    have hbb := bts_b (metP p)
    refine Y.cSI dX4_countOf_80 mkJ6_bitCount_0f7a4 csX4_223 (c_J6_bitCount (by omega) (by omega)) (by omega) rfl rfl (Nat.le_of_ble_eq_true rfl) ?_
    exact Y.iret dX4_countOf_83 rfl (hP _ _ ⟨zrI (by rw [bts_c]; rfl), rfl⟩)
  · refine Y.iload_n dX4_countOf_0 rfl ?_
    refine Y.tin 84 dX4_countOf_1 (by omega) (by omega) (by omega) rfl (by decide) ?_
    refine Y.aload_n dX4_countOf_84 rfl ?_
    refine Y.getf dX4_countOf_85 flX4_31 ob0 rfl ?_
    refine Y.getf dX4_countOf_88 flX4_149 ob38 rfl ?_
    exact Y.iret dX4_countOf_91 rfl (hP _ _ ⟨rfl, rfl⟩)
  · refine Y.iload_n dX4_countOf_0 rfl ?_
    refine Y.tin 92 dX4_countOf_1 (by omega) (by omega) (by omega) rfl (by decide) ?_
    refine Y.aload_n dX4_countOf_92 rfl ?_
    refine Y.getf dX4_countOf_93 flX4_31 ob0 rfl ?_
    refine Y.getf dX4_countOf_96 flX4_228 ob38 rfl ?_
    refine Y.iconst dX4_countOf_99 ?_
    refine Y.iald dX4_countOf_100 ia39 (by omega) (by omega) ?_
    exact Y.iret dX4_countOf_101 rfl (hP _ _ ⟨rfl, rfl⟩)
  · refine Y.iload_n dX4_countOf_0 rfl ?_
    refine Y.tin 102 dX4_countOf_1 (by omega) (by omega) (by omega) rfl (by decide) ?_
    refine Y.aload_n dX4_countOf_102 rfl ?_
    refine Y.getf dX4_countOf_103 flX4_31 ob0 rfl ?_
    refine Y.getf dX4_countOf_106 flX4_228 ob38 rfl ?_
    refine Y.iconst dX4_countOf_109 ?_
    refine Y.iald dX4_countOf_110 ia39 (by omega) (by omega) ?_
    exact Y.iret dX4_countOf_111 rfl (hP _ _ ⟨rfl, rfl⟩)
  · refine Y.iload_n dX4_countOf_0 rfl ?_
    refine Y.tin 112 dX4_countOf_1 (by omega) (by omega) (by omega) rfl (by decide) ?_
    refine Y.aload_n dX4_countOf_112 rfl ?_
    refine Y.getf dX4_countOf_113 flX4_31 ob0 rfl ?_
    refine Y.getf dX4_countOf_116 flX4_231 ob38 rfl ?_
    exact Y.iret dX4_countOf_119 rfl (hP _ _ ⟨rfl, rfl⟩)
  · refine Y.iload_n dX4_countOf_0 rfl ?_
    refine Y.tin 120 dX4_countOf_1 (by omega) (by omega) (by omega) rfl (by decide) ?_
    refine Y.aload_n dX4_countOf_120 rfl ?_
    refine Y.getf dX4_countOf_121 flX4_12 ob0 rfl ?_
    refine Y.cVI dX4_countOf_124 mkX2_overloadedSteps csX4_234 ob1 ⟨_, rfl, rfl⟩ (k_X2_overloadedSteps ec hp) (by omega) rfl rfl (Nat.le_of_ble_eq_true rfl) ?_
    exact Y.iret dX4_countOf_127 rfl (hP _ _ ⟨rfl, rfl⟩)
  · refine Y.iload_n dX4_countOf_0 rfl ?_
    refine Y.tout 128 dX4_countOf_1 (by omega) (by omega) (by decide) ?_
    refine Y.aload_n dX4_countOf_128 rfl ?_
    refine Y.getf dX4_countOf_129 flX4_42 ob0 rfl ?_
    exact Y.iret dX4_countOf_132 rfl (hP _ _ ⟨rfl, rfl⟩)
set_option maxHeartbeats 1000000 in
theorem c_X4_count {p : zP} (ec : cP σ = p) (hp : WP p) (hs : σ.1 14 17 = 0 ∨ σ.1 14 17 = 1) (hst : σ.1 14 17 = 0 → SA 14 σ p) {w : Int} (hw : zB w) : YC 7 μX4_count [.ref 0, .int (zi w)] σ (fun r s => RQ (0 ≤ w ∧ w ≤ 8) (cntA σ p w.toNat) r ∧ EQ σ s ∧ STL s) := by
  refine YC.of2 (by decide) (Nat.le_of_ble_eq_true rfl) (fun d P hd hP => ?_)
  refine Y.iload_n dX4_count_0 rfl ?_
  refine Y.i2l dX4_count_1 (by omega) ?_
  refine Y.iconst dX4_count_2 ?_
  refine Y.bipush dX4_count_3 (by decide +kernel) ?_
  refine Y.cSI dX4_count_5 mkX4_within csX4_50 (c_X4_within (by omega) (by omega) (by omega)) (by omega) rfl rfl (Nat.le_of_ble_eq_true rfl) ?_
  refine Y.ifz_ne 14 dX4_count_8 (by decide) (fun h_8 => ?_) (fun h_8 => ?_)
  · obtain ⟨k, rfl⟩ : ∃ k : Nat, w = (k : Int) := ⟨w.toNat, by omega⟩
    refine Y.iload_n dX4_count_14 rfl ?_
    refine Y.iconst dX4_count_15 ?_
    refine Y.icmp_eq 24 dX4_count_16 (by decide) (by omega) (by omega) (fun h_16 => ?_) (fun h_16 => ?_)
    · refine Y.aload_n dX4_count_24 rfl ?_
      refine Y.getf dX4_count_25 flX4_21 ob0 rfl ?_
      refine Y.callV dX4_count_28 mkX0_settle csX4_111 (obA (Or.inl rfl)) ⟨_, rfl, rfl⟩ (c_X0_settle (Or.inl rfl) ec hp hs hst) (by omega) rfl rfl (Nat.le_of_ble_eq_true rfl) (fun r_28 s_28 p_28 => ?_)
      obtain ⟨rfl, f_28, g_28, a_28⟩ := p_28
      have ec2 := (f_28.cp (Or.inl rfl)).trans ec
      have hE := f_28.eq (Or.inl rfl)
      have hT : STL s_28 := STL.of ec2 g_28 a_28
      refine Y.aload_n dX4_count_31 rfl ?_
      refine Y.iload_n dX4_count_32 rfl ?_
      refine Y.cVI dX4_count_33 mkX4_countOf csX4_194 ob0 ⟨_, rfl, rfl⟩ (c_X4_countOf (by first | exact ec2 | exact ec) hp (by omega) (fun q => by first | exact a_28 | (exfalso; omega))) (by omega) rfl rfl (Nat.le_of_ble_eq_true rfl) ?_
      exact Y.iret dX4_count_36 rfl (hP _ _ ⟨Or.inl ⟨by assumption, zrI (by first | exact cntA_e hE _ | rfl)⟩, by first | exact ⟨hE, hT⟩ | exact ⟨EQ.rf, hs, fun q => by rw [ec]; exact hst q⟩⟩)
    · refine Y.iload_n dX4_count_19 rfl ?_
      refine Y.iconst dX4_count_20 ?_
      refine Y.icmp_ne 31 dX4_count_21 (by decide) (by omega) (by omega) (fun h_21 => ?_) (fun h_21 => ?_)
      · refine Y.aload_n dX4_count_31 rfl ?_
        refine Y.iload_n dX4_count_32 rfl ?_
        refine Y.cVI dX4_count_33 mkX4_countOf csX4_194 ob0 ⟨_, rfl, rfl⟩ (c_X4_countOf (by first | exact ec2 | exact ec) hp (by omega) (fun q => by first | exact a_28 | (exfalso; omega))) (by omega) rfl rfl (Nat.le_of_ble_eq_true rfl) ?_
        exact Y.iret dX4_count_36 rfl (hP _ _ ⟨Or.inl ⟨by assumption, zrI (by first | exact cntA_e hE _ | rfl)⟩, by first | exact ⟨hE, hT⟩ | exact ⟨EQ.rf, hs, fun q => by rw [ec]; exact hst q⟩⟩)
      · refine Y.aload_n dX4_count_24 rfl ?_
        refine Y.getf dX4_count_25 flX4_21 ob0 rfl ?_
        refine Y.callV dX4_count_28 mkX0_settle csX4_111 (obA (Or.inl rfl)) ⟨_, rfl, rfl⟩ (c_X0_settle (Or.inl rfl) ec hp hs hst) (by omega) rfl rfl (Nat.le_of_ble_eq_true rfl) (fun r_28 s_28 p_28 => ?_)
        obtain ⟨rfl, f_28, g_28, a_28⟩ := p_28
        have ec2 := (f_28.cp (Or.inl rfl)).trans ec
        have hE := f_28.eq (Or.inl rfl)
        have hT : STL s_28 := STL.of ec2 g_28 a_28
        refine Y.aload_n dX4_count_31 rfl ?_
        refine Y.iload_n dX4_count_32 rfl ?_
        refine Y.cVI dX4_count_33 mkX4_countOf csX4_194 ob0 ⟨_, rfl, rfl⟩ (c_X4_countOf (by first | exact ec2 | exact ec) hp (by omega) (fun q => by first | exact a_28 | (exfalso; omega))) (by omega) rfl rfl (Nat.le_of_ble_eq_true rfl) ?_
        exact Y.iret dX4_count_36 rfl (hP _ _ ⟨Or.inl ⟨by assumption, zrI (by first | exact cntA_e hE _ | rfl)⟩, by first | exact ⟨hE, hT⟩ | exact ⟨EQ.rf, hs, fun q => by rw [ec]; exact hst q⟩⟩)
  · refine Y.bipush dX4_count_11 (by decide +kernel) ?_
    exact Y.iret dX4_count_13 rfl (hP _ _ ⟨Or.inr ⟨by assumption, rfl⟩, EQ.rf, hs, fun q => by rw [ec]; exact hst q⟩)
/-- the digest, step by step -/
def dg (h v : Int) : Int := 31 * h + wi v
def dgf (F : Int → Int → Int) : Nat → Int → Int
  | 0, h => h
  | n + 1, h => F n (dgf F n h)
theorem dgf_s {F : Int → Int → Int} {w h : Int} (h0 : 0 ≤ w) : dgf F (w + 1 - 0).toNat h = F w (dgf F (w - 0).toNat h) := by
  rw [show (w + 1 - 0).toNat = (w - 0).toNat + 1 by omega]
  show F _ _ = _
  rw [show (((w - 0).toNat : Nat) : Int) = w by omega]
noncomputable def stT (σ : zS) (p : zP) (x h : Int) : Int :=
  dgf (fun w h => dg h (snA σ x w)) 3 (dgf (fun w h => dg h (wrsA p x w)) 3 (dg (dg (dg (dg (dg (dgf (fun w h => dg h (infA p x w.toNat)) 7 h) (ldp p x 0)) (ldp p x 1)) (bndA p x)) (srcA p x)) (qckA p x)))
noncomputable def dgA (σ : zS) (p : zP) : Int :=
  dgf (fun t h => dg (dg h (σ.1 41 t)) (σ.1 42 t)) 60 (dgf (fun x h => @ite _ (th p x) (Classical.propDecidable _) (stT σ p x h) h) 9 (dgf (fun i h => dgf (fun w h => dg h (p w.toNat i)) 6 h) 3 (dg (dg (dgf (fun w h => dg h (cntA σ p w.toNat)) 8 17) (rndA p)) (bts (metP p)))))
theorem zFQ.tr {b : Nat} {s t : zS} (h : zFQ b σ s) (h2 : zFQ b s t) : zFQ b σ t := ⟨h2.1.trans h.1, fun c q1 q2 q3 q4 => (h2.2.1 c q1 q2 q3 q4).trans (h.2.1 c q1 q2 q3 q4), fun i q => (h2.2.2 i q).trans (h.2.2 i q)⟩
set_option maxHeartbeats 2000000 in
theorem ws_166 {d : Nat} {P : Option Value → zS → Prop} (hd : 6 ≤ d) {h g x : Int} (h0 : 0 ≤ x) (h9 : x < 9) (hk : P (some (.long (zl (dgf (fun w h => dg h (snA σ x w)) 3 g)))) σ) : Y d μX4_withStep 166 [some (.ref 0), some (.long (zl h)), none, some (.int (zi x)), some (.long (zl g)), none, some (.int (zi 0))] [] σ P := by
  refine zw1 (fun w => (0 ≤ w ∧ w ≤ 3)) (fun w => Y d μX4_withStep 166 [some (.ref 0), some (.long (zl h)), none, some (.int (zi x)), some (.long (zl (dgf (fun w h => dg h (snA σ x w)) (w - 0).toNat g))), none, some (.int (zi w))] [] σ P) (fun w => (3 - w).toNat) ?_ 0 ⟨by omega, by omega⟩
  intro w hI ih
  obtain ⟨i1, i2⟩ := hI
  refine Y.iload dX4_withStep_166 rfl ?_
  refine Y.iconst dX4_withStep_168 ?_
  refine Y.icmp_gt 198 dX4_withStep_169 (by decide) (by omega) (by omega) (fun h_169 => ?_) (fun h_169 => ?_)
  · refine Y.lload dX4_withStep_198 rfl ?_
    exact Y.lret dX4_withStep_200 rfl (by rw [show w = 3 by omega]; exact hk)
  · refine Y.ldc2 (31) dX4_withStep_172 kX4_199 ?_
    refine Y.lload dX4_withStep_175 rfl ?_
    refine Y.lmul dX4_withStep_177 ?_
    refine Y.aload_n dX4_withStep_178 rfl ?_
    refine Y.getf dX4_withStep_179 flX4_31 ob0 rfl ?_
    refine Y.iload_n dX4_withStep_182 rfl ?_
    refine Y.iload dX4_withStep_183 rfl ?_
    refine Y.cVI dX4_withStep_185 mkX1_seenOf csX4_152 ob38 ⟨_, rfl, rfl⟩ (c_X1_seenOf h0 h9 (by omega)) (by omega) rfl rfl (Nat.le_of_ble_eq_true rfl) ?_
    rw [show (if w = 0 then σ.1 43 x else if w = 1 then σ.1 44 x else σ.1 45 x) = snA σ x w from rfl]
    refine Y.i2lw dX4_withStep_188 ?_
    refine Y.ladd dX4_withStep_189 ?_
    refine Y.lstore dX4_withStep_190 (by decide) rfl ?_
    refine Y.iinc dX4_withStep_192 rfl (by decide) rfl ?_
    refine Y.goto 166 dX4_withStep_195 (by decide) ?_
    rw [show 31 * (dgf (fun w h => dg h (snA σ x w)) (w - 0).toNat g) + wi (snA σ x w) = dgf (fun w h => dg h (snA σ x w)) (w + 1 - 0).toNat g from (dgf_s (F := fun w h => dg h (snA σ x w)) i1).symm]
    exact ih _ ⟨by omega, by omega⟩ (by omega)
set_option maxHeartbeats 2000000 in
theorem ws_131 {p : zP} (ec : cP σ = p) (hp : WP p) (hS : SA 14 σ p) {d : Nat} {P : Option Value → zS → Prop} (hd : 6 ≤ d) {h g x : Int} (h0 : 0 ≤ x) (h9 : x < 9) (ht : th p x) (hk : Y d μX4_withStep 163 [some (.ref 0), some (.long (zl h)), none, some (.int (zi x)), some (.long (zl (dgf (fun w h => dg h (wrsA p x w)) 3 g))), none, some (.int (zi 3))] [] σ P) : Y d μX4_withStep 131 [some (.ref 0), some (.long (zl h)), none, some (.int (zi x)), some (.long (zl g)), none, some (.int (zi 0))] [] σ P := by
  refine zw1 (fun w => (0 ≤ w ∧ w ≤ 3)) (fun w => Y d μX4_withStep 131 [some (.ref 0), some (.long (zl h)), none, some (.int (zi x)), some (.long (zl (dgf (fun w h => dg h (wrsA p x w)) (w - 0).toNat g))), none, some (.int (zi w))] [] σ P) (fun w => (3 - w).toNat) ?_ 0 ⟨by omega, by omega⟩
  intro w hI ih
  obtain ⟨i1, i2⟩ := hI
  refine Y.iload dX4_withStep_131 rfl ?_
  refine Y.iconst dX4_withStep_133 ?_
  refine Y.icmp_gt 163 dX4_withStep_134 (by decide) (by omega) (by omega) (fun h_134 => ?_) (fun h_134 => ?_)
  · rw [show w = 3 by omega]
    exact hk
  · refine Y.ldc2 (31) dX4_withStep_137 kX4_199 ?_
    refine Y.lload dX4_withStep_140 rfl ?_
    refine Y.lmul dX4_withStep_142 ?_
    refine Y.aload_n dX4_withStep_143 rfl ?_
    refine Y.getf dX4_withStep_144 flX4_21 ob0 rfl ?_
    refine Y.iload_n dX4_withStep_147 rfl ?_
    refine Y.iload dX4_withStep_148 rfl ?_
    refine Y.cVI dX4_withStep_150 mkX0_worstOf csX4_132 (obA (Or.inl rfl)) ⟨_, rfl, rfl⟩ (c_X0_worstOf (Or.inl rfl) ec hp hS h0 h9 ht (by omega)) (by omega) rfl rfl (Nat.le_of_ble_eq_true rfl) ?_
    refine Y.i2lw dX4_withStep_153 ?_
    refine Y.ladd dX4_withStep_154 ?_
    refine Y.lstore dX4_withStep_155 (by decide) rfl ?_
    refine Y.iinc dX4_withStep_157 rfl (by decide) rfl ?_
    refine Y.goto 131 dX4_withStep_160 (by decide) ?_
    rw [show 31 * (dgf (fun w h => dg h (wrsA p x w)) (w - 0).toNat g) + wi (wrsA p x w) = dgf (fun w h => dg h (wrsA p x w)) (w + 1 - 0).toNat g from (dgf_s (F := fun w h => dg h (wrsA p x w)) i1).symm]
    exact ih _ ⟨by omega, by omega⟩ (by omega)
set_option maxHeartbeats 2000000 in
theorem ws_6 {p : zP} (ec : cP σ = p) (hp : WP p) (hS : SA 14 σ p) {d : Nat} {P : Option Value → zS → Prop} (hd : 6 ≤ d) {h g x : Int} (h0 : 0 ≤ x) (h9 : x < 9) (ht : th p x) (hk : Y d μX4_withStep 36 [some (.ref 0), some (.long (zl h)), none, some (.int (zi x)), some (.long (zl (dgf (fun w h => dg h (infA p x w.toNat)) 7 g))), none, some (.int (zi 7))] [] σ P) : Y d μX4_withStep 6 [some (.ref 0), some (.long (zl h)), none, some (.int (zi x)), some (.long (zl g)), none, some (.int (zi 0))] [] σ P := by
  refine zw1 (fun w => (0 ≤ w ∧ w ≤ 7)) (fun w => Y d μX4_withStep 6 [some (.ref 0), some (.long (zl h)), none, some (.int (zi x)), some (.long (zl (dgf (fun w h => dg h (infA p x w.toNat)) (w - 0).toNat g))), none, some (.int (zi w))] [] σ P) (fun w => (7 - w).toNat) ?_ 0 ⟨by omega, by omega⟩
  intro w hI ih
  obtain ⟨i1, i2⟩ := hI
  refine Y.iload dX4_withStep_6 rfl ?_
  refine Y.bipush dX4_withStep_8 (by decide +kernel) ?_
  refine Y.icmp_gt 36 dX4_withStep_10 (by decide) (by omega) (by omega) (fun h_10 => ?_) (fun h_10 => ?_)
  · rw [show w = 7 by omega]
    exact hk
  · refine Y.ldc2 (31) dX4_withStep_13 kX4_199 ?_
    refine Y.lload dX4_withStep_16 rfl ?_
    refine Y.lmul dX4_withStep_18 ?_
    refine Y.aload_n dX4_withStep_19 rfl ?_
    refine Y.iload_n dX4_withStep_20 rfl ?_
    refine Y.iload dX4_withStep_21 rfl ?_
    obtain ⟨k, rfl⟩ : ∃ k : Nat, w = (k : Int) := ⟨w.toNat, by omega⟩
    refine Y.cVI dX4_withStep_23 mkX4_infoOf csX4_114 ob0 ⟨_, rfl, rfl⟩ (c_X4_infoOf ec hp h0 h9 ht (by omega) (fun _ => hS)) (by omega) rfl rfl (Nat.le_of_ble_eq_true rfl) ?_
    rw [show infA p x k = infA p x ((k : Int)).toNat from rfl]
    refine Y.i2lw dX4_withStep_26 ?_
    refine Y.ladd dX4_withStep_27 ?_
    refine Y.lstore dX4_withStep_28 (by decide) rfl ?_
    refine Y.iinc dX4_withStep_30 rfl (by decide) rfl ?_
    refine Y.goto 6 dX4_withStep_33 (by decide) ?_
    rw [show 31 * (dgf (fun w h => dg h (infA p x w.toNat)) ((k : Int) - 0).toNat g) + wi (infA p x ((k : Int)).toNat) = dgf (fun w h => dg h (infA p x w.toNat)) ((k : Int) + 1 - 0).toNat g from (dgf_s (F := fun w h => dg h (infA p x w.toNat)) i1).symm]
    exact ih _ ⟨by omega, by omega⟩ (by omega)
set_option maxHeartbeats 2000000 in
theorem ws_36 {p : zP} (ec : cP σ = p) (hp : WP p) (hS : SA 14 σ p) {d : Nat} {P : Option Value → zS → Prop} (hd : 6 ≤ d) {h g x w : Int} (h0 : 0 ≤ x) (h9 : x < 9) (ht : th p x) (hk : ∀ s : zS, zFQ 14 σ s → cP s = p → Y d μX4_withStep 163 [some (.ref 0), some (.long (zl h)), none, some (.int (zi x)), some (.long (zl (dgf (fun w h => dg h (wrsA p x w)) 3 (dg (dg (dg (dg (dg g (ldp p x 0)) (ldp p x 1)) (bndA p x)) (srcA p x)) (qckA p x))))), none, some (.int (zi 3))] [] s P) : Y d μX4_withStep 36 [some (.ref 0), some (.long (zl h)), none, some (.int (zi x)), some (.long (zl g)), none, some (.int (zi w))] [] σ P := by
  refine Y.ldc2 (31) dX4_withStep_36 kX4_199 ?_
  refine Y.lload dX4_withStep_39 rfl ?_
  refine Y.lmul dX4_withStep_41 ?_
  refine Y.aload_n dX4_withStep_42 rfl ?_
  refine Y.getf dX4_withStep_43 flX4_12 ob0 rfl ?_
  refine Y.iload_n dX4_withStep_46 rfl ?_
  refine Y.iconst dX4_withStep_47 ?_
  refine Y.cVI dX4_withStep_48 mkX2_loadPart csX4_117 ob1 ⟨_, rfl, rfl⟩ (k_X2_loadPart ec hp h0 h9 (by omega)) (by omega) rfl rfl (Nat.le_of_ble_eq_true rfl) ?_
  refine Y.i2lw dX4_withStep_51 ?_
  refine Y.ladd dX4_withStep_52 ?_
  refine Y.lstore dX4_withStep_53 (by decide) rfl ?_
  refine Y.ldc2 (31) dX4_withStep_55 kX4_199 ?_
  refine Y.lload dX4_withStep_58 rfl ?_
  refine Y.lmul dX4_withStep_60 ?_
  refine Y.aload_n dX4_withStep_61 rfl ?_
  refine Y.getf dX4_withStep_62 flX4_12 ob0 rfl ?_
  refine Y.iload_n dX4_withStep_65 rfl ?_
  refine Y.iconst dX4_withStep_66 ?_
  refine Y.cVI dX4_withStep_67 mkX2_loadPart csX4_117 ob1 ⟨_, rfl, rfl⟩ (k_X2_loadPart ec hp h0 h9 (by omega)) (by omega) rfl rfl (Nat.le_of_ble_eq_true rfl) ?_
  refine Y.i2lw dX4_withStep_70 ?_
  refine Y.ladd dX4_withStep_71 ?_
  refine Y.lstore dX4_withStep_72 (by decide) rfl ?_
  refine Y.ldc2 (31) dX4_withStep_74 kX4_199 ?_
  refine Y.lload dX4_withStep_77 rfl ?_
  refine Y.lmul dX4_withStep_79 ?_
  refine Y.aload_n dX4_withStep_80 rfl ?_
  refine Y.getf dX4_withStep_81 flX4_21 ob0 rfl ?_
  refine Y.iload_n dX4_withStep_84 rfl ?_
  refine Y.cVI dX4_withStep_85 mkX0_boundOf csX4_120 (obA (Or.inl rfl)) ⟨_, rfl, rfl⟩ (c_X0_boundOf (Or.inl rfl) ec hp hS h0 h9 ht) (by omega) rfl rfl (Nat.le_of_ble_eq_true rfl) ?_
  refine Y.i2lw dX4_withStep_88 ?_
  refine Y.ladd dX4_withStep_89 ?_
  refine Y.lstore dX4_withStep_90 (by decide) rfl ?_
  refine Y.ldc2 (31) dX4_withStep_92 kX4_199 ?_
  refine Y.lload dX4_withStep_95 rfl ?_
  refine Y.lmul dX4_withStep_97 ?_
  refine Y.aload_n dX4_withStep_98 rfl ?_
  refine Y.getf dX4_withStep_99 flX4_21 ob0 rfl ?_
  refine Y.iload_n dX4_withStep_102 rfl ?_
  refine Y.callV dX4_withStep_103 mkX0_searchedOf csX4_123 (obA (Or.inl rfl)) ⟨_, rfl, rfl⟩ (c_X0_searchedOf (Or.inl rfl) ec hp hS h0 h9 ht) (by omega) rfl rfl (Nat.le_of_ble_eq_true rfl) (fun r_103 s_103 p_103 => ?_)
  obtain ⟨rfl, f_103⟩ := p_103
  have ec10 : cP s_103 = p := (f_103.eq (Or.inl rfl)).cp.trans ec
  have hS10 := hS.fr (Or.inl rfl) f_103
  refine Y.i2lw dX4_withStep_106 ?_
  refine Y.ladd dX4_withStep_107 ?_
  refine Y.lstore dX4_withStep_108 (by decide) rfl ?_
  refine Y.ldc2 (31) dX4_withStep_110 kX4_199 ?_
  refine Y.lload dX4_withStep_113 rfl ?_
  refine Y.lmul dX4_withStep_115 ?_
  refine Y.aload_n dX4_withStep_116 rfl ?_
  refine Y.getf dX4_withStep_117 flX4_21 ob0 rfl ?_
  refine Y.iload_n dX4_withStep_120 rfl ?_
  refine Y.callV dX4_withStep_121 mkX0_quickOf csX4_126 (obA (Or.inl rfl)) ⟨_, rfl, rfl⟩ (c_X0_quickOf (Or.inl rfl) ec10 hp hS10 h0 h9 ht) (by omega) rfl rfl (Nat.le_of_ble_eq_true rfl) (fun r_121 s_121 p_121 => ?_)
  obtain ⟨rfl, f_121⟩ := p_121
  have hQ2 := f_103.tr f_121
  have ec12 : cP s_121 = p := (hQ2.eq (Or.inl rfl)).cp.trans ec
  have hS12 := hS.fr (Or.inl rfl) hQ2
  refine Y.i2lw dX4_withStep_124 ?_
  refine Y.ladd dX4_withStep_125 ?_
  refine Y.lstore dX4_withStep_126 (by decide) rfl ?_
  refine Y.iconst dX4_withStep_128 ?_
  refine Y.istore dX4_withStep_129 (by decide) rfl ?_
  exact ws_131 ec12 hp hS12 hd h0 h9 ht (hk _ hQ2 ec12)
set_option maxHeartbeats 4000000 in
theorem c_X4_withStep {p : zP} (ec : cP σ = p) (hp : WP p) (hS : SA 14 σ p) {h x : Int} (h0 : 0 ≤ x) (h9 : x < 9) (ht : th p x) : YC 6 μX4_withStep [.ref 0, .long (zl h), .int (zi x)] σ (fun r s => r = some (.long (zl (stT σ p x h))) ∧ zFQ 14 σ s) := by
  refine YC.of2 (by decide) (Nat.le_of_ble_eq_true rfl) (fun d P hd hP => ?_)
  refine Y.lload_n dX4_withStep_0 rfl ?_
  refine Y.lstore dX4_withStep_1 (by decide) rfl ?_
  refine Y.iconst dX4_withStep_3 ?_
  refine Y.istore dX4_withStep_4 (by decide) rfl ?_
  refine ws_6 ec hp hS hd h0 h9 ht ?_
  refine ws_36 ec hp hS hd h0 h9 ht (fun s hQ ec3 => ?_)
  refine Y.iconst dX4_withStep_163 ?_
  refine Y.istore dX4_withStep_164 (by decide) rfl ?_
  refine ws_166 hd h0 h9 (hP _ _ ⟨?_, hQ⟩)
  simp only [snA_e (hQ.eq (Or.inl rfl))]
  rfl
set_option maxHeartbeats 2000000 in
theorem dgs_145 {d : Nat} {P : Option Value → zS → Prop} (hd : 8 ≤ d) {g : Int} (hk : P (some (.long (zl (dgf (fun t h => dg (dg h (σ.1 41 t)) (σ.1 42 t)) 60 g)))) σ) : Y d μX4_digest 145 [some (.ref 0), some (.long (zl g)), none, some (.int (zi 0)), none] [] σ P := by
  refine zw1 (fun t => (0 ≤ t ∧ t ≤ 60)) (fun t => Y d μX4_digest 145 [some (.ref 0), some (.long (zl (dgf (fun t h => dg (dg h (σ.1 41 t)) (σ.1 42 t)) (t - 0).toNat g))), none, some (.int (zi t)), none] [] σ P) (fun t => (60 - t).toNat) ?_ 0 ⟨by omega, by omega⟩
  intro t hI ih
  obtain ⟨t1, t2⟩ := hI
  refine Y.iload_n dX4_digest_145 rfl ?_
  refine Y.bipush dX4_digest_146 (by decide +kernel) ?_
  refine Y.icmp_ge 195 dX4_digest_148 (by decide) (by omega) (by omega) (fun h_148 => ?_) (fun h_148 => ?_)
  · refine Y.lload_n dX4_digest_195 rfl ?_
    exact Y.lret dX4_digest_196 rfl (by rw [show t = 60 by omega, show ((60 : Int) - 0).toNat = 60 from rfl]; exact hk)
  · refine Y.ldc2 (31) dX4_digest_151 kX4_199 ?_
    refine Y.lload_n dX4_digest_154 rfl ?_
    refine Y.lmul dX4_digest_155 ?_
    refine Y.aload_n dX4_digest_156 rfl ?_
    refine Y.getf dX4_digest_157 flX4_31 ob0 rfl ?_
    refine Y.getf dX4_digest_160 flX4_155 ob38 rfl ?_
    refine Y.iconst dX4_digest_163 ?_
    refine Y.aald dX4_digest_164 ra40 (by decide) (by decide) (by decide) rfl ?_
    refine Y.iload_n dX4_digest_165 rfl ?_
    refine Y.iald dX4_digest_166 ia41 (by omega) (by omega) ?_
    refine Y.i2lw dX4_digest_167 ?_
    refine Y.ladd dX4_digest_168 ?_
    refine Y.lstore_n dX4_digest_169 (by decide) rfl ?_
    refine Y.ldc2 (31) dX4_digest_170 kX4_199 ?_
    refine Y.lload_n dX4_digest_173 rfl ?_
    refine Y.lmul dX4_digest_174 ?_
    refine Y.aload_n dX4_digest_175 rfl ?_
    refine Y.getf dX4_digest_176 flX4_31 ob0 rfl ?_
    refine Y.getf dX4_digest_179 flX4_155 ob38 rfl ?_
    refine Y.iconst dX4_digest_182 ?_
    refine Y.aald dX4_digest_183 ra40 (by decide) (by decide) (by decide) rfl ?_
    refine Y.iload_n dX4_digest_184 rfl ?_
    refine Y.iald dX4_digest_185 ia42 (by omega) (by omega) ?_
    refine Y.i2lw dX4_digest_186 ?_
    refine Y.ladd dX4_digest_187 ?_
    refine Y.lstore_n dX4_digest_188 (by decide) rfl ?_
    refine Y.iinc dX4_digest_189 rfl (by decide) rfl ?_
    refine Y.goto 145 dX4_digest_192 (by decide) ?_
    rw [show 31 * (31 * (dgf (fun t h => dg (dg h (σ.1 41 t)) (σ.1 42 t)) (t - 0).toNat g) + wi (σ.1 41 t)) + wi (σ.1 42 t) = dgf (fun t h => dg (dg h (σ.1 41 t)) (σ.1 42 t)) (t + 1 - 0).toNat g from (dgf_s (F := fun t h => dg (dg h (σ.1 41 t)) (σ.1 42 t)) t1).symm]
    exact ih _ ⟨by omega, by omega⟩ (by omega)
set_option maxHeartbeats 2000000 in
theorem dgs_113 {p : zP} (ec : cP σ = p) (hp : WP p) (hS : SA 14 σ p) {d : Nat} {P : Option Value → zS → Prop} (hd : 8 ≤ d) {g : Int} (hk : ∀ u : zS, zFQ 14 σ u → Y d μX4_digest 143 [some (.ref 0), some (.long (zl (dgf (fun x h => @ite _ (th p x) (Classical.propDecidable _) (stT σ p x h) h) 9 g))), none, some (.int (zi 9)), none] [] u P) : Y d μX4_digest 113 [some (.ref 0), some (.long (zl g)), none, some (.int (zi 0)), none] [] σ P := by
  refine zw2 (fun u x => (0 ≤ x ∧ x ≤ 9 ∧ zFQ 14 σ u)) (fun u x => Y d μX4_digest 113 [some (.ref 0), some (.long (zl (dgf (fun x h => @ite _ (th p x) (Classical.propDecidable _) (stT σ p x h) h) (x - 0).toNat g))), none, some (.int (zi x)), none] [] u P) (fun u x => (9 - x).toNat) ?_ σ 0 ⟨by omega, by omega, zFQ.rf⟩
  intro u x hI ih
  obtain ⟨x1, x2, hQ⟩ := hI
  have ecu : cP u = p := ((hQ.eq (Or.inl rfl)).cp).trans ec
  have hSu := hS.fr (Or.inl rfl) hQ
  have est : ∀ h : Int, stT u p x h = stT σ p x h := fun h => by unfold stT; simp only [snA_e (hQ.eq (Or.inl rfl))]
  refine Y.iload_n dX4_digest_113 rfl ?_
  refine Y.bipush dX4_digest_114 (by decide +kernel) ?_
  refine Y.icmp_ge 143 dX4_digest_116 (by decide) (by omega) (by omega) (fun h_116 => ?_) (fun h_116 => ?_)
  · rw [show x = 9 by omega, show ((9 : Int) - 0).toNat = 9 from rfl]
    exact hk u hQ
  · refine Y.aload_n dX4_digest_119 rfl ?_
    refine Y.getf dX4_digest_120 flX4_12 ob0 rfl ?_
    refine Y.iload_n dX4_digest_123 rfl ?_
    refine Y.cVI dX4_digest_124 mkX2_isStep csX4_191 ob1 ⟨_, rfl, rfl⟩ (k_X2_isStep ecu hp (by omega) (by omega)) (by omega) rfl rfl (Nat.le_of_ble_eq_true rfl) ?_
    refine Y.ifz_eq 137 dX4_digest_127 (by decide) (fun h_127 => ?_) (fun h_127 => ?_)
    · refine Y.iinc dX4_digest_137 rfl (by decide) rfl ?_
      refine Y.goto 113 dX4_digest_140 (by decide) ?_
      refine Y.sub (zs_s (zs_s (zs_n (zs_s (zs_n zs_0))))) ?_
      first
        | (have e9 : dgf (fun x h => @ite _ (th p x) (Classical.propDecidable _) (stT σ p x h) h) (x + 1 - 0).toNat g = (dgf (fun x h => @ite _ (th p x) (Classical.propDecidable _) (stT σ p x h) h) (x - 0).toNat g) := by rw [dgf_s x1, if_neg (by assumption)]
           rw [← e9]
           exact ih _ _ ⟨by omega, by omega, hQ⟩ (by omega))
        | (have e9 : dgf (fun x h => @ite _ (th p x) (Classical.propDecidable _) (stT σ p x h) h) (x + 1 - 0).toNat g = stT u p x (dgf (fun x h => @ite _ (th p x) (Classical.propDecidable _) (stT σ p x h) h) (x - 0).toNat g) := by rw [dgf_s x1, if_pos (by assumption), est]
           rw [← e9]
           exact ih _ _ ⟨by omega, by omega, hQ.tr f_133⟩ (by omega))
    · refine Y.aload_n dX4_digest_130 rfl ?_
      refine Y.lload_n dX4_digest_131 rfl ?_
      refine Y.iload_n dX4_digest_132 rfl ?_
      refine Y.callV dX4_digest_133 mkX4_withStep csX4_201 ob0 ⟨_, rfl, rfl⟩ (c_X4_withStep ecu hp hSu (by omega) (by omega) (by assumption)) (by omega) rfl rfl (Nat.le_of_ble_eq_true rfl) (fun r_133 s_133 p_133 => ?_)
      obtain ⟨rfl, f_133⟩ := p_133
      refine Y.lstore_n dX4_digest_136 (by decide) rfl ?_
      refine Y.iinc dX4_digest_137 rfl (by decide) rfl ?_
      refine Y.goto 113 dX4_digest_140 (by decide) ?_
      refine Y.sub (zs_s (zs_s (zs_n (zs_s (zs_n zs_0))))) ?_
      first
        | (have e9 : dgf (fun x h => @ite _ (th p x) (Classical.propDecidable _) (stT σ p x h) h) (x + 1 - 0).toNat g = (dgf (fun x h => @ite _ (th p x) (Classical.propDecidable _) (stT σ p x h) h) (x - 0).toNat g) := by rw [dgf_s x1, if_neg (by assumption)]
           rw [← e9]
           exact ih _ _ ⟨by omega, by omega, hQ⟩ (by omega))
        | (have e9 : dgf (fun x h => @ite _ (th p x) (Classical.propDecidable _) (stT σ p x h) h) (x + 1 - 0).toNat g = stT u p x (dgf (fun x h => @ite _ (th p x) (Classical.propDecidable _) (stT σ p x h) h) (x - 0).toNat g) := by rw [dgf_s x1, if_pos (by assumption), est]
           rw [← e9]
           exact ih _ _ ⟨by omega, by omega, hQ.tr f_133⟩ (by omega))
set_option maxHeartbeats 2000000 in
theorem dgs_70 {p : zP} (ec : cP σ = p) {d : Nat} {P : Option Value → zS → Prop} (hd : 8 ≤ d) {g : Int} (hk : Y d μX4_digest 111 [some (.ref 0), some (.long (zl (dgf (fun i h => dgf (fun w h => dg h (p w.toNat i)) 6 h) 3 g))), none, some (.int (zi 3)), none] [] σ P) : Y d μX4_digest 70 [some (.ref 0), some (.long (zl g)), none, some (.int (zi 0)), none] [] σ P := by
  refine zw1 (fun i => (0 ≤ i ∧ i ≤ 3)) (fun i => Y d μX4_digest 70 [some (.ref 0), some (.long (zl (dgf (fun i h => dgf (fun w h => dg h (p w.toNat i)) 6 h) (i - 0).toNat g))), none, some (.int (zi i)), none] [] σ P) (fun i => (3 - i).toNat) ?_ 0 ⟨by omega, by omega⟩
  intro i hI ih
  obtain ⟨i1, i2⟩ := hI
  refine Y.iload_n dX4_digest_70 rfl ?_
  refine Y.iconst dX4_digest_71 ?_
  refine Y.icmp_ge 111 dX4_digest_72 (by decide) (by omega) (by omega) (fun h_72 => ?_) (fun h_72 => ?_)
  · rw [show i = 3 by omega, show ((3 : Int) - 0).toNat = 3 from rfl]
    exact hk
  · refine Y.iconst dX4_digest_75 ?_
    refine Y.istore dX4_digest_76 (by decide) rfl ?_
    refine zw1 (fun w => (0 ≤ w ∧ w ≤ 6)) (fun w => Y d μX4_digest 78 [some (.ref 0), some (.long (zl (dgf (fun w h => dg h (p w.toNat i)) (w - 0).toNat (dgf (fun i h => dgf (fun w h => dg h (p w.toNat i)) 6 h) (i - 0).toNat g)))), none, some (.int (zi i)), some (.int (zi w))] [] σ P) (fun w => (6 - w).toNat) ?_ 0 ⟨by omega, by omega⟩
    intro w hI ih2
    obtain ⟨w1, w2⟩ := hI
    refine Y.iload dX4_digest_78 rfl ?_
    refine Y.iconst dX4_digest_80 ?_
    refine Y.icmp_gt 105 dX4_digest_81 (by decide) (by omega) (by omega) (fun h_81 => ?_) (fun h_81 => ?_)
    · refine Y.iinc dX4_digest_105 rfl (by decide) rfl ?_
      refine Y.goto 70 dX4_digest_108 (by decide) ?_
      rw [show w = 6 by omega, show ((6 : Int) - 0).toNat = 6 from rfl, show dgf (fun w h => dg h (p w.toNat i)) 6 (dgf (fun i h => dgf (fun w h => dg h (p w.toNat i)) 6 h) (i - 0).toNat g) = dgf (fun i h => dgf (fun w h => dg h (p w.toNat i)) 6 h) (i + 1 - 0).toNat g from (dgf_s (F := fun i h => dgf (fun w h => dg h (p w.toNat i)) 6 h) i1).symm]
      exact Y.sub (zs_s (zs_s (zs_n (zs_s (zs_n zs_0))))) (ih _ ⟨by omega, by omega⟩ (by omega))
    · refine Y.ldc2 (31) dX4_digest_84 kX4_199 ?_
      refine Y.lload_n dX4_digest_87 rfl ?_
      refine Y.lmul dX4_digest_88 ?_
      refine Y.aload_n dX4_digest_89 rfl ?_
      refine Y.iload_n dX4_digest_90 rfl ?_
      refine Y.iload dX4_digest_91 rfl ?_
      obtain ⟨k, rfl⟩ : ∃ k : Nat, w = (k : Int) := ⟨w.toNat, by omega⟩
      refine Y.cVI dX4_digest_93 mkX4_traitOf csX4_108 ob0 ⟨_, rfl, rfl⟩ (c_X4_traitOf ec (by omega) (by omega) (by omega)) (by omega) rfl rfl (Nat.le_of_ble_eq_true rfl) ?_
      refine Y.i2lw dX4_digest_96 ?_
      refine Y.ladd dX4_digest_97 ?_
      refine Y.lstore_n dX4_digest_98 (by decide) rfl ?_
      refine Y.iinc dX4_digest_99 rfl (by decide) rfl ?_
      refine Y.goto 78 dX4_digest_102 (by decide) ?_
      rw [show 31 * (dgf (fun w h => dg h (p w.toNat i)) ((k : Int) - 0).toNat (dgf (fun i h => dgf (fun w h => dg h (p w.toNat i)) 6 h) (i - 0).toNat g)) + wi (p k i) = dgf (fun w h => dg h (p w.toNat i)) ((k : Int) + 1 - 0).toNat (dgf (fun i h => dgf (fun w h => dg h (p w.toNat i)) 6 h) (i - 0).toNat g) from (dgf_s (F := fun w h => dg h (p w.toNat i)) w1).symm]
      exact ih2 _ ⟨by omega, by omega⟩ (by omega)
set_option maxHeartbeats 2000000 in
theorem dgs_13 {p : zP} (ec : cP σ = p) (hp : WP p) (hS : SA 14 σ p) {d : Nat} {P : Option Value → zS → Prop} (hd : 8 ≤ d) {g : Int} (hk : Y d μX4_digest 38 [some (.ref 0), some (.long (zl (dgf (fun w h => dg h (cntA σ p w.toNat)) 8 g))), none, some (.int (zi 8)), none] [] σ P) : Y d μX4_digest 13 [some (.ref 0), some (.long (zl g)), none, some (.int (zi 0)), none] [] σ P := by
  refine zw1 (fun w => (0 ≤ w ∧ w ≤ 8)) (fun w => Y d μX4_digest 13 [some (.ref 0), some (.long (zl (dgf (fun w h => dg h (cntA σ p w.toNat)) (w - 0).toNat g))), none, some (.int (zi w)), none] [] σ P) (fun w => (8 - w).toNat) ?_ 0 ⟨by omega, by omega⟩
  intro w hI ih
  obtain ⟨w1, w2⟩ := hI
  refine Y.iload_n dX4_digest_13 rfl ?_
  refine Y.bipush dX4_digest_14 (by decide +kernel) ?_
  refine Y.icmp_gt 38 dX4_digest_16 (by decide) (by omega) (by omega) (fun h_16 => ?_) (fun h_16 => ?_)
  · rw [show w = 8 by omega, show ((8 : Int) - 0).toNat = 8 from rfl]
    exact hk
  · refine Y.ldc2 (31) dX4_digest_19 kX4_199 ?_
    refine Y.lload_n dX4_digest_22 rfl ?_
    refine Y.lmul dX4_digest_23 ?_
    refine Y.aload_n dX4_digest_24 rfl ?_
    refine Y.iload_n dX4_digest_25 rfl ?_
    obtain ⟨k, rfl⟩ : ∃ k : Nat, w = (k : Int) := ⟨w.toNat, by omega⟩
    refine Y.cVI dX4_digest_26 mkX4_countOf csX4_194 ob0 ⟨_, rfl, rfl⟩ (c_X4_countOf ec hp (by omega) (fun _ => hS)) (by omega) rfl rfl (Nat.le_of_ble_eq_true rfl) ?_
    refine Y.i2lw dX4_digest_29 ?_
    refine Y.ladd dX4_digest_30 ?_
    refine Y.lstore_n dX4_digest_31 (by decide) rfl ?_
    refine Y.iinc dX4_digest_32 rfl (by decide) rfl ?_
    refine Y.goto 13 dX4_digest_35 (by decide) ?_
    rw [show 31 * (dgf (fun w h => dg h (cntA σ p w.toNat)) ((k : Int) - 0).toNat g) + wi (cntA σ p k) = dgf (fun w h => dg h (cntA σ p w.toNat)) ((k : Int) + 1 - 0).toNat g from (dgf_s (F := fun w h => dg h (cntA σ p w.toNat)) w1).symm]
    exact ih _ ⟨by omega, by omega⟩ (by omega)
set_option maxHeartbeats 8000000 in
theorem c_X4_digest {p : zP} (ec : cP σ = p) (hp : WP p) (hs : σ.1 14 17 = 0 ∨ σ.1 14 17 = 1) (hst : σ.1 14 17 = 0 → SA 14 σ p) : YC 8 μX4_digest [.ref 0] σ (fun r s => r = some (.long (zl (dgA σ p))) ∧ EQ σ s ∧ STL s) := by
  refine YC.of2 (by decide) (Nat.le_of_ble_eq_true rfl) (fun d P hd hP => ?_)
  refine Y.aload_n dX4_digest_0 rfl ?_
  refine Y.getf dX4_digest_1 flX4_21 ob0 rfl ?_
  refine Y.callV dX4_digest_4 mkX0_settle csX4_111 (obA (Or.inl rfl)) ⟨_, rfl, rfl⟩ (c_X0_settle (Or.inl rfl) ec hp hs hst) (by omega) rfl rfl (Nat.le_of_ble_eq_true rfl) (fun r_4 s_4 p_4 => ?_)
  obtain ⟨rfl, f_4, g_4, a_4⟩ := p_4
  have ec2 := (f_4.cp (Or.inl rfl)).trans ec
  have hE := f_4.eq (Or.inl rfl)
  have hT : STL s_4 := STL.of ec2 g_4 a_4
  refine Y.ldc2 (17) dX4_digest_7 kX4_197 ?_
  refine Y.lstore_n dX4_digest_10 (by decide) rfl ?_
  refine Y.iconst dX4_digest_11 ?_
  refine Y.istore_n dX4_digest_12 (by decide) rfl ?_
  have ern : s_4.1 14 16 = rndA p := by
    rcases a_4 with ⟨h1, h2⟩ | ⟨r, l, h1, h2, _⟩
    · rw [rndA, sv_n h1]; exact h2
    · rw [rndA, sv_s h1]; exact h2
  refine dgs_13 ec2 hp a_4 hd ?_
  refine Y.ldc2 (31) dX4_digest_38 kX4_199 ?_
  refine Y.lload_n dX4_digest_41 rfl ?_
  refine Y.lmul dX4_digest_42 ?_
  refine Y.aload_n dX4_digest_43 rfl ?_
  refine Y.getf dX4_digest_44 flX4_21 ob0 rfl ?_
  refine Y.getf dX4_digest_47 flX4_129 (obA (Or.inl rfl)) rfl ?_
  rw [ern]
  refine Y.i2lw dX4_digest_50 ?_
  refine Y.ladd dX4_digest_51 ?_
  refine Y.lstore_n dX4_digest_52 (by decide) rfl ?_
  refine Y.ldc2 (31) dX4_digest_53 kX4_199 ?_
  refine Y.lload_n dX4_digest_56 rfl ?_
  refine Y.lmul dX4_digest_57 ?_
  refine Y.aload_n dX4_digest_58 rfl ?_
  refine Y.getf dX4_digest_59 flX4_21 ob0 rfl ?_
  refine Y.cVI dX4_digest_62 mkX0_meetingBits csX4_135 (obA (Or.inl rfl)) ⟨_, rfl, rfl⟩ (c_X0_meetingBits (Or.inl rfl) ec2 hp a_4) (by omega) rfl rfl (Nat.le_of_ble_eq_true rfl) ?_
  refine Y.i2lw dX4_digest_65 ?_
  refine Y.ladd dX4_digest_66 ?_
  refine Y.lstore_n dX4_digest_67 (by decide) rfl ?_
  refine Y.iconst dX4_digest_68 ?_
  refine Y.istore_n dX4_digest_69 (by decide) rfl ?_
  refine dgs_70 ec2 hd ?_
  refine Y.iconst dX4_digest_111 ?_
  refine Y.istore_n dX4_digest_112 (by decide) rfl ?_
  refine dgs_113 ec2 hp a_4 hd (fun u hQ => ?_)
  refine Y.iconst dX4_digest_143 ?_
  refine Y.istore_n dX4_digest_144 (by decide) rfl ?_
  refine dgs_145 hd (hP _ _ ⟨?_, hE.tr (hQ.eq (Or.inl rfl)), STL.of (((hQ.eq (Or.inl rfl)).cp).trans ec2) (by rw [hQ.2.2 17 (by omega)]; exact g_4) (a_4.fr (Or.inl rfl) hQ)⟩)
  have hE9 := hE.tr (hQ.eq (Or.inl rfl))
  unfold dgA
  rw [hE9.2.1 41 (by omega) (by omega) (by omega), hE9.2.1 42 (by omega) (by omega) (by omega)]
  have q1 : (fun (w h : Int) => dg h (cntA s_4 p w.toNat)) = fun w h => dg h (cntA σ p w.toNat) := by funext w h; rw [cntA_e hE]
  have q2 : (fun (x h : Int) => @ite _ (th p x) (Classical.propDecidable _) (stT s_4 p x h) h) = fun x h => @ite _ (th p x) (Classical.propDecidable _) (stT σ p x h) h := by
    funext x h
    have : stT s_4 p x h = stT σ p x h := by unfold stT; simp only [snA_e hE]
    rw [this]
  rw [q1, q2]
  rfl
end ZK4
