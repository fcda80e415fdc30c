section ZXP
variable {X : State → (Nat → Nat) → (Nat → Prop) → Prop} {mc ms d : Nat} {μ : zU} {pc : Nat} {L : List (Option Value)} {st : List Value} {h : zH} {kc ks : Nat} {Post : Option Value → zH → Prop} {idx : Nat}
theorem zfls {f : Nat → Int32} {v : Int32} (i k : Nat) (h : k = i + 1) : upd (zflf i v f) i v = zflf k v f := by
  subst h
  funext j
  show (if j = i then v else if j < i then v else f j) = if j < i + 1 then v else f j
  by_cases q : j = i
  · rw [if_pos q, if_pos (by omega)]
  · rw [if_neg q]
    by_cases q2 : j < i
    · rw [if_pos q2, if_pos (by omega)]
    · rw [if_neg q2, if_neg (by omega)]
theorem zfl0 {f : Nat → Int32} {v : Int32} : zflf 0 v f = f := rfl
theorem ZX.aald' (k : Nat) {a n t0 : Nat} {ty : FieldType} {q : List (Option Nat)} {i : Int32} {r : Nat} (hdg : decode μ.2.1 pc = .ok (.aaload, 1)) (ht : (t0 = 2 ∧ ty = .array .int) ∨ (t0 = 3 ∧ ty = .object "OffsetChains$Sheet")) (he : h[a]? = some (.inl (ty, n, .inr (.inr q)))) (hk : i.toNatClampNeg = k) (hin : vp_in i n) (hq : q[k]? = some (some r)) (k9 : ZX X mc ms d μ (pc + 1) L (.ref r :: st) h kc ks Post) : ZX X mc ms d μ pc L (.int i :: .ref a :: st) h kc ks Post :=
  ZX.aald hdg ht he hin (by rw [hk]; exact hq) k9
theorem ZX.iastf (k k' : Nat) {a n : Nat} {f : Nat → Int32} {i x : Int32} (hdg : decode μ.2.1 pc = .ok (.iastore, 1)) (he : h[a]? = some (.inl (.int, n, .inl (zflf k x f)))) (hk : i.toNatClampNeg = k) (hk' : k' = k + 1) (hin : vp_in i n) (k9 : ZX X mc ms d μ (pc + 1) L st (h.set a (.inl (.int, n, .inl (zflf k' x f)))) kc ks Post) : ZX X mc ms d μ pc L (.int x :: .int i :: .ref a :: st) h kc ks Post :=
  ZX.iast hdg he hin (by rw [hk, zfls k k' hk']; exact k9)
theorem Z.aald' (k : Nat) {a n t0 : Nat} {ty : FieldType} {q : List (Option Nat)} {i : Int32} {r : Nat} (hdg : decode μ.2.1 pc = .ok (.aaload, 1)) (ht : (t0 = 2 ∧ ty = .array .int) ∨ (t0 = 3 ∧ ty = .object "OffsetChains$Sheet")) (he : h[a]? = some (.inl (ty, n, .inr (.inr q)))) (hk : i.toNatClampNeg = k) (hin : vp_in i n) (hq : q[k]? = some (some r)) (k9 : Z mc ms d μ (pc + 1) L (.ref r :: st) h kc ks Post) : Z mc ms d μ pc L (.int i :: .ref a :: st) h kc ks Post :=
  Z.aald hdg ht he hin (by rw [hk]; exact hq) k9
theorem Z.iastf (k k' : Nat) {a n : Nat} {f : Nat → Int32} {i x : Int32} (hdg : decode μ.2.1 pc = .ok (.iastore, 1)) (he : h[a]? = some (.inl (.int, n, .inl (zflf k x f)))) (hk : i.toNatClampNeg = k) (hk' : k' = k + 1) (hin : vp_in i n) (k9 : Z mc ms d μ (pc + 1) L st (h.set a (.inl (.int, n, .inl (zflf k' x f)))) kc ks Post) : Z mc ms d μ pc L (.int x :: .int i :: .ref a :: st) h kc ks Post :=
  Z.iast hdg he hin (by rw [hk, zfls k k' hk']; exact k9)
theorem defX0 : ∀ j, j < 18 → defaultValue (tyX0 j) = vp_V [.null, .null, .null, .null, .null, .null, .null, .null, .null, .null, .null, .null, .int 0, .int 0, .int 0, .int 0, .int 0, .int 0] j := fun j hj => by
  have h := hj
  revert h
  revert j
  decide
theorem defX1 : ∀ j, j < 10 → defaultValue (tyX1 j) = vp_V [.int 0, .int 0, .null, .null, .null, .null, .null, .null, .null, .null] j := fun j hj => by
  have h := hj
  revert h
  revert j
  decide
theorem defX2 : ∀ j, j < 3 → defaultValue (tyX2 j) = vp_V [.null, .null, .null] j := fun j hj => by
  have h := hj
  revert h
  revert j
  decide
theorem defX3 : ∀ j, j < 4 → defaultValue (tyX3 j) = vp_V [.int 0, .int 0, .int 0, .null] j := fun j hj => by
  have h := hj
  revert h
  revert j
  decide
theorem defX4 : ∀ j, j < 6 → defaultValue (tyX4 j) = vp_V [.null, .null, .null, .null, .null, .int 0] j := fun j hj => by
  have h := hj
  revert h
  revert j
  decide
theorem defX5 : ∀ j, j < 36 → defaultValue (tyX5 j) = vp_V [.null, .null, .null, .null, .int 0, .null, .null, .null, .null, .null, .null, .null, .null, .null, .null, .long 0, .long 0, .null, .null, .int 0, .int 0, .int 0, .int 0, .null, .null, .null, .null, .int 0, .int 0, .null, .null, .null, .null, .null, .null, .int 0] j := fun j hj => by
  have h := hj
  revert h
  revert j
  decide
def wZ0 : zH := [
  .inr (4, [.null, .null, .null, .null, .null, .int 0])]
def wP0 : zH := [
  .inr (4, [.null, .null, .null, .null, .null, .int 0]),
  .inr (2, [.null, .null, .null])]
def wP1 : zH := [
  .inr (4, [.null, .null, .null, .null, .null, .int 0]),
  .inr (2, [.ref 2, .ref 8, .ref 13]),
  .inl (.array .int, 5, .inr (.inr [some 3, some 4, some 5, some 6, some 7])),
  .inl (.int, 3, .inl (zflf 3 20 (fun _ => 0))),
  .inl (.int, 3, .inl (fun _ => 0)),
  .inl (.int, 3, .inl (fun _ => 0)),
  .inl (.int, 3, .inl (fun _ => 0)),
  .inl (.int, 3, .inl (fun _ => 0)),
  .inl (.array .int, 4, .inr (.inr [some 9, some 10, some 11, some 12])),
  .inl (.int, 9, .inl (fun _ => 0)),
  .inl (.int, 9, .inl (fun _ => 0)),
  .inl (.int, 9, .inl (fun _ => 0)),
  .inl (.int, 9, .inl (fun _ => 0)),
  .inl (.int, 3, .inl (fun _ => 0))]
set_option maxHeartbeats 4000000 in
set_option maxRecDepth 20000 in
theorem c_Z_Plan : zCO XOO 12 63 1 μX2_init [.ref 1] wP0 (fun r h' => r = none ∧ h' = wP1) := by
  refine zCO.of (by decide +kernel) (Nat.le_of_ble_eq_true rfl) (fun d hd => ?_)
  refine ZX.aload_n dX2_init_0 rfl ?_
  refine ZX.objI dX2_init_1 ⟨zWd_in 95 (by decide +kernel) rfl, zWd_in 88 (by decide +kernel) rfl, zWd_in 89 (by decide +kernel) rfl⟩ (by omega) (Nat.le_of_ble_eq_true rfl) ?_
  refine ZX.aload_n dX2_init_4 rfl ?_
  refine ZX.iconst 5 dX2_init_5 rfl ?_
  refine ZX.iconst 3 dX2_init_6 rfl ?_
  refine ZX.multi' 2 5 3 dX2_init_7 (zWd_in 96 (by decide +kernel) rfl) (fun _ _ _ q => q) (by decide +kernel) (by decide +kernel) (by decide +kernel) (by decide +kernel) rfl (by decide) rfl rfl rfl ?_
  refine ZX.putF dX2_init_11 fpX2_11 rfl (o := 1) rfl (by decide) (fun _ => ⟨rfl, rfl⟩) ?_
  refine ZX.aload_n dX2_init_14 rfl ?_
  refine ZX.iconst 4 dX2_init_15 rfl ?_
  refine ZX.bipush 9 dX2_init_16 rfl ?_
  refine ZX.multi' 8 4 9 dX2_init_18 (zWd_in 96 (by decide +kernel) rfl) (fun _ _ _ q => q) (by decide +kernel) (by decide +kernel) (by decide +kernel) (by decide +kernel) rfl (by decide) rfl rfl rfl ?_
  refine ZX.putF dX2_init_22 fpX2_16 rfl (o := 1) rfl (by decide) (fun _ => ⟨rfl, rfl⟩) ?_
  refine ZX.aload_n dX2_init_25 rfl ?_
  refine ZX.iconst 3 dX2_init_26 rfl ?_
  refine ZX.newI' 13 3 dX2_init_27 (by decide +kernel) (by decide +kernel) rfl (by decide) rfl rfl rfl ?_
  refine ZX.putF dX2_init_29 fpX2_19 rfl (o := 1) rfl (by decide) (fun _ => ⟨rfl, rfl⟩) ?_
  refine ZX.aload_n dX2_init_32 rfl ?_
  refine ZX.getf dX2_init_33 flX2_11 (o := 1) rfl rfl ?_
  refine ZX.iconst 0 dX2_init_36 rfl ?_
  refine ZX.aald' 0 dX2_init_37 (t0 := 2) (Or.inl ⟨rfl, rfl⟩) (a := 2) rfl (by decide +kernel) (by unfold vp_in; decide +kernel) (r := 3) rfl ?_
  refine ZX.bipush 20 dX2_init_38 rfl ?_
  refine ZX.callS (Post' := fun r h' => r = none ∧ h' = _) dX2_init_40 mkJ7_fill_53178 csX2_23 (c_Z_fill (a := 3) (v := 20) (N := 3) (f := fun _ => 0) rfl (by decide)) (by omega) rfl rfl (Nat.le_of_ble_eq_true rfl) ⟨Or.inl rfl, by decide, by decide, fun r_ h_ p_ => ?_⟩
  obtain ⟨rfl, rfl⟩ := p_
  exact ZX.vret dX2_init_43 rfl ⟨by decide, by decide⟩ ⟨rfl, rfl⟩
def wA0 : zH := [
  .inr (4, [.ref 1, .null, .null, .null, .null, .int 0]),
  .inr (2, [.ref 2, .ref 8, .ref 13]),
  .inl (.array .int, 5, .inr (.inr [some 3, some 4, some 5, some 6, some 7])),
  .inl (.int, 3, .inl (zflf 3 20 (fun _ => 0))),
  .inl (.int, 3, .inl (fun _ => 0)),
  .inl (.int, 3, .inl (fun _ => 0)),
  .inl (.int, 3, .inl (fun _ => 0)),
  .inl (.int, 3, .inl (fun _ => 0)),
  .inl (.array .int, 4, .inr (.inr [some 9, some 10, some 11, some 12])),
  .inl (.int, 9, .inl (fun _ => 0)),
  .inl (.int, 9, .inl (fun _ => 0)),
  .inl (.int, 9, .inl (fun _ => 0)),
  .inl (.int, 9, .inl (fun _ => 0)),
  .inl (.int, 3, .inl (fun _ => 0)),
  .inr (0, [.null, .null, .null, .null, .null, .null, .null, .null, .null, .null, .null, .null, .int 0, .int 0, .int 0, .int 0, .int 0, .int 0])]
def wA1 : zH := [
  .inr (4, [.ref 1, .null, .null, .null, .null, .int 0]),
  .inr (2, [.ref 2, .ref 8, .ref 13]),
  .inl (.array .int, 5, .inr (.inr [some 3, some 4, some 5, some 6, some 7])),
  .inl (.int, 3, .inl (zflf 3 20 (fun _ => 0))),
  .inl (.int, 3, .inl (fun _ => 0)),
  .inl (.int, 3, .inl (fun _ => 0)),
  .inl (.int, 3, .inl (fun _ => 0)),
  .inl (.int, 3, .inl (fun _ => 0)),
  .inl (.array .int, 4, .inr (.inr [some 9, some 10, some 11, some 12])),
  .inl (.int, 9, .inl (fun _ => 0)),
  .inl (.int, 9, .inl (fun _ => 0)),
  .inl (.int, 9, .inl (fun _ => 0)),
  .inl (.int, 9, .inl (fun _ => 0)),
  .inl (.int, 3, .inl (fun _ => 0)),
  .inr (0, [.ref 1, .ref 15, .ref 16, .ref 17, .ref 18, .ref 19, .ref 20, .ref 21, .ref 22, .ref 23, .ref 24, .ref 25, .int 0, .int 0, .int 0, .int 0, .int (-1), .int 1]),
  .inl (.int, 3, .inl (fun _ => 0)),
  .inl (.int, 9, .inl (fun _ => 0)),
  .inl (.int, 9, .inl (fun _ => 0)),
  .inl (.int, 9, .inl (fun _ => 0)),
  .inl (.int, 9, .inl (fun _ => 0)),
  .inl (.int, 9, .inl (fun _ => 0)),
  .inl (.int, 27, .inl (fun _ => 0)),
  .inl (.int, 27, .inl (fun _ => 0)),
  .inl (.int, 9, .inl (fun _ => 0)),
  .inl (.int, 3, .inl (fun _ => 0)),
  .inl (.int, 3, .inl (fun _ => 0))]
set_option maxHeartbeats 4000000 in
set_option maxRecDepth 20000 in
theorem c_Z_Ans1 : zCO XOO 11 117 1 μX0_init [.ref 14, .ref 1] wA0 (fun r h' => r = none ∧ h' = wA1) := by
  refine zCO.of (by decide +kernel) (Nat.le_of_ble_eq_true rfl) (fun d hd => ?_)
  refine ZX.aload_n dX0_init_0 rfl ?_
  refine ZX.objI dX0_init_1 ⟨zWd_in 125 (by decide +kernel) rfl, zWd_in 88 (by decide +kernel) rfl, zWd_in 89 (by decide +kernel) rfl⟩ (by omega) (Nat.le_of_ble_eq_true rfl) ?_
  refine ZX.aload_n dX0_init_4 rfl ?_
  refine ZX.iconst 3 dX0_init_5 rfl ?_
  refine ZX.newI' 15 3 dX0_init_6 (by decide +kernel) (by decide +kernel) rfl (by decide) rfl rfl rfl ?_
  refine ZX.putF dX0_init_8 fpX0_9 rfl (o := 14) rfl (by decide) (fun _ => ⟨rfl, rfl⟩) ?_
  refine ZX.aload_n dX0_init_11 rfl ?_
  refine ZX.bipush 9 dX0_init_12 rfl ?_
  refine ZX.newI' 16 9 dX0_init_14 (by decide +kernel) (by decide +kernel) rfl (by decide) rfl rfl rfl ?_
  refine ZX.putF dX0_init_16 fpX0_15 rfl (o := 14) rfl (by decide) (fun _ => ⟨rfl, rfl⟩) ?_
  refine ZX.aload_n dX0_init_19 rfl ?_
  refine ZX.bipush 9 dX0_init_20 rfl ?_
  refine ZX.newI' 17 9 dX0_init_22 (by decide +kernel) (by decide +kernel) rfl (by decide) rfl rfl rfl ?_
  refine ZX.putF dX0_init_24 fpX0_18 rfl (o := 14) rfl (by decide) (fun _ => ⟨rfl, rfl⟩) ?_
  refine ZX.aload_n dX0_init_27 rfl ?_
  refine ZX.bipush 9 dX0_init_28 rfl ?_
  refine ZX.newI' 18 9 dX0_init_30 (by decide +kernel) (by decide +kernel) rfl (by decide) rfl rfl rfl ?_
  refine ZX.putF dX0_init_32 fpX0_21 rfl (o := 14) rfl (by decide) (fun _ => ⟨rfl, rfl⟩) ?_
  refine ZX.aload_n dX0_init_35 rfl ?_
  refine ZX.bipush 9 dX0_init_36 rfl ?_
  refine ZX.newI' 19 9 dX0_init_38 (by decide +kernel) (by decide +kernel) rfl (by decide) rfl rfl rfl ?_
  refine ZX.putF dX0_init_40 fpX0_24 rfl (o := 14) rfl (by decide) (fun _ => ⟨rfl, rfl⟩) ?_
  refine ZX.aload_n dX0_init_43 rfl ?_
  refine ZX.bipush 9 dX0_init_44 rfl ?_
  refine ZX.newI' 20 9 dX0_init_46 (by decide +kernel) (by decide +kernel) rfl (by decide) rfl rfl rfl ?_
  refine ZX.putF dX0_init_48 fpX0_27 rfl (o := 14) rfl (by decide) (fun _ => ⟨rfl, rfl⟩) ?_
  refine ZX.aload_n dX0_init_51 rfl ?_
  refine ZX.bipush 27 dX0_init_52 rfl ?_
  refine ZX.newI' 21 27 dX0_init_54 (by decide +kernel) (by decide +kernel) rfl (by decide) rfl rfl rfl ?_
  refine ZX.putF dX0_init_56 fpX0_30 rfl (o := 14) rfl (by decide) (fun _ => ⟨rfl, rfl⟩) ?_
  refine ZX.aload_n dX0_init_59 rfl ?_
  refine ZX.bipush 27 dX0_init_60 rfl ?_
  refine ZX.newI' 22 27 dX0_init_62 (by decide +kernel) (by decide +kernel) rfl (by decide) rfl rfl rfl ?_
  refine ZX.putF dX0_init_64 fpX0_33 rfl (o := 14) rfl (by decide) (fun _ => ⟨rfl, rfl⟩) ?_
  refine ZX.aload_n dX0_init_67 rfl ?_
  refine ZX.bipush 9 dX0_init_68 rfl ?_
  refine ZX.newI' 23 9 dX0_init_70 (by decide +kernel) (by decide +kernel) rfl (by decide) rfl rfl rfl ?_
  refine ZX.putF dX0_init_72 fpX0_36 rfl (o := 14) rfl (by decide) (fun _ => ⟨rfl, rfl⟩) ?_
  refine ZX.aload_n dX0_init_75 rfl ?_
  refine ZX.iconst 3 dX0_init_76 rfl ?_
  refine ZX.newI' 24 3 dX0_init_77 (by decide +kernel) (by decide +kernel) rfl (by decide) rfl rfl rfl ?_
  refine ZX.putF dX0_init_79 fpX0_39 rfl (o := 14) rfl (by decide) (fun _ => ⟨rfl, rfl⟩) ?_
  refine ZX.aload_n dX0_init_82 rfl ?_
  refine ZX.iconst 3 dX0_init_83 rfl ?_
  refine ZX.newI' 25 3 dX0_init_84 (by decide +kernel) (by decide +kernel) rfl (by decide) rfl rfl rfl ?_
  refine ZX.putF dX0_init_86 fpX0_42 rfl (o := 14) rfl (by decide) (fun _ => ⟨rfl, rfl⟩) ?_
  refine ZX.aload_n dX0_init_89 rfl ?_
  refine ZX.aload_n dX0_init_90 rfl ?_
  refine ZX.putF dX0_init_91 fpX0_45 rfl (o := 14) rfl (by decide) (fun _ => ⟨rfl, rfl⟩) ?_
  refine ZX.aload_n dX0_init_94 rfl ?_
  refine ZX.iconst (-1) dX0_init_95 rfl ?_
  refine ZX.putf dX0_init_96 fpX0_49 (o := 14) rfl (by decide) (fun _ => ⟨rfl, rfl⟩) ?_
  refine ZX.aload_n dX0_init_99 rfl ?_
  refine ZX.iconst 1 dX0_init_100 rfl ?_
  refine ZX.putf dX0_init_101 fpX0_53 (o := 14) rfl (by decide) (fun _ => ⟨rfl, rfl⟩) ?_
  exact ZX.vret dX0_init_104 rfl ⟨by decide, by decide⟩ ⟨rfl, rfl⟩
def wB0 : zH := [
  .inr (4, [.ref 1, .ref 14, .null, .null, .null, .int 0]),
  .inr (2, [.ref 2, .ref 8, .ref 13]),
  .inl (.array .int, 5, .inr (.inr [some 3, some 4, some 5, some 6, some 7])),
  .inl (.int, 3, .inl (zflf 3 20 (fun _ => 0))),
  .inl (.int, 3, .inl (fun _ => 0)),
  .inl (.int, 3, .inl (fun _ => 0)),
  .inl (.int, 3, .inl (fun _ => 0)),
  .inl (.int, 3, .inl (fun _ => 0)),
  .inl (.array .int, 4, .inr (.inr [some 9, some 10, some 11, some 12])),
  .inl (.int, 9, .inl (fun _ => 0)),
  .inl (.int, 9, .inl (fun _ => 0)),
  .inl (.int, 9, .inl (fun _ => 0)),
  .inl (.int, 9, .inl (fun _ => 0)),
  .inl (.int, 3, .inl (fun _ => 0)),
  .inr (0, [.ref 1, .ref 15, .ref 16, .ref 17, .ref 18, .ref 19, .ref 20, .ref 21, .ref 22, .ref 23, .ref 24, .ref 25, .int 0, .int 0, .int 0, .int 0, .int (-1), .int 1]),
  .inl (.int, 3, .inl (fun _ => 0)),
  .inl (.int, 9, .inl (fun _ => 0)),
  .inl (.int, 9, .inl (fun _ => 0)),
  .inl (.int, 9, .inl (fun _ => 0)),
  .inl (.int, 9, .inl (fun _ => 0)),
  .inl (.int, 9, .inl (fun _ => 0)),
  .inl (.int, 27, .inl (fun _ => 0)),
  .inl (.int, 27, .inl (fun _ => 0)),
  .inl (.int, 9, .inl (fun _ => 0)),
  .inl (.int, 3, .inl (fun _ => 0)),
  .inl (.int, 3, .inl (fun _ => 0)),
  .inr (0, [.null, .null, .null, .null, .null, .null, .null, .null, .null, .null, .null, .null, .int 0, .int 0, .int 0, .int 0, .int 0, .int 0])]
def wB1 : zH := [
  .inr (4, [.ref 1, .ref 14, .null, .null, .null, .int 0]),
  .inr (2, [.ref 2, .ref 8, .ref 13]),
  .inl (.array .int, 5, .inr (.inr [some 3, some 4, some 5, some 6, some 7])),
  .inl (.int, 3, .inl (zflf 3 20 (fun _ => 0))),
  .inl (.int, 3, .inl (fun _ => 0)),
  .inl (.int, 3, .inl (fun _ => 0)),
  .inl (.int, 3, .inl (fun _ => 0)),
  .inl (.int, 3, .inl (fun _ => 0)),
  .inl (.array .int, 4, .inr (.inr [some 9, some 10, some 11, some 12])),
  .inl (.int, 9, .inl (fun _ => 0)),
  .inl (.int, 9, .inl (fun _ => 0)),
  .inl (.int, 9, .inl (fun _ => 0)),
  .inl (.int, 9, .inl (fun _ => 0)),
  .inl (.int, 3, .inl (fun _ => 0)),
  .inr (0, [.ref 1, .ref 15, .ref 16, .ref 17, .ref 18, .ref 19, .ref 20, .ref 21, .ref 22, .ref 23, .ref 24, .ref 25, .int 0, .int 0, .int 0, .int 0, .int (-1), .int 1]),
  .inl (.int, 3, .inl (fun _ => 0)),
  .inl (.int, 9, .inl (fun _ => 0)),
  .inl (.int, 9, .inl (fun _ => 0)),
  .inl (.int, 9, .inl (fun _ => 0)),
  .inl (.int, 9, .inl (fun _ => 0)),
  .inl (.int, 9, .inl (fun _ => 0)),
  .inl (.int, 27, .inl (fun _ => 0)),
  .inl (.int, 27, .inl (fun _ => 0)),
  .inl (.int, 9, .inl (fun _ => 0)),
  .inl (.int, 3, .inl (fun _ => 0)),
  .inl (.int, 3, .inl (fun _ => 0)),
  .inr (0, [.ref 1, .ref 27, .ref 28, .ref 29, .ref 30, .ref 31, .ref 32, .ref 33, .ref 34, .ref 35, .ref 36, .ref 37, .int 0, .int 0, .int 0, .int 0, .int (-1), .int 1]),
  .inl (.int, 3, .inl (fun _ => 0)),
  .inl (.int, 9, .inl (fun _ => 0)),
  .inl (.int, 9, .inl (fun _ => 0)),
  .inl (.int, 9, .inl (fun _ => 0)),
  .inl (.int, 9, .inl (fun _ => 0)),
  .inl (.int, 9, .inl (fun _ => 0)),
  .inl (.int, 27, .inl (fun _ => 0)),
  .inl (.int, 27, .inl (fun _ => 0)),
  .inl (.int, 9, .inl (fun _ => 0)),
  .inl (.int, 3, .inl (fun _ => 0)),
  .inl (.int, 3, .inl (fun _ => 0))]
set_option maxHeartbeats 4000000 in
set_option maxRecDepth 20000 in
theorem c_Z_Ans2 : zCO XOO 11 117 1 μX0_init [.ref 26, .ref 1] wB0 (fun r h' => r = none ∧ h' = wB1) := by
  refine zCO.of (by decide +kernel) (Nat.le_of_ble_eq_true rfl) (fun d hd => ?_)
  refine ZX.aload_n dX0_init_0 rfl ?_
  refine ZX.objI dX0_init_1 ⟨zWd_in 125 (by decide +kernel) rfl, zWd_in 88 (by decide +kernel) rfl, zWd_in 89 (by decide +kernel) rfl⟩ (by omega) (Nat.le_of_ble_eq_true rfl) ?_
  refine ZX.aload_n dX0_init_4 rfl ?_
  refine ZX.iconst 3 dX0_init_5 rfl ?_
  refine ZX.newI' 27 3 dX0_init_6 (by decide +kernel) (by decide +kernel) rfl (by decide) rfl rfl rfl ?_
  refine ZX.putF dX0_init_8 fpX0_9 rfl (o := 26) rfl (by decide) (fun _ => ⟨rfl, rfl⟩) ?_
  refine ZX.aload_n dX0_init_11 rfl ?_
  refine ZX.bipush 9 dX0_init_12 rfl ?_
  refine ZX.newI' 28 9 dX0_init_14 (by decide +kernel) (by decide +kernel) rfl (by decide) rfl rfl rfl ?_
  refine ZX.putF dX0_init_16 fpX0_15 rfl (o := 26) rfl (by decide) (fun _ => ⟨rfl, rfl⟩) ?_
  refine ZX.aload_n dX0_init_19 rfl ?_
  refine ZX.bipush 9 dX0_init_20 rfl ?_
  refine ZX.newI' 29 9 dX0_init_22 (by decide +kernel) (by decide +kernel) rfl (by decide) rfl rfl rfl ?_
  refine ZX.putF dX0_init_24 fpX0_18 rfl (o := 26) rfl (by decide) (fun _ => ⟨rfl, rfl⟩) ?_
  refine ZX.aload_n dX0_init_27 rfl ?_
  refine ZX.bipush 9 dX0_init_28 rfl ?_
  refine ZX.newI' 30 9 dX0_init_30 (by decide +kernel) (by decide +kernel) rfl (by decide) rfl rfl rfl ?_
  refine ZX.putF dX0_init_32 fpX0_21 rfl (o := 26) rfl (by decide) (fun _ => ⟨rfl, rfl⟩) ?_
  refine ZX.aload_n dX0_init_35 rfl ?_
  refine ZX.bipush 9 dX0_init_36 rfl ?_
  refine ZX.newI' 31 9 dX0_init_38 (by decide +kernel) (by decide +kernel) rfl (by decide) rfl rfl rfl ?_
  refine ZX.putF dX0_init_40 fpX0_24 rfl (o := 26) rfl (by decide) (fun _ => ⟨rfl, rfl⟩) ?_
  refine ZX.aload_n dX0_init_43 rfl ?_
  refine ZX.bipush 9 dX0_init_44 rfl ?_
  refine ZX.newI' 32 9 dX0_init_46 (by decide +kernel) (by decide +kernel) rfl (by decide) rfl rfl rfl ?_
  refine ZX.putF dX0_init_48 fpX0_27 rfl (o := 26) rfl (by decide) (fun _ => ⟨rfl, rfl⟩) ?_
  refine ZX.aload_n dX0_init_51 rfl ?_
  refine ZX.bipush 27 dX0_init_52 rfl ?_
  refine ZX.newI' 33 27 dX0_init_54 (by decide +kernel) (by decide +kernel) rfl (by decide) rfl rfl rfl ?_
  refine ZX.putF dX0_init_56 fpX0_30 rfl (o := 26) rfl (by decide) (fun _ => ⟨rfl, rfl⟩) ?_
  refine ZX.aload_n dX0_init_59 rfl ?_
  refine ZX.bipush 27 dX0_init_60 rfl ?_
  refine ZX.newI' 34 27 dX0_init_62 (by decide +kernel) (by decide +kernel) rfl (by decide) rfl rfl rfl ?_
  refine ZX.putF dX0_init_64 fpX0_33 rfl (o := 26) rfl (by decide) (fun _ => ⟨rfl, rfl⟩) ?_
  refine ZX.aload_n dX0_init_67 rfl ?_
  refine ZX.bipush 9 dX0_init_68 rfl ?_
  refine ZX.newI' 35 9 dX0_init_70 (by decide +kernel) (by decide +kernel) rfl (by decide) rfl rfl rfl ?_
  refine ZX.putF dX0_init_72 fpX0_36 rfl (o := 26) rfl (by decide) (fun _ => ⟨rfl, rfl⟩) ?_
  refine ZX.aload_n dX0_init_75 rfl ?_
  refine ZX.iconst 3 dX0_init_76 rfl ?_
  refine ZX.newI' 36 3 dX0_init_77 (by decide +kernel) (by decide +kernel) rfl (by decide) rfl rfl rfl ?_
  refine ZX.putF dX0_init_79 fpX0_39 rfl (o := 26) rfl (by decide) (fun _ => ⟨rfl, rfl⟩) ?_
  refine ZX.aload_n dX0_init_82 rfl ?_
  refine ZX.iconst 3 dX0_init_83 rfl ?_
  refine ZX.newI' 37 3 dX0_init_84 (by decide +kernel) (by decide +kernel) rfl (by decide) rfl rfl rfl ?_
  refine ZX.putF dX0_init_86 fpX0_42 rfl (o := 26) rfl (by decide) (fun _ => ⟨rfl, rfl⟩) ?_
  refine ZX.aload_n dX0_init_89 rfl ?_
  refine ZX.aload_n dX0_init_90 rfl ?_
  refine ZX.putF dX0_init_91 fpX0_45 rfl (o := 26) rfl (by decide) (fun _ => ⟨rfl, rfl⟩) ?_
  refine ZX.aload_n dX0_init_94 rfl ?_
  refine ZX.iconst (-1) dX0_init_95 rfl ?_
  refine ZX.putf dX0_init_96 fpX0_49 (o := 26) rfl (by decide) (fun _ => ⟨rfl, rfl⟩) ?_
  refine ZX.aload_n dX0_init_99 rfl ?_
  refine ZX.iconst 1 dX0_init_100 rfl ?_
  refine ZX.putf dX0_init_101 fpX0_53 (o := 26) rfl (by decide) (fun _ => ⟨rfl, rfl⟩) ?_
  exact ZX.vret dX0_init_104 rfl ⟨by decide, by decide⟩ ⟨rfl, rfl⟩
def wC0 : zH := [
  .inr (4, [.ref 1, .ref 14, .ref 26, .null, .null, .int 0]),
  .inr (2, [.ref 2, .ref 8, .ref 13]),
  .inl (.array .int, 5, .inr (.inr [some 3, some 4, some 5, some 6, some 7])),
  .inl (.int, 3, .inl (zflf 3 20 (fun _ => 0))),
  .inl (.int, 3, .inl (fun _ => 0)),
  .inl (.int, 3, .inl (fun _ => 0)),
  .inl (.int, 3, .inl (fun _ => 0)),
  .inl (.int, 3, .inl (fun _ => 0)),
  .inl (.array .int, 4, .inr (.inr [some 9, some 10, some 11, some 12])),
  .inl (.int, 9, .inl (fun _ => 0)),
  .inl (.int, 9, .inl (fun _ => 0)),
  .inl (.int, 9, .inl (fun _ => 0)),
  .inl (.int, 9, .inl (fun _ => 0)),
  .inl (.int, 3, .inl (fun _ => 0)),
  .inr (0, [.ref 1, .ref 15, .ref 16, .ref 17, .ref 18, .ref 19, .ref 20, .ref 21, .ref 22, .ref 23, .ref 24, .ref 25, .int 0, .int 0, .int 0, .int 0, .int (-1), .int 1]),
  .inl (.int, 3, .inl (fun _ => 0)),
  .inl (.int, 9, .inl (fun _ => 0)),
  .inl (.int, 9, .inl (fun _ => 0)),
  .inl (.int, 9, .inl (fun _ => 0)),
  .inl (.int, 9, .inl (fun _ => 0)),
  .inl (.int, 9, .inl (fun _ => 0)),
  .inl (.int, 27, .inl (fun _ => 0)),
  .inl (.int, 27, .inl (fun _ => 0)),
  .inl (.int, 9, .inl (fun _ => 0)),
  .inl (.int, 3, .inl (fun _ => 0)),
  .inl (.int, 3, .inl (fun _ => 0)),
  .inr (0, [.ref 1, .ref 27, .ref 28, .ref 29, .ref 30, .ref 31, .ref 32, .ref 33, .ref 34, .ref 35, .ref 36, .ref 37, .int 0, .int 0, .int 0, .int 0, .int (-1), .int 1]),
  .inl (.int, 3, .inl (fun _ => 0)),
  .inl (.int, 9, .inl (fun _ => 0)),
  .inl (.int, 9, .inl (fun _ => 0)),
  .inl (.int, 9, .inl (fun _ => 0)),
  .inl (.int, 9, .inl (fun _ => 0)),
  .inl (.int, 9, .inl (fun _ => 0)),
  .inl (.int, 27, .inl (fun _ => 0)),
  .inl (.int, 27, .inl (fun _ => 0)),
  .inl (.int, 9, .inl (fun _ => 0)),
  .inl (.int, 3, .inl (fun _ => 0)),
  .inl (.int, 3, .inl (fun _ => 0)),
  .inr (1, [.int 0, .int 0, .null, .null, .null, .null, .null, .null, .null, .null])]
def wL0 : zH := [
  .inr (4, [.ref 1, .ref 14, .ref 26, .null, .null, .int 0]),
  .inr (2, [.ref 2, .ref 8, .ref 13]),
  .inl (.array .int, 5, .inr (.inr [some 3, some 4, some 5, some 6, some 7])),
  .inl (.int, 3, .inl (zflf 3 20 (fun _ => 0))),
  .inl (.int, 3, .inl (fun _ => 0)),
  .inl (.int, 3, .inl (fun _ => 0)),
  .inl (.int, 3, .inl (fun _ => 0)),
  .inl (.int, 3, .inl (fun _ => 0)),
  .inl (.array .int, 4, .inr (.inr [some 9, some 10, some 11, some 12])),
  .inl (.int, 9, .inl (fun _ => 0)),
  .inl (.int, 9, .inl (fun _ => 0)),
  .inl (.int, 9, .inl (fun _ => 0)),
  .inl (.int, 9, .inl (fun _ => 0)),
  .inl (.int, 3, .inl (fun _ => 0)),
  .inr (0, [.ref 1, .ref 15, .ref 16, .ref 17, .ref 18, .ref 19, .ref 20, .ref 21, .ref 22, .ref 23, .ref 24, .ref 25, .int 0, .int 0, .int 0, .int 0, .int (-1), .int 1]),
  .inl (.int, 3, .inl (fun _ => 0)),
  .inl (.int, 9, .inl (fun _ => 0)),
  .inl (.int, 9, .inl (fun _ => 0)),
  .inl (.int, 9, .inl (fun _ => 0)),
  .inl (.int, 9, .inl (fun _ => 0)),
  .inl (.int, 9, .inl (fun _ => 0)),
  .inl (.int, 27, .inl (fun _ => 0)),
  .inl (.int, 27, .inl (fun _ => 0)),
  .inl (.int, 9, .inl (fun _ => 0)),
  .inl (.int, 3, .inl (fun _ => 0)),
  .inl (.int, 3, .inl (fun _ => 0)),
  .inr (0, [.ref 1, .ref 27, .ref 28, .ref 29, .ref 30, .ref 31, .ref 32, .ref 33, .ref 34, .ref 35, .ref 36, .ref 37, .int 0, .int 0, .int 0, .int 0, .int (-1), .int 1]),
  .inl (.int, 3, .inl (fun _ => 0)),
  .inl (.int, 9, .inl (fun _ => 0)),
  .inl (.int, 9, .inl (fun _ => 0)),
  .inl (.int, 9, .inl (fun _ => 0)),
  .inl (.int, 9, .inl (fun _ => 0)),
  .inl (.int, 9, .inl (fun _ => 0)),
  .inl (.int, 27, .inl (fun _ => 0)),
  .inl (.int, 27, .inl (fun _ => 0)),
  .inl (.int, 9, .inl (fun _ => 0)),
  .inl (.int, 3, .inl (fun _ => 0)),
  .inl (.int, 3, .inl (fun _ => 0)),
  .inr (1, [.int 0, .int 0, .ref 39, .ref 40, .ref 43, .ref 44, .ref 45, .ref 46, .ref 47, .ref 57]),
  .inl (.int, 2, .inl (fun _ => 0)),
  .inl (.array .int, 2, .inr (.inr [some 41, some 42])),
  .inl (.int, 300, .inl (fun _ => 0)),
  .inl (.int, 300, .inl (fun _ => 0)),
  .inl (.int, 9, .inl (fun _ => 0)),
  .inl (.int, 9, .inl (fun _ => 0)),
  .inl (.int, 9, .inl (fun _ => 0)),
  .inl (.int, 9, .inl (fun _ => 0)),
  .inl (.array .int, 9, .inr (.inr [some 48, some 49, some 50, some 51, some 52, some 53, some 54, some 55, some 56])),
  .inl (.int, 60, .inl (fun _ => 0)),
  .inl (.int, 60, .inl (fun _ => 0)),
  .inl (.int, 60, .inl (fun _ => 0)),
  .inl (.int, 60, .inl (fun _ => 0)),
  .inl (.int, 60, .inl (fun _ => 0)),
  .inl (.int, 60, .inl (fun _ => 0)),
  .inl (.int, 60, .inl (fun _ => 0)),
  .inl (.int, 60, .inl (fun _ => 0)),
  .inl (.int, 60, .inl (fun _ => 0)),
  .inl (.int, 3, .inl (fun _ => 0))]
def wL1 : zH := [
  .inr (4, [.ref 1, .ref 14, .ref 26, .null, .null, .int 0]),
  .inr (2, [.ref 2, .ref 8, .ref 13]),
  .inl (.array .int, 5, .inr (.inr [some 3, some 4, some 5, some 6, some 7])),
  .inl (.int, 3, .inl (zflf 3 20 (fun _ => 0))),
  .inl (.int, 3, .inl (fun _ => 0)),
  .inl (.int, 3, .inl (fun _ => 0)),
  .inl (.int, 3, .inl (fun _ => 0)),
  .inl (.int, 3, .inl (fun _ => 0)),
  .inl (.array .int, 4, .inr (.inr [some 9, some 10, some 11, some 12])),
  .inl (.int, 9, .inl (fun _ => 0)),
  .inl (.int, 9, .inl (fun _ => 0)),
  .inl (.int, 9, .inl (fun _ => 0)),
  .inl (.int, 9, .inl (fun _ => 0)),
  .inl (.int, 3, .inl (fun _ => 0)),
  .inr (0, [.ref 1, .ref 15, .ref 16, .ref 17, .ref 18, .ref 19, .ref 20, .ref 21, .ref 22, .ref 23, .ref 24, .ref 25, .int 0, .int 0, .int 0, .int 0, .int (-1), .int 1]),
  .inl (.int, 3, .inl (fun _ => 0)),
  .inl (.int, 9, .inl (fun _ => 0)),
  .inl (.int, 9, .inl (fun _ => 0)),
  .inl (.int, 9, .inl (fun _ => 0)),
  .inl (.int, 9, .inl (fun _ => 0)),
  .inl (.int, 9, .inl (fun _ => 0)),
  .inl (.int, 27, .inl (fun _ => 0)),
  .inl (.int, 27, .inl (fun _ => 0)),
  .inl (.int, 9, .inl (fun _ => 0)),
  .inl (.int, 3, .inl (fun _ => 0)),
  .inl (.int, 3, .inl (fun _ => 0)),
  .inr (0, [.ref 1, .ref 27, .ref 28, .ref 29, .ref 30, .ref 31, .ref 32, .ref 33, .ref 34, .ref 35, .ref 36, .ref 37, .int 0, .int 0, .int 0, .int 0, .int (-1), .int 1]),
  .inl (.int, 3, .inl (fun _ => 0)),
  .inl (.int, 9, .inl (fun _ => 0)),
  .inl (.int, 9, .inl (fun _ => 0)),
  .inl (.int, 9, .inl (fun _ => 0)),
  .inl (.int, 9, .inl (fun _ => 0)),
  .inl (.int, 9, .inl (fun _ => 0)),
  .inl (.int, 27, .inl (fun _ => 0)),
  .inl (.int, 27, .inl (fun _ => 0)),
  .inl (.int, 9, .inl (fun _ => 0)),
  .inl (.int, 3, .inl (fun _ => 0)),
  .inl (.int, 3, .inl (fun _ => 0)),
  .inr (1, [.int 0, .int 0, .ref 39, .ref 40, .ref 43, .ref 44, .ref 45, .ref 46, .ref 47, .ref 57]),
  .inl (.int, 2, .inl (zflf 2 0 (fun _ => 0))),
  .inl (.array .int, 2, .inr (.inr [some 41, some 42])),
  .inl (.int, 300, .inl (zflf 300 (-1) (fun _ => 0))),
  .inl (.int, 300, .inl (zflf 300 (-1) (fun _ => 0))),
  .inl (.int, 9, .inl (zflf 9 (-1) (fun _ => 0))),
  .inl (.int, 9, .inl (zflf 9 (-1) (fun _ => 0))),
  .inl (.int, 9, .inl (zflf 9 0 (fun _ => 0))),
  .inl (.int, 9, .inl (zflf 9 0 (fun _ => 0))),
  .inl (.array .int, 9, .inr (.inr [some 48, some 49, some 50, some 51, some 52, some 53, some 54, some 55, some 56])),
  .inl (.int, 60, .inl (fun _ => 0)),
  .inl (.int, 60, .inl (fun _ => 0)),
  .inl (.int, 60, .inl (fun _ => 0)),
  .inl (.int, 60, .inl (fun _ => 0)),
  .inl (.int, 60, .inl (fun _ => 0)),
  .inl (.int, 60, .inl (fun _ => 0)),
  .inl (.int, 60, .inl (fun _ => 0)),
  .inl (.int, 60, .inl (fun _ => 0)),
  .inl (.int, 60, .inl (fun _ => 0)),
  .inl (.int, 3, .inl (fun _ => 0))]
set_option maxHeartbeats 4000000 in
set_option maxRecDepth 20000 in
theorem c_Z_clear : zC 0 0 1 μX1_clear [.ref 38] wL0 (fun r h' => r = none ∧ h' = wL1) := by
  refine zC.of (by decide +kernel) (Nat.le_of_ble_eq_true rfl) (fun d hd => ?_)
  refine Z.aload_n dX1_clear_0 rfl ?_
  refine Z.iconst 0 dX1_clear_1 rfl ?_
  refine Z.putf dX1_clear_2 fpX1_41 (o := 38) rfl (by decide) (fun _ => ⟨rfl, rfl⟩) ?_
  refine Z.aload_n dX1_clear_5 rfl ?_
  refine Z.iconst 0 dX1_clear_6 rfl ?_
  refine Z.putf dX1_clear_7 fpX1_45 (o := 38) rfl (by decide) (fun _ => ⟨rfl, rfl⟩) ?_
  refine Z.aload_n dX1_clear_10 rfl ?_
  refine Z.getf dX1_clear_11 flX1_9 (o := 38) rfl rfl ?_
  refine Z.iconst 0 dX1_clear_14 rfl ?_
  refine Z.callS (Post' := fun r h' => r = none ∧ h' = _) dX1_clear_15 mkJ7_fill_53178 csX1_48 (c_Z_fill (a := 39) (v := 0) (N := 2) (f := fun _ => 0) rfl (by decide)) (by omega) rfl rfl (Nat.le_of_ble_eq_true rfl) ⟨Or.inl rfl, by decide, by decide, fun r_ h_ p_ => ?_⟩
  obtain ⟨rfl, rfl⟩ := p_
  refine Z.iconst 0 dX1_clear_18 rfl ?_
  refine Z.istore_n dX1_clear_19 (by decide) rfl ?_
  refine Z.iload_n dX1_clear_20 rfl ?_
  refine Z.iconst 2 dX1_clear_21 rfl ?_
  refine Z.icmp_ge 41 dX1_clear_22 (by decide) (fun h_ => absurd h_ (by decide +kernel)) (fun _ => ?_)
  refine Z.aload_n dX1_clear_25 rfl ?_
  refine Z.getf dX1_clear_26 flX1_17 (o := 38) rfl rfl ?_
  refine Z.iload_n dX1_clear_29 rfl ?_
  refine Z.aald' 0 dX1_clear_30 (t0 := 2) (Or.inl ⟨rfl, rfl⟩) (a := 40) rfl (by decide +kernel) (by unfold vp_in; decide +kernel) (r := 41) rfl ?_
  refine Z.iconst (-1) dX1_clear_31 rfl ?_
  refine Z.callS (Post' := fun r h' => r = none ∧ h' = _) dX1_clear_32 mkJ7_fill_53178 csX1_48 (c_Z_fill (a := 41) (v := (-1)) (N := 300) (f := fun _ => 0) rfl (by decide)) (by omega) rfl rfl (Nat.le_of_ble_eq_true rfl) ⟨Or.inl rfl, by decide, by decide, fun r_ h_ p_ => ?_⟩
  obtain ⟨rfl, rfl⟩ := p_
  refine Z.iinc dX1_clear_35 rfl (by decide) rfl ?_
  refine Z.goto 20 dX1_clear_38 (by decide) ?_
  refine Z.iload_n dX1_clear_20 rfl ?_
  refine Z.iconst 2 dX1_clear_21 rfl ?_
  refine Z.icmp_ge 41 dX1_clear_22 (by decide) (fun h_ => absurd h_ (by decide +kernel)) (fun _ => ?_)
  refine Z.aload_n dX1_clear_25 rfl ?_
  refine Z.getf dX1_clear_26 flX1_17 (o := 38) rfl rfl ?_
  refine Z.iload_n dX1_clear_29 rfl ?_
  refine Z.aald' 1 dX1_clear_30 (t0 := 2) (Or.inl ⟨rfl, rfl⟩) (a := 40) rfl (by decide +kernel) (by unfold vp_in; decide +kernel) (r := 42) rfl ?_
  refine Z.iconst (-1) dX1_clear_31 rfl ?_
  refine Z.callS (Post' := fun r h' => r = none ∧ h' = _) dX1_clear_32 mkJ7_fill_53178 csX1_48 (c_Z_fill (a := 42) (v := (-1)) (N := 300) (f := fun _ => 0) rfl (by decide)) (by omega) rfl rfl (Nat.le_of_ble_eq_true rfl) ⟨Or.inl rfl, by decide, by decide, fun r_ h_ p_ => ?_⟩
  obtain ⟨rfl, rfl⟩ := p_
  refine Z.iinc dX1_clear_35 rfl (by decide) rfl ?_
  refine Z.goto 20 dX1_clear_38 (by decide) ?_
  refine Z.iload_n dX1_clear_20 rfl ?_
  refine Z.iconst 2 dX1_clear_21 rfl ?_
  refine Z.icmp_ge 41 dX1_clear_22 (by decide) (fun _ => ?_) (fun h_ => absurd (by decide +kernel) h_)
  refine Z.aload_n dX1_clear_41 rfl ?_
  refine Z.getf dX1_clear_42 flX1_20 (o := 38) rfl rfl ?_
  refine Z.iconst (-1) dX1_clear_45 rfl ?_
  refine Z.callS (Post' := fun r h' => r = none ∧ h' = _) dX1_clear_46 mkJ7_fill_53178 csX1_48 (c_Z_fill (a := 43) (v := (-1)) (N := 9) (f := fun _ => 0) rfl (by decide)) (by omega) rfl rfl (Nat.le_of_ble_eq_true rfl) ⟨Or.inl rfl, by decide, by decide, fun r_ h_ p_ => ?_⟩
  obtain ⟨rfl, rfl⟩ := p_
  refine Z.aload_n dX1_clear_49 rfl ?_
  refine Z.getf dX1_clear_50 flX1_23 (o := 38) rfl rfl ?_
  refine Z.iconst (-1) dX1_clear_53 rfl ?_
  refine Z.callS (Post' := fun r h' => r = none ∧ h' = _) dX1_clear_54 mkJ7_fill_53178 csX1_48 (c_Z_fill (a := 44) (v := (-1)) (N := 9) (f := fun _ => 0) rfl (by decide)) (by omega) rfl rfl (Nat.le_of_ble_eq_true rfl) ⟨Or.inl rfl, by decide, by decide, fun r_ h_ p_ => ?_⟩
  obtain ⟨rfl, rfl⟩ := p_
  refine Z.aload_n dX1_clear_57 rfl ?_
  refine Z.getf dX1_clear_58 flX1_26 (o := 38) rfl rfl ?_
  refine Z.iconst 0 dX1_clear_61 rfl ?_
  refine Z.callS (Post' := fun r h' => r = none ∧ h' = _) dX1_clear_62 mkJ7_fill_53178 csX1_48 (c_Z_fill (a := 45) (v := 0) (N := 9) (f := fun _ => 0) rfl (by decide)) (by omega) rfl rfl (Nat.le_of_ble_eq_true rfl) ⟨Or.inl rfl, by decide, by decide, fun r_ h_ p_ => ?_⟩
  obtain ⟨rfl, rfl⟩ := p_
  refine Z.aload_n dX1_clear_65 rfl ?_
  refine Z.getf dX1_clear_66 flX1_29 (o := 38) rfl rfl ?_
  refine Z.iconst 0 dX1_clear_69 rfl ?_
  refine Z.callS (Post' := fun r h' => r = none ∧ h' = _) dX1_clear_70 mkJ7_fill_53178 csX1_48 (c_Z_fill (a := 46) (v := 0) (N := 9) (f := fun _ => 0) rfl (by decide)) (by omega) rfl rfl (Nat.le_of_ble_eq_true rfl) ⟨Or.inl rfl, by decide, by decide, fun r_ h_ p_ => ?_⟩
  obtain ⟨rfl, rfl⟩ := p_
  exact Z.vret dX1_clear_73 rfl ⟨by decide, by decide⟩ ⟨rfl, rfl⟩
def wC1 : zH := [
  .inr (4, [.ref 1, .ref 14, .ref 26, .null, .null, .int 0]),
  .inr (2, [.ref 2, .ref 8, .ref 13]),
  .inl (.array .int, 5, .inr (.inr [some 3, some 4, some 5, some 6, some 7])),
  .inl (.int, 3, .inl (zflf 3 20 (fun _ => 0))),
  .inl (.int, 3, .inl (fun _ => 0)),
  .inl (.int, 3, .inl (fun _ => 0)),
  .inl (.int, 3, .inl (fun _ => 0)),
  .inl (.int, 3, .inl (fun _ => 0)),
  .inl (.array .int, 4, .inr (.inr [some 9, some 10, some 11, some 12])),
  .inl (.int, 9, .inl (fun _ => 0)),
  .inl (.int, 9, .inl (fun _ => 0)),
  .inl (.int, 9, .inl (fun _ => 0)),
  .inl (.int, 9, .inl (fun _ => 0)),
  .inl (.int, 3, .inl (fun _ => 0)),
  .inr (0, [.ref 1, .ref 15, .ref 16, .ref 17, .ref 18, .ref 19, .ref 20, .ref 21, .ref 22, .ref 23, .ref 24, .ref 25, .int 0, .int 0, .int 0, .int 0, .int (-1), .int 1]),
  .inl (.int, 3, .inl (fun _ => 0)),
  .inl (.int, 9, .inl (fun _ => 0)),
  .inl (.int, 9, .inl (fun _ => 0)),
  .inl (.int, 9, .inl (fun _ => 0)),
  .inl (.int, 9, .inl (fun _ => 0)),
  .inl (.int, 9, .inl (fun _ => 0)),
  .inl (.int, 27, .inl (fun _ => 0)),
  .inl (.int, 27, .inl (fun _ => 0)),
  .inl (.int, 9, .inl (fun _ => 0)),
  .inl (.int, 3, .inl (fun _ => 0)),
  .inl (.int, 3, .inl (fun _ => 0)),
  .inr (0, [.ref 1, .ref 27, .ref 28, .ref 29, .ref 30, .ref 31, .ref 32, .ref 33, .ref 34, .ref 35, .ref 36, .ref 37, .int 0, .int 0, .int 0, .int 0, .int (-1), .int 1]),
  .inl (.int, 3, .inl (fun _ => 0)),
  .inl (.int, 9, .inl (fun _ => 0)),
  .inl (.int, 9, .inl (fun _ => 0)),
  .inl (.int, 9, .inl (fun _ => 0)),
  .inl (.int, 9, .inl (fun _ => 0)),
  .inl (.int, 9, .inl (fun _ => 0)),
  .inl (.int, 27, .inl (fun _ => 0)),
  .inl (.int, 27, .inl (fun _ => 0)),
  .inl (.int, 9, .inl (fun _ => 0)),
  .inl (.int, 3, .inl (fun _ => 0)),
  .inl (.int, 3, .inl (fun _ => 0)),
  .inr (1, [.int 0, .int 0, .ref 39, .ref 40, .ref 43, .ref 44, .ref 45, .ref 46, .ref 47, .ref 57]),
  .inl (.int, 2, .inl (zflf 2 0 (fun _ => 0))),
  .inl (.array .int, 2, .inr (.inr [some 41, some 42])),
  .inl (.int, 300, .inl (zflf 300 (-1) (fun _ => 0))),
  .inl (.int, 300, .inl (zflf 300 (-1) (fun _ => 0))),
  .inl (.int, 9, .inl (zflf 9 (-1) (fun _ => 0))),
  .inl (.int, 9, .inl (zflf 9 (-1) (fun _ => 0))),
  .inl (.int, 9, .inl (zflf 9 0 (fun _ => 0))),
  .inl (.int, 9, .inl (zflf 9 0 (fun _ => 0))),
  .inl (.array .int, 9, .inr (.inr [some 48, some 49, some 50, some 51, some 52, some 53, some 54, some 55, some 56])),
  .inl (.int, 60, .inl (fun _ => 0)),
  .inl (.int, 60, .inl (fun _ => 0)),
  .inl (.int, 60, .inl (fun _ => 0)),
  .inl (.int, 60, .inl (fun _ => 0)),
  .inl (.int, 60, .inl (fun _ => 0)),
  .inl (.int, 60, .inl (fun _ => 0)),
  .inl (.int, 60, .inl (fun _ => 0)),
  .inl (.int, 60, .inl (fun _ => 0)),
  .inl (.int, 60, .inl (fun _ => 0)),
  .inl (.int, 3, .inl (fun _ => 0))]
set_option maxHeartbeats 4000000 in
set_option maxRecDepth 20000 in
theorem c_Z_Course : zCO XOO 19 1192 2 μX1_init [.ref 38] wC0 (fun r h' => r = none ∧ h' = wC1) := by
  refine zCO.of (by decide +kernel) (Nat.le_of_ble_eq_true rfl) (fun d hd => ?_)
  refine ZX.aload_n dX1_init_0 rfl ?_
  refine ZX.objI dX1_init_1 ⟨zWd_in 188 (by decide +kernel) rfl, zWd_in 88 (by decide +kernel) rfl, zWd_in 89 (by decide +kernel) rfl⟩ (by omega) (Nat.le_of_ble_eq_true rfl) ?_
  refine ZX.aload_n dX1_init_4 rfl ?_
  refine ZX.iconst 2 dX1_init_5 rfl ?_
  refine ZX.newI' 39 2 dX1_init_6 (by decide +kernel) (by decide +kernel) rfl (by decide) rfl rfl rfl ?_
  refine ZX.putF dX1_init_8 fpX1_9 rfl (o := 38) rfl (by decide) (fun _ => ⟨rfl, rfl⟩) ?_
  refine ZX.aload_n dX1_init_11 rfl ?_
  refine ZX.iconst 2 dX1_init_12 rfl ?_
  refine ZX.sipush 300 dX1_init_13 rfl ?_
  refine ZX.multi' 40 2 300 dX1_init_16 (zWd_in 189 (by decide +kernel) rfl) (fun _ _ _ q => q) (by decide +kernel) (by decide +kernel) (by decide +kernel) (by decide +kernel) rfl (by decide) rfl rfl rfl ?_
  refine ZX.putF dX1_init_20 fpX1_17 rfl (o := 38) rfl (by decide) (fun _ => ⟨rfl, rfl⟩) ?_
  refine ZX.aload_n dX1_init_23 rfl ?_
  refine ZX.bipush 9 dX1_init_24 rfl ?_
  refine ZX.newI' 43 9 dX1_init_26 (by decide +kernel) (by decide +kernel) rfl (by decide) rfl rfl rfl ?_
  refine ZX.putF dX1_init_28 fpX1_20 rfl (o := 38) rfl (by decide) (fun _ => ⟨rfl, rfl⟩) ?_
  refine ZX.aload_n dX1_init_31 rfl ?_
  refine ZX.bipush 9 dX1_init_32 rfl ?_
  refine ZX.newI' 44 9 dX1_init_34 (by decide +kernel) (by decide +kernel) rfl (by decide) rfl rfl rfl ?_
  refine ZX.putF dX1_init_36 fpX1_23 rfl (o := 38) rfl (by decide) (fun _ => ⟨rfl, rfl⟩) ?_
  refine ZX.aload_n dX1_init_39 rfl ?_
  refine ZX.bipush 9 dX1_init_40 rfl ?_
  refine ZX.newI' 45 9 dX1_init_42 (by decide +kernel) (by decide +kernel) rfl (by decide) rfl rfl rfl ?_
  refine ZX.putF dX1_init_44 fpX1_26 rfl (o := 38) rfl (by decide) (fun _ => ⟨rfl, rfl⟩) ?_
  refine ZX.aload_n dX1_init_47 rfl ?_
  refine ZX.bipush 9 dX1_init_48 rfl ?_
  refine ZX.newI' 46 9 dX1_init_50 (by decide +kernel) (by decide +kernel) rfl (by decide) rfl rfl rfl ?_
  refine ZX.putF dX1_init_52 fpX1_29 rfl (o := 38) rfl (by decide) (fun _ => ⟨rfl, rfl⟩) ?_
  refine ZX.aload_n dX1_init_55 rfl ?_
  refine ZX.bipush 9 dX1_init_56 rfl ?_
  refine ZX.bipush 60 dX1_init_58 rfl ?_
  refine ZX.multi' 47 9 60 dX1_init_60 (zWd_in 189 (by decide +kernel) rfl) (fun _ _ _ q => q) (by decide +kernel) (by decide +kernel) (by decide +kernel) (by decide +kernel) rfl (by decide) rfl rfl rfl ?_
  refine ZX.putF dX1_init_64 fpX1_32 rfl (o := 38) rfl (by decide) (fun _ => ⟨rfl, rfl⟩) ?_
  refine ZX.aload_n dX1_init_67 rfl ?_
  refine ZX.iconst 3 dX1_init_68 rfl ?_
  refine ZX.newI' 57 3 dX1_init_69 (by decide +kernel) (by decide +kernel) rfl (by decide) rfl rfl rfl ?_
  refine ZX.putF dX1_init_71 fpX1_35 rfl (o := 38) rfl (by decide) (fun _ => ⟨rfl, rfl⟩) ?_
  refine ZX.aload_n dX1_init_74 rfl ?_
  refine ZX.w (h' := wL0) rfl ?_
  refine ZX.callV (b := 38) (As := []) dX1_init_75 mkX1_clear csX1_38 c_Z_clear (by omega) (he := rfl) (hci := ⟨_, rfl, rfl⟩) rfl rfl (Nat.le_of_ble_eq_true rfl) ⟨Or.inl rfl, by decide, by decide, fun r_ h_ p_ => ?_⟩
  obtain ⟨rfl, rfl⟩ := p_
  exact ZX.vret dX1_init_78 rfl ⟨by decide, by decide⟩ ⟨rfl, rfl⟩
def wS00 : zH := [
  .inr (4, [.ref 1, .ref 14, .ref 26, .ref 38, .ref 58, .int 0]),
  .inr (2, [.ref 2, .ref 8, .ref 13]),
  .inl (.array .int, 5, .inr (.inr [some 3, some 4, some 5, some 6, some 7])),
  .inl (.int, 3, .inl (zflf 3 20 (fun _ => 0))),
  .inl (.int, 3, .inl (fun _ => 0)),
  .inl (.int, 3, .inl (fun _ => 0)),
  .inl (.int, 3, .inl (fun _ => 0)),
  .inl (.int, 3, .inl (fun _ => 0)),
  .inl (.array .int, 4, .inr (.inr [some 9, some 10, some 11, some 12])),
  .inl (.int, 9, .inl (fun _ => 0)),
  .inl (.int, 9, .inl (fun _ => 0)),
  .inl (.int, 9, .inl (fun _ => 0)),
  .inl (.int, 9, .inl (fun _ => 0)),
  .inl (.int, 3, .inl (fun _ => 0)),
  .inr (0, [.ref 1, .ref 15, .ref 16, .ref 17, .ref 18, .ref 19, .ref 20, .ref 21, .ref 22, .ref 23, .ref 24, .ref 25, .int 0, .int 0, .int 0, .int 0, .int (-1), .int 1]),
  .inl (.int, 3, .inl (fun _ => 0)),
  .inl (.int, 9, .inl (fun _ => 0)),
  .inl (.int, 9, .inl (fun _ => 0)),
  .inl (.int, 9, .inl (fun _ => 0)),
  .inl (.int, 9, .inl (fun _ => 0)),
  .inl (.int, 9, .inl (fun _ => 0)),
  .inl (.int, 27, .inl (fun _ => 0)),
  .inl (.int, 27, .inl (fun _ => 0)),
  .inl (.int, 9, .inl (fun _ => 0)),
  .inl (.int, 3, .inl (fun _ => 0)),
  .inl (.int, 3, .inl (fun _ => 0)),
  .inr (0, [.ref 1, .ref 27, .ref 28, .ref 29, .ref 30, .ref 31, .ref 32, .ref 33, .ref 34, .ref 35, .ref 36, .ref 37, .int 0, .int 0, .int 0, .int 0, .int (-1), .int 1]),
  .inl (.int, 3, .inl (fun _ => 0)),
  .inl (.int, 9, .inl (fun _ => 0)),
  .inl (.int, 9, .inl (fun _ => 0)),
  .inl (.int, 9, .inl (fun _ => 0)),
  .inl (.int, 9, .inl (fun _ => 0)),
  .inl (.int, 9, .inl (fun _ => 0)),
  .inl (.int, 27, .inl (fun _ => 0)),
  .inl (.int, 27, .inl (fun _ => 0)),
  .inl (.int, 9, .inl (fun _ => 0)),
  .inl (.int, 3, .inl (fun _ => 0)),
  .inl (.int, 3, .inl (fun _ => 0)),
  .inr (1, [.int 0, .int 0, .ref 39, .ref 40, .ref 43, .ref 44, .ref 45, .ref 46, .ref 47, .ref 57]),
  .inl (.int, 2, .inl (zflf 2 0 (fun _ => 0))),
  .inl (.array .int, 2, .inr (.inr [some 41, some 42])),
  .inl (.int, 300, .inl (zflf 300 (-1) (fun _ => 0))),
  .inl (.int, 300, .inl (zflf 300 (-1) (fun _ => 0))),
  .inl (.int, 9, .inl (zflf 9 (-1) (fun _ => 0))),
  .inl (.int, 9, .inl (zflf 9 (-1) (fun _ => 0))),
  .inl (.int, 9, .inl (zflf 9 0 (fun _ => 0))),
  .inl (.int, 9, .inl (zflf 9 0 (fun _ => 0))),
  .inl (.array .int, 9, .inr (.inr [some 48, some 49, some 50, some 51, some 52, some 53, some 54, some 55, some 56])),
  .inl (.int, 60, .inl (fun _ => 0)),
  .inl (.int, 60, .inl (fun _ => 0)),
  .inl (.int, 60, .inl (fun _ => 0)),
  .inl (.int, 60, .inl (fun _ => 0)),
  .inl (.int, 60, .inl (fun _ => 0)),
  .inl (.int, 60, .inl (fun _ => 0)),
  .inl (.int, 60, .inl (fun _ => 0)),
  .inl (.int, 60, .inl (fun _ => 0)),
  .inl (.int, 60, .inl (fun _ => 0)),
  .inl (.int, 3, .inl (fun _ => 0)),
  .inl (.object "OffsetChains$Sheet", 4, .inr (.inr [none, none, none, none])),
  .inr (3, [.int 0, .int 0, .int 0, .null])]
def wS01 : zH := [
  .inr (4, [.ref 1, .ref 14, .ref 26, .ref 38, .ref 58, .int 0]),
  .inr (2, [.ref 2, .ref 8, .ref 13]),
  .inl (.array .int, 5, .inr (.inr [some 3, some 4, some 5, some 6, some 7])),
  .inl (.int, 3, .inl (zflf 3 20 (fun _ => 0))),
  .inl (.int, 3, .inl (fun _ => 0)),
  .inl (.int, 3, .inl (fun _ => 0)),
  .inl (.int, 3, .inl (fun _ => 0)),
  .inl (.int, 3, .inl (fun _ => 0)),
  .inl (.array .int, 4, .inr (.inr [some 9, some 10, some 11, some 12])),
  .inl (.int, 9, .inl (fun _ => 0)),
  .inl (.int, 9, .inl (fun _ => 0)),
  .inl (.int, 9, .inl (fun _ => 0)),
  .inl (.int, 9, .inl (fun _ => 0)),
  .inl (.int, 3, .inl (fun _ => 0)),
  .inr (0, [.ref 1, .ref 15, .ref 16, .ref 17, .ref 18, .ref 19, .ref 20, .ref 21, .ref 22, .ref 23, .ref 24, .ref 25, .int 0, .int 0, .int 0, .int 0, .int (-1), .int 1]),
  .inl (.int, 3, .inl (fun _ => 0)),
  .inl (.int, 9, .inl (fun _ => 0)),
  .inl (.int, 9, .inl (fun _ => 0)),
  .inl (.int, 9, .inl (fun _ => 0)),
  .inl (.int, 9, .inl (fun _ => 0)),
  .inl (.int, 9, .inl (fun _ => 0)),
  .inl (.int, 27, .inl (fun _ => 0)),
  .inl (.int, 27, .inl (fun _ => 0)),
  .inl (.int, 9, .inl (fun _ => 0)),
  .inl (.int, 3, .inl (fun _ => 0)),
  .inl (.int, 3, .inl (fun _ => 0)),
  .inr (0, [.ref 1, .ref 27, .ref 28, .ref 29, .ref 30, .ref 31, .ref 32, .ref 33, .ref 34, .ref 35, .ref 36, .ref 37, .int 0, .int 0, .int 0, .int 0, .int (-1), .int 1]),
  .inl (.int, 3, .inl (fun _ => 0)),
  .inl (.int, 9, .inl (fun _ => 0)),
  .inl (.int, 9, .inl (fun _ => 0)),
  .inl (.int, 9, .inl (fun _ => 0)),
  .inl (.int, 9, .inl (fun _ => 0)),
  .inl (.int, 9, .inl (fun _ => 0)),
  .inl (.int, 27, .inl (fun _ => 0)),
  .inl (.int, 27, .inl (fun _ => 0)),
  .inl (.int, 9, .inl (fun _ => 0)),
  .inl (.int, 3, .inl (fun _ => 0)),
  .inl (.int, 3, .inl (fun _ => 0)),
  .inr (1, [.int 0, .int 0, .ref 39, .ref 40, .ref 43, .ref 44, .ref 45, .ref 46, .ref 47, .ref 57]),
  .inl (.int, 2, .inl (zflf 2 0 (fun _ => 0))),
  .inl (.array .int, 2, .inr (.inr [some 41, some 42])),
  .inl (.int, 300, .inl (zflf 300 (-1) (fun _ => 0))),
  .inl (.int, 300, .inl (zflf 300 (-1) (fun _ => 0))),
  .inl (.int, 9, .inl (zflf 9 (-1) (fun _ => 0))),
  .inl (.int, 9, .inl (zflf 9 (-1) (fun _ => 0))),
  .inl (.int, 9, .inl (zflf 9 0 (fun _ => 0))),
  .inl (.int, 9, .inl (zflf 9 0 (fun _ => 0))),
  .inl (.array .int, 9, .inr (.inr [some 48, some 49, some 50, some 51, some 52, some 53, some 54, some 55, some 56])),
  .inl (.int, 60, .inl (fun _ => 0)),
  .inl (.int, 60, .inl (fun _ => 0)),
  .inl (.int, 60, .inl (fun _ => 0)),
  .inl (.int, 60, .inl (fun _ => 0)),
  .inl (.int, 60, .inl (fun _ => 0)),
  .inl (.int, 60, .inl (fun _ => 0)),
  .inl (.int, 60, .inl (fun _ => 0)),
  .inl (.int, 60, .inl (fun _ => 0)),
  .inl (.int, 60, .inl (fun _ => 0)),
  .inl (.int, 3, .inl (fun _ => 0)),
  .inl (.object "OffsetChains$Sheet", 4, .inr (.inr [none, none, none, none])),
  .inr (3, [.int 1, .int 0, .int 0, .ref 60]),
  .inl (.long, 60, .inr (.inl (fun _ => 0)))]
set_option maxHeartbeats 4000000 in
set_option maxRecDepth 20000 in
theorem c_Z_Sheet0 : zCO XOO 1 60 1 μX3_init [.ref 59] wS00 (fun r h' => r = none ∧ h' = wS01) := by
  refine zCO.of (by decide +kernel) (Nat.le_of_ble_eq_true rfl) (fun d hd => ?_)
  refine ZX.aload_n dX3_init_0 rfl ?_
  refine ZX.objI dX3_init_1 ⟨zWd_in 236 (by decide +kernel) rfl, zWd_in 88 (by decide +kernel) rfl, zWd_in 89 (by decide +kernel) rfl⟩ (by omega) (Nat.le_of_ble_eq_true rfl) ?_
  refine ZX.aload_n dX3_init_4 rfl ?_
  refine ZX.iconst 1 dX3_init_5 rfl ?_
  refine ZX.putf dX3_init_6 fpX3_9 (o := 59) rfl (by decide) (fun _ => ⟨rfl, rfl⟩) ?_
  refine ZX.aload_n dX3_init_9 rfl ?_
  refine ZX.bipush 60 dX3_init_10 rfl ?_
  refine ZX.newL' 60 60 dX3_init_12 (by decide +kernel) (by decide +kernel) rfl (by decide) rfl rfl rfl ?_
  refine ZX.putF dX3_init_14 fpX3_15 rfl (o := 59) rfl (by decide) (fun _ => ⟨rfl, rfl⟩) ?_
  exact ZX.vret dX3_init_17 rfl ⟨by decide, by decide⟩ ⟨rfl, rfl⟩
def wS10 : zH := [
  .inr (4, [.ref 1, .ref 14, .ref 26, .ref 38, .ref 58, .int 0]),
  .inr (2, [.ref 2, .ref 8, .ref 13]),
  .inl (.array .int, 5, .inr (.inr [some 3, some 4, some 5, some 6, some 7])),
  .inl (.int, 3, .inl (zflf 3 20 (fun _ => 0))),
  .inl (.int, 3, .inl (fun _ => 0)),
  .inl (.int, 3, .inl (fun _ => 0)),
  .inl (.int, 3, .inl (fun _ => 0)),
  .inl (.int, 3, .inl (fun _ => 0)),
  .inl (.array .int, 4, .inr (.inr [some 9, some 10, some 11, some 12])),
  .inl (.int, 9, .inl (fun _ => 0)),
  .inl (.int, 9, .inl (fun _ => 0)),
  .inl (.int, 9, .inl (fun _ => 0)),
  .inl (.int, 9, .inl (fun _ => 0)),
  .inl (.int, 3, .inl (fun _ => 0)),
  .inr (0, [.ref 1, .ref 15, .ref 16, .ref 17, .ref 18, .ref 19, .ref 20, .ref 21, .ref 22, .ref 23, .ref 24, .ref 25, .int 0, .int 0, .int 0, .int 0, .int (-1), .int 1]),
  .inl (.int, 3, .inl (fun _ => 0)),
  .inl (.int, 9, .inl (fun _ => 0)),
  .inl (.int, 9, .inl (fun _ => 0)),
  .inl (.int, 9, .inl (fun _ => 0)),
  .inl (.int, 9, .inl (fun _ => 0)),
  .inl (.int, 9, .inl (fun _ => 0)),
  .inl (.int, 27, .inl (fun _ => 0)),
  .inl (.int, 27, .inl (fun _ => 0)),
  .inl (.int, 9, .inl (fun _ => 0)),
  .inl (.int, 3, .inl (fun _ => 0)),
  .inl (.int, 3, .inl (fun _ => 0)),
  .inr (0, [.ref 1, .ref 27, .ref 28, .ref 29, .ref 30, .ref 31, .ref 32, .ref 33, .ref 34, .ref 35, .ref 36, .ref 37, .int 0, .int 0, .int 0, .int 0, .int (-1), .int 1]),
  .inl (.int, 3, .inl (fun _ => 0)),
  .inl (.int, 9, .inl (fun _ => 0)),
  .inl (.int, 9, .inl (fun _ => 0)),
  .inl (.int, 9, .inl (fun _ => 0)),
  .inl (.int, 9, .inl (fun _ => 0)),
  .inl (.int, 9, .inl (fun _ => 0)),
  .inl (.int, 27, .inl (fun _ => 0)),
  .inl (.int, 27, .inl (fun _ => 0)),
  .inl (.int, 9, .inl (fun _ => 0)),
  .inl (.int, 3, .inl (fun _ => 0)),
  .inl (.int, 3, .inl (fun _ => 0)),
  .inr (1, [.int 0, .int 0, .ref 39, .ref 40, .ref 43, .ref 44, .ref 45, .ref 46, .ref 47, .ref 57]),
  .inl (.int, 2, .inl (zflf 2 0 (fun _ => 0))),
  .inl (.array .int, 2, .inr (.inr [some 41, some 42])),
  .inl (.int, 300, .inl (zflf 300 (-1) (fun _ => 0))),
  .inl (.int, 300, .inl (zflf 300 (-1) (fun _ => 0))),
  .inl (.int, 9, .inl (zflf 9 (-1) (fun _ => 0))),
  .inl (.int, 9, .inl (zflf 9 (-1) (fun _ => 0))),
  .inl (.int, 9, .inl (zflf 9 0 (fun _ => 0))),
  .inl (.int, 9, .inl (zflf 9 0 (fun _ => 0))),
  .inl (.array .int, 9, .inr (.inr [some 48, some 49, some 50, some 51, some 52, some 53, some 54, some 55, some 56])),
  .inl (.int, 60, .inl (fun _ => 0)),
  .inl (.int, 60, .inl (fun _ => 0)),
  .inl (.int, 60, .inl (fun _ => 0)),
  .inl (.int, 60, .inl (fun _ => 0)),
  .inl (.int, 60, .inl (fun _ => 0)),
  .inl (.int, 60, .inl (fun _ => 0)),
  .inl (.int, 60, .inl (fun _ => 0)),
  .inl (.int, 60, .inl (fun _ => 0)),
  .inl (.int, 60, .inl (fun _ => 0)),
  .inl (.int, 3, .inl (fun _ => 0)),
  .inl (.object "OffsetChains$Sheet", 4, .inr (.inr [some 59, none, none, none])),
  .inr (3, [.int 1, .int 0, .int 0, .ref 60]),
  .inl (.long, 60, .inr (.inl (fun _ => 0))),
  .inr (3, [.int 0, .int 0, .int 0, .null])]
def wS11 : zH := [
  .inr (4, [.ref 1, .ref 14, .ref 26, .ref 38, .ref 58, .int 0]),
  .inr (2, [.ref 2, .ref 8, .ref 13]),
  .inl (.array .int, 5, .inr (.inr [some 3, some 4, some 5, some 6, some 7])),
  .inl (.int, 3, .inl (zflf 3 20 (fun _ => 0))),
  .inl (.int, 3, .inl (fun _ => 0)),
  .inl (.int, 3, .inl (fun _ => 0)),
  .inl (.int, 3, .inl (fun _ => 0)),
  .inl (.int, 3, .inl (fun _ => 0)),
  .inl (.array .int, 4, .inr (.inr [some 9, some 10, some 11, some 12])),
  .inl (.int, 9, .inl (fun _ => 0)),
  .inl (.int, 9, .inl (fun _ => 0)),
  .inl (.int, 9, .inl (fun _ => 0)),
  .inl (.int, 9, .inl (fun _ => 0)),
  .inl (.int, 3, .inl (fun _ => 0)),
  .inr (0, [.ref 1, .ref 15, .ref 16, .ref 17, .ref 18, .ref 19, .ref 20, .ref 21, .ref 22, .ref 23, .ref 24, .ref 25, .int 0, .int 0, .int 0, .int 0, .int (-1), .int 1]),
  .inl (.int, 3, .inl (fun _ => 0)),
  .inl (.int, 9, .inl (fun _ => 0)),
  .inl (.int, 9, .inl (fun _ => 0)),
  .inl (.int, 9, .inl (fun _ => 0)),
  .inl (.int, 9, .inl (fun _ => 0)),
  .inl (.int, 9, .inl (fun _ => 0)),
  .inl (.int, 27, .inl (fun _ => 0)),
  .inl (.int, 27, .inl (fun _ => 0)),
  .inl (.int, 9, .inl (fun _ => 0)),
  .inl (.int, 3, .inl (fun _ => 0)),
  .inl (.int, 3, .inl (fun _ => 0)),
  .inr (0, [.ref 1, .ref 27, .ref 28, .ref 29, .ref 30, .ref 31, .ref 32, .ref 33, .ref 34, .ref 35, .ref 36, .ref 37, .int 0, .int 0, .int 0, .int 0, .int (-1), .int 1]),
  .inl (.int, 3, .inl (fun _ => 0)),
  .inl (.int, 9, .inl (fun _ => 0)),
  .inl (.int, 9, .inl (fun _ => 0)),
  .inl (.int, 9, .inl (fun _ => 0)),
  .inl (.int, 9, .inl (fun _ => 0)),
  .inl (.int, 9, .inl (fun _ => 0)),
  .inl (.int, 27, .inl (fun _ => 0)),
  .inl (.int, 27, .inl (fun _ => 0)),
  .inl (.int, 9, .inl (fun _ => 0)),
  .inl (.int, 3, .inl (fun _ => 0)),
  .inl (.int, 3, .inl (fun _ => 0)),
  .inr (1, [.int 0, .int 0, .ref 39, .ref 40, .ref 43, .ref 44, .ref 45, .ref 46, .ref 47, .ref 57]),
  .inl (.int, 2, .inl (zflf 2 0 (fun _ => 0))),
  .inl (.array .int, 2, .inr (.inr [some 41, some 42])),
  .inl (.int, 300, .inl (zflf 300 (-1) (fun _ => 0))),
  .inl (.int, 300, .inl (zflf 300 (-1) (fun _ => 0))),
  .inl (.int, 9, .inl (zflf 9 (-1) (fun _ => 0))),
  .inl (.int, 9, .inl (zflf 9 (-1) (fun _ => 0))),
  .inl (.int, 9, .inl (zflf 9 0 (fun _ => 0))),
  .inl (.int, 9, .inl (zflf 9 0 (fun _ => 0))),
  .inl (.array .int, 9, .inr (.inr [some 48, some 49, some 50, some 51, some 52, some 53, some 54, some 55, some 56])),
  .inl (.int, 60, .inl (fun _ => 0)),
  .inl (.int, 60, .inl (fun _ => 0)),
  .inl (.int, 60, .inl (fun _ => 0)),
  .inl (.int, 60, .inl (fun _ => 0)),
  .inl (.int, 60, .inl (fun _ => 0)),
  .inl (.int, 60, .inl (fun _ => 0)),
  .inl (.int, 60, .inl (fun _ => 0)),
  .inl (.int, 60, .inl (fun _ => 0)),
  .inl (.int, 60, .inl (fun _ => 0)),
  .inl (.int, 3, .inl (fun _ => 0)),
  .inl (.object "OffsetChains$Sheet", 4, .inr (.inr [some 59, none, none, none])),
  .inr (3, [.int 1, .int 0, .int 0, .ref 60]),
  .inl (.long, 60, .inr (.inl (fun _ => 0))),
  .inr (3, [.int 1, .int 0, .int 0, .ref 62]),
  .inl (.long, 60, .inr (.inl (fun _ => 0)))]
set_option maxHeartbeats 4000000 in
set_option maxRecDepth 20000 in
theorem c_Z_Sheet1 : zCO XOO 1 60 1 μX3_init [.ref 61] wS10 (fun r h' => r = none ∧ h' = wS11) := by
  refine zCO.of (by decide +kernel) (Nat.le_of_ble_eq_true rfl) (fun d hd => ?_)
  refine ZX.aload_n dX3_init_0 rfl ?_
  refine ZX.objI dX3_init_1 ⟨zWd_in 236 (by decide +kernel) rfl, zWd_in 88 (by decide +kernel) rfl, zWd_in 89 (by decide +kernel) rfl⟩ (by omega) (Nat.le_of_ble_eq_true rfl) ?_
  refine ZX.aload_n dX3_init_4 rfl ?_
  refine ZX.iconst 1 dX3_init_5 rfl ?_
  refine ZX.putf dX3_init_6 fpX3_9 (o := 61) rfl (by decide) (fun _ => ⟨rfl, rfl⟩) ?_
  refine ZX.aload_n dX3_init_9 rfl ?_
  refine ZX.bipush 60 dX3_init_10 rfl ?_
  refine ZX.newL' 62 60 dX3_init_12 (by decide +kernel) (by decide +kernel) rfl (by decide) rfl rfl rfl ?_
  refine ZX.putF dX3_init_14 fpX3_15 rfl (o := 61) rfl (by decide) (fun _ => ⟨rfl, rfl⟩) ?_
  exact ZX.vret dX3_init_17 rfl ⟨by decide, by decide⟩ ⟨rfl, rfl⟩
def wS20 : zH := [
  .inr (4, [.ref 1, .ref 14, .ref 26, .ref 38, .ref 58, .int 0]),
  .inr (2, [.ref 2, .ref 8, .ref 13]),
  .inl (.array .int, 5, .inr (.inr [some 3, some 4, some 5, some 6, some 7])),
  .inl (.int, 3, .inl (zflf 3 20 (fun _ => 0))),
  .inl (.int, 3, .inl (fun _ => 0)),
  .inl (.int, 3, .inl (fun _ => 0)),
  .inl (.int, 3, .inl (fun _ => 0)),
  .inl (.int, 3, .inl (fun _ => 0)),
  .inl (.array .int, 4, .inr (.inr [some 9, some 10, some 11, some 12])),
  .inl (.int, 9, .inl (fun _ => 0)),
  .inl (.int, 9, .inl (fun _ => 0)),
  .inl (.int, 9, .inl (fun _ => 0)),
  .inl (.int, 9, .inl (fun _ => 0)),
  .inl (.int, 3, .inl (fun _ => 0)),
  .inr (0, [.ref 1, .ref 15, .ref 16, .ref 17, .ref 18, .ref 19, .ref 20, .ref 21, .ref 22, .ref 23, .ref 24, .ref 25, .int 0, .int 0, .int 0, .int 0, .int (-1), .int 1]),
  .inl (.int, 3, .inl (fun _ => 0)),
  .inl (.int, 9, .inl (fun _ => 0)),
  .inl (.int, 9, .inl (fun _ => 0)),
  .inl (.int, 9, .inl (fun _ => 0)),
  .inl (.int, 9, .inl (fun _ => 0)),
  .inl (.int, 9, .inl (fun _ => 0)),
  .inl (.int, 27, .inl (fun _ => 0)),
  .inl (.int, 27, .inl (fun _ => 0)),
  .inl (.int, 9, .inl (fun _ => 0)),
  .inl (.int, 3, .inl (fun _ => 0)),
  .inl (.int, 3, .inl (fun _ => 0)),
  .inr (0, [.ref 1, .ref 27, .ref 28, .ref 29, .ref 30, .ref 31, .ref 32, .ref 33, .ref 34, .ref 35, .ref 36, .ref 37, .int 0, .int 0, .int 0, .int 0, .int (-1), .int 1]),
  .inl (.int, 3, .inl (fun _ => 0)),
  .inl (.int, 9, .inl (fun _ => 0)),
  .inl (.int, 9, .inl (fun _ => 0)),
  .inl (.int, 9, .inl (fun _ => 0)),
  .inl (.int, 9, .inl (fun _ => 0)),
  .inl (.int, 9, .inl (fun _ => 0)),
  .inl (.int, 27, .inl (fun _ => 0)),
  .inl (.int, 27, .inl (fun _ => 0)),
  .inl (.int, 9, .inl (fun _ => 0)),
  .inl (.int, 3, .inl (fun _ => 0)),
  .inl (.int, 3, .inl (fun _ => 0)),
  .inr (1, [.int 0, .int 0, .ref 39, .ref 40, .ref 43, .ref 44, .ref 45, .ref 46, .ref 47, .ref 57]),
  .inl (.int, 2, .inl (zflf 2 0 (fun _ => 0))),
  .inl (.array .int, 2, .inr (.inr [some 41, some 42])),
  .inl (.int, 300, .inl (zflf 300 (-1) (fun _ => 0))),
  .inl (.int, 300, .inl (zflf 300 (-1) (fun _ => 0))),
  .inl (.int, 9, .inl (zflf 9 (-1) (fun _ => 0))),
  .inl (.int, 9, .inl (zflf 9 (-1) (fun _ => 0))),
  .inl (.int, 9, .inl (zflf 9 0 (fun _ => 0))),
  .inl (.int, 9, .inl (zflf 9 0 (fun _ => 0))),
  .inl (.array .int, 9, .inr (.inr [some 48, some 49, some 50, some 51, some 52, some 53, some 54, some 55, some 56])),
  .inl (.int, 60, .inl (fun _ => 0)),
  .inl (.int, 60, .inl (fun _ => 0)),
  .inl (.int, 60, .inl (fun _ => 0)),
  .inl (.int, 60, .inl (fun _ => 0)),
  .inl (.int, 60, .inl (fun _ => 0)),
  .inl (.int, 60, .inl (fun _ => 0)),
  .inl (.int, 60, .inl (fun _ => 0)),
  .inl (.int, 60, .inl (fun _ => 0)),
  .inl (.int, 60, .inl (fun _ => 0)),
  .inl (.int, 3, .inl (fun _ => 0)),
  .inl (.object "OffsetChains$Sheet", 4, .inr (.inr [some 59, some 61, none, none])),
  .inr (3, [.int 1, .int 0, .int 0, .ref 60]),
  .inl (.long, 60, .inr (.inl (fun _ => 0))),
  .inr (3, [.int 1, .int 0, .int 0, .ref 62]),
  .inl (.long, 60, .inr (.inl (fun _ => 0))),
  .inr (3, [.int 0, .int 0, .int 0, .null])]
def wS21 : zH := [
  .inr (4, [.ref 1, .ref 14, .ref 26, .ref 38, .ref 58, .int 0]),
  .inr (2, [.ref 2, .ref 8, .ref 13]),
  .inl (.array .int, 5, .inr (.inr [some 3, some 4, some 5, some 6, some 7])),
  .inl (.int, 3, .inl (zflf 3 20 (fun _ => 0))),
  .inl (.int, 3, .inl (fun _ => 0)),
  .inl (.int, 3, .inl (fun _ => 0)),
  .inl (.int, 3, .inl (fun _ => 0)),
  .inl (.int, 3, .inl (fun _ => 0)),
  .inl (.array .int, 4, .inr (.inr [some 9, some 10, some 11, some 12])),
  .inl (.int, 9, .inl (fun _ => 0)),
  .inl (.int, 9, .inl (fun _ => 0)),
  .inl (.int, 9, .inl (fun _ => 0)),
  .inl (.int, 9, .inl (fun _ => 0)),
  .inl (.int, 3, .inl (fun _ => 0)),
  .inr (0, [.ref 1, .ref 15, .ref 16, .ref 17, .ref 18, .ref 19, .ref 20, .ref 21, .ref 22, .ref 23, .ref 24, .ref 25, .int 0, .int 0, .int 0, .int 0, .int (-1), .int 1]),
  .inl (.int, 3, .inl (fun _ => 0)),
  .inl (.int, 9, .inl (fun _ => 0)),
  .inl (.int, 9, .inl (fun _ => 0)),
  .inl (.int, 9, .inl (fun _ => 0)),
  .inl (.int, 9, .inl (fun _ => 0)),
  .inl (.int, 9, .inl (fun _ => 0)),
  .inl (.int, 27, .inl (fun _ => 0)),
  .inl (.int, 27, .inl (fun _ => 0)),
  .inl (.int, 9, .inl (fun _ => 0)),
  .inl (.int, 3, .inl (fun _ => 0)),
  .inl (.int, 3, .inl (fun _ => 0)),
  .inr (0, [.ref 1, .ref 27, .ref 28, .ref 29, .ref 30, .ref 31, .ref 32, .ref 33, .ref 34, .ref 35, .ref 36, .ref 37, .int 0, .int 0, .int 0, .int 0, .int (-1), .int 1]),
  .inl (.int, 3, .inl (fun _ => 0)),
  .inl (.int, 9, .inl (fun _ => 0)),
  .inl (.int, 9, .inl (fun _ => 0)),
  .inl (.int, 9, .inl (fun _ => 0)),
  .inl (.int, 9, .inl (fun _ => 0)),
  .inl (.int, 9, .inl (fun _ => 0)),
  .inl (.int, 27, .inl (fun _ => 0)),
  .inl (.int, 27, .inl (fun _ => 0)),
  .inl (.int, 9, .inl (fun _ => 0)),
  .inl (.int, 3, .inl (fun _ => 0)),
  .inl (.int, 3, .inl (fun _ => 0)),
  .inr (1, [.int 0, .int 0, .ref 39, .ref 40, .ref 43, .ref 44, .ref 45, .ref 46, .ref 47, .ref 57]),
  .inl (.int, 2, .inl (zflf 2 0 (fun _ => 0))),
  .inl (.array .int, 2, .inr (.inr [some 41, some 42])),
  .inl (.int, 300, .inl (zflf 300 (-1) (fun _ => 0))),
  .inl (.int, 300, .inl (zflf 300 (-1) (fun _ => 0))),
  .inl (.int, 9, .inl (zflf 9 (-1) (fun _ => 0))),
  .inl (.int, 9, .inl (zflf 9 (-1) (fun _ => 0))),
  .inl (.int, 9, .inl (zflf 9 0 (fun _ => 0))),
  .inl (.int, 9, .inl (zflf 9 0 (fun _ => 0))),
  .inl (.array .int, 9, .inr (.inr [some 48, some 49, some 50, some 51, some 52, some 53, some 54, some 55, some 56])),
  .inl (.int, 60, .inl (fun _ => 0)),
  .inl (.int, 60, .inl (fun _ => 0)),
  .inl (.int, 60, .inl (fun _ => 0)),
  .inl (.int, 60, .inl (fun _ => 0)),
  .inl (.int, 60, .inl (fun _ => 0)),
  .inl (.int, 60, .inl (fun _ => 0)),
  .inl (.int, 60, .inl (fun _ => 0)),
  .inl (.int, 60, .inl (fun _ => 0)),
  .inl (.int, 60, .inl (fun _ => 0)),
  .inl (.int, 3, .inl (fun _ => 0)),
  .inl (.object "OffsetChains$Sheet", 4, .inr (.inr [some 59, some 61, none, none])),
  .inr (3, [.int 1, .int 0, .int 0, .ref 60]),
  .inl (.long, 60, .inr (.inl (fun _ => 0))),
  .inr (3, [.int 1, .int 0, .int 0, .ref 62]),
  .inl (.long, 60, .inr (.inl (fun _ => 0))),
  .inr (3, [.int 1, .int 0, .int 0, .ref 64]),
  .inl (.long, 60, .inr (.inl (fun _ => 0)))]
set_option maxHeartbeats 4000000 in
set_option maxRecDepth 20000 in
theorem c_Z_Sheet2 : zCO XOO 1 60 1 μX3_init [.ref 63] wS20 (fun r h' => r = none ∧ h' = wS21) := by
  refine zCO.of (by decide +kernel) (Nat.le_of_ble_eq_true rfl) (fun d hd => ?_)
  refine ZX.aload_n dX3_init_0 rfl ?_
  refine ZX.objI dX3_init_1 ⟨zWd_in 236 (by decide +kernel) rfl, zWd_in 88 (by decide +kernel) rfl, zWd_in 89 (by decide +kernel) rfl⟩ (by omega) (Nat.le_of_ble_eq_true rfl) ?_
  refine ZX.aload_n dX3_init_4 rfl ?_
  refine ZX.iconst 1 dX3_init_5 rfl ?_
  refine ZX.putf dX3_init_6 fpX3_9 (o := 63) rfl (by decide) (fun _ => ⟨rfl, rfl⟩) ?_
  refine ZX.aload_n dX3_init_9 rfl ?_
  refine ZX.bipush 60 dX3_init_10 rfl ?_
  refine ZX.newL' 64 60 dX3_init_12 (by decide +kernel) (by decide +kernel) rfl (by decide) rfl rfl rfl ?_
  refine ZX.putF dX3_init_14 fpX3_15 rfl (o := 63) rfl (by decide) (fun _ => ⟨rfl, rfl⟩) ?_
  exact ZX.vret dX3_init_17 rfl ⟨by decide, by decide⟩ ⟨rfl, rfl⟩
def wS30 : zH := [
  .inr (4, [.ref 1, .ref 14, .ref 26, .ref 38, .ref 58, .int 0]),
  .inr (2, [.ref 2, .ref 8, .ref 13]),
  .inl (.array .int, 5, .inr (.inr [some 3, some 4, some 5, some 6, some 7])),
  .inl (.int, 3, .inl (zflf 3 20 (fun _ => 0))),
  .inl (.int, 3, .inl (fun _ => 0)),
  .inl (.int, 3, .inl (fun _ => 0)),
  .inl (.int, 3, .inl (fun _ => 0)),
  .inl (.int, 3, .inl (fun _ => 0)),
  .inl (.array .int, 4, .inr (.inr [some 9, some 10, some 11, some 12])),
  .inl (.int, 9, .inl (fun _ => 0)),
  .inl (.int, 9, .inl (fun _ => 0)),
  .inl (.int, 9, .inl (fun _ => 0)),
  .inl (.int, 9, .inl (fun _ => 0)),
  .inl (.int, 3, .inl (fun _ => 0)),
  .inr (0, [.ref 1, .ref 15, .ref 16, .ref 17, .ref 18, .ref 19, .ref 20, .ref 21, .ref 22, .ref 23, .ref 24, .ref 25, .int 0, .int 0, .int 0, .int 0, .int (-1), .int 1]),
  .inl (.int, 3, .inl (fun _ => 0)),
  .inl (.int, 9, .inl (fun _ => 0)),
  .inl (.int, 9, .inl (fun _ => 0)),
  .inl (.int, 9, .inl (fun _ => 0)),
  .inl (.int, 9, .inl (fun _ => 0)),
  .inl (.int, 9, .inl (fun _ => 0)),
  .inl (.int, 27, .inl (fun _ => 0)),
  .inl (.int, 27, .inl (fun _ => 0)),
  .inl (.int, 9, .inl (fun _ => 0)),
  .inl (.int, 3, .inl (fun _ => 0)),
  .inl (.int, 3, .inl (fun _ => 0)),
  .inr (0, [.ref 1, .ref 27, .ref 28, .ref 29, .ref 30, .ref 31, .ref 32, .ref 33, .ref 34, .ref 35, .ref 36, .ref 37, .int 0, .int 0, .int 0, .int 0, .int (-1), .int 1]),
  .inl (.int, 3, .inl (fun _ => 0)),
  .inl (.int, 9, .inl (fun _ => 0)),
  .inl (.int, 9, .inl (fun _ => 0)),
  .inl (.int, 9, .inl (fun _ => 0)),
  .inl (.int, 9, .inl (fun _ => 0)),
  .inl (.int, 9, .inl (fun _ => 0)),
  .inl (.int, 27, .inl (fun _ => 0)),
  .inl (.int, 27, .inl (fun _ => 0)),
  .inl (.int, 9, .inl (fun _ => 0)),
  .inl (.int, 3, .inl (fun _ => 0)),
  .inl (.int, 3, .inl (fun _ => 0)),
  .inr (1, [.int 0, .int 0, .ref 39, .ref 40, .ref 43, .ref 44, .ref 45, .ref 46, .ref 47, .ref 57]),
  .inl (.int, 2, .inl (zflf 2 0 (fun _ => 0))),
  .inl (.array .int, 2, .inr (.inr [some 41, some 42])),
  .inl (.int, 300, .inl (zflf 300 (-1) (fun _ => 0))),
  .inl (.int, 300, .inl (zflf 300 (-1) (fun _ => 0))),
  .inl (.int, 9, .inl (zflf 9 (-1) (fun _ => 0))),
  .inl (.int, 9, .inl (zflf 9 (-1) (fun _ => 0))),
  .inl (.int, 9, .inl (zflf 9 0 (fun _ => 0))),
  .inl (.int, 9, .inl (zflf 9 0 (fun _ => 0))),
  .inl (.array .int, 9, .inr (.inr [some 48, some 49, some 50, some 51, some 52, some 53, some 54, some 55, some 56])),
  .inl (.int, 60, .inl (fun _ => 0)),
  .inl (.int, 60, .inl (fun _ => 0)),
  .inl (.int, 60, .inl (fun _ => 0)),
  .inl (.int, 60, .inl (fun _ => 0)),
  .inl (.int, 60, .inl (fun _ => 0)),
  .inl (.int, 60, .inl (fun _ => 0)),
  .inl (.int, 60, .inl (fun _ => 0)),
  .inl (.int, 60, .inl (fun _ => 0)),
  .inl (.int, 60, .inl (fun _ => 0)),
  .inl (.int, 3, .inl (fun _ => 0)),
  .inl (.object "OffsetChains$Sheet", 4, .inr (.inr [some 59, some 61, some 63, none])),
  .inr (3, [.int 1, .int 0, .int 0, .ref 60]),
  .inl (.long, 60, .inr (.inl (fun _ => 0))),
  .inr (3, [.int 1, .int 0, .int 0, .ref 62]),
  .inl (.long, 60, .inr (.inl (fun _ => 0))),
  .inr (3, [.int 1, .int 0, .int 0, .ref 64]),
  .inl (.long, 60, .inr (.inl (fun _ => 0))),
  .inr (3, [.int 0, .int 0, .int 0, .null])]
def wS31 : zH := [
  .inr (4, [.ref 1, .ref 14, .ref 26, .ref 38, .ref 58, .int 0]),
  .inr (2, [.ref 2, .ref 8, .ref 13]),
  .inl (.array .int, 5, .inr (.inr [some 3, some 4, some 5, some 6, some 7])),
  .inl (.int, 3, .inl (zflf 3 20 (fun _ => 0))),
  .inl (.int, 3, .inl (fun _ => 0)),
  .inl (.int, 3, .inl (fun _ => 0)),
  .inl (.int, 3, .inl (fun _ => 0)),
  .inl (.int, 3, .inl (fun _ => 0)),
  .inl (.array .int, 4, .inr (.inr [some 9, some 10, some 11, some 12])),
  .inl (.int, 9, .inl (fun _ => 0)),
  .inl (.int, 9, .inl (fun _ => 0)),
  .inl (.int, 9, .inl (fun _ => 0)),
  .inl (.int, 9, .inl (fun _ => 0)),
  .inl (.int, 3, .inl (fun _ => 0)),
  .inr (0, [.ref 1, .ref 15, .ref 16, .ref 17, .ref 18, .ref 19, .ref 20, .ref 21, .ref 22, .ref 23, .ref 24, .ref 25, .int 0, .int 0, .int 0, .int 0, .int (-1), .int 1]),
  .inl (.int, 3, .inl (fun _ => 0)),
  .inl (.int, 9, .inl (fun _ => 0)),
  .inl (.int, 9, .inl (fun _ => 0)),
  .inl (.int, 9, .inl (fun _ => 0)),
  .inl (.int, 9, .inl (fun _ => 0)),
  .inl (.int, 9, .inl (fun _ => 0)),
  .inl (.int, 27, .inl (fun _ => 0)),
  .inl (.int, 27, .inl (fun _ => 0)),
  .inl (.int, 9, .inl (fun _ => 0)),
  .inl (.int, 3, .inl (fun _ => 0)),
  .inl (.int, 3, .inl (fun _ => 0)),
  .inr (0, [.ref 1, .ref 27, .ref 28, .ref 29, .ref 30, .ref 31, .ref 32, .ref 33, .ref 34, .ref 35, .ref 36, .ref 37, .int 0, .int 0, .int 0, .int 0, .int (-1), .int 1]),
  .inl (.int, 3, .inl (fun _ => 0)),
  .inl (.int, 9, .inl (fun _ => 0)),
  .inl (.int, 9, .inl (fun _ => 0)),
  .inl (.int, 9, .inl (fun _ => 0)),
  .inl (.int, 9, .inl (fun _ => 0)),
  .inl (.int, 9, .inl (fun _ => 0)),
  .inl (.int, 27, .inl (fun _ => 0)),
  .inl (.int, 27, .inl (fun _ => 0)),
  .inl (.int, 9, .inl (fun _ => 0)),
  .inl (.int, 3, .inl (fun _ => 0)),
  .inl (.int, 3, .inl (fun _ => 0)),
  .inr (1, [.int 0, .int 0, .ref 39, .ref 40, .ref 43, .ref 44, .ref 45, .ref 46, .ref 47, .ref 57]),
  .inl (.int, 2, .inl (zflf 2 0 (fun _ => 0))),
  .inl (.array .int, 2, .inr (.inr [some 41, some 42])),
  .inl (.int, 300, .inl (zflf 300 (-1) (fun _ => 0))),
  .inl (.int, 300, .inl (zflf 300 (-1) (fun _ => 0))),
  .inl (.int, 9, .inl (zflf 9 (-1) (fun _ => 0))),
  .inl (.int, 9, .inl (zflf 9 (-1) (fun _ => 0))),
  .inl (.int, 9, .inl (zflf 9 0 (fun _ => 0))),
  .inl (.int, 9, .inl (zflf 9 0 (fun _ => 0))),
  .inl (.array .int, 9, .inr (.inr [some 48, some 49, some 50, some 51, some 52, some 53, some 54, some 55, some 56])),
  .inl (.int, 60, .inl (fun _ => 0)),
  .inl (.int, 60, .inl (fun _ => 0)),
  .inl (.int, 60, .inl (fun _ => 0)),
  .inl (.int, 60, .inl (fun _ => 0)),
  .inl (.int, 60, .inl (fun _ => 0)),
  .inl (.int, 60, .inl (fun _ => 0)),
  .inl (.int, 60, .inl (fun _ => 0)),
  .inl (.int, 60, .inl (fun _ => 0)),
  .inl (.int, 60, .inl (fun _ => 0)),
  .inl (.int, 3, .inl (fun _ => 0)),
  .inl (.object "OffsetChains$Sheet", 4, .inr (.inr [some 59, some 61, some 63, none])),
  .inr (3, [.int 1, .int 0, .int 0, .ref 60]),
  .inl (.long, 60, .inr (.inl (fun _ => 0))),
  .inr (3, [.int 1, .int 0, .int 0, .ref 62]),
  .inl (.long, 60, .inr (.inl (fun _ => 0))),
  .inr (3, [.int 1, .int 0, .int 0, .ref 64]),
  .inl (.long, 60, .inr (.inl (fun _ => 0))),
  .inr (3, [.int 1, .int 0, .int 0, .ref 66]),
  .inl (.long, 60, .inr (.inl (fun _ => 0)))]
set_option maxHeartbeats 4000000 in
set_option maxRecDepth 20000 in
theorem c_Z_Sheet3 : zCO XOO 1 60 1 μX3_init [.ref 65] wS30 (fun r h' => r = none ∧ h' = wS31) := by
  refine zCO.of (by decide +kernel) (Nat.le_of_ble_eq_true rfl) (fun d hd => ?_)
  refine ZX.aload_n dX3_init_0 rfl ?_
  refine ZX.objI dX3_init_1 ⟨zWd_in 236 (by decide +kernel) rfl, zWd_in 88 (by decide +kernel) rfl, zWd_in 89 (by decide +kernel) rfl⟩ (by omega) (Nat.le_of_ble_eq_true rfl) ?_
  refine ZX.aload_n dX3_init_4 rfl ?_
  refine ZX.iconst 1 dX3_init_5 rfl ?_
  refine ZX.putf dX3_init_6 fpX3_9 (o := 65) rfl (by decide) (fun _ => ⟨rfl, rfl⟩) ?_
  refine ZX.aload_n dX3_init_9 rfl ?_
  refine ZX.bipush 60 dX3_init_10 rfl ?_
  refine ZX.newL' 66 60 dX3_init_12 (by decide +kernel) (by decide +kernel) rfl (by decide) rfl rfl rfl ?_
  refine ZX.putF dX3_init_14 fpX3_15 rfl (o := 65) rfl (by decide) (fun _ => ⟨rfl, rfl⟩) ?_
  exact ZX.vret dX3_init_17 rfl ⟨by decide, by decide⟩ ⟨rfl, rfl⟩
def wZ1 : zH := [
  .inr (4, [.ref 1, .ref 14, .ref 26, .ref 38, .ref 58, .int 0]),
  .inr (2, [.ref 2, .ref 8, .ref 13]),
  .inl (.array .int, 5, .inr (.inr [some 3, some 4, some 5, some 6, some 7])),
  .inl (.int, 3, .inl (zflf 3 20 (fun _ => 0))),
  .inl (.int, 3, .inl (fun _ => 0)),
  .inl (.int, 3, .inl (fun _ => 0)),
  .inl (.int, 3, .inl (fun _ => 0)),
  .inl (.int, 3, .inl (fun _ => 0)),
  .inl (.array .int, 4, .inr (.inr [some 9, some 10, some 11, some 12])),
  .inl (.int, 9, .inl (fun _ => 0)),
  .inl (.int, 9, .inl (fun _ => 0)),
  .inl (.int, 9, .inl (fun _ => 0)),
  .inl (.int, 9, .inl (fun _ => 0)),
  .inl (.int, 3, .inl (fun _ => 0)),
  .inr (0, [.ref 1, .ref 15, .ref 16, .ref 17, .ref 18, .ref 19, .ref 20, .ref 21, .ref 22, .ref 23, .ref 24, .ref 25, .int 0, .int 0, .int 0, .int 0, .int (-1), .int 1]),
  .inl (.int, 3, .inl (fun _ => 0)),
  .inl (.int, 9, .inl (fun _ => 0)),
  .inl (.int, 9, .inl (fun _ => 0)),
  .inl (.int, 9, .inl (fun _ => 0)),
  .inl (.int, 9, .inl (fun _ => 0)),
  .inl (.int, 9, .inl (fun _ => 0)),
  .inl (.int, 27, .inl (fun _ => 0)),
  .inl (.int, 27, .inl (fun _ => 0)),
  .inl (.int, 9, .inl (fun _ => 0)),
  .inl (.int, 3, .inl (fun _ => 0)),
  .inl (.int, 3, .inl (fun _ => 0)),
  .inr (0, [.ref 1, .ref 27, .ref 28, .ref 29, .ref 30, .ref 31, .ref 32, .ref 33, .ref 34, .ref 35, .ref 36, .ref 37, .int 0, .int 0, .int 0, .int 0, .int (-1), .int 1]),
  .inl (.int, 3, .inl (fun _ => 0)),
  .inl (.int, 9, .inl (fun _ => 0)),
  .inl (.int, 9, .inl (fun _ => 0)),
  .inl (.int, 9, .inl (fun _ => 0)),
  .inl (.int, 9, .inl (fun _ => 0)),
  .inl (.int, 9, .inl (fun _ => 0)),
  .inl (.int, 27, .inl (fun _ => 0)),
  .inl (.int, 27, .inl (fun _ => 0)),
  .inl (.int, 9, .inl (fun _ => 0)),
  .inl (.int, 3, .inl (fun _ => 0)),
  .inl (.int, 3, .inl (fun _ => 0)),
  .inr (1, [.int 0, .int 0, .ref 39, .ref 40, .ref 43, .ref 44, .ref 45, .ref 46, .ref 47, .ref 57]),
  .inl (.int, 2, .inl (zflf 2 0 (fun _ => 0))),
  .inl (.array .int, 2, .inr (.inr [some 41, some 42])),
  .inl (.int, 300, .inl (zflf 300 (-1) (fun _ => 0))),
  .inl (.int, 300, .inl (zflf 300 (-1) (fun _ => 0))),
  .inl (.int, 9, .inl (zflf 9 (-1) (fun _ => 0))),
  .inl (.int, 9, .inl (zflf 9 (-1) (fun _ => 0))),
  .inl (.int, 9, .inl (zflf 9 0 (fun _ => 0))),
  .inl (.int, 9, .inl (zflf 9 0 (fun _ => 0))),
  .inl (.array .int, 9, .inr (.inr [some 48, some 49, some 50, some 51, some 52, some 53, some 54, some 55, some 56])),
  .inl (.int, 60, .inl (fun _ => 0)),
  .inl (.int, 60, .inl (fun _ => 0)),
  .inl (.int, 60, .inl (fun _ => 0)),
  .inl (.int, 60, .inl (fun _ => 0)),
  .inl (.int, 60, .inl (fun _ => 0)),
  .inl (.int, 60, .inl (fun _ => 0)),
  .inl (.int, 60, .inl (fun _ => 0)),
  .inl (.int, 60, .inl (fun _ => 0)),
  .inl (.int, 60, .inl (fun _ => 0)),
  .inl (.int, 3, .inl (fun _ => 0)),
  .inl (.object "OffsetChains$Sheet", 4, .inr (.inr [some 59, some 61, some 63, some 65])),
  .inr (3, [.int 1, .int 0, .int 0, .ref 60]),
  .inl (.long, 60, .inr (.inl (fun _ => 0))),
  .inr (3, [.int 1, .int 0, .int 0, .ref 62]),
  .inl (.long, 60, .inr (.inl (fun _ => 0))),
  .inr (3, [.int 1, .int 0, .int 0, .ref 64]),
  .inl (.long, 60, .inr (.inl (fun _ => 0))),
  .inr (3, [.int 1, .int 0, .int 0, .ref 66]),
  .inl (.long, 60, .inr (.inl (fun _ => 0)))]
set_option maxHeartbeats 4000000 in
set_option maxRecDepth 20000 in
theorem c_Z_Main : zCO XOO 66 1798 3 μX4_init [.ref 0] wZ0 (fun r h' => r = none ∧ h' = wZ1) := by
  refine zCO.of (by decide +kernel) (Nat.le_of_ble_eq_true rfl) (fun d hd => ?_)
  refine ZX.aload_n dX4_init_0 rfl ?_
  refine ZX.objI dX4_init_1 ⟨zWd_in 87 (by decide +kernel) rfl, zWd_in 88 (by decide +kernel) rfl, zWd_in 89 (by decide +kernel) rfl⟩ (by omega) (Nat.le_of_ble_eq_true rfl) ?_
  refine ZX.aload_n dX4_init_4 rfl ?_
  refine ZX.new' 1 tyX2 [.null, .null, .null] dX4_init_5 clX2 ⟨zWd_in 90 (by decide +kernel) rfl, zWd_in 91 (by decide +kernel) rfl, zWd_in 73 (by decide +kernel) rfl⟩ tyX2_ok (defX2) (fun _ => rfl) rfl (by decide) rfl rfl rfl ?_
  refine ZX.dup dX4_init_8 rfl ?_
  refine ZX.w (h' := wP0) rfl ?_
  refine ZX.callO (b := 1) (As := []) dX4_init_9 mkX2_init csX4_11 (fun _ _ _ q => q) XOO.moved c_Z_Plan (by omega) rfl rfl (Nat.le_of_ble_eq_true rfl) ⟨Or.inr ⟨rfl, rfl⟩, by decide, by decide, fun r_ h_ p_ => ?_⟩
  obtain ⟨rfl, rfl⟩ := p_
  refine ZX.putF dX4_init_12 fpX4_12 rfl (o := 0) rfl (by decide) (fun _ => ⟨rfl, rfl⟩) ?_
  refine ZX.aload_n dX4_init_15 rfl ?_
  refine ZX.new' 14 tyX0 [.null, .null, .null, .null, .null, .null, .null, .null, .null, .null, .null, .null, .int 0, .int 0, .int 0, .int 0, .int 0, .int 0] dX4_init_16 clX0 ⟨zWd_in 120 (by decide +kernel) rfl, zWd_in 121 (by decide +kernel) rfl, zWd_in 75 (by decide +kernel) rfl⟩ tyX0_ok (defX0) (fun _ => rfl) rfl (by decide) rfl rfl rfl ?_
  refine ZX.dup dX4_init_19 rfl ?_
  refine ZX.aload_n dX4_init_20 rfl ?_
  refine ZX.getf dX4_init_21 flX4_12 (o := 0) rfl rfl ?_
  refine ZX.w (h' := wA0) rfl ?_
  refine ZX.callO (b := 14) (As := [.ref 1]) dX4_init_24 mkX0_init csX4_18 (fun _ _ _ q => q) XOO.moved c_Z_Ans1 (by omega) rfl rfl (Nat.le_of_ble_eq_true rfl) ⟨Or.inr ⟨rfl, rfl⟩, by decide, by decide, fun r_ h_ p_ => ?_⟩
  obtain ⟨rfl, rfl⟩ := p_
  refine ZX.putF dX4_init_27 fpX4_21 rfl (o := 0) rfl (by decide) (fun _ => ⟨rfl, rfl⟩) ?_
  refine ZX.aload_n dX4_init_30 rfl ?_
  refine ZX.new' 26 tyX0 [.null, .null, .null, .null, .null, .null, .null, .null, .null, .null, .null, .null, .int 0, .int 0, .int 0, .int 0, .int 0, .int 0] dX4_init_31 clX0 ⟨zWd_in 120 (by decide +kernel) rfl, zWd_in 121 (by decide +kernel) rfl, zWd_in 75 (by decide +kernel) rfl⟩ tyX0_ok (defX0) (fun _ => rfl) rfl (by decide) rfl rfl rfl ?_
  refine ZX.dup dX4_init_34 rfl ?_
  refine ZX.aload_n dX4_init_35 rfl ?_
  refine ZX.getf dX4_init_36 flX4_12 (o := 0) rfl rfl ?_
  refine ZX.w (h' := wB0) rfl ?_
  refine ZX.callO (b := 26) (As := [.ref 1]) dX4_init_39 mkX0_init csX4_18 (fun _ _ _ q => q) XOO.moved c_Z_Ans2 (by omega) rfl rfl (Nat.le_of_ble_eq_true rfl) ⟨Or.inr ⟨rfl, rfl⟩, by decide, by decide, fun r_ h_ p_ => ?_⟩
  obtain ⟨rfl, rfl⟩ := p_
  refine ZX.putF dX4_init_42 fpX4_25 rfl (o := 0) rfl (by decide) (fun _ => ⟨rfl, rfl⟩) ?_
  refine ZX.aload_n dX4_init_45 rfl ?_
  refine ZX.new' 38 tyX1 [.int 0, .int 0, .null, .null, .null, .null, .null, .null, .null, .null] dX4_init_46 clX1 ⟨zWd_in 183 (by decide +kernel) rfl, zWd_in 184 (by decide +kernel) rfl, zWd_in 76 (by decide +kernel) rfl⟩ tyX1_ok (defX1) (fun _ => rfl) rfl (by decide) rfl rfl rfl ?_
  refine ZX.dup dX4_init_49 rfl ?_
  refine ZX.w (h' := wC0) rfl ?_
  refine ZX.callO (b := 38) (As := []) dX4_init_50 mkX1_init csX4_30 (fun _ _ _ q => q) XOO.moved c_Z_Course (by omega) rfl rfl (Nat.le_of_ble_eq_true rfl) ⟨Or.inr ⟨rfl, rfl⟩, by decide, by decide, fun r_ h_ p_ => ?_⟩
  obtain ⟨rfl, rfl⟩ := p_
  refine ZX.putF dX4_init_53 fpX4_31 rfl (o := 0) rfl (by decide) (fun _ => ⟨rfl, rfl⟩) ?_
  refine ZX.aload_n dX4_init_56 rfl ?_
  refine ZX.iconst 4 dX4_init_57 rfl ?_
  refine ZX.newS' 58 4 dX4_init_58 (zWd_in 230 (by decide +kernel) rfl) (fun _ _ _ q => q) (by decide +kernel) (by decide +kernel) rfl (by decide) rfl rfl rfl ?_
  refine ZX.putF dX4_init_61 fpX4_37 rfl (o := 0) rfl (by decide) (fun _ => ⟨rfl, rfl⟩) ?_
  refine ZX.iconst 0 dX4_init_64 rfl ?_
  refine ZX.istore_n dX4_init_65 (by decide) rfl ?_
  refine ZX.iload_n dX4_init_66 rfl ?_
  refine ZX.iconst 4 dX4_init_67 rfl ?_
  refine ZX.icmp_ge 90 dX4_init_68 (by decide) (fun h_ => absurd h_ (by decide +kernel)) (fun _ => ?_)
  refine ZX.aload_n dX4_init_71 rfl ?_
  refine ZX.getf dX4_init_72 flX4_37 (o := 0) rfl rfl ?_
  refine ZX.iload_n dX4_init_75 rfl ?_
  refine ZX.new' 59 tyX3 [.int 0, .int 0, .int 0, .null] dX4_init_76 clX3 ⟨zWd_in 230 (by decide +kernel) rfl, zWd_in 232 (by decide +kernel) rfl, zWd_in 77 (by decide +kernel) rfl⟩ tyX3_ok (defX3) (fun _ => rfl) rfl (by decide) rfl rfl rfl ?_
  refine ZX.dup dX4_init_79 rfl ?_
  refine ZX.w (h' := wS00) rfl ?_
  refine ZX.callO (b := 59) (As := []) dX4_init_80 mkX3_init csX4_41 (fun _ _ _ q => q) XOO.moved c_Z_Sheet0 (by omega) rfl rfl (Nat.le_of_ble_eq_true rfl) ⟨Or.inr ⟨rfl, rfl⟩, by decide, by decide, fun r_ h_ p_ => ?_⟩
  obtain ⟨rfl, rfl⟩ := p_
  refine ZX.aastS dX4_init_83 (a := 58) (v := 59) (k := 0) rfl rfl (by decide +kernel) (by unfold vp_in; decide +kernel) rfl ?_
  refine ZX.iinc dX4_init_84 rfl (by decide) rfl ?_
  refine ZX.goto 66 dX4_init_87 (by decide) ?_
  refine ZX.iload_n dX4_init_66 rfl ?_
  refine ZX.iconst 4 dX4_init_67 rfl ?_
  refine ZX.icmp_ge 90 dX4_init_68 (by decide) (fun h_ => absurd h_ (by decide +kernel)) (fun _ => ?_)
  refine ZX.aload_n dX4_init_71 rfl ?_
  refine ZX.getf dX4_init_72 flX4_37 (o := 0) rfl rfl ?_
  refine ZX.iload_n dX4_init_75 rfl ?_
  refine ZX.new' 61 tyX3 [.int 0, .int 0, .int 0, .null] dX4_init_76 clX3 ⟨zWd_in 230 (by decide +kernel) rfl, zWd_in 232 (by decide +kernel) rfl, zWd_in 77 (by decide +kernel) rfl⟩ tyX3_ok (defX3) (fun _ => rfl) rfl (by decide) rfl rfl rfl ?_
  refine ZX.dup dX4_init_79 rfl ?_
  refine ZX.w (h' := wS10) rfl ?_
  refine ZX.callO (b := 61) (As := []) dX4_init_80 mkX3_init csX4_41 (fun _ _ _ q => q) XOO.moved c_Z_Sheet1 (by omega) rfl rfl (Nat.le_of_ble_eq_true rfl) ⟨Or.inr ⟨rfl, rfl⟩, by decide, by decide, fun r_ h_ p_ => ?_⟩
  obtain ⟨rfl, rfl⟩ := p_
  refine ZX.aastS dX4_init_83 (a := 58) (v := 61) (k := 1) rfl rfl (by decide +kernel) (by unfold vp_in; decide +kernel) rfl ?_
  refine ZX.iinc dX4_init_84 rfl (by decide) rfl ?_
  refine ZX.goto 66 dX4_init_87 (by decide) ?_
  refine ZX.iload_n dX4_init_66 rfl ?_
  refine ZX.iconst 4 dX4_init_67 rfl ?_
  refine ZX.icmp_ge 90 dX4_init_68 (by decide) (fun h_ => absurd h_ (by decide +kernel)) (fun _ => ?_)
  refine ZX.aload_n dX4_init_71 rfl ?_
  refine ZX.getf dX4_init_72 flX4_37 (o := 0) rfl rfl ?_
  refine ZX.iload_n dX4_init_75 rfl ?_
  refine ZX.new' 63 tyX3 [.int 0, .int 0, .int 0, .null] dX4_init_76 clX3 ⟨zWd_in 230 (by decide +kernel) rfl, zWd_in 232 (by decide +kernel) rfl, zWd_in 77 (by decide +kernel) rfl⟩ tyX3_ok (defX3) (fun _ => rfl) rfl (by decide) rfl rfl rfl ?_
  refine ZX.dup dX4_init_79 rfl ?_
  refine ZX.w (h' := wS20) rfl ?_
  refine ZX.callO (b := 63) (As := []) dX4_init_80 mkX3_init csX4_41 (fun _ _ _ q => q) XOO.moved c_Z_Sheet2 (by omega) rfl rfl (Nat.le_of_ble_eq_true rfl) ⟨Or.inr ⟨rfl, rfl⟩, by decide, by decide, fun r_ h_ p_ => ?_⟩
  obtain ⟨rfl, rfl⟩ := p_
  refine ZX.aastS dX4_init_83 (a := 58) (v := 63) (k := 2) rfl rfl (by decide +kernel) (by unfold vp_in; decide +kernel) rfl ?_
  refine ZX.iinc dX4_init_84 rfl (by decide) rfl ?_
  refine ZX.goto 66 dX4_init_87 (by decide) ?_
  refine ZX.iload_n dX4_init_66 rfl ?_
  refine ZX.iconst 4 dX4_init_67 rfl ?_
  refine ZX.icmp_ge 90 dX4_init_68 (by decide) (fun h_ => absurd h_ (by decide +kernel)) (fun _ => ?_)
  refine ZX.aload_n dX4_init_71 rfl ?_
  refine ZX.getf dX4_init_72 flX4_37 (o := 0) rfl rfl ?_
  refine ZX.iload_n dX4_init_75 rfl ?_
  refine ZX.new' 65 tyX3 [.int 0, .int 0, .int 0, .null] dX4_init_76 clX3 ⟨zWd_in 230 (by decide +kernel) rfl, zWd_in 232 (by decide +kernel) rfl, zWd_in 77 (by decide +kernel) rfl⟩ tyX3_ok (defX3) (fun _ => rfl) rfl (by decide) rfl rfl rfl ?_
  refine ZX.dup dX4_init_79 rfl ?_
  refine ZX.w (h' := wS30) rfl ?_
  refine ZX.callO (b := 65) (As := []) dX4_init_80 mkX3_init csX4_41 (fun _ _ _ q => q) XOO.moved c_Z_Sheet3 (by omega) rfl rfl (Nat.le_of_ble_eq_true rfl) ⟨Or.inr ⟨rfl, rfl⟩, by decide, by decide, fun r_ h_ p_ => ?_⟩
  obtain ⟨rfl, rfl⟩ := p_
  refine ZX.aastS dX4_init_83 (a := 58) (v := 65) (k := 3) rfl rfl (by decide +kernel) (by unfold vp_in; decide +kernel) rfl ?_
  refine ZX.iinc dX4_init_84 rfl (by decide) rfl ?_
  refine ZX.goto 66 dX4_init_87 (by decide) ?_
  refine ZX.iload_n dX4_init_66 rfl ?_
  refine ZX.iconst 4 dX4_init_67 rfl ?_
  refine ZX.icmp_ge 90 dX4_init_68 (by decide) (fun _ => ?_) (fun h_ => absurd (by decide +kernel) h_)
  refine ZX.aload_n dX4_init_90 rfl ?_
  refine ZX.iconst 0 dX4_init_91 rfl ?_
  refine ZX.putf dX4_init_92 fpX4_42 (o := 0) rfl (by decide) (fun _ => ⟨rfl, rfl⟩) ?_
  exact ZX.vret dX4_init_95 rfl ⟨by decide, by decide⟩ ⟨rfl, rfl⟩
def wM0 : zH := [
  .inr (4, [.ref 1, .ref 14, .ref 26, .ref 38, .ref 58, .int 0]),
  .inr (2, [.ref 2, .ref 8, .ref 13]),
  .inl (.array .int, 5, .inr (.inr [some 3, some 4, some 5, some 6, some 7])),
  .inl (.int, 3, .inl (zflf 3 20 (fun _ => 0))),
  .inl (.int, 3, .inl (fun _ => 0)),
  .inl (.int, 3, .inl (fun _ => 0)),
  .inl (.int, 3, .inl (fun _ => 0)),
  .inl (.int, 3, .inl (fun _ => 0)),
  .inl (.array .int, 4, .inr (.inr [some 9, some 10, some 11, some 12])),
  .inl (.int, 9, .inl (fun _ => 0)),
  .inl (.int, 9, .inl (fun _ => 0)),
  .inl (.int, 9, .inl (fun _ => 0)),
  .inl (.int, 9, .inl (fun _ => 0)),
  .inl (.int, 3, .inl (fun _ => 0)),
  .inr (0, [.ref 1, .ref 15, .ref 16, .ref 17, .ref 18, .ref 19, .ref 20, .ref 21, .ref 22, .ref 23, .ref 24, .ref 25, .int 0, .int 0, .int 0, .int 0, .int (-1), .int 1]),
  .inl (.int, 3, .inl (fun _ => 0)),
  .inl (.int, 9, .inl (fun _ => 0)),
  .inl (.int, 9, .inl (fun _ => 0)),
  .inl (.int, 9, .inl (fun _ => 0)),
  .inl (.int, 9, .inl (fun _ => 0)),
  .inl (.int, 9, .inl (fun _ => 0)),
  .inl (.int, 27, .inl (fun _ => 0)),
  .inl (.int, 27, .inl (fun _ => 0)),
  .inl (.int, 9, .inl (fun _ => 0)),
  .inl (.int, 3, .inl (fun _ => 0)),
  .inl (.int, 3, .inl (fun _ => 0)),
  .inr (0, [.ref 1, .ref 27, .ref 28, .ref 29, .ref 30, .ref 31, .ref 32, .ref 33, .ref 34, .ref 35, .ref 36, .ref 37, .int 0, .int 0, .int 0, .int 0, .int (-1), .int 1]),
  .inl (.int, 3, .inl (fun _ => 0)),
  .inl (.int, 9, .inl (fun _ => 0)),
  .inl (.int, 9, .inl (fun _ => 0)),
  .inl (.int, 9, .inl (fun _ => 0)),
  .inl (.int, 9, .inl (fun _ => 0)),
  .inl (.int, 9, .inl (fun _ => 0)),
  .inl (.int, 27, .inl (fun _ => 0)),
  .inl (.int, 27, .inl (fun _ => 0)),
  .inl (.int, 9, .inl (fun _ => 0)),
  .inl (.int, 3, .inl (fun _ => 0)),
  .inl (.int, 3, .inl (fun _ => 0)),
  .inr (1, [.int 0, .int 0, .ref 39, .ref 40, .ref 43, .ref 44, .ref 45, .ref 46, .ref 47, .ref 57]),
  .inl (.int, 2, .inl (zflf 2 0 (fun _ => 0))),
  .inl (.array .int, 2, .inr (.inr [some 41, some 42])),
  .inl (.int, 300, .inl (zflf 300 (-1) (fun _ => 0))),
  .inl (.int, 300, .inl (zflf 300 (-1) (fun _ => 0))),
  .inl (.int, 9, .inl (zflf 9 (-1) (fun _ => 0))),
  .inl (.int, 9, .inl (zflf 9 (-1) (fun _ => 0))),
  .inl (.int, 9, .inl (zflf 9 0 (fun _ => 0))),
  .inl (.int, 9, .inl (zflf 9 0 (fun _ => 0))),
  .inl (.array .int, 9, .inr (.inr [some 48, some 49, some 50, some 51, some 52, some 53, some 54, some 55, some 56])),
  .inl (.int, 60, .inl (fun _ => 0)),
  .inl (.int, 60, .inl (fun _ => 0)),
  .inl (.int, 60, .inl (fun _ => 0)),
  .inl (.int, 60, .inl (fun _ => 0)),
  .inl (.int, 60, .inl (fun _ => 0)),
  .inl (.int, 60, .inl (fun _ => 0)),
  .inl (.int, 60, .inl (fun _ => 0)),
  .inl (.int, 60, .inl (fun _ => 0)),
  .inl (.int, 60, .inl (fun _ => 0)),
  .inl (.int, 3, .inl (fun _ => 0)),
  .inl (.object "OffsetChains$Sheet", 4, .inr (.inr [some 59, some 61, some 63, some 65])),
  .inr (3, [.int 1, .int 0, .int 0, .ref 60]),
  .inl (.long, 60, .inr (.inl (fun _ => 0))),
  .inr (3, [.int 1, .int 0, .int 0, .ref 62]),
  .inl (.long, 60, .inr (.inl (fun _ => 0))),
  .inr (3, [.int 1, .int 0, .int 0, .ref 64]),
  .inl (.long, 60, .inr (.inl (fun _ => 0))),
  .inr (3, [.int 1, .int 0, .int 0, .ref 66]),
  .inl (.long, 60, .inr (.inl (fun _ => 0))),
  .inr (5, [.null, .null, .null, .null, .int 0, .null, .null, .null, .null, .null, .null, .null, .null, .null, .null, .long 0, .long 0, .null, .null, .int 0, .int 0, .int 0, .int 0, .null, .null, .null, .null, .int 0, .int 0, .null, .null, .null, .null, .null, .null, .int 0])]
def wMn : zH := [
  .inr (4, [.ref 1, .ref 14, .ref 26, .ref 38, .ref 58, .int 0]),
  .inr (2, [.ref 2, .ref 8, .ref 13]),
  .inl (.array .int, 5, .inr (.inr [some 3, some 4, some 5, some 6, some 7])),
  .inl (.int, 3, .inl (zflf 3 20 (fun _ => 0))),
  .inl (.int, 3, .inl (fun _ => 0)),
  .inl (.int, 3, .inl (fun _ => 0)),
  .inl (.int, 3, .inl (fun _ => 0)),
  .inl (.int, 3, .inl (fun _ => 0)),
  .inl (.array .int, 4, .inr (.inr [some 9, some 10, some 11, some 12])),
  .inl (.int, 9, .inl (fun _ => 0)),
  .inl (.int, 9, .inl (fun _ => 0)),
  .inl (.int, 9, .inl (fun _ => 0)),
  .inl (.int, 9, .inl (fun _ => 0)),
  .inl (.int, 3, .inl (fun _ => 0)),
  .inr (0, [.ref 1, .ref 15, .ref 16, .ref 17, .ref 18, .ref 19, .ref 20, .ref 21, .ref 22, .ref 23, .ref 24, .ref 25, .int 0, .int 0, .int 0, .int 0, .int (-1), .int 1]),
  .inl (.int, 3, .inl (fun _ => 0)),
  .inl (.int, 9, .inl (fun _ => 0)),
  .inl (.int, 9, .inl (fun _ => 0)),
  .inl (.int, 9, .inl (fun _ => 0)),
  .inl (.int, 9, .inl (fun _ => 0)),
  .inl (.int, 9, .inl (fun _ => 0)),
  .inl (.int, 27, .inl (fun _ => 0)),
  .inl (.int, 27, .inl (fun _ => 0)),
  .inl (.int, 9, .inl (fun _ => 0)),
  .inl (.int, 3, .inl (fun _ => 0)),
  .inl (.int, 3, .inl (fun _ => 0)),
  .inr (0, [.ref 1, .ref 27, .ref 28, .ref 29, .ref 30, .ref 31, .ref 32, .ref 33, .ref 34, .ref 35, .ref 36, .ref 37, .int 0, .int 0, .int 0, .int 0, .int (-1), .int 1]),
  .inl (.int, 3, .inl (fun _ => 0)),
  .inl (.int, 9, .inl (fun _ => 0)),
  .inl (.int, 9, .inl (fun _ => 0)),
  .inl (.int, 9, .inl (fun _ => 0)),
  .inl (.int, 9, .inl (fun _ => 0)),
  .inl (.int, 9, .inl (fun _ => 0)),
  .inl (.int, 27, .inl (fun _ => 0)),
  .inl (.int, 27, .inl (fun _ => 0)),
  .inl (.int, 9, .inl (fun _ => 0)),
  .inl (.int, 3, .inl (fun _ => 0)),
  .inl (.int, 3, .inl (fun _ => 0)),
  .inr (1, [.int 0, .int 0, .ref 39, .ref 40, .ref 43, .ref 44, .ref 45, .ref 46, .ref 47, .ref 57]),
  .inl (.int, 2, .inl (zflf 2 0 (fun _ => 0))),
  .inl (.array .int, 2, .inr (.inr [some 41, some 42])),
  .inl (.int, 300, .inl (zflf 300 (-1) (fun _ => 0))),
  .inl (.int, 300, .inl (zflf 300 (-1) (fun _ => 0))),
  .inl (.int, 9, .inl (zflf 9 (-1) (fun _ => 0))),
  .inl (.int, 9, .inl (zflf 9 (-1) (fun _ => 0))),
  .inl (.int, 9, .inl (zflf 9 0 (fun _ => 0))),
  .inl (.int, 9, .inl (zflf 9 0 (fun _ => 0))),
  .inl (.array .int, 9, .inr (.inr [some 48, some 49, some 50, some 51, some 52, some 53, some 54, some 55, some 56])),
  .inl (.int, 60, .inl (fun _ => 0)),
  .inl (.int, 60, .inl (fun _ => 0)),
  .inl (.int, 60, .inl (fun _ => 0)),
  .inl (.int, 60, .inl (fun _ => 0)),
  .inl (.int, 60, .inl (fun _ => 0)),
  .inl (.int, 60, .inl (fun _ => 0)),
  .inl (.int, 60, .inl (fun _ => 0)),
  .inl (.int, 60, .inl (fun _ => 0)),
  .inl (.int, 60, .inl (fun _ => 0)),
  .inl (.int, 3, .inl (fun _ => 0)),
  .inl (.object "OffsetChains$Sheet", 4, .inr (.inr [some 59, some 61, some 63, some 65])),
  .inr (3, [.int 1, .int 0, .int 0, .ref 60]),
  .inl (.long, 60, .inr (.inl (fun _ => 0))),
  .inr (3, [.int 1, .int 0, .int 0, .ref 62]),
  .inl (.long, 60, .inr (.inl (fun _ => 0))),
  .inr (3, [.int 1, .int 0, .int 0, .ref 64]),
  .inl (.long, 60, .inr (.inl (fun _ => 0))),
  .inr (3, [.int 1, .int 0, .int 0, .ref 66]),
  .inl (.long, 60, .inr (.inl (fun _ => 0))),
  .inr (5, [.ref 68, .ref 69, .ref 70, .ref 71, .int 0, .ref 72, .ref 73, .ref 74, .ref 75, .ref 76, .ref 77, .ref 78, .ref 79, .ref 80, .ref 81, .long 0, .long 0, .ref 82, .ref 83, .int 0, .int 0, .int 0, .int 0, .ref 84, .ref 85, .ref 86, .ref 87, .int 0, .int 0, .ref 88, .ref 89, .ref 90, .ref 91, .ref 92, .ref 93, .int 0]),
  .inl (.int, 4, .inl (fun _ => 0)),
  .inl (.int, 4, .inl (fun _ => 0)),
  .inl (.long, 240, .inr (.inl (fun _ => 0))),
  .inl (.long, 60, .inr (.inl (fun _ => 0))),
  .inl (.int, 3, .inl (fun _ => 0)),
  .inl (.int, 3, .inl (fun _ => 0)),
  .inl (.int, 3, .inl (fun _ => 0)),
  .inl (.int, 3, .inl (fun _ => 0)),
  .inl (.int, 3, .inl (fun _ => 0)),
  .inl (.int, 3, .inl (fun _ => 0)),
  .inl (.int, 9, .inl (fun _ => 0)),
  .inl (.int, 9, .inl (fun _ => 0)),
  .inl (.int, 9, .inl (fun _ => 0)),
  .inl (.int, 9, .inl (fun _ => 0)),
  .inl (.int, 9, .inl (fun _ => 0)),
  .inl (.int, 3, .inl (fun _ => 0)),
  .inl (.int, 9, .inl (fun _ => 0)),
  .inl (.int, 9, .inl (fun _ => 0)),
  .inl (.int, 9, .inl (fun _ => 0)),
  .inl (.int, 9, .inl (fun _ => 0)),
  .inl (.int, 576, .inl (fun _ => 0)),
  .inl (.int, 576, .inl (fun _ => 0)),
  .inl (.int, 9, .inl (fun _ => 0)),
  .inl (.int, 9, .inl (fun _ => 0)),
  .inl (.int, 9, .inl (fun _ => 0)),
  .inl (.int, 600, .inl (fun _ => 0))]
def wM1 : zH := [
  .inr (4, [.ref 1, .ref 14, .ref 26, .ref 38, .ref 58, .int 0]),
  .inr (2, [.ref 2, .ref 8, .ref 13]),
  .inl (.array .int, 5, .inr (.inr [some 3, some 4, some 5, some 6, some 7])),
  .inl (.int, 3, .inl (zflf 3 20 (fun _ => 0))),
  .inl (.int, 3, .inl (fun _ => 0)),
  .inl (.int, 3, .inl (fun _ => 0)),
  .inl (.int, 3, .inl (fun _ => 0)),
  .inl (.int, 3, .inl (fun _ => 0)),
  .inl (.array .int, 4, .inr (.inr [some 9, some 10, some 11, some 12])),
  .inl (.int, 9, .inl (fun _ => 0)),
  .inl (.int, 9, .inl (fun _ => 0)),
  .inl (.int, 9, .inl (fun _ => 0)),
  .inl (.int, 9, .inl (fun _ => 0)),
  .inl (.int, 3, .inl (fun _ => 0)),
  .inr (0, [.ref 1, .ref 15, .ref 16, .ref 17, .ref 18, .ref 19, .ref 20, .ref 21, .ref 22, .ref 23, .ref 24, .ref 25, .int 0, .int 0, .int 0, .int 0, .int (-1), .int 1]),
  .inl (.int, 3, .inl (fun _ => 0)),
  .inl (.int, 9, .inl (fun _ => 0)),
  .inl (.int, 9, .inl (fun _ => 0)),
  .inl (.int, 9, .inl (fun _ => 0)),
  .inl (.int, 9, .inl (fun _ => 0)),
  .inl (.int, 9, .inl (fun _ => 0)),
  .inl (.int, 27, .inl (fun _ => 0)),
  .inl (.int, 27, .inl (fun _ => 0)),
  .inl (.int, 9, .inl (fun _ => 0)),
  .inl (.int, 3, .inl (fun _ => 0)),
  .inl (.int, 3, .inl (fun _ => 0)),
  .inr (0, [.ref 1, .ref 27, .ref 28, .ref 29, .ref 30, .ref 31, .ref 32, .ref 33, .ref 34, .ref 35, .ref 36, .ref 37, .int 0, .int 0, .int 0, .int 0, .int (-1), .int 1]),
  .inl (.int, 3, .inl (fun _ => 0)),
  .inl (.int, 9, .inl (fun _ => 0)),
  .inl (.int, 9, .inl (fun _ => 0)),
  .inl (.int, 9, .inl (fun _ => 0)),
  .inl (.int, 9, .inl (fun _ => 0)),
  .inl (.int, 9, .inl (fun _ => 0)),
  .inl (.int, 27, .inl (fun _ => 0)),
  .inl (.int, 27, .inl (fun _ => 0)),
  .inl (.int, 9, .inl (fun _ => 0)),
  .inl (.int, 3, .inl (fun _ => 0)),
  .inl (.int, 3, .inl (fun _ => 0)),
  .inr (1, [.int 0, .int 0, .ref 39, .ref 40, .ref 43, .ref 44, .ref 45, .ref 46, .ref 47, .ref 57]),
  .inl (.int, 2, .inl (zflf 2 0 (fun _ => 0))),
  .inl (.array .int, 2, .inr (.inr [some 41, some 42])),
  .inl (.int, 300, .inl (zflf 300 (-1) (fun _ => 0))),
  .inl (.int, 300, .inl (zflf 300 (-1) (fun _ => 0))),
  .inl (.int, 9, .inl (zflf 9 (-1) (fun _ => 0))),
  .inl (.int, 9, .inl (zflf 9 (-1) (fun _ => 0))),
  .inl (.int, 9, .inl (zflf 9 0 (fun _ => 0))),
  .inl (.int, 9, .inl (zflf 9 0 (fun _ => 0))),
  .inl (.array .int, 9, .inr (.inr [some 48, some 49, some 50, some 51, some 52, some 53, some 54, some 55, some 56])),
  .inl (.int, 60, .inl (fun _ => 0)),
  .inl (.int, 60, .inl (fun _ => 0)),
  .inl (.int, 60, .inl (fun _ => 0)),
  .inl (.int, 60, .inl (fun _ => 0)),
  .inl (.int, 60, .inl (fun _ => 0)),
  .inl (.int, 60, .inl (fun _ => 0)),
  .inl (.int, 60, .inl (fun _ => 0)),
  .inl (.int, 60, .inl (fun _ => 0)),
  .inl (.int, 60, .inl (fun _ => 0)),
  .inl (.int, 3, .inl (fun _ => 0)),
  .inl (.object "OffsetChains$Sheet", 4, .inr (.inr [some 59, some 61, some 63, some 65])),
  .inr (3, [.int 1, .int 0, .int 0, .ref 60]),
  .inl (.long, 60, .inr (.inl (fun _ => 0))),
  .inr (3, [.int 1, .int 0, .int 0, .ref 62]),
  .inl (.long, 60, .inr (.inl (fun _ => 0))),
  .inr (3, [.int 1, .int 0, .int 0, .ref 64]),
  .inl (.long, 60, .inr (.inl (fun _ => 0))),
  .inr (3, [.int 1, .int 0, .int 0, .ref 66]),
  .inl (.long, 60, .inr (.inl (fun _ => 0))),
  .inr (5, [.ref 68, .ref 69, .ref 70, .ref 71, .int 0, .ref 72, .ref 73, .ref 74, .ref 75, .ref 76, .ref 77, .ref 78, .ref 79, .ref 80, .ref 81, .long 0, .long 0, .ref 82, .ref 83, .int 0, .int 0, .int 0, .int 0, .ref 84, .ref 85, .ref 86, .ref 87, .int 0, .int 0, .ref 88, .ref 89, .ref 90, .ref 91, .ref 92, .ref 93, .int 0]),
  .inl (.int, 4, .inl (zflf 4 (-1) (fun _ => 0))),
  .inl (.int, 4, .inl (fun _ => 0)),
  .inl (.long, 240, .inr (.inl (fun _ => 0))),
  .inl (.long, 60, .inr (.inl (fun _ => 0))),
  .inl (.int, 3, .inl (zflf 3 20 (fun _ => 0))),
  .inl (.int, 3, .inl (fun _ => 0)),
  .inl (.int, 3, .inl (fun _ => 0)),
  .inl (.int, 3, .inl (fun _ => 0)),
  .inl (.int, 3, .inl (fun _ => 0)),
  .inl (.int, 3, .inl (fun _ => 0)),
  .inl (.int, 9, .inl (fun _ => 0)),
  .inl (.int, 9, .inl (fun _ => 0)),
  .inl (.int, 9, .inl (fun _ => 0)),
  .inl (.int, 9, .inl (fun _ => 0)),
  .inl (.int, 9, .inl (fun _ => 0)),
  .inl (.int, 3, .inl (fun _ => 0)),
  .inl (.int, 9, .inl (fun _ => 0)),
  .inl (.int, 9, .inl (fun _ => 0)),
  .inl (.int, 9, .inl (fun _ => 0)),
  .inl (.int, 9, .inl (fun _ => 0)),
  .inl (.int, 576, .inl (fun _ => 0)),
  .inl (.int, 576, .inl (fun _ => 0)),
  .inl (.int, 9, .inl (zflf 9 (-1) (fun _ => 0))),
  .inl (.int, 9, .inl (zflf 9 (-1) (fun _ => 0))),
  .inl (.int, 9, .inl (fun _ => 0)),
  .inl (.int, 600, .inl (fun _ => 0))]
set_option maxHeartbeats 4000000 in
set_option maxRecDepth 20000 in
theorem c_Z_Model : zCO XOO 26 2189 1 μX5_init [.ref 67] wM0 (fun r h' => r = none ∧ h' = wM1) := by
  refine zCO.of (by decide +kernel) (Nat.le_of_ble_eq_true rfl) (fun d hd => ?_)
  refine ZX.aload_n dX5_init_0 rfl ?_
  refine ZX.objI dX5_init_1 ⟨zWd_in 650 (by decide +kernel) rfl, zWd_in 88 (by decide +kernel) rfl, zWd_in 89 (by decide +kernel) rfl⟩ (by omega) (Nat.le_of_ble_eq_true rfl) ?_
  refine ZX.aload_n dX5_init_4 rfl ?_
  refine ZX.iconst 4 dX5_init_5 rfl ?_
  refine ZX.newI' 68 4 dX5_init_6 (by decide +kernel) (by decide +kernel) rfl (by decide) rfl rfl rfl ?_
  refine ZX.putF dX5_init_8 fpX5_7 rfl (o := 67) rfl (by decide) (fun _ => ⟨rfl, rfl⟩) ?_
  refine ZX.aload_n dX5_init_11 rfl ?_
  refine ZX.iconst 4 dX5_init_12 rfl ?_
  refine ZX.newI' 69 4 dX5_init_13 (by decide +kernel) (by decide +kernel) rfl (by decide) rfl rfl rfl ?_
  refine ZX.putF dX5_init_15 fpX5_13 rfl (o := 67) rfl (by decide) (fun _ => ⟨rfl, rfl⟩) ?_
  refine ZX.aload_n dX5_init_18 rfl ?_
  refine ZX.sipush 240 dX5_init_19 rfl ?_
  refine ZX.newL' 70 240 dX5_init_22 (by decide +kernel) (by decide +kernel) rfl (by decide) rfl rfl rfl ?_
  refine ZX.putF dX5_init_24 fpX5_16 rfl (o := 67) rfl (by decide) (fun _ => ⟨rfl, rfl⟩) ?_
  refine ZX.aload_n dX5_init_27 rfl ?_
  refine ZX.bipush 60 dX5_init_28 rfl ?_
  refine ZX.newL' 71 60 dX5_init_30 (by decide +kernel) (by decide +kernel) rfl (by decide) rfl rfl rfl ?_
  refine ZX.putF dX5_init_32 fpX5_20 rfl (o := 67) rfl (by decide) (fun _ => ⟨rfl, rfl⟩) ?_
  refine ZX.aload_n dX5_init_35 rfl ?_
  refine ZX.iconst 3 dX5_init_36 rfl ?_
  refine ZX.newI' 72 3 dX5_init_37 (by decide +kernel) (by decide +kernel) rfl (by decide) rfl rfl rfl ?_
  refine ZX.putF dX5_init_39 fpX5_23 rfl (o := 67) rfl (by decide) (fun _ => ⟨rfl, rfl⟩) ?_
  refine ZX.aload_n dX5_init_42 rfl ?_
  refine ZX.iconst 3 dX5_init_43 rfl ?_
  refine ZX.newI' 73 3 dX5_init_44 (by decide +kernel) (by decide +kernel) rfl (by decide) rfl rfl rfl ?_
  refine ZX.putF dX5_init_46 fpX5_26 rfl (o := 67) rfl (by decide) (fun _ => ⟨rfl, rfl⟩) ?_
  refine ZX.aload_n dX5_init_49 rfl ?_
  refine ZX.iconst 3 dX5_init_50 rfl ?_
  refine ZX.newI' 74 3 dX5_init_51 (by decide +kernel) (by decide +kernel) rfl (by decide) rfl rfl rfl ?_
  refine ZX.putF dX5_init_53 fpX5_29 rfl (o := 67) rfl (by decide) (fun _ => ⟨rfl, rfl⟩) ?_
  refine ZX.aload_n dX5_init_56 rfl ?_
  refine ZX.iconst 3 dX5_init_57 rfl ?_
  refine ZX.newI' 75 3 dX5_init_58 (by decide +kernel) (by decide +kernel) rfl (by decide) rfl rfl rfl ?_
  refine ZX.putF dX5_init_60 fpX5_32 rfl (o := 67) rfl (by decide) (fun _ => ⟨rfl, rfl⟩) ?_
  refine ZX.aload_n dX5_init_63 rfl ?_
  refine ZX.iconst 3 dX5_init_64 rfl ?_
  refine ZX.newI' 76 3 dX5_init_65 (by decide +kernel) (by decide +kernel) rfl (by decide) rfl rfl rfl ?_
  refine ZX.putF dX5_init_67 fpX5_35 rfl (o := 67) rfl (by decide) (fun _ => ⟨rfl, rfl⟩) ?_
  refine ZX.aload_n dX5_init_70 rfl ?_
  refine ZX.iconst 3 dX5_init_71 rfl ?_
  refine ZX.newI' 77 3 dX5_init_72 (by decide +kernel) (by decide +kernel) rfl (by decide) rfl rfl rfl ?_
  refine ZX.putF dX5_init_74 fpX5_38 rfl (o := 67) rfl (by decide) (fun _ => ⟨rfl, rfl⟩) ?_
  refine ZX.aload_n dX5_init_77 rfl ?_
  refine ZX.bipush 9 dX5_init_78 rfl ?_
  refine ZX.newI' 78 9 dX5_init_80 (by decide +kernel) (by decide +kernel) rfl (by decide) rfl rfl rfl ?_
  refine ZX.putF dX5_init_82 fpX5_41 rfl (o := 67) rfl (by decide) (fun _ => ⟨rfl, rfl⟩) ?_
  refine ZX.aload_n dX5_init_85 rfl ?_
  refine ZX.bipush 9 dX5_init_86 rfl ?_
  refine ZX.newI' 79 9 dX5_init_88 (by decide +kernel) (by decide +kernel) rfl (by decide) rfl rfl rfl ?_
  refine ZX.putF dX5_init_90 fpX5_44 rfl (o := 67) rfl (by decide) (fun _ => ⟨rfl, rfl⟩) ?_
  refine ZX.aload_n dX5_init_93 rfl ?_
  refine ZX.bipush 9 dX5_init_94 rfl ?_
  refine ZX.newI' 80 9 dX5_init_96 (by decide +kernel) (by decide +kernel) rfl (by decide) rfl rfl rfl ?_
  refine ZX.putF dX5_init_98 fpX5_47 rfl (o := 67) rfl (by decide) (fun _ => ⟨rfl, rfl⟩) ?_
  refine ZX.aload_n dX5_init_101 rfl ?_
  refine ZX.bipush 9 dX5_init_102 rfl ?_
  refine ZX.newI' 81 9 dX5_init_104 (by decide +kernel) (by decide +kernel) rfl (by decide) rfl rfl rfl ?_
  refine ZX.putF dX5_init_106 fpX5_50 rfl (o := 67) rfl (by decide) (fun _ => ⟨rfl, rfl⟩) ?_
  refine ZX.aload_n dX5_init_109 rfl ?_
  refine ZX.bipush 9 dX5_init_110 rfl ?_
  refine ZX.newI' 82 9 dX5_init_112 (by decide +kernel) (by decide +kernel) rfl (by decide) rfl rfl rfl ?_
  refine ZX.putF dX5_init_114 fpX5_53 rfl (o := 67) rfl (by decide) (fun _ => ⟨rfl, rfl⟩) ?_
  refine ZX.aload_n dX5_init_117 rfl ?_
  refine ZX.iconst 3 dX5_init_118 rfl ?_
  refine ZX.newI' 83 3 dX5_init_119 (by decide +kernel) (by decide +kernel) rfl (by decide) rfl rfl rfl ?_
  refine ZX.putF dX5_init_121 fpX5_56 rfl (o := 67) rfl (by decide) (fun _ => ⟨rfl, rfl⟩) ?_
  refine ZX.aload_n dX5_init_124 rfl ?_
  refine ZX.bipush 9 dX5_init_125 rfl ?_
  refine ZX.newI' 84 9 dX5_init_127 (by decide +kernel) (by decide +kernel) rfl (by decide) rfl rfl rfl ?_
  refine ZX.putF dX5_init_129 fpX5_59 rfl (o := 67) rfl (by decide) (fun _ => ⟨rfl, rfl⟩) ?_
  refine ZX.aload_n dX5_init_132 rfl ?_
  refine ZX.bipush 9 dX5_init_133 rfl ?_
  refine ZX.newI' 85 9 dX5_init_135 (by decide +kernel) (by decide +kernel) rfl (by decide) rfl rfl rfl ?_
  refine ZX.putF dX5_init_137 fpX5_62 rfl (o := 67) rfl (by decide) (fun _ => ⟨rfl, rfl⟩) ?_
  refine ZX.aload_n dX5_init_140 rfl ?_
  refine ZX.bipush 9 dX5_init_141 rfl ?_
  refine ZX.newI' 86 9 dX5_init_143 (by decide +kernel) (by decide +kernel) rfl (by decide) rfl rfl rfl ?_
  refine ZX.putF dX5_init_145 fpX5_65 rfl (o := 67) rfl (by decide) (fun _ => ⟨rfl, rfl⟩) ?_
  refine ZX.aload_n dX5_init_148 rfl ?_
  refine ZX.bipush 9 dX5_init_149 rfl ?_
  refine ZX.newI' 87 9 dX5_init_151 (by decide +kernel) (by decide +kernel) rfl (by decide) rfl rfl rfl ?_
  refine ZX.putF dX5_init_153 fpX5_68 rfl (o := 67) rfl (by decide) (fun _ => ⟨rfl, rfl⟩) ?_
  refine ZX.aload_n dX5_init_156 rfl ?_
  refine ZX.sipush 576 dX5_init_157 rfl ?_
  refine ZX.newI' 88 576 dX5_init_160 (by decide +kernel) (by decide +kernel) rfl (by decide) rfl rfl rfl ?_
  refine ZX.putF dX5_init_162 fpX5_71 rfl (o := 67) rfl (by decide) (fun _ => ⟨rfl, rfl⟩) ?_
  refine ZX.aload_n dX5_init_165 rfl ?_
  refine ZX.sipush 576 dX5_init_166 rfl ?_
  refine ZX.newI' 89 576 dX5_init_169 (by decide +kernel) (by decide +kernel) rfl (by decide) rfl rfl rfl ?_
  refine ZX.putF dX5_init_171 fpX5_74 rfl (o := 67) rfl (by decide) (fun _ => ⟨rfl, rfl⟩) ?_
  refine ZX.aload_n dX5_init_174 rfl ?_
  refine ZX.bipush 9 dX5_init_175 rfl ?_
  refine ZX.newI' 90 9 dX5_init_177 (by decide +kernel) (by decide +kernel) rfl (by decide) rfl rfl rfl ?_
  refine ZX.putF dX5_init_179 fpX5_77 rfl (o := 67) rfl (by decide) (fun _ => ⟨rfl, rfl⟩) ?_
  refine ZX.aload_n dX5_init_182 rfl ?_
  refine ZX.bipush 9 dX5_init_183 rfl ?_
  refine ZX.newI' 91 9 dX5_init_185 (by decide +kernel) (by decide +kernel) rfl (by decide) rfl rfl rfl ?_
  refine ZX.putF dX5_init_187 fpX5_80 rfl (o := 67) rfl (by decide) (fun _ => ⟨rfl, rfl⟩) ?_
  refine ZX.aload_n dX5_init_190 rfl ?_
  refine ZX.bipush 9 dX5_init_191 rfl ?_
  refine ZX.newI' 92 9 dX5_init_193 (by decide +kernel) (by decide +kernel) rfl (by decide) rfl rfl rfl ?_
  refine ZX.putF dX5_init_195 fpX5_83 rfl (o := 67) rfl (by decide) (fun _ => ⟨rfl, rfl⟩) ?_
  refine ZX.aload_n dX5_init_198 rfl ?_
  refine ZX.sipush 600 dX5_init_199 rfl ?_
  refine ZX.newI' 93 600 dX5_init_202 (by decide +kernel) (by decide +kernel) rfl (by decide) rfl rfl rfl ?_
  refine ZX.putF dX5_init_204 fpX5_86 rfl (o := 67) rfl (by decide) (fun _ => ⟨rfl, rfl⟩) ?_
  refine ZX.w (h' := wMn) rfl ?_
  refine ZX.iconst 0 dX5_init_207 rfl ?_
  refine ZX.istore_n dX5_init_208 (by decide) rfl ?_
  refine ZX.iload_n dX5_init_209 rfl ?_
  refine ZX.iconst 4 dX5_init_210 rfl ?_
  refine ZX.icmp_ge 227 dX5_init_211 (by decide) (fun h_ => absurd h_ (by decide +kernel)) (fun _ => ?_)
  refine ZX.aload_n dX5_init_214 rfl ?_
  refine ZX.getf dX5_init_215 flX5_7 (o := 67) rfl rfl ?_
  refine ZX.iload_n dX5_init_218 rfl ?_
  refine ZX.iconst (-1) dX5_init_219 rfl ?_
  refine ZX.iastf 0 1 dX5_init_220 (a := 68) (f := fun _ => 0) rfl (by decide +kernel) rfl (by unfold vp_in; decide +kernel) ?_
  refine ZX.iinc dX5_init_221 rfl (by decide) rfl ?_
  refine ZX.goto 209 dX5_init_224 (by decide) ?_
  refine ZX.iload_n dX5_init_209 rfl ?_
  refine ZX.iconst 4 dX5_init_210 rfl ?_
  refine ZX.icmp_ge 227 dX5_init_211 (by decide) (fun h_ => absurd h_ (by decide +kernel)) (fun _ => ?_)
  refine ZX.aload_n dX5_init_214 rfl ?_
  refine ZX.getf dX5_init_215 flX5_7 (o := 67) rfl rfl ?_
  refine ZX.iload_n dX5_init_218 rfl ?_
  refine ZX.iconst (-1) dX5_init_219 rfl ?_
  refine ZX.iastf 1 2 dX5_init_220 (a := 68) (f := fun _ => 0) rfl (by decide +kernel) rfl (by unfold vp_in; decide +kernel) ?_
  refine ZX.iinc dX5_init_221 rfl (by decide) rfl ?_
  refine ZX.goto 209 dX5_init_224 (by decide) ?_
  refine ZX.iload_n dX5_init_209 rfl ?_
  refine ZX.iconst 4 dX5_init_210 rfl ?_
  refine ZX.icmp_ge 227 dX5_init_211 (by decide) (fun h_ => absurd h_ (by decide +kernel)) (fun _ => ?_)
  refine ZX.aload_n dX5_init_214 rfl ?_
  refine ZX.getf dX5_init_215 flX5_7 (o := 67) rfl rfl ?_
  refine ZX.iload_n dX5_init_218 rfl ?_
  refine ZX.iconst (-1) dX5_init_219 rfl ?_
  refine ZX.iastf 2 3 dX5_init_220 (a := 68) (f := fun _ => 0) rfl (by decide +kernel) rfl (by unfold vp_in; decide +kernel) ?_
  refine ZX.iinc dX5_init_221 rfl (by decide) rfl ?_
  refine ZX.goto 209 dX5_init_224 (by decide) ?_
  refine ZX.iload_n dX5_init_209 rfl ?_
  refine ZX.iconst 4 dX5_init_210 rfl ?_
  refine ZX.icmp_ge 227 dX5_init_211 (by decide) (fun h_ => absurd h_ (by decide +kernel)) (fun _ => ?_)
  refine ZX.aload_n dX5_init_214 rfl ?_
  refine ZX.getf dX5_init_215 flX5_7 (o := 67) rfl rfl ?_
  refine ZX.iload_n dX5_init_218 rfl ?_
  refine ZX.iconst (-1) dX5_init_219 rfl ?_
  refine ZX.iastf 3 4 dX5_init_220 (a := 68) (f := fun _ => 0) rfl (by decide +kernel) rfl (by unfold vp_in; decide +kernel) ?_
  refine ZX.iinc dX5_init_221 rfl (by decide) rfl ?_
  refine ZX.goto 209 dX5_init_224 (by decide) ?_
  refine ZX.iload_n dX5_init_209 rfl ?_
  refine ZX.iconst 4 dX5_init_210 rfl ?_
  refine ZX.icmp_ge 227 dX5_init_211 (by decide) (fun _ => ?_) (fun h_ => absurd (by decide +kernel) h_)
  refine ZX.iconst 0 dX5_init_227 rfl ?_
  refine ZX.istore_n dX5_init_228 (by decide) rfl ?_
  refine ZX.iload_n dX5_init_229 rfl ?_
  refine ZX.iconst 3 dX5_init_230 rfl ?_
  refine ZX.icmp_ge 248 dX5_init_231 (by decide) (fun h_ => absurd h_ (by decide +kernel)) (fun _ => ?_)
  refine ZX.aload_n dX5_init_234 rfl ?_
  refine ZX.getf dX5_init_235 flX5_23 (o := 67) rfl rfl ?_
  refine ZX.iload_n dX5_init_238 rfl ?_
  refine ZX.bipush 20 dX5_init_239 rfl ?_
  refine ZX.iastf 0 1 dX5_init_241 (a := 72) (f := fun _ => 0) rfl (by decide +kernel) rfl (by unfold vp_in; decide +kernel) ?_
  refine ZX.iinc dX5_init_242 rfl (by decide) rfl ?_
  refine ZX.goto 229 dX5_init_245 (by decide) ?_
  refine ZX.iload_n dX5_init_229 rfl ?_
  refine ZX.iconst 3 dX5_init_230 rfl ?_
  refine ZX.icmp_ge 248 dX5_init_231 (by decide) (fun h_ => absurd h_ (by decide +kernel)) (fun _ => ?_)
  refine ZX.aload_n dX5_init_234 rfl ?_
  refine ZX.getf dX5_init_235 flX5_23 (o := 67) rfl rfl ?_
  refine ZX.iload_n dX5_init_238 rfl ?_
  refine ZX.bipush 20 dX5_init_239 rfl ?_
  refine ZX.iastf 1 2 dX5_init_241 (a := 72) (f := fun _ => 0) rfl (by decide +kernel) rfl (by unfold vp_in; decide +kernel) ?_
  refine ZX.iinc dX5_init_242 rfl (by decide) rfl ?_
  refine ZX.goto 229 dX5_init_245 (by decide) ?_
  refine ZX.iload_n dX5_init_229 rfl ?_
  refine ZX.iconst 3 dX5_init_230 rfl ?_
  refine ZX.icmp_ge 248 dX5_init_231 (by decide) (fun h_ => absurd h_ (by decide +kernel)) (fun _ => ?_)
  refine ZX.aload_n dX5_init_234 rfl ?_
  refine ZX.getf dX5_init_235 flX5_23 (o := 67) rfl rfl ?_
  refine ZX.iload_n dX5_init_238 rfl ?_
  refine ZX.bipush 20 dX5_init_239 rfl ?_
  refine ZX.iastf 2 3 dX5_init_241 (a := 72) (f := fun _ => 0) rfl (by decide +kernel) rfl (by unfold vp_in; decide +kernel) ?_
  refine ZX.iinc dX5_init_242 rfl (by decide) rfl ?_
  refine ZX.goto 229 dX5_init_245 (by decide) ?_
  refine ZX.iload_n dX5_init_229 rfl ?_
  refine ZX.iconst 3 dX5_init_230 rfl ?_
  refine ZX.icmp_ge 248 dX5_init_231 (by decide) (fun _ => ?_) (fun h_ => absurd (by decide +kernel) h_)
  refine ZX.iconst 0 dX5_init_248 rfl ?_
  refine ZX.istore_n dX5_init_249 (by decide) rfl ?_
  refine ZX.iload_n dX5_init_250 rfl ?_
  refine ZX.bipush 9 dX5_init_251 rfl ?_
  refine ZX.icmp_ge 276 dX5_init_253 (by decide) (fun h_ => absurd h_ (by decide +kernel)) (fun _ => ?_)
  refine ZX.aload_n dX5_init_256 rfl ?_
  refine ZX.getf dX5_init_257 flX5_77 (o := 67) rfl rfl ?_
  refine ZX.iload_n dX5_init_260 rfl ?_
  refine ZX.iconst (-1) dX5_init_261 rfl ?_
  refine ZX.iastf 0 1 dX5_init_262 (a := 90) (f := fun _ => 0) rfl (by decide +kernel) rfl (by unfold vp_in; decide +kernel) ?_
  refine ZX.aload_n dX5_init_263 rfl ?_
  refine ZX.getf dX5_init_264 flX5_80 (o := 67) rfl rfl ?_
  refine ZX.iload_n dX5_init_267 rfl ?_
  refine ZX.iconst (-1) dX5_init_268 rfl ?_
  refine ZX.iastf 0 1 dX5_init_269 (a := 91) (f := fun _ => 0) rfl (by decide +kernel) rfl (by unfold vp_in; decide +kernel) ?_
  refine ZX.iinc dX5_init_270 rfl (by decide) rfl ?_
  refine ZX.goto 250 dX5_init_273 (by decide) ?_
  refine ZX.iload_n dX5_init_250 rfl ?_
  refine ZX.bipush 9 dX5_init_251 rfl ?_
  refine ZX.icmp_ge 276 dX5_init_253 (by decide) (fun h_ => absurd h_ (by decide +kernel)) (fun _ => ?_)
  refine ZX.aload_n dX5_init_256 rfl ?_
  refine ZX.getf dX5_init_257 flX5_77 (o := 67) rfl rfl ?_
  refine ZX.iload_n dX5_init_260 rfl ?_
  refine ZX.iconst (-1) dX5_init_261 rfl ?_
  refine ZX.iastf 1 2 dX5_init_262 (a := 90) (f := fun _ => 0) rfl (by decide +kernel) rfl (by unfold vp_in; decide +kernel) ?_
  refine ZX.aload_n dX5_init_263 rfl ?_
  refine ZX.getf dX5_init_264 flX5_80 (o := 67) rfl rfl ?_
  refine ZX.iload_n dX5_init_267 rfl ?_
  refine ZX.iconst (-1) dX5_init_268 rfl ?_
  refine ZX.iastf 1 2 dX5_init_269 (a := 91) (f := fun _ => 0) rfl (by decide +kernel) rfl (by unfold vp_in; decide +kernel) ?_
  refine ZX.iinc dX5_init_270 rfl (by decide) rfl ?_
  refine ZX.goto 250 dX5_init_273 (by decide) ?_
  refine ZX.iload_n dX5_init_250 rfl ?_
  refine ZX.bipush 9 dX5_init_251 rfl ?_
  refine ZX.icmp_ge 276 dX5_init_253 (by decide) (fun h_ => absurd h_ (by decide +kernel)) (fun _ => ?_)
  refine ZX.aload_n dX5_init_256 rfl ?_
  refine ZX.getf dX5_init_257 flX5_77 (o := 67) rfl rfl ?_
  refine ZX.iload_n dX5_init_260 rfl ?_
  refine ZX.iconst (-1) dX5_init_261 rfl ?_
  refine ZX.iastf 2 3 dX5_init_262 (a := 90) (f := fun _ => 0) rfl (by decide +kernel) rfl (by unfold vp_in; decide +kernel) ?_
  refine ZX.aload_n dX5_init_263 rfl ?_
  refine ZX.getf dX5_init_264 flX5_80 (o := 67) rfl rfl ?_
  refine ZX.iload_n dX5_init_267 rfl ?_
  refine ZX.iconst (-1) dX5_init_268 rfl ?_
  refine ZX.iastf 2 3 dX5_init_269 (a := 91) (f := fun _ => 0) rfl (by decide +kernel) rfl (by unfold vp_in; decide +kernel) ?_
  refine ZX.iinc dX5_init_270 rfl (by decide) rfl ?_
  refine ZX.goto 250 dX5_init_273 (by decide) ?_
  refine ZX.iload_n dX5_init_250 rfl ?_
  refine ZX.bipush 9 dX5_init_251 rfl ?_
  refine ZX.icmp_ge 276 dX5_init_253 (by decide) (fun h_ => absurd h_ (by decide +kernel)) (fun _ => ?_)
  refine ZX.aload_n dX5_init_256 rfl ?_
  refine ZX.getf dX5_init_257 flX5_77 (o := 67) rfl rfl ?_
  refine ZX.iload_n dX5_init_260 rfl ?_
  refine ZX.iconst (-1) dX5_init_261 rfl ?_
  refine ZX.iastf 3 4 dX5_init_262 (a := 90) (f := fun _ => 0) rfl (by decide +kernel) rfl (by unfold vp_in; decide +kernel) ?_
  refine ZX.aload_n dX5_init_263 rfl ?_
  refine ZX.getf dX5_init_264 flX5_80 (o := 67) rfl rfl ?_
  refine ZX.iload_n dX5_init_267 rfl ?_
  refine ZX.iconst (-1) dX5_init_268 rfl ?_
  refine ZX.iastf 3 4 dX5_init_269 (a := 91) (f := fun _ => 0) rfl (by decide +kernel) rfl (by unfold vp_in; decide +kernel) ?_
  refine ZX.iinc dX5_init_270 rfl (by decide) rfl ?_
  refine ZX.goto 250 dX5_init_273 (by decide) ?_
  refine ZX.iload_n dX5_init_250 rfl ?_
  refine ZX.bipush 9 dX5_init_251 rfl ?_
  refine ZX.icmp_ge 276 dX5_init_253 (by decide) (fun h_ => absurd h_ (by decide +kernel)) (fun _ => ?_)
  refine ZX.aload_n dX5_init_256 rfl ?_
  refine ZX.getf dX5_init_257 flX5_77 (o := 67) rfl rfl ?_
  refine ZX.iload_n dX5_init_260 rfl ?_
  refine ZX.iconst (-1) dX5_init_261 rfl ?_
  refine ZX.iastf 4 5 dX5_init_262 (a := 90) (f := fun _ => 0) rfl (by decide +kernel) rfl (by unfold vp_in; decide +kernel) ?_
  refine ZX.aload_n dX5_init_263 rfl ?_
  refine ZX.getf dX5_init_264 flX5_80 (o := 67) rfl rfl ?_
  refine ZX.iload_n dX5_init_267 rfl ?_
  refine ZX.iconst (-1) dX5_init_268 rfl ?_
  refine ZX.iastf 4 5 dX5_init_269 (a := 91) (f := fun _ => 0) rfl (by decide +kernel) rfl (by unfold vp_in; decide +kernel) ?_
  refine ZX.iinc dX5_init_270 rfl (by decide) rfl ?_
  refine ZX.goto 250 dX5_init_273 (by decide) ?_
  refine ZX.iload_n dX5_init_250 rfl ?_
  refine ZX.bipush 9 dX5_init_251 rfl ?_
  refine ZX.icmp_ge 276 dX5_init_253 (by decide) (fun h_ => absurd h_ (by decide +kernel)) (fun _ => ?_)
  refine ZX.aload_n dX5_init_256 rfl ?_
  refine ZX.getf dX5_init_257 flX5_77 (o := 67) rfl rfl ?_
  refine ZX.iload_n dX5_init_260 rfl ?_
  refine ZX.iconst (-1) dX5_init_261 rfl ?_
  refine ZX.iastf 5 6 dX5_init_262 (a := 90) (f := fun _ => 0) rfl (by decide +kernel) rfl (by unfold vp_in; decide +kernel) ?_
  refine ZX.aload_n dX5_init_263 rfl ?_
  refine ZX.getf dX5_init_264 flX5_80 (o := 67) rfl rfl ?_
  refine ZX.iload_n dX5_init_267 rfl ?_
  refine ZX.iconst (-1) dX5_init_268 rfl ?_
  refine ZX.iastf 5 6 dX5_init_269 (a := 91) (f := fun _ => 0) rfl (by decide +kernel) rfl (by unfold vp_in; decide +kernel) ?_
  refine ZX.iinc dX5_init_270 rfl (by decide) rfl ?_
  refine ZX.goto 250 dX5_init_273 (by decide) ?_
  refine ZX.iload_n dX5_init_250 rfl ?_
  refine ZX.bipush 9 dX5_init_251 rfl ?_
  refine ZX.icmp_ge 276 dX5_init_253 (by decide) (fun h_ => absurd h_ (by decide +kernel)) (fun _ => ?_)
  refine ZX.aload_n dX5_init_256 rfl ?_
  refine ZX.getf dX5_init_257 flX5_77 (o := 67) rfl rfl ?_
  refine ZX.iload_n dX5_init_260 rfl ?_
  refine ZX.iconst (-1) dX5_init_261 rfl ?_
  refine ZX.iastf 6 7 dX5_init_262 (a := 90) (f := fun _ => 0) rfl (by decide +kernel) rfl (by unfold vp_in; decide +kernel) ?_
  refine ZX.aload_n dX5_init_263 rfl ?_
  refine ZX.getf dX5_init_264 flX5_80 (o := 67) rfl rfl ?_
  refine ZX.iload_n dX5_init_267 rfl ?_
  refine ZX.iconst (-1) dX5_init_268 rfl ?_
  refine ZX.iastf 6 7 dX5_init_269 (a := 91) (f := fun _ => 0) rfl (by decide +kernel) rfl (by unfold vp_in; decide +kernel) ?_
  refine ZX.iinc dX5_init_270 rfl (by decide) rfl ?_
  refine ZX.goto 250 dX5_init_273 (by decide) ?_
  refine ZX.iload_n dX5_init_250 rfl ?_
  refine ZX.bipush 9 dX5_init_251 rfl ?_
  refine ZX.icmp_ge 276 dX5_init_253 (by decide) (fun h_ => absurd h_ (by decide +kernel)) (fun _ => ?_)
  refine ZX.aload_n dX5_init_256 rfl ?_
  refine ZX.getf dX5_init_257 flX5_77 (o := 67) rfl rfl ?_
  refine ZX.iload_n dX5_init_260 rfl ?_
  refine ZX.iconst (-1) dX5_init_261 rfl ?_
  refine ZX.iastf 7 8 dX5_init_262 (a := 90) (f := fun _ => 0) rfl (by decide +kernel) rfl (by unfold vp_in; decide +kernel) ?_
  refine ZX.aload_n dX5_init_263 rfl ?_
  refine ZX.getf dX5_init_264 flX5_80 (o := 67) rfl rfl ?_
  refine ZX.iload_n dX5_init_267 rfl ?_
  refine ZX.iconst (-1) dX5_init_268 rfl ?_
  refine ZX.iastf 7 8 dX5_init_269 (a := 91) (f := fun _ => 0) rfl (by decide +kernel) rfl (by unfold vp_in; decide +kernel) ?_
  refine ZX.iinc dX5_init_270 rfl (by decide) rfl ?_
  refine ZX.goto 250 dX5_init_273 (by decide) ?_
  refine ZX.iload_n dX5_init_250 rfl ?_
  refine ZX.bipush 9 dX5_init_251 rfl ?_
  refine ZX.icmp_ge 276 dX5_init_253 (by decide) (fun h_ => absurd h_ (by decide +kernel)) (fun _ => ?_)
  refine ZX.aload_n dX5_init_256 rfl ?_
  refine ZX.getf dX5_init_257 flX5_77 (o := 67) rfl rfl ?_
  refine ZX.iload_n dX5_init_260 rfl ?_
  refine ZX.iconst (-1) dX5_init_261 rfl ?_
  refine ZX.iastf 8 9 dX5_init_262 (a := 90) (f := fun _ => 0) rfl (by decide +kernel) rfl (by unfold vp_in; decide +kernel) ?_
  refine ZX.aload_n dX5_init_263 rfl ?_
  refine ZX.getf dX5_init_264 flX5_80 (o := 67) rfl rfl ?_
  refine ZX.iload_n dX5_init_267 rfl ?_
  refine ZX.iconst (-1) dX5_init_268 rfl ?_
  refine ZX.iastf 8 9 dX5_init_269 (a := 91) (f := fun _ => 0) rfl (by decide +kernel) rfl (by unfold vp_in; decide +kernel) ?_
  refine ZX.iinc dX5_init_270 rfl (by decide) rfl ?_
  refine ZX.goto 250 dX5_init_273 (by decide) ?_
  refine ZX.iload_n dX5_init_250 rfl ?_
  refine ZX.bipush 9 dX5_init_251 rfl ?_
  refine ZX.icmp_ge 276 dX5_init_253 (by decide) (fun _ => ?_) (fun h_ => absurd (by decide +kernel) h_)
  exact ZX.vret dX5_init_276 rfl ⟨by decide, by decide⟩ ⟨rfl, rfl⟩
end ZXP
