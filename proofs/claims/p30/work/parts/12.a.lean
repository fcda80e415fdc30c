section ZXP0
variable {X : State → (Nat → Nat) → (Nat → Prop) → Nat → Prop} {mc ms d : Nat} {μ : zU} {pc : Nat} {L : List (Option Value)} {st : List Value} {h : zH} {kc ks : Nat} {Post : Option Value → zH → Prop} {idx : Nat}
theorem zfls {f : Nat → Int32} {v : Int32} (i k : Nat) (h : k = i + 1) : upd (zflf i v f) i v = zflf k v f := by
  subst h
  funext j
  show (if j = i then v else if j < i then v else f j) = if j < i + 1 then v else f j
  by_cases q : j = i
  · rw [if_pos q, if_pos (by omega)]
  · rw [if_neg q]
    by_cases q2 : j < i
    · rw [if_pos q2, if_pos (by omega)]
    · rw [if_neg q2, if_neg (by omega)]
theorem zfl0 {f : Nat → Int32} {v : Int32} : zflf 0 v f = f := rfl
theorem Z.w {h' : zH} (e : h' = h) (k : Z mc ms d μ pc L st h' kc ks Post) : Z mc ms d μ pc L st h kc ks Post := by
  subst e
  exact k
theorem ZX.aald' (k : Nat) {a n t0 : Nat} {ty : FieldType} {q : List (Option Nat)} {i : Int32} {r : Nat} (hdg : decode μ.2.1 pc = .ok (.aaload, 1)) (ht : (t0 = 2 ∧ ty = .array .int) ∨ (t0 = 3 ∧ ty = .object "OffsetChains$Sheet")) (he : h[a]? = some (.inl (ty, n, .inr (.inr q)))) (hk : i.toNatClampNeg = k) (hin : vp_in i n) (hq : q[k]? = some (some r)) (k9 : ZX X mc ms d μ (pc + 1) L (.ref r :: st) h kc ks Post) : ZX X mc ms d μ pc L (.int i :: .ref a :: st) h kc ks Post :=
  ZX.aald hdg ht he hin (by rw [hk]; exact hq) k9
theorem ZX.iastf (k k' : Nat) {a n : Nat} {f : Nat → Int32} {i x : Int32} (hdg : decode μ.2.1 pc = .ok (.iastore, 1)) (he : h[a]? = some (.inl (.int, n, .inl (zflf k x f)))) (hk : i.toNatClampNeg = k) (hk' : k' = k + 1) (hin : vp_in i n) (k9 : ZX X mc ms d μ (pc + 1) L st (h.set a (.inl (.int, n, .inl (zflf k' x f)))) kc ks Post) : ZX X mc ms d μ pc L (.int x :: .int i :: .ref a :: st) h kc ks Post :=
  ZX.iast hdg he hin (by rw [hk, zfls k k' hk']; exact k9)
theorem Z.aald' (k : Nat) {a n t0 : Nat} {ty : FieldType} {q : List (Option Nat)} {i : Int32} {r : Nat} (hdg : decode μ.2.1 pc = .ok (.aaload, 1)) (ht : (t0 = 2 ∧ ty = .array .int) ∨ (t0 = 3 ∧ ty = .object "OffsetChains$Sheet")) (he : h[a]? = some (.inl (ty, n, .inr (.inr q)))) (hk : i.toNatClampNeg = k) (hin : vp_in i n) (hq : q[k]? = some (some r)) (k9 : Z mc ms d μ (pc + 1) L (.ref r :: st) h kc ks Post) : Z mc ms d μ pc L (.int i :: .ref a :: st) h kc ks Post :=
  Z.aald hdg ht he hin (by rw [hk]; exact hq) k9
theorem Z.iastf (k k' : Nat) {a n : Nat} {f : Nat → Int32} {i x : Int32} (hdg : decode μ.2.1 pc = .ok (.iastore, 1)) (he : h[a]? = some (.inl (.int, n, .inl (zflf k x f)))) (hk : i.toNatClampNeg = k) (hk' : k' = k + 1) (hin : vp_in i n) (k9 : Z mc ms d μ (pc + 1) L st (h.set a (.inl (.int, n, .inl (zflf k' x f)))) kc ks Post) : Z mc ms d μ pc L (.int x :: .int i :: .ref a :: st) h kc ks Post :=
  Z.iast hdg he hin (by rw [hk, zfls k k' hk']; exact k9)
theorem defX0 : ∀ j, j < 18 → defaultValue (tyX0 j) = vp_V [.null, .null, .null, .null, .null, .null, .null, .null, .null, .null, .null, .null, .int 0, .int 0, .int 0, .int 0, .int 0, .int 0] j := fun j hj => by
  have h := hj
  revert h
  revert j
  decide
theorem defX1 : ∀ j, j < 10 → defaultValue (tyX1 j) = vp_V [.int 0, .int 0, .null, .null, .null, .null, .null, .null, .null, .null] j := fun j hj => by
  have h := hj
  revert h
  revert j
  decide
theorem defX2 : ∀ j, j < 3 → defaultValue (tyX2 j) = vp_V [.null, .null, .null] j := fun j hj => by
  have h := hj
  revert h
  revert j
  decide
theorem defX3 : ∀ j, j < 4 → defaultValue (tyX3 j) = vp_V [.int 0, .int 0, .int 0, .null] j := fun j hj => by
  have h := hj
  revert h
  revert j
  decide
theorem defX4 : ∀ j, j < 6 → defaultValue (tyX4 j) = vp_V [.null, .null, .null, .null, .null, .int 0] j := fun j hj => by
  have h := hj
  revert h
  revert j
  decide
def wZ0 (kf : Nat → Int32) : zH := [.inl (.int, 63, .inl (kf)), .inr (4, [.null, .null, .null, .null, .null, .int 0])]
def wP0 (kf : Nat → Int32) : zH := [.inl (.int, 63, .inl (kf)), .inr (4, [.null, .null, .null, .null, .null, .int 0]), .inr (2, [.null, .null, .null])]
def wP1 (kf : Nat → Int32) : zH := [.inl (.int, 63, .inl (kf)), .inr (4, [.null, .null, .null, .null, .null, .int 0]), .inr (2, [.ref 3, .ref 9, .ref 14]), .inl (.array .int, 5, .inr (.inr [some 4, some 5, some 6, some 7, some 8])), .inl (.int, 3, .inl (zflf 3 20 (fun _ => 0))), .inl (.int, 3, .inl (fun _ => 0)), .inl (.int, 3, .inl (fun _ => 0)), .inl (.int, 3, .inl (fun _ => 0)), .inl (.int, 3, .inl (fun _ => 0)), .inl (.array .int, 4, .inr (.inr [some 10, some 11, some 12, some 13])), .inl (.int, 9, .inl (fun _ => 0)), .inl (.int, 9, .inl (fun _ => 0)), .inl (.int, 9, .inl (fun _ => 0)), .inl (.int, 9, .inl (fun _ => 0)), .inl (.int, 3, .inl (fun _ => 0))]
set_option maxHeartbeats 4000000 in
set_option maxRecDepth 20000 in
theorem c_Z_Plan {kf : Nat → Int32} : zCO XOO 12 63 1 μX2_init [.ref 2] (wP0 kf) (fun r h' => r = none ∧ h' = wP1 kf) := by
  refine zCO.of (by decide +kernel) (Nat.le_of_ble_eq_true rfl) (fun d hd => ?_)
  refine ZX.aload_n dX2_init_0 rfl ?_
  refine ZX.objI dX2_init_1 ⟨zWd_in 42 (by decide +kernel) rfl, zWd_in 35 (by decide +kernel) rfl, zWd_in 36 (by decide +kernel) rfl⟩ (by omega) (Nat.le_of_ble_eq_true rfl) ?_
  refine ZX.aload_n dX2_init_4 rfl ?_
  refine ZX.iconst 5 dX2_init_5 rfl ?_
  refine ZX.iconst 3 dX2_init_6 rfl ?_
  refine ZX.multi' 3 5 3 dX2_init_7 (zWd_in 43 (by decide +kernel) rfl) (fun _ _ _ _ q => q) (by decide +kernel) (by decide +kernel) (by decide +kernel) (by decide +kernel) rfl (by decide) rfl rfl rfl ?_
  refine ZX.w (h' := [.inl (.int, 63, .inl (kf)), .inr (4, [.null, .null, .null, .null, .null, .int 0]), .inr (2, [.null, .null, .null]), .inl (.array .int, 5, .inr (.inr [some 4, some 5, some 6, some 7, some 8])), .inl (.int, 3, .inl (fun _ => 0)), .inl (.int, 3, .inl (fun _ => 0)), .inl (.int, 3, .inl (fun _ => 0)), .inl (.int, 3, .inl (fun _ => 0)), .inl (.int, 3, .inl (fun _ => 0))]) rfl ?_
  refine ZX.putF dX2_init_11 fpX2_11 rfl (o := 2) rfl (by decide) (fun _ => ⟨rfl, rfl⟩) ?_
  refine ZX.w (h' := [.inl (.int, 63, .inl (kf)), .inr (4, [.null, .null, .null, .null, .null, .int 0]), .inr (2, [.ref 3, .null, .null]), .inl (.array .int, 5, .inr (.inr [some 4, some 5, some 6, some 7, some 8])), .inl (.int, 3, .inl (fun _ => 0)), .inl (.int, 3, .inl (fun _ => 0)), .inl (.int, 3, .inl (fun _ => 0)), .inl (.int, 3, .inl (fun _ => 0)), .inl (.int, 3, .inl (fun _ => 0))]) rfl ?_
  refine ZX.aload_n dX2_init_14 rfl ?_
  refine ZX.iconst 4 dX2_init_15 rfl ?_
  refine ZX.bipush 9 dX2_init_16 rfl ?_
  refine ZX.multi' 9 4 9 dX2_init_18 (zWd_in 43 (by decide +kernel) rfl) (fun _ _ _ _ q => q) (by decide +kernel) (by decide +kernel) (by decide +kernel) (by decide +kernel) rfl (by decide) rfl rfl rfl ?_
  refine ZX.w (h' := [.inl (.int, 63, .inl (kf)), .inr (4, [.null, .null, .null, .null, .null, .int 0]), .inr (2, [.ref 3, .null, .null]), .inl (.array .int, 5, .inr (.inr [some 4, some 5, some 6, some 7, some 8])), .inl (.int, 3, .inl (fun _ => 0)), .inl (.int, 3, .inl (fun _ => 0)), .inl (.int, 3, .inl (fun _ => 0)), .inl (.int, 3, .inl (fun _ => 0)), .inl (.int, 3, .inl (fun _ => 0)), .inl (.array .int, 4, .inr (.inr [some 10, some 11, some 12, some 13])), .inl (.int, 9, .inl (fun _ => 0)), .inl (.int, 9, .inl (fun _ => 0)), .inl (.int, 9, .inl (fun _ => 0)), .inl (.int, 9, .inl (fun _ => 0))]) rfl ?_
  refine ZX.putF dX2_init_22 fpX2_16 rfl (o := 2) rfl (by decide) (fun _ => ⟨rfl, rfl⟩) ?_
  refine ZX.w (h' := [.inl (.int, 63, .inl (kf)), .inr (4, [.null, .null, .null, .null, .null, .int 0]), .inr (2, [.ref 3, .ref 9, .null]), .inl (.array .int, 5, .inr (.inr [some 4, some 5, some 6, some 7, some 8])), .inl (.int, 3, .inl (fun _ => 0)), .inl (.int, 3, .inl (fun _ => 0)), .inl (.int, 3, .inl (fun _ => 0)), .inl (.int, 3, .inl (fun _ => 0)), .inl (.int, 3, .inl (fun _ => 0)), .inl (.array .int, 4, .inr (.inr [some 10, some 11, some 12, some 13])), .inl (.int, 9, .inl (fun _ => 0)), .inl (.int, 9, .inl (fun _ => 0)), .inl (.int, 9, .inl (fun _ => 0)), .inl (.int, 9, .inl (fun _ => 0))]) rfl ?_
  refine ZX.aload_n dX2_init_25 rfl ?_
  refine ZX.iconst 3 dX2_init_26 rfl ?_
  refine ZX.newI' 14 3 dX2_init_27 (by decide +kernel) (by decide +kernel) rfl (by decide) rfl rfl rfl ?_
  refine ZX.w (h' := [.inl (.int, 63, .inl (kf)), .inr (4, [.null, .null, .null, .null, .null, .int 0]), .inr (2, [.ref 3, .ref 9, .null]), .inl (.array .int, 5, .inr (.inr [some 4, some 5, some 6, some 7, some 8])), .inl (.int, 3, .inl (fun _ => 0)), .inl (.int, 3, .inl (fun _ => 0)), .inl (.int, 3, .inl (fun _ => 0)), .inl (.int, 3, .inl (fun _ => 0)), .inl (.int, 3, .inl (fun _ => 0)), .inl (.array .int, 4, .inr (.inr [some 10, some 11, some 12, some 13])), .inl (.int, 9, .inl (fun _ => 0)), .inl (.int, 9, .inl (fun _ => 0)), .inl (.int, 9, .inl (fun _ => 0)), .inl (.int, 9, .inl (fun _ => 0)), .inl (.int, 3, .inl (fun _ => 0))]) rfl ?_
  refine ZX.putF dX2_init_29 fpX2_19 rfl (o := 2) rfl (by decide) (fun _ => ⟨rfl, rfl⟩) ?_
  refine ZX.w (h' := [.inl (.int, 63, .inl (kf)), .inr (4, [.null, .null, .null, .null, .null, .int 0]), .inr (2, [.ref 3, .ref 9, .ref 14]), .inl (.array .int, 5, .inr (.inr [some 4, some 5, some 6, some 7, some 8])), .inl (.int, 3, .inl (fun _ => 0)), .inl (.int, 3, .inl (fun _ => 0)), .inl (.int, 3, .inl (fun _ => 0)), .inl (.int, 3, .inl (fun _ => 0)), .inl (.int, 3, .inl (fun _ => 0)), .inl (.array .int, 4, .inr (.inr [some 10, some 11, some 12, some 13])), .inl (.int, 9, .inl (fun _ => 0)), .inl (.int, 9, .inl (fun _ => 0)), .inl (.int, 9, .inl (fun _ => 0)), .inl (.int, 9, .inl (fun _ => 0)), .inl (.int, 3, .inl (fun _ => 0))]) rfl ?_
  refine ZX.aload_n dX2_init_32 rfl ?_
  refine ZX.getf dX2_init_33 flX2_11 (o := 2) rfl rfl ?_
  refine ZX.iconst 0 dX2_init_36 rfl ?_
  refine ZX.aald' 0 dX2_init_37 (t0 := 2) (Or.inl ⟨rfl, rfl⟩) (a := 3) rfl (by decide +kernel) (by unfold vp_in; decide +kernel) (r := 4) rfl ?_
  refine ZX.bipush 20 dX2_init_38 rfl ?_
  refine ZX.callS (Post' := fun r h' => r = none ∧ h' = _) dX2_init_40 mkJ7_fill_53178 csX2_23 (c_Z_fill (a := 4) (v := 20) (N := 3) (f := fun _ => 0) rfl (by decide)) (by omega) rfl rfl (Nat.le_of_ble_eq_true rfl) ⟨Or.inl rfl, by decide, by decide, fun r_ h_ p_ => ?_⟩
  obtain ⟨rfl, rfl⟩ := p_
  refine ZX.w (h' := [.inl (.int, 63, .inl (kf)), .inr (4, [.null, .null, .null, .null, .null, .int 0]), .inr (2, [.ref 3, .ref 9, .ref 14]), .inl (.array .int, 5, .inr (.inr [some 4, some 5, some 6, some 7, some 8])), .inl (.int, 3, .inl (zflf 3 20 (fun _ => 0))), .inl (.int, 3, .inl (fun _ => 0)), .inl (.int, 3, .inl (fun _ => 0)), .inl (.int, 3, .inl (fun _ => 0)), .inl (.int, 3, .inl (fun _ => 0)), .inl (.array .int, 4, .inr (.inr [some 10, some 11, some 12, some 13])), .inl (.int, 9, .inl (fun _ => 0)), .inl (.int, 9, .inl (fun _ => 0)), .inl (.int, 9, .inl (fun _ => 0)), .inl (.int, 9, .inl (fun _ => 0)), .inl (.int, 3, .inl (fun _ => 0))]) rfl ?_
  exact ZX.vret dX2_init_43 rfl ⟨by decide, by decide⟩ ⟨rfl, rfl⟩
end ZXP0
