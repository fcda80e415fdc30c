section ZW7
variable {nm ds : String} {kc ks : Nat} {t : Int}
abbrev XN : State → (Nat → Nat) → (Nat → Prop) → Nat → Prop := fun s _ _ n => XOO s ∧ n = 0
def wK (g : Int → Int) : zH := [.inl (.int, 63, .inl (fun j => zi (g j)))]
set_option maxHeartbeats 4000000 in
set_option maxRecDepth 20000 in
theorem lw_it (t0 : 0 ≤ t) (t2 : t < 2) (hkc : kc ≤ 500) (hks : ks ≤ 5000) (g : Int → Int) (k : ∀ g' : Int → Int, ZX XN 600000 7302250 11 (μL nm ds) 7 [some (.ref 9004), some (.ref 0), some (.int (zi (t + 1))), none, none, none, none, none, none, none, none, none, none] [] (wK g') (kc + 67) (ks + 1804) (fun r _ => r = some (.int 1))) : ZX XN 600000 7302250 11 (μL nm ds) 7 [some (.ref 9004), some (.ref 0), some (.int (zi (t))), none, none, none, none, none, none, none, none, none, none] [] (wK g) kc ks (fun r _ => r = some (.int 1)) := by
  refine ZX.iload_n dL_law_7 rfl ?_
  refine ZX.iconst (zi 2) dL_law_8 rfl ?_
  refine ZX.icmp_ge 804 dL_law_9 (by decide) (fun q => ?_) (fun _ => ?_)
  · rw [zi_le (by omega) (by omega)] at q
    omega
  have hcl : Cond.classLink RL 20 RX4 ∈ zWd := zWd_in 29 (by decide +kernel) rfl
  refine ZX.new' 1 tyX4 [.null, .null, .null, .null, .null, .int 0] dL_law_12 clX4 ⟨hcl, zWd_in 30 (by decide +kernel) rfl, zWd_in 21 (by decide +kernel) rfl⟩ tyX4_ok defX4 (fun _ => rfl) rfl ⟨⟨by omega, by omega⟩, by omega⟩ rfl rfl rfl ?_
  refine ZX.dup dL_law_15 rfl ?_
  refine ZX.w (h' := wZ0 (fun j => zi (g j))) rfl ?_
  refine ZX.callO (b := 1) (As := []) dL_law_16 mkX4_init csL_44 (fun _ _ _ _ q => q.1) XOO.moved c_Z_Main (by omega) rfl rfl (Nat.le_of_ble_eq_true rfl) ⟨Or.inr ⟨rfl, rfl⟩, by omega, by omega, fun r_ h_ p_ => ?_⟩
  obtain ⟨rfl, rfl⟩ := p_
  refine ZX.astore_n dL_law_19 (Nat.le_of_ble_eq_true rfl) rfl ?_
  refine ZX.relay (h2 := zHp (s0g g)) (L2 := [some (.ref 9004), some (.ref 67), some (.int (zi (t))), some (.ref 0), none, none, none, none, none, none, none, none, none]) (st2 := []) fL fL_9 (fun _ _ _ _ q => q.2) (by omega) (rl_all g) fL_i (fun i v h => ?_) rfl ?_
  · rcases i with _ | _ | _ | _ | _ | _ | _ | _ | _ | _ | _ | _ | _ | i
    · cases h; rfl
    · cases h; rfl
    · cases h; rfl
    · cases h; rfl
    all_goals cases h
  · have hkk : kc + 1 + 66 ≤ 600000 ∧ ks + 6 + 1798 ≤ 7302250 := ⟨by omega, by omega⟩
    refine lw_20 (by omega) hkk t0 (by omega) (s0_TK g) (fun s => ?_)
    refine YX.iinc dL_law_798 rfl (Nat.le_of_ble_eq_true rfl) rfl ?_
    refine YX.goto 7 dL_law_801 (by decide) ?_
    refine ZX.relay (h2 := wK (s.1 67)) (L2 := [some (.ref 9004), some (.ref 0), some (.int (zi (t + 1))), none, none, none, none, none, none, none, none, none, none]) (st2 := []) (fun k => if k < 9000 then 67 else k) (fun k hk => if_neg (by omega)) (fun _ _ _ _ q => q.2) (by omega) (fun k e h => ?_) (fun i j hi hj _ => ?_) (fun i v h => ?_) rfl ?_
    · rcases k with _ | k
      · cases h; rfl
      · cases h
    · have hi : i < 1 := hi
      have hj : j < 1 := hj
      omega
    · rcases i with _ | _ | _ | _ | _ | _ | _ | _ | _ | _ | _ | _ | _ | i
      · cases h; rfl
      · cases h; rfl
      · cases h; rfl
      all_goals cases h
    · exact k (s.1 67)
set_option maxHeartbeats 4000000 in
theorem lw_main : ZX XN 600000 7302250 11 (μL nm ds) 0 [some (.ref 9004), none, none, none, none, none, none, none, none, none, none, none, none] [] [] 0 0 (fun r _ => r = some (.int 1)) := by
  refine ZX.bipush 63 dL_law_0 (by decide +kernel) ?_
  refine ZX.newI' 0 63 dL_law_2 (by decide +kernel) (by decide +kernel) rfl (by decide) rfl rfl rfl ?_
  refine ZX.astore_n dL_law_4 (Nat.le_of_ble_eq_true rfl) rfl ?_
  refine ZX.iconst (zi 0) dL_law_5 rfl ?_
  refine ZX.istore_n dL_law_6 (Nat.le_of_ble_eq_true rfl) rfl ?_
  refine ZX.w (h' := wK (fun _ => 0)) rfl ?_
  refine lw_it (t := 0) (by omega) (by omega) (by omega) (by omega) _ (fun g1 => ?_)
  refine lw_it (t := 0 + 1) (by omega) (by omega) (by omega) (by omega) _ (fun g2 => ?_)
  refine ZX.iload_n dL_law_7 rfl ?_
  refine ZX.iconst (zi 2) dL_law_8 rfl ?_
  refine ZX.icmp_ge 804 dL_law_9 (by decide) (fun _ => ?_) (fun q => ?_)
  · refine ZX.iconst 1 dL_law_804 rfl ?_
    exact ZX.iret dL_law_805 ⟨.boolean, rfl, rfl⟩ ⟨by omega, by omega⟩ rfl
  · exact absurd ((zi_le (by omega) (by omega)).mpr (by omega)) q
end ZW7
