section ZW5
variable {nm ds : String} {X : State → (Nat → Nat) → (Nat → Prop) → Nat → Prop} {mc ms kc ks d : Nat} {P : Option Value → zH → Prop} {σ : zS} {p : zP} {t : Int}
set_option maxHeartbeats 4000000 in
theorem lw_149 (hd : 10 ≤ d) (hk : kc ≤ mc ∧ ks ≤ ms) (t0 : 0 ≤ t) (t2 : t ≤ 2) (hJ : LJ σ p) (hK : KF σ p) (h2 : ∀ y : Int, 0 ≤ y → y < 3 → 1 ≤ p 2 y ∧ p 2 y ≤ 200) (k798 : ∀ s : zS, YX X mc ms kc ks d (μL nm ds) 798 [some (.ref 9004), some (.ref 67), some (.int (zi (t))), some (.ref 0), none, none, none, none, none, none, none, none, none] [] s P) : YX X mc ms kc ks d (μL nm ds) 149 [some (.ref 9004), some (.ref 67), some (.int (zi (t))), some (.ref 0), some (.int (zi (zb (SR p ≠ none)))), none, none, none, none, none, none, none, none] [] σ P := by
  refine YX.iconst dL_law_149 ?_
  refine YX.istore dL_law_150 (Nat.le_of_ble_eq_true rfl) rfl ?_
  refine zw3 (fun u q r => (0 ≤ r ∧ r ≤ 5 ∧ LJ u q ∧ KF u q ∧ ∀ y : Int, 0 ≤ y → y < 3 → 1 ≤ q 2 y ∧ q 2 y ≤ 200)) (fun u q r => YX X mc ms kc ks d (μL nm ds) 152 [some (.ref 9004), some (.ref 67), some (.int (zi (t))), some (.ref 0), some (.int (zi (zb (SR q ≠ none)))), some (.int (zi (r))), none, none, none, none, none, none, none] [] u P) (fun u q r => (5 - r).toNat) ?_ _ p _ ⟨by omega, by omega, hJ, hK, h2⟩
  intro u q r hI ih
  obtain ⟨r0, r5, uJ, uK, u2⟩ := hI
  refine YX.iload dL_law_152 rfl ?_
  refine YX.iconst dL_law_154 ?_
  refine YX.icmp_ge 573 dL_law_155 (by decide) (by omega) (by omega) (fun _ => ?_) (fun h_155 => ?_)
  · exact YX.sub (zs_s (zs_s (zs_s (zs_s (zs_s (zs_n (zs_n (zs_n (zs_n (zs_n (zs_n (zs_n (zs_n zs_0))))))))))))) (lw_573 hd hk t0 t2 uJ uK k798)
  · refine lw_155 hd hk t0 t2 r0 (by omega) uJ uK (fun u1 q1 v J1 S1 e1 K1 => ?_)
    rw [← S1.e_SR]
    refine lw_240 hd hk J1 K1 rfl (fun g h h1 h3 gJ gK gR => ?_)
    have h2' : ∀ y : Int, 0 ≤ y → y < 3 → 1 ≤ q1 2 y ∧ q1 2 y ≤ 200 := fun y a b => by rw [e1]; exact u2 y a b
    refine lw_281 hd hk gJ gK gR h2' (fun s1 x1 y1 => ?_)
    refine lw_426 hd hk h1 h3 (gJ.q x1 y1) (gK.q x1) (gR.q x1) (fun s2 x2 y2 => ?_)
    refine YX.iinc dL_law_567 rfl (Nat.le_of_ble_eq_true rfl) rfl ?_
    refine YX.goto 152 dL_law_570 (by decide) ?_
    exact ih s2 q1 (r + 1) ⟨by omega, by omega, (gJ.q x1 y1).q x2 y2, (gK.q x1).q x2, h2'⟩ (by omega)
set_option maxHeartbeats 4000000 in
theorem lw_20 (hd : 10 ≤ d) (hk : kc ≤ mc ∧ ks ≤ ms) (t0 : 0 ≤ t) (t2 : t ≤ 2) (hI : TK σ 0) (k798 : ∀ s : zS, YX X mc ms kc ks d (μL nm ds) 798 [some (.ref 9004), some (.ref 67), some (.int (zi (t))), some (.ref 0), none, none, none, none, none, none, none, none, none] [] s P) : YX X mc ms kc ks d (μL nm ds) 20 [some (.ref 9004), some (.ref 67), some (.int (zi (t))), some (.ref 0), none, none, none, none, none, none, none, none, none] [] σ P := by
  refine YX.aload_n dL_law_20 rfl ?_
  refine YX.aload_n dL_law_21 rfl ?_
  refine YX.bipush dL_law_22 (by decide +kernel) ?_
  refine YX.iload_n dL_law_24 rfl ?_
  refine YX.imul dL_law_25 ?_
  refine YX.aload_n dL_law_26 rfl ?_
  refine YX.callS hk dL_law_27 mkL_tells csL_45 (c_L_tells (by omega) (by omega) hI) (by omega) rfl rfl (Nat.le_of_ble_eq_true rfl) (fun r s pr => ?_)
  obtain ⟨rfl, hT⟩ := pr
  refine YX.if_ne (a := 1) 35 dL_law_30 (by decide) (by omega) (fun _ => ?_) (fun q => absurd q (by decide))
  refine lw_35 hd hk hT.lj (fun s1 e1 t1 => ?_)
  refine lw_100 hd hk t0 t2 (hT.lj.q e1 t1) (hT.kf.q e1) (fun y a b => hT.2.2.1 y a b) (fun u q uJ uS uK u2 => ?_)
  rw [← uS.e_SR]
  exact lw_149 hd hk t0 t2 uJ uK u2 k798
end ZW5
