section ZW2
variable {nm ds : String} {X : State → (Nat → Nat) → (Nat → Prop) → Nat → Prop} {mc ms kc ks d : Nat} {P : Option Value → zH → Prop} {σ : zS} {p : zP} {t : Int}
set_option maxHeartbeats 4000000 in
theorem lw_155 {v4 r : Int} (hd : 10 ≤ d) (hk : kc ≤ mc ∧ ks ≤ ms) (t0 : 0 ≤ t) (t2 : t ≤ 2) (r0 : 0 ≤ r) (r5 : r < 5) (hJ : LJ σ p) (hK : KF σ p) (k240 : ∀ (u : zS) (q : zP) (v : Int), LJ u q → SPL p q → q 2 = p 2 → KF u q → YX X mc ms kc ks d (μL nm ds) 240 [some (.ref 9004), some (.ref 67), some (.int (zi (t))), some (.ref 0), some (.int (zi (v4))), some (.int (zi (r))), some (.int (zi (v))), none, none, none, none, none, none] [] u P) : YX X mc ms kc ks d (μL nm ds) 158 [some (.ref 9004), some (.ref 67), some (.int (zi (t))), some (.ref 0), some (.int (zi (v4))), some (.int (zi (r))), none, none, none, none, none, none, none] [] σ P := by
  refine YX.aload_n dL_law_158 rfl ?_
  refine YX.bipush dL_law_159 (by decide +kernel) ?_
  refine YX.iconst dL_law_161 ?_
  refine YX.iload_n dL_law_162 rfl ?_
  refine YX.imul dL_law_163 ?_
  refine YX.iadd dL_law_164 ?_
  refine YX.iload dL_law_165 rfl ?_
  refine YX.iadd dL_law_167 ?_
  refine YX.cSE hk dL_law_168 mkL_cell csL_9 (c_L_cell (by omega) (by omega)) (by omega) rfl rfl (Nat.le_of_ble_eq_true rfl) (fun v168 b168 => ?_)
  refine YX.istore dL_law_171 (Nat.le_of_ble_eq_true rfl) rfl ?_
  refine YX.iconst dL_law_173 ?_
  refine YX.istore dL_law_174 (Nat.le_of_ble_eq_true rfl) rfl ?_
  refine zw3 (fun u q i => (0 ≤ i ∧ i ≤ 3 ∧ LJ u q ∧ SPL p q ∧ q 2 = p 2 ∧ KF u q)) (fun u q i => YX X mc ms kc ks d (μL nm ds) 176 [some (.ref 9004), some (.ref 67), some (.int (zi (t))), some (.ref 0), some (.int (zi (v4))), some (.int (zi (r))), some (.int (zi (v168))), some (.int (zi (i))), none, none, none, none, none] [] u P) (fun u q i => (3 - i).toNat) ?_ _ p _ ⟨by omega, by omega, hJ, SPL.rf, rfl, hK⟩
  intro u q i hI ih
  obtain ⟨i0, i3, uJ, uS, u2, uK⟩ := hI
  refine YX.iload dL_law_176 rfl ?_
  refine YX.iconst dL_law_178 ?_
  refine YX.icmp_ge 240 dL_law_179 (by decide) (by omega) (by omega) (fun h_179 => ?_) (fun h_179 => ?_)
  · exact YX.sub (zs_s (zs_s (zs_s (zs_s (zs_s (zs_s (zs_s (zs_n (zs_n (zs_n (zs_n (zs_n (zs_n zs_0))))))))))))) (k240 u q v168 uJ uS u2 uK)
  · refine YX.iload dL_law_182 rfl ?_
    refine YX.if_le 240 dL_law_184 (by decide) (by omega) (fun h_184 => ?_) (fun h_184 => ?_)
    · exact YX.sub (zs_s (zs_s (zs_s (zs_s (zs_s (zs_s (zs_s (zs_n (zs_n (zs_n (zs_n (zs_n (zs_n zs_0))))))))))))) (k240 u q v168 uJ uS u2 uK)
    · refine YX.aload_n dL_law_187 rfl ?_
      refine YX.iload dL_law_188 rfl ?_
      refine YX.iconst dL_law_190 ?_
      refine YX.iload dL_law_191 rfl ?_
      refine YX.bipush dL_law_193 (by decide +kernel) ?_
      refine YX.iload dL_law_195 rfl ?_
      refine YX.imul dL_law_197 ?_
      refine YX.ishrU dL_law_198 (fun v198 b198 => ?_)
      refine YX.bipush dL_law_199 (by decide +kernel) ?_
      refine YX.cSE hk dL_law_201 mkL_up csL_15 (c_L_up (by omega) (by omega)) (by omega) rfl rfl (Nat.le_of_ble_eq_true rfl) (fun v201 b201 => ?_)
      refine YX.cVI hk dL_law_204 mkX4_chain csL_19 ob0 ⟨_, rfl, rfl⟩ (k_L_chain 3 i0 (by omega) (by omega) (trt_i (Or.inr (Or.inr (Or.inr (Or.inl ⟨rfl, by omega, by omega⟩))))) (by omega)) (by omega) rfl rfl (Nat.le_of_ble_eq_true rfl) ?_
      have j1 := uJ.ch (k := 3) (i := i) (v := v201) (by omega) (trt_i (Or.inr (Or.inr (Or.inr (Or.inl ⟨rfl, by omega, by omega⟩)))))
      have c3 := (uJ.wp.1 i i0 (by omega)).2.2.2.1
      rw [uJ.1]
      refine YX.if_lt 232 dL_law_207 (by decide) (by omega) (fun h_207 => ?_) (fun h_207 => ?_)
      · exfalso; omega
      refine YX.aload_n dL_law_210 rfl ?_
      refine YX.iload dL_law_211 rfl ?_
      refine YX.iconst dL_law_213 ?_
      refine YX.iload dL_law_214 rfl ?_
      refine YX.iconst dL_law_216 ?_
      refine YX.iload dL_law_217 rfl ?_
      refine YX.imul dL_law_219 ?_
      refine YX.ishrU dL_law_220 (fun v220 b220 => ?_)
      refine YX.bipush dL_law_221 (by decide +kernel) ?_
      refine YX.cSE hk dL_law_223 mkL_up csL_15 (c_L_up (by omega) (by omega)) (by omega) rfl rfl (Nat.le_of_ble_eq_true rfl) (fun v223 b223 => ?_)
      refine YX.cVI hk dL_law_226 mkX4_chain csL_19 ob0 ⟨_, rfl, rfl⟩ (k_L_chain 4 i0 (by omega) (by omega) (trt_i (Or.inr (Or.inr (Or.inr (Or.inr ⟨rfl, by omega, by omega⟩))))) (by omega)) (by omega) rfl rfl (Nat.le_of_ble_eq_true rfl) ?_
      have j2 := j1.ch (k := 4) (i := i) (v := v223) (by omega) (trt_i (Or.inr (Or.inr (Or.inr (Or.inr ⟨rfl, by omega, by omega⟩)))))
      have c4 := (j1.wp.1 i i0 (by omega)).2.2.2.2.1
      rw [j1.1]
      refine YX.if_ge 234 dL_law_229 (by decide) (by omega) (fun h_229 => ?_) (fun h_229 => ?_)
      rotate_left
      · exfalso; omega
      refine YX.iinc dL_law_234 rfl (Nat.le_of_ble_eq_true rfl) rfl ?_
      refine YX.goto 176 dL_law_237 (by decide) ?_
      exact ih _ _ _ ⟨by omega, by omega, j2, (uS.tr (SPL.pu (Or.inr (Or.inl rfl)))).tr (SPL.pu (Or.inr (Or.inr rfl))), (pu_nc (by omega)).trans ((pu_nc (by omega)).trans u2), (uK.ch (Or.inr (Or.inl rfl))).ch (Or.inr (Or.inr rfl))⟩ (by omega)
/-- what a run leaves, for the law -/
def RD (p : zP) (h : Int) (g : zS) : Prop := RF p g ∧ g.1 38 0 = h ∧ (sm (fun y => zb (th p y) * (g.1 45 y * p 7 y)) 0 9 ≤ 2 * h - g.1 39 0 - g.1 39 1 ∧ 2 * h - g.1 39 0 - g.1 39 1 ≤ sm (fun y => zb (th p y) * (g.1 45 y * p 7 y)) 0 9 + sm (fun y => zb (th p y) * (p 7 y - 1)) 0 9) ∧ (0 ≤ g.1 38 1 ∧ g.1 38 1 ≤ 600 ∧ 0 ≤ g.1 39 0 ∧ g.1 39 0 ≤ 600 ∧ 0 ≤ g.1 39 1 ∧ g.1 39 1 ≤ 600) ∧ ∀ y : Int, 0 ≤ y → y < 9 → 0 ≤ g.1 45 y
theorem RD.q {h : Int} {g s : zS} (hR : RD p h g) (hE : EQ g s) : RD p h s := by
  refine ⟨hR.1.q hE, ?_⟩
  rw [hE.2 38 (by omega), hE.2 39 (by omega), hE.2 45 (by omega)]
  exact hR.2
theorem run_rd (hp : WP p) {h : Int} (h1 : 1 ≤ h) (h3 : h ≤ 300) (σ : zS) : RD p h (crun p h σ) := by
  have e : crun p h σ = sT p h σ h := by
    unfold crun sT
    rw [show (h - 0).toNat = h.toNat by omega]
  obtain ⟨hb, _⟩ := rnN_ok hp (h := h) (σ := σ) (h - 0).toNat (by omega)
  have hb : RB p (crun p h σ) (2 * ((h - 0).toNat : Nat)) := hb
  obtain ⟨b1, b2, b3, b4, b5⟩ := hb
  refine ⟨fun x a b ht => ⟨?_, (b1 x a b).1.2, (b1 x a b).2.2.1.2⟩, ?_, run_done hp (by omega) h3 σ, by omega, fun y a b => (b1 y a b).1.1⟩
  · rw [e]; exact run_seen hp (by omega) h3 σ a b ht h (by omega) (Int.le_refl _)
  · exact (rnN_g (p := p) (h := h) (σ := σ) (h - 0).toNat (by omega)).2.2.2
theorem LJ.run (hJ : LJ σ p) {h : Int} (h1 : 1 ≤ h) (h3 : h ≤ 300) : LJ (crun p h σ) p := by
  have ho : ∀ c : Nat, (c < 38 ∨ 57 < c) → (crun p h σ).1 c = σ.1 c := fun c hc => crun_o hJ.wp h3 hc
  exact ⟨(cP_c (fun c hc => ho c (by omega))).trans hJ.1, hJ.2.1, hJ.2.2.ag (fun c hc => ho c (by omega))⟩
theorem KF.run (hp : WP p) (hK : KF σ p) {h : Int} (h3 : h ≤ 300) : KF (crun p h σ) p := by
  unfold KF
  rw [crun_o hp h3 (by omega)]
  exact hK
set_option maxHeartbeats 4000000 in
theorem lw_240 {r q v4 : Int} (hd : 10 ≤ d) (hk : kc ≤ mc ∧ ks ≤ ms) (hJ : LJ σ p) (hK : KF σ p) (h4 : v4 = zb (SR p ≠ none)) (k281 : ∀ (g : zS) (h : Int), 1 ≤ h → h ≤ 300 → LJ g p → KF g p → RD p h g → YX X mc ms kc ks d (μL nm ds) 281 [some (.ref 9004), some (.ref 67), some (.int (zi (t))), some (.ref 0), some (.int (zi (v4))), some (.int (zi (r))), some (.int (zi (q))), some (.int (zi (h))), none, none, none, none, none] [] g P) : YX X mc ms kc ks d (μL nm ds) 240 [some (.ref 9004), some (.ref 67), some (.int (zi (t))), some (.ref 0), some (.int (zi (v4))), some (.int (zi (r))), some (.int (zi (q))), none, none, none, none, none, none] [] σ P := by
  subst h4
  refine YX.iconst dL_law_240 ?_
  refine YX.iload dL_law_241 rfl ?_
  refine YX.bipush dL_law_243 (by decide +kernel) ?_
  refine YX.ishrU dL_law_245 (fun v245 b245 => ?_)
  refine YX.sipush dL_law_246 (by decide +kernel) ?_
  refine YX.cSE hk dL_law_249 mkL_up csL_15 (c_L_up (by omega) (by omega)) (by omega) rfl rfl (Nat.le_of_ble_eq_true rfl) (fun v249 b249 => ?_)
  refine YX.iadd dL_law_252 ?_
  refine YX.istore dL_law_253 (Nat.le_of_ble_eq_true rfl) rfl ?_
  refine YX.aload_n dL_law_255 rfl ?_
  refine YX.iload dL_law_256 rfl ?_
  refine YX.cVI hk dL_law_258 mkX4_run csL_57 ob0 ⟨_, rfl, rfl⟩ (k_L_run hJ (by omega) (by omega)) (by omega) rfl rfl (Nat.le_of_ble_eq_true rfl) ?_
  have jr := hJ.run (h := 1 + v249) (by omega) (by omega)
  have kr := hK.run hJ.wp (h := 1 + v249) (by omega)
  have rr := run_rd hJ.wp (h := 1 + v249) (by omega) (by omega) σ
  obtain ⟨gx, hgx⟩ : ∃ g : zS, g = crun p (1 + v249) σ := ⟨_, rfl⟩
  rw [← hgx] at jr kr rr ⊢
  clear hgx
  refine YX.aload_n dL_law_261 rfl ?_
  refine YX.iconst dL_law_262 ?_
  refine YX.cVQ hk dL_law_263 mkX4_count csL_53 ob0 ⟨_, rfl, rfl⟩ (k_L_count 3 jr (by omega)) (by omega) rfl rfl (Nat.le_of_ble_eq_true rfl) (fun s263 e263 t263 => ?_)
  have j263 := LJ.q jr e263 t263
  have c3 : cntA gx p 3 = gx.1 38 1 := rfl
  have b38 : zB (gx.1 38 1) := by have := rr.2.2.2.1; omega
  rw [c3]
  refine YX.icmp_ne 279 dL_law_266 (by decide) b38 b38 (fun h_266 => ?_) (fun h_266 => ?_)
  · exfalso; exact absurd rfl h_266
  refine YX.aload_n dL_law_269 rfl ?_
  refine YX.aload_n dL_law_270 rfl ?_
  refine YX.iload dL_law_271 rfl ?_
  refine YX.cSQ hk dL_law_273 mkL_holds csL_60 (c_L_holds j263 (kr.q e263) (rr.q e263).1) (by omega) rfl rfl (Nat.le_of_ble_eq_true rfl) (fun s273 e273 t273 => ?_)
  refine YX.if_ne 281 dL_law_276 (by decide) (by omega) (fun _ => ?_) (fun q => absurd q (by decide))
  exact k281 s273 (1 + v249) (by omega) (by omega) (j263.q e273 t273) ((kr.q e263).q e273) ((rr.q e263).q e273)
end ZW2
