section ZHO
variable {σ : zS} {p : zP} {d : Nat} {P : Option Value → zS → Prop}
/-! what the answers say of each other -/
theorem qq_b {l : Int → Int} {x M : Int} (hM : ∀ q : Int, 0 ≤ q → lfp (Fq p l x (q + 1)) ≠ -1 → lfp (Fq p l x (q + 1)) - p 0 (x / 3) * q + l x + ear p x ≤ M) : ∀ (n : Nat) (q m r : Int), 0 ≤ q → -1 ≤ m → m ≤ M → qq p l x n q m = some r → -1 ≤ r ∧ r ≤ M
  | 0, q, m, r, _, h1, h2, h => by
    obtain rfl := Option.some.inj h
    exact ⟨h1, h2⟩
  | n + 1, q, m, r, h0, h1, h2, h => by
    have h' : (if lfp (Fq p l x (q + 1)) = -1 then none else qq p l x n (q + 1) (max m (lfp (Fq p l x (q + 1)) - p 0 (x / 3) * q + l x + ear p x))) = some r := h
    by_cases he : lfp (Fq p l x (q + 1)) = -1
    · rw [if_pos he] at h'; cases h'
    · rw [if_neg he] at h'
      have := hM q h0 he
      exact qq_b hM n (q + 1) _ r (by omega) (by omega) (by omega) h'
theorem qckA_b (hp : WP p) {x : Int} (h0 : 0 ≤ x) (h9 : x < 9) : -1 ≤ qckA p x ∧ qckA p x ≤ 746 := by
  cases hs : SR p with
  | none => rw [qckA, sv_n hs]; omega
  | some q =>
    obtain ⟨r, l⟩ := q
    rw [qckA, sv_s hs]
    have hl : WL l := (SR_b hp hs).1
    have hb := hl.b h0 h9
    have he := ear_b hp h0 h9
    have hT := hp.per (i := x / 3) (by omega) (by omega)
    show -1 ≤ qkS p l x ∧ qkS p l x ≤ 746
    unfold qkS
    by_cases hb2 : bq p l x = -1
    · rw [if_pos hb2]; omega
    · rw [if_neg hb2]
      cases hq : qq p l x (qc p l x (bq p l x) - 0).toNat 0 (-1) with
      | none => show (-1 : Int) ≤ -1 ∧ (-1 : Int) ≤ 746; omega
      | some m =>
        exact qq_b (M := 746) (fun q q0 hne => by
          have h1 : 0 ≤ p 0 (x / 3) * q := Int.mul_nonneg (by omega) q0
          rcases lfp_b (Fq p l x (q + 1)) with z | z
          · exact absurd z hne
          · omega) _ 0 (-1) m (by omega) (by omega) (by omega) hq
theorem ans_s (hp : WP p) {x : Int} (h0 : 0 ≤ x) (h9 : x < 9) (ht : th p x) (hs : SR p ≠ none) : ear p x + p 7 x + latA p x ≤ bndA p x ∧ srcA p x ≤ bndA p x ∧ (0 ≤ qckA p x → bndA p x ≤ qckA p x) ∧ ear p x + p 7 x + latA p x ≤ srcA p x ∧ (rvs p x = 0 → bndA p x = ear p x + p 7 x + latA p x) ∧ (x % 3 = 0 → latA p x = p 1 (x / 3)) ∧ (x % 3 ≠ 0 → bndA p (x - 1) + p 9 x - ear p x ≤ latA p x) ∧ (0 ≤ latA p x ∧ latA p x ≤ 430) ∧ ∃ l : Int → Int, STD p l ∧ srcA p x = srS p l x := by
  cases hq : SR p with
  | none => exact absurd hq hs
  | some q =>
    obtain ⟨r, l⟩ := q
    have hS := SR_std hp hq
    have a1 : latA p x = l x := by rw [latA, sv_s hq]
    have a2 : bndA p x = (bv p l x).1 := by rw [bndA, sv_s hq]
    have a3 : srcA p x = srS p l x := by rw [srcA, sv_s hq]
    have a4 : qckA p x = qkS p l x := by rw [qckA, sv_s hq]
    have a5 : bndA p (x - 1) = (bv p l (x - 1)).1 := by rw [bndA, sv_s hq]
    have hf := hS.f h0 h9 ht
    have s1 := hS.s h0 h9 ht
    have hb := (hS.2.1).b h0 h9
    rw [a1, a2, a3, a4, a5]
    refine ⟨by omega, s1.1, fun z => qkS_le hp hS.2.1 hf z, s1.2, fun z => hS.alone h0 h9 ht z, fun z => ?_, fun z => hS.2.2.2.2 x h0 h9 z ht, hb, l, hS, rfl⟩
    have := hS.2.2.2.1 (x / 3) (by omega) (by omega)
    rw [show x / 3 * 3 = x by omega] at this
    exact this
theorem ans_n {x : Int} (hs : SR p = none) : bndA p x = -1 ∧ srcA p x = -1 ∧ qckA p x = -1 ∧ latA p x = -1 := by
  rw [bndA, srcA, qckA, latA, sv_n hs, sv_n hs, sv_n hs, sv_n hs]
  exact ⟨rfl, rfl, rfl, rfl⟩
theorem rvs_b {x : Int} : 0 ≤ rvs p x ∧ rvs p x ≤ 9 := by
  have := sm_b (f := fun y => zb (riv p x y)) (a := 0) (lo := 0) (hi := 1) 9 (fun i _ _ => by rcases zb_2 (riv p x i) with e | e <;> omega)
  unfold rvs
  omega
/-- a run's rows of the steps that are there -/
def RF (p : zP) (t : zS) : Prop := ∀ x : Int, 0 ≤ x → x < 9 → th p x → ((t.1 45 x = 0 ∧ t.1 43 x = -1 ∧ t.1 44 x = -1) ∨ (0 < t.1 45 x ∧ ear p x + p 7 x ≤ t.1 44 x ∧ t.1 44 x ≤ t.1 43 x ∧ ∀ l : Int → Int, STD p l → t.1 43 x ≤ srS p l x)) ∧ t.1 45 x ≤ 60 ∧ t.1 43 x ≤ 20000
theorem RF.q {t s : zS} (h : RF p t) (hE : EQ t s) : RF p s := by
  unfold RF
  rw [hE.2 43 (by omega), hE.2 44 (by omega), hE.2 45 (by omega)]
  exact h
theorem KF.q {t s : zS} (h : KF t p) (hE : EQ t s) : KF s p := by
  unfold KF
  rw [hE.2 67 (by omega)]
  exact h
noncomputable abbrev zst (p : zP) : Value := .int (zi (zb (SR p ≠ none)))
set_option maxHeartbeats 4000000 in
theorem hd_x {x : Int} (hd : 8 ≤ d) (hJ : LJ σ p) (hK : KF σ p) (hR : RF p σ) (h0 : 0 ≤ x) (h9 : x < 9) (ht : th p x) (k382 : ∀ s : zS, EQ σ s → STL s → Y d μL_holds 382 [some (.ref 0), some (.ref 67), some (zst p), some (.int (zi x)), none, none, none, none, none, none, none, none, none, none] [] s P) : Y d μL_holds 20 [some (.ref 0), some (.ref 67), some (zst p), some (.int (zi x)), none, none, none, none, none, none, none, none, none, none] [] σ P := by
  have hp : WP p := hJ.wp
  have hx : x / 3 * 3 + x % 3 = x := by omega
  have hc1 := hp.2.2 x h0 h9 ht
  have hc2 := hJ.2.1.2 x h0 h9
  have hea := ear_b hp h0 h9
  have f4 : infA p x 4 = ear p x := rfl
  have f5 : infA p x 5 = latA p x := rfl
  have f6 : infA p x 6 = rvs p x := rfl
  have g0 : snA σ x 0 = σ.1 43 x := rfl
  have g1 : snA σ x 1 = σ.1 44 x := rfl
  have g2 : snA σ x 2 = σ.1 45 x := rfl
  obtain ⟨hRx, hRa, hRb⟩ := hR x h0 h9 ht
  have hBb := bndA_b hp h0 h9 ht
  have hQb := qckA_b hp h0 h9
  have hrv := rvs_b (p := p) (x := x)
  have hlag := (hp.2.1 x h0 h9).2.2.2
  have hLS : (-1 ≤ latA p x ∧ latA p x ≤ 430) ∧ -1 ≤ srcA p x ∧ srcA p x ≤ 746 := by
    by_cases hs : SR p = none
    · obtain ⟨a, b, c, e⟩ := ans_n (x := x) hs
      omega
    · obtain ⟨a1, a2, a3, a4, _, _, _, a8, _⟩ := ans_s hp h0 h9 ht hs
      omega
  have hmost : SR p ≠ none → snA σ x 0 ≤ srcA p x := fun hs => by
    obtain ⟨a1, a2, a3, a4, _, _, _, a8, l, hS, e⟩ := ans_s hp h0 h9 ht hs
    rw [g0]
    rcases hRx with z | z
    · omega
    · rw [e]; exact z.2.2.2 l hS
  have k332 : ∀ s : zS, EQ σ s → STL s → Y d μL_holds 332 [some (.ref 0), some (.ref 67), some (zst p), some (.int (zi x)), some (.int (zi (x / 3))), some (.int (zi (x % 3))), some (.int (zi (snA σ x 0))), some (.int (zi (snA σ x 1))), some (.int (zi (snA σ x 2))), some (.int (zi (infA p x 4))), some (.int (zi (bndA p x))), some (.int (zi (srcA p x))), some (.int (zi (qckA p x))), some (.int (zi (infA p x 5)))] [] s P := fun s q0 t0 => by
    have j0 := hJ.q q0 t0
    obtain ⟨kf1, kf2⟩ := hK.q q0
    have k3 : s.1 67 (3 + x / 3) = p 1 (x / 3) := (kf1 (x / 3) (by omega) (by omega)).1
    obtain ⟨_, k18, _, k36, k45⟩ := (kf2 x h0 h9).1 ht
    refine Y.iload_n dL_holds_332 rfl ?_
    refine Y.ifz_eq 382 dL_holds_333 (by decide) (fun h_333 => ?_) (fun h_333 => ?_)
    · exact Y.sub (zs_s (zs_s (zs_s (zs_s (zs_n (zs_n (zs_n (zs_n (zs_n (zs_n (zs_n (zs_n (zs_n (zs_n zs_0)))))))))))))) (k382 _ q0 (by assumption))
    · obtain ⟨a1, a2, a3, a4, a5, a6, a7, a8, _⟩ := ans_s hp h0 h9 ht (by assumption)
      refine Y.iload dL_holds_336 rfl ?_
      refine Y.if_ne 355 dL_holds_338 (by decide) (by omega) (fun h_338 => ?_) (fun h_338 => ?_)
      · refine Y.iload dL_holds_355 rfl ?_
        refine Y.aload_n dL_holds_357 rfl ?_
        refine Y.iload dL_holds_358 rfl ?_
        refine Y.iload dL_holds_360 rfl ?_
        refine Y.iconst dL_holds_362 ?_
        refine Y.isub dL_holds_363 ?_
        refine Y.cVQ dL_holds_364 mkX4_bound csL_35 ob0 ⟨_, rfl, rfl⟩ (k_L_bound j0 (x := x - 1) (by omega) (by omega) (by omega) (by omega) (by omega) (th_prev (by omega) ht)) (by omega) rfl rfl (Nat.le_of_ble_eq_true rfl) (fun s364 e364 t364 => ?_)
        have j364 := LJ.q j0 e364 t364
        have q364 := EQ.tr q0 e364
        have hb1 := bndA_b hp (x := x - 1) (by omega) (by omega) (th_prev (by omega) ht)
        have h7 := a7 (by omega)
        have k36b : s364.1 67 (36 + x) = p 9 x := by rw [e364.2 67 (by omega)]; exact k36
        refine Y.aload_n dL_holds_367 rfl ?_
        refine Y.bipush dL_holds_368 (by decide +kernel) ?_
        refine Y.iload_n dL_holds_370 rfl ?_
        refine Y.iadd dL_holds_371 ?_
        refine Y.iald dL_holds_372 ia67 (by omega) (by omega) ?_
        rw [k36b]
        refine Y.iadd dL_holds_373 ?_
        refine Y.iload dL_holds_374 rfl ?_
        refine Y.isub dL_holds_376 ?_
        refine Y.icmp_ge 382 dL_holds_377 (by decide) (by omega) (by omega) (fun h_377 => ?_) (fun h_377 => ?_)
        rotate_left
        · exfalso; omega
        exact Y.sub (zs_s (zs_s (zs_s (zs_s (zs_n (zs_n (zs_n (zs_n (zs_n (zs_n (zs_n (zs_n (zs_n (zs_n zs_0)))))))))))))) (k382 _ q364 (by assumption))
      · refine Y.iload dL_holds_341 rfl ?_
        refine Y.aload_n dL_holds_343 rfl ?_
        refine Y.iconst dL_holds_344 ?_
        refine Y.iload dL_holds_345 rfl ?_
        refine Y.iadd dL_holds_347 ?_
        refine Y.iald dL_holds_348 ia67 (by omega) (by omega) ?_
        rw [k3]
        have := a6 (by omega)
        have h1b := (hp.1 (x / 3) (by omega) (by omega)).2.1
        refine Y.icmp_eq 382 dL_holds_349 (by decide) (by omega) (by omega) (fun h_349 => ?_) (fun h_349 => ?_)
        rotate_left
        · exfalso; omega
        exact Y.sub (zs_s (zs_s (zs_s (zs_s (zs_n (zs_n (zs_n (zs_n (zs_n (zs_n (zs_n (zs_n (zs_n (zs_n zs_0)))))))))))))) (k382 _ q0 (by assumption))
  have k296 : ∀ s : zS, EQ σ s → STL s → Y d μL_holds 296 [some (.ref 0), some (.ref 67), some (zst p), some (.int (zi x)), some (.int (zi (x / 3))), some (.int (zi (x % 3))), some (.int (zi (snA σ x 0))), some (.int (zi (snA σ x 1))), some (.int (zi (snA σ x 2))), some (.int (zi (infA p x 4))), some (.int (zi (bndA p x))), some (.int (zi (srcA p x))), some (.int (zi (qckA p x))), some (.int (zi (infA p x 5)))] [] s P := fun s q0 t0 => by
    have j0 := hJ.q q0 t0
    refine Y.iload_n dL_holds_296 rfl ?_
    refine Y.ifz_eq 332 dL_holds_297 (by decide) (fun h_297 => ?_) (fun h_297 => ?_)
    · exact k332 _ q0 (by assumption)
    · refine Y.aload_n dL_holds_300 rfl ?_
      refine Y.iload dL_holds_301 rfl ?_
      refine Y.iload dL_holds_303 rfl ?_
      refine Y.bipush dL_holds_305 (by decide +kernel) ?_
      refine Y.cVQ dL_holds_307 mkX4_info csL_32 ob0 ⟨_, rfl, rfl⟩ (k_L_info j0 (k := 6) (x := x) hx (by omega) (by omega) (by omega) (by omega) ht (by omega)) (by omega) rfl rfl (Nat.le_of_ble_eq_true rfl) (fun s307 e307 t307 => ?_)
      have j307 := LJ.q j0 e307 t307
      have q307 := EQ.tr q0 e307
      obtain ⟨a1, a2, a3, a4, a5, a6, a7, a8, _⟩ := ans_s hp h0 h9 ht (by assumption)
      obtain ⟨kf1, kf2⟩ := hK.q q307
      obtain ⟨_, k18, _, k36, k45⟩ := (kf2 x h0 h9).1 ht
      refine Y.if_ne 332 dL_holds_310 (by decide) (by omega) (fun h_310 => ?_) (fun h_310 => ?_)
      · exact k332 _ q307 (by assumption)
      · refine Y.iload dL_holds_313 rfl ?_
        refine Y.iload dL_holds_315 rfl ?_
        refine Y.aload_n dL_holds_317 rfl ?_
        refine Y.bipush dL_holds_318 (by decide +kernel) ?_
        refine Y.iload_n dL_holds_320 rfl ?_
        refine Y.iadd dL_holds_321 ?_
        refine Y.iald dL_holds_322 ia67 (by omega) (by omega) ?_
        rw [k18]
        have := a5 (by omega)
        refine Y.iadd dL_holds_323 ?_
        refine Y.iload dL_holds_324 rfl ?_
        refine Y.iadd dL_holds_326 ?_
        refine Y.icmp_eq 332 dL_holds_327 (by decide) (by omega) (by omega) (fun h_327 => ?_) (fun h_327 => ?_)
        rotate_left
        · exfalso; omega
        exact k332 _ q307 (by assumption)
  have k230 : ∀ s : zS, EQ σ s → STL s → Y d μL_holds 230 [some (.ref 0), some (.ref 67), some (zst p), some (.int (zi x)), some (.int (zi (x / 3))), some (.int (zi (x % 3))), some (.int (zi (snA σ x 0))), some (.int (zi (snA σ x 1))), some (.int (zi (snA σ x 2))), some (.int (zi (infA p x 4))), some (.int (zi (bndA p x))), some (.int (zi (srcA p x))), some (.int (zi (qckA p x))), some (.int (zi (infA p x 5)))] [] s P := fun s q0 t0 => by
    have j0 := hJ.q q0 t0
    obtain ⟨kf1, kf2⟩ := hK.q q0
    obtain ⟨_, k18, _, k36, k45⟩ := (kf2 x h0 h9).1 ht
    refine Y.iload_n dL_holds_230 rfl ?_
    refine Y.ifz_eq 296 dL_holds_231 (by decide) (fun h_231 => ?_) (fun h_231 => ?_)
    · exact k296 _ q0 (by assumption)
    · obtain ⟨a1, a2, a3, a4, a5, a6, a7, a8, _⟩ := ans_s hp h0 h9 ht (by assumption)
      have hm := hmost (by assumption)
      refine Y.iload dL_holds_234 rfl ?_
      refine Y.iload dL_holds_236 rfl ?_
      refine Y.aload_n dL_holds_238 rfl ?_
      refine Y.bipush dL_holds_239 (by decide +kernel) ?_
      refine Y.iload_n dL_holds_241 rfl ?_
      refine Y.iadd dL_holds_242 ?_
      refine Y.iald dL_holds_243 ia67 (by omega) (by omega) ?_
      rw [k18]
      refine Y.iadd dL_holds_244 ?_
      refine Y.iload dL_holds_245 rfl ?_
      refine Y.iadd dL_holds_247 ?_
      refine Y.icmp_lt 294 dL_holds_248 (by decide) (by omega) (by omega) (fun h_248 => ?_) (fun h_248 => ?_)
      · exfalso; omega
      refine Y.iload dL_holds_251 rfl ?_
      refine Y.iload dL_holds_253 rfl ?_
      refine Y.icmp_gt 294 dL_holds_255 (by decide) (by omega) (by omega) (fun h_255 => ?_) (fun h_255 => ?_)
      · exfalso; omega
      refine Y.iload dL_holds_258 rfl ?_
      refine Y.iload dL_holds_260 rfl ?_
      refine Y.icmp_gt 294 dL_holds_262 (by decide) (by omega) (by omega) (fun h_262 => ?_) (fun h_262 => ?_)
      · exfalso; omega
      refine Y.iload dL_holds_265 rfl ?_
      refine Y.if_lt 277 dL_holds_267 (by decide) (by omega) (fun h_267 => ?_) (fun h_267 => ?_)
      · refine Y.iload dL_holds_277 rfl ?_
        refine Y.iload dL_holds_279 rfl ?_
        refine Y.aload_n dL_holds_281 rfl ?_
        refine Y.bipush dL_holds_282 (by decide +kernel) ?_
        refine Y.iload_n dL_holds_284 rfl ?_
        refine Y.iadd dL_holds_285 ?_
        refine Y.iald dL_holds_286 ia67 (by omega) (by omega) ?_
        rw [k18]
        refine Y.iadd dL_holds_287 ?_
        refine Y.iload dL_holds_288 rfl ?_
        refine Y.iadd dL_holds_290 ?_
        refine Y.icmp_ge 296 dL_holds_291 (by decide) (by omega) (by omega) (fun h_291 => ?_) (fun h_291 => ?_)
        rotate_left
        · exfalso; omega
        exact k296 _ q0 (by assumption)
      · refine Y.iload dL_holds_270 rfl ?_
        refine Y.iload dL_holds_272 rfl ?_
        have := a3 (by omega)
        refine Y.icmp_gt 294 dL_holds_274 (by decide) (by omega) (by omega) (fun h_274 => ?_) (fun h_274 => ?_)
        · exfalso; omega
        refine Y.iload dL_holds_277 rfl ?_
        refine Y.iload dL_holds_279 rfl ?_
        refine Y.aload_n dL_holds_281 rfl ?_
        refine Y.bipush dL_holds_282 (by decide +kernel) ?_
        refine Y.iload_n dL_holds_284 rfl ?_
        refine Y.iadd dL_holds_285 ?_
        refine Y.iald dL_holds_286 ia67 (by omega) (by omega) ?_
        rw [k18]
        refine Y.iadd dL_holds_287 ?_
        refine Y.iload dL_holds_288 rfl ?_
        refine Y.iadd dL_holds_290 ?_
        refine Y.icmp_ge 296 dL_holds_291 (by decide) (by omega) (by omega) (fun h_291 => ?_) (fun h_291 => ?_)
        rotate_left
        · exfalso; omega
        exact k296 _ q0 (by assumption)
  have k200 : ∀ s : zS, EQ σ s → STL s → Y d μL_holds 200 [some (.ref 0), some (.ref 67), some (zst p), some (.int (zi x)), some (.int (zi (x / 3))), some (.int (zi (x % 3))), some (.int (zi (snA σ x 0))), some (.int (zi (snA σ x 1))), some (.int (zi (snA σ x 2))), some (.int (zi (infA p x 4))), some (.int (zi (bndA p x))), some (.int (zi (srcA p x))), some (.int (zi (qckA p x))), some (.int (zi (infA p x 5)))] [] s P := fun s q0 t0 => by
    have j0 := hJ.q q0 t0
    refine Y.iload_n dL_holds_200 rfl ?_
    refine Y.ifz_ne 230 dL_holds_201 (by decide) (fun h_201 => ?_) (fun h_201 => ?_)
    · exact k230 _ q0 (by assumption)
    · obtain ⟨n1, n2, n3, n4⟩ := ans_n (x := x) (p := p) (Classical.byContradiction fun z => absurd z (by assumption))
      refine Y.iload dL_holds_204 rfl ?_
      refine Y.iconst dL_holds_206 ?_
      refine Y.icmp_ne 228 dL_holds_207 (by decide) (by omega) (by omega) (fun h_207 => ?_) (fun h_207 => ?_)
      · exfalso; omega
      refine Y.iload dL_holds_210 rfl ?_
      refine Y.iconst dL_holds_212 ?_
      refine Y.icmp_ne 228 dL_holds_213 (by decide) (by omega) (by omega) (fun h_213 => ?_) (fun h_213 => ?_)
      · exfalso; omega
      refine Y.iload dL_holds_216 rfl ?_
      refine Y.iconst dL_holds_218 ?_
      refine Y.icmp_ne 228 dL_holds_219 (by decide) (by omega) (by omega) (fun h_219 => ?_) (fun h_219 => ?_)
      · exfalso; omega
      refine Y.iload dL_holds_222 rfl ?_
      refine Y.iconst dL_holds_224 ?_
      refine Y.icmp_eq 230 dL_holds_225 (by decide) (by omega) (by omega) (fun h_225 => ?_) (fun h_225 => ?_)
      rotate_left
      · exfalso; omega
      exact k230 _ q0 (by assumption)
  have k115 : ∀ s : zS, EQ σ s → STL s → Y d μL_holds 115 [some (.ref 0), some (.ref 67), some (zst p), some (.int (zi x)), some (.int (zi (x / 3))), some (.int (zi (x % 3))), some (.int (zi (snA σ x 0))), some (.int (zi (snA σ x 1))), some (.int (zi (snA σ x 2))), some (.int (zi (infA p x 4))), some (.int (zi (bndA p x))), some (.int (zi (srcA p x))), some (.int (zi (qckA p x))), some (.int (zi (infA p x 5)))] [] s P := fun s q0 t0 => by
    have j0 := hJ.q q0 t0
    obtain ⟨kf1, kf2⟩ := hK.q q0
    obtain ⟨_, k18, _, k36, k45⟩ := (kf2 x h0 h9).1 ht
    rcases hRx with ⟨r1, r2, r3⟩ | ⟨r1, r2, r3, _⟩
    · refine Y.iload dL_holds_115 rfl ?_
      refine Y.aload_n dL_holds_117 rfl ?_
      refine Y.bipush dL_holds_118 (by decide +kernel) ?_
      refine Y.iload_n dL_holds_120 rfl ?_
      refine Y.iadd dL_holds_121 ?_
      refine Y.iald dL_holds_122 ia67 (by omega) (by omega) ?_
      rw [k45]
      refine Y.icmp_ne 198 dL_holds_123 (by decide) (by omega) (by omega) (fun h_123 => ?_) (fun h_123 => ?_)
      · exfalso; omega
      refine Y.iload dL_holds_126 rfl ?_
      refine Y.if_ne 135 dL_holds_128 (by decide) (by omega) (fun h_128 => ?_) (fun h_128 => ?_)
      · exfalso; omega
      refine Y.iconst dL_holds_131 ?_
      refine Y.goto 136 dL_holds_132 (by decide) ?_
      refine Y.iload dL_holds_136 rfl ?_
      refine Y.if_ge 145 dL_holds_138 (by decide) (by omega) (fun h_138 => ?_) (fun h_138 => ?_)
      · exfalso; omega
      refine Y.iconst dL_holds_141 ?_
      refine Y.goto 146 dL_holds_142 (by decide) ?_
      refine Y.icmp_ne 198 dL_holds_146 (by decide) (by omega) (by omega) (fun h_146 => ?_) (fun h_146 => ?_)
      · exfalso; omega
      refine Y.iload dL_holds_149 rfl ?_
      refine Y.if_ge 158 dL_holds_151 (by decide) (by omega) (fun h_151 => ?_) (fun h_151 => ?_)
      · exfalso; omega
      refine Y.iconst dL_holds_154 ?_
      refine Y.goto 159 dL_holds_155 (by decide) ?_
      refine Y.iload dL_holds_159 rfl ?_
      refine Y.if_ge 168 dL_holds_161 (by decide) (by omega) (fun h_161 => ?_) (fun h_161 => ?_)
      · exfalso; omega
      refine Y.iconst dL_holds_164 ?_
      refine Y.goto 169 dL_holds_165 (by decide) ?_
      refine Y.icmp_ne 198 dL_holds_169 (by decide) (by omega) (by omega) (fun h_169 => ?_) (fun h_169 => ?_)
      · exfalso; omega
      refine Y.iload dL_holds_172 rfl ?_
      refine Y.if_le 200 dL_holds_174 (by decide) (by omega) (fun h_174 => ?_) (fun h_174 => ?_)
      rotate_left
      · exfalso; omega
      exact k200 _ q0 (by assumption)
    · refine Y.iload dL_holds_115 rfl ?_
      refine Y.aload_n dL_holds_117 rfl ?_
      refine Y.bipush dL_holds_118 (by decide +kernel) ?_
      refine Y.iload_n dL_holds_120 rfl ?_
      refine Y.iadd dL_holds_121 ?_
      refine Y.iald dL_holds_122 ia67 (by omega) (by omega) ?_
      rw [k45]
      refine Y.icmp_ne 198 dL_holds_123 (by decide) (by omega) (by omega) (fun h_123 => ?_) (fun h_123 => ?_)
      · exfalso; omega
      refine Y.iload dL_holds_126 rfl ?_
      refine Y.if_ne 135 dL_holds_128 (by decide) (by omega) (fun h_128 => ?_) (fun h_128 => ?_)
      rotate_left
      · exfalso; omega
      refine Y.iconst dL_holds_135 ?_
      refine Y.iload dL_holds_136 rfl ?_
      refine Y.if_ge 145 dL_holds_138 (by decide) (by omega) (fun h_138 => ?_) (fun h_138 => ?_)
      rotate_left
      · exfalso; omega
      refine Y.iconst dL_holds_145 ?_
      refine Y.icmp_ne 198 dL_holds_146 (by decide) (by omega) (by omega) (fun h_146 => ?_) (fun h_146 => ?_)
      · exfalso; omega
      refine Y.iload dL_holds_149 rfl ?_
      refine Y.if_ge 158 dL_holds_151 (by decide) (by omega) (fun h_151 => ?_) (fun h_151 => ?_)
      rotate_left
      · exfalso; omega
      refine Y.iconst dL_holds_158 ?_
      refine Y.iload dL_holds_159 rfl ?_
      refine Y.if_ge 168 dL_holds_161 (by decide) (by omega) (fun h_161 => ?_) (fun h_161 => ?_)
      rotate_left
      · exfalso; omega
      refine Y.iconst dL_holds_168 ?_
      refine Y.icmp_ne 198 dL_holds_169 (by decide) (by omega) (by omega) (fun h_169 => ?_) (fun h_169 => ?_)
      · exfalso; omega
      refine Y.iload dL_holds_172 rfl ?_
      refine Y.if_le 200 dL_holds_174 (by decide) (by omega) (fun h_174 => ?_) (fun h_174 => ?_)
      · exfalso; omega
      refine Y.iload dL_holds_177 rfl ?_
      refine Y.iload dL_holds_179 rfl ?_
      refine Y.icmp_gt 198 dL_holds_181 (by decide) (by omega) (by omega) (fun h_181 => ?_) (fun h_181 => ?_)
      · exfalso; omega
      refine Y.iload dL_holds_184 rfl ?_
      refine Y.iload dL_holds_186 rfl ?_
      refine Y.aload_n dL_holds_188 rfl ?_
      refine Y.bipush dL_holds_189 (by decide +kernel) ?_
      refine Y.iload_n dL_holds_191 rfl ?_
      refine Y.iadd dL_holds_192 ?_
      refine Y.iald dL_holds_193 ia67 (by omega) (by omega) ?_
      rw [k18]
      refine Y.iadd dL_holds_194 ?_
      refine Y.icmp_ge 200 dL_holds_195 (by decide) (by omega) (by omega) (fun h_195 => ?_) (fun h_195 => ?_)
      rotate_left
      · exfalso; omega
      exact k200 _ q0 (by assumption)
  refine Y.iload_n dL_holds_20 rfl ?_
  refine Y.iconst dL_holds_21 ?_
  refine Y.idivp dL_holds_22 (by omega) (by omega) (by omega) (by omega) ?_
  refine Y.istore dL_holds_23 (by decide) rfl ?_
  refine Y.iload_n dL_holds_25 rfl ?_
  refine Y.iconst dL_holds_26 ?_
  refine Y.iremp dL_holds_27 (by omega) (by omega) (by omega) (by omega) ?_
  refine Y.istore dL_holds_28 (by decide) rfl ?_
  refine Y.aload_n dL_holds_30 rfl ?_
  refine Y.iload dL_holds_31 rfl ?_
  refine Y.iload dL_holds_33 rfl ?_
  refine Y.iconst dL_holds_35 ?_
  refine Y.cVI dL_holds_36 mkX4_seen csL_29 ob0 ⟨_, rfl, rfl⟩ (k_L_seen hJ (x := x) hx (by omega) (by omega) (by omega) (by omega) ht (by omega)) (by omega) rfl rfl (Nat.le_of_ble_eq_true rfl) ?_
  refine Y.istore dL_holds_39 (by decide) rfl ?_
  refine Y.aload_n dL_holds_41 rfl ?_
  refine Y.iload dL_holds_42 rfl ?_
  refine Y.iload dL_holds_44 rfl ?_
  refine Y.iconst dL_holds_46 ?_
  refine Y.cVI dL_holds_47 mkX4_seen csL_29 ob0 ⟨_, rfl, rfl⟩ (k_L_seen hJ (x := x) hx (by omega) (by omega) (by omega) (by omega) ht (by omega)) (by omega) rfl rfl (Nat.le_of_ble_eq_true rfl) ?_
  refine Y.istore dL_holds_50 (by decide) rfl ?_
  refine Y.aload_n dL_holds_52 rfl ?_
  refine Y.iload dL_holds_53 rfl ?_
  refine Y.iload dL_holds_55 rfl ?_
  refine Y.iconst dL_holds_57 ?_
  refine Y.cVI dL_holds_58 mkX4_seen csL_29 ob0 ⟨_, rfl, rfl⟩ (k_L_seen hJ (x := x) hx (by omega) (by omega) (by omega) (by omega) ht (by omega)) (by omega) rfl rfl (Nat.le_of_ble_eq_true rfl) ?_
  refine Y.istore dL_holds_61 (by decide) rfl ?_
  refine Y.aload_n dL_holds_63 rfl ?_
  refine Y.iload dL_holds_64 rfl ?_
  refine Y.iload dL_holds_66 rfl ?_
  refine Y.iconst dL_holds_68 ?_
  refine Y.cVQ dL_holds_69 mkX4_info csL_32 ob0 ⟨_, rfl, rfl⟩ (k_L_info hJ (k := 4) (x := x) hx (by omega) (by omega) (by omega) (by omega) ht (by omega)) (by omega) rfl rfl (Nat.le_of_ble_eq_true rfl) (fun s69 e69 t69 => ?_)
  have j69 := LJ.q hJ e69 t69
  have q69 := EQ.tr EQ.rf e69
  refine Y.istore dL_holds_72 (by decide) rfl ?_
  refine Y.aload_n dL_holds_74 rfl ?_
  refine Y.iload dL_holds_75 rfl ?_
  refine Y.iload dL_holds_77 rfl ?_
  refine Y.cVQ dL_holds_79 mkX4_bound csL_35 ob0 ⟨_, rfl, rfl⟩ (k_L_bound j69 (x := x) hx (by omega) (by omega) (by omega) (by omega) ht) (by omega) rfl rfl (Nat.le_of_ble_eq_true rfl) (fun s79 e79 t79 => ?_)
  have j79 := LJ.q j69 e79 t79
  have q79 := EQ.tr q69 e79
  refine Y.istore dL_holds_82 (by decide) rfl ?_
  refine Y.aload_n dL_holds_84 rfl ?_
  refine Y.iload dL_holds_85 rfl ?_
  refine Y.iload dL_holds_87 rfl ?_
  refine Y.cVQ dL_holds_89 mkX4_searched csL_38 ob0 ⟨_, rfl, rfl⟩ (k_L_searched j79 (x := x) hx (by omega) (by omega) (by omega) (by omega) ht) (by omega) rfl rfl (Nat.le_of_ble_eq_true rfl) (fun s89 e89 t89 => ?_)
  have j89 := LJ.q j79 e89 t89
  have q89 := EQ.tr q79 e89
  refine Y.istore dL_holds_92 (by decide) rfl ?_
  refine Y.aload_n dL_holds_94 rfl ?_
  refine Y.iload dL_holds_95 rfl ?_
  refine Y.iload dL_holds_97 rfl ?_
  refine Y.cVQ dL_holds_99 mkX4_quick csL_41 ob0 ⟨_, rfl, rfl⟩ (k_L_quick j89 (x := x) hx (by omega) (by omega) (by omega) (by omega) ht) (by omega) rfl rfl (Nat.le_of_ble_eq_true rfl) (fun s99 e99 t99 => ?_)
  have j99 := LJ.q j89 e99 t99
  have q99 := EQ.tr q89 e99
  refine Y.istore dL_holds_102 (by decide) rfl ?_
  refine Y.aload_n dL_holds_104 rfl ?_
  refine Y.iload dL_holds_105 rfl ?_
  refine Y.iload dL_holds_107 rfl ?_
  refine Y.iconst dL_holds_109 ?_
  refine Y.cVQ dL_holds_110 mkX4_info csL_32 ob0 ⟨_, rfl, rfl⟩ (k_L_info j99 (k := 5) (x := x) hx (by omega) (by omega) (by omega) (by omega) ht (by omega)) (by omega) rfl rfl (Nat.le_of_ble_eq_true rfl) (fun s110 e110 t110 => ?_)
  have j110 := LJ.q j99 e110 t110
  have q110 := EQ.tr q99 e110
  refine Y.istore dL_holds_113 (by decide) rfl ?_
  exact k115 _ q110 (by assumption)
set_option maxHeartbeats 1000000 in
theorem c_L_holds (hJ : LJ σ p) (hK : KF σ p) (hR : RF p σ) : YC 8 μL_holds [.ref 0, .ref 67, zst p] σ (fun r s => r = some (.int (zi 1)) ∧ EQ σ s ∧ STL s) := by
  refine YC.of2 (by decide) (Nat.le_of_ble_eq_true rfl) (fun d P hd hP => ?_)
  refine Y.iconst dL_holds_0 ?_
  refine Y.istore_n dL_holds_1 (by decide) rfl ?_
  refine zw2 (fun t x => (0 ≤ x ∧ x ≤ 9 ∧ EQ σ t ∧ STL t)) (fun t x => Y d μL_holds 2 [some (.ref 0), some (.ref 67), some (zst p), some (.int (zi x)), none, none, none, none, none, none, none, none, none, none] [] t P) (fun t x => (9 - x).toNat) ?_ _ _ ⟨by omega, by omega, EQ.rf, hJ.2.2⟩
  intro t x hI ih
  obtain ⟨x0, x9, hE, hT⟩ := hI
  refine Y.iload_n dL_holds_2 rfl ?_
  refine Y.bipush dL_holds_3 (by decide +kernel) ?_
  refine Y.icmp_ge 388 dL_holds_5 (by decide) (by omega) (by omega) (fun h_5 => ?_) (fun h_5 => ?_)
  · refine Y.iconst dL_holds_388 ?_
    exact Y.zret dL_holds_389 rfl (by decide) (hP _ _ ⟨rfl, hE, hT⟩)
  · have hJ' := hJ.q hE hT
    have hK' := hK.q hE
    have k382 : ∀ s : zS, EQ t s → STL s → Y d μL_holds 382 [some (.ref 0), some (.ref 67), some (zst p), some (.int (zi x)), none, none, none, none, none, none, none, none, none, none] [] s P := fun s q r => by
      refine Y.iinc dL_holds_382 rfl (by decide) rfl ?_
      refine Y.goto 2 dL_holds_385 (by decide) ?_
      exact ih s (x + 1) ⟨by omega, by omega, hE.tr q, r⟩ (by omega)
    refine Y.aload_n dL_holds_8 rfl ?_
    refine Y.bipush dL_holds_9 (by decide +kernel) ?_
    refine Y.iload_n dL_holds_11 rfl ?_
    refine Y.iadd dL_holds_12 ?_
    refine Y.iald dL_holds_13 ia67 (by omega) (by omega) ?_
    have h6 := (hJ.wp.2.1 x x0 (by omega)).1
    by_cases ht : th p x
    · rw [((hK'.2 x x0 (by omega)).1 ht).1]
      refine Y.if_ge 20 dL_holds_14 (by decide) (by omega) (fun h_14 => ?_) (fun h_14 => by omega)
      exact hd_x hd hJ' hK' (hR.q hE) x0 (by omega) ht k382
    · rw [(hK'.2 x x0 (by omega)).2 ht]
      refine Y.if_ge 20 dL_holds_14 (by decide) (by omega) (fun h_14 => by omega) (fun h_14 => ?_)
      refine Y.goto 382 dL_holds_17 (by decide) ?_
      exact k382 t EQ.rf hT
end ZHO
