section ZW3
variable {nm ds : String} {X : State → (Nat → Nat) → (Nat → Prop) → Nat → Prop} {mc ms kc ks d : Nat} {P : Option Value → zH → Prop} {σ : zS} {p : zP} {t : Int}
set_option maxHeartbeats 4000000 in
theorem lw_296 {r q h i : Int} (hd : 10 ≤ d) (hk : kc ≤ mc ∧ ks ≤ ms) (hJ : LJ σ p) (hK : KF σ p) (hR : RD p h σ) (h2 : ∀ y : Int, 0 ≤ y → y < 3 → 1 ≤ p 2 y ∧ p 2 y ≤ 200) (i0 : 0 ≤ i) (i3 : i < 3) (k420 : ∀ s : zS, EQ σ s → STL s → YX X mc ms kc ks d (μL nm ds) 420 [some (.ref 9004), some (.ref 67), some (.int (zi (t))), some (.ref 0), some (.int (zi (zb (SR p ≠ none)))), some (.int (zi (r))), some (.int (zi (q))), some (.int (zi (h))), some (.int (zi (bts (metP p)))), some (.int (zi (i))), none, none, none] [] s P) : YX X mc ms kc ks d (μL nm ds) 296 [some (.ref 9004), some (.ref 67), some (.int (zi (t))), some (.ref 0), some (.int (zi (zb (SR p ≠ none)))), some (.int (zi (r))), some (.int (zi (q))), some (.int (zi (h))), some (.int (zi (bts (metP p)))), some (.int (zi (i))), none, none, none] [] σ P := by
  have hp : WP p := hJ.wp
  have K6 : σ.1 67 (6 + i) = p 5 i := (hK.1 i i0 i3).2
  have h5 := (hp.1 i i0 i3).2.2.2.2.2
  have h2i := h2 i i0 i3
  have hth : 0 < p 5 i → th p (i * 3 + (p 5 i - 1)) := fun z => by
    have := (last_th hp i0 i3 z).2.2
    rw [show i * 3 + p 5 i - 1 = i * 3 + (p 5 i - 1) by omega] at this
    exact this
  have hbb : 0 < p 5 i → -1 ≤ bndA p (i * 3 + (p 5 i - 1)) ∧ bndA p (i * 3 + (p 5 i - 1)) ≤ 746 := fun z => by
    have := bndA_b hp (x := i * 3 + (p 5 i - 1)) (by omega) (by omega) (hth z)
    omega
  by_cases hm : metP p i
  · obtain ⟨hs, ⟨d5, d2⟩, hle⟩ := id hm
    have ht := hth d5
    have hb := hbb d5
    rw [show i * 3 + p 5 i - 1 = i * 3 + (p 5 i - 1) by omega] at hle
    obtain ⟨a1, a2, _, a4, _, _, _, a8, l, hS, eS⟩ := ans_s hp (x := i * 3 + (p 5 i - 1)) (by omega) (by omega) ht hs
    have hmost : snA σ (i * 3 + (p 5 i - 1)) 0 ≤ srcA p (i * 3 + (p 5 i - 1)) := by
      show σ.1 43 _ ≤ _
      rcases (hR.1 (i * 3 + (p 5 i - 1)) (by omega) (by omega) ht).1 with z | z
      · have := hp.2.2 _ (by omega) (by omega) ht
        have := ear_b hp (x := i * 3 + (p 5 i - 1)) (by omega) (by omega)
        omega
      · rw [eS]; exact z.2.2.2 l hS
    have hsn : zB (snA σ (i * 3 + (p 5 i - 1)) 0) := by
      have hq : snA σ (i * 3 + (p 5 i - 1)) 0 = σ.1 43 (i * 3 + (p 5 i - 1)) := rfl
      have h1 := hp.2.2 _ (by omega) (by omega) ht
      have h2 := ear_b hp (x := i * 3 + (p 5 i - 1)) (by omega) (by omega)
      have h3 := hR.1 (i * 3 + (p 5 i - 1)) (by omega) (by omega) ht
      omega
    refine YX.iload dL_law_296 rfl ?_
    refine YX.iload dL_law_298 rfl ?_
    refine YX.ishr_ dL_law_300 ?_
    refine YX.iconst dL_law_301 ?_
    refine YX.iand_ dL_law_302 ?_
    rw [bts_i (metP p) i0 i3, zb_t hm]
    refine YX.iconst dL_law_303 ?_
    refine YX.icmp_ne 311 dL_law_304 (by decide) (by omega) (by omega) (fun h_304 => ?_) (fun h_304 => ?_)
    · exfalso; omega
    refine YX.iconst dL_law_307 ?_
    refine YX.goto 312 dL_law_308 (by decide) ?_
    refine YX.istore dL_law_312 (Nat.le_of_ble_eq_true rfl) rfl ?_
    refine YX.iload dL_law_314 rfl ?_
    refine YX.if_eq 360 dL_law_316 (by decide) (by omega) (fun h_316 => ?_) (fun h_316 => ?_)
    · exfalso; omega
    refine YX.aload_n dL_law_319 rfl ?_
    refine YX.bipush dL_law_320 (by decide +kernel) ?_
    refine YX.iload dL_law_322 rfl ?_
    refine YX.iadd dL_law_324 ?_
    refine YX.iald dL_law_325 ia67 (by omega) (by omega) ?_
    rw [K6]
    refine YX.if_eq 418 dL_law_326 (by decide) (by omega) (fun h_326 => ?_) (fun h_326 => ?_)
    · exfalso; omega
    refine YX.iload dL_law_329 rfl ?_
    refine YX.ifz_eq 418 dL_law_331 (by decide) (fun h_331 => ?_) (fun h_331 => ?_)
    · exfalso; exact h_331 hs
    refine YX.aload_n dL_law_334 rfl ?_
    refine YX.iload dL_law_335 rfl ?_
    refine YX.aload_n dL_law_337 rfl ?_
    refine YX.bipush dL_law_338 (by decide +kernel) ?_
    refine YX.iload dL_law_340 rfl ?_
    refine YX.iadd dL_law_342 ?_
    refine YX.iald dL_law_343 ia67 (by omega) (by omega) ?_
    rw [K6]
    refine YX.iconst dL_law_344 ?_
    refine YX.isub dL_law_345 ?_
    refine YX.iconst dL_law_346 ?_
    refine YX.cVI hk dL_law_347 mkX4_seen csL_29 ob0 ⟨_, rfl, rfl⟩ (k_L_seen hJ (x := i * 3 + (p 5 i - 1)) rfl i0 (by omega) (by omega) (by omega) ht (by omega)) (by omega) rfl rfl (Nat.le_of_ble_eq_true rfl) ?_
    refine YX.aload_n dL_law_350 rfl ?_
    refine YX.iload dL_law_351 rfl ?_
    refine YX.iconst dL_law_353 ?_
    refine YX.cVI hk dL_law_354 mkX4_has csL_67 ob0 ⟨_, rfl, rfl⟩ (k_L_has 2 hJ i0 i3 (by omega)) (by omega) rfl rfl (Nat.le_of_ble_eq_true rfl) ?_
    refine YX.icmp_gt 418 dL_law_357 (by decide) (by omega) (by omega) (fun h_357 => ?_) (fun h_357 => ?_)
    · exfalso; omega
    refine YX.aload_n dL_law_360 rfl ?_
    refine YX.bipush dL_law_361 (by decide +kernel) ?_
    refine YX.iload dL_law_363 rfl ?_
    refine YX.iadd dL_law_365 ?_
    refine YX.iald dL_law_366 ia67 (by omega) (by omega) ?_
    rw [K6]
    refine YX.if_le 420 dL_law_367 (by decide) (by omega) (fun h_367 => ?_) (fun h_367 => ?_)
    · exfalso; omega
    refine YX.iload dL_law_370 rfl ?_
    refine YX.ifz_eq 420 dL_law_372 (by decide) (fun h_372 => ?_) (fun h_372 => ?_)
    · exfalso; exact h_372 hs
    refine YX.iload dL_law_375 rfl ?_
    refine YX.if_ne 384 dL_law_377 (by decide) (by omega) (fun h_377 => ?_) (fun h_377 => ?_)
    rotate_left
    · exfalso; omega
    refine YX.iconst dL_law_384 ?_
    refine YX.aload_n dL_law_385 rfl ?_
    refine YX.iload dL_law_386 rfl ?_
    refine YX.aload_n dL_law_388 rfl ?_
    refine YX.bipush dL_law_389 (by decide +kernel) ?_
    refine YX.iload dL_law_391 rfl ?_
    refine YX.iadd dL_law_393 ?_
    refine YX.iald dL_law_394 ia67 (by omega) (by omega) ?_
    rw [K6]
    refine YX.iconst dL_law_395 ?_
    refine YX.isub dL_law_396 ?_
    refine YX.cVQ hk dL_law_397 mkX4_bound csL_35 ob0 ⟨_, rfl, rfl⟩ (k_L_bound hJ (x := i * 3 + (p 5 i - 1)) rfl i0 (by omega) (by omega) (by omega) ht) (by omega) rfl rfl (Nat.le_of_ble_eq_true rfl) (fun s397 e397 t397 => ?_)
    have j397 := LJ.q hJ e397 t397
    have q397 := EQ.tr EQ.rf e397
    refine YX.aload_n dL_law_400 rfl ?_
    refine YX.iload dL_law_401 rfl ?_
    refine YX.iconst dL_law_403 ?_
    refine YX.cVI hk dL_law_404 mkX4_has csL_67 ob0 ⟨_, rfl, rfl⟩ (k_L_has 2 j397 i0 i3 (by omega)) (by omega) rfl rfl (Nat.le_of_ble_eq_true rfl) ?_
    refine YX.icmp_le 414 dL_law_407 (by decide) (by omega) (by omega) (fun h_407 => ?_) (fun h_407 => ?_)
    rotate_left
    · exfalso; omega
    refine YX.iconst dL_law_414 ?_
    refine YX.icmp_eq 420 dL_law_415 (by decide) (by omega) (by omega) (fun h_415 => ?_) (fun h_415 => ?_)
    rotate_left
    · exfalso; omega
    exact YX.sub (zs_s (zs_s (zs_s (zs_s (zs_s (zs_s (zs_s (zs_s (zs_s (zs_s (zs_n (zs_n (zs_n zs_0))))))))))))) (k420 _ q397 (by first | assumption | exact hJ.2.2))
  · refine YX.iload dL_law_296 rfl ?_
    refine YX.iload dL_law_298 rfl ?_
    refine YX.ishr_ dL_law_300 ?_
    refine YX.iconst dL_law_301 ?_
    refine YX.iand_ dL_law_302 ?_
    rw [bts_i (metP p) i0 i3, zb_f hm]
    refine YX.iconst dL_law_303 ?_
    refine YX.icmp_ne 311 dL_law_304 (by decide) (by omega) (by omega) (fun h_304 => ?_) (fun h_304 => ?_)
    rotate_left
    · exfalso; omega
    refine YX.iconst dL_law_311 ?_
    refine YX.istore dL_law_312 (Nat.le_of_ble_eq_true rfl) rfl ?_
    refine YX.iload dL_law_314 rfl ?_
    refine YX.if_eq 360 dL_law_316 (by decide) (by omega) (fun h_316 => ?_) (fun h_316 => ?_)
    rotate_left
    · exfalso; omega
    refine YX.aload_n dL_law_360 rfl ?_
    refine YX.bipush dL_law_361 (by decide +kernel) ?_
    refine YX.iload dL_law_363 rfl ?_
    refine YX.iadd dL_law_365 ?_
    refine YX.iald dL_law_366 ia67 (by omega) (by omega) ?_
    rw [K6]
    refine YX.if_le 420 dL_law_367 (by decide) (by omega) (fun h_367 => ?_) (fun h_367 => ?_)
    · exact YX.sub (zs_s (zs_s (zs_s (zs_s (zs_s (zs_s (zs_s (zs_s (zs_s (zs_s (zs_n (zs_n (zs_n zs_0))))))))))))) (k420 _ EQ.rf (by first | assumption | exact hJ.2.2))
    · refine YX.iload dL_law_370 rfl ?_
      refine YX.ifz_eq 420 dL_law_372 (by decide) (fun h_372 => ?_) (fun h_372 => ?_)
      · exact YX.sub (zs_s (zs_s (zs_s (zs_s (zs_s (zs_s (zs_s (zs_s (zs_s (zs_s (zs_n (zs_n (zs_n zs_0))))))))))))) (k420 _ EQ.rf (by first | assumption | exact hJ.2.2))
      · refine YX.iload dL_law_375 rfl ?_
        refine YX.if_ne 384 dL_law_377 (by decide) (by omega) (fun h_377 => ?_) (fun h_377 => ?_)
        · exfalso; omega
        refine YX.iconst dL_law_380 ?_
        refine YX.goto 385 dL_law_381 (by decide) ?_
        refine YX.aload_n dL_law_385 rfl ?_
        refine YX.iload dL_law_386 rfl ?_
        refine YX.aload_n dL_law_388 rfl ?_
        refine YX.bipush dL_law_389 (by decide +kernel) ?_
        refine YX.iload dL_law_391 rfl ?_
        refine YX.iadd dL_law_393 ?_
        refine YX.iald dL_law_394 ia67 (by omega) (by omega) ?_
        rw [K6]
        have ht := hth (by omega)
        have hb := hbb (by omega)
        have hgt : p 2 i < bndA p (i * 3 + (p 5 i - 1)) := Int.lt_of_not_ge (fun z => hm ⟨by assumption, ⟨by omega, by omega⟩, by rw [show i * 3 + p 5 i - 1 = i * 3 + (p 5 i - 1) by omega]; exact z⟩)
        refine YX.iconst dL_law_395 ?_
        refine YX.isub dL_law_396 ?_
        refine YX.cVQ hk dL_law_397 mkX4_bound csL_35 ob0 ⟨_, rfl, rfl⟩ (k_L_bound hJ (x := i * 3 + (p 5 i - 1)) rfl i0 (by omega) (by omega) (by omega) ht) (by omega) rfl rfl (Nat.le_of_ble_eq_true rfl) (fun s397 e397 t397 => ?_)
        have j397 := LJ.q hJ e397 t397
        have q397 := EQ.tr EQ.rf e397
        refine YX.aload_n dL_law_400 rfl ?_
        refine YX.iload dL_law_401 rfl ?_
        refine YX.iconst dL_law_403 ?_
        refine YX.cVI hk dL_law_404 mkX4_has csL_67 ob0 ⟨_, rfl, rfl⟩ (k_L_has 2 j397 i0 i3 (by omega)) (by omega) rfl rfl (Nat.le_of_ble_eq_true rfl) ?_
        refine YX.icmp_le 414 dL_law_407 (by decide) (by omega) (by omega) (fun h_407 => ?_) (fun h_407 => ?_)
        · exfalso; omega
        refine YX.iconst dL_law_410 ?_
        refine YX.goto 415 dL_law_411 (by decide) ?_
        refine YX.icmp_eq 420 dL_law_415 (by decide) (by omega) (by omega) (fun h_415 => ?_) (fun h_415 => ?_)
        rotate_left
        · exfalso; omega
        exact YX.sub (zs_s (zs_s (zs_s (zs_s (zs_s (zs_s (zs_s (zs_s (zs_s (zs_s (zs_n (zs_n (zs_n zs_0))))))))))))) (k420 _ q397 (by first | assumption | exact hJ.2.2))
set_option maxHeartbeats 4000000 in
theorem lw_281 {r q h : Int} (hd : 10 ≤ d) (hk : kc ≤ mc ∧ ks ≤ ms) (hJ : LJ σ p) (hK : KF σ p) (hR : RD p h σ) (h2 : ∀ y : Int, 0 ≤ y → y < 3 → 1 ≤ p 2 y ∧ p 2 y ≤ 200) (k426 : ∀ s : zS, EQ σ s → STL s → YX X mc ms kc ks d (μL nm ds) 426 [some (.ref 9004), some (.ref 67), some (.int (zi (t))), some (.ref 0), some (.int (zi (zb (SR p ≠ none)))), some (.int (zi (r))), some (.int (zi (q))), some (.int (zi (h))), none, none, none, none, none] [] s P) : YX X mc ms kc ks d (μL nm ds) 281 [some (.ref 9004), some (.ref 67), some (.int (zi (t))), some (.ref 0), some (.int (zi (zb (SR p ≠ none)))), some (.int (zi (r))), some (.int (zi (q))), some (.int (zi (h))), none, none, none, none, none] [] σ P := by
  refine YX.aload_n dL_law_281 rfl ?_
  refine YX.cVQ hk dL_law_282 mkX4_meets csL_64 ob0 ⟨_, rfl, rfl⟩ (k_L_meets hJ ) (by omega) rfl rfl (Nat.le_of_ble_eq_true rfl) (fun s282 e282 t282 => ?_)
  have j282 := LJ.q hJ e282 t282
  have q282 := EQ.tr EQ.rf e282
  refine YX.istore dL_law_285 (Nat.le_of_ble_eq_true rfl) rfl ?_
  refine YX.iconst dL_law_287 ?_
  refine YX.istore dL_law_288 (Nat.le_of_ble_eq_true rfl) rfl ?_
  refine zw2 (fun s i => (0 ≤ i ∧ i ≤ 3 ∧ EQ σ s ∧ STL s)) (fun s i => YX X mc ms kc ks d (μL nm ds) 290 [some (.ref 9004), some (.ref 67), some (.int (zi (t))), some (.ref 0), some (.int (zi (zb (SR p ≠ none)))), some (.int (zi (r))), some (.int (zi (q))), some (.int (zi (h))), some (.int (zi (bts (metP p)))), some (.int (zi (i))), none, none, none] [] s P) (fun s i => (3 - i).toNat) ?_ _ _ ⟨by omega, by omega, e282, t282⟩
  intro s i hI ih
  obtain ⟨i0, i3, sE, sT⟩ := hI
  refine YX.iload dL_law_290 rfl ?_
  refine YX.iconst dL_law_292 ?_
  refine YX.icmp_ge 426 dL_law_293 (by decide) (by omega) (by omega) (fun _ => ?_) (fun _ => ?_)
  · exact YX.sub (zs_s (zs_s (zs_s (zs_s (zs_s (zs_s (zs_s (zs_s (zs_n (zs_n (zs_n (zs_n (zs_n zs_0))))))))))))) (k426 s sE sT)
  · refine lw_296 hd hk (hJ.q sE sT) (hK.q sE) (hR.q sE) h2 i0 (by omega) (fun u uE uT => ?_)
    refine YX.iinc dL_law_420 rfl (Nat.le_of_ble_eq_true rfl) rfl ?_
    refine YX.goto 290 dL_law_423 (by decide) ?_
    exact ih u (i + 1) ⟨by omega, by omega, sE.tr uE, uT⟩ (by omega)
noncomputable def SA1 (p : zP) (g : zS) (x : Int) : Int := sm (fun y => zb (th p y) * (g.1 45 y * p 7 y)) 0 (x - 0).toNat
noncomputable def SA2 (p : zP) (x : Int) : Int := sm (fun y => zb (th p y) * (p 7 y - 1)) 0 (x - 0).toNat
theorem SA1_s {g : zS} {x : Int} (h : 0 ≤ x) : SA1 p g (x + 1) = SA1 p g x + zb (th p x) * (g.1 45 x * p 7 x) := sm_s h
theorem SA2_s {x : Int} (h : 0 ≤ x) : SA2 p (x + 1) = SA2 p x + zb (th p x) * (p 7 x - 1) := sm_s h
set_option maxHeartbeats 4000000 in
theorem lw_426 {r q h : Int} (hd : 10 ≤ d) (hk : kc ≤ mc ∧ ks ≤ ms) (h1 : 1 ≤ h) (h3 : h ≤ 300) (hJ : LJ σ p) (hK : KF σ p) (hR : RD p h σ) (k567 : ∀ s : zS, EQ σ s → STL s → YX X mc ms kc ks d (μL nm ds) 567 [some (.ref 9004), some (.ref 67), some (.int (zi (t))), some (.ref 0), some (.int (zi (zb (SR p ≠ none)))), some (.int (zi (r))), none, none, none, none, none, none, none] [] s P) : YX X mc ms kc ks d (μL nm ds) 426 [some (.ref 9004), some (.ref 67), some (.int (zi (t))), some (.ref 0), some (.int (zi (zb (SR p ≠ none)))), some (.int (zi (r))), some (.int (zi (q))), some (.int (zi (h))), none, none, none, none, none] [] σ P := by
  have hp : WP p := hJ.wp
  obtain ⟨hRF, h38, ⟨hd1, hd2⟩, hbb, h45⟩ := id hR
  have e9a : sm (fun y => zb (th p y) * (σ.1 45 y * p 7 y)) 0 9 = SA1 p σ 9 := rfl
  have e9b : sm (fun y => zb (th p y) * (p 7 y - 1)) 0 9 = SA2 p 9 := rfl
  rw [e9a] at hd1 hd2
  rw [e9b] at hd2
  have hA9 : 0 ≤ SA1 p σ 9 := (sm_at 9 (fun y a b => by
    by_cases z : th p y
    · rw [zb_t z, Int.one_mul]
      exact Int.mul_nonneg (h45 y a (by omega)) (hp.2.1 y a (by omega)).2.1.1
    · rw [zb_f z]; omega)).1
  have hB9 : 0 ≤ SA2 p 9 ∧ SA2 p 9 ≤ 400 := by
    have := sm_b (f := fun y => zb (th p y) * (p 7 y - 1)) (a := 0) (lo := 0) (hi := 27) 9 (fun y a b => by
      have h7 := (hp.2.1 y a (by omega)).2.1
      by_cases z : th p y
      · have := hp.2.2 y a (by omega) z
        rw [zb_t z]; omega
      · rw [zb_f z]; omega)
    have e : sm (fun y => zb (th p y) * (p 7 y - 1)) 0 9 = SA2 p 9 := rfl
    omega
  refine YX.iconst dL_law_426 ?_
  refine YX.istore dL_law_427 (Nat.le_of_ble_eq_true rfl) rfl ?_
  refine YX.iconst dL_law_429 ?_
  refine YX.istore dL_law_430 (Nat.le_of_ble_eq_true rfl) rfl ?_
  refine YX.iconst dL_law_432 ?_
  refine YX.istore dL_law_433 (Nat.le_of_ble_eq_true rfl) rfl ?_
  refine YX.iconst dL_law_435 ?_
  refine YX.istore dL_law_436 (Nat.le_of_ble_eq_true rfl) rfl ?_
  refine zw1 (fun x => (0 ≤ x ∧ x ≤ 9)) (fun x => YX X mc ms kc ks d (μL nm ds) 438 [some (.ref 9004), some (.ref 67), some (.int (zi (t))), some (.ref 0), some (.int (zi (zb (SR p ≠ none)))), some (.int (zi (r))), some (.int (zi (q))), some (.int (zi (h))), none, some (.int (zi (0))), some (.int (zi (SA1 p σ x))), some (.int (zi (SA2 p x))), some (.int (zi (x)))] [] σ P) (fun x => (9 - x).toNat) ?_ (0 : Int) ⟨by omega, by omega⟩
  intro x hI ih
  obtain ⟨x0, x9⟩ := hI
  refine YX.iload dL_law_438 rfl ?_
  refine YX.bipush dL_law_440 (by decide +kernel) ?_
  refine YX.icmp_ge 519 dL_law_442 (by decide) (by omega) (by omega) (fun h_442 => ?_) (fun h_442 => ?_)
  · obtain rfl : x = 9 := by omega
    refine YX.iconst dL_law_519 ?_
    refine YX.iload dL_law_520 rfl ?_
    refine YX.imul dL_law_522 ?_
    refine YX.aload_n dL_law_523 rfl ?_
    refine YX.iconst dL_law_524 ?_
    refine YX.cVQ hk dL_law_525 mkX4_count csL_53 ob0 ⟨_, rfl, rfl⟩ (k_L_count 4 hJ (by omega)) (by omega) rfl rfl (Nat.le_of_ble_eq_true rfl) (fun s525 e525 t525 => ?_)
    have j525 := LJ.q hJ e525 t525
    have q525 := EQ.tr EQ.rf e525
    have c4 : cntA σ p 4 = σ.1 39 0 := rfl
    rw [c4]
    refine YX.isub dL_law_528 ?_
    refine YX.aload_n dL_law_529 rfl ?_
    refine YX.iconst dL_law_530 ?_
    refine YX.cVQ hk dL_law_531 mkX4_count csL_53 ob0 ⟨_, rfl, rfl⟩ (k_L_count 5 j525 (by omega)) (by omega) rfl rfl (Nat.le_of_ble_eq_true rfl) (fun s531 e531 t531 => ?_)
    have j531 := LJ.q j525 e531 t531
    have q531 := EQ.tr q525 e531
    have c5 : cntA s525 p 5 = σ.1 39 1 := by show s525.1 39 1 = _; rw [e525.2 39 (by omega)]
    rw [c5]
    refine YX.isub dL_law_534 ?_
    refine YX.istore dL_law_535 (Nat.le_of_ble_eq_true rfl) rfl ?_
    refine YX.iload dL_law_537 rfl ?_
    refine YX.iload dL_law_539 rfl ?_
    refine YX.icmp_lt 565 dL_law_541 (by decide) (by omega) (by omega) (fun h_541 => ?_) (fun h_541 => ?_)
    · exfalso; omega
    refine YX.iload dL_law_544 rfl ?_
    refine YX.iload dL_law_546 rfl ?_
    refine YX.iload dL_law_548 rfl ?_
    refine YX.iadd dL_law_550 ?_
    refine YX.icmp_gt 565 dL_law_551 (by decide) (by omega) (by omega) (fun h_551 => ?_) (fun h_551 => ?_)
    · exfalso; omega
    refine YX.aload_n dL_law_554 rfl ?_
    refine YX.bipush dL_law_555 (by decide +kernel) ?_
    refine YX.cVQ hk dL_law_557 mkX4_count csL_53 ob0 ⟨_, rfl, rfl⟩ (k_L_count 6 j531 (by omega)) (by omega) rfl rfl (Nat.le_of_ble_eq_true rfl) (fun s557 e557 t557 => ?_)
    have j557 := LJ.q j531 e557 t557
    have q557 := EQ.tr q531 e557
    have c6 : cntA s531 p 6 = h := by show s531.1 38 0 = _; rw [q531.2 38 (by omega)]; exact h38
    rw [c6]
    refine YX.iload dL_law_560 rfl ?_
    refine YX.icmp_eq 567 dL_law_562 (by decide) (by omega) (by omega) (fun h_562 => ?_) (fun h_562 => ?_)
    rotate_left
    · exfalso; omega
    exact YX.sub (zs_s (zs_s (zs_s (zs_s (zs_s (zs_s (zs_n (zs_n (zs_n (zs_n (zs_n (zs_n (zs_n zs_0))))))))))))) (k567 _ q557 (by assumption))
  · by_cases ht : th p x
    · obtain ⟨k9, k18, _⟩ := (hK.2 x x0 (by omega)).1 ht
      have h6 := (hp.2.1 x x0 (by omega)).1
      refine YX.iload dL_law_445 rfl ?_
      refine YX.aload_n dL_law_447 rfl ?_
      refine YX.bipush dL_law_448 (by decide +kernel) ?_
      refine YX.iload dL_law_450 rfl ?_
      refine YX.iadd dL_law_452 ?_
      refine YX.iald dL_law_453 ia67 (by omega) (by omega) ?_
      rw [k9]
      refine YX.if_ge 461 dL_law_454 (by decide) (by omega) (fun h_454 => ?_) (fun h_454 => ?_)
      rotate_left
      · exfalso; omega
      refine YX.aload_n dL_law_461 rfl ?_
      refine YX.iload dL_law_462 rfl ?_
      refine YX.iconst dL_law_464 ?_
      refine YX.idivp dL_law_465 (by omega) (by omega) (by omega) (by omega) ?_
      refine YX.iload dL_law_466 rfl ?_
      refine YX.iconst dL_law_468 ?_
      refine YX.iremp dL_law_469 (by omega) (by omega) (by omega) (by omega) ?_
      refine YX.iconst dL_law_470 ?_
      refine YX.cVI hk dL_law_471 mkX4_seen csL_29 ob0 ⟨_, rfl, rfl⟩ (k_L_seen hJ (x := x) (by omega) (by omega) (by omega) (by omega) (by omega) ht (by omega)) (by omega) rfl rfl (Nat.le_of_ble_eq_true rfl) ?_
      refine YX.aload_n dL_law_474 rfl ?_
      refine YX.bipush dL_law_475 (by decide +kernel) ?_
      refine YX.iload dL_law_477 rfl ?_
      refine YX.iadd dL_law_479 ?_
      refine YX.iald dL_law_480 ia67 (by omega) (by omega) ?_
      rw [k18]
      refine YX.imul dL_law_481 ?_
      refine YX.iadd dL_law_482 ?_
      refine YX.istore dL_law_483 (Nat.le_of_ble_eq_true rfl) rfl ?_
      refine YX.iload dL_law_485 rfl ?_
      refine YX.aload_n dL_law_487 rfl ?_
      refine YX.bipush dL_law_488 (by decide +kernel) ?_
      refine YX.iload dL_law_490 rfl ?_
      refine YX.iadd dL_law_492 ?_
      refine YX.iald dL_law_493 ia67 (by omega) (by omega) ?_
      rw [k9]
      refine YX.if_ge 501 dL_law_494 (by decide) (by omega) (fun h_494 => ?_) (fun h_494 => ?_)
      rotate_left
      · exfalso; omega
      refine YX.aload_n dL_law_501 rfl ?_
      refine YX.bipush dL_law_502 (by decide +kernel) ?_
      refine YX.iload dL_law_504 rfl ?_
      refine YX.iadd dL_law_506 ?_
      refine YX.iald dL_law_507 ia67 (by omega) (by omega) ?_
      rw [k18]
      refine YX.iconst dL_law_508 ?_
      refine YX.isub dL_law_509 ?_
      refine YX.iadd dL_law_510 ?_
      refine YX.istore dL_law_511 (Nat.le_of_ble_eq_true rfl) rfl ?_
      refine YX.iinc dL_law_513 rfl (Nat.le_of_ble_eq_true rfl) rfl ?_
      refine YX.goto 438 dL_law_516 (by decide) ?_
      have k := ih (x + 1) ⟨by omega, by omega⟩ (by omega)
      rw [SA1_s x0, SA2_s x0, zb_t ht, Int.one_mul, Int.one_mul] at k
      exact k
    · have k9 := (hK.2 x x0 (by omega)).2 ht
      refine YX.iload dL_law_445 rfl ?_
      refine YX.aload_n dL_law_447 rfl ?_
      refine YX.bipush dL_law_448 (by decide +kernel) ?_
      refine YX.iload dL_law_450 rfl ?_
      refine YX.iadd dL_law_452 ?_
      refine YX.iald dL_law_453 ia67 (by omega) (by omega) ?_
      rw [k9]
      refine YX.if_ge 461 dL_law_454 (by decide) (by omega) (fun h_454 => ?_) (fun h_454 => ?_)
      · exfalso; omega
      refine YX.iconst dL_law_457 ?_
      refine YX.goto 482 dL_law_458 (by decide) ?_
      refine YX.iadd dL_law_482 ?_
      refine YX.istore dL_law_483 (Nat.le_of_ble_eq_true rfl) rfl ?_
      refine YX.iload dL_law_485 rfl ?_
      refine YX.aload_n dL_law_487 rfl ?_
      refine YX.bipush dL_law_488 (by decide +kernel) ?_
      refine YX.iload dL_law_490 rfl ?_
      refine YX.iadd dL_law_492 ?_
      refine YX.iald dL_law_493 ia67 (by omega) (by omega) ?_
      rw [k9]
      refine YX.if_ge 501 dL_law_494 (by decide) (by omega) (fun h_494 => ?_) (fun h_494 => ?_)
      · exfalso; omega
      refine YX.iconst dL_law_497 ?_
      refine YX.goto 510 dL_law_498 (by decide) ?_
      refine YX.iadd dL_law_510 ?_
      refine YX.istore dL_law_511 (Nat.le_of_ble_eq_true rfl) rfl ?_
      refine YX.iinc dL_law_513 rfl (Nat.le_of_ble_eq_true rfl) rfl ?_
      refine YX.goto 438 dL_law_516 (by decide) ?_
      have k := ih (x + 1) ⟨by omega, by omega⟩ (by omega)
      rw [SA1_s x0, SA2_s x0, zb_f ht, Int.zero_mul, Int.zero_mul] at k
      exact k
end ZW3
