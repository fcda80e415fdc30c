section ZTL
variable {σ : zS} {d : Nat} {P : Option Value → zS → Prop}
/-! what tells() tells: k beside the plan -/
def KX (t : zS) (x m : Int) : Prop := (x % 3 < m → t.1 67 (9 + x) = t.1 9 x ∧ t.1 67 (18 + x) = t.1 10 x ∧ t.1 67 (27 + x) = t.1 11 x ∧ t.1 67 (36 + x) = t.1 12 x) ∧ (m ≤ x % 3 → t.1 67 (9 + x) = -1) ∧ t.1 67 (45 + x) = (if x % 3 = 0 then 0 else t.1 67 (45 + x - 1) + t.1 67 (18 + x - 1)) + t.1 67 (36 + x)
def KQ (t : zS) (i : Int) : Prop := t.1 67 (3 + i) = t.1 4 i ∧ t.1 67 (6 + i) = t.1 13 i ∧ ∀ j : Int, 0 ≤ j → j < 3 → KX t (3 * i + j) (t.1 13 i)
/-- chain i as at first -/
def FRS (t : zS) (i : Int) : Prop := t.1 3 i = 20 ∧ t.1 4 i = 0 ∧ t.1 6 i = 0 ∧ t.1 7 i = 0 ∧ t.1 13 i = 0
def TK (t : zS) (i : Int) : Prop := WJ (cP t) ∧ t.1 14 17 = 1 ∧ (∀ y : Int, 0 ≤ y → y < 3 → t.1 5 y = 0) ∧ (∀ y : Int, i ≤ y → y < 3 → FRS t y) ∧ ∀ y : Int, 0 ≤ y → y < i → KQ t y
/-- chain i's traits are told, j of its steps looked at, of m -/
def TJ (t : zS) (i j e m : Int) : Prop := WJ (cP t) ∧ t.1 14 17 = 1 ∧ (∀ y : Int, 0 ≤ y → y < 3 → t.1 5 y = 0) ∧ (∀ y : Int, i < y → y < 3 → FRS t y) ∧ (∀ y : Int, 0 ≤ y → y < i → KQ t y) ∧ (t.1 67 (3 + i) = t.1 4 i ∧ t.1 67 (6 + i) = m ∧ 0 ≤ m ∧ m ≤ 3 ∧ t.1 13 i = min j m) ∧ (∀ y : Int, 0 ≤ y → y < j → KX t (3 * i + y) m) ∧ e = if j = 0 then 0 else t.1 67 (45 + (3 * i + j) - 1) + t.1 67 (18 + (3 * i + j) - 1)
theorem KX.fr {t u : zS} {x m : Int} (h : KX t x m) (h9 : u.1 9 x = t.1 9 x ∧ u.1 10 x = t.1 10 x ∧ u.1 11 x = t.1 11 x ∧ u.1 12 x = t.1 12 x) (hk : u.1 67 (9 + x) = t.1 67 (9 + x) ∧ u.1 67 (18 + x) = t.1 67 (18 + x) ∧ u.1 67 (27 + x) = t.1 67 (27 + x) ∧ u.1 67 (36 + x) = t.1 67 (36 + x) ∧ u.1 67 (45 + x) = t.1 67 (45 + x)) (hp : x % 3 ≠ 0 → u.1 67 (45 + x - 1) = t.1 67 (45 + x - 1) ∧ u.1 67 (18 + x - 1) = t.1 67 (18 + x - 1)) : KX u x m := by
  obtain ⟨h1, h2, h3⟩ := h
  obtain ⟨k1, k2, k3, k4, k5⟩ := hk
  refine ⟨fun q => ?_, fun q => by rw [k1]; exact h2 q, ?_⟩
  · rw [k1, k2, k3, k4, h9.1, h9.2.1, h9.2.2.1, h9.2.2.2]; exact h1 q
  · rw [k5, k4, h3]
    by_cases q : x % 3 = 0
    · rw [if_pos q, if_pos q]
    · rw [if_neg q, if_neg q, (hp q).1, (hp q).2]
theorem KQ.fr {t u : zS} {i : Int} (h : KQ t i) (h0 : 0 ≤ i) (h4 : u.1 4 i = t.1 4 i) (h13 : u.1 13 i = t.1 13 i) (h9 : ∀ y : Int, y / 3 = i → u.1 9 y = t.1 9 y ∧ u.1 10 y = t.1 10 y ∧ u.1 11 y = t.1 11 y ∧ u.1 12 y = t.1 12 y) (h3 : u.1 67 (3 + i) = t.1 67 (3 + i)) (h6 : u.1 67 (6 + i) = t.1 67 (6 + i)) (hk : ∀ y : Int, y / 3 = i → u.1 67 (9 + y) = t.1 67 (9 + y) ∧ u.1 67 (18 + y) = t.1 67 (18 + y) ∧ u.1 67 (27 + y) = t.1 67 (27 + y) ∧ u.1 67 (36 + y) = t.1 67 (36 + y) ∧ u.1 67 (45 + y) = t.1 67 (45 + y)) : KQ u i := by
  obtain ⟨a, b, c⟩ := h
  refine ⟨by rw [h3, h4]; exact a, by rw [h6, h13]; exact b, fun j j0 j3 => ?_⟩
  rw [h13]
  refine (c j j0 j3).fr (h9 _ (by omega)) (hk _ (by omega)) (fun q => ?_)
  have := hk (3 * i + j - 1) (by omega)
  rw [show 45 + (3 * i + j) - 1 = 45 + (3 * i + j - 1) by omega, show 18 + (3 * i + j) - 1 = 18 + (3 * i + j - 1) by omega]
  exact ⟨this.2.2.2.2, this.2.1⟩
theorem zu67 {t : zS} {c : Nat} {y v : Int} (h : c ≠ 67) : (zu t 67 y v).1 c = t.1 c := zu_nc h
set_option maxHeartbeats 4000000 in
theorem tl_j {a i j e q m : Int} (hd : 3 ≤ d) (a0 : 0 ≤ a) (a1 : a ≤ 100) (i0 : 0 ≤ i) (i3 : i < 3) (j0 : 0 ≤ j) (j3 : j < 3) (hI : TJ σ i j e m) (k : ∀ (u : zS) (e' : Int), TJ u i (j + 1) e' m → Y d μL_tells 184 [some (.ref 0), some (.ref 9004), some (.int (zi a)), some (.ref 67), some (.int (zi (i))), some (.int (zi (q))), some (.int (zi (e'))), some (.int (zi (j + 1))), none, none] [] u P) : Y d μL_tells 190 [some (.ref 0), some (.ref 9004), some (.int (zi a)), some (.ref 67), some (.int (zi (i))), some (.int (zi (q))), some (.int (zi (e))), some (.int (zi (j))), none, none] [] σ P := by
  obtain ⟨hw, hs, h5, hf, hq, ⟨h3, h6, m0, m3, h13⟩, hx, he⟩ := hI
  have hp : WP (cP σ) := hw.1
  -- behind the stores
  have k423 : ∀ (u : zS) (x e' : Int), TJ u i (j + 1) e' m → Y d μL_tells 423 [some (.ref 0), some (.ref 9004), some (.int (zi a)), some (.ref 67), some (.int (zi (i))), some (.int (zi (q))), some (.int (zi (e'))), some (.int (zi (j))), some (.int (zi (3 * i + j))), some (.int (zi (x)))] [] u P := fun u x e' hu => by
    refine Y.iinc dL_tells_423 rfl (by decide) rfl ?_
    refine Y.goto 184 dL_tells_426 (by decide) ?_
    exact Y.sub (zs_s (zs_s (zs_s (zs_s (zs_s (zs_s (zs_s (zs_s (zs_n (zs_n zs_0)))))))))) (k u e' hu)
  have k335 : ∀ (x nv c g b : Int), ((j < m → 0 ≤ nv ∧ nv ≤ 1) ∧ (m ≤ j → nv = -1)) → (1 ≤ c ∧ c ≤ 12) → (0 ≤ g ∧ g ≤ 9) → (0 ≤ b ∧ b ≤ 8) → Y d μL_tells 335 [some (.ref 0), some (.ref 9004), some (.int (zi a)), some (.ref 67), some (.int (zi (i))), some (.int (zi (q))), some (.int (zi (e))), some (.int (zi (j))), some (.int (zi (3 * i + j))), some (.int (zi (x)))] [.int (zi b), .int (zi (36 + (3 * i + j))), .ref 67] (zu (zu (zu σ 67 (9 + (3 * i + j)) nv) 67 (18 + (3 * i + j)) c) 67 (27 + (3 * i + j)) g) P := fun x nv c g b hn hc hg hb => by
    refine Y.iast dL_tells_335 ia67 (by omega) (by omega) ?_
    obtain ⟨t, ht⟩ : ∃ t : zS, t = zu (zu (zu (zu σ 67 (9 + (3 * i + j)) nv) 67 (18 + (3 * i + j)) c) 67 (27 + (3 * i + j)) g) 67 (36 + (3 * i + j)) b := ⟨_, rfl⟩
    rw [← ht]
    have r9 : t.1 67 (9 + (3 * i + j)) = nv := by rw [ht, zu_ne (by omega), zu_ne (by omega), zu_ne (by omega), zu_eq]
    have r18 : t.1 67 (18 + (3 * i + j)) = c := by rw [ht, zu_ne (by omega), zu_ne (by omega), zu_eq]
    have r27 : t.1 67 (27 + (3 * i + j)) = g := by rw [ht, zu_ne (by omega), zu_eq]
    have r36 : t.1 67 (36 + (3 * i + j)) = b := by rw [ht, zu_eq]
    have ro : ∀ y : Int, y ≠ 9 + (3 * i + j) → y ≠ 18 + (3 * i + j) → y ≠ 27 + (3 * i + j) → y ≠ 36 + (3 * i + j) → t.1 67 y = σ.1 67 y := fun y a1 a2 a3 a4 => by rw [ht, zu_ne a4, zu_ne a3, zu_ne a2, zu_ne a1]
    have rc : ∀ z : Nat, z ≠ 67 → t.1 z = σ.1 z := fun z hz => by rw [ht, zu67 hz, zu67 hz, zu67 hz, zu67 hz]
    clear ht
    refine Y.aload_n dL_tells_336 rfl ?_
    refine Y.bipush dL_tells_337 (by decide +kernel) ?_
    refine Y.iload dL_tells_339 rfl ?_
    refine Y.iadd dL_tells_341 ?_
    refine Y.iload dL_tells_342 rfl ?_
    refine Y.aload_n dL_tells_344 rfl ?_
    refine Y.bipush dL_tells_345 (by decide +kernel) ?_
    refine Y.iload dL_tells_347 rfl ?_
    refine Y.iadd dL_tells_349 ?_
    refine Y.iald dL_tells_350 ia67 (by omega) (by omega) ?_
    refine Y.iadd dL_tells_351 ?_
    refine Y.iast dL_tells_352 ia67 (by omega) (by omega) ?_
    rw [r36]
    obtain ⟨u, hu⟩ : ∃ u : zS, u = zu t 67 (45 + (3 * i + j)) (e + b) := ⟨_, rfl⟩
    rw [← hu]
    have u45 : u.1 67 (45 + (3 * i + j)) = e + b := by rw [hu, zu_eq]
    have uo : ∀ y : Int, y ≠ 45 + (3 * i + j) → u.1 67 y = t.1 67 y := fun y hy => by rw [hu, zu_ne hy]
    have uc : ∀ z : Nat, z ≠ 67 → u.1 z = σ.1 z := fun z hz => by rw [hu, zu67 hz, rc z hz]
    clear hu
    have u9 : u.1 67 (9 + (3 * i + j)) = nv := by rw [uo _ (by omega), r9]
    have u18 : u.1 67 (18 + (3 * i + j)) = c := by rw [uo _ (by omega), r18]
    have u27 : u.1 67 (27 + (3 * i + j)) = g := by rw [uo _ (by omega), r27]
    have u36 : u.1 67 (36 + (3 * i + j)) = b := by rw [uo _ (by omega), r36]
    have u6 : u.1 67 (6 + i) = m := by rw [uo _ (by omega), ro _ (by omega) (by omega) (by omega) (by omega), h6]
    refine Y.aload_n dL_tells_353 rfl ?_
    refine Y.bipush dL_tells_354 (by decide +kernel) ?_
    refine Y.iload dL_tells_356 rfl ?_
    refine Y.iadd dL_tells_358 ?_
    refine Y.iald dL_tells_359 ia67 (by omega) (by omega) ?_
    refine Y.aload_n dL_tells_360 rfl ?_
    refine Y.bipush dL_tells_361 (by decide +kernel) ?_
    refine Y.iload dL_tells_363 rfl ?_
    refine Y.iadd dL_tells_365 ?_
    refine Y.iald dL_tells_366 ia67 (by omega) (by omega) ?_
    rw [u45, u18]
    refine Y.iadd dL_tells_367 ?_
    refine Y.istore dL_tells_368 (by decide) rfl ?_
    have hwu : WJ (cP u) := by rw [cP_c (fun z hz => uc z (by omega))]; exact hw
    have hpu : WP (cP u) := hwu.1
    have um : u.1 13 i = min j m := by rw [uc 13 (by omega)]; exact h13
    have prev : ∀ y : Int, 0 ≤ y → y ≠ 9 + (3 * i + j) → y ≠ 18 + (3 * i + j) → y ≠ 27 + (3 * i + j) → y ≠ 36 + (3 * i + j) → y ≠ 45 + (3 * i + j) → u.1 67 y = σ.1 67 y := fun y _ z1 z2 z3 z4 z5 => by rw [uo y z5, ro y z1 z2 z3 z4]
    have e45 : e + b = (if (3 * i + j) % 3 = 0 then 0 else u.1 67 (45 + (3 * i + j) - 1) + u.1 67 (18 + (3 * i + j) - 1)) + b := by
      rw [he]
      by_cases z : j = 0
      · rw [if_pos z, if_pos (by omega)]
      · rw [if_neg z, if_neg (by omega), prev (45 + (3 * i + j) - 1) (by omega) (by omega) (by omega) (by omega) (by omega) (by omega), prev (18 + (3 * i + j) - 1) (by omega) (by omega) (by omega) (by omega) (by omega) (by omega)]
    refine Y.iload dL_tells_370 rfl ?_
    refine Y.aload_n dL_tells_372 rfl ?_
    refine Y.bipush dL_tells_373 (by decide +kernel) ?_
    refine Y.iload dL_tells_375 rfl ?_
    refine Y.iadd dL_tells_377 ?_
    refine Y.iald dL_tells_378 ia67 (by omega) (by omega) ?_
    rw [u6]
    refine Y.icmp_ge 423 dL_tells_379 (by decide) (by omega) (by omega) (fun h_379 => ?_) (fun h_379 => ?_)
    · exact k423 _ _ _ (by
        refine ⟨hwu, by rw [uc 14 (by omega)]; exact hs, fun y z0 z3 => by rw [uc 5 (by omega)]; exact h5 y z0 z3, fun y z0 z3 => ?_, fun y z0 z1 => ?_, ⟨by rw [prev _ (by omega) (by omega) (by omega) (by omega) (by omega) (by omega), uc 4 (by omega)]; exact h3, u6, m0, m3, by rw [um]; omega⟩, fun y z0 z1 => ?_, ?_⟩
        · unfold FRS
          rw [uc 3 (by omega), uc 4 (by omega), uc 6 (by omega), uc 7 (by omega), uc 13 (by omega)]
          exact hf y z0 z3
        · refine (hq y z0 z1).fr z0 (by rw [uc 4 (by omega)]) (by rw [uc 13 (by omega)]) (fun x hx => ⟨by rw [uc 9 (by omega)], by rw [uc 10 (by omega)], by rw [uc 11 (by omega)], by rw [uc 12 (by omega)]⟩) (prev _ (by omega) (by omega) (by omega) (by omega) (by omega) (by omega)) (prev _ (by omega) (by omega) (by omega) (by omega) (by omega) (by omega)) (fun x hx => ⟨prev _ (by omega) (by omega) (by omega) (by omega) (by omega) (by omega), prev _ (by omega) (by omega) (by omega) (by omega) (by omega) (by omega), prev _ (by omega) (by omega) (by omega) (by omega) (by omega) (by omega), prev _ (by omega) (by omega) (by omega) (by omega) (by omega) (by omega), prev _ (by omega) (by omega) (by omega) (by omega) (by omega) (by omega)⟩)
        · by_cases z : y = j
          · rw [z]
            refine ⟨fun w => by omega, fun _ => by rw [u9]; exact hn.2 (by omega), ?_⟩
            rw [u45, u36]; exact e45
          · refine (hx y z0 (by omega)).fr ⟨by rw [uc 9 (by omega)], by rw [uc 10 (by omega)], by rw [uc 11 (by omega)], by rw [uc 12 (by omega)]⟩ ⟨prev _ (by omega) (by omega) (by omega) (by omega) (by omega) (by omega), prev _ (by omega) (by omega) (by omega) (by omega) (by omega) (by omega), prev _ (by omega) (by omega) (by omega) (by omega) (by omega) (by omega), prev _ (by omega) (by omega) (by omega) (by omega) (by omega) (by omega), prev _ (by omega) (by omega) (by omega) (by omega) (by omega) (by omega)⟩ (fun w => ⟨prev _ (by omega) (by omega) (by omega) (by omega) (by omega) (by omega), prev _ (by omega) (by omega) (by omega) (by omega) (by omega) (by omega)⟩)
        · rw [if_neg (by omega), show 45 + (3 * i + (j + 1)) - 1 = 45 + (3 * i + j) by omega, show 18 + (3 * i + (j + 1)) - 1 = 18 + (3 * i + j) by omega, u45, u18])
    · refine Y.aload_n dL_tells_382 rfl ?_
      refine Y.iload dL_tells_383 rfl ?_
      refine Y.aload_n dL_tells_385 rfl ?_
      refine Y.bipush dL_tells_386 (by decide +kernel) ?_
      refine Y.iload dL_tells_388 rfl ?_
      refine Y.iadd dL_tells_390 ?_
      refine Y.iald dL_tells_391 ia67 (by omega) (by omega) ?_
      refine Y.aload_n dL_tells_392 rfl ?_
      refine Y.bipush dL_tells_393 (by decide +kernel) ?_
      refine Y.iload dL_tells_395 rfl ?_
      refine Y.iadd dL_tells_397 ?_
      refine Y.iald dL_tells_398 ia67 (by omega) (by omega) ?_
      refine Y.aload_n dL_tells_399 rfl ?_
      refine Y.bipush dL_tells_400 (by decide +kernel) ?_
      refine Y.iload dL_tells_402 rfl ?_
      refine Y.iadd dL_tells_404 ?_
      refine Y.iald dL_tells_405 ia67 (by omega) (by omega) ?_
      refine Y.aload_n dL_tells_406 rfl ?_
      refine Y.bipush dL_tells_407 (by decide +kernel) ?_
      refine Y.iload dL_tells_409 rfl ?_
      refine Y.iadd dL_tells_411 ?_
      refine Y.iald dL_tells_412 ia67 (by omega) (by omega) ?_
      rw [u9, u18, u27, u36]
      refine Y.cVI dL_tells_413 mkX4_step csL_25 ob0 ⟨_, rfl, rfl⟩ (k_L_step hpu i0 i3 (by rw [um]; omega) (mrk_i.1 (hn.1 (by omega))) (mrk_i.2.1 (by omega)) (mrk_i.2.2.1 hg) (mrk_i.2.2.2 (by omega)) (by have := hn.1 (by omega); omega) (by omega) (by omega) (by omega)) (by omega) rfl rfl (Nat.le_of_ble_eq_true rfl) ?_
      rw [um, show min j m = j by omega]
      refine Y.iload dL_tells_416 rfl ?_
      refine Y.icmp_eq 423 dL_tells_418 (by decide) (by omega) (by omega) (fun h_418 => ?_) (fun h_418 => ?_)
      rotate_left
      · exfalso; omega
      exact k423 _ _ _ (by
        have um' : u.1 13 i = j := by rw [um]; omega
        have hr := fun y => ST_r (σ := u) (i := i) (a := nv) (b := c) (c := g) (e := b) (j := j) (y := y) um'
        have so : ∀ z : Nat, (z < 9 ∨ 14 < z) → (ST u i nv c g b).1 z = u.1 z := fun z hz => ST_o (by omega) (by omega)
        have hnn := hn.1 (by omega)
        refine ⟨ST_w hwu i0 i3 (by rw [um']; omega) (mrk_i.1 hnn) (mrk_i.2.1 (by omega)) (mrk_i.2.2.1 hg) (mrk_i.2.2.2 (by omega)), ST_s, fun y z0 z3 => by rw [so 5 (by omega), uc 5 (by omega)]; exact h5 y z0 z3, fun y z0 z3 => ?_, fun y z0 z1 => ?_, ⟨by rw [so 67 (by omega), so 4 (by omega), prev _ (by omega) (by omega) (by omega) (by omega) (by omega) (by omega), uc 4 (by omega)]; exact h3, by rw [so 67 (by omega)]; exact u6, m0, m3, by rw [ST_m, if_pos rfl, um]; omega⟩, fun y z0 z1 => ?_, ?_⟩
        · unfold FRS
          rw [so 3 (by omega), so 4 (by omega), so 6 (by omega), so 7 (by omega), ST_m, if_neg (by omega), uc 3 (by omega), uc 4 (by omega), uc 6 (by omega), uc 7 (by omega), uc 13 (by omega)]
          exact hf y z0 z3
        · refine (hq y z0 z1).fr z0 (by rw [so 4 (by omega), uc 4 (by omega)]) (by rw [ST_m, if_neg (by omega), uc 13 (by omega)]) (fun x hx => ?_) (by rw [so 67 (by omega)]; exact prev _ (by omega) (by omega) (by omega) (by omega) (by omega) (by omega)) (by rw [so 67 (by omega)]; exact prev _ (by omega) (by omega) (by omega) (by omega) (by omega) (by omega)) (fun x hx => ?_)
          · obtain ⟨r1, r2, r3, r4⟩ := hr x
            rw [r1, r2, r3, r4, if_neg (by omega), if_neg (by omega), if_neg (by omega), if_neg (by omega), uc 9 (by omega), uc 10 (by omega), uc 11 (by omega), uc 12 (by omega)]
            exact ⟨rfl, rfl, rfl, rfl⟩
          · rw [so 67 (by omega)]
            exact ⟨prev _ (by omega) (by omega) (by omega) (by omega) (by omega) (by omega), prev _ (by omega) (by omega) (by omega) (by omega) (by omega) (by omega), prev _ (by omega) (by omega) (by omega) (by omega) (by omega) (by omega), prev _ (by omega) (by omega) (by omega) (by omega) (by omega) (by omega), prev _ (by omega) (by omega) (by omega) (by omega) (by omega) (by omega)⟩
        · by_cases z : y = j
          · rw [z]
            obtain ⟨r1, r2, r3, r4⟩ := hr (3 * i + j)
            rw [if_pos (by omega)] at r1 r2 r3 r4
            refine ⟨fun w => ?_, fun w => by omega, ?_⟩
            · rw [so 67 (by omega), u9, u18, u27, u36, r1, r2, r3, r4]
              exact ⟨rfl, rfl, rfl, rfl⟩
            · rw [so 67 (by omega), u45, u36]; exact e45
          · refine (hx y z0 (by omega)).fr ?_ ?_ (fun w => ?_)
            · obtain ⟨r1, r2, r3, r4⟩ := hr (3 * i + y)
              rw [r1, r2, r3, r4, if_neg (by omega), if_neg (by omega), if_neg (by omega), if_neg (by omega), uc 9 (by omega), uc 10 (by omega), uc 11 (by omega), uc 12 (by omega)]
              exact ⟨rfl, rfl, rfl, rfl⟩
            · rw [so 67 (by omega)]
              exact ⟨prev _ (by omega) (by omega) (by omega) (by omega) (by omega) (by omega), prev _ (by omega) (by omega) (by omega) (by omega) (by omega) (by omega), prev _ (by omega) (by omega) (by omega) (by omega) (by omega) (by omega), prev _ (by omega) (by omega) (by omega) (by omega) (by omega) (by omega), prev _ (by omega) (by omega) (by omega) (by omega) (by omega) (by omega)⟩
            · rw [so 67 (by omega)]
              exact ⟨prev _ (by omega) (by omega) (by omega) (by omega) (by omega) (by omega), prev _ (by omega) (by omega) (by omega) (by omega) (by omega) (by omega)⟩
        · rw [so 67 (by omega), if_neg (by omega), show 45 + (3 * i + (j + 1)) - 1 = 45 + (3 * i + j) by omega, show 18 + (3 * i + (j + 1)) - 1 = 18 + (3 * i + j) by omega, u45, u18])
  have k301 : ∀ (x nv c w y : Int), ((j < m → 0 ≤ nv ∧ nv ≤ 1) ∧ (m ≤ j → nv = -1)) → (1 ≤ c ∧ c ≤ 12) → (1 ≤ w ∧ w ≤ 10) → Y d μL_tells 301 [some (.ref 0), some (.ref 9004), some (.int (zi a)), some (.ref 67), some (.int (zi (i))), some (.int (zi (q))), some (.int (zi (e))), some (.int (zi (j))), some (.int (zi (3 * i + j))), some (.int (zi (x)))] [.int (zi w), .int (zi y), .int (zi (27 + (3 * i + j))), .ref 67] (zu (zu σ 67 (9 + (3 * i + j)) nv) 67 (18 + (3 * i + j)) c) P := fun x nv c w y hn hc hw' => by
    refine Y.cSE dL_tells_301 mkL_up csL_15 (c_L_up (by omega) (by omega)) (by omega) rfl rfl (Nat.le_of_ble_eq_true rfl) (fun v301 b301 => ?_)
    refine Y.iast dL_tells_304 ia67 (by omega) (by omega) ?_
    refine Y.aload_n dL_tells_305 rfl ?_
    refine Y.bipush dL_tells_306 (by decide +kernel) ?_
    refine Y.iload dL_tells_308 rfl ?_
    refine Y.iadd dL_tells_310 ?_
    refine Y.iload dL_tells_311 rfl ?_
    refine Y.bipush dL_tells_313 (by decide +kernel) ?_
    refine Y.ishrU dL_tells_315 (fun v315 b315 => ?_)
    refine Y.iconst dL_tells_316 ?_
    refine Y.iandU dL_tells_317 (fun v317 b317 => ?_)
    refine Y.if_ne 325 dL_tells_318 (by decide) (by omega) (fun h_318 => ?_) (fun h_318 => ?_)
    · refine Y.iload dL_tells_325 rfl ?_
      refine Y.bipush dL_tells_327 (by decide +kernel) ?_
      refine Y.ishrU dL_tells_329 (fun v329 b329 => ?_)
      refine Y.bipush dL_tells_330 (by decide +kernel) ?_
      refine Y.cSE dL_tells_332 mkL_up csL_15 (c_L_up (by omega) (by omega)) (by omega) rfl rfl (Nat.le_of_ble_eq_true rfl) (fun v332 b332 => ?_)
      exact k335 _ _ _ _ _ hn hc (by omega) (by omega)
    · refine Y.iconst dL_tells_321 ?_
      refine Y.goto 335 dL_tells_322 (by decide) ?_
      exact k335 _ _ _ _ _ hn hc (by omega) (by omega)
  have k269 : ∀ (x nv w y : Int), ((j < m → 0 ≤ nv ∧ nv ≤ 1) ∧ (m ≤ j → nv = -1)) → (1 ≤ w ∧ w ≤ 12) → Y d μL_tells 269 [some (.ref 0), some (.ref 9004), some (.int (zi a)), some (.ref 67), some (.int (zi (i))), some (.int (zi (q))), some (.int (zi (e))), some (.int (zi (j))), some (.int (zi (3 * i + j))), some (.int (zi (x)))] [.int (zi w), .int (zi y), .int (zi 1), .int (zi (18 + (3 * i + j))), .ref 67] (zu σ 67 (9 + (3 * i + j)) nv) P := fun x nv w y hn hw' => by
    refine Y.cSE dL_tells_269 mkL_up csL_15 (c_L_up (by omega) (by omega)) (by omega) rfl rfl (Nat.le_of_ble_eq_true rfl) (fun v269 b269 => ?_)
    refine Y.iadd dL_tells_272 ?_
    refine Y.iast dL_tells_273 ia67 (by omega) (by omega) ?_
    refine Y.aload_n dL_tells_274 rfl ?_
    refine Y.bipush dL_tells_275 (by decide +kernel) ?_
    refine Y.iload dL_tells_277 rfl ?_
    refine Y.iadd dL_tells_279 ?_
    refine Y.iload dL_tells_280 rfl ?_
    refine Y.bipush dL_tells_282 (by decide +kernel) ?_
    refine Y.ishrU dL_tells_284 (fun v284 b284 => ?_)
    refine Y.iload dL_tells_285 rfl ?_
    refine Y.bipush dL_tells_287 (by decide +kernel) ?_
    refine Y.ishrU dL_tells_289 (fun v289 b289 => ?_)
    refine Y.iconst dL_tells_290 ?_
    refine Y.iandU dL_tells_291 (fun v291 b291 => ?_)
    refine Y.if_ne 300 dL_tells_292 (by decide) (by omega) (fun h_292 => ?_) (fun h_292 => ?_)
    · refine Y.iconst dL_tells_300 ?_
      exact k301 _ _ _ _ _ hn (by omega) (by omega)
    · refine Y.bipush dL_tells_295 (by decide +kernel) ?_
      refine Y.goto 301 dL_tells_297 (by decide) ?_
      exact k301 _ _ _ _ _ hn (by omega) (by omega)
  have k242 : ∀ (x nv : Int), ((j < m → 0 ≤ nv ∧ nv ≤ 1) ∧ (m ≤ j → nv = -1)) → Y d μL_tells 242 [some (.ref 0), some (.ref 9004), some (.int (zi a)), some (.ref 67), some (.int (zi (i))), some (.int (zi (q))), some (.int (zi (e))), some (.int (zi (j))), some (.int (zi (3 * i + j))), some (.int (zi (x)))] [.int (zi nv), .int (zi (9 + (3 * i + j))), .ref 67] σ P := fun x nv hn => by
    refine Y.iast dL_tells_242 ia67 (by omega) (by omega) ?_
    refine Y.aload_n dL_tells_243 rfl ?_
    refine Y.bipush dL_tells_244 (by decide +kernel) ?_
    refine Y.iload dL_tells_246 rfl ?_
    refine Y.iadd dL_tells_248 ?_
    refine Y.iconst dL_tells_249 ?_
    refine Y.iload dL_tells_250 rfl ?_
    refine Y.iconst dL_tells_252 ?_
    refine Y.ishrU dL_tells_253 (fun v253 b253 => ?_)
    refine Y.iload dL_tells_254 rfl ?_
    refine Y.iconst dL_tells_256 ?_
    refine Y.ishrU dL_tells_257 (fun v257 b257 => ?_)
    refine Y.iconst dL_tells_258 ?_
    refine Y.iandU dL_tells_259 (fun v259 b259 => ?_)
    refine Y.if_ne 268 dL_tells_260 (by decide) (by omega) (fun h_260 => ?_) (fun h_260 => ?_)
    · refine Y.iconst dL_tells_268 ?_
      exact k269 _ _ _ _ hn (by omega)
    · refine Y.bipush dL_tells_263 (by decide +kernel) ?_
      refine Y.goto 269 dL_tells_265 (by decide) ?_
      exact k269 _ _ _ _ hn (by omega)
  refine Y.iconst dL_tells_190 ?_
  refine Y.iload dL_tells_191 rfl ?_
  refine Y.imul dL_tells_193 ?_
  refine Y.iload dL_tells_194 rfl ?_
  refine Y.iadd dL_tells_196 ?_
  refine Y.istore dL_tells_197 (by decide) rfl ?_
  refine Y.aload_n dL_tells_199 rfl ?_
  refine Y.iload_n dL_tells_200 rfl ?_
  refine Y.iconst dL_tells_201 ?_
  refine Y.iload dL_tells_202 rfl ?_
  refine Y.imul dL_tells_204 ?_
  refine Y.iadd dL_tells_205 ?_
  refine Y.iconst dL_tells_206 ?_
  refine Y.iadd dL_tells_207 ?_
  refine Y.iload dL_tells_208 rfl ?_
  refine Y.iadd dL_tells_210 ?_
  refine Y.cSE dL_tells_211 mkL_cell csL_9 (c_L_cell (by omega) (by omega)) (by omega) rfl rfl (Nat.le_of_ble_eq_true rfl) (fun v211 b211 => ?_)
  refine Y.istore dL_tells_214 (by decide) rfl ?_
  refine Y.aload_n dL_tells_216 rfl ?_
  refine Y.bipush dL_tells_217 (by decide +kernel) ?_
  refine Y.iload dL_tells_219 rfl ?_
  refine Y.iadd dL_tells_221 ?_
  refine Y.iload dL_tells_222 rfl ?_
  refine Y.aload_n dL_tells_224 rfl ?_
  refine Y.bipush dL_tells_225 (by decide +kernel) ?_
  refine Y.iload dL_tells_227 rfl ?_
  refine Y.iadd dL_tells_229 ?_
  refine Y.iald dL_tells_230 ia67 (by omega) (by omega) ?_
  rw [h6]
  refine Y.icmp_ge 241 dL_tells_231 (by decide) (by omega) (by omega) (fun h_231 => ?_) (fun h_231 => ?_)
  · refine Y.iconst dL_tells_241 ?_
    exact k242 _ _ ⟨fun _ => by omega, fun _ => by omega⟩
  · refine Y.iload dL_tells_234 rfl ?_
    refine Y.iconst dL_tells_236 ?_
    refine Y.iand1 dL_tells_237 (fun v237 a237 b237 => ?_)
    refine Y.goto 242 dL_tells_238 (by decide) ?_
    exact k242 _ _ ⟨fun _ => by omega, fun _ => by omega⟩
end ZTL
