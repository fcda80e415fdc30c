section ZLAW
variable {Ln : Nat} {xs : Nat → Int32} {mc ms d : Nat} {μ : zU} {pc : Nat} {L : List (Option Value)} {st : List Value} {h : zH} {kc ks : Nat} {Post : Option Value → zH → Prop}
/-- at the law: arrays' words, the script -/
def XL (Ln : Nat) (xs : Nat → Int32) : State → (Nat → Nat) → (Nat → Prop) → Prop := fun s ρ A => XOO s ∧ va_X (ρ 9004) Ln xs s s.heap ∧ ρ 9004 < s.heap.size ∧ ¬ A (ρ 9004)
def sxv (xs : Nat → Int32) (i : Int) : Int := (xs i.toNat).toInt
theorem sxv_b (i : Int) : zB (sxv xs i) := ⟨Int32.le_toInt _, Int32.toInt_lt _⟩
theorem sxv_x (i : Int) : zi (sxv xs i) = xs i.toNat := Int32.ofInt_toInt _
theorem ZX.sld {i : Int} (hdg : decode μ.2.1 pc = .ok (.iaload, 1)) (h0 : 0 ≤ i) (h1 : i < Ln) (hL : Ln ≤ 3072) (k9 : ZX (XL Ln xs) mc ms d μ (pc + 1) L (.int (zi (sxv xs i)) :: st) h kc ks Post) : ZX (XL Ln xs) mc ms d μ pc L (.int (zi i) :: .ref 9004 :: st) h kc ks Post := by
  intro p l e s m args below meth c D cI A ρ0 n0 hC hn hX ρ H locs ls hR hS
  obtain ⟨hx, hb, hml, hr0, hlk, hnm, hown, hts, hNw, hK, hA⟩ := id hC
  obtain ⟨hP, hD, hSS, hLL, hT⟩ := id hS
  have w := k9 p l e s m args below meth c D cI A ρ0 n0 hC hn hX ρ H locs ls hR hS
  obtain ⟨x0, x1, x2, x3⟩ := hX
  have e9 : ρ 9004 = ρ0 9004 := hR.2 9004 (Or.inr (by omega))
  show W p l e (zR mc ms d) s m args below meth c H locs kc ks _ (F0 m pc ls (.int (zi i) :: .ref (ρ 9004) :: st.map (zV ρ)))
  rw [e9]
  refine va_sld hx hb x1 x2 x3 hSS (zi_in h0 (by omega) (by omega)) hdg ?_
  rw [zi_cl (show zB i by omega), ← sxv_x (xs := xs)]
  exact w
theorem ZX.slen (hdg : decode μ.2.1 pc = .ok (.arraylength, 1)) (k9 : ZX (XL Ln xs) mc ms d μ (pc + 1) L (.int (zi (Ln : Int)) :: st) h kc ks Post) : ZX (XL Ln xs) mc ms d μ pc L (.ref 9004 :: st) h kc ks Post := by
  intro p l e s m args below meth c D cI A ρ0 n0 hC hn hX ρ H locs ls hR hS
  obtain ⟨hx, hb, hml, hr0, hlk, hnm, hown, hts, hNw, hK, hA⟩ := id hC
  obtain ⟨hP, hD, hSS, hLL, hT⟩ := id hS
  have w := k9 p l e s m args below meth c D cI A ρ0 n0 hC hn hX ρ H locs ls hR hS
  obtain ⟨x0, x1, x2, x3⟩ := hX
  have e9 : ρ 9004 = ρ0 9004 := hR.2 9004 (Or.inr (by omega))
  show W p l e (zR mc ms d) s m args below meth c H locs kc ks _ (F0 m pc ls (.ref (ρ 9004) :: st.map (zV ρ)))
  rw [e9]
  exact va_slen hx hb x1 x2 x3 hSS hdg w
theorem zx_arg (n : Int) {i : Int} (d0 : decode μ.2.1 pc = .ok (.aload_n 0, 1)) (d1 : decode μ.2.1 (pc + 1) = .ok (.iload_n 3, 1)) (d2 : decode μ.2.1 (pc + 2) = .ok (.iconst n, 1)) (d3 : decode μ.2.1 (pc + 3) = .ok (.iadd, 1)) (d4 : decode μ.2.1 (pc + 4) = .ok (.iaload, 1))
    (l0 : L[0]? = some (some (.ref 9004))) (l3 : L[3]? = some (some (.int (zi i)))) (h0 : 0 ≤ i + n) (h1 : i + n < Ln) (hL : Ln ≤ 3072) (k9 : ZX (XL Ln xs) mc ms d μ (pc + 5) L (.int (zi (sxv xs (i + n))) :: st) h kc ks Post) : ZX (XL Ln xs) mc ms d μ pc L st h kc ks Post := by
  refine ZX.aload_n d0 l0 ?_
  refine ZX.iload_n d1 l3 ?_
  refine ZX.iconst (zi n) d2 rfl ?_
  refine ZX.iadd d3 ?_
  rw [zi_add]
  exact ZX.sld d4 h0 h1 hL k9
abbrev μL (nm ds : String) : zU := (⟨RL, nm, ds⟩, cL_law, 4, some .boolean)
def Lw (i : Int) : List (Option Value) := [some (.ref 9004), some (.ref 0), some (.ref 67), some (.int (zi i))]
abbrev LAW (Ln : Nat) (xs : Nat → Int32) (nm ds : String) (pc : Nat) (i : Int) (σ : zS) : Prop := ZX (XL Ln xs) 600000 7302250 14 (μL nm ds) pc (Lw i) [] (zHp σ) 94 4029 (fun r _ => r = some (.int 1))
theorem PAIR.zc {μ ν : zU} {As : List Value} {σ : zS} (h : PAIR μ ν As σ) : zC 0 0 12 μ (.ref 0 :: As) (zHp σ) (fun r h => ∃ s, h = zHp s ∧ ((∃ v : Int, r = some (.int (zi v))) ∧ zC 0 0 12 ν (.ref 67 :: As) (zHp s) (fun r2 h2 => ∃ s2, h2 = zHp s2 ∧ (r2 = r ∧ JJ s2)))) := h
theorem PAIRJ.zc {μ ν : zU} {As : List Value} {σ : zS} (h : PAIRJ μ ν As σ) : zC 0 0 12 μ (.ref 0 :: As) (zHp σ) (fun r h => ∃ s, h = zHp s ∧ ((∃ v : Int, r = some (.long (zl v))) ∧ zC 0 0 12 ν (.ref 67 :: As) (zHp s) (fun r2 h2 => ∃ s2, h2 = zHp s2 ∧ (r2 = r ∧ JJ s2)))) := h
theorem lgc_self (x : Int64) : lg_cmp x x = 0 := by
  unfold lg_cmp
  rw [if_neg (fun q => absurd q Int64.lt_irrefl), if_pos rfl]
set_option maxHeartbeats 1000000 in
theorem lw_case0 {nm ds : String} {i : Int} {σ : zS} (hJ : JJ σ) (i0 : 0 ≤ i) (i6 : i + 6 ≤ Ln) (hL : Ln ≤ 3072) (k9 : ∀ s : zS, JJ s → LAW Ln xs nm ds 1119 i s) : LAW Ln xs nm ds 156 i σ := by
  refine ZX.aload_n dL_law_156 rfl ?_
  refine zx_arg 1 dL_law_157 dL_law_158 dL_law_159 dL_law_160 dL_law_161 rfl rfl (by omega) (by omega) hL ?_
  refine zx_arg 2 dL_law_162 dL_law_163 dL_law_164 dL_law_165 dL_law_166 rfl rfl (by omega) (by omega) hL ?_
  refine zx_arg 3 dL_law_167 dL_law_168 dL_law_169 dL_law_170 dL_law_171 rfl rfl (by omega) (by omega) hL ?_
  refine ZX.callV (b := 0) (As := [.int (zi (sxv xs (i + 1))), .int (zi (sxv xs (i + 2))), .int (zi (sxv xs (i + 3)))]) dL_law_172 mkX4_chain csL_13 (PAIR.zc (pr_chain hJ (sxv_b _) (sxv_b _) (sxv_b _))) (by omega) (he := rfl) (hci := ⟨_, rfl, rfl⟩) rfl rfl (Nat.le_of_ble_eq_true rfl) ⟨Or.inl rfl, by decide, by decide, fun r1 h1 p1 => ?_⟩
  obtain ⟨s1, rfl, ⟨v, rfl⟩, c2⟩ := p1
  refine ZX.aload_n dL_law_175 rfl ?_
  refine zx_arg 1 dL_law_176 dL_law_177 dL_law_178 dL_law_179 dL_law_180 rfl rfl (by omega) (by omega) hL ?_
  refine zx_arg 2 dL_law_181 dL_law_182 dL_law_183 dL_law_184 dL_law_185 rfl rfl (by omega) (by omega) hL ?_
  refine zx_arg 3 dL_law_186 dL_law_187 dL_law_188 dL_law_189 dL_law_190 rfl rfl (by omega) (by omega) hL ?_
  refine ZX.callV (b := 67) (As := [.int (zi (sxv xs (i + 1))), .int (zi (sxv xs (i + 2))), .int (zi (sxv xs (i + 3)))]) dL_law_191 mkX5_chain csL_17 c2 (by omega) (he := rfl) (hci := ⟨_, rfl, rfl⟩) rfl rfl (Nat.le_of_ble_eq_true rfl) ⟨Or.inl rfl, by decide, by decide, fun r2 h2 p2 => ?_⟩
  obtain ⟨s2, rfl, rfl, hJ2⟩ := p2
  exact ZX.icmp_eq 1119 dL_law_194 (by decide) (fun _ => k9 s2 hJ2) (fun q => absurd rfl q)
set_option maxHeartbeats 1000000 in
theorem lw_case1 {nm ds : String} {i : Int} {σ : zS} (hJ : JJ σ) (i0 : 0 ≤ i) (i6 : i + 6 ≤ Ln) (hL : Ln ≤ 3072) (k9 : ∀ s : zS, JJ s → LAW Ln xs nm ds 1119 i s) : LAW Ln xs nm ds 199 i σ := by
  refine ZX.aload_n dL_law_199 rfl ?_
  refine zx_arg 1 dL_law_200 dL_law_201 dL_law_202 dL_law_203 dL_law_204 rfl rfl (by omega) (by omega) hL ?_
  refine zx_arg 2 dL_law_205 dL_law_206 dL_law_207 dL_law_208 dL_law_209 rfl rfl (by omega) (by omega) hL ?_
  refine zx_arg 3 dL_law_210 dL_law_211 dL_law_212 dL_law_213 dL_law_214 rfl rfl (by omega) (by omega) hL ?_
  refine zx_arg 4 dL_law_215 dL_law_216 dL_law_217 dL_law_218 dL_law_219 rfl rfl (by omega) (by omega) hL ?_
  refine zx_arg 5 dL_law_220 dL_law_221 dL_law_222 dL_law_223 dL_law_224 rfl rfl (by omega) (by omega) hL ?_
  refine ZX.callV (b := 0) (As := [.int (zi (sxv xs (i + 1))), .int (zi (sxv xs (i + 2))), .int (zi (sxv xs (i + 3))), .int (zi (sxv xs (i + 4))), .int (zi (sxv xs (i + 5)))]) dL_law_225 mkX4_step csL_18 (PAIR.zc (pr_step hJ (sxv_b _) (sxv_b _) (sxv_b _) (sxv_b _) (sxv_b _))) (by omega) (he := rfl) (hci := ⟨_, rfl, rfl⟩) rfl rfl (Nat.le_of_ble_eq_true rfl) ⟨Or.inl rfl, by decide, by decide, fun r1 h1 p1 => ?_⟩
  obtain ⟨s1, rfl, ⟨v, rfl⟩, c2⟩ := p1
  refine ZX.aload_n dL_law_228 rfl ?_
  refine zx_arg 1 dL_law_229 dL_law_230 dL_law_231 dL_law_232 dL_law_233 rfl rfl (by omega) (by omega) hL ?_
  refine zx_arg 2 dL_law_234 dL_law_235 dL_law_236 dL_law_237 dL_law_238 rfl rfl (by omega) (by omega) hL ?_
  refine zx_arg 3 dL_law_239 dL_law_240 dL_law_241 dL_law_242 dL_law_243 rfl rfl (by omega) (by omega) hL ?_
  refine zx_arg 4 dL_law_244 dL_law_245 dL_law_246 dL_law_247 dL_law_248 rfl rfl (by omega) (by omega) hL ?_
  refine zx_arg 5 dL_law_249 dL_law_250 dL_law_251 dL_law_252 dL_law_253 rfl rfl (by omega) (by omega) hL ?_
  refine ZX.callV (b := 67) (As := [.int (zi (sxv xs (i + 1))), .int (zi (sxv xs (i + 2))), .int (zi (sxv xs (i + 3))), .int (zi (sxv xs (i + 4))), .int (zi (sxv xs (i + 5)))]) dL_law_254 mkX5_step csL_22 c2 (by omega) (he := rfl) (hci := ⟨_, rfl, rfl⟩) rfl rfl (Nat.le_of_ble_eq_true rfl) ⟨Or.inl rfl, by decide, by decide, fun r2 h2 p2 => ?_⟩
  obtain ⟨s2, rfl, rfl, hJ2⟩ := p2
  exact ZX.icmp_eq 1119 dL_law_257 (by decide) (fun _ => k9 s2 hJ2) (fun q => absurd rfl q)
set_option maxHeartbeats 1000000 in
theorem lw_case2 {nm ds : String} {i : Int} {σ : zS} (hJ : JJ σ) (i0 : 0 ≤ i) (i6 : i + 6 ≤ Ln) (hL : Ln ≤ 3072) (k9 : ∀ s : zS, JJ s → LAW Ln xs nm ds 1119 i s) : LAW Ln xs nm ds 262 i σ := by
  refine ZX.aload_n dL_law_262 rfl ?_
  refine zx_arg 1 dL_law_263 dL_law_264 dL_law_265 dL_law_266 dL_law_267 rfl rfl (by omega) (by omega) hL ?_
  refine ZX.callV (b := 0) (As := [.int (zi (sxv xs (i + 1)))]) dL_law_268 mkX4_back csL_23 (PAIR.zc (pr_back hJ (sxv_b _))) (by omega) (he := rfl) (hci := ⟨_, rfl, rfl⟩) rfl rfl (Nat.le_of_ble_eq_true rfl) ⟨Or.inl rfl, by decide, by decide, fun r1 h1 p1 => ?_⟩
  obtain ⟨s1, rfl, ⟨v, rfl⟩, c2⟩ := p1
  refine ZX.aload_n dL_law_271 rfl ?_
  refine zx_arg 1 dL_law_272 dL_law_273 dL_law_274 dL_law_275 dL_law_276 rfl rfl (by omega) (by omega) hL ?_
  refine ZX.callV (b := 67) (As := [.int (zi (sxv xs (i + 1)))]) dL_law_277 mkX5_back csL_27 c2 (by omega) (he := rfl) (hci := ⟨_, rfl, rfl⟩) rfl rfl (Nat.le_of_ble_eq_true rfl) ⟨Or.inl rfl, by decide, by decide, fun r2 h2 p2 => ?_⟩
  obtain ⟨s2, rfl, rfl, hJ2⟩ := p2
  exact ZX.icmp_eq 1119 dL_law_280 (by decide) (fun _ => k9 s2 hJ2) (fun q => absurd rfl q)
set_option maxHeartbeats 1000000 in
theorem lw_case3 {nm ds : String} {i : Int} {σ : zS} (hJ : JJ σ) (i0 : 0 ≤ i) (i6 : i + 6 ≤ Ln) (hL : Ln ≤ 3072) (k9 : ∀ s : zS, JJ s → LAW Ln xs nm ds 1119 i s) : LAW Ln xs nm ds 285 i σ := by
  refine ZX.aload_n dL_law_285 rfl ?_
  refine zx_arg 1 dL_law_286 dL_law_287 dL_law_288 dL_law_289 dL_law_290 rfl rfl (by omega) (by omega) hL ?_
  refine zx_arg 2 dL_law_291 dL_law_292 dL_law_293 dL_law_294 dL_law_295 rfl rfl (by omega) (by omega) hL ?_
  refine zx_arg 3 dL_law_296 dL_law_297 dL_law_298 dL_law_299 dL_law_300 rfl rfl (by omega) (by omega) hL ?_
  refine zx_arg 4 dL_law_301 dL_law_302 dL_law_303 dL_law_304 dL_law_305 rfl rfl (by omega) (by omega) hL ?_
  refine ZX.callV (b := 0) (As := [.int (zi (sxv xs (i + 1))), .int (zi (sxv xs (i + 2))), .int (zi (sxv xs (i + 3))), .int (zi (sxv xs (i + 4)))]) dL_law_306 mkX4_tune csL_28 (PAIR.zc (pr_tune hJ (sxv_b _) (sxv_b _) (sxv_b _) (sxv_b _))) (by omega) (he := rfl) (hci := ⟨_, rfl, rfl⟩) rfl rfl (Nat.le_of_ble_eq_true rfl) ⟨Or.inl rfl, by decide, by decide, fun r1 h1 p1 => ?_⟩
  obtain ⟨s1, rfl, ⟨v, rfl⟩, c2⟩ := p1
  refine ZX.aload_n dL_law_309 rfl ?_
  refine zx_arg 1 dL_law_310 dL_law_311 dL_law_312 dL_law_313 dL_law_314 rfl rfl (by omega) (by omega) hL ?_
  refine zx_arg 2 dL_law_315 dL_law_316 dL_law_317 dL_law_318 dL_law_319 rfl rfl (by omega) (by omega) hL ?_
  refine zx_arg 3 dL_law_320 dL_law_321 dL_law_322 dL_law_323 dL_law_324 rfl rfl (by omega) (by omega) hL ?_
  refine zx_arg 4 dL_law_325 dL_law_326 dL_law_327 dL_law_328 dL_law_329 rfl rfl (by omega) (by omega) hL ?_
  refine ZX.callV (b := 67) (As := [.int (zi (sxv xs (i + 1))), .int (zi (sxv xs (i + 2))), .int (zi (sxv xs (i + 3))), .int (zi (sxv xs (i + 4)))]) dL_law_330 mkX5_tune csL_32 c2 (by omega) (he := rfl) (hci := ⟨_, rfl, rfl⟩) rfl rfl (Nat.le_of_ble_eq_true rfl) ⟨Or.inl rfl, by decide, by decide, fun r2 h2 p2 => ?_⟩
  obtain ⟨s2, rfl, rfl, hJ2⟩ := p2
  exact ZX.icmp_eq 1119 dL_law_333 (by decide) (fun _ => k9 s2 hJ2) (fun q => absurd rfl q)
set_option maxHeartbeats 1000000 in
theorem lw_case4 {nm ds : String} {i : Int} {σ : zS} (hJ : JJ σ) (i0 : 0 ≤ i) (i6 : i + 6 ≤ Ln) (hL : Ln ≤ 3072) (k9 : ∀ s : zS, JJ s → LAW Ln xs nm ds 1119 i s) : LAW Ln xs nm ds 338 i σ := by
  refine ZX.aload_n dL_law_338 rfl ?_
  refine zx_arg 1 dL_law_339 dL_law_340 dL_law_341 dL_law_342 dL_law_343 rfl rfl (by omega) (by omega) hL ?_
  refine zx_arg 2 dL_law_344 dL_law_345 dL_law_346 dL_law_347 dL_law_348 rfl rfl (by omega) (by omega) hL ?_
  refine ZX.callV (b := 0) (As := [.int (zi (sxv xs (i + 1))), .int (zi (sxv xs (i + 2)))]) dL_law_349 mkX4_read csL_33 (PAIR.zc (pr_read hJ (sxv_b _) (sxv_b _))) (by omega) (he := rfl) (hci := ⟨_, rfl, rfl⟩) rfl rfl (Nat.le_of_ble_eq_true rfl) ⟨Or.inl rfl, by decide, by decide, fun r1 h1 p1 => ?_⟩
  obtain ⟨s1, rfl, ⟨v, rfl⟩, c2⟩ := p1
  refine ZX.aload_n dL_law_352 rfl ?_
  refine zx_arg 1 dL_law_353 dL_law_354 dL_law_355 dL_law_356 dL_law_357 rfl rfl (by omega) (by omega) hL ?_
  refine zx_arg 2 dL_law_358 dL_law_359 dL_law_360 dL_law_361 dL_law_362 rfl rfl (by omega) (by omega) hL ?_
  refine ZX.callV (b := 67) (As := [.int (zi (sxv xs (i + 1))), .int (zi (sxv xs (i + 2)))]) dL_law_363 mkX5_read csL_37 c2 (by omega) (he := rfl) (hci := ⟨_, rfl, rfl⟩) rfl rfl (Nat.le_of_ble_eq_true rfl) ⟨Or.inl rfl, by decide, by decide, fun r2 h2 p2 => ?_⟩
  obtain ⟨s2, rfl, rfl, hJ2⟩ := p2
  exact ZX.icmp_eq 1119 dL_law_366 (by decide) (fun _ => k9 s2 hJ2) (fun q => absurd rfl q)
set_option maxHeartbeats 1000000 in
theorem lw_case5 {nm ds : String} {i : Int} {σ : zS} (hJ : JJ σ) (i0 : 0 ≤ i) (i6 : i + 6 ≤ Ln) (hL : Ln ≤ 3072) (k9 : ∀ s : zS, JJ s → LAW Ln xs nm ds 1119 i s) : LAW Ln xs nm ds 371 i σ := by
  refine ZX.aload_n dL_law_371 rfl ?_
  refine zx_arg 1 dL_law_372 dL_law_373 dL_law_374 dL_law_375 dL_law_376 rfl rfl (by omega) (by omega) hL ?_
  refine zx_arg 2 dL_law_377 dL_law_378 dL_law_379 dL_law_380 dL_law_381 rfl rfl (by omega) (by omega) hL ?_
  refine ZX.callV (b := 0) (As := [.int (zi (sxv xs (i + 1))), .int (zi (sxv xs (i + 2)))]) dL_law_382 mkX4_has csL_38 (PAIR.zc (pr_has hJ (sxv_b _) (sxv_b _))) (by omega) (he := rfl) (hci := ⟨_, rfl, rfl⟩) rfl rfl (Nat.le_of_ble_eq_true rfl) ⟨Or.inl rfl, by decide, by decide, fun r1 h1 p1 => ?_⟩
  obtain ⟨s1, rfl, ⟨v, rfl⟩, c2⟩ := p1
  refine ZX.aload_n dL_law_385 rfl ?_
  refine zx_arg 1 dL_law_386 dL_law_387 dL_law_388 dL_law_389 dL_law_390 rfl rfl (by omega) (by omega) hL ?_
  refine zx_arg 2 dL_law_391 dL_law_392 dL_law_393 dL_law_394 dL_law_395 rfl rfl (by omega) (by omega) hL ?_
  refine ZX.callV (b := 67) (As := [.int (zi (sxv xs (i + 1))), .int (zi (sxv xs (i + 2)))]) dL_law_396 mkX5_has csL_41 c2 (by omega) (he := rfl) (hci := ⟨_, rfl, rfl⟩) rfl rfl (Nat.le_of_ble_eq_true rfl) ⟨Or.inl rfl, by decide, by decide, fun r2 h2 p2 => ?_⟩
  obtain ⟨s2, rfl, rfl, hJ2⟩ := p2
  exact ZX.icmp_eq 1119 dL_law_399 (by decide) (fun _ => k9 s2 hJ2) (fun q => absurd rfl q)
set_option maxHeartbeats 1000000 in
theorem lw_case6 {nm ds : String} {i : Int} {σ : zS} (hJ : JJ σ) (i0 : 0 ≤ i) (i6 : i + 6 ≤ Ln) (hL : Ln ≤ 3072) (k9 : ∀ s : zS, JJ s → LAW Ln xs nm ds 1119 i s) : LAW Ln xs nm ds 404 i σ := by
  refine ZX.aload_n dL_law_404 rfl ?_
  refine zx_arg 1 dL_law_405 dL_law_406 dL_law_407 dL_law_408 dL_law_409 rfl rfl (by omega) (by omega) hL ?_
  refine zx_arg 2 dL_law_410 dL_law_411 dL_law_412 dL_law_413 dL_law_414 rfl rfl (by omega) (by omega) hL ?_
  refine zx_arg 3 dL_law_415 dL_law_416 dL_law_417 dL_law_418 dL_law_419 rfl rfl (by omega) (by omega) hL ?_
  refine ZX.callV (b := 0) (As := [.int (zi (sxv xs (i + 1))), .int (zi (sxv xs (i + 2))), .int (zi (sxv xs (i + 3)))]) dL_law_420 mkX4_info csL_42 (PAIR.zc (pr_info hJ (sxv_b _) (sxv_b _) (sxv_b _))) (by omega) (he := rfl) (hci := ⟨_, rfl, rfl⟩) rfl rfl (Nat.le_of_ble_eq_true rfl) ⟨Or.inl rfl, by decide, by decide, fun r1 h1 p1 => ?_⟩
  obtain ⟨s1, rfl, ⟨v, rfl⟩, c2⟩ := p1
  refine ZX.aload_n dL_law_423 rfl ?_
  refine zx_arg 1 dL_law_424 dL_law_425 dL_law_426 dL_law_427 dL_law_428 rfl rfl (by omega) (by omega) hL ?_
  refine zx_arg 2 dL_law_429 dL_law_430 dL_law_431 dL_law_432 dL_law_433 rfl rfl (by omega) (by omega) hL ?_
  refine zx_arg 3 dL_law_434 dL_law_435 dL_law_436 dL_law_437 dL_law_438 rfl rfl (by omega) (by omega) hL ?_
  refine ZX.callV (b := 67) (As := [.int (zi (sxv xs (i + 1))), .int (zi (sxv xs (i + 2))), .int (zi (sxv xs (i + 3)))]) dL_law_439 mkX5_info csL_45 c2 (by omega) (he := rfl) (hci := ⟨_, rfl, rfl⟩) rfl rfl (Nat.le_of_ble_eq_true rfl) ⟨Or.inl rfl, by decide, by decide, fun r2 h2 p2 => ?_⟩
  obtain ⟨s2, rfl, rfl, hJ2⟩ := p2
  exact ZX.icmp_eq 1119 dL_law_442 (by decide) (fun _ => k9 s2 hJ2) (fun q => absurd rfl q)
set_option maxHeartbeats 1000000 in
theorem lw_case7 {nm ds : String} {i : Int} {σ : zS} (hJ : JJ σ) (i0 : 0 ≤ i) (i6 : i + 6 ≤ Ln) (hL : Ln ≤ 3072) (k9 : ∀ s : zS, JJ s → LAW Ln xs nm ds 1119 i s) : LAW Ln xs nm ds 447 i σ := by
  refine ZX.aload_n dL_law_447 rfl ?_
  refine zx_arg 1 dL_law_448 dL_law_449 dL_law_450 dL_law_451 dL_law_452 rfl rfl (by omega) (by omega) hL ?_
  refine zx_arg 2 dL_law_453 dL_law_454 dL_law_455 dL_law_456 dL_law_457 rfl rfl (by omega) (by omega) hL ?_
  refine zx_arg 3 dL_law_458 dL_law_459 dL_law_460 dL_law_461 dL_law_462 rfl rfl (by omega) (by omega) hL ?_
  refine ZX.callV (b := 0) (As := [.int (zi (sxv xs (i + 1))), .int (zi (sxv xs (i + 2))), .int (zi (sxv xs (i + 3)))]) dL_law_463 mkX4_load csL_46 (PAIR.zc (pr_load hJ (sxv_b _) (sxv_b _) (sxv_b _))) (by omega) (he := rfl) (hci := ⟨_, rfl, rfl⟩) rfl rfl (Nat.le_of_ble_eq_true rfl) ⟨Or.inl rfl, by decide, by decide, fun r1 h1 p1 => ?_⟩
  obtain ⟨s1, rfl, ⟨v, rfl⟩, c2⟩ := p1
  refine ZX.aload_n dL_law_466 rfl ?_
  refine zx_arg 1 dL_law_467 dL_law_468 dL_law_469 dL_law_470 dL_law_471 rfl rfl (by omega) (by omega) hL ?_
  refine zx_arg 2 dL_law_472 dL_law_473 dL_law_474 dL_law_475 dL_law_476 rfl rfl (by omega) (by omega) hL ?_
  refine zx_arg 3 dL_law_477 dL_law_478 dL_law_479 dL_law_480 dL_law_481 rfl rfl (by omega) (by omega) hL ?_
  refine ZX.callV (b := 67) (As := [.int (zi (sxv xs (i + 1))), .int (zi (sxv xs (i + 2))), .int (zi (sxv xs (i + 3)))]) dL_law_482 mkX5_load csL_49 c2 (by omega) (he := rfl) (hci := ⟨_, rfl, rfl⟩) rfl rfl (Nat.le_of_ble_eq_true rfl) ⟨Or.inl rfl, by decide, by decide, fun r2 h2 p2 => ?_⟩
  obtain ⟨s2, rfl, rfl, hJ2⟩ := p2
  exact ZX.icmp_eq 1119 dL_law_485 (by decide) (fun _ => k9 s2 hJ2) (fun q => absurd rfl q)
set_option maxHeartbeats 1000000 in
theorem lw_case8 {nm ds : String} {i : Int} {σ : zS} (hJ : JJ σ) (i0 : 0 ≤ i) (i6 : i + 6 ≤ Ln) (hL : Ln ≤ 3072) (k9 : ∀ s : zS, JJ s → LAW Ln xs nm ds 1119 i s) : LAW Ln xs nm ds 490 i σ := by
  refine ZX.aload_n dL_law_490 rfl ?_
  refine zx_arg 1 dL_law_491 dL_law_492 dL_law_493 dL_law_494 dL_law_495 rfl rfl (by omega) (by omega) hL ?_
  refine zx_arg 2 dL_law_496 dL_law_497 dL_law_498 dL_law_499 dL_law_500 rfl rfl (by omega) (by omega) hL ?_
  refine ZX.callV (b := 0) (As := [.int (zi (sxv xs (i + 1))), .int (zi (sxv xs (i + 2)))]) dL_law_501 mkX4_bound csL_50 (PAIR.zc (pr_bound hJ (sxv_b _) (sxv_b _))) (by omega) (he := rfl) (hci := ⟨_, rfl, rfl⟩) rfl rfl (Nat.le_of_ble_eq_true rfl) ⟨Or.inl rfl, by decide, by decide, fun r1 h1 p1 => ?_⟩
  obtain ⟨s1, rfl, ⟨v, rfl⟩, c2⟩ := p1
  refine ZX.aload_n dL_law_504 rfl ?_
  refine zx_arg 1 dL_law_505 dL_law_506 dL_law_507 dL_law_508 dL_law_509 rfl rfl (by omega) (by omega) hL ?_
  refine zx_arg 2 dL_law_510 dL_law_511 dL_law_512 dL_law_513 dL_law_514 rfl rfl (by omega) (by omega) hL ?_
  refine ZX.callV (b := 67) (As := [.int (zi (sxv xs (i + 1))), .int (zi (sxv xs (i + 2)))]) dL_law_515 mkX5_bound csL_53 c2 (by omega) (he := rfl) (hci := ⟨_, rfl, rfl⟩) rfl rfl (Nat.le_of_ble_eq_true rfl) ⟨Or.inl rfl, by decide, by decide, fun r2 h2 p2 => ?_⟩
  obtain ⟨s2, rfl, rfl, hJ2⟩ := p2
  exact ZX.icmp_eq 1119 dL_law_518 (by decide) (fun _ => k9 s2 hJ2) (fun q => absurd rfl q)
set_option maxHeartbeats 1000000 in
theorem lw_case9 {nm ds : String} {i : Int} {σ : zS} (hJ : JJ σ) (i0 : 0 ≤ i) (i6 : i + 6 ≤ Ln) (hL : Ln ≤ 3072) (k9 : ∀ s : zS, JJ s → LAW Ln xs nm ds 1119 i s) : LAW Ln xs nm ds 523 i σ := by
  refine ZX.aload_n dL_law_523 rfl ?_
  refine zx_arg 1 dL_law_524 dL_law_525 dL_law_526 dL_law_527 dL_law_528 rfl rfl (by omega) (by omega) hL ?_
  refine zx_arg 2 dL_law_529 dL_law_530 dL_law_531 dL_law_532 dL_law_533 rfl rfl (by omega) (by omega) hL ?_
  refine ZX.callV (b := 0) (As := [.int (zi (sxv xs (i + 1))), .int (zi (sxv xs (i + 2)))]) dL_law_534 mkX4_searched csL_54 (PAIR.zc (pr_searched hJ (sxv_b _) (sxv_b _))) (by omega) (he := rfl) (hci := ⟨_, rfl, rfl⟩) rfl rfl (Nat.le_of_ble_eq_true rfl) ⟨Or.inl rfl, by decide, by decide, fun r1 h1 p1 => ?_⟩
  obtain ⟨s1, rfl, ⟨v, rfl⟩, c2⟩ := p1
  refine ZX.aload_n dL_law_537 rfl ?_
  refine zx_arg 1 dL_law_538 dL_law_539 dL_law_540 dL_law_541 dL_law_542 rfl rfl (by omega) (by omega) hL ?_
  refine zx_arg 2 dL_law_543 dL_law_544 dL_law_545 dL_law_546 dL_law_547 rfl rfl (by omega) (by omega) hL ?_
  refine ZX.callV (b := 67) (As := [.int (zi (sxv xs (i + 1))), .int (zi (sxv xs (i + 2)))]) dL_law_548 mkX5_searched csL_57 c2 (by omega) (he := rfl) (hci := ⟨_, rfl, rfl⟩) rfl rfl (Nat.le_of_ble_eq_true rfl) ⟨Or.inl rfl, by decide, by decide, fun r2 h2 p2 => ?_⟩
  obtain ⟨s2, rfl, rfl, hJ2⟩ := p2
  exact ZX.icmp_eq 1119 dL_law_551 (by decide) (fun _ => k9 s2 hJ2) (fun q => absurd rfl q)
set_option maxHeartbeats 1000000 in
theorem lw_case10 {nm ds : String} {i : Int} {σ : zS} (hJ : JJ σ) (i0 : 0 ≤ i) (i6 : i + 6 ≤ Ln) (hL : Ln ≤ 3072) (k9 : ∀ s : zS, JJ s → LAW Ln xs nm ds 1119 i s) : LAW Ln xs nm ds 556 i σ := by
  refine ZX.aload_n dL_law_556 rfl ?_
  refine zx_arg 1 dL_law_557 dL_law_558 dL_law_559 dL_law_560 dL_law_561 rfl rfl (by omega) (by omega) hL ?_
  refine zx_arg 2 dL_law_562 dL_law_563 dL_law_564 dL_law_565 dL_law_566 rfl rfl (by omega) (by omega) hL ?_
  refine ZX.callV (b := 0) (As := [.int (zi (sxv xs (i + 1))), .int (zi (sxv xs (i + 2)))]) dL_law_567 mkX4_quick csL_58 (PAIR.zc (pr_quick hJ (sxv_b _) (sxv_b _))) (by omega) (he := rfl) (hci := ⟨_, rfl, rfl⟩) rfl rfl (Nat.le_of_ble_eq_true rfl) ⟨Or.inl rfl, by decide, by decide, fun r1 h1 p1 => ?_⟩
  obtain ⟨s1, rfl, ⟨v, rfl⟩, c2⟩ := p1
  refine ZX.aload_n dL_law_570 rfl ?_
  refine zx_arg 1 dL_law_571 dL_law_572 dL_law_573 dL_law_574 dL_law_575 rfl rfl (by omega) (by omega) hL ?_
  refine zx_arg 2 dL_law_576 dL_law_577 dL_law_578 dL_law_579 dL_law_580 rfl rfl (by omega) (by omega) hL ?_
  refine ZX.callV (b := 67) (As := [.int (zi (sxv xs (i + 1))), .int (zi (sxv xs (i + 2)))]) dL_law_581 mkX5_quick csL_61 c2 (by omega) (he := rfl) (hci := ⟨_, rfl, rfl⟩) rfl rfl (Nat.le_of_ble_eq_true rfl) ⟨Or.inl rfl, by decide, by decide, fun r2 h2 p2 => ?_⟩
  obtain ⟨s2, rfl, rfl, hJ2⟩ := p2
  exact ZX.icmp_eq 1119 dL_law_584 (by decide) (fun _ => k9 s2 hJ2) (fun q => absurd rfl q)
set_option maxHeartbeats 1000000 in
theorem lw_case11 {nm ds : String} {i : Int} {σ : zS} (hJ : JJ σ) (i0 : 0 ≤ i) (i6 : i + 6 ≤ Ln) (hL : Ln ≤ 3072) (k9 : ∀ s : zS, JJ s → LAW Ln xs nm ds 1119 i s) : LAW Ln xs nm ds 589 i σ := by
  refine ZX.aload_n dL_law_589 rfl ?_
  refine ZX.callV (b := 0) (As := []) dL_law_590 mkX4_rounds csL_62 (PAIR.zc (pr_rounds hJ)) (by omega) (he := rfl) (hci := ⟨_, rfl, rfl⟩) rfl rfl (Nat.le_of_ble_eq_true rfl) ⟨Or.inl rfl, by decide, by decide, fun r1 h1 p1 => ?_⟩
  obtain ⟨s1, rfl, ⟨v, rfl⟩, c2⟩ := p1
  refine ZX.aload_n dL_law_593 rfl ?_
  refine ZX.callV (b := 67) (As := []) dL_law_594 mkX5_rounds csL_66 c2 (by omega) (he := rfl) (hci := ⟨_, rfl, rfl⟩) rfl rfl (Nat.le_of_ble_eq_true rfl) ⟨Or.inl rfl, by decide, by decide, fun r2 h2 p2 => ?_⟩
  obtain ⟨s2, rfl, rfl, hJ2⟩ := p2
  exact ZX.icmp_eq 1119 dL_law_597 (by decide) (fun _ => k9 s2 hJ2) (fun q => absurd rfl q)
set_option maxHeartbeats 1000000 in
theorem lw_case12 {nm ds : String} {i : Int} {σ : zS} (hJ : JJ σ) (i0 : 0 ≤ i) (i6 : i + 6 ≤ Ln) (hL : Ln ≤ 3072) (k9 : ∀ s : zS, JJ s → LAW Ln xs nm ds 1119 i s) : LAW Ln xs nm ds 602 i σ := by
  refine ZX.aload_n dL_law_602 rfl ?_
  refine zx_arg 1 dL_law_603 dL_law_604 dL_law_605 dL_law_606 dL_law_607 rfl rfl (by omega) (by omega) hL ?_
  refine zx_arg 2 dL_law_608 dL_law_609 dL_law_610 dL_law_611 dL_law_612 rfl rfl (by omega) (by omega) hL ?_
  refine zx_arg 3 dL_law_613 dL_law_614 dL_law_615 dL_law_616 dL_law_617 rfl rfl (by omega) (by omega) hL ?_
  refine ZX.callV (b := 0) (As := [.int (zi (sxv xs (i + 1))), .int (zi (sxv xs (i + 2))), .int (zi (sxv xs (i + 3)))]) dL_law_618 mkX4_worst csL_67 (PAIR.zc (pr_worst hJ (sxv_b _) (sxv_b _) (sxv_b _))) (by omega) (he := rfl) (hci := ⟨_, rfl, rfl⟩) rfl rfl (Nat.le_of_ble_eq_true rfl) ⟨Or.inl rfl, by decide, by decide, fun r1 h1 p1 => ?_⟩
  obtain ⟨s1, rfl, ⟨v, rfl⟩, c2⟩ := p1
  refine ZX.aload_n dL_law_621 rfl ?_
  refine zx_arg 1 dL_law_622 dL_law_623 dL_law_624 dL_law_625 dL_law_626 rfl rfl (by omega) (by omega) hL ?_
  refine zx_arg 2 dL_law_627 dL_law_628 dL_law_629 dL_law_630 dL_law_631 rfl rfl (by omega) (by omega) hL ?_
  refine zx_arg 3 dL_law_632 dL_law_633 dL_law_634 dL_law_635 dL_law_636 rfl rfl (by omega) (by omega) hL ?_
  refine ZX.callV (b := 67) (As := [.int (zi (sxv xs (i + 1))), .int (zi (sxv xs (i + 2))), .int (zi (sxv xs (i + 3)))]) dL_law_637 mkX5_worst csL_70 c2 (by omega) (he := rfl) (hci := ⟨_, rfl, rfl⟩) rfl rfl (Nat.le_of_ble_eq_true rfl) ⟨Or.inl rfl, by decide, by decide, fun r2 h2 p2 => ?_⟩
  obtain ⟨s2, rfl, rfl, hJ2⟩ := p2
  exact ZX.icmp_eq 1119 dL_law_640 (by decide) (fun _ => k9 s2 hJ2) (fun q => absurd rfl q)
set_option maxHeartbeats 1000000 in
theorem lw_case13 {nm ds : String} {i : Int} {σ : zS} (hJ : JJ σ) (i0 : 0 ≤ i) (i6 : i + 6 ≤ Ln) (hL : Ln ≤ 3072) (k9 : ∀ s : zS, JJ s → LAW Ln xs nm ds 1119 i s) : LAW Ln xs nm ds 645 i σ := by
  refine ZX.aload_n dL_law_645 rfl ?_
  refine ZX.callV (b := 0) (As := []) dL_law_646 mkX4_meets csL_71 (PAIR.zc (pr_meets hJ)) (by omega) (he := rfl) (hci := ⟨_, rfl, rfl⟩) rfl rfl (Nat.le_of_ble_eq_true rfl) ⟨Or.inl rfl, by decide, by decide, fun r1 h1 p1 => ?_⟩
  obtain ⟨s1, rfl, ⟨v, rfl⟩, c2⟩ := p1
  refine ZX.aload_n dL_law_649 rfl ?_
  refine ZX.callV (b := 67) (As := []) dL_law_650 mkX5_meets csL_74 c2 (by omega) (he := rfl) (hci := ⟨_, rfl, rfl⟩) rfl rfl (Nat.le_of_ble_eq_true rfl) ⟨Or.inl rfl, by decide, by decide, fun r2 h2 p2 => ?_⟩
  obtain ⟨s2, rfl, rfl, hJ2⟩ := p2
  exact ZX.icmp_eq 1119 dL_law_653 (by decide) (fun _ => k9 s2 hJ2) (fun q => absurd rfl q)
set_option maxHeartbeats 1000000 in
theorem lw_case14 {nm ds : String} {i : Int} {σ : zS} (hJ : JJ σ) (i0 : 0 ≤ i) (i6 : i + 6 ≤ Ln) (hL : Ln ≤ 3072) (k9 : ∀ s : zS, JJ s → LAW Ln xs nm ds 1119 i s) : LAW Ln xs nm ds 658 i σ := by
  refine ZX.aload_n dL_law_658 rfl ?_
  refine zx_arg 1 dL_law_659 dL_law_660 dL_law_661 dL_law_662 dL_law_663 rfl rfl (by omega) (by omega) hL ?_
  refine zx_arg 2 dL_law_664 dL_law_665 dL_law_666 dL_law_667 dL_law_668 rfl rfl (by omega) (by omega) hL ?_
  refine ZX.callV (b := 0) (As := [.int (zi (sxv xs (i + 1))), .int (zi (sxv xs (i + 2)))]) dL_law_669 mkX4_margin csL_75 (PAIR.zc (pr_margin hJ (sxv_b _) (sxv_b _))) (by omega) (he := rfl) (hci := ⟨_, rfl, rfl⟩) rfl rfl (Nat.le_of_ble_eq_true rfl) ⟨Or.inl rfl, by decide, by decide, fun r1 h1 p1 => ?_⟩
  obtain ⟨s1, rfl, ⟨v, rfl⟩, c2⟩ := p1
  refine ZX.aload_n dL_law_672 rfl ?_
  refine zx_arg 1 dL_law_673 dL_law_674 dL_law_675 dL_law_676 dL_law_677 rfl rfl (by omega) (by omega) hL ?_
  refine zx_arg 2 dL_law_678 dL_law_679 dL_law_680 dL_law_681 dL_law_682 rfl rfl (by omega) (by omega) hL ?_
  refine ZX.callV (b := 67) (As := [.int (zi (sxv xs (i + 1))), .int (zi (sxv xs (i + 2)))]) dL_law_683 mkX5_margin csL_78 c2 (by omega) (he := rfl) (hci := ⟨_, rfl, rfl⟩) rfl rfl (Nat.le_of_ble_eq_true rfl) ⟨Or.inl rfl, by decide, by decide, fun r2 h2 p2 => ?_⟩
  obtain ⟨s2, rfl, rfl, hJ2⟩ := p2
  exact ZX.icmp_eq 1119 dL_law_686 (by decide) (fun _ => k9 s2 hJ2) (fun q => absurd rfl q)
set_option maxHeartbeats 1000000 in
theorem lw_case15 {nm ds : String} {i : Int} {σ : zS} (hJ : JJ σ) (i0 : 0 ≤ i) (i6 : i + 6 ≤ Ln) (hL : Ln ≤ 3072) (k9 : ∀ s : zS, JJ s → LAW Ln xs nm ds 1119 i s) : LAW Ln xs nm ds 691 i σ := by
  refine ZX.aload_n dL_law_691 rfl ?_
  refine zx_arg 1 dL_law_692 dL_law_693 dL_law_694 dL_law_695 dL_law_696 rfl rfl (by omega) (by omega) hL ?_
  refine zx_arg 2 dL_law_697 dL_law_698 dL_law_699 dL_law_700 dL_law_701 rfl rfl (by omega) (by omega) hL ?_
  refine zx_arg 3 dL_law_702 dL_law_703 dL_law_704 dL_law_705 dL_law_706 rfl rfl (by omega) (by omega) hL ?_
  refine ZX.callV (b := 0) (As := [.int (zi (sxv xs (i + 1))), .int (zi (sxv xs (i + 2))), .int (zi (sxv xs (i + 3)))]) dL_law_707 mkX4_better csL_79 (PAIR.zc (pr_better hJ (sxv_b _) (sxv_b _) (sxv_b _))) (by omega) (he := rfl) (hci := ⟨_, rfl, rfl⟩) rfl rfl (Nat.le_of_ble_eq_true rfl) ⟨Or.inl rfl, by decide, by decide, fun r1 h1 p1 => ?_⟩
  obtain ⟨s1, rfl, ⟨v, rfl⟩, c2⟩ := p1
  refine ZX.aload_n dL_law_710 rfl ?_
  refine zx_arg 1 dL_law_711 dL_law_712 dL_law_713 dL_law_714 dL_law_715 rfl rfl (by omega) (by omega) hL ?_
  refine zx_arg 2 dL_law_716 dL_law_717 dL_law_718 dL_law_719 dL_law_720 rfl rfl (by omega) (by omega) hL ?_
  refine zx_arg 3 dL_law_721 dL_law_722 dL_law_723 dL_law_724 dL_law_725 rfl rfl (by omega) (by omega) hL ?_
  refine ZX.callV (b := 67) (As := [.int (zi (sxv xs (i + 1))), .int (zi (sxv xs (i + 2))), .int (zi (sxv xs (i + 3)))]) dL_law_726 mkX5_better csL_82 c2 (by omega) (he := rfl) (hci := ⟨_, rfl, rfl⟩) rfl rfl (Nat.le_of_ble_eq_true rfl) ⟨Or.inl rfl, by decide, by decide, fun r2 h2 p2 => ?_⟩
  obtain ⟨s2, rfl, rfl, hJ2⟩ := p2
  exact ZX.icmp_eq 1119 dL_law_729 (by decide) (fun _ => k9 s2 hJ2) (fun q => absurd rfl q)
set_option maxHeartbeats 1000000 in
theorem lw_case16 {nm ds : String} {i : Int} {σ : zS} (hJ : JJ σ) (i0 : 0 ≤ i) (i6 : i + 6 ≤ Ln) (hL : Ln ≤ 3072) (k9 : ∀ s : zS, JJ s → LAW Ln xs nm ds 1119 i s) : LAW Ln xs nm ds 734 i σ := by
  refine ZX.aload_n dL_law_734 rfl ?_
  refine zx_arg 1 dL_law_735 dL_law_736 dL_law_737 dL_law_738 dL_law_739 rfl rfl (by omega) (by omega) hL ?_
  refine ZX.callV (b := 0) (As := [.int (zi (sxv xs (i + 1)))]) dL_law_740 mkX4_run csL_83 (PAIR.zc (pr_run hJ (sxv_b _))) (by omega) (he := rfl) (hci := ⟨_, rfl, rfl⟩) rfl rfl (Nat.le_of_ble_eq_true rfl) ⟨Or.inl rfl, by decide, by decide, fun r1 h1 p1 => ?_⟩
  obtain ⟨s1, rfl, ⟨v, rfl⟩, c2⟩ := p1
  refine ZX.aload_n dL_law_743 rfl ?_
  refine zx_arg 1 dL_law_744 dL_law_745 dL_law_746 dL_law_747 dL_law_748 rfl rfl (by omega) (by omega) hL ?_
  refine ZX.callV (b := 67) (As := [.int (zi (sxv xs (i + 1)))]) dL_law_749 mkX5_run csL_86 c2 (by omega) (he := rfl) (hci := ⟨_, rfl, rfl⟩) rfl rfl (Nat.le_of_ble_eq_true rfl) ⟨Or.inl rfl, by decide, by decide, fun r2 h2 p2 => ?_⟩
  obtain ⟨s2, rfl, rfl, hJ2⟩ := p2
  exact ZX.icmp_eq 1119 dL_law_752 (by decide) (fun _ => k9 s2 hJ2) (fun q => absurd rfl q)
set_option maxHeartbeats 1000000 in
theorem lw_case17 {nm ds : String} {i : Int} {σ : zS} (hJ : JJ σ) (i0 : 0 ≤ i) (i6 : i + 6 ≤ Ln) (hL : Ln ≤ 3072) (k9 : ∀ s : zS, JJ s → LAW Ln xs nm ds 1119 i s) : LAW Ln xs nm ds 757 i σ := by
  refine ZX.aload_n dL_law_757 rfl ?_
  refine zx_arg 1 dL_law_758 dL_law_759 dL_law_760 dL_law_761 dL_law_762 rfl rfl (by omega) (by omega) hL ?_
  refine zx_arg 2 dL_law_763 dL_law_764 dL_law_765 dL_law_766 dL_law_767 rfl rfl (by omega) (by omega) hL ?_
  refine zx_arg 3 dL_law_768 dL_law_769 dL_law_770 dL_law_771 dL_law_772 rfl rfl (by omega) (by omega) hL ?_
  refine ZX.callV (b := 0) (As := [.int (zi (sxv xs (i + 1))), .int (zi (sxv xs (i + 2))), .int (zi (sxv xs (i + 3)))]) dL_law_773 mkX4_seen csL_87 (PAIR.zc (pr_seen hJ (sxv_b _) (sxv_b _) (sxv_b _))) (by omega) (he := rfl) (hci := ⟨_, rfl, rfl⟩) rfl rfl (Nat.le_of_ble_eq_true rfl) ⟨Or.inl rfl, by decide, by decide, fun r1 h1 p1 => ?_⟩
  obtain ⟨s1, rfl, ⟨v, rfl⟩, c2⟩ := p1
  refine ZX.aload_n dL_law_776 rfl ?_
  refine zx_arg 1 dL_law_777 dL_law_778 dL_law_779 dL_law_780 dL_law_781 rfl rfl (by omega) (by omega) hL ?_
  refine zx_arg 2 dL_law_782 dL_law_783 dL_law_784 dL_law_785 dL_law_786 rfl rfl (by omega) (by omega) hL ?_
  refine zx_arg 3 dL_law_787 dL_law_788 dL_law_789 dL_law_790 dL_law_791 rfl rfl (by omega) (by omega) hL ?_
  refine ZX.callV (b := 67) (As := [.int (zi (sxv xs (i + 1))), .int (zi (sxv xs (i + 2))), .int (zi (sxv xs (i + 3)))]) dL_law_792 mkX5_seen csL_90 c2 (by omega) (he := rfl) (hci := ⟨_, rfl, rfl⟩) rfl rfl (Nat.le_of_ble_eq_true rfl) ⟨Or.inl rfl, by decide, by decide, fun r2 h2 p2 => ?_⟩
  obtain ⟨s2, rfl, rfl, hJ2⟩ := p2
  exact ZX.icmp_eq 1119 dL_law_795 (by decide) (fun _ => k9 s2 hJ2) (fun q => absurd rfl q)
set_option maxHeartbeats 1000000 in
theorem lw_case18 {nm ds : String} {i : Int} {σ : zS} (hJ : JJ σ) (i0 : 0 ≤ i) (i6 : i + 6 ≤ Ln) (hL : Ln ≤ 3072) (k9 : ∀ s : zS, JJ s → LAW Ln xs nm ds 1119 i s) : LAW Ln xs nm ds 800 i σ := by
  refine ZX.aload_n dL_law_800 rfl ?_
  refine zx_arg 1 dL_law_801 dL_law_802 dL_law_803 dL_law_804 dL_law_805 rfl rfl (by omega) (by omega) hL ?_
  refine zx_arg 2 dL_law_806 dL_law_807 dL_law_808 dL_law_809 dL_law_810 rfl rfl (by omega) (by omega) hL ?_
  refine ZX.callV (b := 0) (As := [.int (zi (sxv xs (i + 1))), .int (zi (sxv xs (i + 2)))]) dL_law_811 mkX4_tick csL_91 (PAIR.zc (pr_tick hJ (sxv_b _) (sxv_b _))) (by omega) (he := rfl) (hci := ⟨_, rfl, rfl⟩) rfl rfl (Nat.le_of_ble_eq_true rfl) ⟨Or.inl rfl, by decide, by decide, fun r1 h1 p1 => ?_⟩
  obtain ⟨s1, rfl, ⟨v, rfl⟩, c2⟩ := p1
  refine ZX.aload_n dL_law_814 rfl ?_
  refine zx_arg 1 dL_law_815 dL_law_816 dL_law_817 dL_law_818 dL_law_819 rfl rfl (by omega) (by omega) hL ?_
  refine zx_arg 2 dL_law_820 dL_law_821 dL_law_822 dL_law_823 dL_law_824 rfl rfl (by omega) (by omega) hL ?_
  refine ZX.callV (b := 67) (As := [.int (zi (sxv xs (i + 1))), .int (zi (sxv xs (i + 2)))]) dL_law_825 mkX5_tick csL_94 c2 (by omega) (he := rfl) (hci := ⟨_, rfl, rfl⟩) rfl rfl (Nat.le_of_ble_eq_true rfl) ⟨Or.inl rfl, by decide, by decide, fun r2 h2 p2 => ?_⟩
  obtain ⟨s2, rfl, rfl, hJ2⟩ := p2
  exact ZX.icmp_eq 1119 dL_law_828 (by decide) (fun _ => k9 s2 hJ2) (fun q => absurd rfl q)
set_option maxHeartbeats 1000000 in
theorem lw_case19 {nm ds : String} {i : Int} {σ : zS} (hJ : JJ σ) (i0 : 0 ≤ i) (i6 : i + 6 ≤ Ln) (hL : Ln ≤ 3072) (k9 : ∀ s : zS, JJ s → LAW Ln xs nm ds 1119 i s) : LAW Ln xs nm ds 833 i σ := by
  refine ZX.aload_n dL_law_833 rfl ?_
  refine zx_arg 1 dL_law_834 dL_law_835 dL_law_836 dL_law_837 dL_law_838 rfl rfl (by omega) (by omega) hL ?_
  refine zx_arg 2 dL_law_839 dL_law_840 dL_law_841 dL_law_842 dL_law_843 rfl rfl (by omega) (by omega) hL ?_
  refine zx_arg 3 dL_law_844 dL_law_845 dL_law_846 dL_law_847 dL_law_848 rfl rfl (by omega) (by omega) hL ?_
  refine ZX.callV (b := 0) (As := [.int (zi (sxv xs (i + 1))), .int (zi (sxv xs (i + 2))), .int (zi (sxv xs (i + 3)))]) dL_law_849 mkX4_sheet csL_95 (PAIR.zc (pr_sheet hJ (sxv_b _) (sxv_b _) (sxv_b _))) (by omega) (he := rfl) (hci := ⟨_, rfl, rfl⟩) rfl rfl (Nat.le_of_ble_eq_true rfl) ⟨Or.inl rfl, by decide, by decide, fun r1 h1 p1 => ?_⟩
  obtain ⟨s1, rfl, ⟨v, rfl⟩, c2⟩ := p1
  refine ZX.aload_n dL_law_852 rfl ?_
  refine zx_arg 1 dL_law_853 dL_law_854 dL_law_855 dL_law_856 dL_law_857 rfl rfl (by omega) (by omega) hL ?_
  refine zx_arg 2 dL_law_858 dL_law_859 dL_law_860 dL_law_861 dL_law_862 rfl rfl (by omega) (by omega) hL ?_
  refine zx_arg 3 dL_law_863 dL_law_864 dL_law_865 dL_law_866 dL_law_867 rfl rfl (by omega) (by omega) hL ?_
  refine ZX.callV (b := 67) (As := [.int (zi (sxv xs (i + 1))), .int (zi (sxv xs (i + 2))), .int (zi (sxv xs (i + 3)))]) dL_law_868 mkX5_sheet csL_98 c2 (by omega) (he := rfl) (hci := ⟨_, rfl, rfl⟩) rfl rfl (Nat.le_of_ble_eq_true rfl) ⟨Or.inl rfl, by decide, by decide, fun r2 h2 p2 => ?_⟩
  obtain ⟨s2, rfl, rfl, hJ2⟩ := p2
  exact ZX.icmp_eq 1119 dL_law_871 (by decide) (fun _ => k9 s2 hJ2) (fun q => absurd rfl q)
set_option maxHeartbeats 1000000 in
theorem lw_case20 {nm ds : String} {i : Int} {σ : zS} (hJ : JJ σ) (i0 : 0 ≤ i) (i6 : i + 6 ≤ Ln) (hL : Ln ≤ 3072) (k9 : ∀ s : zS, JJ s → LAW Ln xs nm ds 1119 i s) : LAW Ln xs nm ds 876 i σ := by
  refine ZX.aload_n dL_law_876 rfl ?_
  refine zx_arg 1 dL_law_877 dL_law_878 dL_law_879 dL_law_880 dL_law_881 rfl rfl (by omega) (by omega) hL ?_
  refine ZX.callV (b := 0) (As := [.int (zi (sxv xs (i + 1)))]) dL_law_882 mkX4_lose csL_99 (PAIR.zc (pr_lose hJ (sxv_b _))) (by omega) (he := rfl) (hci := ⟨_, rfl, rfl⟩) rfl rfl (Nat.le_of_ble_eq_true rfl) ⟨Or.inl rfl, by decide, by decide, fun r1 h1 p1 => ?_⟩
  obtain ⟨s1, rfl, ⟨v, rfl⟩, c2⟩ := p1
  refine ZX.aload_n dL_law_885 rfl ?_
  refine zx_arg 1 dL_law_886 dL_law_887 dL_law_888 dL_law_889 dL_law_890 rfl rfl (by omega) (by omega) hL ?_
  refine ZX.callV (b := 67) (As := [.int (zi (sxv xs (i + 1)))]) dL_law_891 mkX5_lose csL_102 c2 (by omega) (he := rfl) (hci := ⟨_, rfl, rfl⟩) rfl rfl (Nat.le_of_ble_eq_true rfl) ⟨Or.inl rfl, by decide, by decide, fun r2 h2 p2 => ?_⟩
  obtain ⟨s2, rfl, rfl, hJ2⟩ := p2
  exact ZX.icmp_eq 1119 dL_law_894 (by decide) (fun _ => k9 s2 hJ2) (fun q => absurd rfl q)
set_option maxHeartbeats 1000000 in
theorem lw_case21 {nm ds : String} {i : Int} {σ : zS} (hJ : JJ σ) (i0 : 0 ≤ i) (i6 : i + 6 ≤ Ln) (hL : Ln ≤ 3072) (k9 : ∀ s : zS, JJ s → LAW Ln xs nm ds 1119 i s) : LAW Ln xs nm ds 899 i σ := by
  refine ZX.aload_n dL_law_899 rfl ?_
  refine zx_arg 1 dL_law_900 dL_law_901 dL_law_902 dL_law_903 dL_law_904 rfl rfl (by omega) (by omega) hL ?_
  refine zx_arg 2 dL_law_905 dL_law_906 dL_law_907 dL_law_908 dL_law_909 rfl rfl (by omega) (by omega) hL ?_
  refine zx_arg 3 dL_law_910 dL_law_911 dL_law_912 dL_law_913 dL_law_914 rfl rfl (by omega) (by omega) hL ?_
  refine zx_arg 4 dL_law_915 dL_law_916 dL_law_917 dL_law_918 dL_law_919 rfl rfl (by omega) (by omega) hL ?_
  refine ZX.callV (b := 0) (As := [.int (zi (sxv xs (i + 1))), .int (zi (sxv xs (i + 2))), .int (zi (sxv xs (i + 3))), .int (zi (sxv xs (i + 4)))]) dL_law_920 mkX4_lay csL_103 (PAIR.zc (pr_lay hJ (sxv_b _) (sxv_b _) (sxv_b _) (sxv_b _))) (by omega) (he := rfl) (hci := ⟨_, rfl, rfl⟩) rfl rfl (Nat.le_of_ble_eq_true rfl) ⟨Or.inl rfl, by decide, by decide, fun r1 h1 p1 => ?_⟩
  obtain ⟨s1, rfl, ⟨v, rfl⟩, c2⟩ := p1
  refine ZX.aload_n dL_law_923 rfl ?_
  refine zx_arg 1 dL_law_924 dL_law_925 dL_law_926 dL_law_927 dL_law_928 rfl rfl (by omega) (by omega) hL ?_
  refine zx_arg 2 dL_law_929 dL_law_930 dL_law_931 dL_law_932 dL_law_933 rfl rfl (by omega) (by omega) hL ?_
  refine zx_arg 3 dL_law_934 dL_law_935 dL_law_936 dL_law_937 dL_law_938 rfl rfl (by omega) (by omega) hL ?_
  refine zx_arg 4 dL_law_939 dL_law_940 dL_law_941 dL_law_942 dL_law_943 rfl rfl (by omega) (by omega) hL ?_
  refine ZX.callV (b := 67) (As := [.int (zi (sxv xs (i + 1))), .int (zi (sxv xs (i + 2))), .int (zi (sxv xs (i + 3))), .int (zi (sxv xs (i + 4)))]) dL_law_944 mkX5_lay csL_106 c2 (by omega) (he := rfl) (hci := ⟨_, rfl, rfl⟩) rfl rfl (Nat.le_of_ble_eq_true rfl) ⟨Or.inl rfl, by decide, by decide, fun r2 h2 p2 => ?_⟩
  obtain ⟨s2, rfl, rfl, hJ2⟩ := p2
  exact ZX.icmp_eq 1119 dL_law_947 (by decide) (fun _ => k9 s2 hJ2) (fun q => absurd rfl q)
set_option maxHeartbeats 1000000 in
theorem lw_case22 {nm ds : String} {i : Int} {σ : zS} (hJ : JJ σ) (i0 : 0 ≤ i) (i6 : i + 6 ≤ Ln) (hL : Ln ≤ 3072) (k9 : ∀ s : zS, JJ s → LAW Ln xs nm ds 1119 i s) : LAW Ln xs nm ds 952 i σ := by
  refine ZX.aload_n dL_law_952 rfl ?_
  refine zx_arg 1 dL_law_953 dL_law_954 dL_law_955 dL_law_956 dL_law_957 rfl rfl (by omega) (by omega) hL ?_
  refine zx_arg 2 dL_law_958 dL_law_959 dL_law_960 dL_law_961 dL_law_962 rfl rfl (by omega) (by omega) hL ?_
  refine zx_arg 3 dL_law_963 dL_law_964 dL_law_965 dL_law_966 dL_law_967 rfl rfl (by omega) (by omega) hL ?_
  refine ZX.callV (b := 0) (As := [.int (zi (sxv xs (i + 1))), .int (zi (sxv xs (i + 2))), .int (zi (sxv xs (i + 3)))]) dL_law_968 mkX4_get csL_107 (PAIRJ.zc (pr_get hJ (sxv_b _) (sxv_b _) (sxv_b _))) (by omega) (he := rfl) (hci := ⟨_, rfl, rfl⟩) rfl rfl (Nat.le_of_ble_eq_true rfl) ⟨Or.inl rfl, by decide, by decide, fun r1 h1 p1 => ?_⟩
  obtain ⟨s1, rfl, ⟨v, rfl⟩, c2⟩ := p1
  refine ZX.aload_n dL_law_971 rfl ?_
  refine zx_arg 1 dL_law_972 dL_law_973 dL_law_974 dL_law_975 dL_law_976 rfl rfl (by omega) (by omega) hL ?_
  refine zx_arg 2 dL_law_977 dL_law_978 dL_law_979 dL_law_980 dL_law_981 rfl rfl (by omega) (by omega) hL ?_
  refine zx_arg 3 dL_law_982 dL_law_983 dL_law_984 dL_law_985 dL_law_986 rfl rfl (by omega) (by omega) hL ?_
  refine ZX.callV (b := 67) (As := [.int (zi (sxv xs (i + 1))), .int (zi (sxv xs (i + 2))), .int (zi (sxv xs (i + 3)))]) dL_law_987 mkX5_get csL_111 c2 (by omega) (he := rfl) (hci := ⟨_, rfl, rfl⟩) rfl rfl (Nat.le_of_ble_eq_true rfl) ⟨Or.inl rfl, by decide, by decide, fun r2 h2 p2 => ?_⟩
  obtain ⟨s2, rfl, rfl, hJ2⟩ := p2
  refine ZX.lcmp dL_law_990 ?_
  exact ZX.if_eq 1119 dL_law_991 (by decide) (fun _ => k9 s2 hJ2) (fun q => absurd (lgc_self _) q)
set_option maxHeartbeats 1000000 in
theorem lw_case23 {nm ds : String} {i : Int} {σ : zS} (hJ : JJ σ) (i0 : 0 ≤ i) (i6 : i + 6 ≤ Ln) (hL : Ln ≤ 3072) (k9 : ∀ s : zS, JJ s → LAW Ln xs nm ds 1119 i s) : LAW Ln xs nm ds 996 i σ := by
  refine ZX.aload_n dL_law_996 rfl ?_
  refine zx_arg 1 dL_law_997 dL_law_998 dL_law_999 dL_law_1000 dL_law_1001 rfl rfl (by omega) (by omega) hL ?_
  refine zx_arg 2 dL_law_1002 dL_law_1003 dL_law_1004 dL_law_1005 dL_law_1006 rfl rfl (by omega) (by omega) hL ?_
  refine zx_arg 3 dL_law_1007 dL_law_1008 dL_law_1009 dL_law_1010 dL_law_1011 rfl rfl (by omega) (by omega) hL ?_
  refine zx_arg 4 dL_law_1012 dL_law_1013 dL_law_1014 dL_law_1015 dL_law_1016 rfl rfl (by omega) (by omega) hL ?_
  refine zx_arg 5 dL_law_1017 dL_law_1018 dL_law_1019 dL_law_1020 dL_law_1021 rfl rfl (by omega) (by omega) hL ?_
  refine ZX.callV (b := 0) (As := [.int (zi (sxv xs (i + 1))), .int (zi (sxv xs (i + 2))), .int (zi (sxv xs (i + 3))), .int (zi (sxv xs (i + 4))), .int (zi (sxv xs (i + 5)))]) dL_law_1022 mkX4_copy csL_112 (PAIR.zc (pr_copy hJ (sxv_b _) (sxv_b _) (sxv_b _) (sxv_b _) (sxv_b _))) (by omega) (he := rfl) (hci := ⟨_, rfl, rfl⟩) rfl rfl (Nat.le_of_ble_eq_true rfl) ⟨Or.inl rfl, by decide, by decide, fun r1 h1 p1 => ?_⟩
  obtain ⟨s1, rfl, ⟨v, rfl⟩, c2⟩ := p1
  refine ZX.aload_n dL_law_1025 rfl ?_
  refine zx_arg 1 dL_law_1026 dL_law_1027 dL_law_1028 dL_law_1029 dL_law_1030 rfl rfl (by omega) (by omega) hL ?_
  refine zx_arg 2 dL_law_1031 dL_law_1032 dL_law_1033 dL_law_1034 dL_law_1035 rfl rfl (by omega) (by omega) hL ?_
  refine zx_arg 3 dL_law_1036 dL_law_1037 dL_law_1038 dL_law_1039 dL_law_1040 rfl rfl (by omega) (by omega) hL ?_
  refine zx_arg 4 dL_law_1041 dL_law_1042 dL_law_1043 dL_law_1044 dL_law_1045 rfl rfl (by omega) (by omega) hL ?_
  refine zx_arg 5 dL_law_1046 dL_law_1047 dL_law_1048 dL_law_1049 dL_law_1050 rfl rfl (by omega) (by omega) hL ?_
  refine ZX.callV (b := 67) (As := [.int (zi (sxv xs (i + 1))), .int (zi (sxv xs (i + 2))), .int (zi (sxv xs (i + 3))), .int (zi (sxv xs (i + 4))), .int (zi (sxv xs (i + 5)))]) dL_law_1051 mkX5_copy csL_115 c2 (by omega) (he := rfl) (hci := ⟨_, rfl, rfl⟩) rfl rfl (Nat.le_of_ble_eq_true rfl) ⟨Or.inl rfl, by decide, by decide, fun r2 h2 p2 => ?_⟩
  obtain ⟨s2, rfl, rfl, hJ2⟩ := p2
  exact ZX.icmp_eq 1119 dL_law_1054 (by decide) (fun _ => k9 s2 hJ2) (fun q => absurd rfl q)
set_option maxHeartbeats 1000000 in
theorem lw_case24 {nm ds : String} {i : Int} {σ : zS} (hJ : JJ σ) (i0 : 0 ≤ i) (i6 : i + 6 ≤ Ln) (hL : Ln ≤ 3072) (k9 : ∀ s : zS, JJ s → LAW Ln xs nm ds 1119 i s) : LAW Ln xs nm ds 1059 i σ := by
  refine ZX.aload_n dL_law_1059 rfl ?_
  refine zx_arg 1 dL_law_1060 dL_law_1061 dL_law_1062 dL_law_1063 dL_law_1064 rfl rfl (by omega) (by omega) hL ?_
  refine ZX.callV (b := 0) (As := [.int (zi (sxv xs (i + 1)))]) dL_law_1065 mkX4_write csL_116 (PAIR.zc (pr_write hJ (sxv_b _))) (by omega) (he := rfl) (hci := ⟨_, rfl, rfl⟩) rfl rfl (Nat.le_of_ble_eq_true rfl) ⟨Or.inl rfl, by decide, by decide, fun r1 h1 p1 => ?_⟩
  obtain ⟨s1, rfl, ⟨v, rfl⟩, c2⟩ := p1
  refine ZX.aload_n dL_law_1068 rfl ?_
  refine zx_arg 1 dL_law_1069 dL_law_1070 dL_law_1071 dL_law_1072 dL_law_1073 rfl rfl (by omega) (by omega) hL ?_
  refine ZX.callV (b := 67) (As := [.int (zi (sxv xs (i + 1)))]) dL_law_1074 mkX5_write csL_119 c2 (by omega) (he := rfl) (hci := ⟨_, rfl, rfl⟩) rfl rfl (Nat.le_of_ble_eq_true rfl) ⟨Or.inl rfl, by decide, by decide, fun r2 h2 p2 => ?_⟩
  obtain ⟨s2, rfl, rfl, hJ2⟩ := p2
  exact ZX.icmp_eq 1119 dL_law_1077 (by decide) (fun _ => k9 s2 hJ2) (fun q => absurd rfl q)
set_option maxHeartbeats 1000000 in
theorem lw_case25 {nm ds : String} {i : Int} {σ : zS} (hJ : JJ σ) (i0 : 0 ≤ i) (i6 : i + 6 ≤ Ln) (hL : Ln ≤ 3072) (k9 : ∀ s : zS, JJ s → LAW Ln xs nm ds 1119 i s) : LAW Ln xs nm ds 1082 i σ := by
  refine ZX.aload_n dL_law_1082 rfl ?_
  refine zx_arg 1 dL_law_1083 dL_law_1084 dL_law_1085 dL_law_1086 dL_law_1087 rfl rfl (by omega) (by omega) hL ?_
  refine ZX.callV (b := 0) (As := [.int (zi (sxv xs (i + 1)))]) dL_law_1088 mkX4_count csL_120 (PAIR.zc (pr_count hJ (sxv_b _))) (by omega) (he := rfl) (hci := ⟨_, rfl, rfl⟩) rfl rfl (Nat.le_of_ble_eq_true rfl) ⟨Or.inl rfl, by decide, by decide, fun r1 h1 p1 => ?_⟩
  obtain ⟨s1, rfl, ⟨v, rfl⟩, c2⟩ := p1
  refine ZX.aload_n dL_law_1091 rfl ?_
  refine zx_arg 1 dL_law_1092 dL_law_1093 dL_law_1094 dL_law_1095 dL_law_1096 rfl rfl (by omega) (by omega) hL ?_
  refine ZX.callV (b := 67) (As := [.int (zi (sxv xs (i + 1)))]) dL_law_1097 mkX5_count csL_123 c2 (by omega) (he := rfl) (hci := ⟨_, rfl, rfl⟩) rfl rfl (Nat.le_of_ble_eq_true rfl) ⟨Or.inl rfl, by decide, by decide, fun r2 h2 p2 => ?_⟩
  obtain ⟨s2, rfl, rfl, hJ2⟩ := p2
  exact ZX.icmp_eq 1119 dL_law_1100 (by decide) (fun _ => k9 s2 hJ2) (fun q => absurd rfl q)
set_option maxHeartbeats 1000000 in
theorem lw_case26 {nm ds : String} {i : Int} {σ : zS} (hJ : JJ σ) (i0 : 0 ≤ i) (i6 : i + 6 ≤ Ln) (hL : Ln ≤ 3072) (k9 : ∀ s : zS, JJ s → LAW Ln xs nm ds 1119 i s) : LAW Ln xs nm ds 1105 i σ := by
  refine ZX.aload_n dL_law_1105 rfl ?_
  refine ZX.callV (b := 0) (As := []) dL_law_1106 mkX4_digest csL_124 (PAIRJ.zc (pr_digest hJ)) (by omega) (he := rfl) (hci := ⟨_, rfl, rfl⟩) rfl rfl (Nat.le_of_ble_eq_true rfl) ⟨Or.inl rfl, by decide, by decide, fun r1 h1 p1 => ?_⟩
  obtain ⟨s1, rfl, ⟨v, rfl⟩, c2⟩ := p1
  refine ZX.aload_n dL_law_1109 rfl ?_
  refine ZX.callV (b := 67) (As := []) dL_law_1110 mkX5_digest csL_128 c2 (by omega) (he := rfl) (hci := ⟨_, rfl, rfl⟩) rfl rfl (Nat.le_of_ble_eq_true rfl) ⟨Or.inl rfl, by decide, by decide, fun r2 h2 p2 => ?_⟩
  obtain ⟨s2, rfl, rfl, hJ2⟩ := p2
  refine ZX.lcmp dL_law_1113 ?_
  exact ZX.if_eq 1119 dL_law_1114 (by decide) (fun _ => k9 s2 hJ2) (fun q => absurd (lgc_self _) q)
set_option maxHeartbeats 4000000 in
theorem lw_loop {nm ds : String} (hL : Ln ≤ 3072) : ∀ q : Int × zS, (0 ≤ q.1 ∧ q.1 ≤ Ln) ∧ JJ q.2 → LAW Ln xs nm ds 18 q.1 q.2 := by
  refine zw1 (fun q : Int × zS => (0 ≤ q.1 ∧ q.1 ≤ Ln) ∧ JJ q.2) (fun q => LAW Ln xs nm ds 18 q.1 q.2) (fun q => (Ln - q.1).toNat) (fun q hI ih => ?_)
  obtain ⟨i, σ⟩ := q
  obtain ⟨⟨i0, iL⟩, hJ⟩ := hI
  have i0 : 0 ≤ i := i0
  have iL : i ≤ Ln := iL
  have hJ : JJ σ := hJ
  show LAW Ln xs nm ds 18 i σ
  refine ZX.iload_n dL_law_18 rfl ?_
  refine ZX.aload_n dL_law_19 rfl ?_
  refine ZX.slen dL_law_20 ?_
  refine ZX.bipush (zi 6) dL_law_21 rfl ?_
  refine ZX.isub dL_law_23 ?_
  rw [zi_sub]
  refine ZX.icmp_gt 1125 dL_law_24 (by decide) (fun q => ?_) (fun q => ?_)
  · refine ZX.iconst 1 dL_law_1125 rfl ?_
    exact ZX.iret dL_law_1126 ⟨.boolean, rfl, rfl⟩ ⟨by decide, by decide⟩ rfl
  · have i6 : i + 6 ≤ Ln := by
      rw [zi_lt (by omega) (by omega)] at q
      omega
    have nx : ∀ s : zS, JJ s → LAW Ln xs nm ds 1119 i s := fun s hs => by
      refine ZX.iinc dL_law_1119 rfl (show 3 < 4 by decide) rfl ?_
      refine ZX.goto 18 dL_law_1122 (by decide) ?_
      have k := ih (i + 6, s) ⟨⟨by show 0 ≤ i + 6; omega, i6⟩, hs⟩ (by show ((Ln : Int) - (i + 6)).toNat < ((Ln : Int) - i).toNat; omega)
      have k : LAW Ln xs nm ds 18 (i + 6) s := k
      have e6 : zi i + Int32.ofInt 6 = zi (i + 6) := zi_add i 6
      show ZX (XL Ln xs) 600000 7302250 14 (μL nm ds) 18 [some (.ref 9004), some (.ref 0), some (.ref 67), some (.int (zi i + Int32.ofInt 6))] [] (zHp s) 94 4029 _
      rw [e6]
      exact k
    refine ZX.aload_n dL_law_27 rfl ?_
    refine ZX.iload_n dL_law_28 rfl ?_
    refine ZX.sld dL_law_29 i0 (by omega) hL ?_
    refine ZX.bipush (zi 31) dL_law_30 rfl ?_
    refine ZX.iand dL_law_32 ?_
    generalize zi (sxv xs i) &&& zi 31 = x
    by_cases hd : x.toInt < 0 ∨ 26 < x.toInt
    · exact ZX.tout 1119 dL_law_33 hd (by decide) (nx σ hJ)
    rcases (show x.toInt = 0 ∨ x.toInt = 1 ∨ x.toInt = 2 ∨ x.toInt = 3 ∨ x.toInt = 4 ∨ x.toInt = 5 ∨ x.toInt = 6 ∨ x.toInt = 7 ∨ x.toInt = 8 ∨ x.toInt = 9 ∨ x.toInt = 10 ∨ x.toInt = 11 ∨ x.toInt = 12 ∨ x.toInt = 13 ∨ x.toInt = 14 ∨ x.toInt = 15 ∨ x.toInt = 16 ∨ x.toInt = 17 ∨ x.toInt = 18 ∨ x.toInt = 19 ∨ x.toInt = 20 ∨ x.toInt = 21 ∨ x.toInt = 22 ∨ x.toInt = 23 ∨ x.toInt = 24 ∨ x.toInt = 25 ∨ x.toInt = 26 by omega) with hk | hk | hk | hk | hk | hk | hk | hk | hk | hk | hk | hk | hk | hk | hk | hk | hk | hk | hk | hk | hk | hk | hk | hk | hk | hk | hk
    · exact ZX.tin (off := 123) 156 dL_law_33 (by omega) (by omega) (by rw [hk]; rfl) (by decide) (lw_case0 hJ i0 i6 hL nx)
    · exact ZX.tin (off := 166) 199 dL_law_33 (by omega) (by omega) (by rw [hk]; rfl) (by decide) (lw_case1 hJ i0 i6 hL nx)
    · exact ZX.tin (off := 229) 262 dL_law_33 (by omega) (by omega) (by rw [hk]; rfl) (by decide) (lw_case2 hJ i0 i6 hL nx)
    · exact ZX.tin (off := 252) 285 dL_law_33 (by omega) (by omega) (by rw [hk]; rfl) (by decide) (lw_case3 hJ i0 i6 hL nx)
    · exact ZX.tin (off := 305) 338 dL_law_33 (by omega) (by omega) (by rw [hk]; rfl) (by decide) (lw_case4 hJ i0 i6 hL nx)
    · exact ZX.tin (off := 338) 371 dL_law_33 (by omega) (by omega) (by rw [hk]; rfl) (by decide) (lw_case5 hJ i0 i6 hL nx)
    · exact ZX.tin (off := 371) 404 dL_law_33 (by omega) (by omega) (by rw [hk]; rfl) (by decide) (lw_case6 hJ i0 i6 hL nx)
    · exact ZX.tin (off := 414) 447 dL_law_33 (by omega) (by omega) (by rw [hk]; rfl) (by decide) (lw_case7 hJ i0 i6 hL nx)
    · exact ZX.tin (off := 457) 490 dL_law_33 (by omega) (by omega) (by rw [hk]; rfl) (by decide) (lw_case8 hJ i0 i6 hL nx)
    · exact ZX.tin (off := 490) 523 dL_law_33 (by omega) (by omega) (by rw [hk]; rfl) (by decide) (lw_case9 hJ i0 i6 hL nx)
    · exact ZX.tin (off := 523) 556 dL_law_33 (by omega) (by omega) (by rw [hk]; rfl) (by decide) (lw_case10 hJ i0 i6 hL nx)
    · exact ZX.tin (off := 556) 589 dL_law_33 (by omega) (by omega) (by rw [hk]; rfl) (by decide) (lw_case11 hJ i0 i6 hL nx)
    · exact ZX.tin (off := 569) 602 dL_law_33 (by omega) (by omega) (by rw [hk]; rfl) (by decide) (lw_case12 hJ i0 i6 hL nx)
    · exact ZX.tin (off := 612) 645 dL_law_33 (by omega) (by omega) (by rw [hk]; rfl) (by decide) (lw_case13 hJ i0 i6 hL nx)
    · exact ZX.tin (off := 625) 658 dL_law_33 (by omega) (by omega) (by rw [hk]; rfl) (by decide) (lw_case14 hJ i0 i6 hL nx)
    · exact ZX.tin (off := 658) 691 dL_law_33 (by omega) (by omega) (by rw [hk]; rfl) (by decide) (lw_case15 hJ i0 i6 hL nx)
    · exact ZX.tin (off := 701) 734 dL_law_33 (by omega) (by omega) (by rw [hk]; rfl) (by decide) (lw_case16 hJ i0 i6 hL nx)
    · exact ZX.tin (off := 724) 757 dL_law_33 (by omega) (by omega) (by rw [hk]; rfl) (by decide) (lw_case17 hJ i0 i6 hL nx)
    · exact ZX.tin (off := 767) 800 dL_law_33 (by omega) (by omega) (by rw [hk]; rfl) (by decide) (lw_case18 hJ i0 i6 hL nx)
    · exact ZX.tin (off := 800) 833 dL_law_33 (by omega) (by omega) (by rw [hk]; rfl) (by decide) (lw_case19 hJ i0 i6 hL nx)
    · exact ZX.tin (off := 843) 876 dL_law_33 (by omega) (by omega) (by rw [hk]; rfl) (by decide) (lw_case20 hJ i0 i6 hL nx)
    · exact ZX.tin (off := 866) 899 dL_law_33 (by omega) (by omega) (by rw [hk]; rfl) (by decide) (lw_case21 hJ i0 i6 hL nx)
    · exact ZX.tin (off := 919) 952 dL_law_33 (by omega) (by omega) (by rw [hk]; rfl) (by decide) (lw_case22 hJ i0 i6 hL nx)
    · exact ZX.tin (off := 963) 996 dL_law_33 (by omega) (by omega) (by rw [hk]; rfl) (by decide) (lw_case23 hJ i0 i6 hL nx)
    · exact ZX.tin (off := 1026) 1059 dL_law_33 (by omega) (by omega) (by rw [hk]; rfl) (by decide) (lw_case24 hJ i0 i6 hL nx)
    · exact ZX.tin (off := 1049) 1082 dL_law_33 (by omega) (by omega) (by rw [hk]; rfl) (by decide) (lw_case25 hJ i0 i6 hL nx)
    · exact ZX.tin (off := 1072) 1105 dL_law_33 (by omega) (by omega) (by rw [hk]; rfl) (by decide) (lw_case26 hJ i0 i6 hL nx)
set_option maxHeartbeats 4000000 in
set_option maxRecDepth 20000 in
theorem lw_main {nm ds : String} (hL : Ln ≤ 3072) : ZX (XL Ln xs) 600000 7302250 14 (μL nm ds) 0 [some (.ref 9004), none, none, none] [] [] 0 0 (fun r _ => r = some (.int 1)) := by
  refine ZX.new' 0 tyX4 [.null, .null, .null, .null, .null, .int 0] dL_law_0 clX4 ⟨(show Cond.classLink RL 7 RX4 ∈ zWd from zWd_in 82 (by decide +kernel) rfl), zWd_in 83 (by decide +kernel) rfl, zWd_in 72 (by decide +kernel) rfl⟩ tyX4_ok defX4 (fun _ => rfl) rfl (by decide) rfl rfl rfl ?_
  refine ZX.dup dL_law_3 rfl ?_
  refine ZX.w (h' := wZ0) rfl ?_
  refine ZX.callO (b := 0) (As := []) dL_law_4 mkX4_init csL_9 (fun _ _ _ q => q.1) XOO.moved c_Z_Main (by omega) rfl rfl (Nat.le_of_ble_eq_true rfl) ⟨Or.inr ⟨rfl, rfl⟩, by decide, by decide, fun r_ h_ p_ => ?_⟩
  obtain ⟨rfl, rfl⟩ := p_
  refine ZX.astore_n dL_law_7 (show 1 < 4 by decide) rfl ?_
  refine ZX.new' 67 tyX5 [.null, .null, .null, .null, .int 0, .null, .null, .null, .null, .null, .null, .null, .null, .null, .null, .long 0, .long 0, .null, .null, .int 0, .int 0, .int 0, .int 0, .null, .null, .null, .null, .int 0, .int 0, .null, .null, .null, .null, .null, .null, .int 0] dL_law_8 clX5 ⟨(show Cond.classLink RL 10 RX5 ∈ zWd from zWd_in 645 (by decide +kernel) rfl), zWd_in 646 (by decide +kernel) rfl, zWd_in 78 (by decide +kernel) rfl⟩ tyX5_ok defX5 (fun _ => rfl) rfl (by decide) rfl rfl rfl ?_
  refine ZX.dup dL_law_11 rfl ?_
  refine ZX.w (h' := wM0) rfl ?_
  refine ZX.callO (b := 67) (As := []) dL_law_12 mkX5_init csL_12 (fun _ _ _ q => q.1) XOO.moved c_Z_Model (by omega) rfl rfl (Nat.le_of_ble_eq_true rfl) ⟨Or.inr ⟨rfl, rfl⟩, by decide, by decide, fun r_ h_ p_ => ?_⟩
  obtain ⟨rfl, rfl⟩ := p_
  refine ZX.astore_n dL_law_15 (show 2 < 4 by decide) rfl ?_
  refine ZX.iconst (zi 0) dL_law_16 rfl ?_
  refine ZX.istore_n dL_law_17 (show 3 < 4 by decide) rfl ?_
  refine ZX.w (h' := zHp s0) w_end.symm ?_
  exact lw_loop hL (0, s0) ⟨⟨by show (0 : Int) ≤ 0; omega, by show (0 : Int) ≤ Ln; omega⟩, s0_JJ⟩
end ZLAW
