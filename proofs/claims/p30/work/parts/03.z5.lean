section ZN
variable {mc ms d : Nat} {μ : zU} {pc : Nat} {L : List (Option Value)} {st : List Value} {h : zH} {kc ks : Nat} {Post : Option Value → zH → Prop} {idx : Nat}
theorem Z.mmax {x y : Int32} (hdg : decode μ.2.1 pc = .ok (.invokestatic idx, 3)) (hw : Cond.methodLink μ.1.cls idx Lib.Math.max.name ∈ zWd ∧ Cond.static Lib.Math.max.name ∈ zWd ∧ Cond.initialized "java/lang/Math" ∈ zWd ∧ Cond.code Lib.Math.max.name Lib.Math.max.code 2 (some .int) ∈ zWd) (hd1 : 1 ≤ d) (hcat : (st.map fun v => v.category).sum ≤ 8) (hk : kc ≤ mc ∧ ks ≤ ms) (k9 : Z mc ms d μ (pc + 3) L (.int (if x < y then y else x) :: st) h kc ks Post) : Z mc ms d μ pc L (.int y :: .int x :: st) h kc ks Post := by
  intro p l e s m args below meth c D cI A ρ0 n0 hC hn ρ H locs ls hR hS
  obtain ⟨hx, hb, hml, hr0, hlk, hnm, hown, hts, hNw, hK, hA⟩ := id hC
  obtain ⟨hP, hD, hSS, hLL, hT⟩ := id hS
  exact va_mmax hx hb (hml.trans hLL.1.symm) hown (hts _ hw.1) (hts _ hw.2.1) (hts _ hw.2.2.1) (hts _ hw.2.2.2) (show 1 ≤ d from hd1) (by rw [zV_cats]; show _ ≤ 43 * d; omega) hk.1 hk.2 hdg (k9 p l e s m args below meth c D cI A ρ0 n0 hC hn ρ H locs ls hR hS)
theorem Z.mmin {x y : Int32} (hdg : decode μ.2.1 pc = .ok (.invokestatic idx, 3)) (hw : Cond.methodLink μ.1.cls idx Lib.Math.min.name ∈ zWd ∧ Cond.static Lib.Math.min.name ∈ zWd ∧ Cond.initialized "java/lang/Math" ∈ zWd ∧ Cond.code Lib.Math.min.name Lib.Math.min.code 2 (some .int) ∈ zWd) (hd1 : 1 ≤ d) (hcat : (st.map fun v => v.category).sum ≤ 8) (hk : kc ≤ mc ∧ ks ≤ ms) (k9 : Z mc ms d μ (pc + 3) L (.int (if y < x then y else x) :: st) h kc ks Post) : Z mc ms d μ pc L (.int y :: .int x :: st) h kc ks Post := by
  intro p l e s m args below meth c D cI A ρ0 n0 hC hn ρ H locs ls hR hS
  obtain ⟨hx, hb, hml, hr0, hlk, hnm, hown, hts, hNw, hK, hA⟩ := id hC
  obtain ⟨hP, hD, hSS, hLL, hT⟩ := id hS
  exact va_mmin hx hb (hml.trans hLL.1.symm) hown (hts _ hw.1) (hts _ hw.2.1) (hts _ hw.2.2.1) (hts _ hw.2.2.2) (show 1 ≤ d from hd1) (by rw [zV_cats]; show _ ≤ 43 * d; omega) hk.1 hk.2 hdg (k9 p l e s m args below meth c D cI A ρ0 n0 hC hn ρ H locs ls hR hS)
theorem Z.copyl {a0 a n0 n1 : Nat} {f g : Nat → Int64} {sp dp n : Int32} (hdg : decode μ.2.1 pc = .ok (.invokestatic idx, 3)) (hw : Cond.methodLink μ.1.cls idx arraycopyName ∈ zWd ∧ Cond.native arraycopyName ∈ zWd ∧ Cond.static arraycopyName ∈ zWd ∧ Cond.initialized "java/lang/System" ∈ zWd) (he0 : h[a0]? = some (.inl (.long, n0, .inr (.inl f)))) (he1 : h[a]? = some (.inl (.long, n1, .inr (.inl g)))) (h1 : ¬ sp < 0) (h2 : ¬ dp < 0) (h3 : ¬ n < 0) (h4 : sp.toNatClampNeg + n.toNatClampNeg ≤ n0) (h5 : dp.toNatClampNeg + n.toNatClampNeg ≤ n1) (hd1 : 2 ≤ d) (hcat : (st.map fun v => v.category).sum ≤ 8)
    (k9 : Z mc ms d μ (pc + 3) L st (h.set a (.inl (.long, n1, .inr (.inl (va_cpy f g sp.toNatClampNeg dp.toNatClampNeg n.toNatClampNeg))))) kc ks Post) : Z mc ms d μ pc L (.int n :: .int dp :: .ref a :: .int sp :: .ref a0 :: st) h kc ks Post := by
  intro p l e s m args below meth c D cI A ρ0 m0 hC hn ρ H locs ls hR hS
  obtain ⟨hx, hb, hml, hr0, hlk, hnm, hown, hts, hNw, hK, hA⟩ := id hC
  obtain ⟨hP, hD, hSS, hLL, hT⟩ := id hS
  exact va_copyl hx hb (hml.trans hLL.1.symm) hown (hts _ hw.1) (hts _ hw.2.1) (hts _ hw.2.2.1) (hts _ hw.2.2.2) hK hP hD hSS a0 a 1 1 (zw_at he0) (zw_at he1) rfl rfl rfl h1 h2 h3 h4 h5 (fun _ _ => rfl) (show 1 ≤ d by omega) (by
    rw [zV_cats]
    have e : nativeFrameWords "java/lang/System" "arraycopy" 5 + 11 ≤ 70 := by decide +kernel
    show _ ≤ 43 * d
    omega) hdg (fun H1 locs1 q1 q2 q3 => k9 p l e s m args below meth c D cI A ρ0 m0 hC (by rw [List.length_set]; exact hn) ρ H1 locs1 ls hR (hS.set q1 q2 q3))
end ZN
