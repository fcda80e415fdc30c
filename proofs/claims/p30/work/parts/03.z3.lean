section ZH
variable {mc ms d : Nat} {μ : zU} {pc : Nat} {L : List (Option Value)} {st : List Value} {h : zH} {kc ks : Nat} {Post : Option Value → zH → Prop}
def zCl (ci : Nat) (C : String) (T : u_T) (N : Nat) : Prop := vwCl[ci]? = some (C, T, N) ∧ (∀ w ∈ u_ws C T N, w ∈ zWd) ∧ (∃ ty0 : Nat → FieldType, ∀ k, k < N → parseFieldDescriptor (T k).2.2.1 = some (ty0 k)) ∧ (∀ a, a < N → ∀ b, b < N → a ≠ b → (T a).2.1 ≠ (T b).2.1) ∧ ∀ k, k < N → (T k).1 = C
def zFl (own : String) (idx ci k : Nat) : Prop := ∃ (C : String) (T : u_T) (N : Nat), zCl ci C T N ∧ k < N ∧ (Cond.fieldLink own idx C (T k).2.1 (T k).2.2.1 ∈ zWd ∨ ∃ host : String, Cond.fieldLinkNest own idx C (T k).2.1 (T k).2.2.1 host ∈ zNs)
/-- a field that may be written: its type, whether it is final (then in its class's constructor alone) -/
def zFp (own : String) (idx ci k : Nat) (ty : FieldType) (fin : Bool) : Prop := ∃ (C : String) (T : u_T) (N : Nat), zCl ci C T N ∧ k < N ∧ (Cond.fieldLink own idx C (T k).2.1 (T k).2.2.1 ∈ zWd ∨ (fin = false ∧ ∃ host : String, Cond.fieldLinkNest own idx C (T k).2.1 (T k).2.2.1 host ∈ zNs)) ∧ (T k).2.2.2 = fin ∧ parseFieldDescriptor (T k).2.2.1 = some ty ∧ (fin = true → C = own)
set_option maxHeartbeats 1000000 in
theorem Z.getf {idx : Nat} {ci k : Nat} {o : Nat} {fs : List Value} {v : Value} (hdg : decode μ.2.1 pc = .ok (.getfield idx, 3)) (hf : zFl μ.1.cls idx ci k) (he : h[o]? = some (.inr (ci, fs))) (hv : fs[k]? = some v) (k9 : Z mc ms d μ (pc + 3) L (v :: st) h kc ks Post) : Z mc ms d μ pc L (.ref o :: st) h kc ks Post := by
  intro p l e s m args below meth c D cI A ρ0 n0 hC hn ρ H locs ls hR hS
  obtain ⟨hx, hb, hml, hr0, hlk, hnm, hown, hts, hNw, hK, hA⟩ := id hC
  obtain ⟨hP, hD, hSS, hLL, hT⟩ := id hS
  obtain ⟨C, T, N, ⟨h1, h2, ⟨ty0, h3⟩, h4, h5⟩, hkN, hlink⟩ := hf
  have w := k9 p l e s m args below meth c D cI A ρ0 n0 hC hn ρ H locs ls hR hS
  have hv' : (fs.map (zV ρ))[k]? = some (zV ρ v) := by rw [List.getElem?_map, hv]; rfl
  rcases hlink with hl | ⟨host, hl⟩
  · exact va_get (D := D) (ci := ci) (v := zV ρ v) (C := C) (T := T) (N := N) hx hb hts h2 hown hK hP o (zw_at he) h1 k hkN (hts _ hl) (fun x hx9 => by rw [h5 k hkN] at hx9; exact hx9) hv' hdg w
  · exact va_getN (D := D) (ci := ci) (v := zV ρ v) (C := C) (T := T) (N := N) (host := host) hx hb hts h2 hown hK hP o (zw_at he) h1 k hkN (va_Nw.use rfl (hNw _ hl)) (fun x hx9 => by rw [h5 k hkN] at hx9; exact hx9) hv' hdg w
theorem zSt.set {D : va_G} {cI : FieldType → ClassId} {A : Nat → Prop} {s : State} {ρ : Nat → Nat} {H H1 : Heap} {locs locs1 : List Loc} {ls : Array Slot} {k : Nat} {e : zE} (hS : zSt μ D cI A s h L ρ H locs ls) (h1 : va_P D vwCl ((zw cI ρ h).set k (ρ k, zM cI ρ e)) H1) (h2 : va_D A ((zw cI ρ h).set k (ρ k, zM cI ρ e))) (h3 : va_S A s.heap H1 locs1) : zSt μ D cI A s (h.set k e) L ρ H1 locs1 ls := by
  rw [zw_set] at h1 h2
  exact ⟨h1, h2, h3, hS.2.2.2.1, hS.2.2.2.2⟩
set_option maxHeartbeats 1000000 in
theorem Z.putf {idx : Nat} {ci k : Nat} {o : Nat} {fs : List Value} {v : Value} {ty : FieldType} (hdg : decode μ.2.1 pc = .ok (.putfield idx, 3)) (hf : zFp μ.1.cls idx ci k ty false) (he : h[o]? = some (.inr (ci, fs))) (hl : k < fs.length) (hnf : ∀ ρ : Nat → Nat, narrow ty (zV ρ v) = zV ρ v ∧ fits ty (zV ρ v) = true) (k9 : Z mc ms d μ (pc + 3) L st (h.set o (.inr (ci, fs.set k v))) kc ks Post) : Z mc ms d μ pc L (v :: .ref o :: st) h kc ks Post := by
  intro p l e s m args below meth c D cI A ρ0 n0 hC hn ρ H locs ls hR hS
  obtain ⟨hx, hb, hml, hr0, hlk, hnm, hown, hts, hNw, hK, hA⟩ := id hC
  obtain ⟨hP, hD, hSS, hLL, hT⟩ := id hS
  obtain ⟨C, T, N, ⟨h1, h2, ⟨ty0, h3⟩, h4, h5⟩, hkN, hlink, hfin, hty, -⟩ := hf
  have hl' : k < (fs.map (zV ρ)).length := by rw [List.length_map]; exact hl
  have e9 : (zM cI ρ (.inr (ci, fs.set k v))) = .inr (ci, (fs.map (zV ρ)).set k (zV ρ v)) := by
    show Sum.inr (ci, (fs.set k v).map (zV ρ)) = _
    rw [List.map_set]
  have w : ∀ (H1 : Heap) (locs1 : List Loc), va_P D vwCl ((zw cI ρ h).set o (ρ o, .inr (ci, (fs.map (zV ρ)).set k (zV ρ v)))) H1 → va_D A ((zw cI ρ h).set o (ρ o, .inr (ci, (fs.map (zV ρ)).set k (zV ρ v)))) → va_S A s.heap H1 locs1 → W p l e (zR mc ms d) s m args below meth c H1 locs1 kc ks (MQ below (zQ D cI ρ0 n0 mc A Post) args s mc ms A) (F0 m (pc + 3) ls (st.map (zV ρ))) := fun H1 locs1 q1 q2 q3 => by
    rw [← e9] at q1 q2
    exact k9 p l e s m args below meth c D cI A ρ0 n0 hC (by rw [List.length_set]; exact hn) ρ H1 locs1 ls hR (hS.set q1 q2 q3)
  rcases hlink with hl9 | ⟨-, host, hl9⟩
  · exact va_put (D := D) (ci := ci) (v := zV ρ v) (ty := ty) (C := C) (T := T) (N := N) hx hb hts h2 ty0 h3 h4 hown hK hP hD hSS o (zw_at he) h1 k hkN (hts _ hl9) (fun x hx9 => by rw [h5 k hkN] at hx9; exact hx9) hfin hty (hnf ρ).1 (hnf ρ).2 hl' hdg w
  · exact va_putN (D := D) (ci := ci) (v := zV ρ v) (ty := ty) (C := C) (T := T) (N := N) (host := host) hx hb hts h2 ty0 h3 h4 hown hK hP hD hSS o (zw_at he) h1 k hkN (va_Nw.use rfl (hNw _ hl9)) (fun x hx9 => by rw [h5 k hkN] at hx9; exact hx9) hfin hty (hnf ρ).1 (hnf ρ).2 hl' hdg w
set_option maxHeartbeats 1000000 in
theorem Z.putF {idx : Nat} {ci k : Nat} {o : Nat} {fs : List Value} {v : Value} {ty : FieldType} (hdg : decode μ.2.1 pc = .ok (.putfield idx, 3)) (hf : zFp μ.1.cls idx ci k ty true) (hini : μ.1.name = "<init>") (he : h[o]? = some (.inr (ci, fs))) (hl : k < fs.length) (hnf : ∀ ρ : Nat → Nat, narrow ty (zV ρ v) = zV ρ v ∧ fits ty (zV ρ v) = true) (k9 : Z mc ms d μ (pc + 3) L st (h.set o (.inr (ci, fs.set k v))) kc ks Post) : Z mc ms d μ pc L (v :: .ref o :: st) h kc ks Post := by
  intro p l e s m args below meth c D cI A ρ0 n0 hC hn ρ H locs ls hR hS
  obtain ⟨hx, hb, hml, hr0, hlk, hnm, hown, hts, hNw, hK, hA⟩ := id hC
  obtain ⟨hP, hD, hSS, hLL, hT⟩ := id hS
  obtain ⟨C, T, N, ⟨h1, h2, ⟨ty0, h3⟩, h4, h5⟩, hkN, hlink, hfin, hty, hCo⟩ := hf
  have hl' : k < (fs.map (zV ρ)).length := by rw [List.length_map]; exact hl
  have e9 : (zM cI ρ (.inr (ci, fs.set k v))) = .inr (ci, (fs.map (zV ρ)).set k (zV ρ v)) := by
    show Sum.inr (ci, (fs.set k v).map (zV ρ)) = _
    rw [List.map_set]
  have w : ∀ (H1 : Heap) (locs1 : List Loc), va_P D vwCl ((zw cI ρ h).set o (ρ o, .inr (ci, (fs.map (zV ρ)).set k (zV ρ v)))) H1 → va_D A ((zw cI ρ h).set o (ρ o, .inr (ci, (fs.map (zV ρ)).set k (zV ρ v)))) → va_S A s.heap H1 locs1 → W p l e (zR mc ms d) s m args below meth c H1 locs1 kc ks (MQ below (zQ D cI ρ0 n0 mc A Post) args s mc ms A) (F0 m (pc + 3) ls (st.map (zV ρ))) := fun H1 locs1 q1 q2 q3 => by
    rw [← e9] at q1 q2
    exact k9 p l e s m args below meth c D cI A ρ0 n0 hC (by rw [List.length_set]; exact hn) ρ H1 locs1 ls hR (hS.set q1 q2 q3)
  rcases hlink with hl9 | ⟨q9, -⟩
  · exact va_putF (D := D) (ci := ci) (v := zV ρ v) (ty := ty) (C := C) (T := T) (N := N) hx hb hts h2 ty0 h3 h4 hown hK hP hD hSS o (zw_at he) h1 k hkN (hts _ hl9) (fun x hx9 => by rw [h5 k hkN] at hx9; exact hx9) hfin (by rw [hnm]; exact hini) (by rw [h5 k hkN]; exact hCo rfl) hty (hnf ρ).1 (hnf ρ).2 hl' hdg w
  · cases q9
theorem Z.iald {a n : Nat} {f : Nat → Int32} {i : Int32} (hdg : decode μ.2.1 pc = .ok (.iaload, 1)) (he : h[a]? = some (.inl (.int, n, .inl f))) (hin : vp_in i n) (k9 : Z mc ms d μ (pc + 1) L (.int (f i.toNatClampNeg) :: st) h kc ks Post) : Z mc ms d μ pc L (.int i :: .ref a :: st) h kc ks Post := by
  intro p l e s m args below meth c D cI A ρ0 n0 hC hn ρ H locs ls hR hS
  obtain ⟨hx, hb, hml, hr0, hlk, hnm, hown, hts, hNw, hK, hA⟩ := id hC
  obtain ⟨hP, hD, hSS, hLL, hT⟩ := id hS
  exact va_iald (D := D) hx hb hK hP a 0 (zw_at he) rfl hin hdg (k9 p l e s m args below meth c D cI A ρ0 n0 hC hn ρ H locs ls hR hS)
theorem Z.lald {a n : Nat} {f : Nat → Int64} {i : Int32} (hdg : decode μ.2.1 pc = .ok (.laload, 1)) (he : h[a]? = some (.inl (.long, n, .inr (.inl f)))) (hin : vp_in i n) (k9 : Z mc ms d μ (pc + 1) L (.long (f i.toNatClampNeg) :: st) h kc ks Post) : Z mc ms d μ pc L (.int i :: .ref a :: st) h kc ks Post := by
  intro p l e s m args below meth c D cI A ρ0 n0 hC hn ρ H locs ls hR hS
  obtain ⟨hx, hb, hml, hr0, hlk, hnm, hown, hts, hNw, hK, hA⟩ := id hC
  obtain ⟨hP, hD, hSS, hLL, hT⟩ := id hS
  exact va_lald (D := D) hx hb hK hP a 1 (zw_at he) rfl hin hdg (k9 p l e s m args below meth c D cI A ρ0 n0 hC hn ρ H locs ls hR hS)
theorem Z.iast {a n : Nat} {f : Nat → Int32} {i x : Int32} (hdg : decode μ.2.1 pc = .ok (.iastore, 1)) (he : h[a]? = some (.inl (.int, n, .inl f))) (hin : vp_in i n) (k9 : Z mc ms d μ (pc + 1) L st (h.set a (.inl (.int, n, .inl (upd f i.toNatClampNeg x)))) kc ks Post) : Z mc ms d μ pc L (.int x :: .int i :: .ref a :: st) h kc ks Post := by
  intro p l e s m args below meth c D cI A ρ0 n0 hC hn ρ H locs ls hR hS
  obtain ⟨hx, hb, hml, hr0, hlk, hnm, hown, hts, hNw, hK, hA⟩ := id hC
  obtain ⟨hP, hD, hSS, hLL, hT⟩ := id hS
  exact va_iast (D := D) hx hb hK hP hD hSS a 0 (zw_at he) rfl hin hdg (fun H1 locs1 q1 q2 q3 => k9 p l e s m args below meth c D cI A ρ0 n0 hC (by rw [List.length_set]; exact hn) ρ H1 locs1 ls hR (hS.set q1 q2 q3))
theorem Z.last {a n : Nat} {f : Nat → Int64} {i : Int32} {x : Int64} (hdg : decode μ.2.1 pc = .ok (.lastore, 1)) (he : h[a]? = some (.inl (.long, n, .inr (.inl f)))) (hin : vp_in i n) (k9 : Z mc ms d μ (pc + 1) L st (h.set a (.inl (.long, n, .inr (.inl (vp_updL f i.toNatClampNeg x))))) kc ks Post) : Z mc ms d μ pc L (.long x :: .int i :: .ref a :: st) h kc ks Post := by
  intro p l e s m args below meth c D cI A ρ0 n0 hC hn ρ H locs ls hR hS
  obtain ⟨hx, hb, hml, hr0, hlk, hnm, hown, hts, hNw, hK, hA⟩ := id hC
  obtain ⟨hP, hD, hSS, hLL, hT⟩ := id hS
  exact va_last (D := D) hx hb hK hP hD hSS a 1 (zw_at he) rfl hin hdg (fun H1 locs1 q1 q2 q3 => k9 p l e s m args below meth c D cI A ρ0 n0 hC (by rw [List.length_set]; exact hn) ρ H1 locs1 ls hR (hS.set q1 q2 q3))
theorem Z.aald {a n t0 : Nat} {ty : FieldType} {q : List (Option Nat)} {i : Int32} {r : Nat} (hdg : decode μ.2.1 pc = .ok (.aaload, 1)) (ht : (t0 = 2 ∧ ty = .array .int) ∨ (t0 = 3 ∧ ty = .object "OffsetChains$Sheet")) (he : h[a]? = some (.inl (ty, n, .inr (.inr q)))) (hin : vp_in i n) (hq : q[i.toNatClampNeg]? = some (some r)) (k9 : Z mc ms d μ (pc + 1) L (.ref r :: st) h kc ks Post) : Z mc ms d μ pc L (.int i :: .ref a :: st) h kc ks Post := by
  intro p l e s m args below meth c D cI A ρ0 n0 hC hn ρ H locs ls hR hS
  obtain ⟨hx, hb, hml, hr0, hlk, hnm, hown, hts, hNw, hK, hA⟩ := id hC
  obtain ⟨hP, hD, hSS, hLL, hT⟩ := id hS
  have hlt : i.toNatClampNeg < n := Nat.not_le.mp fun q => hin (Or.inr q)
  have w := k9 p l e s m args below meth c D cI A ρ0 n0 hC hn ρ H locs ls hR hS
  have hz := hP a _ (zw_at he)
  have e1 : va_rf ((q.getD i.toNatClampNeg none).map ρ) = .ref (ρ r) := by rw [List.getD_eq_getElem?_getD, hq]; rfl
  rcases ht with ⟨rfl, rfl⟩ | ⟨rfl, rfl⟩
  · exact W.aald (v := .ref (ρ r)) (ty := .array .int) hx hb hz ((hK.2 2 (cI (.array .int), .array .int) rfl).1 n (fun j => va_rf ((q.getD j none).map ρ))) rfl (fun q => by cases q) (by show ¬ (i < 0 ∨ (arrV _ _ _).slots.size ≤ _); rw [arrV_size]; exact hin) (by show (arrV _ _ _).slots[_]? = _; rw [arrV_read _ _ hlt, e1]) rfl rfl hdg w
  · exact W.aald (v := .ref (ρ r)) (ty := .object "OffsetChains$Sheet") hx hb hz ((hK.2 3 (cI (.object "OffsetChains$Sheet"), .object "OffsetChains$Sheet") rfl).1 n (fun j => va_rf ((q.getD j none).map ρ))) rfl (fun q => by cases q) (by show ¬ (i < 0 ∨ (arrV _ _ _).slots.size ≤ _); rw [arrV_size]; exact hin) (by show (arrV _ _ _).slots[_]? = _; rw [arrV_read _ _ hlt, e1]) rfl rfl hdg w
theorem Z.alen {a n t0 : Nat} {ty : FieldType} {x : zA} {v : Int32} (hdg : decode μ.2.1 pc = .ok (.arraylength, 1)) (ht : (t0 = 0 ∧ ty = .int) ∨ (t0 = 1 ∧ ty = .long)) (he : h[a]? = some (.inl (ty, n, x))) (hv : Int32.ofNat n = v) (k9 : Z mc ms d μ (pc + 1) L (.int v :: st) h kc ks Post) : Z mc ms d μ pc L (.ref a :: st) h kc ks Post := by
  intro p l e s m args below meth c D cI A ρ0 n0 hC hn ρ H locs ls hR hS
  obtain ⟨hx, hb, hml, hr0, hlk, hnm, hown, hts, hNw, hK, hA⟩ := id hC
  obtain ⟨hP, hD, hSS, hLL, hT⟩ := id hS
  have w := k9 p l e s m args below meth c D cI A ρ0 n0 hC hn ρ H locs ls hR hS
  rcases ht with ⟨rfl, rfl⟩ | ⟨rfl, rfl⟩
  · exact va_alen (D := D) hx hb hK hP a 0 (zw_at he) (ty := .int) rfl hv hdg w
  · exact va_alen (D := D) hx hb hK hP a 1 (zw_at he) (ty := .long) rfl hv hdg w
theorem Z.gets {idx t : Nat} (hdg : decode μ.2.1 pc = .ok (.getstatic idx, 3)) (ht : t < 4) (hw : Cond.fieldLink μ.1.cls idx "OffsetChains" (zTn t) "[I" ∈ zWd) (k9 : Z mc ms d μ (pc + 3) L (.ref (9000 + t) :: st) h kc ks Post) : Z mc ms d μ pc L st h kc ks Post := by
  intro p l e s m args below meth c D cI A ρ0 n0 hC hn ρ H locs ls hR hS
  obtain ⟨hx, hb, hml, hr0, hlk, hnm, hown, hts, hNw, hK, hA⟩ := id hC
  obtain ⟨hP, hD, hSS, hLL, hT⟩ := id hS
  exact va_gets hx hb (hT.1 t ht).1 hSS hown (hts _ hw) (fun _ h => h) hdg (k9 p l e s m args below meth c D cI A ρ0 n0 hC hn ρ H locs ls hR hS)
theorem Z.tld {t : Nat} {i : Int32} (hdg : decode μ.2.1 pc = .ok (.iaload, 1)) (ht : t < 4) (hin : vp_in i (zTl t)) (k9 : Z mc ms d μ (pc + 1) L (.int (zTf t i.toNatClampNeg) :: st) h kc ks Post) : Z mc ms d μ pc L (.int i :: .ref (9000 + t) :: st) h kc ks Post := by
  intro p l e s m args below meth c D cI A ρ0 n0 hC hn ρ H locs ls hR hS
  obtain ⟨hx, hb, hml, hr0, hlk, hnm, hown, hts, hNw, hK, hA⟩ := id hC
  obtain ⟨hP, hD, hSS, hLL, hT⟩ := id hS
  exact va_ti hx hb (hT.1 t ht).2 hSS hin rfl hdg (k9 p l e s m args below meth c D cI A ρ0 n0 hC hn ρ H locs ls hR hS)
theorem zSt.end {D : va_G} {cI : FieldType → ClassId} {A : Nat → Prop} {s t : State} {ρ0 ρ : Nat → Nat} {n0 : Nat} {H : Heap} {locs : List Loc} {ls : Array Slot} {r : Option Value} {as : Array Value} (hS : zSt μ D cI A s h L ρ H locs ls) (hR : zRel mc n0 ρ0 ρ) (hn : n0 ≤ h.length) (hp : Post r h) (ht : t.heap = H) : zQ D cI ρ0 n0 mc A Post as s (.returned (r.map (zV ρ))) t :=
  ⟨⟨r, h, ρ, hp, rfl, hR, hn, by rw [ht]; exact hS.1, hS.2.1⟩, hS.2.2.1.F ht⟩
theorem Z.iret {v : Int32} (hdg : decode μ.2.1 pc = .ok (.ireturn, 1)) (hr : ∃ ty : FieldType, μ.2.2.2 = some ty ∧ narrow ty (.int v) = .int v) (hk : kc ≤ mc ∧ ks ≤ ms) (hp : Post (some (.int v)) h) : Z mc ms d μ pc L [.int v] h kc ks Post := by
  intro p l e s m args below meth c D cI A ρ0 n0 hC hn ρ H locs ls hR hS
  obtain ⟨hx, hb, hml, hr0, hlk, hnm, hown, hts, hNw, hK, hA⟩ := id hC
  obtain ⟨hP, hD, hSS, hLL, hT⟩ := id hS
  obtain ⟨ty, hr1, hr2⟩ := hr
  refine W.widen hk.1 hk.2 ?_
  exact W.zret (v := v) (ty := ty) hx hb (hr0.trans hr1) hr2 (fun t ht _ => hS.end hR hn hp ht) (fun q hq => hSS.2.2 q hq) hdg hlk
theorem Z.lret {v : Int64} (hdg : decode μ.2.1 pc = .ok (.lreturn, 1)) (hr : μ.2.2.2 = some .long) (hk : kc ≤ mc ∧ ks ≤ ms) (hp : Post (some (.long v)) h) : Z mc ms d μ pc L [.long v] h kc ks Post := by
  intro p l e s m args below meth c D cI A ρ0 n0 hC hn ρ H locs ls hR hS
  obtain ⟨hx, hb, hml, hr0, hlk, hnm, hown, hts, hNw, hK, hA⟩ := id hC
  obtain ⟨hP, hD, hSS, hLL, hT⟩ := id hS
  refine W.widen hk.1 hk.2 ?_
  exact W.lret (v := v) hx hb (hr0.trans hr) (fun t ht _ => hS.end hR hn hp ht) (fun q hq => hSS.2.2 q hq) hdg hlk
theorem Z.vret (hdg : decode μ.2.1 pc = .ok (.return_, 1)) (hr : μ.2.2.2 = none) (hk : kc ≤ mc ∧ ks ≤ ms) (hp : Post none h) : Z mc ms d μ pc L [] h kc ks Post := by
  intro p l e s m args below meth c D cI A ρ0 n0 hC hn ρ H locs ls hR hS
  obtain ⟨hx, hb, hml, hr0, hlk, hnm, hown, hts, hNw, hK, hA⟩ := id hC
  obtain ⟨hP, hD, hSS, hLL, hT⟩ := id hS
  refine W.widen hk.1 hk.2 ?_
  exact W.vret hx hb (hr0.trans hr) (fun t ht _ => hS.end hR hn hp ht) (fun q hq => hSS.2.2 q hq) hdg hlk

end ZH
