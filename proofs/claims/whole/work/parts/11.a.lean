section ZQ1
/-- what the constructors leave -/
def s0i (c : Nat) (i : Int) : Int := match c with
  | 3 => if i < 3 then 20 else 0
  | 14 => if i = 16 then -1 else if i = 17 then 1 else 0
  | 26 => if i = 16 then -1 else if i = 17 then 1 else 0
  | 41 => if i < 300 then -1 else 0
  | 42 => if i < 300 then -1 else 0
  | 43 => if i < 9 then -1 else 0
  | 44 => if i < 9 then -1 else 0
  | 59 => if i = 0 then 1 else 0
  | 61 => if i = 0 then 1 else 0
  | 63 => if i = 0 then 1 else 0
  | 65 => if i = 0 then 1 else 0
  | 68 => if i < 4 then -1 else 0
  | 72 => if i < 3 then 20 else 0
  | 90 => if i < 9 then -1 else 0
  | 91 => if i < 9 then -1 else 0
  | _ => 0
def s0 : zS := (s0i, fun _ _ => 0)
theorem zfle (N : Nat) (v : Int) (x : Int32) (hx : x = zi v) : zflf N x (fun _ => 0) = fun j : Nat => zi (if (j : Int) < (N : Int) then v else 0) := by
  subst hx
  funext j
  unfold zflf
  by_cases q : j < N
  · rw [if_pos q, if_pos (by omega)]
  · rw [if_neg q, if_neg (by omega)]
    rfl
theorem zfl00 (N : Nat) : zflf N 0 (fun _ => 0) = fun _ => 0 := by
  funext j
  unfold zflf
  split <;> rfl
set_option maxRecDepth 20000 in
theorem w_end : wM1 = zHp s0 := by
  unfold wM1
  rw [zfle 3 20 20 rfl, zfle 300 (-1) (-1) rfl, zfle 9 (-1) (-1) rfl, zfle 4 (-1) (-1) rfl, zfl00 2, zfl00 9]
  rfl
theorem s0_th {x : Int} : ¬ th (cP s0) x ∨ x % 3 < 0 := by
  by_cases q : x % 3 < 0
  · exact Or.inr q
  · refine Or.inl (fun h => q ?_)
    exact h
theorem s0_WJ : WJ (cP s0) := by
  refine ⟨⟨fun i a c => ?_, fun x a c => ?_, fun x a c h => ?_⟩, fun x a c => ?_⟩
  · have e0 : cP s0 0 i = 20 := if_pos c
    have e1 : cP s0 1 i = 0 := rfl
    have e2 : cP s0 2 i = 0 := rfl
    have e3 : cP s0 3 i = 0 := rfl
    have e4 : cP s0 4 i = 0 := rfl
    have e5 : cP s0 5 i = 0 := rfl
    omega
  · have e6 : cP s0 6 x = 0 := rfl
    have e7 : cP s0 7 x = 0 := rfl
    have e8 : cP s0 8 x = 0 := rfl
    have e9 : cP s0 9 x = 0 := rfl
    omega
  · have h1 : x % 3 < 0 := h
    omega
  · have e7 : cP s0 7 x = 0 := rfl
    omega
theorem s0_JJ : JJ s0 := by
  refine ⟨⟨s0_WJ, pl_ext (fun l hl => ?_), fun k hk => ?_, ⟨rfl, ⟨by decide, by decide⟩, fun x a c => ⟨rfl, rfl, rfl⟩, ?_, fun w hw => ⟨⟨fun t a c => ?_, fun t a c => ?_, ?_⟩, fun t a c => ?_⟩⟩, rfl⟩, STL.on rfl⟩
  · rcases (show l = 0 ∨ l = 1 ∨ l = 2 ∨ l = 3 ∨ l = 4 ∨ l = 5 ∨ l = 6 ∨ l = 7 ∨ l = 8 ∨ l = 9 by omega) with rfl | rfl | rfl | rfl | rfl | rfl | rfl | rfl | rfl | rfl <;> rfl
  · rcases zs4 hk with rfl | rfl | rfl | rfl
    all_goals
      refine ⟨Or.inl ⟨rfl, rfl⟩, ⟨rfl, by decide, by decide⟩, fun i a c => ?_⟩
      have c2 : i < 0 := c
      omega
  · rfl
  · rcases (show w = 0 ∨ w = 1 by omega) with rfl | rfl
    · exact if_pos c
    · exact if_pos c
  · rcases (show w = 0 ∨ w = 1 by omega) with rfl | rfl
    · have e : s0.1 (41 + 0) t = -1 := if_pos c
      omega
    · have e : s0.1 (41 + 1) t = -1 := if_pos c
      omega
  · rcases (show w = 0 ∨ w = 1 by omega) with rfl | rfl <;> rfl
  · have c2 : t < 0 := c
    omega
end ZQ1
