section ZM3
variable {σ : zS}
def stp (p : zP) (i j : Int) : Prop := 0 ≤ i ∧ i ≤ 2 ∧ 0 ≤ j ∧ j ≤ p 5 i - 1
end ZM3
