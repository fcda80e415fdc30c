section ZW4
variable {nm ds : String} {X : State → (Nat → Nat) → (Nat → Prop) → Nat → Prop} {mc ms kc ks d : Nat} {P : Option Value → zH → Prop} {σ : zS} {p : zP} {t : Int}
set_option maxHeartbeats 4000000 in
theorem lw_573 (hd : 10 ≤ d) (hk : kc ≤ mc ∧ ks ≤ ms) (t0 : 0 ≤ t) (t2 : t ≤ 2) (hJ : LJ σ p) (hK : KF σ p) (k798 : ∀ s : zS, YX X mc ms kc ks d (μL nm ds) 798 [some (.ref 9004), some (.ref 67), some (.int (zi (t))), some (.ref 0), none, none, none, none, none, none, none, none, none] [] s P) : YX X mc ms kc ks d (μL nm ds) 573 [some (.ref 9004), some (.ref 67), some (.int (zi (t))), some (.ref 0), some (.int (zi (zb (SR p ≠ none)))), none, none, none, none, none, none, none, none] [] σ P := by
  have hp : WP p := hJ.wp
  have kx : ∀ x : Int, 0 ≤ x → x < 9 → YX X mc ms kc ks d (μL nm ds) 588 [some (.ref 9004), some (.ref 67), some (.int (zi (t))), some (.ref 0), some (.int (zi (zb (SR p ≠ none)))), some (.int (zi (x))), none, none, none, none, none, none, none] [] σ P := fun x x0 x9 => by
    have hrb : -1 ≤ rndA p ∧ rndA p ≤ 20 := by
      cases hq : SR p with
      | none => rw [rndA, sv_n hq]; omega
      | some z =>
        have := (SR_b hp hq).2.2
        have e : rndA p = z.1 := by rw [rndA, sv_s (r := z.1) (l := z.2) hq]
        omega
    have hmb := bts_b (metP p)
    have hgb := mg_b (p := p) (x := x) 9
    have hgb : -1 ≤ mgA p x ∧ mgA p x < 9 := by
      have e : mgA p x = mgU p x 9 := rfl
      omega
    by_cases ht : th p x
    · obtain ⟨k9, k18, k27, _⟩ := (hK.2 x x0 x9).1 ht
      have h6 := (hp.2.1 x x0 x9).1
      have h7 := (hp.2.1 x x0 x9).2.1
      have h8 := (hp.2.1 x x0 x9).2.2.1
      have hbb := bndA_b hp x0 x9 ht
      have h5 := (hp.1 (x / 3) (by omega) (by omega)).2.2.2.2.2
      have hm5 : 0 < p 5 (x / 3) := by
        have ht' : x % 3 < p 5 (x / 3) := ht
        omega
      obtain ⟨l0, l9, lt⟩ := last_th hp (i := x / 3) (by omega) (by omega) hm5
      have hlb := bndA_b hp l0 l9 lt
      have hb0 := btA_b hp (x := x) (w := 0) l0 l9 lt
      have hb1 := btA_b hp (x := x) (w := 1) l0 l9 lt
      have k750 : ∀ s : zS, EQ σ s → STL s → YX X mc ms kc ks d (μL nm ds) 750 [some (.ref 9004), some (.ref 67), some (.int (zi (t))), some (.ref 0), some (.int (zi (zb (SR p ≠ none)))), some (.int (zi (x))), some (.int (zi (bndA p x))), some (.int (zi (rndA p))), some (.int (zi (bts (metP p)))), some (.int (zi (mgA p x))), some (.int (zi (btA p x (x / 3 * 3 + p 5 (x / 3) - 1) 0))), none, none] [] s P := fun s q0 tt0 => by
        have j0 := hJ.q q0 tt0
        refine YX.aload_n dL_law_750 rfl ?_
        refine YX.iload dL_law_751 rfl ?_
        refine YX.iconst dL_law_753 ?_
        refine YX.idivp dL_law_754 (by omega) (by omega) (by omega) (by omega) ?_
        refine YX.iload dL_law_755 rfl ?_
        refine YX.iconst dL_law_757 ?_
        refine YX.iremp dL_law_758 (by omega) (by omega) (by omega) (by omega) ?_
        refine YX.iconst dL_law_759 ?_
        refine YX.cVQ hk dL_law_760 mkX4_info csL_32 ob0 ⟨_, rfl, rfl⟩ (k_L_info 2 j0 (x := x) (by omega) (by omega) (by omega) (by omega) (by omega) ht (by omega)) (by omega) rfl rfl (Nat.le_of_ble_eq_true rfl) (fun s760 e760 t760 => ?_)
        have j760 := LJ.q j0 e760 t760
        have q760 := EQ.tr q0 e760
        have i2 : infA p x 2 = p 8 x := rfl
        rw [i2]
        refine YX.aload_n dL_law_763 rfl ?_
        refine YX.bipush dL_law_764 (by decide +kernel) ?_
        refine YX.iload dL_law_766 rfl ?_
        refine YX.iadd dL_law_768 ?_
        refine YX.iald dL_law_769 ia67 (by omega) (by omega) ?_
        rw [show s760.1 67 (27 + x) = p 8 x by rw [q760.2 67 (by omega)]; exact k27]
        refine YX.icmp_ne 796 dL_law_770 (by decide) (by omega) (by omega) (fun h_770 => ?_) (fun h_770 => ?_)
        · exfalso; exact h_770 rfl
        refine YX.aload_n dL_law_773 rfl ?_
        refine YX.iload dL_law_774 rfl ?_
        refine YX.iconst dL_law_776 ?_
        refine YX.idivp dL_law_777 (by omega) (by omega) (by omega) (by omega) ?_
        refine YX.iload dL_law_778 rfl ?_
        refine YX.iconst dL_law_780 ?_
        refine YX.iremp dL_law_781 (by omega) (by omega) (by omega) (by omega) ?_
        refine YX.iconst dL_law_782 ?_
        refine YX.cVQ hk dL_law_783 mkX4_info csL_32 ob0 ⟨_, rfl, rfl⟩ (k_L_info 1 j760 (x := x) (by omega) (by omega) (by omega) (by omega) (by omega) ht (by omega)) (by omega) rfl rfl (Nat.le_of_ble_eq_true rfl) (fun s783 e783 t783 => ?_)
        have j783 := LJ.q j760 e783 t783
        have q783 := EQ.tr q760 e783
        have i1 : infA p x 1 = p 7 x := rfl
        rw [i1]
        refine YX.aload_n dL_law_786 rfl ?_
        refine YX.bipush dL_law_787 (by decide +kernel) ?_
        refine YX.iload dL_law_789 rfl ?_
        refine YX.iadd dL_law_791 ?_
        refine YX.iald dL_law_792 ia67 (by omega) (by omega) ?_
        rw [show s783.1 67 (18 + x) = p 7 x by rw [q783.2 67 (by omega)]; exact k18]
        refine YX.icmp_eq 798 dL_law_793 (by decide) (by omega) (by omega) (fun h_793 => ?_) (fun h_793 => ?_)
        rotate_left
        · exfalso; exact h_793 rfl
        exact YX.sub (zs_s (zs_s (zs_s (zs_s (zs_n (zs_n (zs_n (zs_n (zs_n (zs_n (zs_n (zs_n (zs_n zs_0))))))))))))) (k798 _)
      refine YX.aload_n dL_law_588 rfl ?_
      refine YX.bipush dL_law_589 (by decide +kernel) ?_
      refine YX.iload dL_law_591 rfl ?_
      refine YX.iadd dL_law_593 ?_
      refine YX.iald dL_law_594 ia67 (by omega) (by omega) ?_
      rw [k9]
      refine YX.if_lt 798 dL_law_595 (by decide) (by omega) (fun h_595 => ?_) (fun h_595 => ?_)
      · exfalso; omega
      refine YX.aload_n dL_law_598 rfl ?_
      refine YX.iload dL_law_599 rfl ?_
      refine YX.iconst dL_law_601 ?_
      refine YX.idivp dL_law_602 (by omega) (by omega) (by omega) (by omega) ?_
      refine YX.iload dL_law_603 rfl ?_
      refine YX.iconst dL_law_605 ?_
      refine YX.iremp dL_law_606 (by omega) (by omega) (by omega) (by omega) ?_
      refine YX.cVQ hk dL_law_607 mkX4_bound csL_35 ob0 ⟨_, rfl, rfl⟩ (k_L_bound hJ (x := x) (by omega) (by omega) (by omega) (by omega) (by omega) ht) (by omega) rfl rfl (Nat.le_of_ble_eq_true rfl) (fun s607 e607 t607 => ?_)
      have j607 := LJ.q hJ e607 t607
      have q607 := EQ.tr EQ.rf e607
      refine YX.istore dL_law_610 (Nat.le_of_ble_eq_true rfl) rfl ?_
      refine YX.aload_n dL_law_612 rfl ?_
      refine YX.cVQ hk dL_law_613 mkX4_rounds csL_49 ob0 ⟨_, rfl, rfl⟩ (k_L_rounds j607 ) (by omega) rfl rfl (Nat.le_of_ble_eq_true rfl) (fun s613 e613 t613 => ?_)
      have j613 := LJ.q j607 e613 t613
      have q613 := EQ.tr q607 e613
      refine YX.istore dL_law_616 (Nat.le_of_ble_eq_true rfl) rfl ?_
      refine YX.aload_n dL_law_618 rfl ?_
      refine YX.cVQ hk dL_law_619 mkX4_meets csL_64 ob0 ⟨_, rfl, rfl⟩ (k_L_meets j613 ) (by omega) rfl rfl (Nat.le_of_ble_eq_true rfl) (fun s619 e619 t619 => ?_)
      have j619 := LJ.q j613 e619 t619
      have q619 := EQ.tr q613 e619
      refine YX.istore dL_law_622 (Nat.le_of_ble_eq_true rfl) rfl ?_
      refine YX.aload_n dL_law_624 rfl ?_
      refine YX.iload dL_law_625 rfl ?_
      refine YX.iconst dL_law_627 ?_
      refine YX.idivp dL_law_628 (by omega) (by omega) (by omega) (by omega) ?_
      refine YX.iload dL_law_629 rfl ?_
      refine YX.iconst dL_law_631 ?_
      refine YX.iremp dL_law_632 (by omega) (by omega) (by omega) (by omega) ?_
      refine YX.cVQ hk dL_law_633 mkX4_margin csL_70 ob0 ⟨_, rfl, rfl⟩ (k_L_margin j619 (x := x) (by omega) (by omega) (by omega) (by omega) (by omega) ht) (by omega) rfl rfl (Nat.le_of_ble_eq_true rfl) (fun s633 e633 t633 => ?_)
      have j633 := LJ.q j619 e633 t633
      have q633 := EQ.tr q619 e633
      refine YX.istore dL_law_636 (Nat.le_of_ble_eq_true rfl) rfl ?_
      refine YX.aload_n dL_law_638 rfl ?_
      refine YX.iload dL_law_639 rfl ?_
      refine YX.iconst dL_law_641 ?_
      refine YX.idivp dL_law_642 (by omega) (by omega) (by omega) (by omega) ?_
      refine YX.iload dL_law_643 rfl ?_
      refine YX.iconst dL_law_645 ?_
      refine YX.iremp dL_law_646 (by omega) (by omega) (by omega) (by omega) ?_
      refine YX.iconst dL_law_647 ?_
      refine YX.cVQ hk dL_law_648 mkX4_better csL_73 ob0 ⟨_, rfl, rfl⟩ (k_L_better j633 (x := x) (by omega) (by omega) (by omega) (by omega) (by omega) ht (Or.inl rfl)) (by omega) rfl rfl (Nat.le_of_ble_eq_true rfl) (fun s648 e648 t648 => ?_)
      have j648 := LJ.q j633 e648 t648
      have q648 := EQ.tr q633 e648
      refine YX.istore dL_law_651 (Nat.le_of_ble_eq_true rfl) rfl ?_
      refine YX.aload_n dL_law_653 rfl ?_
      refine YX.iload dL_law_654 rfl ?_
      refine YX.iconst dL_law_656 ?_
      refine YX.idivp dL_law_657 (by omega) (by omega) (by omega) (by omega) ?_
      refine YX.iload dL_law_658 rfl ?_
      refine YX.iconst dL_law_660 ?_
      refine YX.iremp dL_law_661 (by omega) (by omega) (by omega) (by omega) ?_
      refine YX.cVQ hk dL_law_662 mkX4_bound csL_35 ob0 ⟨_, rfl, rfl⟩ (k_L_bound j648 (x := x) (by omega) (by omega) (by omega) (by omega) (by omega) ht) (by omega) rfl rfl (Nat.le_of_ble_eq_true rfl) (fun s662 e662 t662 => ?_)
      have j662 := LJ.q j648 e662 t662
      have q662 := EQ.tr q648 e662
      refine YX.iload dL_law_665 rfl ?_
      refine YX.icmp_ne 796 dL_law_667 (by decide) (by omega) (by omega) (fun h_667 => ?_) (fun h_667 => ?_)
      · exfalso; exact h_667 rfl
      refine YX.aload_n dL_law_670 rfl ?_
      refine YX.cVQ hk dL_law_671 mkX4_rounds csL_49 ob0 ⟨_, rfl, rfl⟩ (k_L_rounds j662 ) (by omega) rfl rfl (Nat.le_of_ble_eq_true rfl) (fun s671 e671 t671 => ?_)
      have j671 := LJ.q j662 e671 t671
      have q671 := EQ.tr q662 e671
      refine YX.iload dL_law_674 rfl ?_
      refine YX.icmp_ne 796 dL_law_676 (by decide) (by omega) (by omega) (fun h_676 => ?_) (fun h_676 => ?_)
      · exfalso; exact h_676 rfl
      refine YX.aload_n dL_law_679 rfl ?_
      refine YX.cVQ hk dL_law_680 mkX4_meets csL_64 ob0 ⟨_, rfl, rfl⟩ (k_L_meets j671 ) (by omega) rfl rfl (Nat.le_of_ble_eq_true rfl) (fun s680 e680 t680 => ?_)
      have j680 := LJ.q j671 e680 t680
      have q680 := EQ.tr q671 e680
      refine YX.iload dL_law_683 rfl ?_
      refine YX.icmp_ne 796 dL_law_685 (by decide) (by omega) (by omega) (fun h_685 => ?_) (fun h_685 => ?_)
      · exfalso; exact h_685 rfl
      refine YX.aload_n dL_law_688 rfl ?_
      refine YX.iload dL_law_689 rfl ?_
      refine YX.iconst dL_law_691 ?_
      refine YX.idivp dL_law_692 (by omega) (by omega) (by omega) (by omega) ?_
      refine YX.iload dL_law_693 rfl ?_
      refine YX.iconst dL_law_695 ?_
      refine YX.iremp dL_law_696 (by omega) (by omega) (by omega) (by omega) ?_
      refine YX.cVQ hk dL_law_697 mkX4_margin csL_70 ob0 ⟨_, rfl, rfl⟩ (k_L_margin j680 (x := x) (by omega) (by omega) (by omega) (by omega) (by omega) ht) (by omega) rfl rfl (Nat.le_of_ble_eq_true rfl) (fun s697 e697 t697 => ?_)
      have j697 := LJ.q j680 e697 t697
      have q697 := EQ.tr q680 e697
      refine YX.iload dL_law_700 rfl ?_
      refine YX.icmp_ne 796 dL_law_702 (by decide) (by omega) (by omega) (fun h_702 => ?_) (fun h_702 => ?_)
      · exfalso; exact h_702 rfl
      refine YX.iload dL_law_705 rfl ?_
      refine YX.ifz_eq 750 dL_law_707 (by decide) (fun h_707 => ?_) (fun h_707 => ?_)
      · exact k750 _ q697 (by assumption)
      · obtain ⟨b0, b1⟩ := btA_le hp (x := x) (l := x / 3 * 3 + p 5 (x / 3) - 1) x0 x9 l0 l9 lt (by assumption)
        refine YX.iload dL_law_710 rfl ?_
        refine YX.if_lt 796 dL_law_712 (by decide) (by omega) (fun h_712 => ?_) (fun h_712 => ?_)
        · exfalso; omega
        refine YX.aload_n dL_law_715 rfl ?_
        refine YX.iload dL_law_716 rfl ?_
        refine YX.iconst dL_law_718 ?_
        refine YX.idivp dL_law_719 (by omega) (by omega) (by omega) (by omega) ?_
        refine YX.iload dL_law_720 rfl ?_
        refine YX.iconst dL_law_722 ?_
        refine YX.iremp dL_law_723 (by omega) (by omega) (by omega) (by omega) ?_
        refine YX.iconst dL_law_724 ?_
        refine YX.cVQ hk dL_law_725 mkX4_better csL_73 ob0 ⟨_, rfl, rfl⟩ (k_L_better j697 (x := x) (by omega) (by omega) (by omega) (by omega) (by omega) ht (Or.inr rfl)) (by omega) rfl rfl (Nat.le_of_ble_eq_true rfl) (fun s725 e725 t725 => ?_)
        have j725 := LJ.q j697 e725 t725
        have q725 := EQ.tr q697 e725
        refine YX.aload_n dL_law_728 rfl ?_
        refine YX.iload dL_law_729 rfl ?_
        refine YX.iconst dL_law_731 ?_
        refine YX.idivp dL_law_732 (by omega) (by omega) (by omega) (by omega) ?_
        refine YX.aload_n dL_law_733 rfl ?_
        refine YX.bipush dL_law_734 (by decide +kernel) ?_
        refine YX.iload dL_law_736 rfl ?_
        refine YX.iconst dL_law_738 ?_
        refine YX.idivp dL_law_739 (by omega) (by omega) (by omega) (by omega) ?_
        refine YX.iadd dL_law_740 ?_
        refine YX.iald dL_law_741 ia67 (by omega) (by omega) ?_
        rw [show s725.1 67 (6 + x / 3) = p 5 (x / 3) by rw [q725.2 67 (by omega)]; exact (hK.1 (x / 3) (by omega) (by omega)).2]
        refine YX.iconst dL_law_742 ?_
        refine YX.isub dL_law_743 ?_
        refine YX.cVQ hk dL_law_744 mkX4_bound csL_35 ob0 ⟨_, rfl, rfl⟩ (k_L_bound j725 (x := x / 3 * 3 + p 5 (x / 3) - 1) (by omega) (by omega) (by omega) (by omega) (by omega) lt) (by omega) rfl rfl (Nat.le_of_ble_eq_true rfl) (fun s744 e744 t744 => ?_)
        have j744 := LJ.q j725 e744 t744
        have q744 := EQ.tr q725 e744
        refine YX.icmp_gt 796 dL_law_747 (by decide) (by omega) (by omega) (fun h_747 => ?_) (fun h_747 => ?_)
        · exfalso; omega
        exact k750 _ q744 (by assumption)
    · have k9 := (hK.2 x x0 x9).2 ht
      refine YX.aload_n dL_law_588 rfl ?_
      refine YX.bipush dL_law_589 (by decide +kernel) ?_
      refine YX.iload dL_law_591 rfl ?_
      refine YX.iadd dL_law_593 ?_
      refine YX.iald dL_law_594 ia67 (by omega) (by omega) ?_
      rw [k9]
      refine YX.if_lt 798 dL_law_595 (by decide) (by omega) (fun h_595 => ?_) (fun h_595 => ?_)
      rotate_left
      · exfalso; omega
      exact YX.sub (zs_s (zs_s (zs_s (zs_s (zs_n (zs_n (zs_n (zs_n (zs_n (zs_n (zs_n (zs_n (zs_n zs_0))))))))))))) (k798 _)
  refine YX.aload_n dL_law_573 rfl ?_
  refine YX.bipush dL_law_574 (by decide +kernel) ?_
  refine YX.iload_n dL_law_576 rfl ?_
  refine YX.iadd dL_law_577 ?_
  refine YX.cSE hk dL_law_578 mkL_cell csL_9 (c_L_cell (by omega) (by omega)) (by omega) rfl rfl (Nat.le_of_ble_eq_true rfl) (fun v578 b578 => ?_)
  refine YX.bipush dL_law_581 (by decide +kernel) ?_
  refine YX.cSE hk dL_law_583 mkL_up csL_15 (c_L_up (by omega) (by omega)) (by omega) rfl rfl (Nat.le_of_ble_eq_true rfl) (fun v583 b583 => ?_)
  refine YX.istore dL_law_586 (Nat.le_of_ble_eq_true rfl) rfl ?_
  exact kx _ (by omega) (by omega)
end ZW4
