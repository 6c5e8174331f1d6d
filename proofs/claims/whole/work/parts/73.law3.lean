/-! THE LAW: the last cases -/
section LC
variable {L j : Nat} {xs : Nat → Int32} {h : ix_H} {Q : ix_O → Prop}
theorem law_c11 (hL : L ≤ 3072) (hj : 6 * j + 6 ≤ L) (w : LI h) (back : ∀ h2, LI h2 → gs (some (L, xs)) 8 mD_law (963, [(3, .int (nI (6 * j))), (0, .retAddr 0), (1, .ref 0), (2, .ref 96)], [], h2) Q) : gs (some (L, xs)) 8 mD_law (693, [(3, .int (nI (6 * j))), (0, .retAddr 0), (1, .ref 0), (2, .ref 96)], [], h) Q := by
  obtain ⟨⟨P, cap, tmo, clk, cl, cut, X, sy, torn, tE, tp, an⟩, hJ, hC, hR, hc1, hc2⟩ := w
  obtain ⟨fs4, k4⟩ := hC.cell
  refine gs_n 694 a_L_law_693 rfl ?_
  refine gs_n 695 a_L_law_694 rfl ?_
  refine gs_n 696 a_L_law_695 rfl ?_
  refine gs_k (nI 1) 697 a_L_law_696 (by decide +kernel) rfl ?_
  refine gs_n 698 a_L_law_697 rfl ?_
  refine gs_sc (6 * j + 1) 699 a_L_law_698 (nI_add (6 * j) 1) (by omega) hL rfl ?_
  refine gs_cv 702 a_L_law_699 k_6_67 q_X4_answer (c_answer _ hC) rfl rfl rfl (by simp [Value.category]) (by first | assumption | exact hs_same _ _ _ | exact (hs_ne _ _ (by first | assumption | decide | omega)).trans (by first | assumption | exact hs_same _ _ _ | exact (hs_ne _ _ (by first | assumption | decide | omega)).trans (by first | assumption | exact hs_same _ _ _ | exact (hs_ne _ _ (by first | assumption | decide | omega)).trans (by first | assumption | exact hs_same _ _ _ | exact (hs_ne _ _ (by first | assumption | decide | omega)).trans (by first | assumption | exact hs_same _ _ _))))) rfl (fun v h3 hp => ?_)
  cases hp
  have hR2 := hR
  have hC2 := hC
  obtain ⟨fs5, k5⟩ := hR2.cell
  refine gs_n 703 a_L_law_702 rfl ?_
  refine gs_n 704 a_L_law_703 rfl ?_
  refine gs_n 705 a_L_law_704 rfl ?_
  refine gs_k (nI 1) 706 a_L_law_705 (by decide +kernel) rfl ?_
  refine gs_n 707 a_L_law_706 rfl ?_
  refine gs_sc (6 * j + 1) 708 a_L_law_707 (nI_add (6 * j) 1) (by omega) hL rfl ?_
  refine gs_cv 711 a_L_law_708 k_6_70 q_X5_answer (r_answer _ hJ.1 hR2) rfl rfl rfl (by simp [Value.category]) (by first | assumption | exact hs_same _ _ _ | exact (hs_ne _ _ (by first | assumption | decide | omega)).trans (by first | assumption | exact hs_same _ _ _ | exact (hs_ne _ _ (by first | assumption | decide | omega)).trans (by first | assumption | exact hs_same _ _ _ | exact (hs_ne _ _ (by first | assumption | decide | omega)).trans (by first | assumption | exact hs_same _ _ _ | exact (hs_ne _ _ (by first | assumption | decide | omega)).trans (by first | assumption | exact hs_same _ _ _))))) rfl (fun v h4 hp => ?_)
  cases hp
  have hC3 := hC2
  have hR3 := hR2
  refine gs_ic 963 714 a_L_law_711 rfl rfl (fun c => ?_) (fun c => ?_)
  · refine gs_w [(3, .int (nI (6 * j))), (0, .retAddr 0), (1, .ref 0), (2, .ref 96)] (by simp [ix_nd]) (by intro x hx; simp only [List.mem_cons, List.not_mem_nil, or_false] at hx; rcases hx with rfl | rfl | rfl | rfl <;> rfl) ?_
    exact back h ⟨_, hJ, hC3, hR3, hc1, hc2⟩
  · exact absurd rfl c
theorem law_c12 (hL : L ≤ 3072) (hj : 6 * j + 6 ≤ L) (w : LI h) (back : ∀ h2, LI h2 → gs (some (L, xs)) 8 mD_law (963, [(3, .int (nI (6 * j))), (0, .retAddr 0), (1, .ref 0), (2, .ref 96)], [], h2) Q) : gs (some (L, xs)) 8 mD_law (716, [(3, .int (nI (6 * j))), (0, .retAddr 0), (1, .ref 0), (2, .ref 96)], [], h) Q := by
  obtain ⟨⟨P, cap, tmo, clk, cl, cut, X, sy, torn, tE, tp, an⟩, hJ, hC, hR, hc1, hc2⟩ := w
  obtain ⟨fs4, k4⟩ := hC.cell
  refine gs_n 717 a_L_law_716 rfl ?_
  refine gs_cv 720 a_L_law_717 k_6_71 q_X4_sync (c_sync hJ.1 hC) rfl rfl rfl (by simp [Value.category]) (by first | assumption | exact hs_same _ _ _ | exact (hs_ne _ _ (by first | assumption | decide | omega)).trans (by first | assumption | exact hs_same _ _ _ | exact (hs_ne _ _ (by first | assumption | decide | omega)).trans (by first | assumption | exact hs_same _ _ _ | exact (hs_ne _ _ (by first | assumption | decide | omega)).trans (by first | assumption | exact hs_same _ _ _ | exact (hs_ne _ _ (by first | assumption | decide | omega)).trans (by first | assumption | exact hs_same _ _ _))))) rfl (fun v h3 hp => ?_)
  obtain ⟨z1, hF3, hC2⟩ := hp
  simp only at z1
  subst z1
  have hR2 := hR.c hF3
  obtain ⟨fs5, k5⟩ := hR2.cell
  refine gs_n 721 a_L_law_720 rfl ?_
  refine gs_cv 724 a_L_law_721 k_6_75 q_X5_sync (r_sync hJ.1 hR2) rfl rfl rfl (by simp [Value.category]) (by first | assumption | exact hs_same _ _ _ | exact (hs_ne _ _ (by first | assumption | decide | omega)).trans (by first | assumption | exact hs_same _ _ _ | exact (hs_ne _ _ (by first | assumption | decide | omega)).trans (by first | assumption | exact hs_same _ _ _ | exact (hs_ne _ _ (by first | assumption | decide | omega)).trans (by first | assumption | exact hs_same _ _ _ | exact (hs_ne _ _ (by first | assumption | decide | omega)).trans (by first | assumption | exact hs_same _ _ _))))) rfl (fun v h4 hp => ?_)
  obtain ⟨z1, hF4, hR3⟩ := hp
  simp only at z1
  subst z1
  have hC3 := hC2.m hF4
  refine gs_ic 963 727 a_L_law_724 rfl rfl (fun c => ?_) (fun c => ?_)
  · refine gs_w [(3, .int (nI (6 * j))), (0, .retAddr 0), (1, .ref 0), (2, .ref 96)] (by simp [ix_nd]) (by intro x hx; simp only [List.mem_cons, List.not_mem_nil, or_false] at hx; rcases hx with rfl | rfl | rfl | rfl <;> rfl) ?_
    exact back h4 ⟨_, J_sync hJ, hC3, hR3, hF4.1.trans (hF3.1.trans hc1), by rw [hF4.2.1, hF3.2.1]; exact hc2⟩
  · exact absurd rfl c
theorem law_c13 (hL : L ≤ 3072) (hj : 6 * j + 6 ≤ L) (w : LI h) (back : ∀ h2, LI h2 → gs (some (L, xs)) 8 mD_law (963, [(3, .int (nI (6 * j))), (0, .retAddr 0), (1, .ref 0), (2, .ref 96)], [], h2) Q) : gs (some (L, xs)) 8 mD_law (729, [(3, .int (nI (6 * j))), (0, .retAddr 0), (1, .ref 0), (2, .ref 96)], [], h) Q := by
  obtain ⟨⟨P, cap, tmo, clk, cl, cut, X, sy, torn, tE, tp, an⟩, hJ, hC, hR, hc1, hc2⟩ := w
  obtain ⟨fs4, k4⟩ := hC.cell
  refine gs_n 730 a_L_law_729 rfl ?_
  refine gs_n 731 a_L_law_730 rfl ?_
  refine gs_n 732 a_L_law_731 rfl ?_
  refine gs_k (nI 1) 733 a_L_law_732 (by decide +kernel) rfl ?_
  refine gs_n 734 a_L_law_733 rfl ?_
  refine gs_sc (6 * j + 1) 735 a_L_law_734 (nI_add (6 * j) 1) (by omega) hL rfl ?_
  refine gs_cv 738 a_L_law_735 k_6_76 q_X4_crash (c_crash _ hJ.1 hC) rfl rfl rfl (by simp [Value.category]) (by first | assumption | exact hs_same _ _ _ | exact (hs_ne _ _ (by first | assumption | decide | omega)).trans (by first | assumption | exact hs_same _ _ _ | exact (hs_ne _ _ (by first | assumption | decide | omega)).trans (by first | assumption | exact hs_same _ _ _ | exact (hs_ne _ _ (by first | assumption | decide | omega)).trans (by first | assumption | exact hs_same _ _ _ | exact (hs_ne _ _ (by first | assumption | decide | omega)).trans (by first | assumption | exact hs_same _ _ _))))) rfl (fun v h3 hp => ?_)
  obtain ⟨z1, hF3, hC2⟩ := hp
  simp only at z1
  subst z1
  have hR2 := hR.c hF3
  obtain ⟨fs5, k5⟩ := hR2.cell
  refine gs_n 739 a_L_law_738 rfl ?_
  refine gs_n 740 a_L_law_739 rfl ?_
  refine gs_n 741 a_L_law_740 rfl ?_
  refine gs_k (nI 1) 742 a_L_law_741 (by decide +kernel) rfl ?_
  refine gs_n 743 a_L_law_742 rfl ?_
  refine gs_sc (6 * j + 1) 744 a_L_law_743 (nI_add (6 * j) 1) (by omega) hL rfl ?_
  refine gs_cv 747 a_L_law_744 k_6_79 q_X5_crash (r_crash _ hJ.1 hR2) rfl rfl rfl (by simp [Value.category]) (by first | assumption | exact hs_same _ _ _ | exact (hs_ne _ _ (by first | assumption | decide | omega)).trans (by first | assumption | exact hs_same _ _ _ | exact (hs_ne _ _ (by first | assumption | decide | omega)).trans (by first | assumption | exact hs_same _ _ _ | exact (hs_ne _ _ (by first | assumption | decide | omega)).trans (by first | assumption | exact hs_same _ _ _ | exact (hs_ne _ _ (by first | assumption | decide | omega)).trans (by first | assumption | exact hs_same _ _ _))))) rfl (fun v h4 hp => ?_)
  obtain ⟨z1, hF4, hR3⟩ := hp
  simp only at z1
  subst z1
  have hC3 := hC2.m hF4
  refine gs_ic 963 750 a_L_law_747 rfl rfl (fun c => ?_) (fun c => ?_)
  · refine gs_w [(3, .int (nI (6 * j))), (0, .retAddr 0), (1, .ref 0), (2, .ref 96)] (by simp [ix_nd]) (by intro x hx; simp only [List.mem_cons, List.not_mem_nil, or_false] at hx; rcases hx with rfl | rfl | rfl | rfl <;> rfl) ?_
    exact back h4 ⟨_, J_crash hJ, hC3, hR3, hF4.1.trans (hF3.1.trans hc1), by rw [hF4.2.1, hF3.2.1]; exact hc2⟩
  · exact absurd rfl c
theorem law_c14 (hL : L ≤ 3072) (hj : 6 * j + 6 ≤ L) (w : LI h) (back : ∀ h2, LI h2 → gs (some (L, xs)) 8 mD_law (963, [(3, .int (nI (6 * j))), (0, .retAddr 0), (1, .ref 0), (2, .ref 96)], [], h2) Q) : gs (some (L, xs)) 8 mD_law (752, [(3, .int (nI (6 * j))), (0, .retAddr 0), (1, .ref 0), (2, .ref 96)], [], h) Q := by
  obtain ⟨⟨P, cap, tmo, clk, cl, cut, X, sy, torn, tE, tp, an⟩, hJ, hC, hR, hc1, hc2⟩ := w
  obtain ⟨fs4, k4⟩ := hC.cell
  refine gs_n 753 a_L_law_752 rfl ?_
  refine gs_cv 756 a_L_law_753 k_6_80 q_X4_open (c_open hJ.1 hC) rfl rfl rfl (by simp [Value.category]) (by first | assumption | exact hs_same _ _ _ | exact (hs_ne _ _ (by first | assumption | decide | omega)).trans (by first | assumption | exact hs_same _ _ _ | exact (hs_ne _ _ (by first | assumption | decide | omega)).trans (by first | assumption | exact hs_same _ _ _ | exact (hs_ne _ _ (by first | assumption | decide | omega)).trans (by first | assumption | exact hs_same _ _ _ | exact (hs_ne _ _ (by first | assumption | decide | omega)).trans (by first | assumption | exact hs_same _ _ _))))) rfl (fun v h3 hp => ?_)
  obtain ⟨z1, hF3, hC2⟩ := hp
  simp only at z1
  subst z1
  have hR2 := hR.c hF3
  obtain ⟨fs5, k5⟩ := hR2.cell
  refine gs_n 757 a_L_law_756 rfl ?_
  refine gs_cv 760 a_L_law_757 k_6_83 q_X5_open (r_open hJ.1 hJ.2 hR2) rfl rfl rfl (by simp [Value.category]) (by first | assumption | exact hs_same _ _ _ | exact (hs_ne _ _ (by first | assumption | decide | omega)).trans (by first | assumption | exact hs_same _ _ _ | exact (hs_ne _ _ (by first | assumption | decide | omega)).trans (by first | assumption | exact hs_same _ _ _ | exact (hs_ne _ _ (by first | assumption | decide | omega)).trans (by first | assumption | exact hs_same _ _ _ | exact (hs_ne _ _ (by first | assumption | decide | omega)).trans (by first | assumption | exact hs_same _ _ _))))) rfl (fun v h4 hp => ?_)
  obtain ⟨z1, hF4, hR3⟩ := hp
  simp only at z1
  subst z1
  have hC3 := hC2.w hF4
  refine gs_ic 963 763 a_L_law_760 rfl rfl (fun c => ?_) (fun c => ?_)
  · refine gs_w [(3, .int (nI (6 * j))), (0, .retAddr 0), (1, .ref 0), (2, .ref 96)] (by simp [ix_nd]) (by intro x hx; simp only [List.mem_cons, List.not_mem_nil, or_false] at hx; rcases hx with rfl | rfl | rfl | rfl <;> rfl) ?_
    exact back h4 ⟨_, J_open hJ, hC3, hR3, hF4.1.trans (hF3.1.trans hc1), by rw [hF4.2.1, hF3.2.1]; exact hc2⟩
  · exact absurd rfl c
theorem law_c15 (hL : L ≤ 3072) (hj : 6 * j + 6 ≤ L) (w : LI h) (back : ∀ h2, LI h2 → gs (some (L, xs)) 8 mD_law (963, [(3, .int (nI (6 * j))), (0, .retAddr 0), (1, .ref 0), (2, .ref 96)], [], h2) Q) : gs (some (L, xs)) 8 mD_law (765, [(3, .int (nI (6 * j))), (0, .retAddr 0), (1, .ref 0), (2, .ref 96)], [], h) Q := by
  obtain ⟨⟨P, cap, tmo, clk, cl, cut, X, sy, torn, tE, tp, an⟩, hJ, hC, hR, hc1, hc2⟩ := w
  obtain ⟨fs4, k4⟩ := hC.cell
  refine gs_n 766 a_L_law_765 rfl ?_
  refine gs_n 767 a_L_law_766 rfl ?_
  refine gs_n 768 a_L_law_767 rfl ?_
  refine gs_k (nI 1) 769 a_L_law_768 (by decide +kernel) rfl ?_
  refine gs_n 770 a_L_law_769 rfl ?_
  refine gs_sc (6 * j + 1) 771 a_L_law_770 (nI_add (6 * j) 1) (by omega) hL rfl ?_
  refine gs_n 772 a_L_law_771 rfl ?_
  refine gs_n 773 a_L_law_772 rfl ?_
  refine gs_k (nI 2) 774 a_L_law_773 (by decide +kernel) rfl ?_
  refine gs_n 775 a_L_law_774 rfl ?_
  refine gs_sc (6 * j + 2) 776 a_L_law_775 (nI_add (6 * j) 2) (by omega) hL rfl ?_
  refine gs_cv 779 a_L_law_776 k_6_84 q_X4_partition (c_partition _ _ hJ.1 hC) rfl rfl rfl (by simp [Value.category]) (by first | assumption | exact hs_same _ _ _ | exact (hs_ne _ _ (by first | assumption | decide | omega)).trans (by first | assumption | exact hs_same _ _ _ | exact (hs_ne _ _ (by first | assumption | decide | omega)).trans (by first | assumption | exact hs_same _ _ _ | exact (hs_ne _ _ (by first | assumption | decide | omega)).trans (by first | assumption | exact hs_same _ _ _ | exact (hs_ne _ _ (by first | assumption | decide | omega)).trans (by first | assumption | exact hs_same _ _ _))))) rfl (fun v h3 hp => ?_)
  obtain ⟨z1, hF3, hC2⟩ := hp
  simp only at z1
  subst z1
  have hR2 := hR.c hF3
  obtain ⟨fs5, k5⟩ := hR2.cell
  refine gs_n 780 a_L_law_779 rfl ?_
  refine gs_n 781 a_L_law_780 rfl ?_
  refine gs_n 782 a_L_law_781 rfl ?_
  refine gs_k (nI 1) 783 a_L_law_782 (by decide +kernel) rfl ?_
  refine gs_n 784 a_L_law_783 rfl ?_
  refine gs_sc (6 * j + 1) 785 a_L_law_784 (nI_add (6 * j) 1) (by omega) hL rfl ?_
  refine gs_n 786 a_L_law_785 rfl ?_
  refine gs_n 787 a_L_law_786 rfl ?_
  refine gs_k (nI 2) 788 a_L_law_787 (by decide +kernel) rfl ?_
  refine gs_n 789 a_L_law_788 rfl ?_
  refine gs_sc (6 * j + 2) 790 a_L_law_789 (nI_add (6 * j) 2) (by omega) hL rfl ?_
  refine gs_cv 793 a_L_law_790 k_6_87 q_X5_partition (r_partition _ _ hJ.1 hR2) rfl rfl rfl (by simp [Value.category]) (by first | assumption | exact hs_same _ _ _ | exact (hs_ne _ _ (by first | assumption | decide | omega)).trans (by first | assumption | exact hs_same _ _ _ | exact (hs_ne _ _ (by first | assumption | decide | omega)).trans (by first | assumption | exact hs_same _ _ _ | exact (hs_ne _ _ (by first | assumption | decide | omega)).trans (by first | assumption | exact hs_same _ _ _ | exact (hs_ne _ _ (by first | assumption | decide | omega)).trans (by first | assumption | exact hs_same _ _ _))))) rfl (fun v h4 hp => ?_)
  cases hp
  have hC3 := hC2
  have hR3 := hR2
  refine gs_ic 963 796 a_L_law_793 rfl rfl (fun c => ?_) (fun c => ?_)
  · refine gs_w [(3, .int (nI (6 * j))), (0, .retAddr 0), (1, .ref 0), (2, .ref 96)] (by simp [ix_nd]) (by intro x hx; simp only [List.mem_cons, List.not_mem_nil, or_false] at hx; rcases hx with rfl | rfl | rfl | rfl <;> rfl) ?_
    exact back h3 ⟨_, hJ, hC3, hR3, hF3.1.trans hc1, by rw [hF3.2.1]; exact hc2⟩
  · exact absurd rfl c
theorem law_c16 (hL : L ≤ 3072) (hj : 6 * j + 6 ≤ L) (w : LI h) (back : ∀ h2, LI h2 → gs (some (L, xs)) 8 mD_law (963, [(3, .int (nI (6 * j))), (0, .retAddr 0), (1, .ref 0), (2, .ref 96)], [], h2) Q) : gs (some (L, xs)) 8 mD_law (798, [(3, .int (nI (6 * j))), (0, .retAddr 0), (1, .ref 0), (2, .ref 96)], [], h) Q := by
  obtain ⟨⟨P, cap, tmo, clk, cl, cut, X, sy, torn, tE, tp, an⟩, hJ, hC, hR, hc1, hc2⟩ := w
  obtain ⟨fs4, k4⟩ := hC.cell
  refine gs_n 799 a_L_law_798 rfl ?_
  refine gs_n 800 a_L_law_799 rfl ?_
  refine gs_n 801 a_L_law_800 rfl ?_
  refine gs_k (nI 1) 802 a_L_law_801 (by decide +kernel) rfl ?_
  refine gs_n 803 a_L_law_802 rfl ?_
  refine gs_sc (6 * j + 1) 804 a_L_law_803 (nI_add (6 * j) 1) (by omega) hL rfl ?_
  refine gs_n 805 a_L_law_804 rfl ?_
  refine gs_n 806 a_L_law_805 rfl ?_
  refine gs_k (nI 2) 807 a_L_law_806 (by decide +kernel) rfl ?_
  refine gs_n 808 a_L_law_807 rfl ?_
  refine gs_sc (6 * j + 2) 809 a_L_law_808 (nI_add (6 * j) 2) (by omega) hL rfl ?_
  refine gs_n 810 a_L_law_809 rfl ?_
  refine gs_n 811 a_L_law_810 rfl ?_
  refine gs_k (nI 3) 812 a_L_law_811 (by decide +kernel) rfl ?_
  refine gs_n 813 a_L_law_812 rfl ?_
  refine gs_sc (6 * j + 3) 814 a_L_law_813 (nI_add (6 * j) 3) (by omega) hL rfl ?_
  refine gs_cv 817 a_L_law_814 k_6_88 q_X4_entry (c_entry _ _ _ hJ.1 hC) rfl rfl rfl (by simp [Value.category]) (by first | assumption | exact hs_same _ _ _ | exact (hs_ne _ _ (by first | assumption | decide | omega)).trans (by first | assumption | exact hs_same _ _ _ | exact (hs_ne _ _ (by first | assumption | decide | omega)).trans (by first | assumption | exact hs_same _ _ _ | exact (hs_ne _ _ (by first | assumption | decide | omega)).trans (by first | assumption | exact hs_same _ _ _ | exact (hs_ne _ _ (by first | assumption | decide | omega)).trans (by first | assumption | exact hs_same _ _ _))))) rfl (fun v h3 hp => ?_)
  cases hp
  have hR2 := hR
  have hC2 := hC
  obtain ⟨fs5, k5⟩ := hR2.cell
  refine gs_n 818 a_L_law_817 rfl ?_
  refine gs_n 819 a_L_law_818 rfl ?_
  refine gs_n 820 a_L_law_819 rfl ?_
  refine gs_k (nI 1) 821 a_L_law_820 (by decide +kernel) rfl ?_
  refine gs_n 822 a_L_law_821 rfl ?_
  refine gs_sc (6 * j + 1) 823 a_L_law_822 (nI_add (6 * j) 1) (by omega) hL rfl ?_
  refine gs_n 824 a_L_law_823 rfl ?_
  refine gs_n 825 a_L_law_824 rfl ?_
  refine gs_k (nI 2) 826 a_L_law_825 (by decide +kernel) rfl ?_
  refine gs_n 827 a_L_law_826 rfl ?_
  refine gs_sc (6 * j + 2) 828 a_L_law_827 (nI_add (6 * j) 2) (by omega) hL rfl ?_
  refine gs_n 829 a_L_law_828 rfl ?_
  refine gs_n 830 a_L_law_829 rfl ?_
  refine gs_k (nI 3) 831 a_L_law_830 (by decide +kernel) rfl ?_
  refine gs_n 832 a_L_law_831 rfl ?_
  refine gs_sc (6 * j + 3) 833 a_L_law_832 (nI_add (6 * j) 3) (by omega) hL rfl ?_
  refine gs_cv 836 a_L_law_833 k_6_91 q_X5_entry (r_entry _ _ _ hJ.1 hR2) rfl rfl rfl (by simp [Value.category]) (by first | assumption | exact hs_same _ _ _ | exact (hs_ne _ _ (by first | assumption | decide | omega)).trans (by first | assumption | exact hs_same _ _ _ | exact (hs_ne _ _ (by first | assumption | decide | omega)).trans (by first | assumption | exact hs_same _ _ _ | exact (hs_ne _ _ (by first | assumption | decide | omega)).trans (by first | assumption | exact hs_same _ _ _ | exact (hs_ne _ _ (by first | assumption | decide | omega)).trans (by first | assumption | exact hs_same _ _ _))))) rfl (fun v h4 hp => ?_)
  cases hp
  have hC3 := hC2
  have hR3 := hR2
  refine gs_ic 963 839 a_L_law_836 rfl rfl (fun c => ?_) (fun c => ?_)
  · refine gs_w [(3, .int (nI (6 * j))), (0, .retAddr 0), (1, .ref 0), (2, .ref 96)] (by simp [ix_nd]) (by intro x hx; simp only [List.mem_cons, List.not_mem_nil, or_false] at hx; rcases hx with rfl | rfl | rfl | rfl <;> rfl) ?_
    exact back h ⟨_, hJ, hC3, hR3, hc1, hc2⟩
  · exact absurd rfl c
theorem law_c17 (hL : L ≤ 3072) (hj : 6 * j + 6 ≤ L) (w : LI h) (back : ∀ h2, LI h2 → gs (some (L, xs)) 8 mD_law (963, [(3, .int (nI (6 * j))), (0, .retAddr 0), (1, .ref 0), (2, .ref 96)], [], h2) Q) : gs (some (L, xs)) 8 mD_law (841, [(3, .int (nI (6 * j))), (0, .retAddr 0), (1, .ref 0), (2, .ref 96)], [], h) Q := by
  obtain ⟨⟨P, cap, tmo, clk, cl, cut, X, sy, torn, tE, tp, an⟩, hJ, hC, hR, hc1, hc2⟩ := w
  obtain ⟨fs4, k4⟩ := hC.cell
  refine gs_n 842 a_L_law_841 rfl ?_
  refine gs_n 843 a_L_law_842 rfl ?_
  refine gs_n 844 a_L_law_843 rfl ?_
  refine gs_k (nI 1) 845 a_L_law_844 (by decide +kernel) rfl ?_
  refine gs_n 846 a_L_law_845 rfl ?_
  refine gs_sc (6 * j + 1) 847 a_L_law_846 (nI_add (6 * j) 1) (by omega) hL rfl ?_
  refine gs_n 848 a_L_law_847 rfl ?_
  refine gs_n 849 a_L_law_848 rfl ?_
  refine gs_k (nI 2) 850 a_L_law_849 (by decide +kernel) rfl ?_
  refine gs_n 851 a_L_law_850 rfl ?_
  refine gs_sc (6 * j + 2) 852 a_L_law_851 (nI_add (6 * j) 2) (by omega) hL rfl ?_
  refine gs_cv 855 a_L_law_852 k_6_92 q_X4_producer (c_producer _ _ hJ.1 hC) rfl rfl rfl (by simp [Value.category]) (by first | assumption | exact hs_same _ _ _ | exact (hs_ne _ _ (by first | assumption | decide | omega)).trans (by first | assumption | exact hs_same _ _ _ | exact (hs_ne _ _ (by first | assumption | decide | omega)).trans (by first | assumption | exact hs_same _ _ _ | exact (hs_ne _ _ (by first | assumption | decide | omega)).trans (by first | assumption | exact hs_same _ _ _ | exact (hs_ne _ _ (by first | assumption | decide | omega)).trans (by first | assumption | exact hs_same _ _ _))))) rfl (fun v h3 hp => ?_)
  cases hp
  have hR2 := hR
  have hC2 := hC
  obtain ⟨fs5, k5⟩ := hR2.cell
  refine gs_n 856 a_L_law_855 rfl ?_
  refine gs_n 857 a_L_law_856 rfl ?_
  refine gs_n 858 a_L_law_857 rfl ?_
  refine gs_k (nI 1) 859 a_L_law_858 (by decide +kernel) rfl ?_
  refine gs_n 860 a_L_law_859 rfl ?_
  refine gs_sc (6 * j + 1) 861 a_L_law_860 (nI_add (6 * j) 1) (by omega) hL rfl ?_
  refine gs_n 862 a_L_law_861 rfl ?_
  refine gs_n 863 a_L_law_862 rfl ?_
  refine gs_k (nI 2) 864 a_L_law_863 (by decide +kernel) rfl ?_
  refine gs_n 865 a_L_law_864 rfl ?_
  refine gs_sc (6 * j + 2) 866 a_L_law_865 (nI_add (6 * j) 2) (by omega) hL rfl ?_
  refine gs_cv 869 a_L_law_866 k_6_95 q_X5_producer (r_producer _ _ hJ.1 hR2) rfl rfl rfl (by simp [Value.category]) (by first | assumption | exact hs_same _ _ _ | exact (hs_ne _ _ (by first | assumption | decide | omega)).trans (by first | assumption | exact hs_same _ _ _ | exact (hs_ne _ _ (by first | assumption | decide | omega)).trans (by first | assumption | exact hs_same _ _ _ | exact (hs_ne _ _ (by first | assumption | decide | omega)).trans (by first | assumption | exact hs_same _ _ _ | exact (hs_ne _ _ (by first | assumption | decide | omega)).trans (by first | assumption | exact hs_same _ _ _))))) rfl (fun v h4 hp => ?_)
  cases hp
  have hC3 := hC2
  have hR3 := hR2
  refine gs_ic 963 872 a_L_law_869 rfl rfl (fun c => ?_) (fun c => ?_)
  · refine gs_w [(3, .int (nI (6 * j))), (0, .retAddr 0), (1, .ref 0), (2, .ref 96)] (by simp [ix_nd]) (by intro x hx; simp only [List.mem_cons, List.not_mem_nil, or_false] at hx; rcases hx with rfl | rfl | rfl | rfl <;> rfl) ?_
    exact back h ⟨_, hJ, hC3, hR3, hc1, hc2⟩
  · exact absurd rfl c
theorem law_c18 (hL : L ≤ 3072) (hj : 6 * j + 6 ≤ L) (w : LI h) (back : ∀ h2, LI h2 → gs (some (L, xs)) 8 mD_law (963, [(3, .int (nI (6 * j))), (0, .retAddr 0), (1, .ref 0), (2, .ref 96)], [], h2) Q) : gs (some (L, xs)) 8 mD_law (874, [(3, .int (nI (6 * j))), (0, .retAddr 0), (1, .ref 0), (2, .ref 96)], [], h) Q := by
  obtain ⟨⟨P, cap, tmo, clk, cl, cut, X, sy, torn, tE, tp, an⟩, hJ, hC, hR, hc1, hc2⟩ := w
  obtain ⟨fs4, k4⟩ := hC.cell
  refine gs_n 875 a_L_law_874 rfl ?_
  refine gs_n 876 a_L_law_875 rfl ?_
  refine gs_n 877 a_L_law_876 rfl ?_
  refine gs_k (nI 1) 878 a_L_law_877 (by decide +kernel) rfl ?_
  refine gs_n 879 a_L_law_878 rfl ?_
  refine gs_sc (6 * j + 1) 880 a_L_law_879 (nI_add (6 * j) 1) (by omega) hL rfl ?_
  refine gs_n 881 a_L_law_880 rfl ?_
  refine gs_n 882 a_L_law_881 rfl ?_
  refine gs_k (nI 2) 883 a_L_law_882 (by decide +kernel) rfl ?_
  refine gs_n 884 a_L_law_883 rfl ?_
  refine gs_sc (6 * j + 2) 885 a_L_law_884 (nI_add (6 * j) 2) (by omega) hL rfl ?_
  refine gs_cv 888 a_L_law_885 k_6_96 q_X4_next (c_next _ _ hJ.1 hC) rfl rfl rfl (by simp [Value.category]) (by first | assumption | exact hs_same _ _ _ | exact (hs_ne _ _ (by first | assumption | decide | omega)).trans (by first | assumption | exact hs_same _ _ _ | exact (hs_ne _ _ (by first | assumption | decide | omega)).trans (by first | assumption | exact hs_same _ _ _ | exact (hs_ne _ _ (by first | assumption | decide | omega)).trans (by first | assumption | exact hs_same _ _ _ | exact (hs_ne _ _ (by first | assumption | decide | omega)).trans (by first | assumption | exact hs_same _ _ _))))) rfl (fun v h3 hp => ?_)
  cases hp
  have hR2 := hR
  have hC2 := hC
  obtain ⟨fs5, k5⟩ := hR2.cell
  refine gs_n 889 a_L_law_888 rfl ?_
  refine gs_n 890 a_L_law_889 rfl ?_
  refine gs_n 891 a_L_law_890 rfl ?_
  refine gs_k (nI 1) 892 a_L_law_891 (by decide +kernel) rfl ?_
  refine gs_n 893 a_L_law_892 rfl ?_
  refine gs_sc (6 * j + 1) 894 a_L_law_893 (nI_add (6 * j) 1) (by omega) hL rfl ?_
  refine gs_n 895 a_L_law_894 rfl ?_
  refine gs_n 896 a_L_law_895 rfl ?_
  refine gs_k (nI 2) 897 a_L_law_896 (by decide +kernel) rfl ?_
  refine gs_n 898 a_L_law_897 rfl ?_
  refine gs_sc (6 * j + 2) 899 a_L_law_898 (nI_add (6 * j) 2) (by omega) hL rfl ?_
  refine gs_cv 902 a_L_law_899 k_6_99 q_X5_next (r_next _ _ hJ.1 hR2) rfl rfl rfl (by simp [Value.category]) (by first | assumption | exact hs_same _ _ _ | exact (hs_ne _ _ (by first | assumption | decide | omega)).trans (by first | assumption | exact hs_same _ _ _ | exact (hs_ne _ _ (by first | assumption | decide | omega)).trans (by first | assumption | exact hs_same _ _ _ | exact (hs_ne _ _ (by first | assumption | decide | omega)).trans (by first | assumption | exact hs_same _ _ _ | exact (hs_ne _ _ (by first | assumption | decide | omega)).trans (by first | assumption | exact hs_same _ _ _))))) rfl (fun v h4 hp => ?_)
  cases hp
  have hC3 := hC2
  have hR3 := hR2
  refine gs_ic 963 905 a_L_law_902 rfl rfl (fun c => ?_) (fun c => ?_)
  · refine gs_w [(3, .int (nI (6 * j))), (0, .retAddr 0), (1, .ref 0), (2, .ref 96)] (by simp [ix_nd]) (by intro x hx; simp only [List.mem_cons, List.not_mem_nil, or_false] at hx; rcases hx with rfl | rfl | rfl | rfl <;> rfl) ?_
    exact back h ⟨_, hJ, hC3, hR3, hc1, hc2⟩
  · exact absurd rfl c
theorem law_c19 (hL : L ≤ 3072) (hj : 6 * j + 6 ≤ L) (w : LI h) (back : ∀ h2, LI h2 → gs (some (L, xs)) 8 mD_law (963, [(3, .int (nI (6 * j))), (0, .retAddr 0), (1, .ref 0), (2, .ref 96)], [], h2) Q) : gs (some (L, xs)) 8 mD_law (907, [(3, .int (nI (6 * j))), (0, .retAddr 0), (1, .ref 0), (2, .ref 96)], [], h) Q := by
  obtain ⟨⟨P, cap, tmo, clk, cl, cut, X, sy, torn, tE, tp, an⟩, hJ, hC, hR, hc1, hc2⟩ := w
  obtain ⟨fs4, k4⟩ := hC.cell
  refine gs_n 908 a_L_law_907 rfl ?_
  refine gs_n 909 a_L_law_908 rfl ?_
  refine gs_n 910 a_L_law_909 rfl ?_
  refine gs_k (nI 1) 911 a_L_law_910 (by decide +kernel) rfl ?_
  refine gs_n 912 a_L_law_911 rfl ?_
  refine gs_sc (6 * j + 1) 913 a_L_law_912 (nI_add (6 * j) 1) (by omega) hL rfl ?_
  refine gs_n 914 a_L_law_913 rfl ?_
  refine gs_n 915 a_L_law_914 rfl ?_
  refine gs_k (nI 2) 916 a_L_law_915 (by decide +kernel) rfl ?_
  refine gs_n 917 a_L_law_916 rfl ?_
  refine gs_sc (6 * j + 2) 918 a_L_law_917 (nI_add (6 * j) 2) (by omega) hL rfl ?_
  refine gs_cv 921 a_L_law_918 k_6_100 q_X4_byteOf (c_byteOf _ _ hJ.1 hC) rfl rfl rfl (by simp [Value.category]) (by first | assumption | exact hs_same _ _ _ | exact (hs_ne _ _ (by first | assumption | decide | omega)).trans (by first | assumption | exact hs_same _ _ _ | exact (hs_ne _ _ (by first | assumption | decide | omega)).trans (by first | assumption | exact hs_same _ _ _ | exact (hs_ne _ _ (by first | assumption | decide | omega)).trans (by first | assumption | exact hs_same _ _ _ | exact (hs_ne _ _ (by first | assumption | decide | omega)).trans (by first | assumption | exact hs_same _ _ _))))) rfl (fun v h3 hp => ?_)
  cases hp
  have hR2 := hR
  have hC2 := hC
  obtain ⟨fs5, k5⟩ := hR2.cell
  refine gs_n 922 a_L_law_921 rfl ?_
  refine gs_n 923 a_L_law_922 rfl ?_
  refine gs_n 924 a_L_law_923 rfl ?_
  refine gs_k (nI 1) 925 a_L_law_924 (by decide +kernel) rfl ?_
  refine gs_n 926 a_L_law_925 rfl ?_
  refine gs_sc (6 * j + 1) 927 a_L_law_926 (nI_add (6 * j) 1) (by omega) hL rfl ?_
  refine gs_n 928 a_L_law_927 rfl ?_
  refine gs_n 929 a_L_law_928 rfl ?_
  refine gs_k (nI 2) 930 a_L_law_929 (by decide +kernel) rfl ?_
  refine gs_n 931 a_L_law_930 rfl ?_
  refine gs_sc (6 * j + 2) 932 a_L_law_931 (nI_add (6 * j) 2) (by omega) hL rfl ?_
  refine gs_cv 935 a_L_law_932 k_6_103 q_X5_byteOf (r_byteOf _ _ hJ.1 hR2) rfl rfl rfl (by simp [Value.category]) (by first | assumption | exact hs_same _ _ _ | exact (hs_ne _ _ (by first | assumption | decide | omega)).trans (by first | assumption | exact hs_same _ _ _ | exact (hs_ne _ _ (by first | assumption | decide | omega)).trans (by first | assumption | exact hs_same _ _ _ | exact (hs_ne _ _ (by first | assumption | decide | omega)).trans (by first | assumption | exact hs_same _ _ _ | exact (hs_ne _ _ (by first | assumption | decide | omega)).trans (by first | assumption | exact hs_same _ _ _))))) rfl (fun v h4 hp => ?_)
  cases hp
  have hC3 := hC2
  have hR3 := hR2
  refine gs_ic 963 938 a_L_law_935 rfl rfl (fun c => ?_) (fun c => ?_)
  · refine gs_w [(3, .int (nI (6 * j))), (0, .retAddr 0), (1, .ref 0), (2, .ref 96)] (by simp [ix_nd]) (by intro x hx; simp only [List.mem_cons, List.not_mem_nil, or_false] at hx; rcases hx with rfl | rfl | rfl | rfl <;> rfl) ?_
    exact back h ⟨_, hJ, hC3, hR3, hc1, hc2⟩
  · exact absurd rfl c
theorem law_c20 (hL : L ≤ 3072) (hj : 6 * j + 6 ≤ L) (w : LI h) (back : ∀ h2, LI h2 → gs (some (L, xs)) 8 mD_law (963, [(3, .int (nI (6 * j))), (0, .retAddr 0), (1, .ref 0), (2, .ref 96)], [], h2) Q) : gs (some (L, xs)) 8 mD_law (940, [(3, .int (nI (6 * j))), (0, .retAddr 0), (1, .ref 0), (2, .ref 96)], [], h) Q := by
  obtain ⟨⟨P, cap, tmo, clk, cl, cut, X, sy, torn, tE, tp, an⟩, hJ, hC, hR, hc1, hc2⟩ := w
  obtain ⟨fs4, k4⟩ := hC.cell
  refine gs_n 941 a_L_law_940 rfl ?_
  refine gs_n 942 a_L_law_941 rfl ?_
  refine gs_n 943 a_L_law_942 rfl ?_
  refine gs_k (nI 1) 944 a_L_law_943 (by decide +kernel) rfl ?_
  refine gs_n 945 a_L_law_944 rfl ?_
  refine gs_sc (6 * j + 1) 946 a_L_law_945 (nI_add (6 * j) 1) (by omega) hL rfl ?_
  refine gs_cv 949 a_L_law_946 k_6_104 q_X4_count (c_count _ hJ.1 hC) rfl rfl rfl (by simp [Value.category]) (by first | assumption | exact hs_same _ _ _ | exact (hs_ne _ _ (by first | assumption | decide | omega)).trans (by first | assumption | exact hs_same _ _ _ | exact (hs_ne _ _ (by first | assumption | decide | omega)).trans (by first | assumption | exact hs_same _ _ _ | exact (hs_ne _ _ (by first | assumption | decide | omega)).trans (by first | assumption | exact hs_same _ _ _ | exact (hs_ne _ _ (by first | assumption | decide | omega)).trans (by first | assumption | exact hs_same _ _ _))))) rfl (fun v h3 hp => ?_)
  cases hp
  have hR2 := hR
  have hC2 := hC
  obtain ⟨fs5, k5⟩ := hR2.cell
  refine gs_n 950 a_L_law_949 rfl ?_
  refine gs_n 951 a_L_law_950 rfl ?_
  refine gs_n 952 a_L_law_951 rfl ?_
  refine gs_k (nI 1) 953 a_L_law_952 (by decide +kernel) rfl ?_
  refine gs_n 954 a_L_law_953 rfl ?_
  refine gs_sc (6 * j + 1) 955 a_L_law_954 (nI_add (6 * j) 1) (by omega) hL rfl ?_
  refine gs_cv 958 a_L_law_955 k_6_107 q_X5_count (r_count _ hJ.1 hR2) rfl rfl rfl (by simp [Value.category]) (by first | assumption | exact hs_same _ _ _ | exact (hs_ne _ _ (by first | assumption | decide | omega)).trans (by first | assumption | exact hs_same _ _ _ | exact (hs_ne _ _ (by first | assumption | decide | omega)).trans (by first | assumption | exact hs_same _ _ _ | exact (hs_ne _ _ (by first | assumption | decide | omega)).trans (by first | assumption | exact hs_same _ _ _ | exact (hs_ne _ _ (by first | assumption | decide | omega)).trans (by first | assumption | exact hs_same _ _ _))))) rfl (fun v h4 hp => ?_)
  cases hp
  have hC3 := hC2
  have hR3 := hR2
  refine gs_ic 963 961 a_L_law_958 rfl rfl (fun c => ?_) (fun c => ?_)
  · refine gs_w [(3, .int (nI (6 * j))), (0, .retAddr 0), (1, .ref 0), (2, .ref 96)] (by simp [ix_nd]) (by intro x hx; simp only [List.mem_cons, List.not_mem_nil, or_false] at hx; rcases hx with rfl | rfl | rfl | rfl <;> rfl) ?_
    exact back h ⟨_, hJ, hC3, hR3, hc1, hc2⟩
  · exact absurd rfl c
end LC
