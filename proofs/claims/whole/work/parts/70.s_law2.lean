-- the law's cases, more
set_option maxRecDepth 100000 in
set_option maxHeartbeats 4000000 in
theorem c_firings {X : kn_X} {σ : kn_S} {τ : kn_T} {z : kn_Z} {B c n i : Nat} {Q : kn_Q} (hV : kr_V z) (W : kr_Ws σ B) (hB : B + 2000 < 16777216) (hi : i + 5 ≤ X.1) (hX : X.1 < 2 ^ 31) (k : ∀ (σ9 : kn_S) (τ9 : kn_T), kr_Ws σ9 (B + 1000) → kn_Go X ML_law 1775 [(5, .int (nI i)), (4, .ref 134), (3, .ref 133), (2, .ref 128), (1, .ref 0), (0, .retAddr 0)] [] σ9 τ9 z c n Q) : kn_Go X ML_law 705 [(5, .int (nI i)), (4, .ref 134), (3, .ref 133), (2, .ref 128), (1, .ref 0), (0, .retAddr 0)] [] σ τ z (c + 2) (n + 12) Q := by
  have hin : ∀ j : Nat, j < 5 → vp_in (nI i + nI j) X.1 := fun j hj => by rw [nI_add]; exact vp_in_nI (by omega) hX
  refine k_aload_n 1 dL_law_705 rfl rfl ?_
  refine k_invV (As := []) dL_law_706 mm_X6_firings wL_L_122 ⟨by decide, by decide⟩ hV.1.1.1 hV.1.1.2 rfl rfl (Nat.le_of_ble_eq_true rfl) (Nat.zero_le _) (Nat.zero_le _) (cn_firings hV W  _ (fun v σ1 hm => ⟨rfl, ?_⟩))
  refine k_aload_n 2 dL_law_709 rfl rfl ?_
  refine k_invV (As := []) dL_law_710 mm_X7_firings wL_L_125 ⟨by decide, by decide⟩ hV.2.1.1.1 hV.2.1.1.2 rfl rfl (Nat.le_of_ble_eq_true rfl) (Nat.zero_le _) (Nat.zero_le _) (hm _ (fun σ2 g3 => ⟨rfl, ?_⟩))
  refine k_icmpeq 1775 dL_law_713 (by decide) (fun h713 => ?_) (fun h713 => ?_)
  · exact k_room (Nat.le_add_right _ _) (Nat.le_add_right _ _) (k _ _ g3)
  · exact absurd rfl h713

set_option maxRecDepth 100000 in
set_option maxHeartbeats 4000000 in
theorem c_next {X : kn_X} {σ : kn_S} {τ : kn_T} {z : kn_Z} {B c n i : Nat} {Q : kn_Q} (hV : kr_V z) (W : kr_Ws σ B) (hB : B + 2000 < 16777216) (hi : i + 5 ≤ X.1) (hX : X.1 < 2 ^ 31) (k : ∀ (σ9 : kn_S) (τ9 : kn_T), kr_Ws σ9 (B + 1000) → kn_Go X ML_law 1775 [(5, .int (nI i)), (4, .ref 134), (3, .ref 133), (2, .ref 128), (1, .ref 0), (0, .retAddr 0)] [] σ9 τ9 z c n Q) : kn_Go X ML_law 718 [(5, .int (nI i)), (4, .ref 134), (3, .ref 133), (2, .ref 128), (1, .ref 0), (0, .retAddr 0)] [] σ τ z (c + 2) (n + 12) Q := by
  have hin : ∀ j : Nat, j < 5 → vp_in (nI i + nI j) X.1 := fun j hj => by rw [nI_add]; exact vp_in_nI (by omega) hX
  refine k_aload_n 1 dL_law_718 rfl rfl ?_
  refine k_invV (As := []) dL_law_719 mm_X6_next wL_L_126 ⟨by decide, by decide⟩ hV.1.1.1 hV.1.1.2 rfl rfl (Nat.le_of_ble_eq_true rfl) (Nat.zero_le _) (Nat.zero_le _) (cn_next hV W (by omega) _ (fun v σ1 hm => ⟨rfl, ?_⟩))
  refine k_aload_n 2 dL_law_722 rfl rfl ?_
  refine k_invV (As := []) dL_law_723 mm_X7_next wL_L_129 ⟨by decide, by decide⟩ hV.2.1.1.1 hV.2.1.1.2 rfl rfl (Nat.le_of_ble_eq_true rfl) (Nat.zero_le _) (Nat.zero_le _) (hm _ (fun σ2 g3 => ⟨rfl, ?_⟩))
  refine k_icmpeq 1775 dL_law_726 (by decide) (fun h726 => ?_) (fun h726 => ?_)
  · exact k_room (Nat.le_add_right _ _) (Nat.le_add_right _ _) (k _ _ g3)
  · exact absurd rfl h726

set_option maxRecDepth 100000 in
set_option maxHeartbeats 4000000 in
theorem c_cylinder {X : kn_X} {σ : kn_S} {τ : kn_T} {z : kn_Z} {B c n i : Nat} {Q : kn_Q} (hV : kr_V z) (W : kr_Ws σ B) (hB : B + 2000 < 16777216) (hi : i + 5 ≤ X.1) (hX : X.1 < 2 ^ 31) (k : ∀ (σ9 : kn_S) (τ9 : kn_T), kr_Ws σ9 (B + 1000) → kn_Go X ML_law 1775 [(5, .int (nI i)), (4, .ref 134), (3, .ref 133), (2, .ref 128), (1, .ref 0), (0, .retAddr 0)] [] σ9 τ9 z c n Q) : kn_Go X ML_law 731 [(5, .int (nI i)), (4, .ref 134), (3, .ref 133), (2, .ref 128), (1, .ref 0), (0, .retAddr 0)] [] σ τ z (c + 2) (n + 12) Q := by
  have hin : ∀ j : Nat, j < 5 → vp_in (nI i + nI j) X.1 := fun j hj => by rw [nI_add]; exact vp_in_nI (by omega) hX
  refine k_aload_n 1 dL_law_731 rfl rfl ?_
  refine k_aload_nR 0 dL_law_732 rfl rfl ?_
  refine k_iload dL_law_733 rfl ?_
  refine k_iconst (1) dL_law_735 (by decide) ?_
  refine k_iadd dL_law_736 ?_
  refine k_roload dL_law_737 (by decide) (hin 1 (by decide)) ?_
  refine k_aload_nR 0 dL_law_738 rfl rfl ?_
  refine k_iload dL_law_739 rfl ?_
  refine k_iconst (2) dL_law_741 (by decide) ?_
  refine k_iadd dL_law_742 ?_
  refine k_roload dL_law_743 (by decide) (hin 2 (by decide)) ?_
  refine k_aload_n 3 dL_law_744 rfl rfl ?_
  refine k_invSH (As := [_, _, _, _]) dL_law_745 mm_L_cylinder wL_L_130 ⟨by decide, by decide⟩ rfl rfl (Nat.le_of_ble_eq_true rfl) (c1 := 2) (n1 := 12) (by omega) (by omega) (cs_cylinder _ _ hV W  _ (fun κ v σ1 τ1 h1 hm => ⟨rfl, ?_⟩))
  show kn_Go X ML_law 748 _ _ σ1 τ1 z (c + 2 - 2) (n + 12 - 12) Q; rw [Nat.add_sub_cancel, Nat.add_sub_cancel]
  refine k_istore (lv' := [(6, _), (5, _), (4, _), (3, _), (2, _), (1, _), (0, _)]) dL_law_748 (by decide) rfl ?_
  refine k_aload_n 2 dL_law_750 rfl rfl ?_
  refine k_aload_nR 0 dL_law_751 rfl rfl ?_
  refine k_iload dL_law_752 rfl ?_
  refine k_iconst (1) dL_law_754 (by decide) ?_
  refine k_iadd dL_law_755 ?_
  refine k_roload dL_law_756 (by decide) (hin 1 (by decide)) ?_
  refine k_aload_nR 0 dL_law_757 rfl rfl ?_
  refine k_iload dL_law_758 rfl ?_
  refine k_iconst (2) dL_law_760 (by decide) ?_
  refine k_iadd dL_law_761 ?_
  refine k_roload dL_law_762 (by decide) (hin 2 (by decide)) ?_
  refine k_invV (As := [_, _]) dL_law_763 mm_X7_cylinder wL_L_132 ⟨by decide, by decide⟩ hV.2.1.1.1 hV.2.1.1.2 rfl rfl (Nat.le_of_ble_eq_true rfl) (Nat.zero_le _) (Nat.zero_le _) (hm _ (fun b σ2 g1 g2 g3 => ⟨rfl, ?_⟩))
  refine k_istore (lv' := [(7, _), (6, _), (5, _), (4, _), (3, _), (2, _), (1, _), (0, _)]) dL_law_766 (by decide) rfl ?_
  refine k_aload_n 2 dL_law_768 rfl rfl ?_
  refine k_invV (As := []) dL_law_769 mm_X7_thrown wL_L_93 ⟨by decide, by decide⟩ hV.2.1.1.1 hV.2.1.1.2 rfl rfl (Nat.le_of_ble_eq_true rfl) (Nat.zero_le _) (Nat.zero_le _) (m_X7_thrown hV.2.1 ⟨rfl, ?_⟩)
  refine k_iload dL_law_772 rfl ?_
  rw [g1]
  refine k_icmpeq 779 dL_law_774 (by decide) (fun h774 => ?_) (fun h774 => ?_)
  · refine k_iload dL_law_779 rfl ?_
    refine k_ifne 796 dL_law_781 (by decide) (fun h781 => ?_) (fun h781 => ?_)
    · refine k_goto 1775 dL_law_796 (by decide) ?_
      refine k_re [5, 4, 3, 2, 1, 0] (lv' := [(5, _), (4, _), (3, _), (2, _), (1, _), (0, _)]) rfl ?_
      exact k _ _ g3
    · refine k_aload_n 3 dL_law_784 rfl rfl ?_
      refine k_iconst (0) dL_law_785 (by decide) ?_
      refine k_laload dL_law_786 hV.2.2.1.1 hV.2.2.1.2 (vp_in_nI (n := 0) (by decide) (by decide)) ?_
      refine k_iload dL_law_787 rfl ?_
      refine k_i2l dL_law_789 ?_
      refine k_lcmp dL_law_790 ?_
      rw [g2 h781, show τ1 133 (Int32.toNatClampNeg 0) = v.toInt64 from h1 h781, kr_lcmp]
      refine k_ifeq 796 dL_law_791 (by decide) (fun h791 => ?_) (fun h791 => ?_)
      · refine k_goto 1775 dL_law_796 (by decide) ?_
        refine k_re [5, 4, 3, 2, 1, 0] (lv' := [(5, _), (4, _), (3, _), (2, _), (1, _), (0, _)]) rfl ?_
        exact k _ _ g3
      · exact absurd rfl h791
  · exact absurd rfl h774

set_option maxRecDepth 100000 in
set_option maxHeartbeats 4000000 in
theorem c_learned {X : kn_X} {σ : kn_S} {τ : kn_T} {z : kn_Z} {B c n i : Nat} {Q : kn_Q} (hV : kr_V z) (W : kr_Ws σ B) (hB : B + 2000 < 16777216) (hi : i + 5 ≤ X.1) (hX : X.1 < 2 ^ 31) (k : ∀ (σ9 : kn_S) (τ9 : kn_T), kr_Ws σ9 (B + 1000) → kn_Go X ML_law 1775 [(5, .int (nI i)), (4, .ref 134), (3, .ref 133), (2, .ref 128), (1, .ref 0), (0, .retAddr 0)] [] σ9 τ9 z c n Q) : kn_Go X ML_law 799 [(5, .int (nI i)), (4, .ref 134), (3, .ref 133), (2, .ref 128), (1, .ref 0), (0, .retAddr 0)] [] σ τ z (c + 2) (n + 12) Q := by
  have hin : ∀ j : Nat, j < 5 → vp_in (nI i + nI j) X.1 := fun j hj => by rw [nI_add]; exact vp_in_nI (by omega) hX
  refine k_aload_n 1 dL_law_799 rfl rfl ?_
  refine k_aload_nR 0 dL_law_800 rfl rfl ?_
  refine k_iload dL_law_801 rfl ?_
  refine k_iconst (1) dL_law_803 (by decide) ?_
  refine k_iadd dL_law_804 ?_
  refine k_roload dL_law_805 (by decide) (hin 1 (by decide)) ?_
  refine k_aload_nR 0 dL_law_806 rfl rfl ?_
  refine k_iload dL_law_807 rfl ?_
  refine k_iconst (2) dL_law_809 (by decide) ?_
  refine k_iadd dL_law_810 ?_
  refine k_roload dL_law_811 (by decide) (hin 2 (by decide)) ?_
  refine k_aload_n 3 dL_law_812 rfl rfl ?_
  refine k_invSH (As := [_, _, _, _]) dL_law_813 mm_L_learned wL_L_133 ⟨by decide, by decide⟩ rfl rfl (Nat.le_of_ble_eq_true rfl) (c1 := 2) (n1 := 12) (by omega) (by omega) (cs_learned _ _ hV W  _ (fun κ v σ1 τ1 h1 hm => ⟨rfl, ?_⟩))
  show kn_Go X ML_law 816 _ _ σ1 τ1 z (c + 2 - 2) (n + 12 - 12) Q; rw [Nat.add_sub_cancel, Nat.add_sub_cancel]
  refine k_istore (lv' := [(6, _), (5, _), (4, _), (3, _), (2, _), (1, _), (0, _)]) dL_law_816 (by decide) rfl ?_
  refine k_aload_n 2 dL_law_818 rfl rfl ?_
  refine k_aload_nR 0 dL_law_819 rfl rfl ?_
  refine k_iload dL_law_820 rfl ?_
  refine k_iconst (1) dL_law_822 (by decide) ?_
  refine k_iadd dL_law_823 ?_
  refine k_roload dL_law_824 (by decide) (hin 1 (by decide)) ?_
  refine k_aload_nR 0 dL_law_825 rfl rfl ?_
  refine k_iload dL_law_826 rfl ?_
  refine k_iconst (2) dL_law_828 (by decide) ?_
  refine k_iadd dL_law_829 ?_
  refine k_roload dL_law_830 (by decide) (hin 2 (by decide)) ?_
  refine k_invV (As := [_, _]) dL_law_831 mm_X7_learned wL_L_135 ⟨by decide, by decide⟩ hV.2.1.1.1 hV.2.1.1.2 rfl rfl (Nat.le_of_ble_eq_true rfl) (Nat.zero_le _) (Nat.zero_le _) (hm _ (fun b σ2 g1 g2 g3 => ⟨rfl, ?_⟩))
  refine k_istore (lv' := [(7, _), (6, _), (5, _), (4, _), (3, _), (2, _), (1, _), (0, _)]) dL_law_834 (by decide) rfl ?_
  refine k_aload_n 2 dL_law_836 rfl rfl ?_
  refine k_invV (As := []) dL_law_837 mm_X7_thrown wL_L_93 ⟨by decide, by decide⟩ hV.2.1.1.1 hV.2.1.1.2 rfl rfl (Nat.le_of_ble_eq_true rfl) (Nat.zero_le _) (Nat.zero_le _) (m_X7_thrown hV.2.1 ⟨rfl, ?_⟩)
  refine k_iload dL_law_840 rfl ?_
  rw [g1]
  refine k_icmpeq 847 dL_law_842 (by decide) (fun h842 => ?_) (fun h842 => ?_)
  · refine k_iload dL_law_847 rfl ?_
    refine k_ifne 864 dL_law_849 (by decide) (fun h849 => ?_) (fun h849 => ?_)
    · refine k_goto 1775 dL_law_864 (by decide) ?_
      refine k_re [5, 4, 3, 2, 1, 0] (lv' := [(5, _), (4, _), (3, _), (2, _), (1, _), (0, _)]) rfl ?_
      exact k _ _ g3
    · refine k_aload_n 3 dL_law_852 rfl rfl ?_
      refine k_iconst (0) dL_law_853 (by decide) ?_
      refine k_laload dL_law_854 hV.2.2.1.1 hV.2.2.1.2 (vp_in_nI (n := 0) (by decide) (by decide)) ?_
      refine k_iload dL_law_855 rfl ?_
      refine k_i2l dL_law_857 ?_
      refine k_lcmp dL_law_858 ?_
      rw [g2 h849, show τ1 133 (Int32.toNatClampNeg 0) = v.toInt64 from h1 h849, kr_lcmp]
      refine k_ifeq 864 dL_law_859 (by decide) (fun h859 => ?_) (fun h859 => ?_)
      · refine k_goto 1775 dL_law_864 (by decide) ?_
        refine k_re [5, 4, 3, 2, 1, 0] (lv' := [(5, _), (4, _), (3, _), (2, _), (1, _), (0, _)]) rfl ?_
        exact k _ _ g3
      · exact absurd rfl h859
  · exact absurd rfl h842

set_option maxRecDepth 100000 in
set_option maxHeartbeats 4000000 in
theorem c_angle {X : kn_X} {σ : kn_S} {τ : kn_T} {z : kn_Z} {B c n i : Nat} {Q : kn_Q} (hV : kr_V z) (W : kr_Ws σ B) (hB : B + 2000 < 16777216) (hi : i + 5 ≤ X.1) (hX : X.1 < 2 ^ 31) (k : ∀ (σ9 : kn_S) (τ9 : kn_T), kr_Ws σ9 (B + 1000) → kn_Go X ML_law 1775 [(5, .int (nI i)), (4, .ref 134), (3, .ref 133), (2, .ref 128), (1, .ref 0), (0, .retAddr 0)] [] σ9 τ9 z c n Q) : kn_Go X ML_law 867 [(5, .int (nI i)), (4, .ref 134), (3, .ref 133), (2, .ref 128), (1, .ref 0), (0, .retAddr 0)] [] σ τ z (c + 2) (n + 12) Q := by
  have hin : ∀ j : Nat, j < 5 → vp_in (nI i + nI j) X.1 := fun j hj => by rw [nI_add]; exact vp_in_nI (by omega) hX
  by_cases hb4 : kn_rv X 0 (nI i + 4).toNatClampNeg = 0
  · refine k_aload_n 1 dL_law_867 rfl rfl ?_
    refine k_aload_nR 0 dL_law_868 rfl rfl ?_
    refine k_iload dL_law_869 rfl ?_
    refine k_iconst (1) dL_law_871 (by decide) ?_
    refine k_iadd dL_law_872 ?_
    refine k_roload dL_law_873 (by decide) (hin 1 (by decide)) ?_
    refine k_aload_nR 0 dL_law_874 rfl rfl ?_
    refine k_iload dL_law_875 rfl ?_
    refine k_iconst (2) dL_law_877 (by decide) ?_
    refine k_iadd dL_law_878 ?_
    refine k_roload dL_law_879 (by decide) (hin 2 (by decide)) ?_
    refine k_aload_nR 0 dL_law_880 rfl rfl ?_
    refine k_iload dL_law_881 rfl ?_
    refine k_iconst (3) dL_law_883 (by decide) ?_
    refine k_iadd dL_law_884 ?_
    refine k_roload dL_law_885 (by decide) (hin 3 (by decide)) ?_
    refine k_aload_nR 0 dL_law_886 rfl rfl ?_
    refine k_iload dL_law_887 rfl ?_
    refine k_iconst (4) dL_law_889 (by decide) ?_
    refine k_iadd dL_law_890 ?_
    refine k_roload dL_law_891 (by decide) (hin 4 (by decide)) ?_
    refine k_ifeq 899 dL_law_892 (by decide) (fun h892 => ?_) (fun h892 => ?_)
    · refine k_iconst (0) dL_law_899 (by decide) ?_
      refine k_aload_n 3 dL_law_900 rfl rfl ?_
      refine k_invSH (As := [_, _, _, _, _, _]) dL_law_901 mm_L_angle wL_L_136 ⟨by decide, by decide⟩ rfl rfl (Nat.le_of_ble_eq_true rfl) (c1 := 2) (n1 := 12) (by omega) (by omega) (cs_angle _ _ _ _ hV W  _ (fun κ v σ1 τ1 h1 hm => ⟨rfl, ?_⟩))
      show kn_Go X ML_law 904 _ _ σ1 τ1 z (c + 2 - 2) (n + 12 - 12) Q; rw [Nat.add_sub_cancel, Nat.add_sub_cancel]
      refine k_istore (lv' := [(6, _), (5, _), (4, _), (3, _), (2, _), (1, _), (0, _)]) dL_law_904 (by decide) rfl ?_
      refine k_aload_n 2 dL_law_906 rfl rfl ?_
      refine k_aload_nR 0 dL_law_907 rfl rfl ?_
      refine k_iload dL_law_908 rfl ?_
      refine k_iconst (1) dL_law_910 (by decide) ?_
      refine k_iadd dL_law_911 ?_
      refine k_roload dL_law_912 (by decide) (hin 1 (by decide)) ?_
      refine k_aload_nR 0 dL_law_913 rfl rfl ?_
      refine k_iload dL_law_914 rfl ?_
      refine k_iconst (2) dL_law_916 (by decide) ?_
      refine k_iadd dL_law_917 ?_
      refine k_roload dL_law_918 (by decide) (hin 2 (by decide)) ?_
      refine k_aload_nR 0 dL_law_919 rfl rfl ?_
      refine k_iload dL_law_920 rfl ?_
      refine k_iconst (3) dL_law_922 (by decide) ?_
      refine k_iadd dL_law_923 ?_
      refine k_roload dL_law_924 (by decide) (hin 3 (by decide)) ?_
      refine k_aload_nR 0 dL_law_925 rfl rfl ?_
      refine k_iload dL_law_926 rfl ?_
      refine k_iconst (4) dL_law_928 (by decide) ?_
      refine k_iadd dL_law_929 ?_
      refine k_roload dL_law_930 (by decide) (hin 4 (by decide)) ?_
      refine k_ifeq 938 dL_law_931 (by decide) (fun h931 => ?_) (fun h931 => ?_)
      · refine k_iconst (0) dL_law_938 (by decide) ?_
        refine k_invV (As := [_, _, _, _]) dL_law_939 mm_X7_angle wL_L_139 ⟨by decide, by decide⟩ hV.2.1.1.1 hV.2.1.1.2 rfl rfl (Nat.le_of_ble_eq_true rfl) (Nat.zero_le _) (Nat.zero_le _) (hm _ (fun b σ2 g1 g2 g3 => ⟨rfl, ?_⟩))
        refine k_istore (lv' := [(7, _), (6, _), (5, _), (4, _), (3, _), (2, _), (1, _), (0, _)]) dL_law_942 (by decide) rfl ?_
        refine k_aload_n 2 dL_law_944 rfl rfl ?_
        refine k_invV (As := []) dL_law_945 mm_X7_thrown wL_L_93 ⟨by decide, by decide⟩ hV.2.1.1.1 hV.2.1.1.2 rfl rfl (Nat.le_of_ble_eq_true rfl) (Nat.zero_le _) (Nat.zero_le _) (m_X7_thrown hV.2.1 ⟨rfl, ?_⟩)
        refine k_iload dL_law_948 rfl ?_
        rw [g1]
        refine k_icmpeq 955 dL_law_950 (by decide) (fun h950 => ?_) (fun h950 => ?_)
        · refine k_iload dL_law_955 rfl ?_
          refine k_ifne 972 dL_law_957 (by decide) (fun h957 => ?_) (fun h957 => ?_)
          · refine k_goto 1775 dL_law_972 (by decide) ?_
            refine k_re [5, 4, 3, 2, 1, 0] (lv' := [(5, _), (4, _), (3, _), (2, _), (1, _), (0, _)]) rfl ?_
            exact k _ _ g3
          · refine k_aload_n 3 dL_law_960 rfl rfl ?_
            refine k_iconst (0) dL_law_961 (by decide) ?_
            refine k_laload dL_law_962 hV.2.2.1.1 hV.2.2.1.2 (vp_in_nI (n := 0) (by decide) (by decide)) ?_
            refine k_iload dL_law_963 rfl ?_
            refine k_i2l dL_law_965 ?_
            refine k_lcmp dL_law_966 ?_
            rw [g2 h957, show τ1 133 (Int32.toNatClampNeg 0) = v.toInt64 from h1 h957, kr_lcmp]
            refine k_ifeq 972 dL_law_967 (by decide) (fun h967 => ?_) (fun h967 => ?_)
            · refine k_goto 1775 dL_law_972 (by decide) ?_
              refine k_re [5, 4, 3, 2, 1, 0] (lv' := [(5, _), (4, _), (3, _), (2, _), (1, _), (0, _)]) rfl ?_
              exact k _ _ g3
            · exact absurd rfl h967
        · exact absurd rfl h950
      · exact absurd hb4 h931
    · exact absurd hb4 h892
  · refine k_aload_n 1 dL_law_867 rfl rfl ?_
    refine k_aload_nR 0 dL_law_868 rfl rfl ?_
    refine k_iload dL_law_869 rfl ?_
    refine k_iconst (1) dL_law_871 (by decide) ?_
    refine k_iadd dL_law_872 ?_
    refine k_roload dL_law_873 (by decide) (hin 1 (by decide)) ?_
    refine k_aload_nR 0 dL_law_874 rfl rfl ?_
    refine k_iload dL_law_875 rfl ?_
    refine k_iconst (2) dL_law_877 (by decide) ?_
    refine k_iadd dL_law_878 ?_
    refine k_roload dL_law_879 (by decide) (hin 2 (by decide)) ?_
    refine k_aload_nR 0 dL_law_880 rfl rfl ?_
    refine k_iload dL_law_881 rfl ?_
    refine k_iconst (3) dL_law_883 (by decide) ?_
    refine k_iadd dL_law_884 ?_
    refine k_roload dL_law_885 (by decide) (hin 3 (by decide)) ?_
    refine k_aload_nR 0 dL_law_886 rfl rfl ?_
    refine k_iload dL_law_887 rfl ?_
    refine k_iconst (4) dL_law_889 (by decide) ?_
    refine k_iadd dL_law_890 ?_
    refine k_roload dL_law_891 (by decide) (hin 4 (by decide)) ?_
    refine k_ifeq 899 dL_law_892 (by decide) (fun h892 => ?_) (fun h892 => ?_)
    · exact absurd h892 hb4
    · refine k_iconst (1) dL_law_895 (by decide) ?_
      refine k_goto 900 dL_law_896 (by decide) ?_
      refine k_aload_n 3 dL_law_900 rfl rfl ?_
      refine k_invSH (As := [_, _, _, _, _, _]) dL_law_901 mm_L_angle wL_L_136 ⟨by decide, by decide⟩ rfl rfl (Nat.le_of_ble_eq_true rfl) (c1 := 2) (n1 := 12) (by omega) (by omega) (cs_angle _ _ _ _ hV W  _ (fun κ v σ1 τ1 h1 hm => ⟨rfl, ?_⟩))
      show kn_Go X ML_law 904 _ _ σ1 τ1 z (c + 2 - 2) (n + 12 - 12) Q; rw [Nat.add_sub_cancel, Nat.add_sub_cancel]
      refine k_istore (lv' := [(6, _), (5, _), (4, _), (3, _), (2, _), (1, _), (0, _)]) dL_law_904 (by decide) rfl ?_
      refine k_aload_n 2 dL_law_906 rfl rfl ?_
      refine k_aload_nR 0 dL_law_907 rfl rfl ?_
      refine k_iload dL_law_908 rfl ?_
      refine k_iconst (1) dL_law_910 (by decide) ?_
      refine k_iadd dL_law_911 ?_
      refine k_roload dL_law_912 (by decide) (hin 1 (by decide)) ?_
      refine k_aload_nR 0 dL_law_913 rfl rfl ?_
      refine k_iload dL_law_914 rfl ?_
      refine k_iconst (2) dL_law_916 (by decide) ?_
      refine k_iadd dL_law_917 ?_
      refine k_roload dL_law_918 (by decide) (hin 2 (by decide)) ?_
      refine k_aload_nR 0 dL_law_919 rfl rfl ?_
      refine k_iload dL_law_920 rfl ?_
      refine k_iconst (3) dL_law_922 (by decide) ?_
      refine k_iadd dL_law_923 ?_
      refine k_roload dL_law_924 (by decide) (hin 3 (by decide)) ?_
      refine k_aload_nR 0 dL_law_925 rfl rfl ?_
      refine k_iload dL_law_926 rfl ?_
      refine k_iconst (4) dL_law_928 (by decide) ?_
      refine k_iadd dL_law_929 ?_
      refine k_roload dL_law_930 (by decide) (hin 4 (by decide)) ?_
      refine k_ifeq 938 dL_law_931 (by decide) (fun h931 => ?_) (fun h931 => ?_)
      · exact absurd h931 hb4
      · refine k_iconst (1) dL_law_934 (by decide) ?_
        refine k_goto 939 dL_law_935 (by decide) ?_
        refine k_invV (As := [_, _, _, _]) dL_law_939 mm_X7_angle wL_L_139 ⟨by decide, by decide⟩ hV.2.1.1.1 hV.2.1.1.2 rfl rfl (Nat.le_of_ble_eq_true rfl) (Nat.zero_le _) (Nat.zero_le _) (hm _ (fun b σ2 g1 g2 g3 => ⟨rfl, ?_⟩))
        refine k_istore (lv' := [(7, _), (6, _), (5, _), (4, _), (3, _), (2, _), (1, _), (0, _)]) dL_law_942 (by decide) rfl ?_
        refine k_aload_n 2 dL_law_944 rfl rfl ?_
        refine k_invV (As := []) dL_law_945 mm_X7_thrown wL_L_93 ⟨by decide, by decide⟩ hV.2.1.1.1 hV.2.1.1.2 rfl rfl (Nat.le_of_ble_eq_true rfl) (Nat.zero_le _) (Nat.zero_le _) (m_X7_thrown hV.2.1 ⟨rfl, ?_⟩)
        refine k_iload dL_law_948 rfl ?_
        rw [g1]
        refine k_icmpeq 955 dL_law_950 (by decide) (fun h950 => ?_) (fun h950 => ?_)
        · refine k_iload dL_law_955 rfl ?_
          refine k_ifne 972 dL_law_957 (by decide) (fun h957 => ?_) (fun h957 => ?_)
          · refine k_goto 1775 dL_law_972 (by decide) ?_
            refine k_re [5, 4, 3, 2, 1, 0] (lv' := [(5, _), (4, _), (3, _), (2, _), (1, _), (0, _)]) rfl ?_
            exact k _ _ g3
          · refine k_aload_n 3 dL_law_960 rfl rfl ?_
            refine k_iconst (0) dL_law_961 (by decide) ?_
            refine k_laload dL_law_962 hV.2.2.1.1 hV.2.2.1.2 (vp_in_nI (n := 0) (by decide) (by decide)) ?_
            refine k_iload dL_law_963 rfl ?_
            refine k_i2l dL_law_965 ?_
            refine k_lcmp dL_law_966 ?_
            rw [g2 h957, show τ1 133 (Int32.toNatClampNeg 0) = v.toInt64 from h1 h957, kr_lcmp]
            refine k_ifeq 972 dL_law_967 (by decide) (fun h967 => ?_) (fun h967 => ?_)
            · refine k_goto 1775 dL_law_972 (by decide) ?_
              refine k_re [5, 4, 3, 2, 1, 0] (lv' := [(5, _), (4, _), (3, _), (2, _), (1, _), (0, _)]) rfl ?_
              exact k _ _ g3
            · exact absurd rfl h967
        · exact absurd rfl h950

set_option maxRecDepth 100000 in
set_option maxHeartbeats 4000000 in
theorem c_status {X : kn_X} {σ : kn_S} {τ : kn_T} {z : kn_Z} {B c n i : Nat} {Q : kn_Q} (hV : kr_V z) (W : kr_Ws σ B) (hB : B + 2000 < 16777216) (hi : i + 5 ≤ X.1) (hX : X.1 < 2 ^ 31) (k : ∀ (σ9 : kn_S) (τ9 : kn_T), kr_Ws σ9 (B + 1000) → kn_Go X ML_law 1775 [(5, .int (nI i)), (4, .ref 134), (3, .ref 133), (2, .ref 128), (1, .ref 0), (0, .retAddr 0)] [] σ9 τ9 z c n Q) : kn_Go X ML_law 975 [(5, .int (nI i)), (4, .ref 134), (3, .ref 133), (2, .ref 128), (1, .ref 0), (0, .retAddr 0)] [] σ τ z (c + 2) (n + 12) Q := by
  have hin : ∀ j : Nat, j < 5 → vp_in (nI i + nI j) X.1 := fun j hj => by rw [nI_add]; exact vp_in_nI (by omega) hX
  refine k_aload_n 1 dL_law_975 rfl rfl ?_
  refine k_aload_nR 0 dL_law_976 rfl rfl ?_
  refine k_iload dL_law_977 rfl ?_
  refine k_iconst (1) dL_law_979 (by decide) ?_
  refine k_iadd dL_law_980 ?_
  refine k_roload dL_law_981 (by decide) (hin 1 (by decide)) ?_
  refine k_aload_n 3 dL_law_982 rfl rfl ?_
  refine k_invSH (As := [_, _, _]) dL_law_983 mm_L_status wL_L_140 ⟨by decide, by decide⟩ rfl rfl (Nat.le_of_ble_eq_true rfl) (c1 := 2) (n1 := 12) (by omega) (by omega) (cs_status _ hV W  _ (fun κ v σ1 τ1 h1 hm => ⟨rfl, ?_⟩))
  show kn_Go X ML_law 986 _ _ σ1 τ1 z (c + 2 - 2) (n + 12 - 12) Q; rw [Nat.add_sub_cancel, Nat.add_sub_cancel]
  refine k_istore (lv' := [(6, _), (5, _), (4, _), (3, _), (2, _), (1, _), (0, _)]) dL_law_986 (by decide) rfl ?_
  refine k_aload_n 2 dL_law_988 rfl rfl ?_
  refine k_aload_nR 0 dL_law_989 rfl rfl ?_
  refine k_iload dL_law_990 rfl ?_
  refine k_iconst (1) dL_law_992 (by decide) ?_
  refine k_iadd dL_law_993 ?_
  refine k_roload dL_law_994 (by decide) (hin 1 (by decide)) ?_
  refine k_invV (As := [_]) dL_law_995 mm_X7_status wL_L_142 ⟨by decide, by decide⟩ hV.2.1.1.1 hV.2.1.1.2 rfl rfl (Nat.le_of_ble_eq_true rfl) (Nat.zero_le _) (Nat.zero_le _) (hm _ (fun b σ2 g1 g2 g3 => ⟨rfl, ?_⟩))
  refine k_istore (lv' := [(7, _), (6, _), (5, _), (4, _), (3, _), (2, _), (1, _), (0, _)]) dL_law_998 (by decide) rfl ?_
  refine k_aload_n 2 dL_law_1000 rfl rfl ?_
  refine k_invV (As := []) dL_law_1001 mm_X7_thrown wL_L_93 ⟨by decide, by decide⟩ hV.2.1.1.1 hV.2.1.1.2 rfl rfl (Nat.le_of_ble_eq_true rfl) (Nat.zero_le _) (Nat.zero_le _) (m_X7_thrown hV.2.1 ⟨rfl, ?_⟩)
  refine k_iload dL_law_1004 rfl ?_
  rw [g1]
  refine k_icmpeq 1011 dL_law_1006 (by decide) (fun h1006 => ?_) (fun h1006 => ?_)
  · refine k_iload dL_law_1011 rfl ?_
    refine k_ifne 1028 dL_law_1013 (by decide) (fun h1013 => ?_) (fun h1013 => ?_)
    · refine k_goto 1775 dL_law_1028 (by decide) ?_
      refine k_re [5, 4, 3, 2, 1, 0] (lv' := [(5, _), (4, _), (3, _), (2, _), (1, _), (0, _)]) rfl ?_
      exact k _ _ g3
    · refine k_aload_n 3 dL_law_1016 rfl rfl ?_
      refine k_iconst (0) dL_law_1017 (by decide) ?_
      refine k_laload dL_law_1018 hV.2.2.1.1 hV.2.2.1.2 (vp_in_nI (n := 0) (by decide) (by decide)) ?_
      refine k_iload dL_law_1019 rfl ?_
      refine k_i2l dL_law_1021 ?_
      refine k_lcmp dL_law_1022 ?_
      rw [g2 h1013, show τ1 133 (Int32.toNatClampNeg 0) = v.toInt64 from h1 h1013, kr_lcmp]
      refine k_ifeq 1028 dL_law_1023 (by decide) (fun h1023 => ?_) (fun h1023 => ?_)
      · refine k_goto 1775 dL_law_1028 (by decide) ?_
        refine k_re [5, 4, 3, 2, 1, 0] (lv' := [(5, _), (4, _), (3, _), (2, _), (1, _), (0, _)]) rfl ?_
        exact k _ _ g3
      · exact absurd rfl h1023
  · exact absurd rfl h1006

set_option maxRecDepth 100000 in
set_option maxHeartbeats 4000000 in
theorem c_unfairness {X : kn_X} {σ : kn_S} {τ : kn_T} {z : kn_Z} {B c n i : Nat} {Q : kn_Q} (hV : kr_V z) (W : kr_Ws σ B) (hB : B + 2000 < 16777216) (hi : i + 5 ≤ X.1) (hX : X.1 < 2 ^ 31) (k : ∀ (σ9 : kn_S) (τ9 : kn_T), kr_Ws σ9 (B + 1000) → kn_Go X ML_law 1775 [(5, .int (nI i)), (4, .ref 134), (3, .ref 133), (2, .ref 128), (1, .ref 0), (0, .retAddr 0)] [] σ9 τ9 z c n Q) : kn_Go X ML_law 1031 [(5, .int (nI i)), (4, .ref 134), (3, .ref 133), (2, .ref 128), (1, .ref 0), (0, .retAddr 0)] [] σ τ z (c + 2) (n + 12) Q := by
  have hin : ∀ j : Nat, j < 5 → vp_in (nI i + nI j) X.1 := fun j hj => by rw [nI_add]; exact vp_in_nI (by omega) hX
  refine k_aload_n 1 dL_law_1031 rfl rfl ?_
  refine k_invV (As := []) dL_law_1032 mm_X6_unfairness wL_L_143 ⟨by decide, by decide⟩ hV.1.1.1 hV.1.1.2 rfl rfl (Nat.le_of_ble_eq_true rfl) (Nat.zero_le _) (Nat.zero_le _) (cn_unfairness hV W  _ (fun v σ1 hm => ⟨rfl, ?_⟩))
  refine k_aload_n 2 dL_law_1035 rfl rfl ?_
  refine k_invV (As := []) dL_law_1036 mm_X7_unfairness wL_L_146 ⟨by decide, by decide⟩ hV.2.1.1.1 hV.2.1.1.2 rfl rfl (Nat.le_of_ble_eq_true rfl) (Nat.zero_le _) (Nat.zero_le _) (hm _ (fun σ2 g3 => ⟨rfl, ?_⟩))
  refine k_icmpeq 1775 dL_law_1039 (by decide) (fun h1039 => ?_) (fun h1039 => ?_)
  · exact k_room (Nat.le_add_right _ _) (Nat.le_add_right _ _) (k _ _ g3)
  · exact absurd rfl h1039

set_option maxRecDepth 100000 in
set_option maxHeartbeats 4000000 in
theorem c_rateBits {X : kn_X} {σ : kn_S} {τ : kn_T} {z : kn_Z} {B c n i : Nat} {Q : kn_Q} (hV : kr_V z) (W : kr_Ws σ B) (hB : B + 2000 < 16777216) (hi : i + 5 ≤ X.1) (hX : X.1 < 2 ^ 31) (k : ∀ (σ9 : kn_S) (τ9 : kn_T), kr_Ws σ9 (B + 1000) → kn_Go X ML_law 1775 [(5, .int (nI i)), (4, .ref 134), (3, .ref 133), (2, .ref 128), (1, .ref 0), (0, .retAddr 0)] [] σ9 τ9 z c n Q) : kn_Go X ML_law 1044 [(5, .int (nI i)), (4, .ref 134), (3, .ref 133), (2, .ref 128), (1, .ref 0), (0, .retAddr 0)] [] σ τ z (c + 2) (n + 12) Q := by
  have hin : ∀ j : Nat, j < 5 → vp_in (nI i + nI j) X.1 := fun j hj => by rw [nI_add]; exact vp_in_nI (by omega) hX
  refine k_aload_n 1 dL_law_1044 rfl rfl ?_
  refine k_invV (As := []) dL_law_1045 mm_X6_rateBits wL_L_147 ⟨by decide, by decide⟩ hV.1.1.1 hV.1.1.2 rfl rfl (Nat.le_of_ble_eq_true rfl) (Nat.zero_le _) (Nat.zero_le _) (cn_rateBits hV W (by omega) _ (fun v σ1 hm => ⟨rfl, ?_⟩))
  refine k_aload_n 2 dL_law_1048 rfl rfl ?_
  refine k_invV (As := []) dL_law_1049 mm_X7_rateBits wL_L_150 ⟨by decide, by decide⟩ hV.2.1.1.1 hV.2.1.1.2 rfl rfl (Nat.le_of_ble_eq_true rfl) (Nat.zero_le _) (Nat.zero_le _) (hm _ (fun σ2 g3 => ⟨rfl, ?_⟩))
  refine k_icmpeq 1775 dL_law_1052 (by decide) (fun h1052 => ?_) (fun h1052 => ?_)
  · exact k_room (Nat.le_add_right _ _) (Nat.le_add_right _ _) (k _ _ g3)
  · exact absurd rfl h1052

set_option maxRecDepth 100000 in
set_option maxHeartbeats 4000000 in
theorem c_octane {X : kn_X} {σ : kn_S} {τ : kn_T} {z : kn_Z} {B c n i : Nat} {Q : kn_Q} (hV : kr_V z) (W : kr_Ws σ B) (hB : B + 2000 < 16777216) (hi : i + 5 ≤ X.1) (hX : X.1 < 2 ^ 31) (k : ∀ (σ9 : kn_S) (τ9 : kn_T), kr_Ws σ9 (B + 1000) → kn_Go X ML_law 1775 [(5, .int (nI i)), (4, .ref 134), (3, .ref 133), (2, .ref 128), (1, .ref 0), (0, .retAddr 0)] [] σ9 τ9 z c n Q) : kn_Go X ML_law 1057 [(5, .int (nI i)), (4, .ref 134), (3, .ref 133), (2, .ref 128), (1, .ref 0), (0, .retAddr 0)] [] σ τ z (c + 2) (n + 12) Q := by
  have hin : ∀ j : Nat, j < 5 → vp_in (nI i + nI j) X.1 := fun j hj => by rw [nI_add]; exact vp_in_nI (by omega) hX
  refine k_aload_n 1 dL_law_1057 rfl rfl ?_
  refine k_aload_nR 0 dL_law_1058 rfl rfl ?_
  refine k_iload dL_law_1059 rfl ?_
  refine k_iconst (1) dL_law_1061 (by decide) ?_
  refine k_iadd dL_law_1062 ?_
  refine k_roload dL_law_1063 (by decide) (hin 1 (by decide)) ?_
  refine k_aload dL_law_1064 rfl ?_
  refine k_invSH (As := [_, _, _]) dL_law_1066 mm_L_octane wL_L_151 ⟨by decide, by decide⟩ rfl rfl (Nat.le_of_ble_eq_true rfl) (c1 := 2) (n1 := 12) (by omega) (by omega) (cd_octane _ hV W  _ (fun κ v σ1 τ1 h1 hm => ⟨rfl, ?_⟩))
  show kn_Go X ML_law 1069 _ _ σ1 τ1 z (c + 2 - 2) (n + 12 - 12) Q; rw [Nat.add_sub_cancel, Nat.add_sub_cancel]
  refine k_istore (lv' := [(6, _), (5, _), (4, _), (3, _), (2, _), (1, _), (0, _)]) dL_law_1069 (by decide) rfl ?_
  refine k_aload_n 2 dL_law_1071 rfl rfl ?_
  refine k_aload_nR 0 dL_law_1072 rfl rfl ?_
  refine k_iload dL_law_1073 rfl ?_
  refine k_iconst (1) dL_law_1075 (by decide) ?_
  refine k_iadd dL_law_1076 ?_
  refine k_roload dL_law_1077 (by decide) (hin 1 (by decide)) ?_
  refine k_invV (As := [_]) dL_law_1078 mm_X7_octane wL_L_154 ⟨by decide, by decide⟩ hV.2.1.1.1 hV.2.1.1.2 rfl rfl (Nat.le_of_ble_eq_true rfl) (Nat.zero_le _) (Nat.zero_le _) (hm _ (fun b σ2 g1 g2 g3 => ⟨rfl, ?_⟩))
  refine k_dstore (lv' := [(7, _), (6, _), (5, _), (4, _), (3, _), (2, _), (1, _), (0, _)]) dL_law_1081 (by decide) rfl ?_
  refine k_aload_n 2 dL_law_1083 rfl rfl ?_
  refine k_invV (As := []) dL_law_1084 mm_X7_thrown wL_L_93 ⟨by decide, by decide⟩ hV.2.1.1.1 hV.2.1.1.2 rfl rfl (Nat.le_of_ble_eq_true rfl) (Nat.zero_le _) (Nat.zero_le _) (m_X7_thrown hV.2.1 ⟨rfl, ?_⟩)
  refine k_iload dL_law_1087 rfl ?_
  rw [g1]
  refine k_icmpeq 1094 dL_law_1089 (by decide) (fun h1089 => ?_) (fun h1089 => ?_)
  · refine k_iload dL_law_1094 rfl ?_
    refine k_ifne 1131 dL_law_1096 (by decide) (fun h1096 => ?_) (fun h1096 => ?_)
    · refine k_goto 1775 dL_law_1131 (by decide) ?_
      refine k_re [5, 4, 3, 2, 1, 0] (lv' := [(5, _), (4, _), (3, _), (2, _), (1, _), (0, _)]) rfl ?_
      exact k _ _ g3
    · refine k_aload dL_law_1099 rfl ?_
      refine k_iconst (0) dL_law_1101 (by decide) ?_
      refine k_daload dL_law_1102 hV.2.2.2.1 hV.2.2.2.2 (vp_in_nI (n := 0) (by decide) (by decide)) ?_
      refine k_dload dL_law_1103 rfl ?_
      refine k_dcmp dL_law_1105 ?_
      rw [(g2 h1096).1, show (τ1 134 (Int32.toNatClampNeg 0)).toUInt64 = v from by rw [show τ1 134 (Int32.toNatClampNeg 0) = v.toInt64 from h1 h1096]; rfl, (g2 h1096).2]
      refine k_ifeq 1131 dL_law_1106 (by decide) (fun h1106 => ?_) (fun h1106 => ?_)
      · refine k_goto 1775 dL_law_1131 (by decide) ?_
        refine k_re [5, 4, 3, 2, 1, 0] (lv' := [(5, _), (4, _), (3, _), (2, _), (1, _), (0, _)]) rfl ?_
        exact k _ _ g3
      · exact absurd rfl h1106
  · exact absurd rfl h1089

