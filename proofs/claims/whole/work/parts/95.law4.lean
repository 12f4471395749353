/-! ===== the law's cases, on ===== -/
section LCASE
variable {Γ : Ct} {P : Pq} {nh i : Int} {ad : Ob → Nat} {μc μm : Me} {cs sl b n : Nat} {xs : Nat → Int32}

theorem law_18 (F : Fx Γ cL_law "GatesBentLaw" 4 (some .boolean) P 2000 600000 7302250) (hS : Scr Γ b n xs) (hi : 0 ≤ i ∧ i + 6 ≤ n ∧ n ≤ 3072) (hcs : cs ≤ 500000) (hsl : sl ≤ 7000000) (hI : INV μc μm nh) (kk : LN0 Γ nh i ad cs sl b) : XX Γ 4 (VL nh) ad (vl ad (mx μc μm)) cs sl 815 [(0, .ref b), (1, .ref (ad (0, 0, 0))), (2, .ref (ad (30, 0, 0))), (3, .int (I i))] [] := by
  obtain ⟨hc, im, tl, T, K, tx, sT, ln, it, Hm, Lb, hC, hM, hP⟩ := hI
  have hR0 := hC.1
  have hTI := hP.1.1
  have hd := hP.1.2.1
  have h78 := hTI.2.2.2.2.1.1
  have hH := hC.2.2.2.2.2.2.2.2 (T 78) h78 hP.1.2.2
  have hE : MEn μm T (Hm (T 78)) := ⟨hM.1, hM.2.2.2.2.2.2.2.2.2 (T 78) h78 hP.1.2.2, hM.2.2.2.2.2.2.2.1⟩
  have hSB := hP.2.2.2.2.2.2.2 (T 78)
  have hMA := hM.2.2.2.2.2.2.2.2.1
  have hX1 := i32_rg (xs (i + 1).toNat)
  have hX2 := i32_rg (xs (i + 2).toNat)
  refine x_aload_n (i := 1) (pc := 815) F dL_law_815 rfl rfl ?_
  refine x_aload_n (i := 0) (pc := 816) F dL_law_816 rfl rfl ?_
  refine x_iload_n (i := 3) (pc := 817) F dL_law_817 rfl rfl ?_
  refine x_iconst (pc := 818) F dL_law_818 ?_
  refine x_iadd (pc := 819) F dL_law_819 ?_
  refine x_sld (pc := 820) F hS dL_law_820 (by omega) ?_
  refine x_aload_n (i := 0) (pc := 821) F dL_law_821 rfl rfl ?_
  refine x_iload_n (i := 3) (pc := 822) F dL_law_822 rfl rfl ?_
  refine x_iconst (pc := 823) F dL_law_823 ?_
  refine x_iadd (pc := 824) F dL_law_824 ?_
  refine x_sld (pc := 825) F hS dL_law_825 (by omega) ?_
  refine lc_Cl (As := [.int (I ((xs (i + 1).toNat).toInt)), .int (I ((xs (i + 2).toNat).toInt))]) (pc := 826) F dL_law_826 lk_L_92 rfl rfl rfl (by omega) (by omega) (by omega) (c_X7_mean ((xs (i + 1).toNat).toInt) ((xs (i + 2).toNat).toInt) hX1 hX2 hR0 hTI hH hd) ?_
  rintro _ μ1 ⟨rfl, c2⟩
  refine x_aload_n (i := 2) (pc := 829) F dL_law_829 rfl rfl ?_
  refine x_aload_n (i := 0) (pc := 830) F dL_law_830 rfl rfl ?_
  refine x_iload_n (i := 3) (pc := 831) F dL_law_831 rfl rfl ?_
  refine x_iconst (pc := 832) F dL_law_832 ?_
  refine x_iadd (pc := 833) F dL_law_833 ?_
  refine x_sld (pc := 834) F hS dL_law_834 (by omega) ?_
  refine x_aload_n (i := 0) (pc := 835) F dL_law_835 rfl rfl ?_
  refine x_iload_n (i := 3) (pc := 836) F dL_law_836 rfl rfl ?_
  refine x_iconst (pc := 837) F dL_law_837 ?_
  refine x_iadd (pc := 838) F dL_law_838 ?_
  refine x_sld (pc := 839) F hS dL_law_839 (by omega) ?_
  refine lc_Ml (As := [.int (I ((xs (i + 1).toNat).toInt)), .int (I ((xs (i + 2).toNat).toInt))]) (pc := 840) F dL_law_840 lk_L_96 rfl rfl rfl (by omega) (by omega) (by omega) (c_X8_mean hE hTI hSB hd hX1 hX2) ?_
  rintro _ μ2 ⟨rfl, m1, m2⟩
  refine x_lcmp_same (pc := 843) F dL_law_843 ?_
  refine x_if_eq (tgt := 1345) (pc := 844) F dL_law_844 rfl (by omega) (fun _ => ?_) (fun hq => absurd rfl hq)
  exact kk _ _ ⟨_, _, _, _, _, _, _, _, _, _, _, hC.sc c2, hM.fx m2 m1, hP⟩
theorem law_19 (F : Fx Γ cL_law "GatesBentLaw" 4 (some .boolean) P 2000 600000 7302250) (hS : Scr Γ b n xs) (hi : 0 ≤ i ∧ i + 6 ≤ n ∧ n ≤ 3072) (hcs : cs ≤ 500000) (hsl : sl ≤ 7000000) (hI : INV μc μm nh) (kk : LN0 Γ nh i ad cs sl b) : XX Γ 4 (VL nh) ad (vl ad (mx μc μm)) cs sl 849 [(0, .ref b), (1, .ref (ad (0, 0, 0))), (2, .ref (ad (30, 0, 0))), (3, .int (I i))] [] := by
  obtain ⟨hc, im, tl, T, K, tx, sT, ln, it, Hm, Lb, hC, hM, hP⟩ := hI
  have hR0 := hC.1
  have hTI := hP.1.1
  have hd := hP.1.2.1
  have h78 := hTI.2.2.2.2.1.1
  have hH := hC.2.2.2.2.2.2.2.2 (T 78) h78 hP.1.2.2
  have hE : MEn μm T (Hm (T 78)) := ⟨hM.1, hM.2.2.2.2.2.2.2.2.2 (T 78) h78 hP.1.2.2, hM.2.2.2.2.2.2.2.1⟩
  have hSB := hP.2.2.2.2.2.2.2 (T 78)
  have hMA := hM.2.2.2.2.2.2.2.2.1
  have hX1 := i32_rg (xs (i + 1).toNat)
  have hX2 := i32_rg (xs (i + 2).toNat)
  refine x_aload_n (i := 1) (pc := 849) F dL_law_849 rfl rfl ?_
  refine x_aload_n (i := 0) (pc := 850) F dL_law_850 rfl rfl ?_
  refine x_iload_n (i := 3) (pc := 851) F dL_law_851 rfl rfl ?_
  refine x_iconst (pc := 852) F dL_law_852 ?_
  refine x_iadd (pc := 853) F dL_law_853 ?_
  refine x_sld (pc := 854) F hS dL_law_854 (by omega) ?_
  refine x_aload_n (i := 0) (pc := 855) F dL_law_855 rfl rfl ?_
  refine x_iload_n (i := 3) (pc := 856) F dL_law_856 rfl rfl ?_
  refine x_iconst (pc := 857) F dL_law_857 ?_
  refine x_iadd (pc := 858) F dL_law_858 ?_
  refine x_sld (pc := 859) F hS dL_law_859 (by omega) ?_
  refine lc_Ci (As := [.int (I ((xs (i + 1).toNat).toInt)), .int (I ((xs (i + 2).toNat).toInt))]) (pc := 860) F dL_law_860 lk_L_97 rfl rfl rfl (by omega) (by omega) (by omega) (c_X7_plan ((xs (i + 1).toNat).toInt) ((xs (i + 2).toNat).toInt) hX1 hX2 hR0 hTI) ?_
  rintro _ μ1 ⟨rfl, c1, c2⟩
  refine x_aload_n (i := 2) (pc := 863) F dL_law_863 rfl rfl ?_
  refine x_aload_n (i := 0) (pc := 864) F dL_law_864 rfl rfl ?_
  refine x_iload_n (i := 3) (pc := 865) F dL_law_865 rfl rfl ?_
  refine x_iconst (pc := 866) F dL_law_866 ?_
  refine x_iadd (pc := 867) F dL_law_867 ?_
  refine x_sld (pc := 868) F hS dL_law_868 (by omega) ?_
  refine x_aload_n (i := 0) (pc := 869) F dL_law_869 rfl rfl ?_
  refine x_iload_n (i := 3) (pc := 870) F dL_law_870 rfl rfl ?_
  refine x_iconst (pc := 871) F dL_law_871 ?_
  refine x_iadd (pc := 872) F dL_law_872 ?_
  refine x_sld (pc := 873) F hS dL_law_873 (by omega) ?_
  refine lc_Mi (As := [.int (I ((xs (i + 1).toNat).toInt)), .int (I ((xs (i + 2).toNat).toInt))]) (pc := 874) F dL_law_874 lk_L_100 rfl rfl rfl (by omega) (by omega) (by omega) (c_X8_plan hM.1 hTI hX1 hX2) ?_
  rintro _ μ2 ⟨rfl, m1, m2⟩
  refine x_icmp_same (tgt := 1345) (pc := 877) F dL_law_877 rfl ?_
  exact kk _ _ ⟨_, _, _, _, _, _, _, _, _, _, _, hC.nw c1 c2, hM.fx m2 m1, hP.up (planT_TI hTI) (by rw [planT_o hTI (by decide)]; exact hd) (planT_o hTI (by decide))⟩
theorem law_20 (F : Fx Γ cL_law "GatesBentLaw" 4 (some .boolean) P 2000 600000 7302250) (hS : Scr Γ b n xs) (hi : 0 ≤ i ∧ i + 6 ≤ n ∧ n ≤ 3072) (hcs : cs ≤ 500000) (hsl : sl ≤ 7000000) (hI : INV μc μm nh) (kk : LN0 Γ nh i ad cs sl b) : XX Γ 4 (VL nh) ad (vl ad (mx μc μm)) cs sl 882 [(0, .ref b), (1, .ref (ad (0, 0, 0))), (2, .ref (ad (30, 0, 0))), (3, .int (I i))] [] := by
  obtain ⟨hc, im, tl, T, K, tx, sT, ln, it, Hm, Lb, hC, hM, hP⟩ := hI
  have hR0 := hC.1
  have hTI := hP.1.1
  have hd := hP.1.2.1
  have h78 := hTI.2.2.2.2.1.1
  have hH := hC.2.2.2.2.2.2.2.2 (T 78) h78 hP.1.2.2
  have hE : MEn μm T (Hm (T 78)) := ⟨hM.1, hM.2.2.2.2.2.2.2.2.2 (T 78) h78 hP.1.2.2, hM.2.2.2.2.2.2.2.1⟩
  have hSB := hP.2.2.2.2.2.2.2 (T 78)
  have hMA := hM.2.2.2.2.2.2.2.2.1
  have hX1 := i32_rg (xs (i + 1).toNat)
  refine x_aload_n (i := 1) (pc := 882) F dL_law_882 rfl rfl ?_
  refine x_aload_n (i := 0) (pc := 883) F dL_law_883 rfl rfl ?_
  refine x_iload_n (i := 3) (pc := 884) F dL_law_884 rfl rfl ?_
  refine x_iconst (pc := 885) F dL_law_885 ?_
  refine x_iadd (pc := 886) F dL_law_886 ?_
  refine x_sld (pc := 887) F hS dL_law_887 (by omega) ?_
  refine lc_Ci (As := [.int (I ((xs (i + 1).toNat).toInt))]) (pc := 888) F dL_law_888 lk_L_101 rfl rfl rfl (by omega) (by omega) (by omega) (c_X7_ends ((xs (i + 1).toNat).toInt) hX1 hR0 hTI hH hd) ?_
  rintro _ μ1 ⟨rfl, c2⟩
  refine x_aload_n (i := 2) (pc := 891) F dL_law_891 rfl rfl ?_
  refine x_aload_n (i := 0) (pc := 892) F dL_law_892 rfl rfl ?_
  refine x_iload_n (i := 3) (pc := 893) F dL_law_893 rfl rfl ?_
  refine x_iconst (pc := 894) F dL_law_894 ?_
  refine x_iadd (pc := 895) F dL_law_895 ?_
  refine x_sld (pc := 896) F hS dL_law_896 (by omega) ?_
  refine lc_Mi (As := [.int (I ((xs (i + 1).toNat).toInt))]) (pc := 897) F dL_law_897 lk_L_104 rfl rfl rfl (by omega) (by omega) (by omega) (c_X8_ends hE hTI hSB hd hX1) ?_
  rintro _ μ2 ⟨rfl, m1, m2⟩
  refine x_icmp_same (tgt := 1345) (pc := 900) F dL_law_900 rfl ?_
  exact kk _ _ ⟨_, _, _, _, _, _, _, _, _, _, _, hC.sc c2, hM.fx m2 m1, hP⟩
theorem law_21 (F : Fx Γ cL_law "GatesBentLaw" 4 (some .boolean) P 2000 600000 7302250) (hS : Scr Γ b n xs) (hi : 0 ≤ i ∧ i + 6 ≤ n ∧ n ≤ 3072) (hcs : cs ≤ 500000) (hsl : sl ≤ 7000000) (hI : INV μc μm nh) (kk : LN0 Γ nh i ad cs sl b) : XX Γ 4 (VL nh) ad (vl ad (mx μc μm)) cs sl 905 [(0, .ref b), (1, .ref (ad (0, 0, 0))), (2, .ref (ad (30, 0, 0))), (3, .int (I i))] [] := by
  obtain ⟨hc, im, tl, T, K, tx, sT, ln, it, Hm, Lb, hC, hM, hP⟩ := hI
  have hR0 := hC.1
  have hTI := hP.1.1
  have hd := hP.1.2.1
  have h78 := hTI.2.2.2.2.1.1
  have hH := hC.2.2.2.2.2.2.2.2 (T 78) h78 hP.1.2.2
  have hE : MEn μm T (Hm (T 78)) := ⟨hM.1, hM.2.2.2.2.2.2.2.2.2 (T 78) h78 hP.1.2.2, hM.2.2.2.2.2.2.2.1⟩
  have hSB := hP.2.2.2.2.2.2.2 (T 78)
  have hMA := hM.2.2.2.2.2.2.2.2.1
  have hX1 := i32_rg (xs (i + 1).toNat)
  have hX2 := i32_rg (xs (i + 2).toNat)
  refine x_aload_n (i := 1) (pc := 905) F dL_law_905 rfl rfl ?_
  refine x_aload_n (i := 0) (pc := 906) F dL_law_906 rfl rfl ?_
  refine x_iload_n (i := 3) (pc := 907) F dL_law_907 rfl rfl ?_
  refine x_iconst (pc := 908) F dL_law_908 ?_
  refine x_iadd (pc := 909) F dL_law_909 ?_
  refine x_sld (pc := 910) F hS dL_law_910 (by omega) ?_
  refine x_aload_n (i := 0) (pc := 911) F dL_law_911 rfl rfl ?_
  refine x_iload_n (i := 3) (pc := 912) F dL_law_912 rfl rfl ?_
  refine x_iconst (pc := 913) F dL_law_913 ?_
  refine x_iadd (pc := 914) F dL_law_914 ?_
  refine x_sld (pc := 915) F hS dL_law_915 (by omega) ?_
  refine lc_Ci (As := [.int (I ((xs (i + 1).toNat).toInt)), .int (I ((xs (i + 2).toNat).toInt))]) (pc := 916) F dL_law_916 lk_L_105 rfl rfl rfl (by omega) (by omega) (by omega) (c_X7_book ((xs (i + 1).toNat).toInt) ((xs (i + 2).toNat).toInt) hX1 hX2 hR0 hTI) ?_
  rintro _ μ1 ⟨rfl, c1, c2⟩
  refine x_aload_n (i := 2) (pc := 919) F dL_law_919 rfl rfl ?_
  refine x_aload_n (i := 0) (pc := 920) F dL_law_920 rfl rfl ?_
  refine x_iload_n (i := 3) (pc := 921) F dL_law_921 rfl rfl ?_
  refine x_iconst (pc := 922) F dL_law_922 ?_
  refine x_iadd (pc := 923) F dL_law_923 ?_
  refine x_sld (pc := 924) F hS dL_law_924 (by omega) ?_
  refine x_aload_n (i := 0) (pc := 925) F dL_law_925 rfl rfl ?_
  refine x_iload_n (i := 3) (pc := 926) F dL_law_926 rfl rfl ?_
  refine x_iconst (pc := 927) F dL_law_927 ?_
  refine x_iadd (pc := 928) F dL_law_928 ?_
  refine x_sld (pc := 929) F hS dL_law_929 (by omega) ?_
  refine lc_Mi (As := [.int (I ((xs (i + 1).toNat).toInt)), .int (I ((xs (i + 2).toNat).toInt))]) (pc := 930) F dL_law_930 lk_L_108 rfl rfl rfl (by omega) (by omega) (by omega) (c_X8_book hM.1 hTI hX1 hX2) ?_
  rintro _ μ2 ⟨rfl, m1, m2⟩
  refine x_icmp_same (tgt := 1345) (pc := 933) F dL_law_933 rfl ?_
  exact kk _ _ ⟨_, _, _, _, _, _, _, _, _, _, _, hC.nw c1 c2, hM.fx m2 m1, hP.up (bookT_TI hTI) (by rw [bookT_o hTI (by decide)]; exact hd) (bookT_o hTI (by decide))⟩
theorem law_22 (F : Fx Γ cL_law "GatesBentLaw" 4 (some .boolean) P 2000 600000 7302250) (hS : Scr Γ b n xs) (hi : 0 ≤ i ∧ i + 6 ≤ n ∧ n ≤ 3072) (hcs : cs ≤ 500000) (hsl : sl ≤ 7000000) (hI : INV μc μm nh) (kk : LN0 Γ nh i ad cs sl b) : XX Γ 4 (VL nh) ad (vl ad (mx μc μm)) cs sl 938 [(0, .ref b), (1, .ref (ad (0, 0, 0))), (2, .ref (ad (30, 0, 0))), (3, .int (I i))] [] := by
  obtain ⟨hc, im, tl, T, K, tx, sT, ln, it, Hm, Lb, hC, hM, hP⟩ := hI
  have hR0 := hC.1
  have hTI := hP.1.1
  have hd := hP.1.2.1
  have h78 := hTI.2.2.2.2.1.1
  have hH := hC.2.2.2.2.2.2.2.2 (T 78) h78 hP.1.2.2
  have hE : MEn μm T (Hm (T 78)) := ⟨hM.1, hM.2.2.2.2.2.2.2.2.2 (T 78) h78 hP.1.2.2, hM.2.2.2.2.2.2.2.1⟩
  have hSB := hP.2.2.2.2.2.2.2 (T 78)
  have hMA := hM.2.2.2.2.2.2.2.2.1
  refine x_aload_n (i := 1) (pc := 938) F dL_law_938 rfl rfl ?_
  refine lc_Ci (As := []) (pc := 939) F dL_law_939 lk_L_109 rfl rfl rfl (by omega) (by omega) (by omega) (c_X7_looked hR0 hTI hd) ?_
  rintro _ μ1 ⟨rfl, rfl⟩
  refine x_aload_n (i := 2) (pc := 942) F dL_law_942 rfl rfl ?_
  refine lc_Mi (As := []) (pc := 943) F dL_law_943 lk_L_112 rfl rfl rfl (by omega) (by omega) (by omega) (c_X8_looked hM.1 hTI hd) ?_
  rintro _ μ2 ⟨rfl, rfl⟩
  refine x_icmp_same (tgt := 1345) (pc := 946) F dL_law_946 rfl ?_
  exact kk _ _ ⟨_, _, _, _, _, _, _, _, _, _, _, hC, hM, hP⟩
theorem law_23 (F : Fx Γ cL_law "GatesBentLaw" 4 (some .boolean) P 2000 600000 7302250) (hS : Scr Γ b n xs) (hi : 0 ≤ i ∧ i + 6 ≤ n ∧ n ≤ 3072) (hcs : cs ≤ 500000) (hsl : sl ≤ 7000000) (hI : INV μc μm nh) (kk : LN0 Γ nh i ad cs sl b) : XX Γ 4 (VL nh) ad (vl ad (mx μc μm)) cs sl 951 [(0, .ref b), (1, .ref (ad (0, 0, 0))), (2, .ref (ad (30, 0, 0))), (3, .int (I i))] [] := by
  obtain ⟨hc, im, tl, T, K, tx, sT, ln, it, Hm, Lb, hC, hM, hP⟩ := hI
  have hR0 := hC.1
  have hTI := hP.1.1
  have hd := hP.1.2.1
  have h78 := hTI.2.2.2.2.1.1
  have hH := hC.2.2.2.2.2.2.2.2 (T 78) h78 hP.1.2.2
  have hE : MEn μm T (Hm (T 78)) := ⟨hM.1, hM.2.2.2.2.2.2.2.2.2 (T 78) h78 hP.1.2.2, hM.2.2.2.2.2.2.2.1⟩
  have hSB := hP.2.2.2.2.2.2.2 (T 78)
  have hMA := hM.2.2.2.2.2.2.2.2.1
  have hX1 := i32_rg (xs (i + 1).toNat)
  have hX2 := i32_rg (xs (i + 2).toNat)
  refine x_aload_n (i := 1) (pc := 951) F dL_law_951 rfl rfl ?_
  refine x_aload_n (i := 0) (pc := 952) F dL_law_952 rfl rfl ?_
  refine x_iload_n (i := 3) (pc := 953) F dL_law_953 rfl rfl ?_
  refine x_iconst (pc := 954) F dL_law_954 ?_
  refine x_iadd (pc := 955) F dL_law_955 ?_
  refine x_sld (pc := 956) F hS dL_law_956 (by omega) ?_
  refine x_aload_n (i := 0) (pc := 957) F dL_law_957 rfl rfl ?_
  refine x_iload_n (i := 3) (pc := 958) F dL_law_958 rfl rfl ?_
  refine x_iconst (pc := 959) F dL_law_959 ?_
  refine x_iadd (pc := 960) F dL_law_960 ?_
  refine x_sld (pc := 961) F hS dL_law_961 (by omega) ?_
  refine lc_Ci (As := [.int (I ((xs (i + 1).toNat).toInt)), .int (I ((xs (i + 2).toNat).toInt))]) (pc := 962) F dL_law_962 lk_L_113 rfl rfl rfl (by omega) (by omega) (by omega) (c_X7_judge ((xs (i + 1).toNat).toInt) ((xs (i + 2).toNat).toInt) hX1 hX2 hR0 hTI hC.2.2.2.2.1 hP.2.2.2.1) ?_
  rintro _ μ1 ⟨rfl, rfl⟩
  refine x_aload_n (i := 2) (pc := 965) F dL_law_965 rfl rfl ?_
  refine x_aload_n (i := 0) (pc := 966) F dL_law_966 rfl rfl ?_
  refine x_iload_n (i := 3) (pc := 967) F dL_law_967 rfl rfl ?_
  refine x_iconst (pc := 968) F dL_law_968 ?_
  refine x_iadd (pc := 969) F dL_law_969 ?_
  refine x_sld (pc := 970) F hS dL_law_970 (by omega) ?_
  refine x_aload_n (i := 0) (pc := 971) F dL_law_971 rfl rfl ?_
  refine x_iload_n (i := 3) (pc := 972) F dL_law_972 rfl rfl ?_
  refine x_iconst (pc := 973) F dL_law_973 ?_
  refine x_iadd (pc := 974) F dL_law_974 ?_
  refine x_sld (pc := 975) F hS dL_law_975 (by omega) ?_
  refine lc_Mi (As := [.int (I ((xs (i + 1).toNat).toInt)), .int (I ((xs (i + 2).toNat).toInt))]) (pc := 976) F dL_law_976 lk_L_116 rfl rfl rfl (by omega) (by omega) (by omega) (c_X8_judge ((xs (i + 1).toNat).toInt) ((xs (i + 2).toNat).toInt) hX1 hX2 hM.1 hTI hM.2.2.2.2.1 hP.2.2.2.1) ?_
  rintro _ μ2 ⟨rfl, rfl⟩
  refine x_icmp_same (tgt := 1345) (pc := 979) F dL_law_979 rfl ?_
  exact kk _ _ ⟨_, _, _, _, _, _, _, _, _, _, _, hC, hM, hP⟩
theorem law_24 (F : Fx Γ cL_law "GatesBentLaw" 4 (some .boolean) P 2000 600000 7302250) (hS : Scr Γ b n xs) (hi : 0 ≤ i ∧ i + 6 ≤ n ∧ n ≤ 3072) (hcs : cs ≤ 500000) (hsl : sl ≤ 7000000) (hI : INV μc μm nh) (kk : LN0 Γ nh i ad cs sl b) : XX Γ 4 (VL nh) ad (vl ad (mx μc μm)) cs sl 984 [(0, .ref b), (1, .ref (ad (0, 0, 0))), (2, .ref (ad (30, 0, 0))), (3, .int (I i))] [] := by
  obtain ⟨hc, im, tl, T, K, tx, sT, ln, it, Hm, Lb, hC, hM, hP⟩ := hI
  have hR0 := hC.1
  have hTI := hP.1.1
  have hd := hP.1.2.1
  have h78 := hTI.2.2.2.2.1.1
  have hH := hC.2.2.2.2.2.2.2.2 (T 78) h78 hP.1.2.2
  have hE : MEn μm T (Hm (T 78)) := ⟨hM.1, hM.2.2.2.2.2.2.2.2.2 (T 78) h78 hP.1.2.2, hM.2.2.2.2.2.2.2.1⟩
  have hSB := hP.2.2.2.2.2.2.2 (T 78)
  have hMA := hM.2.2.2.2.2.2.2.2.1
  refine x_aload_n (i := 1) (pc := 984) F dL_law_984 rfl rfl ?_
  refine lc_Ci (As := []) (pc := 985) F dL_law_985 lk_L_117 rfl rfl rfl (by omega) (by omega) (by omega) (c_X7_image hR0 hTI) ?_
  rintro _ μ1 ⟨rfl, c1, c2, c3, c4⟩
  refine x_aload_n (i := 2) (pc := 988) F dL_law_988 rfl rfl ?_
  refine lc_Mi (As := []) (pc := 989) F dL_law_989 lk_L_120 rfl rfl rfl (by omega) (by omega) (by omega) (c_X8_image hM.1) ?_
  rintro _ μ2 ⟨rfl, m1, m2, m3, m4⟩
  refine x_icmp_same (tgt := 1345) (pc := 992) F dL_law_992 rfl ?_
  exact kk _ _ ⟨_, _, _, _, _, _, _, _, _, _, _, hC.img c1 c2 c3 c4, hM.img m1 m2 m3 m4, ⟨hP.1, hP.1, Or.inr rfl, hP.2.2.2⟩⟩
theorem law_25 (F : Fx Γ cL_law "GatesBentLaw" 4 (some .boolean) P 2000 600000 7302250) (hS : Scr Γ b n xs) (hi : 0 ≤ i ∧ i + 6 ≤ n ∧ n ≤ 3072) (hcs : cs ≤ 500000) (hsl : sl ≤ 7000000) (hI : INV μc μm nh) (kk : LN0 Γ nh i ad cs sl b) : XX Γ 4 (VL nh) ad (vl ad (mx μc μm)) cs sl 997 [(0, .ref b), (1, .ref (ad (0, 0, 0))), (2, .ref (ad (30, 0, 0))), (3, .int (I i))] [] := by
  obtain ⟨hc, im, tl, T, K, tx, sT, ln, it, Hm, Lb, hC, hM, hP⟩ := hI
  have hR0 := hC.1
  have hTI := hP.1.1
  have hd := hP.1.2.1
  have h78 := hTI.2.2.2.2.1.1
  have hH := hC.2.2.2.2.2.2.2.2 (T 78) h78 hP.1.2.2
  have hE : MEn μm T (Hm (T 78)) := ⟨hM.1, hM.2.2.2.2.2.2.2.2.2 (T 78) h78 hP.1.2.2, hM.2.2.2.2.2.2.2.1⟩
  have hSB := hP.2.2.2.2.2.2.2 (T 78)
  have hMA := hM.2.2.2.2.2.2.2.2.1
  refine x_aload_n (i := 1) (pc := 997) F dL_law_997 rfl rfl ?_
  refine lc_Ci (As := []) (pc := 998) F dL_law_998 lk_L_121 rfl rfl rfl (by omega) (by omega) (by omega) (c_X7_undo (K := K) (by rw [hC.2.1]; exact hP.2.2.1) (fun _ => ⟨hC.2.2.1, hP.2.1.1⟩)) ?_
  intro z1 μ1 hq1
  refine x_aload_n (i := 2) (pc := 1001) F dL_law_1001 rfl rfl ?_
  refine lc_Mi (As := []) (pc := 1002) F dL_law_1002 lk_L_124 rfl rfl rfl (by omega) (by omega) (by omega) (c_X8_undo (K := K) (by rw [hM.2.1]; exact hP.2.2.1) hM.2.2.1 (by have := hP.2.1.1.2.2.1; omega)) ?_
  intro z2 μ2 hq2
  rw [hC.2.1] at hq1
  rw [hM.2.1] at hq2
  rcases hq1 with ⟨g1, rfl, rfl⟩ | ⟨g1, rfl, c1, c2⟩
  · rcases hq2 with ⟨g2, rfl, rfl⟩ | ⟨g2, rfl, m1, m2⟩
    · refine x_icmp_same (tgt := 1345) (pc := 1005) F dL_law_1005 rfl ?_
      exact kk _ _ ⟨_, _, _, _, _, _, _, _, _, _, _, hC, hM, hP⟩
    · omega
  · rcases hq2 with ⟨g2, rfl, rfl⟩ | ⟨g2, rfl, m1, m2⟩
    · omega
    · refine x_icmp_same (tgt := 1345) (pc := 1005) F dL_law_1005 rfl ?_
      exact kk _ _ ⟨_, _, _, _, _, _, _, _, _, _, _, hC.nw c1 c2, hM.und m1 m2, ⟨hP.2.1, hP.2⟩⟩
end LCASE
