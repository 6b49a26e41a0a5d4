theorem dL_law_811 : decode code 811 = .ok (.aload_n 1, 1) := by decide +kernel
theorem dL_law_812 : decode code 812 = .ok (.aload_n 0, 1) := by decide +kernel
theorem dL_law_813 : decode code 813 = .ok (.iload 4, 2) := by decide +kernel
theorem dL_law_815 : decode code 815 = .ok (.iconst 1, 1) := by decide +kernel
theorem dL_law_816 : decode code 816 = .ok (.iadd, 1) := by decide +kernel
theorem dL_law_817 : decode code 817 = .ok (.iaload, 1) := by decide +kernel
theorem dL_law_818 : decode code 818 = .ok (.aload_n 0, 1) := by decide +kernel
theorem dL_law_819 : decode code 819 = .ok (.iload 4, 2) := by decide +kernel
theorem dL_law_821 : decode code 821 = .ok (.iconst 2, 1) := by decide +kernel
theorem dL_law_822 : decode code 822 = .ok (.iadd, 1) := by decide +kernel
theorem dL_law_823 : decode code 823 = .ok (.iaload, 1) := by decide +kernel
theorem dL_law_824 : decode code 824 = .ok (.aload_n 3, 1) := by decide +kernel
theorem dL_law_825 : decode code 825 = .ok (.invokestatic 126, 3) := by decide +kernel
theorem dL_law_828 : decode code 828 = .ok (.istore 5, 2) := by decide +kernel
theorem dL_law_830 : decode code 830 = .ok (.aload_n 2, 1) := by decide +kernel
theorem dL_law_831 : decode code 831 = .ok (.aload_n 0, 1) := by decide +kernel
theorem dL_law_832 : decode code 832 = .ok (.iload 4, 2) := by decide +kernel
theorem dL_law_834 : decode code 834 = .ok (.iconst 1, 1) := by decide +kernel
theorem dL_law_835 : decode code 835 = .ok (.iadd, 1) := by decide +kernel
theorem dL_law_836 : decode code 836 = .ok (.iaload, 1) := by decide +kernel
theorem dL_law_837 : decode code 837 = .ok (.aload_n 0, 1) := by decide +kernel
theorem dL_law_838 : decode code 838 = .ok (.iload 4, 2) := by decide +kernel
theorem dL_law_840 : decode code 840 = .ok (.iconst 2, 1) := by decide +kernel
theorem dL_law_841 : decode code 841 = .ok (.iadd, 1) := by decide +kernel
theorem dL_law_842 : decode code 842 = .ok (.iaload, 1) := by decide +kernel
theorem dL_law_843 : decode code 843 = .ok (.invokevirtual 128, 3) := by decide +kernel
theorem dL_law_846 : decode code 846 = .ok (.istore 6, 2) := by decide +kernel
theorem dL_law_848 : decode code 848 = .ok (.aload_n 2, 1) := by decide +kernel
theorem dL_law_849 : decode code 849 = .ok (.invokevirtual 79, 3) := by decide +kernel
theorem dL_law_852 : decode code 852 = .ok (.iload 5, 2) := by decide +kernel
theorem dL_law_854 : decode code 854 = .ok (.if_icmp .eq 5, 3) := by decide +kernel
theorem dL_law_859 : decode code 859 = .ok (.iload 5, 2) := by decide +kernel
theorem dL_law_861 : decode code 861 = .ok (.ifCond .ne 15, 3) := by decide +kernel
theorem dL_law_864 : decode code 864 = .ok (.aload_n 3, 1) := by decide +kernel
theorem dL_law_865 : decode code 865 = .ok (.iconst 0, 1) := by decide +kernel
theorem dL_law_866 : decode code 866 = .ok (.laload, 1) := by decide +kernel
theorem dL_law_867 : decode code 867 = .ok (.iload 6, 2) := by decide +kernel
theorem dL_law_869 : decode code 869 = .ok (.i2l, 1) := by decide +kernel
theorem dL_law_870 : decode code 870 = .ok (.lcmp, 1) := by decide +kernel
theorem dL_law_871 : decode code 871 = .ok (.ifCond .eq 5, 3) := by decide +kernel
theorem dL_law_876 : decode code 876 = .ok (.goto 393, 3) := by decide +kernel
theorem dL_law_879 : decode code 879 = .ok (.aload_n 1, 1) := by decide +kernel
theorem dL_law_880 : decode code 880 = .ok (.aload_n 0, 1) := by decide +kernel
theorem dL_law_881 : decode code 881 = .ok (.iload 4, 2) := by decide +kernel
theorem dL_law_883 : decode code 883 = .ok (.iconst 1, 1) := by decide +kernel
theorem dL_law_884 : decode code 884 = .ok (.iadd, 1) := by decide +kernel
theorem dL_law_885 : decode code 885 = .ok (.iaload, 1) := by decide +kernel
theorem dL_law_886 : decode code 886 = .ok (.aload_n 3, 1) := by decide +kernel
theorem dL_law_887 : decode code 887 = .ok (.invokestatic 129, 3) := by decide +kernel
theorem dL_law_890 : decode code 890 = .ok (.istore 5, 2) := by decide +kernel
theorem dL_law_892 : decode code 892 = .ok (.aload_n 2, 1) := by decide +kernel
theorem dL_law_893 : decode code 893 = .ok (.aload_n 0, 1) := by decide +kernel
theorem dL_law_894 : decode code 894 = .ok (.iload 4, 2) := by decide +kernel
theorem dL_law_896 : decode code 896 = .ok (.iconst 1, 1) := by decide +kernel
theorem dL_law_897 : decode code 897 = .ok (.iadd, 1) := by decide +kernel
theorem dL_law_898 : decode code 898 = .ok (.iaload, 1) := by decide +kernel
theorem dL_law_899 : decode code 899 = .ok (.invokevirtual 131, 3) := by decide +kernel
theorem dL_law_902 : decode code 902 = .ok (.istore 6, 2) := by decide +kernel
theorem dL_law_904 : decode code 904 = .ok (.aload_n 2, 1) := by decide +kernel
theorem dL_law_905 : decode code 905 = .ok (.invokevirtual 79, 3) := by decide +kernel
theorem dL_law_908 : decode code 908 = .ok (.iload 5, 2) := by decide +kernel
theorem dL_law_910 : decode code 910 = .ok (.if_icmp .eq 5, 3) := by decide +kernel
theorem dL_law_915 : decode code 915 = .ok (.iload 5, 2) := by decide +kernel
theorem dL_law_917 : decode code 917 = .ok (.ifCond .ne 15, 3) := by decide +kernel
theorem dL_law_920 : decode code 920 = .ok (.aload_n 3, 1) := by decide +kernel
theorem dL_law_921 : decode code 921 = .ok (.iconst 0, 1) := by decide +kernel
theorem dL_law_922 : decode code 922 = .ok (.laload, 1) := by decide +kernel
theorem dL_law_923 : decode code 923 = .ok (.iload 6, 2) := by decide +kernel
theorem dL_law_925 : decode code 925 = .ok (.i2l, 1) := by decide +kernel
theorem dL_law_926 : decode code 926 = .ok (.lcmp, 1) := by decide +kernel
theorem dL_law_927 : decode code 927 = .ok (.ifCond .eq 5, 3) := by decide +kernel
theorem dL_law_932 : decode code 932 = .ok (.goto 337, 3) := by decide +kernel
theorem dL_law_935 : decode code 935 = .ok (.aload_n 1, 1) := by decide +kernel
theorem dL_law_936 : decode code 936 = .ok (.aload_n 0, 1) := by decide +kernel
theorem dL_law_937 : decode code 937 = .ok (.iload 4, 2) := by decide +kernel
theorem dL_law_939 : decode code 939 = .ok (.iconst 1, 1) := by decide +kernel
theorem dL_law_940 : decode code 940 = .ok (.iadd, 1) := by decide +kernel
theorem dL_law_941 : decode code 941 = .ok (.iaload, 1) := by decide +kernel
theorem dL_law_942 : decode code 942 = .ok (.aload_n 0, 1) := by decide +kernel
theorem dL_law_943 : decode code 943 = .ok (.iload 4, 2) := by decide +kernel
theorem dL_law_945 : decode code 945 = .ok (.iconst 2, 1) := by decide +kernel
theorem dL_law_946 : decode code 946 = .ok (.iadd, 1) := by decide +kernel
theorem dL_law_947 : decode code 947 = .ok (.iaload, 1) := by decide +kernel
theorem dL_law_948 : decode code 948 = .ok (.aload_n 3, 1) := by decide +kernel
theorem dL_law_949 : decode code 949 = .ok (.invokestatic 132, 3) := by decide +kernel
theorem dL_law_952 : decode code 952 = .ok (.istore 5, 2) := by decide +kernel
theorem dL_law_954 : decode code 954 = .ok (.aload_n 2, 1) := by decide +kernel
theorem dL_law_955 : decode code 955 = .ok (.aload_n 0, 1) := by decide +kernel
theorem dL_law_956 : decode code 956 = .ok (.iload 4, 2) := by decide +kernel
theorem dL_law_958 : decode code 958 = .ok (.iconst 1, 1) := by decide +kernel
theorem dL_law_959 : decode code 959 = .ok (.iadd, 1) := by decide +kernel
theorem dL_law_960 : decode code 960 = .ok (.iaload, 1) := by decide +kernel
theorem dL_law_961 : decode code 961 = .ok (.aload_n 0, 1) := by decide +kernel
theorem dL_law_962 : decode code 962 = .ok (.iload 4, 2) := by decide +kernel
theorem dL_law_964 : decode code 964 = .ok (.iconst 2, 1) := by decide +kernel
theorem dL_law_965 : decode code 965 = .ok (.iadd, 1) := by decide +kernel
theorem dL_law_966 : decode code 966 = .ok (.iaload, 1) := by decide +kernel
theorem dL_law_967 : decode code 967 = .ok (.invokevirtual 134, 3) := by decide +kernel
theorem dL_law_970 : decode code 970 = .ok (.istore 6, 2) := by decide +kernel
theorem dL_law_972 : decode code 972 = .ok (.aload_n 2, 1) := by decide +kernel
theorem dL_law_973 : decode code 973 = .ok (.invokevirtual 79, 3) := by decide +kernel
theorem dL_law_976 : decode code 976 = .ok (.iload 5, 2) := by decide +kernel
theorem dL_law_978 : decode code 978 = .ok (.if_icmp .eq 5, 3) := by decide +kernel
theorem dL_law_983 : decode code 983 = .ok (.iload 5, 2) := by decide +kernel
theorem dL_law_985 : decode code 985 = .ok (.ifCond .ne 15, 3) := by decide +kernel
theorem dL_law_988 : decode code 988 = .ok (.aload_n 3, 1) := by decide +kernel
theorem dL_law_989 : decode code 989 = .ok (.iconst 0, 1) := by decide +kernel
theorem dL_law_990 : decode code 990 = .ok (.laload, 1) := by decide +kernel
theorem dL_law_991 : decode code 991 = .ok (.iload 6, 2) := by decide +kernel
theorem dL_law_993 : decode code 993 = .ok (.i2l, 1) := by decide +kernel
theorem dL_law_994 : decode code 994 = .ok (.lcmp, 1) := by decide +kernel
theorem dL_law_995 : decode code 995 = .ok (.ifCond .eq 5, 3) := by decide +kernel
theorem dL_law_1000 : decode code 1000 = .ok (.goto 269, 3) := by decide +kernel
theorem dL_law_1003 : decode code 1003 = .ok (.aload_n 1, 1) := by decide +kernel
theorem dL_law_1004 : decode code 1004 = .ok (.aload_n 0, 1) := by decide +kernel
theorem dL_law_1005 : decode code 1005 = .ok (.iload 4, 2) := by decide +kernel
theorem dL_law_1007 : decode code 1007 = .ok (.iconst 1, 1) := by decide +kernel
theorem dL_law_1008 : decode code 1008 = .ok (.iadd, 1) := by decide +kernel
theorem dL_law_1009 : decode code 1009 = .ok (.iaload, 1) := by decide +kernel
theorem dL_law_1010 : decode code 1010 = .ok (.aload_n 3, 1) := by decide +kernel
theorem dL_law_1011 : decode code 1011 = .ok (.invokestatic 135, 3) := by decide +kernel
theorem dL_law_1014 : decode code 1014 = .ok (.istore 5, 2) := by decide +kernel
theorem dL_law_1016 : decode code 1016 = .ok (.aload_n 2, 1) := by decide +kernel
theorem dL_law_1017 : decode code 1017 = .ok (.aload_n 0, 1) := by decide +kernel
theorem dL_law_1018 : decode code 1018 = .ok (.iload 4, 2) := by decide +kernel
theorem dL_law_1020 : decode code 1020 = .ok (.iconst 1, 1) := by decide +kernel
theorem dL_law_1021 : decode code 1021 = .ok (.iadd, 1) := by decide +kernel
theorem dL_law_1022 : decode code 1022 = .ok (.iaload, 1) := by decide +kernel
theorem dL_law_1023 : decode code 1023 = .ok (.invokevirtual 137, 3) := by decide +kernel
theorem dL_law_1026 : decode code 1026 = .ok (.istore 6, 2) := by decide +kernel
theorem dL_law_1028 : decode code 1028 = .ok (.aload_n 2, 1) := by decide +kernel
theorem dL_law_1029 : decode code 1029 = .ok (.invokevirtual 79, 3) := by decide +kernel
theorem dL_law_1032 : decode code 1032 = .ok (.iload 5, 2) := by decide +kernel
theorem dL_law_1034 : decode code 1034 = .ok (.if_icmp .eq 5, 3) := by decide +kernel
theorem dL_law_1039 : decode code 1039 = .ok (.iload 5, 2) := by decide +kernel
theorem dL_law_1041 : decode code 1041 = .ok (.ifCond .ne 15, 3) := by decide +kernel
theorem dL_law_1044 : decode code 1044 = .ok (.aload_n 3, 1) := by decide +kernel
theorem dL_law_1045 : decode code 1045 = .ok (.iconst 0, 1) := by decide +kernel
theorem dL_law_1046 : decode code 1046 = .ok (.laload, 1) := by decide +kernel
theorem dL_law_1047 : decode code 1047 = .ok (.iload 6, 2) := by decide +kernel
theorem dL_law_1049 : decode code 1049 = .ok (.i2l, 1) := by decide +kernel
theorem dL_law_1050 : decode code 1050 = .ok (.lcmp, 1) := by decide +kernel
theorem dL_law_1051 : decode code 1051 = .ok (.ifCond .eq 5, 3) := by decide +kernel
theorem dL_law_1056 : decode code 1056 = .ok (.goto 213, 3) := by decide +kernel
theorem dL_law_1059 : decode code 1059 = .ok (.aload_n 1, 1) := by decide +kernel
theorem dL_law_1060 : decode code 1060 = .ok (.aload_n 0, 1) := by decide +kernel
theorem dL_law_1061 : decode code 1061 = .ok (.iload 4, 2) := by decide +kernel
theorem dL_law_1063 : decode code 1063 = .ok (.iconst 1, 1) := by decide +kernel
theorem dL_law_1064 : decode code 1064 = .ok (.iadd, 1) := by decide +kernel
theorem dL_law_1065 : decode code 1065 = .ok (.iaload, 1) := by decide +kernel
theorem dL_law_1066 : decode code 1066 = .ok (.aload_n 3, 1) := by decide +kernel
theorem dL_law_1067 : decode code 1067 = .ok (.invokestatic 138, 3) := by decide +kernel
theorem dL_law_1070 : decode code 1070 = .ok (.istore 5, 2) := by decide +kernel
theorem dL_law_1072 : decode code 1072 = .ok (.aload_n 2, 1) := by decide +kernel
theorem dL_law_1073 : decode code 1073 = .ok (.aload_n 0, 1) := by decide +kernel
theorem dL_law_1074 : decode code 1074 = .ok (.iload 4, 2) := by decide +kernel
theorem dL_law_1076 : decode code 1076 = .ok (.iconst 1, 1) := by decide +kernel
theorem dL_law_1077 : decode code 1077 = .ok (.iadd, 1) := by decide +kernel
theorem dL_law_1078 : decode code 1078 = .ok (.iaload, 1) := by decide +kernel
theorem dL_law_1079 : decode code 1079 = .ok (.invokevirtual 140, 3) := by decide +kernel
theorem dL_law_1082 : decode code 1082 = .ok (.istore 6, 2) := by decide +kernel
theorem dL_law_1084 : decode code 1084 = .ok (.aload_n 2, 1) := by decide +kernel
theorem dL_law_1085 : decode code 1085 = .ok (.invokevirtual 79, 3) := by decide +kernel
theorem dL_law_1088 : decode code 1088 = .ok (.iload 5, 2) := by decide +kernel
theorem dL_law_1090 : decode code 1090 = .ok (.if_icmp .eq 5, 3) := by decide +kernel
theorem dL_law_1095 : decode code 1095 = .ok (.iload 5, 2) := by decide +kernel
theorem dL_law_1097 : decode code 1097 = .ok (.ifCond .ne 15, 3) := by decide +kernel
theorem dL_law_1100 : decode code 1100 = .ok (.aload_n 3, 1) := by decide +kernel
theorem dL_law_1101 : decode code 1101 = .ok (.iconst 0, 1) := by decide +kernel
theorem dL_law_1102 : decode code 1102 = .ok (.laload, 1) := by decide +kernel
theorem dL_law_1103 : decode code 1103 = .ok (.iload 6, 2) := by decide +kernel
theorem dL_law_1105 : decode code 1105 = .ok (.i2l, 1) := by decide +kernel
theorem dL_law_1106 : decode code 1106 = .ok (.lcmp, 1) := by decide +kernel
theorem dL_law_1107 : decode code 1107 = .ok (.ifCond .eq 5, 3) := by decide +kernel
theorem dL_law_1112 : decode code 1112 = .ok (.goto 157, 3) := by decide +kernel
theorem dL_law_1115 : decode code 1115 = .ok (.aload_n 1, 1) := by decide +kernel
theorem dL_law_1116 : decode code 1116 = .ok (.aload_n 0, 1) := by decide +kernel
theorem dL_law_1117 : decode code 1117 = .ok (.iload 4, 2) := by decide +kernel
theorem dL_law_1119 : decode code 1119 = .ok (.iconst 1, 1) := by decide +kernel
theorem dL_law_1120 : decode code 1120 = .ok (.iadd, 1) := by decide +kernel
theorem dL_law_1121 : decode code 1121 = .ok (.iaload, 1) := by decide +kernel
theorem dL_law_1122 : decode code 1122 = .ok (.aload_n 3, 1) := by decide +kernel
theorem dL_law_1123 : decode code 1123 = .ok (.invokestatic 141, 3) := by decide +kernel
theorem dL_law_1126 : decode code 1126 = .ok (.istore 5, 2) := by decide +kernel
theorem dL_law_1128 : decode code 1128 = .ok (.aload_n 2, 1) := by decide +kernel
theorem dL_law_1129 : decode code 1129 = .ok (.aload_n 0, 1) := by decide +kernel
theorem dL_law_1130 : decode code 1130 = .ok (.iload 4, 2) := by decide +kernel
theorem dL_law_1132 : decode code 1132 = .ok (.iconst 1, 1) := by decide +kernel
theorem dL_law_1133 : decode code 1133 = .ok (.iadd, 1) := by decide +kernel
theorem dL_law_1134 : decode code 1134 = .ok (.iaload, 1) := by decide +kernel
theorem dL_law_1135 : decode code 1135 = .ok (.invokevirtual 143, 3) := by decide +kernel
theorem dL_law_1138 : decode code 1138 = .ok (.istore 6, 2) := by decide +kernel
theorem dL_law_1140 : decode code 1140 = .ok (.aload_n 2, 1) := by decide +kernel
theorem dL_law_1141 : decode code 1141 = .ok (.invokevirtual 79, 3) := by decide +kernel
theorem dL_law_1144 : decode code 1144 = .ok (.iload 5, 2) := by decide +kernel
theorem dL_law_1146 : decode code 1146 = .ok (.if_icmp .eq 5, 3) := by decide +kernel
theorem dL_law_1151 : decode code 1151 = .ok (.iload 5, 2) := by decide +kernel
theorem dL_law_1153 : decode code 1153 = .ok (.ifCond .ne 15, 3) := by decide +kernel
theorem dL_law_1156 : decode code 1156 = .ok (.aload_n 3, 1) := by decide +kernel
theorem dL_law_1157 : decode code 1157 = .ok (.iconst 0, 1) := by decide +kernel
theorem dL_law_1158 : decode code 1158 = .ok (.laload, 1) := by decide +kernel
theorem dL_law_1159 : decode code 1159 = .ok (.iload 6, 2) := by decide +kernel
theorem dL_law_1161 : decode code 1161 = .ok (.i2l, 1) := by decide +kernel
theorem dL_law_1162 : decode code 1162 = .ok (.lcmp, 1) := by decide +kernel
theorem dL_law_1163 : decode code 1163 = .ok (.ifCond .eq 5, 3) := by decide +kernel
theorem dL_law_1168 : decode code 1168 = .ok (.goto 101, 3) := by decide +kernel
theorem cw_kept : Cond.codeWith yL_kept cL_kept 5 (some .int) [(0, 10, 13, 13)] ∈ bigW := bw4 118 rfl rfl
set_option maxHeartbeats 1000000 in
set_option maxRecDepth 100000 in
theorem lw_c14 {p : Program} {l : Launch} {e : Env} {s : State} {m : MethodId} {below : List Frame} {meth : Method} {c : Code} {G : GT} {b L : Nat} {xs : Nat → Int32} (hC : CX p s m meth c (lawName meth) code 9 ret #[Value.ref b]) (hT : l.stackTraces = false) (hK0 : KN G s s.heap) (hgl : gL G = s.heap.size) (hX : va_X b L xs s s.heap) (hbl : b < s.heap.size) {n : Nat} {i4 : Int32} (hn : n < 512) (h1 : vp_in (i4 + 1) L) (h2 : vp_in (i4 + 2) L) (kk : LAt p l e s m below meth c G b 1269 (n + 1) i4) : LAt p l e s m below meth c G b 811 n i4 := by
  intro a b0 q w x v hs y H locs cells slots ls hR hW hS hc hs9 hl
  have hbA : ¬ (fun z : Nat => s.heap.size ≤ z) b := Nat.not_le.mpr hbl
  have hAL : ∀ z, s.heap.size ≤ z → gL G ≤ z := fun z h => by rw [hgl]; exact h
  have hKN := hK0.go hAL hS
  have hpx := RelH_x hR
  have hpv := RelH_v hR
  obtain ⟨x1, ex1⟩ : ∃ z, z = xs (i4 + 1).toNatClampNeg := ⟨_, rfl⟩
  obtain ⟨x2, ex2⟩ : ∃ z, z = xs (i4 + 2).toNatClampNeg := ⟨_, rfl⟩
  refine lv_aload_n hC.1 hC.2.1 dL_law_811 rfl (lv_at hl 3 rfl) ?_
  refine lv_aload_n hC.1 hC.2.1 dL_law_812 rfl (lv_at hl 4 rfl) ?_
  refine lv_iload hC.1 hC.2.1 dL_law_813 (lv_at hl 0 rfl) ?_
  refine lv_iconst (v := 1) hC.1 hC.2.1 dL_law_815 (by decide) ?_
  refine lv_iadd hC.1 hC.2.1 dL_law_816 ?_
  refine va_sld hC.1 hC.2.1 hX hbl hbA hS h1 dL_law_817 ?_
  rw [← ex1]
  refine lv_aload_n hC.1 hC.2.1 dL_law_818 rfl (lv_at hl 4 rfl) ?_
  refine lv_iload hC.1 hC.2.1 dL_law_819 (lv_at hl 0 rfl) ?_
  refine lv_iconst (v := 2) hC.1 hC.2.1 dL_law_821 (by decide) ?_
  refine lv_iadd hC.1 hC.2.1 dL_law_822 ?_
  refine va_sld hC.1 hC.2.1 hX hbl hbA hS h2 dL_law_823 ?_
  rw [← ex2]
  refine lv_aload_n hC.1 hC.2.1 dL_law_824 rfl (lv_at hl 1 rfl) ?_
  refine runEX (rSX (n := 4) (B := fun _ H => PW G (wlE G w y :: hdW G a b0 x) H) (As := [.ref (a 0), .int x1, .int x2, .ref w]) (rest := []) hC cw_kept wd_0 wd_837 wd_836 (by decide +kernel) (c_L_kept l hT G a b0 x w y x1 x2 hW.1 hW.2.2.1 hW.2.2.2.1) ⟨rfl, rfl⟩ ⟨Nat.le_of_ble_eq_true rfl, Nat.le_of_ble_eq_true rfl⟩ (stb_h (fun H => PW G (wlE G w y :: hdW G a b0 x) H)) hKN hW.P1 rfl hl.1 rfl (Nat.le_of_ble_eq_true rfl) dL_law_825 ⟨(show _ ≤ 601024 by omega), (show _ ≤ 7293034 by omega)⟩) hS hW.A1 hW.A1 (fun H1 locs1 hB hz hk hS => ?_)
  obtain ⟨b', hR1, hP1⟩ := hB
  have hW := hW.left hR1 hP1 hk
  have hKN := hK0.go hAL hS
  have hop := op_kept hR x1 x2
  obtain ⟨F, eF⟩ : ∃ F, F = (fX5_kept x x1 x2) := ⟨_, rfl⟩
  rw [← eF] at hop hW ⊢
  obtain ⟨r5, e5⟩ : ∃ z, z = codeL (fun _ => 1) F := ⟨_, rfl⟩
  show W p l e room_1 s m #[Value.ref b] below meth c H1 locs1 (cells + 1) (slots + 6) (lw_Z below #[Value.ref b] s) (F0 m 828 ls [.int (codeL (fun _ => 1) F)])
  rw [← e5]
  refine lv_istore (x := r5) (lv' := [(5, .int r5), (4, .int i4), (3, .ref w), (2, .ref (q 0)), (1, .ref (a 0)), (0, .ref b)]) hC.1 hC.2.1 dL_law_828 hl (by decide) rfl (fun ls hl => ?_)
  refine lv_aload_n hC.1 hC.2.1 dL_law_830 rfl (lv_at hl 3 rfl) ?_
  refine lv_aload_n hC.1 hC.2.1 dL_law_831 rfl (lv_at hl 5 rfl) ?_
  refine lv_iload hC.1 hC.2.1 dL_law_832 (lv_at hl 1 rfl) ?_
  refine lv_iconst (v := 1) hC.1 hC.2.1 dL_law_834 (by decide) ?_
  refine lv_iadd hC.1 hC.2.1 dL_law_835 ?_
  refine va_sld hC.1 hC.2.1 hX hbl hbA hS h1 dL_law_836 ?_
  rw [← ex1]
  refine lv_aload_n hC.1 hC.2.1 dL_law_837 rfl (lv_at hl 5 rfl) ?_
  refine lv_iload hC.1 hC.2.1 dL_law_838 (lv_at hl 1 rfl) ?_
  refine lv_iconst (v := 2) hC.1 hC.2.1 dL_law_840 (by decide) ?_
  refine lv_iadd hC.1 hC.2.1 dL_law_841 ?_
  refine va_sld hC.1 hC.2.1 hX hbl hbA hS h2 dL_law_842 ?_
  rw [← ex2]
  refine runE (rV (B := fun U H => PW G (mdW G q v hs) H) (As := [.int x1, .int x2]) (rest := []) hC mwX6_kept (c_X6_kept l G q v hs x1 x2 hW.2.1 (by first | exact hpv.1 | exact hpv.1.1 | exact hpv.1.2 | exact hpv.2.1 | exact hpv.2.2 | exact hpv.2.2.2.1 | exact ⟨hpv.1.1, hpv.1.2, hpv.2.1⟩)) iwX6_kept wd_1142 ⟨rfl, rfl⟩ ⟨Nat.le_of_ble_eq_true rfl, Nat.le_of_ble_eq_true rfl⟩ (stb_h (fun H => PW G (mdW G q v hs) H)) hKN hW.P2 (va_recv hKN.k hW.P2 (ci := 6) (q0 := 0) rfl rfl) rfl hl.1 rfl (Nat.le_of_ble_eq_true rfl) dL_law_843 ⟨(show _ ≤ 601024 by omega), (show _ ≤ 7293034 by omega)⟩) hS hW.A2 hW.A2 (fun H2 locs2 hB hz hk hS => ?_)
  have hW := hW.right hB hk
  have hKN := hK0.go hAL hS
  obtain ⟨u, eu⟩ : ∃ u, u = (fX6_kept v x1 x2) := ⟨_, rfl⟩
  rw [← eu] at hop hW ⊢
  obtain ⟨o1, o2, o3⟩ := hop
  refine lv_istore (x := u.2) (lv' := [(6, .int u.2), (5, .int r5), (4, .int i4), (3, .ref w), (2, .ref (q 0)), (1, .ref (a 0)), (0, .ref b)]) hC.1 hC.2.1 dL_law_846 hl (by decide) rfl (fun ls hl => ?_)
  refine lv_aload_n hC.1 hC.2.1 dL_law_848 rfl (lv_at hl 4 rfl) ?_
  refine runP (rV (B := fun U H => PW G (mdW G q u.1 hs) H) (As := []) (rest := []) hC mwX6_thrown (c_X6_thrown l G q u.1 hs) iwX6_thrown wd_942 ⟨rfl, rfl⟩ ⟨Nat.le_of_ble_eq_true rfl, Nat.le_of_ble_eq_true rfl⟩ (stb_h (fun H => PW G (mdW G q u.1 hs) H)) hKN hW.P2 (va_recv hKN.k hW.P2 (ci := 6) (q0 := 0) rfl rfl) rfl hl.1 rfl (Nat.le_of_ble_eq_true rfl) dL_law_849 ⟨(show _ ≤ 601024 by omega), (show _ ≤ 7293034 by omega)⟩) ?_
  refine lv_iload hC.1 hC.2.1 dL_law_852 (lv_at hl 1 rfl) ?_
  refine lv_icmp_eq (tgt := 859) hC.1 hC.2.1 dL_law_854 (by decide) (fun _ => ?_) (fun h => absurd (o2.trans e5.symm) h)
  refine lv_iload hC.1 hC.2.1 dL_law_859 (lv_at hl 1 rfl) ?_
  have fin : W p l e room_1 s m #[Value.ref b] below meth c H2 locs2 (cells + 1 + 0) (slots + 6 + 0) (lw_Z below #[Value.ref b] s) (F0 m 876 ls []) := by
    refine lv_goto (tgt := 1269) hC.1 hC.2.1 dL_law_876 (by decide) ?_
    exact kk a b' q w (wldL F) u.1 hs (ansL F y) _ _ _ _ ls o1 hW hS (by omega) (by omega) (lv_sub hl [2, 3, 4, 5, 6] rfl)
  refine lv_if_ne (tgt := 876) hC.1 hC.2.1 dL_law_861 (by decide) (fun _ => fin) (fun h5 => ?_)
  refine lv_aload_n hC.1 hC.2.1 dL_law_864 rfl (lv_at hl 3 rfl) ?_
  refine lv_iconst (v := 0) hC.1 hC.2.1 dL_law_865 (by decide) ?_
  refine va_lald hC.1 hC.2.1 hKN.k hW.P1 0 1 rfl rfl (show vp_in (nI 0) 1 from vp_in_nI (by decide) (by decide)) dL_law_866 ?_
  refine lv_iload hC.1 hC.2.1 dL_law_867 (lv_at hl 0 rfl) ?_
  refine lv_i2l (v := u.2.toInt64) hC.1 hC.2.1 dL_law_869 rfl ?_
  refine lv_lcmpE hC.1 hC.2.1 dL_law_870 (o3 (e5.symm.trans h5) y) ?_
  exact lv_if_eq (tgt := 876) hC.1 hC.2.1 dL_law_871 (by decide) (fun _ => fin) (fun h => absurd rfl h)
theorem cw_count : Cond.codeWith yL_count cL_count 4 (some .int) [(0, 9, 12, 13)] ∈ bigW := bw4 126 rfl rfl
set_option maxHeartbeats 1000000 in
set_option maxRecDepth 100000 in
theorem lw_c15 {p : Program} {l : Launch} {e : Env} {s : State} {m : MethodId} {below : List Frame} {meth : Method} {c : Code} {G : GT} {b L : Nat} {xs : Nat → Int32} (hC : CX p s m meth c (lawName meth) code 9 ret #[Value.ref b]) (hT : l.stackTraces = false) (hK0 : KN G s s.heap) (hgl : gL G = s.heap.size) (hX : va_X b L xs s s.heap) (hbl : b < s.heap.size) {n : Nat} {i4 : Int32} (hn : n < 512) (h1 : vp_in (i4 + 1) L) (h2 : vp_in (i4 + 2) L) (kk : LAt p l e s m below meth c G b 1269 (n + 1) i4) : LAt p l e s m below meth c G b 879 n i4 := by
  intro a b0 q w x v hs y H locs cells slots ls hR hW hS hc hs9 hl
  have hbA : ¬ (fun z : Nat => s.heap.size ≤ z) b := Nat.not_le.mpr hbl
  have hAL : ∀ z, s.heap.size ≤ z → gL G ≤ z := fun z h => by rw [hgl]; exact h
  have hKN := hK0.go hAL hS
  have hpx := RelH_x hR
  have hpv := RelH_v hR
  obtain ⟨x1, ex1⟩ : ∃ z, z = xs (i4 + 1).toNatClampNeg := ⟨_, rfl⟩
  obtain ⟨x2, ex2⟩ : ∃ z, z = xs (i4 + 2).toNatClampNeg := ⟨_, rfl⟩
  refine lv_aload_n hC.1 hC.2.1 dL_law_879 rfl (lv_at hl 3 rfl) ?_
  refine lv_aload_n hC.1 hC.2.1 dL_law_880 rfl (lv_at hl 4 rfl) ?_
  refine lv_iload hC.1 hC.2.1 dL_law_881 (lv_at hl 0 rfl) ?_
  refine lv_iconst (v := 1) hC.1 hC.2.1 dL_law_883 (by decide) ?_
  refine lv_iadd hC.1 hC.2.1 dL_law_884 ?_
  refine va_sld hC.1 hC.2.1 hX hbl hbA hS h1 dL_law_885 ?_
  rw [← ex1]
  refine lv_aload_n hC.1 hC.2.1 dL_law_886 rfl (lv_at hl 1 rfl) ?_
  refine runEX (rSX (n := 3) (B := fun _ H => PW G (wlE G w y :: hdW G a b0 x) H) (As := [.ref (a 0), .int x1, .ref w]) (rest := []) hC cw_count wd_0 wd_845 wd_844 (by decide +kernel) (c_L_count l hT G a b0 x w y x1 hW.1 hW.2.2.1 hW.2.2.2.1) ⟨rfl, rfl⟩ ⟨Nat.le_of_ble_eq_true rfl, Nat.le_of_ble_eq_true rfl⟩ (stb_h (fun H => PW G (wlE G w y :: hdW G a b0 x) H)) hKN hW.P1 rfl hl.1 rfl (Nat.le_of_ble_eq_true rfl) dL_law_887 ⟨(show _ ≤ 601024 by omega), (show _ ≤ 7293034 by omega)⟩) hS hW.A1 hW.A1 (fun H1 locs1 hB hz hk hS => ?_)
  obtain ⟨b', hR1, hP1⟩ := hB
  have hW := hW.left hR1 hP1 hk
  have hKN := hK0.go hAL hS
  have hop := op_count hR x1
  obtain ⟨F, eF⟩ : ∃ F, F = (fX5_count x x1) := ⟨_, rfl⟩
  rw [← eF] at hop hW ⊢
  obtain ⟨r5, e5⟩ : ∃ z, z = codeL (fun _ => 1) F := ⟨_, rfl⟩
  show W p l e room_1 s m #[Value.ref b] below meth c H1 locs1 (cells + 1) (slots + 6) (lw_Z below #[Value.ref b] s) (F0 m 890 ls [.int (codeL (fun _ => 1) F)])
  rw [← e5]
  refine lv_istore (x := r5) (lv' := [(5, .int r5), (4, .int i4), (3, .ref w), (2, .ref (q 0)), (1, .ref (a 0)), (0, .ref b)]) hC.1 hC.2.1 dL_law_890 hl (by decide) rfl (fun ls hl => ?_)
  refine lv_aload_n hC.1 hC.2.1 dL_law_892 rfl (lv_at hl 3 rfl) ?_
  refine lv_aload_n hC.1 hC.2.1 dL_law_893 rfl (lv_at hl 5 rfl) ?_
  refine lv_iload hC.1 hC.2.1 dL_law_894 (lv_at hl 1 rfl) ?_
  refine lv_iconst (v := 1) hC.1 hC.2.1 dL_law_896 (by decide) ?_
  refine lv_iadd hC.1 hC.2.1 dL_law_897 ?_
  refine va_sld hC.1 hC.2.1 hX hbl hbA hS h1 dL_law_898 ?_
  rw [← ex1]
  refine runE (rV (B := fun U H => PW G (mdW G q v hs) H) (As := [.int x1]) (rest := []) hC mwX6_count (c_X6_count l G q v hs x1 hW.2.1) iwX6_count wd_1146 ⟨rfl, rfl⟩ ⟨Nat.le_of_ble_eq_true rfl, Nat.le_of_ble_eq_true rfl⟩ (stb_h (fun H => PW G (mdW G q v hs) H)) hKN hW.P2 (va_recv hKN.k hW.P2 (ci := 6) (q0 := 0) rfl rfl) rfl hl.1 rfl (Nat.le_of_ble_eq_true rfl) dL_law_899 ⟨(show _ ≤ 601024 by omega), (show _ ≤ 7293034 by omega)⟩) hS hW.A2 hW.A2 (fun H2 locs2 hB hz hk hS => ?_)
  have hW := hW.right hB hk
  have hKN := hK0.go hAL hS
  obtain ⟨u, eu⟩ : ∃ u, u = (fX6_count v x1) := ⟨_, rfl⟩
  rw [← eu] at hop hW ⊢
  obtain ⟨o1, o2, o3⟩ := hop
  refine lv_istore (x := u.2) (lv' := [(6, .int u.2), (5, .int r5), (4, .int i4), (3, .ref w), (2, .ref (q 0)), (1, .ref (a 0)), (0, .ref b)]) hC.1 hC.2.1 dL_law_902 hl (by decide) rfl (fun ls hl => ?_)
  refine lv_aload_n hC.1 hC.2.1 dL_law_904 rfl (lv_at hl 4 rfl) ?_
  refine runP (rV (B := fun U H => PW G (mdW G q u.1 hs) H) (As := []) (rest := []) hC mwX6_thrown (c_X6_thrown l G q u.1 hs) iwX6_thrown wd_942 ⟨rfl, rfl⟩ ⟨Nat.le_of_ble_eq_true rfl, Nat.le_of_ble_eq_true rfl⟩ (stb_h (fun H => PW G (mdW G q u.1 hs) H)) hKN hW.P2 (va_recv hKN.k hW.P2 (ci := 6) (q0 := 0) rfl rfl) rfl hl.1 rfl (Nat.le_of_ble_eq_true rfl) dL_law_905 ⟨(show _ ≤ 601024 by omega), (show _ ≤ 7293034 by omega)⟩) ?_
  refine lv_iload hC.1 hC.2.1 dL_law_908 (lv_at hl 1 rfl) ?_
  refine lv_icmp_eq (tgt := 915) hC.1 hC.2.1 dL_law_910 (by decide) (fun _ => ?_) (fun h => absurd (o2.trans e5.symm) h)
  refine lv_iload hC.1 hC.2.1 dL_law_915 (lv_at hl 1 rfl) ?_
  have fin : W p l e room_1 s m #[Value.ref b] below meth c H2 locs2 (cells + 1 + 0) (slots + 6 + 0) (lw_Z below #[Value.ref b] s) (F0 m 932 ls []) := by
    refine lv_goto (tgt := 1269) hC.1 hC.2.1 dL_law_932 (by decide) ?_
    exact kk a b' q w (wldL F) u.1 hs (ansL F y) _ _ _ _ ls o1 hW hS (by omega) (by omega) (lv_sub hl [2, 3, 4, 5, 6] rfl)
  refine lv_if_ne (tgt := 932) hC.1 hC.2.1 dL_law_917 (by decide) (fun _ => fin) (fun h5 => ?_)
  refine lv_aload_n hC.1 hC.2.1 dL_law_920 rfl (lv_at hl 3 rfl) ?_
  refine lv_iconst (v := 0) hC.1 hC.2.1 dL_law_921 (by decide) ?_
  refine va_lald hC.1 hC.2.1 hKN.k hW.P1 0 1 rfl rfl (show vp_in (nI 0) 1 from vp_in_nI (by decide) (by decide)) dL_law_922 ?_
  refine lv_iload hC.1 hC.2.1 dL_law_923 (lv_at hl 0 rfl) ?_
  refine lv_i2l (v := u.2.toInt64) hC.1 hC.2.1 dL_law_925 rfl ?_
  refine lv_lcmpE hC.1 hC.2.1 dL_law_926 (o3 (e5.symm.trans h5) y) ?_
  exact lv_if_eq (tgt := 932) hC.1 hC.2.1 dL_law_927 (by decide) (fun _ => fin) (fun h => absurd rfl h)
theorem cw_ifPrinted : Cond.codeWith yL_ifPrinted cL_ifPrinted 5 (some .int) [(0, 10, 13, 13)] ∈ bigW := bw4 133 rfl rfl
set_option maxHeartbeats 1000000 in
set_option maxRecDepth 100000 in
theorem lw_c16 {p : Program} {l : Launch} {e : Env} {s : State} {m : MethodId} {below : List Frame} {meth : Method} {c : Code} {G : GT} {b L : Nat} {xs : Nat → Int32} (hC : CX p s m meth c (lawName meth) code 9 ret #[Value.ref b]) (hT : l.stackTraces = false) (hK0 : KN G s s.heap) (hgl : gL G = s.heap.size) (hX : va_X b L xs s s.heap) (hbl : b < s.heap.size) {n : Nat} {i4 : Int32} (hn : n < 512) (h1 : vp_in (i4 + 1) L) (h2 : vp_in (i4 + 2) L) (kk : LAt p l e s m below meth c G b 1269 (n + 1) i4) : LAt p l e s m below meth c G b 935 n i4 := by
  intro a b0 q w x v hs y H locs cells slots ls hR hW hS hc hs9 hl
  have hbA : ¬ (fun z : Nat => s.heap.size ≤ z) b := Nat.not_le.mpr hbl
  have hAL : ∀ z, s.heap.size ≤ z → gL G ≤ z := fun z h => by rw [hgl]; exact h
  have hKN := hK0.go hAL hS
  have hpx := RelH_x hR
  have hpv := RelH_v hR
  obtain ⟨x1, ex1⟩ : ∃ z, z = xs (i4 + 1).toNatClampNeg := ⟨_, rfl⟩
  obtain ⟨x2, ex2⟩ : ∃ z, z = xs (i4 + 2).toNatClampNeg := ⟨_, rfl⟩
  refine lv_aload_n hC.1 hC.2.1 dL_law_935 rfl (lv_at hl 3 rfl) ?_
  refine lv_aload_n hC.1 hC.2.1 dL_law_936 rfl (lv_at hl 4 rfl) ?_
  refine lv_iload hC.1 hC.2.1 dL_law_937 (lv_at hl 0 rfl) ?_
  refine lv_iconst (v := 1) hC.1 hC.2.1 dL_law_939 (by decide) ?_
  refine lv_iadd hC.1 hC.2.1 dL_law_940 ?_
  refine va_sld hC.1 hC.2.1 hX hbl hbA hS h1 dL_law_941 ?_
  rw [← ex1]
  refine lv_aload_n hC.1 hC.2.1 dL_law_942 rfl (lv_at hl 4 rfl) ?_
  refine lv_iload hC.1 hC.2.1 dL_law_943 (lv_at hl 0 rfl) ?_
  refine lv_iconst (v := 2) hC.1 hC.2.1 dL_law_945 (by decide) ?_
  refine lv_iadd hC.1 hC.2.1 dL_law_946 ?_
  refine va_sld hC.1 hC.2.1 hX hbl hbA hS h2 dL_law_947 ?_
  rw [← ex2]
  refine lv_aload_n hC.1 hC.2.1 dL_law_948 rfl (lv_at hl 1 rfl) ?_
  refine runEX (rSX (n := 4) (B := fun _ H => PW G (wlE G w y :: hdW G a b0 x) H) (As := [.ref (a 0), .int x1, .int x2, .ref w]) (rest := []) hC cw_ifPrinted wd_0 wd_852 wd_851 (by decide +kernel) (c_L_ifPrinted l hT G a b0 x w y x1 x2 hW.1 hW.2.2.1 hW.2.2.2.1) ⟨rfl, rfl⟩ ⟨Nat.le_of_ble_eq_true rfl, Nat.le_of_ble_eq_true rfl⟩ (stb_h (fun H => PW G (wlE G w y :: hdW G a b0 x) H)) hKN hW.P1 rfl hl.1 rfl (Nat.le_of_ble_eq_true rfl) dL_law_949 ⟨(show _ ≤ 601024 by omega), (show _ ≤ 7293034 by omega)⟩) hS hW.A1 hW.A1 (fun H1 locs1 hB hz hk hS => ?_)
  obtain ⟨b', hR1, hP1⟩ := hB
  have hW := hW.left hR1 hP1 hk
  have hKN := hK0.go hAL hS
  have hop := op_ifPrinted hR hn x1 x2
  obtain ⟨F, eF⟩ : ∃ F, F = (fX5_ifPrinted x x1 x2) := ⟨_, rfl⟩
  rw [← eF] at hop hW ⊢
  obtain ⟨r5, e5⟩ : ∃ z, z = codeL (fun _ => 1) F := ⟨_, rfl⟩
  show W p l e room_1 s m #[Value.ref b] below meth c H1 locs1 (cells + 1) (slots + 6) (lw_Z below #[Value.ref b] s) (F0 m 952 ls [.int (codeL (fun _ => 1) F)])
  rw [← e5]
  refine lv_istore (x := r5) (lv' := [(5, .int r5), (4, .int i4), (3, .ref w), (2, .ref (q 0)), (1, .ref (a 0)), (0, .ref b)]) hC.1 hC.2.1 dL_law_952 hl (by decide) rfl (fun ls hl => ?_)
  refine lv_aload_n hC.1 hC.2.1 dL_law_954 rfl (lv_at hl 3 rfl) ?_
  refine lv_aload_n hC.1 hC.2.1 dL_law_955 rfl (lv_at hl 5 rfl) ?_
  refine lv_iload hC.1 hC.2.1 dL_law_956 (lv_at hl 1 rfl) ?_
  refine lv_iconst (v := 1) hC.1 hC.2.1 dL_law_958 (by decide) ?_
  refine lv_iadd hC.1 hC.2.1 dL_law_959 ?_
  refine va_sld hC.1 hC.2.1 hX hbl hbA hS h1 dL_law_960 ?_
  rw [← ex1]
  refine lv_aload_n hC.1 hC.2.1 dL_law_961 rfl (lv_at hl 5 rfl) ?_
  refine lv_iload hC.1 hC.2.1 dL_law_962 (lv_at hl 1 rfl) ?_
  refine lv_iconst (v := 2) hC.1 hC.2.1 dL_law_964 (by decide) ?_
  refine lv_iadd hC.1 hC.2.1 dL_law_965 ?_
  refine va_sld hC.1 hC.2.1 hX hbl hbA hS h2 dL_law_966 ?_
  rw [← ex2]
  refine runE (rV (B := fun U H => PW G (mdW G q v hs) H) (As := [.int x1, .int x2]) (rest := []) hC mwX6_ifPrinted (c_X6_ifPrinted l G q v hs x1 x2 hW.2.1 (by first | exact hpv.1 | exact hpv.1.1 | exact hpv.1.2 | exact hpv.2.1 | exact hpv.2.2 | exact hpv.2.2.2.1 | exact ⟨hpv.1.1, hpv.1.2, hpv.2.1⟩)) iwX6_ifPrinted wd_1154 ⟨rfl, rfl⟩ ⟨Nat.le_of_ble_eq_true rfl, Nat.le_of_ble_eq_true rfl⟩ (stb_h (fun H => PW G (mdW G q v hs) H)) hKN hW.P2 (va_recv hKN.k hW.P2 (ci := 6) (q0 := 0) rfl rfl) rfl hl.1 rfl (Nat.le_of_ble_eq_true rfl) dL_law_967 ⟨(show _ ≤ 601024 by omega), (show _ ≤ 7293034 by omega)⟩) hS hW.A2 hW.A2 (fun H2 locs2 hB hz hk hS => ?_)
  have hW := hW.right hB hk
  have hKN := hK0.go hAL hS
  obtain ⟨u, eu⟩ : ∃ u, u = (fX6_ifPrinted v x1 x2) := ⟨_, rfl⟩
  rw [← eu] at hop hW ⊢
  obtain ⟨o1, o2, o3⟩ := hop
  refine lv_istore (x := u.2) (lv' := [(6, .int u.2), (5, .int r5), (4, .int i4), (3, .ref w), (2, .ref (q 0)), (1, .ref (a 0)), (0, .ref b)]) hC.1 hC.2.1 dL_law_970 hl (by decide) rfl (fun ls hl => ?_)
  refine lv_aload_n hC.1 hC.2.1 dL_law_972 rfl (lv_at hl 4 rfl) ?_
  refine runP (rV (B := fun U H => PW G (mdW G q u.1 hs) H) (As := []) (rest := []) hC mwX6_thrown (c_X6_thrown l G q u.1 hs) iwX6_thrown wd_942 ⟨rfl, rfl⟩ ⟨Nat.le_of_ble_eq_true rfl, Nat.le_of_ble_eq_true rfl⟩ (stb_h (fun H => PW G (mdW G q u.1 hs) H)) hKN hW.P2 (va_recv hKN.k hW.P2 (ci := 6) (q0 := 0) rfl rfl) rfl hl.1 rfl (Nat.le_of_ble_eq_true rfl) dL_law_973 ⟨(show _ ≤ 601024 by omega), (show _ ≤ 7293034 by omega)⟩) ?_
  refine lv_iload hC.1 hC.2.1 dL_law_976 (lv_at hl 1 rfl) ?_
  refine lv_icmp_eq (tgt := 983) hC.1 hC.2.1 dL_law_978 (by decide) (fun _ => ?_) (fun h => absurd (o2.trans e5.symm) h)
  refine lv_iload hC.1 hC.2.1 dL_law_983 (lv_at hl 1 rfl) ?_
  have fin : W p l e room_1 s m #[Value.ref b] below meth c H2 locs2 (cells + 1 + 0) (slots + 6 + 0) (lw_Z below #[Value.ref b] s) (F0 m 1000 ls []) := by
    refine lv_goto (tgt := 1269) hC.1 hC.2.1 dL_law_1000 (by decide) ?_
    exact kk a b' q w (wldL F) u.1 hs (ansL F y) _ _ _ _ ls o1 hW hS (by omega) (by omega) (lv_sub hl [2, 3, 4, 5, 6] rfl)
  refine lv_if_ne (tgt := 1000) hC.1 hC.2.1 dL_law_985 (by decide) (fun _ => fin) (fun h5 => ?_)
  refine lv_aload_n hC.1 hC.2.1 dL_law_988 rfl (lv_at hl 3 rfl) ?_
  refine lv_iconst (v := 0) hC.1 hC.2.1 dL_law_989 (by decide) ?_
  refine va_lald hC.1 hC.2.1 hKN.k hW.P1 0 1 rfl rfl (show vp_in (nI 0) 1 from vp_in_nI (by decide) (by decide)) dL_law_990 ?_
  refine lv_iload hC.1 hC.2.1 dL_law_991 (lv_at hl 0 rfl) ?_
  refine lv_i2l (v := u.2.toInt64) hC.1 hC.2.1 dL_law_993 rfl ?_
  refine lv_lcmpE hC.1 hC.2.1 dL_law_994 (o3 (e5.symm.trans h5) y) ?_
  exact lv_if_eq (tgt := 1000) hC.1 hC.2.1 dL_law_995 (by decide) (fun _ => fin) (fun h => absurd rfl h)
theorem cw_betterWay : Cond.codeWith yL_betterWay cL_betterWay 4 (some .int) [(0, 9, 12, 13)] ∈ bigW := bw4 141 rfl rfl
set_option maxHeartbeats 1000000 in
set_option maxRecDepth 100000 in
theorem lw_c17 {p : Program} {l : Launch} {e : Env} {s : State} {m : MethodId} {below : List Frame} {meth : Method} {c : Code} {G : GT} {b L : Nat} {xs : Nat → Int32} (hC : CX p s m meth c (lawName meth) code 9 ret #[Value.ref b]) (hT : l.stackTraces = false) (hK0 : KN G s s.heap) (hgl : gL G = s.heap.size) (hX : va_X b L xs s s.heap) (hbl : b < s.heap.size) {n : Nat} {i4 : Int32} (hn : n < 512) (h1 : vp_in (i4 + 1) L) (h2 : vp_in (i4 + 2) L) (kk : LAt p l e s m below meth c G b 1269 (n + 1) i4) : LAt p l e s m below meth c G b 1003 n i4 := by
  intro a b0 q w x v hs y H locs cells slots ls hR hW hS hc hs9 hl
  have hbA : ¬ (fun z : Nat => s.heap.size ≤ z) b := Nat.not_le.mpr hbl
  have hAL : ∀ z, s.heap.size ≤ z → gL G ≤ z := fun z h => by rw [hgl]; exact h
  have hKN := hK0.go hAL hS
  have hpx := RelH_x hR
  have hpv := RelH_v hR
  obtain ⟨x1, ex1⟩ : ∃ z, z = xs (i4 + 1).toNatClampNeg := ⟨_, rfl⟩
  obtain ⟨x2, ex2⟩ : ∃ z, z = xs (i4 + 2).toNatClampNeg := ⟨_, rfl⟩
  refine lv_aload_n hC.1 hC.2.1 dL_law_1003 rfl (lv_at hl 3 rfl) ?_
  refine lv_aload_n hC.1 hC.2.1 dL_law_1004 rfl (lv_at hl 4 rfl) ?_
  refine lv_iload hC.1 hC.2.1 dL_law_1005 (lv_at hl 0 rfl) ?_
  refine lv_iconst (v := 1) hC.1 hC.2.1 dL_law_1007 (by decide) ?_
  refine lv_iadd hC.1 hC.2.1 dL_law_1008 ?_
  refine va_sld hC.1 hC.2.1 hX hbl hbA hS h1 dL_law_1009 ?_
  rw [← ex1]
  refine lv_aload_n hC.1 hC.2.1 dL_law_1010 rfl (lv_at hl 1 rfl) ?_
  refine runEX (rSX (n := 3) (B := fun _ H => PW G (wlE G w y :: hdW G a b0 x) H) (As := [.ref (a 0), .int x1, .ref w]) (rest := []) hC cw_betterWay wd_0 wd_860 wd_859 (by decide +kernel) (c_L_betterWay l hT G a b0 x w y x1 hW.1 hW.2.2.1 hW.2.2.2.1) ⟨rfl, rfl⟩ ⟨Nat.le_of_ble_eq_true rfl, Nat.le_of_ble_eq_true rfl⟩ (stb_h (fun H => PW G (wlE G w y :: hdW G a b0 x) H)) hKN hW.P1 rfl hl.1 rfl (Nat.le_of_ble_eq_true rfl) dL_law_1011 ⟨(show _ ≤ 601024 by omega), (show _ ≤ 7293034 by omega)⟩) hS hW.A1 hW.A1 (fun H1 locs1 hB hz hk hS => ?_)
  obtain ⟨b', hR1, hP1⟩ := hB
  have hW := hW.left hR1 hP1 hk
  have hKN := hK0.go hAL hS
  have hop := op_betterWay hR hn x1
  obtain ⟨F, eF⟩ : ∃ F, F = (fX5_betterWay x x1) := ⟨_, rfl⟩
  rw [← eF] at hop hW ⊢
  obtain ⟨r5, e5⟩ : ∃ z, z = codeL (fun _ => 1) F := ⟨_, rfl⟩
  show W p l e room_1 s m #[Value.ref b] below meth c H1 locs1 (cells + 1) (slots + 6) (lw_Z below #[Value.ref b] s) (F0 m 1014 ls [.int (codeL (fun _ => 1) F)])
  rw [← e5]
  refine lv_istore (x := r5) (lv' := [(5, .int r5), (4, .int i4), (3, .ref w), (2, .ref (q 0)), (1, .ref (a 0)), (0, .ref b)]) hC.1 hC.2.1 dL_law_1014 hl (by decide) rfl (fun ls hl => ?_)
  refine lv_aload_n hC.1 hC.2.1 dL_law_1016 rfl (lv_at hl 3 rfl) ?_
  refine lv_aload_n hC.1 hC.2.1 dL_law_1017 rfl (lv_at hl 5 rfl) ?_
  refine lv_iload hC.1 hC.2.1 dL_law_1018 (lv_at hl 1 rfl) ?_
  refine lv_iconst (v := 1) hC.1 hC.2.1 dL_law_1020 (by decide) ?_
  refine lv_iadd hC.1 hC.2.1 dL_law_1021 ?_
  refine va_sld hC.1 hC.2.1 hX hbl hbA hS h1 dL_law_1022 ?_
  rw [← ex1]
  refine runE (rV (B := fun U H => PW G (mdW G q v hs) H) (As := [.int x1]) (rest := []) hC mwX6_betterWay (c_X6_betterWay l G q v hs x1 hW.2.1 (by first | exact hpv.1 | exact hpv.1.1 | exact hpv.1.2 | exact hpv.2.1 | exact hpv.2.2 | exact hpv.2.2.2.1 | exact ⟨hpv.1.1, hpv.1.2, hpv.2.1⟩)) iwX6_betterWay wd_1170 ⟨rfl, rfl⟩ ⟨Nat.le_of_ble_eq_true rfl, Nat.le_of_ble_eq_true rfl⟩ (stb_h (fun H => PW G (mdW G q v hs) H)) hKN hW.P2 (va_recv hKN.k hW.P2 (ci := 6) (q0 := 0) rfl rfl) rfl hl.1 rfl (Nat.le_of_ble_eq_true rfl) dL_law_1023 ⟨(show _ ≤ 601024 by omega), (show _ ≤ 7293034 by omega)⟩) hS hW.A2 hW.A2 (fun H2 locs2 hB hz hk hS => ?_)
  have hW := hW.right hB hk
  have hKN := hK0.go hAL hS
  obtain ⟨u, eu⟩ : ∃ u, u = (fX6_betterWay v x1) := ⟨_, rfl⟩
  rw [← eu] at hop hW ⊢
  obtain ⟨o1, o2, o3⟩ := hop
  refine lv_istore (x := u.2) (lv' := [(6, .int u.2), (5, .int r5), (4, .int i4), (3, .ref w), (2, .ref (q 0)), (1, .ref (a 0)), (0, .ref b)]) hC.1 hC.2.1 dL_law_1026 hl (by decide) rfl (fun ls hl => ?_)
  refine lv_aload_n hC.1 hC.2.1 dL_law_1028 rfl (lv_at hl 4 rfl) ?_
  refine runP (rV (B := fun U H => PW G (mdW G q u.1 hs) H) (As := []) (rest := []) hC mwX6_thrown (c_X6_thrown l G q u.1 hs) iwX6_thrown wd_942 ⟨rfl, rfl⟩ ⟨Nat.le_of_ble_eq_true rfl, Nat.le_of_ble_eq_true rfl⟩ (stb_h (fun H => PW G (mdW G q u.1 hs) H)) hKN hW.P2 (va_recv hKN.k hW.P2 (ci := 6) (q0 := 0) rfl rfl) rfl hl.1 rfl (Nat.le_of_ble_eq_true rfl) dL_law_1029 ⟨(show _ ≤ 601024 by omega), (show _ ≤ 7293034 by omega)⟩) ?_
  refine lv_iload hC.1 hC.2.1 dL_law_1032 (lv_at hl 1 rfl) ?_
  refine lv_icmp_eq (tgt := 1039) hC.1 hC.2.1 dL_law_1034 (by decide) (fun _ => ?_) (fun h => absurd (o2.trans e5.symm) h)
  refine lv_iload hC.1 hC.2.1 dL_law_1039 (lv_at hl 1 rfl) ?_
  have fin : W p l e room_1 s m #[Value.ref b] below meth c H2 locs2 (cells + 1 + 0) (slots + 6 + 0) (lw_Z below #[Value.ref b] s) (F0 m 1056 ls []) := by
    refine lv_goto (tgt := 1269) hC.1 hC.2.1 dL_law_1056 (by decide) ?_
    exact kk a b' q w (wldL F) u.1 hs (ansL F y) _ _ _ _ ls o1 hW hS (by omega) (by omega) (lv_sub hl [2, 3, 4, 5, 6] rfl)
  refine lv_if_ne (tgt := 1056) hC.1 hC.2.1 dL_law_1041 (by decide) (fun _ => fin) (fun h5 => ?_)
  refine lv_aload_n hC.1 hC.2.1 dL_law_1044 rfl (lv_at hl 3 rfl) ?_
  refine lv_iconst (v := 0) hC.1 hC.2.1 dL_law_1045 (by decide) ?_
  refine va_lald hC.1 hC.2.1 hKN.k hW.P1 0 1 rfl rfl (show vp_in (nI 0) 1 from vp_in_nI (by decide) (by decide)) dL_law_1046 ?_
  refine lv_iload hC.1 hC.2.1 dL_law_1047 (lv_at hl 0 rfl) ?_
  refine lv_i2l (v := u.2.toInt64) hC.1 hC.2.1 dL_law_1049 rfl ?_
  refine lv_lcmpE hC.1 hC.2.1 dL_law_1050 (o3 (e5.symm.trans h5) y) ?_
  exact lv_if_eq (tgt := 1056) hC.1 hC.2.1 dL_law_1051 (by decide) (fun _ => fin) (fun h => absurd rfl h)
theorem cw_coolIn : Cond.codeWith yL_coolIn cL_coolIn 4 (some .int) [(0, 9, 12, 13)] ∈ bigW := bw4 148 rfl rfl
set_option maxHeartbeats 1000000 in
set_option maxRecDepth 100000 in
theorem lw_c18 {p : Program} {l : Launch} {e : Env} {s : State} {m : MethodId} {below : List Frame} {meth : Method} {c : Code} {G : GT} {b L : Nat} {xs : Nat → Int32} (hC : CX p s m meth c (lawName meth) code 9 ret #[Value.ref b]) (hT : l.stackTraces = false) (hK0 : KN G s s.heap) (hgl : gL G = s.heap.size) (hX : va_X b L xs s s.heap) (hbl : b < s.heap.size) {n : Nat} {i4 : Int32} (hn : n < 512) (h1 : vp_in (i4 + 1) L) (h2 : vp_in (i4 + 2) L) (kk : LAt p l e s m below meth c G b 1269 (n + 1) i4) : LAt p l e s m below meth c G b 1059 n i4 := by
  intro a b0 q w x v hs y H locs cells slots ls hR hW hS hc hs9 hl
  have hbA : ¬ (fun z : Nat => s.heap.size ≤ z) b := Nat.not_le.mpr hbl
  have hAL : ∀ z, s.heap.size ≤ z → gL G ≤ z := fun z h => by rw [hgl]; exact h
  have hKN := hK0.go hAL hS
  have hpx := RelH_x hR
  have hpv := RelH_v hR
  obtain ⟨x1, ex1⟩ : ∃ z, z = xs (i4 + 1).toNatClampNeg := ⟨_, rfl⟩
  obtain ⟨x2, ex2⟩ : ∃ z, z = xs (i4 + 2).toNatClampNeg := ⟨_, rfl⟩
  refine lv_aload_n hC.1 hC.2.1 dL_law_1059 rfl (lv_at hl 3 rfl) ?_
  refine lv_aload_n hC.1 hC.2.1 dL_law_1060 rfl (lv_at hl 4 rfl) ?_
  refine lv_iload hC.1 hC.2.1 dL_law_1061 (lv_at hl 0 rfl) ?_
  refine lv_iconst (v := 1) hC.1 hC.2.1 dL_law_1063 (by decide) ?_
  refine lv_iadd hC.1 hC.2.1 dL_law_1064 ?_
  refine va_sld hC.1 hC.2.1 hX hbl hbA hS h1 dL_law_1065 ?_
  rw [← ex1]
  refine lv_aload_n hC.1 hC.2.1 dL_law_1066 rfl (lv_at hl 1 rfl) ?_
  refine runEX (rSX (n := 3) (B := fun _ H => PW G (wlE G w y :: hdW G a b0 x) H) (As := [.ref (a 0), .int x1, .ref w]) (rest := []) hC cw_coolIn wd_0 wd_867 wd_866 (by decide +kernel) (c_L_coolIn l hT G a b0 x w y x1 hW.1 hW.2.2.1 hW.2.2.2.1) ⟨rfl, rfl⟩ ⟨Nat.le_of_ble_eq_true rfl, Nat.le_of_ble_eq_true rfl⟩ (stb_h (fun H => PW G (wlE G w y :: hdW G a b0 x) H)) hKN hW.P1 rfl hl.1 rfl (Nat.le_of_ble_eq_true rfl) dL_law_1067 ⟨(show _ ≤ 601024 by omega), (show _ ≤ 7293034 by omega)⟩) hS hW.A1 hW.A1 (fun H1 locs1 hB hz hk hS => ?_)
  obtain ⟨b', hR1, hP1⟩ := hB
  have hW := hW.left hR1 hP1 hk
  have hKN := hK0.go hAL hS
  have hop := op_coolIn hR x1
  obtain ⟨F, eF⟩ : ∃ F, F = (fX5_coolIn x x1) := ⟨_, rfl⟩
  rw [← eF] at hop hW ⊢
  obtain ⟨r5, e5⟩ : ∃ z, z = codeL (fun _ => 1) F := ⟨_, rfl⟩
  show W p l e room_1 s m #[Value.ref b] below meth c H1 locs1 (cells + 1) (slots + 6) (lw_Z below #[Value.ref b] s) (F0 m 1070 ls [.int (codeL (fun _ => 1) F)])
  rw [← e5]
  refine lv_istore (x := r5) (lv' := [(5, .int r5), (4, .int i4), (3, .ref w), (2, .ref (q 0)), (1, .ref (a 0)), (0, .ref b)]) hC.1 hC.2.1 dL_law_1070 hl (by decide) rfl (fun ls hl => ?_)
  refine lv_aload_n hC.1 hC.2.1 dL_law_1072 rfl (lv_at hl 3 rfl) ?_
  refine lv_aload_n hC.1 hC.2.1 dL_law_1073 rfl (lv_at hl 5 rfl) ?_
  refine lv_iload hC.1 hC.2.1 dL_law_1074 (lv_at hl 1 rfl) ?_
  refine lv_iconst (v := 1) hC.1 hC.2.1 dL_law_1076 (by decide) ?_
  refine lv_iadd hC.1 hC.2.1 dL_law_1077 ?_
  refine va_sld hC.1 hC.2.1 hX hbl hbA hS h1 dL_law_1078 ?_
  rw [← ex1]
  refine runE (rV (B := fun U H => PW G (mdW G q v hs) H) (As := [.int x1]) (rest := []) hC mwX6_coolIn (c_X6_coolIn l G q v hs x1 hW.2.1 (by first | exact hpv.1 | exact hpv.1.1 | exact hpv.1.2 | exact hpv.2.1 | exact hpv.2.2 | exact hpv.2.2.2.1 | exact ⟨hpv.1.1, hpv.1.2, hpv.2.1⟩)) iwX6_coolIn wd_1178 ⟨rfl, rfl⟩ ⟨Nat.le_of_ble_eq_true rfl, Nat.le_of_ble_eq_true rfl⟩ (stb_h (fun H => PW G (mdW G q v hs) H)) hKN hW.P2 (va_recv hKN.k hW.P2 (ci := 6) (q0 := 0) rfl rfl) rfl hl.1 rfl (Nat.le_of_ble_eq_true rfl) dL_law_1079 ⟨(show _ ≤ 601024 by omega), (show _ ≤ 7293034 by omega)⟩) hS hW.A2 hW.A2 (fun H2 locs2 hB hz hk hS => ?_)
  have hW := hW.right hB hk
  have hKN := hK0.go hAL hS
  obtain ⟨u, eu⟩ : ∃ u, u = (fX6_coolIn v x1) := ⟨_, rfl⟩
  rw [← eu] at hop hW ⊢
  obtain ⟨o1, o2, o3⟩ := hop
  refine lv_istore (x := u.2) (lv' := [(6, .int u.2), (5, .int r5), (4, .int i4), (3, .ref w), (2, .ref (q 0)), (1, .ref (a 0)), (0, .ref b)]) hC.1 hC.2.1 dL_law_1082 hl (by decide) rfl (fun ls hl => ?_)
  refine lv_aload_n hC.1 hC.2.1 dL_law_1084 rfl (lv_at hl 4 rfl) ?_
  refine runP (rV (B := fun U H => PW G (mdW G q u.1 hs) H) (As := []) (rest := []) hC mwX6_thrown (c_X6_thrown l G q u.1 hs) iwX6_thrown wd_942 ⟨rfl, rfl⟩ ⟨Nat.le_of_ble_eq_true rfl, Nat.le_of_ble_eq_true rfl⟩ (stb_h (fun H => PW G (mdW G q u.1 hs) H)) hKN hW.P2 (va_recv hKN.k hW.P2 (ci := 6) (q0 := 0) rfl rfl) rfl hl.1 rfl (Nat.le_of_ble_eq_true rfl) dL_law_1085 ⟨(show _ ≤ 601024 by omega), (show _ ≤ 7293034 by omega)⟩) ?_
  refine lv_iload hC.1 hC.2.1 dL_law_1088 (lv_at hl 1 rfl) ?_
  refine lv_icmp_eq (tgt := 1095) hC.1 hC.2.1 dL_law_1090 (by decide) (fun _ => ?_) (fun h => absurd (o2.trans e5.symm) h)
  refine lv_iload hC.1 hC.2.1 dL_law_1095 (lv_at hl 1 rfl) ?_
  have fin : W p l e room_1 s m #[Value.ref b] below meth c H2 locs2 (cells + 1 + 0) (slots + 6 + 0) (lw_Z below #[Value.ref b] s) (F0 m 1112 ls []) := by
    refine lv_goto (tgt := 1269) hC.1 hC.2.1 dL_law_1112 (by decide) ?_
    exact kk a b' q w (wldL F) u.1 hs (ansL F y) _ _ _ _ ls o1 hW hS (by omega) (by omega) (lv_sub hl [2, 3, 4, 5, 6] rfl)
  refine lv_if_ne (tgt := 1112) hC.1 hC.2.1 dL_law_1097 (by decide) (fun _ => fin) (fun h5 => ?_)
  refine lv_aload_n hC.1 hC.2.1 dL_law_1100 rfl (lv_at hl 3 rfl) ?_
  refine lv_iconst (v := 0) hC.1 hC.2.1 dL_law_1101 (by decide) ?_
  refine va_lald hC.1 hC.2.1 hKN.k hW.P1 0 1 rfl rfl (show vp_in (nI 0) 1 from vp_in_nI (by decide) (by decide)) dL_law_1102 ?_
  refine lv_iload hC.1 hC.2.1 dL_law_1103 (lv_at hl 0 rfl) ?_
  refine lv_i2l (v := u.2.toInt64) hC.1 hC.2.1 dL_law_1105 rfl ?_
  refine lv_lcmpE hC.1 hC.2.1 dL_law_1106 (o3 (e5.symm.trans h5) y) ?_
  exact lv_if_eq (tgt := 1112) hC.1 hC.2.1 dL_law_1107 (by decide) (fun _ => fin) (fun h => absurd rfl h)
theorem cw_darkFrom : Cond.codeWith yL_darkFrom cL_darkFrom 4 (some .int) [(0, 9, 12, 28)] ∈ bigW := bw4 156 rfl rfl
set_option maxHeartbeats 1000000 in
set_option maxRecDepth 100000 in
theorem lw_c19 {p : Program} {l : Launch} {e : Env} {s : State} {m : MethodId} {below : List Frame} {meth : Method} {c : Code} {G : GT} {b L : Nat} {xs : Nat → Int32} (hC : CX p s m meth c (lawName meth) code 9 ret #[Value.ref b]) (hT : l.stackTraces = false) (hK0 : KN G s s.heap) (hgl : gL G = s.heap.size) (hX : va_X b L xs s s.heap) (hbl : b < s.heap.size) {n : Nat} {i4 : Int32} (hn : n < 512) (h1 : vp_in (i4 + 1) L) (h2 : vp_in (i4 + 2) L) (kk : LAt p l e s m below meth c G b 1269 (n + 1) i4) : LAt p l e s m below meth c G b 1115 n i4 := by
  intro a b0 q w x v hs y H locs cells slots ls hR hW hS hc hs9 hl
  have hbA : ¬ (fun z : Nat => s.heap.size ≤ z) b := Nat.not_le.mpr hbl
  have hAL : ∀ z, s.heap.size ≤ z → gL G ≤ z := fun z h => by rw [hgl]; exact h
  have hKN := hK0.go hAL hS
  have hpx := RelH_x hR
  have hpv := RelH_v hR
  obtain ⟨x1, ex1⟩ : ∃ z, z = xs (i4 + 1).toNatClampNeg := ⟨_, rfl⟩
  obtain ⟨x2, ex2⟩ : ∃ z, z = xs (i4 + 2).toNatClampNeg := ⟨_, rfl⟩
  refine lv_aload_n hC.1 hC.2.1 dL_law_1115 rfl (lv_at hl 3 rfl) ?_
  refine lv_aload_n hC.1 hC.2.1 dL_law_1116 rfl (lv_at hl 4 rfl) ?_
  refine lv_iload hC.1 hC.2.1 dL_law_1117 (lv_at hl 0 rfl) ?_
  refine lv_iconst (v := 1) hC.1 hC.2.1 dL_law_1119 (by decide) ?_
  refine lv_iadd hC.1 hC.2.1 dL_law_1120 ?_
  refine va_sld hC.1 hC.2.1 hX hbl hbA hS h1 dL_law_1121 ?_
  rw [← ex1]
  refine lv_aload_n hC.1 hC.2.1 dL_law_1122 rfl (lv_at hl 1 rfl) ?_
  refine runEX (rSX (n := 3) (B := fun _ H => PW G (wlE G w y :: hdW G a b0 x) H) (As := [.ref (a 0), .int x1, .ref w]) (rest := []) hC cw_darkFrom wd_0 wd_875 wd_874 (by decide +kernel) (c_L_darkFrom l hT G a b0 x w y x1 hW.1 hW.2.2.1 hW.2.2.2.1) ⟨rfl, rfl⟩ ⟨Nat.le_of_ble_eq_true rfl, Nat.le_of_ble_eq_true rfl⟩ (stb_h (fun H => PW G (wlE G w y :: hdW G a b0 x) H)) hKN hW.P1 rfl hl.1 rfl (Nat.le_of_ble_eq_true rfl) dL_law_1123 ⟨(show _ ≤ 601024 by omega), (show _ ≤ 7293034 by omega)⟩) hS hW.A1 hW.A1 (fun H1 locs1 hB hz hk hS => ?_)
  obtain ⟨b', hR1, hP1⟩ := hB
  have hW := hW.left hR1 hP1 hk
  have hKN := hK0.go hAL hS
  have hop := op_darkFrom hR x1
  obtain ⟨F, eF⟩ : ∃ F, F = (fX5_darkFrom x x1) := ⟨_, rfl⟩
  rw [← eF] at hop hW ⊢
  obtain ⟨r5, e5⟩ : ∃ z, z = codeL (fun _ => 1) F := ⟨_, rfl⟩
  show W p l e room_1 s m #[Value.ref b] below meth c H1 locs1 (cells + 1) (slots + 6) (lw_Z below #[Value.ref b] s) (F0 m 1126 ls [.int (codeL (fun _ => 1) F)])
  rw [← e5]
  refine lv_istore (x := r5) (lv' := [(5, .int r5), (4, .int i4), (3, .ref w), (2, .ref (q 0)), (1, .ref (a 0)), (0, .ref b)]) hC.1 hC.2.1 dL_law_1126 hl (by decide) rfl (fun ls hl => ?_)
  refine lv_aload_n hC.1 hC.2.1 dL_law_1128 rfl (lv_at hl 3 rfl) ?_
  refine lv_aload_n hC.1 hC.2.1 dL_law_1129 rfl (lv_at hl 5 rfl) ?_
  refine lv_iload hC.1 hC.2.1 dL_law_1130 (lv_at hl 1 rfl) ?_
  refine lv_iconst (v := 1) hC.1 hC.2.1 dL_law_1132 (by decide) ?_
  refine lv_iadd hC.1 hC.2.1 dL_law_1133 ?_
  refine va_sld hC.1 hC.2.1 hX hbl hbA hS h1 dL_law_1134 ?_
  rw [← ex1]
  refine runE (rV (B := fun U H => PW G (mdW G q v hs) H) (As := [.int x1]) (rest := []) hC mwX6_darkFrom (c_X6_darkFrom l G q v hs x1 hW.2.1 (by first | exact hpv.1 | exact hpv.1.1 | exact hpv.1.2 | exact hpv.2.1 | exact hpv.2.2 | exact hpv.2.2.2.1 | exact ⟨hpv.1.1, hpv.1.2, hpv.2.1⟩)) iwX6_darkFrom wd_1186 ⟨rfl, rfl⟩ ⟨Nat.le_of_ble_eq_true rfl, Nat.le_of_ble_eq_true rfl⟩ (stb_h (fun H => PW G (mdW G q v hs) H)) hKN hW.P2 (va_recv hKN.k hW.P2 (ci := 6) (q0 := 0) rfl rfl) rfl hl.1 rfl (Nat.le_of_ble_eq_true rfl) dL_law_1135 ⟨(show _ ≤ 601024 by omega), (show _ ≤ 7293034 by omega)⟩) hS hW.A2 hW.A2 (fun H2 locs2 hB hz hk hS => ?_)
  have hW := hW.right hB hk
  have hKN := hK0.go hAL hS
  obtain ⟨u, eu⟩ : ∃ u, u = (fX6_darkFrom v x1) := ⟨_, rfl⟩
  rw [← eu] at hop hW ⊢
  obtain ⟨o1, o2, o3⟩ := hop
  refine lv_istore (x := u.2) (lv' := [(6, .int u.2), (5, .int r5), (4, .int i4), (3, .ref w), (2, .ref (q 0)), (1, .ref (a 0)), (0, .ref b)]) hC.1 hC.2.1 dL_law_1138 hl (by decide) rfl (fun ls hl => ?_)
  refine lv_aload_n hC.1 hC.2.1 dL_law_1140 rfl (lv_at hl 4 rfl) ?_
  refine runP (rV (B := fun U H => PW G (mdW G q u.1 hs) H) (As := []) (rest := []) hC mwX6_thrown (c_X6_thrown l G q u.1 hs) iwX6_thrown wd_942 ⟨rfl, rfl⟩ ⟨Nat.le_of_ble_eq_true rfl, Nat.le_of_ble_eq_true rfl⟩ (stb_h (fun H => PW G (mdW G q u.1 hs) H)) hKN hW.P2 (va_recv hKN.k hW.P2 (ci := 6) (q0 := 0) rfl rfl) rfl hl.1 rfl (Nat.le_of_ble_eq_true rfl) dL_law_1141 ⟨(show _ ≤ 601024 by omega), (show _ ≤ 7293034 by omega)⟩) ?_
  refine lv_iload hC.1 hC.2.1 dL_law_1144 (lv_at hl 1 rfl) ?_
  refine lv_icmp_eq (tgt := 1151) hC.1 hC.2.1 dL_law_1146 (by decide) (fun _ => ?_) (fun h => absurd (o2.trans e5.symm) h)
  refine lv_iload hC.1 hC.2.1 dL_law_1151 (lv_at hl 1 rfl) ?_
  have fin : W p l e room_1 s m #[Value.ref b] below meth c H2 locs2 (cells + 1 + 0) (slots + 6 + 0) (lw_Z below #[Value.ref b] s) (F0 m 1168 ls []) := by
    refine lv_goto (tgt := 1269) hC.1 hC.2.1 dL_law_1168 (by decide) ?_
    exact kk a b' q w (wldL F) u.1 hs (ansL F y) _ _ _ _ ls o1 hW hS (by omega) (by omega) (lv_sub hl [2, 3, 4, 5, 6] rfl)
  refine lv_if_ne (tgt := 1168) hC.1 hC.2.1 dL_law_1153 (by decide) (fun _ => fin) (fun h5 => ?_)
  refine lv_aload_n hC.1 hC.2.1 dL_law_1156 rfl (lv_at hl 3 rfl) ?_
  refine lv_iconst (v := 0) hC.1 hC.2.1 dL_law_1157 (by decide) ?_
  refine va_lald hC.1 hC.2.1 hKN.k hW.P1 0 1 rfl rfl (show vp_in (nI 0) 1 from vp_in_nI (by decide) (by decide)) dL_law_1158 ?_
  refine lv_iload hC.1 hC.2.1 dL_law_1159 (lv_at hl 0 rfl) ?_
  refine lv_i2l (v := u.2.toInt64) hC.1 hC.2.1 dL_law_1161 rfl ?_
  refine lv_lcmpE hC.1 hC.2.1 dL_law_1162 (o3 (e5.symm.trans h5) y) ?_
  exact lv_if_eq (tgt := 1168) hC.1 hC.2.1 dL_law_1163 (by decide) (fun _ => fin) (fun h => absurd rfl h)
