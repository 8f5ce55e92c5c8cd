section KC
variable {L : Nat} {xs : Nat → Int32} {σ : Hp} {i : Int}
theorem lk_20 (hL : L ≤ 4608) (h0 : 0 ≤ i) (h1 : i + 9 ≤ L) (h : Rel σ) (hK : ∀ ω, Rel ω → KJ L xs 1247 [(0, vR 1001), (1, vR 0), (2, vR 69), (3, vI i)] [] ω) : KJ L xs 857 [(0, vR 1001), (1, vR 0), (2, vR 69), (3, vI i)] [] σ := by
  refine k_aload_n (p2 := 858) dW_857 rfl rfl ?_
  refine k_aload_n (p2 := 859) dW_858 rfl rfl ?_
  refine k_iload_n (p2 := 860) dW_859 rfl rfl ?_
  refine k_iconst (p2 := 861) dW_860 rfl ?_
  refine k_iadd (p2 := 862) dW_861 rfl ?_
  refine k_sld (p2 := 863) dW_862 rfl (by omega) (by omega) hL ?_
  refine k_callV (p2 := 866) (m' := mX_samples) (As := [_]) (st := []) dW_863 rfl ml_W_102 ok_mX_samples im_mX_samples se_mX_samples rfl rfl (Nat.le_of_ble_eq_true rfl) ly_0 rfl (Nat.le_of_ble_eq_true rfl) ⟨(Nat.le_of_ble_eq_true rfl), (Nat.le_of_ble_eq_true rfl)⟩ ?_
  refine Sp.mono (pr_samples h (x_in _)) (fun r τ hq => ?_)
  obtain ⟨v, rfl, hq⟩ := hq
  refine k_aload_n (p2 := 867) dW_866 rfl rfl ?_
  refine k_aload_n (p2 := 868) dW_867 rfl rfl ?_
  refine k_iload_n (p2 := 869) dW_868 rfl rfl ?_
  refine k_iconst (p2 := 870) dW_869 rfl ?_
  refine k_iadd (p2 := 871) dW_870 rfl ?_
  refine k_sld (p2 := 872) dW_871 rfl (by omega) (by omega) hL ?_
  refine k_callV (p2 := 875) (m' := mM_samples) (As := [_]) (st := [vI v]) dW_872 rfl ml_W_105 ok_mM_samples im_mM_samples se_mM_samples rfl rfl (Nat.le_of_ble_eq_true rfl) ly_69 rfl (Nat.le_of_ble_eq_true rfl) ⟨(Nat.le_of_ble_eq_true rfl), (Nat.le_of_ble_eq_true rfl)⟩ ?_
  refine Sp.mono hq (fun r ω hw => ?_)
  obtain ⟨rfl, hr⟩ := hw
  refine k_icmp_same (tg := 1247) dW_875 (by decide) ?_
  exact hK _ hr
theorem lk_21 (hL : L ≤ 4608) (h0 : 0 ≤ i) (h1 : i + 9 ≤ L) (h : Rel σ) (hK : ∀ ω, Rel ω → KJ L xs 1247 [(0, vR 1001), (1, vR 0), (2, vR 69), (3, vI i)] [] ω) : KJ L xs 880 [(0, vR 1001), (1, vR 0), (2, vR 69), (3, vI i)] [] σ := by
  refine k_aload_n (p2 := 881) dW_880 rfl rfl ?_
  refine k_aload_n (p2 := 882) dW_881 rfl rfl ?_
  refine k_iload_n (p2 := 883) dW_882 rfl rfl ?_
  refine k_iconst (p2 := 884) dW_883 rfl ?_
  refine k_iadd (p2 := 885) dW_884 rfl ?_
  refine k_sld (p2 := 886) dW_885 rfl (by omega) (by omega) hL ?_
  refine k_aload_n (p2 := 887) dW_886 rfl rfl ?_
  refine k_iload_n (p2 := 888) dW_887 rfl rfl ?_
  refine k_iconst (p2 := 889) dW_888 rfl ?_
  refine k_iadd (p2 := 890) dW_889 rfl ?_
  refine k_sld (p2 := 891) dW_890 rfl (by omega) (by omega) hL ?_
  refine k_callV (p2 := 894) (m' := mX_sample) (As := [_, _]) (st := []) dW_891 rfl ml_W_106 ok_mX_sample im_mX_sample se_mX_sample rfl rfl (Nat.le_of_ble_eq_true rfl) ly_0 rfl (Nat.le_of_ble_eq_true rfl) ⟨(Nat.le_of_ble_eq_true rfl), (Nat.le_of_ble_eq_true rfl)⟩ ?_
  refine Sp.mono (pr_sample h (x_in _) (x_in _)) (fun r τ hq => ?_)
  obtain ⟨v, rfl, hq⟩ := hq
  refine k_aload_n (p2 := 895) dW_894 rfl rfl ?_
  refine k_aload_n (p2 := 896) dW_895 rfl rfl ?_
  refine k_iload_n (p2 := 897) dW_896 rfl rfl ?_
  refine k_iconst (p2 := 898) dW_897 rfl ?_
  refine k_iadd (p2 := 899) dW_898 rfl ?_
  refine k_sld (p2 := 900) dW_899 rfl (by omega) (by omega) hL ?_
  refine k_aload_n (p2 := 901) dW_900 rfl rfl ?_
  refine k_iload_n (p2 := 902) dW_901 rfl rfl ?_
  refine k_iconst (p2 := 903) dW_902 rfl ?_
  refine k_iadd (p2 := 904) dW_903 rfl ?_
  refine k_sld (p2 := 905) dW_904 rfl (by omega) (by omega) hL ?_
  refine k_callV (p2 := 908) (m' := mM_sample) (As := [_, _]) (st := [vL v]) dW_905 rfl ml_W_110 ok_mM_sample im_mM_sample se_mM_sample rfl rfl (Nat.le_of_ble_eq_true rfl) ly_69 rfl (Nat.le_of_ble_eq_true rfl) ⟨(Nat.le_of_ble_eq_true rfl), (Nat.le_of_ble_eq_true rfl)⟩ ?_
  refine Sp.mono hq (fun r ω hw => ?_)
  obtain ⟨rfl, hr⟩ := hw
  refine k_lcmp_same (p1 := 909) (tg := 1247) dW_908 rfl dW_909 (by decide) ?_
  exact hK _ hr
theorem lk_22 (hL : L ≤ 4608) (h0 : 0 ≤ i) (h1 : i + 9 ≤ L) (h : Rel σ) (hK : ∀ ω, Rel ω → KJ L xs 1247 [(0, vR 1001), (1, vR 0), (2, vR 69), (3, vI i)] [] ω) : KJ L xs 914 [(0, vR 1001), (1, vR 0), (2, vR 69), (3, vI i)] [] σ := by
  refine k_aload_n (p2 := 915) dW_914 rfl rfl ?_
  refine k_aload_n (p2 := 916) dW_915 rfl rfl ?_
  refine k_iload_n (p2 := 917) dW_916 rfl rfl ?_
  refine k_iconst (p2 := 918) dW_917 rfl ?_
  refine k_iadd (p2 := 919) dW_918 rfl ?_
  refine k_sld (p2 := 920) dW_919 rfl (by omega) (by omega) hL ?_
  refine k_aload_n (p2 := 921) dW_920 rfl rfl ?_
  refine k_iload_n (p2 := 922) dW_921 rfl rfl ?_
  refine k_iconst (p2 := 923) dW_922 rfl ?_
  refine k_iadd (p2 := 924) dW_923 rfl ?_
  refine k_sld (p2 := 925) dW_924 rfl (by omega) (by omega) hL ?_
  refine k_callV (p2 := 928) (m' := mX_crossing) (As := [_, _]) (st := []) dW_925 rfl ml_W_111 ok_mX_crossing im_mX_crossing se_mX_crossing rfl rfl (Nat.le_of_ble_eq_true rfl) ly_0 rfl (Nat.le_of_ble_eq_true rfl) ⟨(Nat.le_of_ble_eq_true rfl), (Nat.le_of_ble_eq_true rfl)⟩ ?_
  refine Sp.mono (pr_crossing h (x_in _) (x_in _)) (fun r τ hq => ?_)
  obtain ⟨v, rfl, hq⟩ := hq
  refine k_aload_n (p2 := 929) dW_928 rfl rfl ?_
  refine k_aload_n (p2 := 930) dW_929 rfl rfl ?_
  refine k_iload_n (p2 := 931) dW_930 rfl rfl ?_
  refine k_iconst (p2 := 932) dW_931 rfl ?_
  refine k_iadd (p2 := 933) dW_932 rfl ?_
  refine k_sld (p2 := 934) dW_933 rfl (by omega) (by omega) hL ?_
  refine k_aload_n (p2 := 935) dW_934 rfl rfl ?_
  refine k_iload_n (p2 := 936) dW_935 rfl rfl ?_
  refine k_iconst (p2 := 937) dW_936 rfl ?_
  refine k_iadd (p2 := 938) dW_937 rfl ?_
  refine k_sld (p2 := 939) dW_938 rfl (by omega) (by omega) hL ?_
  refine k_callV (p2 := 942) (m' := mM_crossing) (As := [_, _]) (st := [vI v]) dW_939 rfl ml_W_114 ok_mM_crossing im_mM_crossing se_mM_crossing rfl rfl (Nat.le_of_ble_eq_true rfl) ly_69 rfl (Nat.le_of_ble_eq_true rfl) ⟨(Nat.le_of_ble_eq_true rfl), (Nat.le_of_ble_eq_true rfl)⟩ ?_
  refine Sp.mono hq (fun r ω hw => ?_)
  obtain ⟨rfl, hr⟩ := hw
  refine k_icmp_same (tg := 1247) dW_942 (by decide) ?_
  exact hK _ hr
theorem lk_23 (hL : L ≤ 4608) (h0 : 0 ≤ i) (h1 : i + 9 ≤ L) (h : Rel σ) (hK : ∀ ω, Rel ω → KJ L xs 1247 [(0, vR 1001), (1, vR 0), (2, vR 69), (3, vI i)] [] ω) : KJ L xs 947 [(0, vR 1001), (1, vR 0), (2, vR 69), (3, vI i)] [] σ := by
  refine k_aload_n (p2 := 948) dW_947 rfl rfl ?_
  refine k_aload_n (p2 := 949) dW_948 rfl rfl ?_
  refine k_iload_n (p2 := 950) dW_949 rfl rfl ?_
  refine k_iconst (p2 := 951) dW_950 rfl ?_
  refine k_iadd (p2 := 952) dW_951 rfl ?_
  refine k_sld (p2 := 953) dW_952 rfl (by omega) (by omega) hL ?_
  refine k_aload_n (p2 := 954) dW_953 rfl rfl ?_
  refine k_iload_n (p2 := 955) dW_954 rfl rfl ?_
  refine k_iconst (p2 := 956) dW_955 rfl ?_
  refine k_iadd (p2 := 957) dW_956 rfl ?_
  refine k_sld (p2 := 958) dW_957 rfl (by omega) (by omega) hL ?_
  refine k_callV (p2 := 961) (m' := mX_peak) (As := [_, _]) (st := []) dW_958 rfl ml_W_115 ok_mX_peak im_mX_peak se_mX_peak rfl rfl (Nat.le_of_ble_eq_true rfl) ly_0 rfl (Nat.le_of_ble_eq_true rfl) ⟨(Nat.le_of_ble_eq_true rfl), (Nat.le_of_ble_eq_true rfl)⟩ ?_
  refine Sp.mono (pr_peak h (x_in _) (x_in _)) (fun r τ hq => ?_)
  obtain ⟨v, rfl, hq⟩ := hq
  refine k_aload_n (p2 := 962) dW_961 rfl rfl ?_
  refine k_aload_n (p2 := 963) dW_962 rfl rfl ?_
  refine k_iload_n (p2 := 964) dW_963 rfl rfl ?_
  refine k_iconst (p2 := 965) dW_964 rfl ?_
  refine k_iadd (p2 := 966) dW_965 rfl ?_
  refine k_sld (p2 := 967) dW_966 rfl (by omega) (by omega) hL ?_
  refine k_aload_n (p2 := 968) dW_967 rfl rfl ?_
  refine k_iload_n (p2 := 969) dW_968 rfl rfl ?_
  refine k_iconst (p2 := 970) dW_969 rfl ?_
  refine k_iadd (p2 := 971) dW_970 rfl ?_
  refine k_sld (p2 := 972) dW_971 rfl (by omega) (by omega) hL ?_
  refine k_callV (p2 := 975) (m' := mM_peak) (As := [_, _]) (st := [vI v]) dW_972 rfl ml_W_118 ok_mM_peak im_mM_peak se_mM_peak rfl rfl (Nat.le_of_ble_eq_true rfl) ly_69 rfl (Nat.le_of_ble_eq_true rfl) ⟨(Nat.le_of_ble_eq_true rfl), (Nat.le_of_ble_eq_true rfl)⟩ ?_
  refine Sp.mono hq (fun r ω hw => ?_)
  obtain ⟨rfl, hr⟩ := hw
  refine k_icmp_same (tg := 1247) dW_975 (by decide) ?_
  exact hK _ hr
theorem lk_24 (hL : L ≤ 4608) (h0 : 0 ≤ i) (h1 : i + 9 ≤ L) (h : Rel σ) (hK : ∀ ω, Rel ω → KJ L xs 1247 [(0, vR 1001), (1, vR 0), (2, vR 69), (3, vI i)] [] ω) : KJ L xs 980 [(0, vR 1001), (1, vR 0), (2, vR 69), (3, vI i)] [] σ := by
  refine k_aload_n (p2 := 981) dW_980 rfl rfl ?_
  refine k_aload_n (p2 := 982) dW_981 rfl rfl ?_
  refine k_iload_n (p2 := 983) dW_982 rfl rfl ?_
  refine k_iconst (p2 := 984) dW_983 rfl ?_
  refine k_iadd (p2 := 985) dW_984 rfl ?_
  refine k_sld (p2 := 986) dW_985 rfl (by omega) (by omega) hL ?_
  refine k_aload_n (p2 := 987) dW_986 rfl rfl ?_
  refine k_iload_n (p2 := 988) dW_987 rfl rfl ?_
  refine k_iconst (p2 := 989) dW_988 rfl ?_
  refine k_iadd (p2 := 990) dW_989 rfl ?_
  refine k_sld (p2 := 991) dW_990 rfl (by omega) (by omega) hL ?_
  refine k_i2l (p2 := 992) dW_991 rfl ?_
  refine k_bipush (v := 32) (p2 := 994) dW_992 rfl rfl ?_
  refine k_lshl (p2 := 995) dW_994 rfl ?_
  refine k_aload_n (p2 := 996) dW_995 rfl rfl ?_
  refine k_iload_n (p2 := 997) dW_996 rfl rfl ?_
  refine k_iconst (p2 := 998) dW_997 rfl ?_
  refine k_iadd (p2 := 999) dW_998 rfl ?_
  refine k_sld (p2 := 1000) dW_999 rfl (by omega) (by omega) hL ?_
  refine k_i2l (p2 := 1001) dW_1000 rfl ?_
  refine k_ldc2 (p2 := 1004) dW_1001 rfl cw_W_13 ?_
  refine k_land (p2 := 1005) dW_1004 rfl ?_
  refine k_lor (p2 := 1006) dW_1005 rfl ?_
  refine k_aload_n (p2 := 1007) dW_1006 rfl rfl ?_
  refine k_iload_n (p2 := 1008) dW_1007 rfl rfl ?_
  refine k_iconst (p2 := 1009) dW_1008 rfl ?_
  refine k_iadd (p2 := 1010) dW_1009 rfl ?_
  refine k_sld (p2 := 1011) dW_1010 rfl (by omega) (by omega) hL ?_
  refine k_i2l (p2 := 1012) dW_1011 rfl ?_
  refine k_bipush (v := 32) (p2 := 1014) dW_1012 rfl rfl ?_
  refine k_lshl (p2 := 1015) dW_1014 rfl ?_
  refine k_aload_n (p2 := 1016) dW_1015 rfl rfl ?_
  refine k_iload_n (p2 := 1017) dW_1016 rfl rfl ?_
  refine k_iconst (p2 := 1018) dW_1017 rfl ?_
  refine k_iadd (p2 := 1019) dW_1018 rfl ?_
  refine k_sld (p2 := 1020) dW_1019 rfl (by omega) (by omega) hL ?_
  refine k_i2l (p2 := 1021) dW_1020 rfl ?_
  refine k_ldc2 (p2 := 1024) dW_1021 rfl cw_W_13 ?_
  refine k_land (p2 := 1025) dW_1024 rfl ?_
  refine k_lor (p2 := 1026) dW_1025 rfl ?_
  refine k_aload_n (p2 := 1027) dW_1026 rfl rfl ?_
  refine k_iload_n (p2 := 1028) dW_1027 rfl rfl ?_
  refine k_bipush (v := 6) (p2 := 1030) dW_1028 rfl rfl ?_
  refine k_iadd (p2 := 1031) dW_1030 rfl ?_
  refine k_sld (p2 := 1032) dW_1031 rfl (by omega) (by omega) hL ?_
  refine k_aload_n (p2 := 1033) dW_1032 rfl rfl ?_
  refine k_iload_n (p2 := 1034) dW_1033 rfl rfl ?_
  refine k_bipush (v := 7) (p2 := 1036) dW_1034 rfl rfl ?_
  refine k_iadd (p2 := 1037) dW_1036 rfl ?_
  refine k_sld (p2 := 1038) dW_1037 rfl (by omega) (by omega) hL ?_
  refine k_aload_n (p2 := 1039) dW_1038 rfl rfl ?_
  refine k_iload_n (p2 := 1040) dW_1039 rfl rfl ?_
  refine k_bipush (v := 8) (p2 := 1042) dW_1040 rfl rfl ?_
  refine k_iadd (p2 := 1043) dW_1042 rfl ?_
  refine k_sld (p2 := 1044) dW_1043 rfl (by omega) (by omega) hL ?_
  refine k_callV (p2 := 1047) (m' := mX_sweep) (As := [_, _, _, _, _, _]) (st := []) dW_1044 rfl ml_W_119 ok_mX_sweep im_mX_sweep se_mX_sweep rfl rfl (Nat.le_of_ble_eq_true rfl) ly_0 rfl (Nat.le_of_ble_eq_true rfl) ⟨(Nat.le_of_ble_eq_true rfl), (Nat.le_of_ble_eq_true rfl)⟩ ?_
  refine Sp.mono (pr_sweep h (x_in _) (x_in _) (x_in _) (x_in _)) (fun r τ hq => ?_)
  obtain ⟨v, rfl, hq⟩ := hq
  refine k_aload_n (p2 := 1048) dW_1047 rfl rfl ?_
  refine k_aload_n (p2 := 1049) dW_1048 rfl rfl ?_
  refine k_iload_n (p2 := 1050) dW_1049 rfl rfl ?_
  refine k_iconst (p2 := 1051) dW_1050 rfl ?_
  refine k_iadd (p2 := 1052) dW_1051 rfl ?_
  refine k_sld (p2 := 1053) dW_1052 rfl (by omega) (by omega) hL ?_
  refine k_aload_n (p2 := 1054) dW_1053 rfl rfl ?_
  refine k_iload_n (p2 := 1055) dW_1054 rfl rfl ?_
  refine k_iconst (p2 := 1056) dW_1055 rfl ?_
  refine k_iadd (p2 := 1057) dW_1056 rfl ?_
  refine k_sld (p2 := 1058) dW_1057 rfl (by omega) (by omega) hL ?_
  refine k_i2l (p2 := 1059) dW_1058 rfl ?_
  refine k_bipush (v := 32) (p2 := 1061) dW_1059 rfl rfl ?_
  refine k_lshl (p2 := 1062) dW_1061 rfl ?_
  refine k_aload_n (p2 := 1063) dW_1062 rfl rfl ?_
  refine k_iload_n (p2 := 1064) dW_1063 rfl rfl ?_
  refine k_iconst (p2 := 1065) dW_1064 rfl ?_
  refine k_iadd (p2 := 1066) dW_1065 rfl ?_
  refine k_sld (p2 := 1067) dW_1066 rfl (by omega) (by omega) hL ?_
  refine k_i2l (p2 := 1068) dW_1067 rfl ?_
  refine k_ldc2 (p2 := 1071) dW_1068 rfl cw_W_13 ?_
  refine k_land (p2 := 1072) dW_1071 rfl ?_
  refine k_lor (p2 := 1073) dW_1072 rfl ?_
  refine k_aload_n (p2 := 1074) dW_1073 rfl rfl ?_
  refine k_iload_n (p2 := 1075) dW_1074 rfl rfl ?_
  refine k_iconst (p2 := 1076) dW_1075 rfl ?_
  refine k_iadd (p2 := 1077) dW_1076 rfl ?_
  refine k_sld (p2 := 1078) dW_1077 rfl (by omega) (by omega) hL ?_
  refine k_i2l (p2 := 1079) dW_1078 rfl ?_
  refine k_bipush (v := 32) (p2 := 1081) dW_1079 rfl rfl ?_
  refine k_lshl (p2 := 1082) dW_1081 rfl ?_
  refine k_aload_n (p2 := 1083) dW_1082 rfl rfl ?_
  refine k_iload_n (p2 := 1084) dW_1083 rfl rfl ?_
  refine k_iconst (p2 := 1085) dW_1084 rfl ?_
  refine k_iadd (p2 := 1086) dW_1085 rfl ?_
  refine k_sld (p2 := 1087) dW_1086 rfl (by omega) (by omega) hL ?_
  refine k_i2l (p2 := 1088) dW_1087 rfl ?_
  refine k_ldc2 (p2 := 1091) dW_1088 rfl cw_W_13 ?_
  refine k_land (p2 := 1092) dW_1091 rfl ?_
  refine k_lor (p2 := 1093) dW_1092 rfl ?_
  refine k_aload_n (p2 := 1094) dW_1093 rfl rfl ?_
  refine k_iload_n (p2 := 1095) dW_1094 rfl rfl ?_
  refine k_bipush (v := 6) (p2 := 1097) dW_1095 rfl rfl ?_
  refine k_iadd (p2 := 1098) dW_1097 rfl ?_
  refine k_sld (p2 := 1099) dW_1098 rfl (by omega) (by omega) hL ?_
  refine k_aload_n (p2 := 1100) dW_1099 rfl rfl ?_
  refine k_iload_n (p2 := 1101) dW_1100 rfl rfl ?_
  refine k_bipush (v := 7) (p2 := 1103) dW_1101 rfl rfl ?_
  refine k_iadd (p2 := 1104) dW_1103 rfl ?_
  refine k_sld (p2 := 1105) dW_1104 rfl (by omega) (by omega) hL ?_
  refine k_aload_n (p2 := 1106) dW_1105 rfl rfl ?_
  refine k_iload_n (p2 := 1107) dW_1106 rfl rfl ?_
  refine k_bipush (v := 8) (p2 := 1109) dW_1107 rfl rfl ?_
  refine k_iadd (p2 := 1110) dW_1109 rfl ?_
  refine k_sld (p2 := 1111) dW_1110 rfl (by omega) (by omega) hL ?_
  refine k_callV (p2 := 1114) (m' := mM_sweep) (As := [_, _, _, _, _, _]) (st := [vI v]) dW_1111 rfl ml_W_123 ok_mM_sweep im_mM_sweep se_mM_sweep rfl rfl (Nat.le_of_ble_eq_true rfl) ly_69 rfl (Nat.le_of_ble_eq_true rfl) ⟨(Nat.le_of_ble_eq_true rfl), (Nat.le_of_ble_eq_true rfl)⟩ ?_
  refine Sp.mono hq (fun r ω hw => ?_)
  obtain ⟨rfl, hr⟩ := hw
  refine k_icmp_same (tg := 1247) dW_1114 (by decide) ?_
  exact hK _ hr
theorem lk_25 (hL : L ≤ 4608) (h0 : 0 ≤ i) (h1 : i + 9 ≤ L) (h : Rel σ) (hK : ∀ ω, Rel ω → KJ L xs 1247 [(0, vR 1001), (1, vR 0), (2, vR 69), (3, vI i)] [] ω) : KJ L xs 1119 [(0, vR 1001), (1, vR 0), (2, vR 69), (3, vI i)] [] σ := by
  refine k_aload_n (p2 := 1120) dW_1119 rfl rfl ?_
  refine k_aload_n (p2 := 1121) dW_1120 rfl rfl ?_
  refine k_iload_n (p2 := 1122) dW_1121 rfl rfl ?_
  refine k_iconst (p2 := 1123) dW_1122 rfl ?_
  refine k_iadd (p2 := 1124) dW_1123 rfl ?_
  refine k_sld (p2 := 1125) dW_1124 rfl (by omega) (by omega) hL ?_
  refine k_callV (p2 := 1128) (m' := mX_swept) (As := [_]) (st := []) dW_1125 rfl ml_W_124 ok_mX_swept im_mX_swept se_mX_swept rfl rfl (Nat.le_of_ble_eq_true rfl) ly_0 rfl (Nat.le_of_ble_eq_true rfl) ⟨(Nat.le_of_ble_eq_true rfl), (Nat.le_of_ble_eq_true rfl)⟩ ?_
  refine Sp.mono (pr_swept h (x_in _)) (fun r τ hq => ?_)
  obtain ⟨v, rfl, hq⟩ := hq
  refine k_aload_n (p2 := 1129) dW_1128 rfl rfl ?_
  refine k_aload_n (p2 := 1130) dW_1129 rfl rfl ?_
  refine k_iload_n (p2 := 1131) dW_1130 rfl rfl ?_
  refine k_iconst (p2 := 1132) dW_1131 rfl ?_
  refine k_iadd (p2 := 1133) dW_1132 rfl ?_
  refine k_sld (p2 := 1134) dW_1133 rfl (by omega) (by omega) hL ?_
  refine k_callV (p2 := 1137) (m' := mM_swept) (As := [_]) (st := [vL v]) dW_1134 rfl ml_W_127 ok_mM_swept im_mM_swept se_mM_swept rfl rfl (Nat.le_of_ble_eq_true rfl) ly_69 rfl (Nat.le_of_ble_eq_true rfl) ⟨(Nat.le_of_ble_eq_true rfl), (Nat.le_of_ble_eq_true rfl)⟩ ?_
  refine Sp.mono hq (fun r ω hw => ?_)
  obtain ⟨rfl, hr⟩ := hw
  refine k_lcmp_same (p1 := 1138) (tg := 1247) dW_1137 rfl dW_1138 (by decide) ?_
  exact hK _ hr
theorem lk_26 (hL : L ≤ 4608) (h0 : 0 ≤ i) (h1 : i + 9 ≤ L) (h : Rel σ) (hK : ∀ ω, Rel ω → KJ L xs 1247 [(0, vR 1001), (1, vR 0), (2, vR 69), (3, vI i)] [] ω) : KJ L xs 1143 [(0, vR 1001), (1, vR 0), (2, vR 69), (3, vI i)] [] σ := by
  refine k_aload_n (p2 := 1144) dW_1143 rfl rfl ?_
  refine k_aload_n (p2 := 1145) dW_1144 rfl rfl ?_
  refine k_iload_n (p2 := 1146) dW_1145 rfl rfl ?_
  refine k_iconst (p2 := 1147) dW_1146 rfl ?_
  refine k_iadd (p2 := 1148) dW_1147 rfl ?_
  refine k_sld (p2 := 1149) dW_1148 rfl (by omega) (by omega) hL ?_
  refine k_aload_n (p2 := 1150) dW_1149 rfl rfl ?_
  refine k_iload_n (p2 := 1151) dW_1150 rfl rfl ?_
  refine k_iconst (p2 := 1152) dW_1151 rfl ?_
  refine k_iadd (p2 := 1153) dW_1152 rfl ?_
  refine k_sld (p2 := 1154) dW_1153 rfl (by omega) (by omega) hL ?_
  refine k_callV (p2 := 1157) (m' := mX_halved) (As := [_, _]) (st := []) dW_1154 rfl ml_W_128 ok_mX_halved im_mX_halved se_mX_halved rfl rfl (Nat.le_of_ble_eq_true rfl) ly_0 rfl (Nat.le_of_ble_eq_true rfl) ⟨(Nat.le_of_ble_eq_true rfl), (Nat.le_of_ble_eq_true rfl)⟩ ?_
  refine Sp.mono (pr_halved h (x_in _) (x_in _)) (fun r τ hq => ?_)
  obtain ⟨v, rfl, hq⟩ := hq
  refine k_aload_n (p2 := 1158) dW_1157 rfl rfl ?_
  refine k_aload_n (p2 := 1159) dW_1158 rfl rfl ?_
  refine k_iload_n (p2 := 1160) dW_1159 rfl rfl ?_
  refine k_iconst (p2 := 1161) dW_1160 rfl ?_
  refine k_iadd (p2 := 1162) dW_1161 rfl ?_
  refine k_sld (p2 := 1163) dW_1162 rfl (by omega) (by omega) hL ?_
  refine k_aload_n (p2 := 1164) dW_1163 rfl rfl ?_
  refine k_iload_n (p2 := 1165) dW_1164 rfl rfl ?_
  refine k_iconst (p2 := 1166) dW_1165 rfl ?_
  refine k_iadd (p2 := 1167) dW_1166 rfl ?_
  refine k_sld (p2 := 1168) dW_1167 rfl (by omega) (by omega) hL ?_
  refine k_callV (p2 := 1171) (m' := mM_halved) (As := [_, _]) (st := [vL v]) dW_1168 rfl ml_W_131 ok_mM_halved im_mM_halved se_mM_halved rfl rfl (Nat.le_of_ble_eq_true rfl) ly_69 rfl (Nat.le_of_ble_eq_true rfl) ⟨(Nat.le_of_ble_eq_true rfl), (Nat.le_of_ble_eq_true rfl)⟩ ?_
  refine Sp.mono hq (fun r ω hw => ?_)
  obtain ⟨rfl, hr⟩ := hw
  refine k_lcmp_same (p1 := 1172) (tg := 1247) dW_1171 rfl dW_1172 (by decide) ?_
  exact hK _ hr
theorem lk_27 (hL : L ≤ 4608) (h0 : 0 ≤ i) (h1 : i + 9 ≤ L) (h : Rel σ) (hK : ∀ ω, Rel ω → KJ L xs 1247 [(0, vR 1001), (1, vR 0), (2, vR 69), (3, vI i)] [] ω) : KJ L xs 1177 [(0, vR 1001), (1, vR 0), (2, vR 69), (3, vI i)] [] σ := by
  refine k_aload_n (p2 := 1178) dW_1177 rfl rfl ?_
  refine k_aload_n (p2 := 1179) dW_1178 rfl rfl ?_
  refine k_iload_n (p2 := 1180) dW_1179 rfl rfl ?_
  refine k_iconst (p2 := 1181) dW_1180 rfl ?_
  refine k_iadd (p2 := 1182) dW_1181 rfl ?_
  refine k_sld (p2 := 1183) dW_1182 rfl (by omega) (by omega) hL ?_
  refine k_aload_n (p2 := 1184) dW_1183 rfl rfl ?_
  refine k_iload_n (p2 := 1185) dW_1184 rfl rfl ?_
  refine k_iconst (p2 := 1186) dW_1185 rfl ?_
  refine k_iadd (p2 := 1187) dW_1186 rfl ?_
  refine k_sld (p2 := 1188) dW_1187 rfl (by omega) (by omega) hL ?_
  refine k_callV (p2 := 1191) (m' := mX_about) (As := [_, _]) (st := []) dW_1188 rfl ml_W_132 ok_mX_about im_mX_about se_mX_about rfl rfl (Nat.le_of_ble_eq_true rfl) ly_0 rfl (Nat.le_of_ble_eq_true rfl) ⟨(Nat.le_of_ble_eq_true rfl), (Nat.le_of_ble_eq_true rfl)⟩ ?_
  refine Sp.mono (pr_about h (x_in _) (x_in _)) (fun r τ hq => ?_)
  obtain ⟨v, rfl, hq⟩ := hq
  refine k_aload_n (p2 := 1192) dW_1191 rfl rfl ?_
  refine k_aload_n (p2 := 1193) dW_1192 rfl rfl ?_
  refine k_iload_n (p2 := 1194) dW_1193 rfl rfl ?_
  refine k_iconst (p2 := 1195) dW_1194 rfl ?_
  refine k_iadd (p2 := 1196) dW_1195 rfl ?_
  refine k_sld (p2 := 1197) dW_1196 rfl (by omega) (by omega) hL ?_
  refine k_aload_n (p2 := 1198) dW_1197 rfl rfl ?_
  refine k_iload_n (p2 := 1199) dW_1198 rfl rfl ?_
  refine k_iconst (p2 := 1200) dW_1199 rfl ?_
  refine k_iadd (p2 := 1201) dW_1200 rfl ?_
  refine k_sld (p2 := 1202) dW_1201 rfl (by omega) (by omega) hL ?_
  refine k_callV (p2 := 1205) (m' := mM_about) (As := [_, _]) (st := [vI v]) dW_1202 rfl ml_W_135 ok_mM_about im_mM_about se_mM_about rfl rfl (Nat.le_of_ble_eq_true rfl) ly_69 rfl (Nat.le_of_ble_eq_true rfl) ⟨(Nat.le_of_ble_eq_true rfl), (Nat.le_of_ble_eq_true rfl)⟩ ?_
  refine Sp.mono hq (fun r ω hw => ?_)
  obtain ⟨rfl, hr⟩ := hw
  refine k_icmp_same (tg := 1247) dW_1205 (by decide) ?_
  exact hK _ hr
theorem lk_28 (hL : L ≤ 4608) (h0 : 0 ≤ i) (h1 : i + 9 ≤ L) (h : Rel σ) (hK : ∀ ω, Rel ω → KJ L xs 1247 [(0, vR 1001), (1, vR 0), (2, vR 69), (3, vI i)] [] ω) : KJ L xs 1210 [(0, vR 1001), (1, vR 0), (2, vR 69), (3, vI i)] [] σ := by
  refine k_aload_n (p2 := 1211) dW_1210 rfl rfl ?_
  refine k_aload_n (p2 := 1212) dW_1211 rfl rfl ?_
  refine k_iload_n (p2 := 1213) dW_1212 rfl rfl ?_
  refine k_iconst (p2 := 1214) dW_1213 rfl ?_
  refine k_iadd (p2 := 1215) dW_1214 rfl ?_
  refine k_sld (p2 := 1216) dW_1215 rfl (by omega) (by omega) hL ?_
  refine k_callV (p2 := 1219) (m' := mX_count) (As := [_]) (st := []) dW_1216 rfl ml_W_136 ok_mX_count im_mX_count se_mX_count rfl rfl (Nat.le_of_ble_eq_true rfl) ly_0 rfl (Nat.le_of_ble_eq_true rfl) ⟨(Nat.le_of_ble_eq_true rfl), (Nat.le_of_ble_eq_true rfl)⟩ ?_
  refine Sp.mono (pr_count h (x_in _)) (fun r τ hq => ?_)
  obtain ⟨v, rfl, hq⟩ := hq
  refine k_aload_n (p2 := 1220) dW_1219 rfl rfl ?_
  refine k_aload_n (p2 := 1221) dW_1220 rfl rfl ?_
  refine k_iload_n (p2 := 1222) dW_1221 rfl rfl ?_
  refine k_iconst (p2 := 1223) dW_1222 rfl ?_
  refine k_iadd (p2 := 1224) dW_1223 rfl ?_
  refine k_sld (p2 := 1225) dW_1224 rfl (by omega) (by omega) hL ?_
  refine k_callV (p2 := 1228) (m' := mM_count) (As := [_]) (st := [vI v]) dW_1225 rfl ml_W_139 ok_mM_count im_mM_count se_mM_count rfl rfl (Nat.le_of_ble_eq_true rfl) ly_69 rfl (Nat.le_of_ble_eq_true rfl) ⟨(Nat.le_of_ble_eq_true rfl), (Nat.le_of_ble_eq_true rfl)⟩ ?_
  refine Sp.mono hq (fun r ω hw => ?_)
  obtain ⟨rfl, hr⟩ := hw
  refine k_icmp_same (tg := 1247) dW_1228 (by decide) ?_
  exact hK _ hr
theorem lk_29 (hL : L ≤ 4608) (h0 : 0 ≤ i) (h1 : i + 9 ≤ L) (h : Rel σ) (hK : ∀ ω, Rel ω → KJ L xs 1247 [(0, vR 1001), (1, vR 0), (2, vR 69), (3, vI i)] [] ω) : KJ L xs 1233 [(0, vR 1001), (1, vR 0), (2, vR 69), (3, vI i)] [] σ := by
  refine k_aload_n (p2 := 1234) dW_1233 rfl rfl ?_
  refine k_callV (p2 := 1237) (m' := mX_digest) (As := []) (st := []) dW_1234 rfl ml_W_140 ok_mX_digest im_mX_digest se_mX_digest rfl rfl (Nat.le_of_ble_eq_true rfl) ly_0 rfl (Nat.le_of_ble_eq_true rfl) ⟨(Nat.le_of_ble_eq_true rfl), (Nat.le_of_ble_eq_true rfl)⟩ ?_
  refine Sp.mono (pr_digest h) (fun r τ hq => ?_)
  obtain ⟨v, rfl, hq⟩ := hq
  refine k_aload_n (p2 := 1238) dW_1237 rfl rfl ?_
  refine k_callV (p2 := 1241) (m' := mM_digest) (As := []) (st := [vL v]) dW_1238 rfl ml_W_144 ok_mM_digest im_mM_digest se_mM_digest rfl rfl (Nat.le_of_ble_eq_true rfl) ly_69 rfl (Nat.le_of_ble_eq_true rfl) ⟨(Nat.le_of_ble_eq_true rfl), (Nat.le_of_ble_eq_true rfl)⟩ ?_
  refine Sp.mono hq (fun r ω hw => ?_)
  obtain ⟨rfl, hr⟩ := hw
  refine k_lcmp_same (p1 := 1242) (tg := 1247) dW_1241 rfl dW_1242 (by decide) ?_
  exact hK _ hr
end KC
