/-! THE LAW: its cases, 2 -/
section XC2
variable {G : xG} {l : Launch} {d : Nat} {Z : List Frame → Array Value → State → Nat → Nat → State → Prop} {k n i : Nat} {h : xH} {b : Bool} {S : St}
theorem wc_associator (hd : 100 ≤ d) (hL : G.2.2.2.2.2 9 ≤ 3072) (hi : i + 5 < G.2.2.2.2.2 9) (hR : RC b h S) (hM : RM h S) (hm : h.2 < 600000) (K : wK G l d Z k n i h) : xWP G l mL_law d Z (200 + k + kB b) (7000 + n + nB b) 850 (xL0 i) [] h := by
  refine x_aload_n (i := 1) dL_law_850 rfl rfl rfl ?_
  refine w_arg (j := 1) dL_law_851 dL_law_852 dL_law_853 dL_law_854 dL_law_855 iC_1 (by omega) hL ?_
  refine w_arg (j := 2) dL_law_856 dL_law_857 dL_law_858 dL_law_859 dL_law_860 iC_2 (by omega) hL ?_
  refine w_arg (j := 3) dL_law_861 dL_law_862 dL_law_863 dL_law_864 dL_law_865 iC_3 (by omega) hL ?_
  refine w_arg (j := 4) dL_law_866 dL_law_867 dL_law_868 dL_law_869 dL_law_870 iC_4 (by omega) hL ?_
  refine x_callV (ci := 11) (b := 0) (As := [_, _, _, _]) (d2 := d - 1) (mc2 := 0) (ms2 := 0) (k2 := k + kB b) (n2 := n + nB b) dL_law_871 rfl kL_76 okX11_associator (hR.1.o rfl) (fun q hq => by cases hq; rfl) (by omega) rfl rfl (Nat.le_of_ble_eq_true rfl) (by omega) (by omega) (p_associator (by omega) hR (fun r S2 h2 e1 hR2 hF => ?_))
  have hM2 := hM.cp hR2.1 hF
  refine x_aload_n (i := 2) dL_law_874 rfl rfl rfl ?_
  refine w_arg (j := 1) dL_law_875 dL_law_876 dL_law_877 dL_law_878 dL_law_879 iC_1 (by omega) hL ?_
  refine w_arg (j := 2) dL_law_880 dL_law_881 dL_law_882 dL_law_883 dL_law_884 iC_2 (by omega) hL ?_
  refine w_arg (j := 3) dL_law_885 dL_law_886 dL_law_887 dL_law_888 dL_law_889 iC_3 (by omega) hL ?_
  refine w_arg (j := 4) dL_law_890 dL_law_891 dL_law_892 dL_law_893 dL_law_894 iC_4 (by omega) hL ?_
  refine x_callV0 (ci := 12) (b := 110) (As := [_, _, _, _]) (d2 := d - 1) dL_law_895 rfl kL_79 okX12_associator (hR2.1.o rfl) (fun q hq => by cases hq; rfl) (by omega) rfl rfl (Nat.le_of_ble_eq_true rfl) (n_associator (by omega) hM2 (fun r2 S3 h3 e2 hM3 hG => ?_))
  cases e1.symm.trans e2
  refine x_ic_eq_t (tgt := 2341) dL_law_898 rfl rfl ?_
  exact K _ _ _ (hR2.md hG) hM3 (wk_le hF hG)
theorem wc_commutator (hd : 100 ≤ d) (hL : G.2.2.2.2.2 9 ≤ 3072) (hi : i + 5 < G.2.2.2.2.2 9) (hR : RC b h S) (hM : RM h S) (hm : h.2 < 600000) (K : wK G l d Z k n i h) : xWP G l mL_law d Z (200 + k + kB b) (7000 + n + nB b) 903 (xL0 i) [] h := by
  refine x_aload_n (i := 1) dL_law_903 rfl rfl rfl ?_
  refine w_arg (j := 1) dL_law_904 dL_law_905 dL_law_906 dL_law_907 dL_law_908 iC_1 (by omega) hL ?_
  refine w_arg (j := 2) dL_law_909 dL_law_910 dL_law_911 dL_law_912 dL_law_913 iC_2 (by omega) hL ?_
  refine w_arg (j := 3) dL_law_914 dL_law_915 dL_law_916 dL_law_917 dL_law_918 iC_3 (by omega) hL ?_
  refine x_callV (ci := 11) (b := 0) (As := [_, _, _]) (d2 := d - 1) (mc2 := 0) (ms2 := 0) (k2 := k + kB b) (n2 := n + nB b) dL_law_919 rfl kL_80 okX11_commutator (hR.1.o rfl) (fun q hq => by cases hq; rfl) (by omega) rfl rfl (Nat.le_of_ble_eq_true rfl) (by omega) (by omega) (p_commutator (by omega) hR (fun r S2 h2 e1 hR2 hF => ?_))
  have hM2 := hM.cp hR2.1 hF
  refine x_aload_n (i := 2) dL_law_922 rfl rfl rfl ?_
  refine w_arg (j := 1) dL_law_923 dL_law_924 dL_law_925 dL_law_926 dL_law_927 iC_1 (by omega) hL ?_
  refine w_arg (j := 2) dL_law_928 dL_law_929 dL_law_930 dL_law_931 dL_law_932 iC_2 (by omega) hL ?_
  refine w_arg (j := 3) dL_law_933 dL_law_934 dL_law_935 dL_law_936 dL_law_937 iC_3 (by omega) hL ?_
  refine x_callV0 (ci := 12) (b := 110) (As := [_, _, _]) (d2 := d - 1) dL_law_938 rfl kL_83 okX12_commutator (hR2.1.o rfl) (fun q hq => by cases hq; rfl) (by omega) rfl rfl (Nat.le_of_ble_eq_true rfl) (n_commutator (by omega) hM2 (fun r2 S3 h3 e2 hM3 hG => ?_))
  cases e1.symm.trans e2
  refine x_ic_eq_t (tgt := 2341) dL_law_941 rfl rfl ?_
  exact K _ _ _ (hR2.md hG) hM3 (wk_le hF hG)
theorem wc_nearest (hd : 100 ≤ d) (hL : G.2.2.2.2.2 9 ≤ 3072) (hi : i + 5 < G.2.2.2.2.2 9) (hR : RC b h S) (hM : RM h S) (hm : h.2 < 600000) (K : wK G l d Z k n i h) : xWP G l mL_law d Z (200 + k + kB b) (7000 + n + nB b) 946 (xL0 i) [] h := by
  refine x_aload_n (i := 1) dL_law_946 rfl rfl rfl ?_
  refine w_arg (j := 1) dL_law_947 dL_law_948 dL_law_949 dL_law_950 dL_law_951 iC_1 (by omega) hL ?_
  refine w_arg (j := 2) dL_law_952 dL_law_953 dL_law_954 dL_law_955 dL_law_956 iC_2 (by omega) hL ?_
  refine w_arg (j := 3) dL_law_957 dL_law_958 dL_law_959 dL_law_960 dL_law_961 iC_3 (by omega) hL ?_
  refine x_callV (ci := 11) (b := 0) (As := [_, _, _]) (d2 := d - 1) (mc2 := 0) (ms2 := 0) (k2 := k + kB b) (n2 := n + nB b) dL_law_962 rfl kL_84 okX11_nearest (hR.1.o rfl) (fun q hq => by cases hq; rfl) (by omega) rfl rfl (Nat.le_of_ble_eq_true rfl) (by omega) (by omega) (p_nearest (by omega) hR (fun r S2 h2 e1 hR2 hF => ?_))
  have hM2 := hM.cp hR2.1 hF
  refine x_aload_n (i := 2) dL_law_965 rfl rfl rfl ?_
  refine w_arg (j := 1) dL_law_966 dL_law_967 dL_law_968 dL_law_969 dL_law_970 iC_1 (by omega) hL ?_
  refine w_arg (j := 2) dL_law_971 dL_law_972 dL_law_973 dL_law_974 dL_law_975 iC_2 (by omega) hL ?_
  refine w_arg (j := 3) dL_law_976 dL_law_977 dL_law_978 dL_law_979 dL_law_980 iC_3 (by omega) hL ?_
  refine x_callV0 (ci := 12) (b := 110) (As := [_, _, _]) (d2 := d - 1) dL_law_981 rfl kL_87 okX12_nearest (hR2.1.o rfl) (fun q hq => by cases hq; rfl) (by omega) rfl rfl (Nat.le_of_ble_eq_true rfl) (n_nearest (by omega) hM2 (fun r2 S3 h3 e2 hM3 hG => ?_))
  cases e1.symm.trans e2
  refine x_ic_eq_t (tgt := 2341) dL_law_984 rfl rfl ?_
  exact K _ _ _ (hR2.md hG) hM3 (wk_le hF hG)
theorem wc_divide (hd : 100 ≤ d) (hL : G.2.2.2.2.2 9 ≤ 3072) (hi : i + 5 < G.2.2.2.2.2 9) (hR : RC b h S) (hM : RM h S) (hm : h.2 < 600000) (K : wK G l d Z k n i h) : xWP G l mL_law d Z (200 + k + kB b) (7000 + n + nB b) 989 (xL0 i) [] h := by
  refine x_aload_n (i := 1) dL_law_989 rfl rfl rfl ?_
  refine w_arg (j := 1) dL_law_990 dL_law_991 dL_law_992 dL_law_993 dL_law_994 iC_1 (by omega) hL ?_
  refine w_arg (j := 2) dL_law_995 dL_law_996 dL_law_997 dL_law_998 dL_law_999 iC_2 (by omega) hL ?_
  refine w_arg (j := 3) dL_law_1000 dL_law_1001 dL_law_1002 dL_law_1003 dL_law_1004 iC_3 (by omega) hL ?_
  refine w_arg (j := 4) dL_law_1005 dL_law_1006 dL_law_1007 dL_law_1008 dL_law_1009 iC_4 (by omega) hL ?_
  refine x_callV (ci := 11) (b := 0) (As := [_, _, _, _]) (d2 := d - 1) (mc2 := 0) (ms2 := 0) (k2 := k + kB b) (n2 := n + nB b) dL_law_1010 rfl kL_88 okX11_divide (hR.1.o rfl) (fun q hq => by cases hq; rfl) (by omega) rfl rfl (Nat.le_of_ble_eq_true rfl) (by omega) (by omega) (p_divide (by omega) hR (fun r S2 h2 e1 hR2 hF => ?_))
  have hM2 := hM.cp hR2.1 hF
  refine x_aload_n (i := 2) dL_law_1013 rfl rfl rfl ?_
  refine w_arg (j := 1) dL_law_1014 dL_law_1015 dL_law_1016 dL_law_1017 dL_law_1018 iC_1 (by omega) hL ?_
  refine w_arg (j := 2) dL_law_1019 dL_law_1020 dL_law_1021 dL_law_1022 dL_law_1023 iC_2 (by omega) hL ?_
  refine w_arg (j := 3) dL_law_1024 dL_law_1025 dL_law_1026 dL_law_1027 dL_law_1028 iC_3 (by omega) hL ?_
  refine w_arg (j := 4) dL_law_1029 dL_law_1030 dL_law_1031 dL_law_1032 dL_law_1033 iC_4 (by omega) hL ?_
  refine x_callV0 (ci := 12) (b := 110) (As := [_, _, _, _]) (d2 := d - 1) dL_law_1034 rfl kL_91 okX12_divide (hR2.1.o rfl) (fun q hq => by cases hq; rfl) (by omega) rfl rfl (Nat.le_of_ble_eq_true rfl) (n_divide (by omega) hM2 (fun r2 S3 h3 e2 hM3 hG => ?_))
  cases e1.symm.trans e2
  refine x_ic_eq_t (tgt := 2341) dL_law_1037 rfl rfl ?_
  exact K _ _ _ (hR2.md hG) hM3 (wk_le hF hG)
theorem wc_bracket (hd : 100 ≤ d) (hL : G.2.2.2.2.2 9 ≤ 3072) (hi : i + 5 < G.2.2.2.2.2 9) (hR : RC b h S) (hM : RM h S) (hm : h.2 < 600000) (K : wK G l d Z k n i h) : xWP G l mL_law d Z (200 + k + kB b) (7000 + n + nB b) 1042 (xL0 i) [] h := by
  refine x_aload_n (i := 1) dL_law_1042 rfl rfl rfl ?_
  refine w_arg (j := 1) dL_law_1043 dL_law_1044 dL_law_1045 dL_law_1046 dL_law_1047 iC_1 (by omega) hL ?_
  refine w_arg (j := 2) dL_law_1048 dL_law_1049 dL_law_1050 dL_law_1051 dL_law_1052 iC_2 (by omega) hL ?_
  refine w_arg (j := 3) dL_law_1053 dL_law_1054 dL_law_1055 dL_law_1056 dL_law_1057 iC_3 (by omega) hL ?_
  refine w_arg (j := 4) dL_law_1058 dL_law_1059 dL_law_1060 dL_law_1061 dL_law_1062 iC_4 (by omega) hL ?_
  refine x_callV (ci := 11) (b := 0) (As := [_, _, _, _]) (d2 := d - 1) (mc2 := 105) (ms2 := 936) (k2 := k + kB b) (n2 := n + nB b) dL_law_1063 rfl kL_92 okX11_bracket (hR.1.o rfl) (fun q hq => by cases hq; rfl) (by omega) rfl rfl (Nat.le_of_ble_eq_true rfl) (by omega) (by omega) (p_bracket (by omega) hR (by omega) (fun r S2 h2 e1 hR2 hF => ?_))
  have hM2 := hM.cp hR2.1 hF
  refine x_aload_n (i := 2) dL_law_1066 rfl rfl rfl ?_
  refine w_arg (j := 1) dL_law_1067 dL_law_1068 dL_law_1069 dL_law_1070 dL_law_1071 iC_1 (by omega) hL ?_
  refine w_arg (j := 2) dL_law_1072 dL_law_1073 dL_law_1074 dL_law_1075 dL_law_1076 iC_2 (by omega) hL ?_
  refine w_arg (j := 3) dL_law_1077 dL_law_1078 dL_law_1079 dL_law_1080 dL_law_1081 iC_3 (by omega) hL ?_
  refine w_arg (j := 4) dL_law_1082 dL_law_1083 dL_law_1084 dL_law_1085 dL_law_1086 iC_4 (by omega) hL ?_
  refine x_callV0 (ci := 12) (b := 110) (As := [_, _, _, _]) (d2 := d - 1) dL_law_1087 rfl kL_95 okX12_bracket (hR2.1.o rfl) (fun q hq => by cases hq; rfl) (by omega) rfl rfl (Nat.le_of_ble_eq_true rfl) (n_bracket (by omega) hM2 (fun r2 S3 h3 e2 hM3 hG => ?_))
  cases e1.symm.trans e2
  refine x_ic_eq_t (tgt := 2341) dL_law_1090 rfl rfl ?_
  exact K _ _ _ (hR2.md hG) hM3 (wk_le hF hG)
theorem wc_feed (hd : 100 ≤ d) (hL : G.2.2.2.2.2 9 ≤ 3072) (hi : i + 5 < G.2.2.2.2.2 9) (hR : RC b h S) (hM : RM h S) (hm : h.2 < 600000) (K : wK G l d Z k n i h) : xWP G l mL_law d Z (200 + k + kB b) (7000 + n + nB b) 1095 (xL0 i) [] h := by
  refine x_aload_n (i := 1) dL_law_1095 rfl rfl rfl ?_
  refine w_arg (j := 1) dL_law_1096 dL_law_1097 dL_law_1098 dL_law_1099 dL_law_1100 iC_1 (by omega) hL ?_
  refine w_arg (j := 2) dL_law_1101 dL_law_1102 dL_law_1103 dL_law_1104 dL_law_1105 iC_2 (by omega) hL ?_
  refine w_arg (j := 3) dL_law_1106 dL_law_1107 dL_law_1108 dL_law_1109 dL_law_1110 iC_3 (by omega) hL ?_
  refine w_arg (j := 4) dL_law_1111 dL_law_1112 dL_law_1113 dL_law_1114 dL_law_1115 iC_4 (by omega) hL ?_
  refine w_arg (j := 5) dL_law_1116 dL_law_1117 dL_law_1118 dL_law_1119 dL_law_1120 iC_5 (by omega) hL ?_
  refine x_callV (ci := 11) (b := 0) (As := [_, _, _, _, _]) (d2 := d - 1) (mc2 := 0) (ms2 := 0) (k2 := k + kB b) (n2 := n + nB b) dL_law_1121 rfl kL_96 okX11_feed (hR.1.o rfl) (fun q hq => by cases hq; rfl) (by omega) rfl rfl (Nat.le_of_ble_eq_true rfl) (by omega) (by omega) (p_feed (by omega) hR (fun r S2 h2 e1 hR2 hF => ?_))
  have hM2 := hM.cp hR2.1 hF
  refine x_aload_n (i := 2) dL_law_1124 rfl rfl rfl ?_
  refine w_arg (j := 1) dL_law_1125 dL_law_1126 dL_law_1127 dL_law_1128 dL_law_1129 iC_1 (by omega) hL ?_
  refine w_arg (j := 2) dL_law_1130 dL_law_1131 dL_law_1132 dL_law_1133 dL_law_1134 iC_2 (by omega) hL ?_
  refine w_arg (j := 3) dL_law_1135 dL_law_1136 dL_law_1137 dL_law_1138 dL_law_1139 iC_3 (by omega) hL ?_
  refine w_arg (j := 4) dL_law_1140 dL_law_1141 dL_law_1142 dL_law_1143 dL_law_1144 iC_4 (by omega) hL ?_
  refine w_arg (j := 5) dL_law_1145 dL_law_1146 dL_law_1147 dL_law_1148 dL_law_1149 iC_5 (by omega) hL ?_
  refine x_callV0 (ci := 12) (b := 110) (As := [_, _, _, _, _]) (d2 := d - 1) dL_law_1150 rfl kL_99 okX12_feed (hR2.1.o rfl) (fun q hq => by cases hq; rfl) (by omega) rfl rfl (Nat.le_of_ble_eq_true rfl) (n_feed (by omega) hM2 (fun r2 S3 h3 e2 hM3 hG => ?_))
  cases e1.symm.trans e2
  refine x_ic_eq_t (tgt := 2341) dL_law_1153 rfl rfl ?_
  exact K _ _ _ (hR2.md hG) hM3 (wk_le hF hG)
theorem wc_back (hd : 100 ≤ d) (hL : G.2.2.2.2.2 9 ≤ 3072) (hi : i + 5 < G.2.2.2.2.2 9) (hR : RC b h S) (hM : RM h S) (hm : h.2 < 600000) (K : wK G l d Z k n i h) : xWP G l mL_law d Z (200 + k + kB b) (7000 + n + nB b) 1158 (xL0 i) [] h := by
  refine x_aload_n (i := 1) dL_law_1158 rfl rfl rfl ?_
  refine w_arg (j := 1) dL_law_1159 dL_law_1160 dL_law_1161 dL_law_1162 dL_law_1163 iC_1 (by omega) hL ?_
  refine x_callV (ci := 11) (b := 0) (As := [_]) (d2 := d - 1) (mc2 := 0) (ms2 := 0) (k2 := k + kB b) (n2 := n + nB b) dL_law_1164 rfl kL_100 okX11_back (hR.1.o rfl) (fun q hq => by cases hq; rfl) (by omega) rfl rfl (Nat.le_of_ble_eq_true rfl) (by omega) (by omega) (p_back (by omega) hR (fun r S2 h2 e1 hR2 hF => ?_))
  have hM2 := hM.cp hR2.1 hF
  refine x_aload_n (i := 2) dL_law_1167 rfl rfl rfl ?_
  refine w_arg (j := 1) dL_law_1168 dL_law_1169 dL_law_1170 dL_law_1171 dL_law_1172 iC_1 (by omega) hL ?_
  refine x_callV0 (ci := 12) (b := 110) (As := [_]) (d2 := d - 1) dL_law_1173 rfl kL_103 okX12_back (hR2.1.o rfl) (fun q hq => by cases hq; rfl) (by omega) rfl rfl (Nat.le_of_ble_eq_true rfl) (n_back (by omega) hM2 (fun r2 S3 h3 e2 hM3 hG => ?_))
  cases e1.symm.trans e2
  refine x_ic_eq_t (tgt := 2341) dL_law_1176 rfl rfl ?_
  exact K _ _ _ (hR2.md hG) hM3 (wk_le hF hG)
theorem wc_work (hd : 100 ≤ d) (hL : G.2.2.2.2.2 9 ≤ 3072) (hi : i + 5 < G.2.2.2.2.2 9) (hR : RC b h S) (hM : RM h S) (hm : h.2 < 600000) (K : wK G l d Z k n i h) : xWP G l mL_law d Z (200 + k + kB b) (7000 + n + nB b) 1181 (xL0 i) [] h := by
  refine x_aload_n (i := 1) dL_law_1181 rfl rfl rfl ?_
  refine w_arg (j := 1) dL_law_1182 dL_law_1183 dL_law_1184 dL_law_1185 dL_law_1186 iC_1 (by omega) hL ?_
  refine x_callV (ci := 11) (b := 0) (As := [_]) (d2 := d - 1) (mc2 := 0) (ms2 := 0) (k2 := k + kB b) (n2 := n + nB b) dL_law_1187 rfl kL_104 okX11_work (hR.1.o rfl) (fun q hq => by cases hq; rfl) (by omega) rfl rfl (Nat.le_of_ble_eq_true rfl) (by omega) (by omega) (p_work (by omega) hR (fun r S2 h2 e1 hR2 hF => ?_))
  have hM2 := hM.cp hR2.1 hF
  refine x_aload_n (i := 2) dL_law_1190 rfl rfl rfl ?_
  refine w_arg (j := 1) dL_law_1191 dL_law_1192 dL_law_1193 dL_law_1194 dL_law_1195 iC_1 (by omega) hL ?_
  refine x_callV0 (ci := 12) (b := 110) (As := [_]) (d2 := d - 1) dL_law_1196 rfl kL_107 okX12_work (hR2.1.o rfl) (fun q hq => by cases hq; rfl) (by omega) rfl rfl (Nat.le_of_ble_eq_true rfl) (n_work (by omega) hM2 (wk_b hR) (fun r2 S3 h3 e2 hM3 hG => ?_))
  cases e1.symm.trans e2
  refine x_ic_eq_t (tgt := 2341) dL_law_1199 rfl rfl ?_
  exact K _ _ _ (hR2.md hG) hM3 (wk_le hF hG)
theorem wc_part (hd : 100 ≤ d) (hL : G.2.2.2.2.2 9 ≤ 3072) (hi : i + 5 < G.2.2.2.2.2 9) (hR : RC b h S) (hM : RM h S) (hm : h.2 < 600000) (K : wK G l d Z k n i h) : xWP G l mL_law d Z (200 + k + kB b) (7000 + n + nB b) 1204 (xL0 i) [] h := by
  refine x_aload_n (i := 1) dL_law_1204 rfl rfl rfl ?_
  refine w_arg (j := 1) dL_law_1205 dL_law_1206 dL_law_1207 dL_law_1208 dL_law_1209 iC_1 (by omega) hL ?_
  refine w_arg (j := 2) dL_law_1210 dL_law_1211 dL_law_1212 dL_law_1213 dL_law_1214 iC_2 (by omega) hL ?_
  refine x_callV (ci := 11) (b := 0) (As := [_, _]) (d2 := d - 1) (mc2 := 0) (ms2 := 0) (k2 := k + kB b) (n2 := n + nB b) dL_law_1215 rfl kL_108 okX11_part (hR.1.o rfl) (fun q hq => by cases hq; rfl) (by omega) rfl rfl (Nat.le_of_ble_eq_true rfl) (by omega) (by omega) (p_part (by omega) hR (fun r S2 h2 e1 hR2 hF => ?_))
  have hM2 := hM.cp hR2.1 hF
  refine x_aload_n (i := 2) dL_law_1218 rfl rfl rfl ?_
  refine w_arg (j := 1) dL_law_1219 dL_law_1220 dL_law_1221 dL_law_1222 dL_law_1223 iC_1 (by omega) hL ?_
  refine w_arg (j := 2) dL_law_1224 dL_law_1225 dL_law_1226 dL_law_1227 dL_law_1228 iC_2 (by omega) hL ?_
  refine x_callV0 (ci := 12) (b := 110) (As := [_, _]) (d2 := d - 1) dL_law_1229 rfl kL_111 okX12_part (hR2.1.o rfl) (fun q hq => by cases hq; rfl) (by omega) rfl rfl (Nat.le_of_ble_eq_true rfl) (n_part (by omega) hM2 (fun r2 S3 h3 e2 hM3 hG => ?_))
  cases e1.symm.trans e2
  refine x_ic_eq_t (tgt := 2341) dL_law_1232 rfl rfl ?_
  exact K _ _ _ (hR2.md hG) hM3 (wk_le hF hG)
theorem wc_norm (hd : 100 ≤ d) (hL : G.2.2.2.2.2 9 ≤ 3072) (hi : i + 5 < G.2.2.2.2.2 9) (hR : RC b h S) (hM : RM h S) (hm : h.2 < 600000) (K : wK G l d Z k n i h) : xWP G l mL_law d Z (200 + k + kB b) (7000 + n + nB b) 1237 (xL0 i) [] h := by
  refine x_aload_n (i := 1) dL_law_1237 rfl rfl rfl ?_
  refine w_arg (j := 1) dL_law_1238 dL_law_1239 dL_law_1240 dL_law_1241 dL_law_1242 iC_1 (by omega) hL ?_
  refine x_callV (ci := 11) (b := 0) (As := [_]) (d2 := d - 1) (mc2 := 0) (ms2 := 0) (k2 := k + kB b) (n2 := n + nB b) dL_law_1243 rfl kL_112 okX11_norm (hR.1.o rfl) (fun q hq => by cases hq; rfl) (by omega) rfl rfl (Nat.le_of_ble_eq_true rfl) (by omega) (by omega) (p_norm (by omega) hR (fun r S2 h2 e1 hR2 hF => ?_))
  have hM2 := hM.cp hR2.1 hF
  refine x_aload_n (i := 2) dL_law_1246 rfl rfl rfl ?_
  refine w_arg (j := 1) dL_law_1247 dL_law_1248 dL_law_1249 dL_law_1250 dL_law_1251 iC_1 (by omega) hL ?_
  refine x_callV0 (ci := 12) (b := 110) (As := [_]) (d2 := d - 1) dL_law_1252 rfl kL_115 okX12_norm (hR2.1.o rfl) (fun q hq => by cases hq; rfl) (by omega) rfl rfl (Nat.le_of_ble_eq_true rfl) (n_norm (by omega) hM2 (fun r2 S3 h3 e2 hM3 hG => ?_))
  cases e1.symm.trans e2
  refine x_ic_eq_t (tgt := 2341) dL_law_1255 rfl rfl ?_
  exact K _ _ _ (hR2.md hG) hM3 (wk_le hF hG)
theorem wc_spell (hd : 100 ≤ d) (hL : G.2.2.2.2.2 9 ≤ 3072) (hi : i + 5 < G.2.2.2.2.2 9) (hR : RC b h S) (hM : RM h S) (hm : h.2 < 600000) (K : wK G l d Z k n i h) : xWP G l mL_law d Z (200 + k + kB b) (7000 + n + nB b) 1260 (xL0 i) [] h := by
  refine x_aload_n (i := 1) dL_law_1260 rfl rfl rfl ?_
  refine w_arg (j := 1) dL_law_1261 dL_law_1262 dL_law_1263 dL_law_1264 dL_law_1265 iC_1 (by omega) hL ?_
  refine w_arg (j := 2) dL_law_1266 dL_law_1267 dL_law_1268 dL_law_1269 dL_law_1270 iC_2 (by omega) hL ?_
  refine x_callV (ci := 11) (b := 0) (As := [_, _]) (d2 := d - 1) (mc2 := 27) (ms2 := 4320) (k2 := k + kB b) (n2 := n + nB b) dL_law_1271 rfl kL_116 okX11_spell (hR.1.o rfl) (fun q hq => by cases hq; rfl) (by omega) rfl rfl (Nat.le_of_ble_eq_true rfl) (by omega) (by omega) (p_spell (by omega) hR (by omega) (fun r S2 h2 e1 hR2 hF => ?_))
  have hM2 := hM.cp hR2.1 hF
  refine x_aload_n (i := 2) dL_law_1274 rfl rfl rfl ?_
  refine w_arg (j := 1) dL_law_1275 dL_law_1276 dL_law_1277 dL_law_1278 dL_law_1279 iC_1 (by omega) hL ?_
  refine w_arg (j := 2) dL_law_1280 dL_law_1281 dL_law_1282 dL_law_1283 dL_law_1284 iC_2 (by omega) hL ?_
  refine x_callV0 (ci := 12) (b := 110) (As := [_, _]) (d2 := d - 1) dL_law_1285 rfl kL_119 okX12_spell (hR2.1.o rfl) (fun q hq => by cases hq; rfl) (by omega) rfl rfl (Nat.le_of_ble_eq_true rfl) (n_spell (by omega) hM2 (fun r2 S3 h3 e2 hM3 hG => ?_))
  cases e1.symm.trans e2
  refine x_ic_eq_t (tgt := 2341) dL_law_1288 rfl rfl ?_
  exact K _ _ _ (hR2.md hG) hM3 (wk_le hF hG)
theorem wc_turned (hd : 100 ≤ d) (hL : G.2.2.2.2.2 9 ≤ 3072) (hi : i + 5 < G.2.2.2.2.2 9) (hR : RC b h S) (hM : RM h S) (hm : h.2 < 600000) (K : wK G l d Z k n i h) : xWP G l mL_law d Z (200 + k + kB b) (7000 + n + nB b) 1293 (xL0 i) [] h := by
  refine x_aload_n (i := 1) dL_law_1293 rfl rfl rfl ?_
  refine w_arg (j := 1) dL_law_1294 dL_law_1295 dL_law_1296 dL_law_1297 dL_law_1298 iC_1 (by omega) hL ?_
  refine w_arg (j := 2) dL_law_1299 dL_law_1300 dL_law_1301 dL_law_1302 dL_law_1303 iC_2 (by omega) hL ?_
  refine w_arg (j := 3) dL_law_1304 dL_law_1305 dL_law_1306 dL_law_1307 dL_law_1308 iC_3 (by omega) hL ?_
  refine w_arg (j := 4) dL_law_1309 dL_law_1310 dL_law_1311 dL_law_1312 dL_law_1313 iC_4 (by omega) hL ?_
  refine x_callV (ci := 11) (b := 0) (As := [_, _, _, _]) (d2 := d - 1) (mc2 := 0) (ms2 := 0) (k2 := k + kB b) (n2 := n + nB b) dL_law_1314 rfl kL_120 okX11_turned (hR.1.o rfl) (fun q hq => by cases hq; rfl) (by omega) rfl rfl (Nat.le_of_ble_eq_true rfl) (by omega) (by omega) (p_turned (by omega) hR (fun r S2 h2 e1 hR2 hF => ?_))
  have hM2 := hM.cp hR2.1 hF
  refine x_aload_n (i := 2) dL_law_1317 rfl rfl rfl ?_
  refine w_arg (j := 1) dL_law_1318 dL_law_1319 dL_law_1320 dL_law_1321 dL_law_1322 iC_1 (by omega) hL ?_
  refine w_arg (j := 2) dL_law_1323 dL_law_1324 dL_law_1325 dL_law_1326 dL_law_1327 iC_2 (by omega) hL ?_
  refine w_arg (j := 3) dL_law_1328 dL_law_1329 dL_law_1330 dL_law_1331 dL_law_1332 iC_3 (by omega) hL ?_
  refine w_arg (j := 4) dL_law_1333 dL_law_1334 dL_law_1335 dL_law_1336 dL_law_1337 iC_4 (by omega) hL ?_
  refine x_callV0 (ci := 12) (b := 110) (As := [_, _, _, _]) (d2 := d - 1) dL_law_1338 rfl kL_123 okX12_turned (hR2.1.o rfl) (fun q hq => by cases hq; rfl) (by omega) rfl rfl (Nat.le_of_ble_eq_true rfl) (n_turned (by omega) hM2 (fun r2 S3 h3 e2 hM3 hG => ?_))
  cases e1.symm.trans e2
  refine x_ic_eq_t (tgt := 2341) dL_law_1341 rfl rfl ?_
  exact K _ _ _ (hR2.md hG) hM3 (wk_le hF hG)
theorem wc_odd (hd : 100 ≤ d) (hL : G.2.2.2.2.2 9 ≤ 3072) (hi : i + 5 < G.2.2.2.2.2 9) (hR : RC b h S) (hM : RM h S) (hm : h.2 < 600000) (K : wK G l d Z k n i h) : xWP G l mL_law d Z (200 + k + kB b) (7000 + n + nB b) 1346 (xL0 i) [] h := by
  refine x_aload_n (i := 1) dL_law_1346 rfl rfl rfl ?_
  refine w_arg (j := 1) dL_law_1347 dL_law_1348 dL_law_1349 dL_law_1350 dL_law_1351 iC_1 (by omega) hL ?_
  refine x_callV (ci := 11) (b := 0) (As := [_]) (d2 := d - 1) (mc2 := 0) (ms2 := 0) (k2 := k + kB b) (n2 := n + nB b) dL_law_1352 rfl kL_124 okX11_odd (hR.1.o rfl) (fun q hq => by cases hq; rfl) (by omega) rfl rfl (Nat.le_of_ble_eq_true rfl) (by omega) (by omega) (p_odd (by omega) hR (fun r S2 h2 e1 hR2 hF => ?_))
  have hM2 := hM.cp hR2.1 hF
  refine x_aload_n (i := 2) dL_law_1355 rfl rfl rfl ?_
  refine w_arg (j := 1) dL_law_1356 dL_law_1357 dL_law_1358 dL_law_1359 dL_law_1360 iC_1 (by omega) hL ?_
  refine x_callV0 (ci := 12) (b := 110) (As := [_]) (d2 := d - 1) dL_law_1361 rfl kL_127 okX12_odd (hR2.1.o rfl) (fun q hq => by cases hq; rfl) (by omega) rfl rfl (Nat.le_of_ble_eq_true rfl) (n_odd (by omega) hM2 (fun r2 S3 h3 e2 hM3 hG => ?_))
  cases e1.symm.trans e2
  refine x_ic_eq_t (tgt := 2341) dL_law_1364 rfl rfl ?_
  exact K _ _ _ (hR2.md hG) hM3 (wk_le hF hG)
theorem wc_whole (hd : 100 ≤ d) (hL : G.2.2.2.2.2 9 ≤ 3072) (hi : i + 5 < G.2.2.2.2.2 9) (hR : RC b h S) (hM : RM h S) (hm : h.2 < 600000) (K : wK G l d Z k n i h) : xWP G l mL_law d Z (200 + k + kB b) (7000 + n + nB b) 1369 (xL0 i) [] h := by
  refine x_aload_n (i := 1) dL_law_1369 rfl rfl rfl ?_
  refine w_arg (j := 1) dL_law_1370 dL_law_1371 dL_law_1372 dL_law_1373 dL_law_1374 iC_1 (by omega) hL ?_
  refine x_callV (ci := 11) (b := 0) (As := [_]) (d2 := d - 1) (mc2 := 0) (ms2 := 0) (k2 := k + kB b) (n2 := n + nB b) dL_law_1375 rfl kL_128 okX11_whole (hR.1.o rfl) (fun q hq => by cases hq; rfl) (by omega) rfl rfl (Nat.le_of_ble_eq_true rfl) (by omega) (by omega) (p_whole (by omega) hR (fun r S2 h2 e1 hR2 hF => ?_))
  have hM2 := hM.cp hR2.1 hF
  refine x_aload_n (i := 2) dL_law_1378 rfl rfl rfl ?_
  refine w_arg (j := 1) dL_law_1379 dL_law_1380 dL_law_1381 dL_law_1382 dL_law_1383 iC_1 (by omega) hL ?_
  refine x_callV0 (ci := 12) (b := 110) (As := [_]) (d2 := d - 1) dL_law_1384 rfl kL_131 okX12_whole (hR2.1.o rfl) (fun q hq => by cases hq; rfl) (by omega) rfl rfl (Nat.le_of_ble_eq_true rfl) (n_whole (by omega) hM2 (fun r2 S3 h3 e2 hM3 hG => ?_))
  cases e1.symm.trans e2
  refine x_ic_eq_t (tgt := 2341) dL_law_1387 rfl rfl ?_
  exact K _ _ _ (hR2.md hG) hM3 (wk_le hF hG)
end XC2

