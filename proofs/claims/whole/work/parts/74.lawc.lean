section LAW
variable {p : Program} {l : Launch} {e : Env} {s : State} {mi : MethodId} {below : List Frame} {meth : Method} {c : Code} {X : TX} {b L i : Nat} {xs : Nat → Int32} {cells slots : Nat} {Q : State → Prop} {m : Mem} {H : Heap} {locs : List Loc} {ls : Array Slot}
theorem lw_28 (K : LC X p s mi c b L xs) (hL : L ≤ 3072) (hi : i + 6 ≤ L) (hcs : cells ≤ room_1.cells ∧ slots ≤ room_1.slots) (kk : CE X p l e s mi below meth c b i cells slots Q) (hI : Inv m) (hW : Wd X s m H locs) (hl : lv_has ls 4 [(0, .ref b), (1, .ref (ad X 0 0)), (2, .ref (ad X 20 0)), (3, .int (nI i))]) : W p l e room_1 s mi #[Value.ref b] below meth c H locs cells slots Q (F0 mi 1060 ls []) := by
  obtain ⟨C, hX, hbl, hbA⟩ := K
  obtain ⟨r, m1, m2, e1, e2, hI2⟩ := op_sheet (fu := 2000) (x1 := (xs (nI i + 1).toNatClampNeg)) (x2 := (xs (nI i + 2).toNatClampNeg)) (x3 := (xs (nI i + 3).toNatClampNeg)) (by decide)  hI
  refine lv_aload_n C.1 C.2.1 dL_1060 rfl (lv_at hl 1 rfl) ?_
  refine lv_aload_n C.1 C.2.1 dL_1061 rfl (lv_at hl 0 rfl) ?_
  refine lv_iload_n C.1 C.2.1 dL_1062 rfl (lv_at hl 3 rfl) ?_
  refine lv_iconst (v := 1) C.1 C.2.1 dL_1063 rfl ?_
  refine lv_iadd C.1 C.2.1 dL_1064 ?_
  refine va_sld C.1 C.2.1 hX hbl hbA hW.2 (in_1 hi hL) dL_1065 ?_
  refine lv_aload_n C.1 C.2.1 dL_1066 rfl (lv_at hl 0 rfl) ?_
  refine lv_iload_n C.1 C.2.1 dL_1067 rfl (lv_at hl 3 rfl) ?_
  refine lv_iconst (v := 2) C.1 C.2.1 dL_1068 rfl ?_
  refine lv_iadd C.1 C.2.1 dL_1069 ?_
  refine va_sld C.1 C.2.1 hX hbl hbA hW.2 (in_2 hi hL) dL_1070 ?_
  refine lv_aload_n C.1 C.2.1 dL_1071 rfl (lv_at hl 0 rfl) ?_
  refine lv_iload_n C.1 C.2.1 dL_1072 rfl (lv_at hl 3 rfl) ?_
  refine lv_iconst (v := 3) C.1 C.2.1 dL_1073 rfl ?_
  refine lv_iadd C.1 C.2.1 dL_1074 ?_
  refine va_sld C.1 C.2.1 hX hbl hbA hW.2 (in_3 hi hL) dL_1075 ?_
  refine zr_cVI C hW (c_X8_sheet (X := X) (l := l) e1) k_X8_sheet (zr_recv C hW id_0 zco_0 rfl) w_907 ⟨Nat.le_of_ble_eq_true rfl, Nat.le_of_ble_eq_true rfl⟩ hcs rfl hl.1 (rest := []) rfl (Nat.le_of_ble_eq_true rfl) dL_1076 (fun H locs hW => ?_)
  refine lv_aload_n C.1 C.2.1 dL_1079 rfl (lv_at hl 2 rfl) ?_
  refine lv_aload_n C.1 C.2.1 dL_1080 rfl (lv_at hl 0 rfl) ?_
  refine lv_iload_n C.1 C.2.1 dL_1081 rfl (lv_at hl 3 rfl) ?_
  refine lv_iconst (v := 1) C.1 C.2.1 dL_1082 rfl ?_
  refine lv_iadd C.1 C.2.1 dL_1083 ?_
  refine va_sld C.1 C.2.1 hX hbl hbA hW.2 (in_1 hi hL) dL_1084 ?_
  refine lv_aload_n C.1 C.2.1 dL_1085 rfl (lv_at hl 0 rfl) ?_
  refine lv_iload_n C.1 C.2.1 dL_1086 rfl (lv_at hl 3 rfl) ?_
  refine lv_iconst (v := 2) C.1 C.2.1 dL_1087 rfl ?_
  refine lv_iadd C.1 C.2.1 dL_1088 ?_
  refine va_sld C.1 C.2.1 hX hbl hbA hW.2 (in_2 hi hL) dL_1089 ?_
  refine lv_aload_n C.1 C.2.1 dL_1090 rfl (lv_at hl 0 rfl) ?_
  refine lv_iload_n C.1 C.2.1 dL_1091 rfl (lv_at hl 3 rfl) ?_
  refine lv_iconst (v := 3) C.1 C.2.1 dL_1092 rfl ?_
  refine lv_iadd C.1 C.2.1 dL_1093 ?_
  refine va_sld C.1 C.2.1 hX hbl hbA hW.2 (in_3 hi hL) dL_1094 ?_
  refine zr_cVI C hW (c_X9_sheet (X := X) (l := l) e2) k_X9_sheet (zr_recv C hW id_20 zco_20 rfl) w_1395 ⟨Nat.le_of_ble_eq_true rfl, Nat.le_of_ble_eq_true rfl⟩ hcs rfl hl.1 (rest := [.int r]) rfl (Nat.le_of_ble_eq_true rfl) dL_1095 (fun H locs hW => ?_)
  refine lv_icmp_eq (tgt := 1492) C.1 C.2.1 dL_1098 (by decide) (fun _ => ?_) (fun hc => absurd rfl hc)
  exact kk m2 H locs ls hI2 hW hl
theorem lw_29 (K : LC X p s mi c b L xs) (hL : L ≤ 3072) (hi : i + 6 ≤ L) (hcs : cells ≤ room_1.cells ∧ slots ≤ room_1.slots) (kk : CE X p l e s mi below meth c b i cells slots Q) (hI : Inv m) (hW : Wd X s m H locs) (hl : lv_has ls 4 [(0, .ref b), (1, .ref (ad X 0 0)), (2, .ref (ad X 20 0)), (3, .int (nI i))]) : W p l e room_1 s mi #[Value.ref b] below meth c H locs cells slots Q (F0 mi 1103 ls []) := by
  obtain ⟨C, hX, hbl, hbA⟩ := K
  obtain ⟨r, m1, m2, e1, e2, hI2⟩ := op_mark (fu := 2000) (x1 := (xs (nI i + 1).toNatClampNeg)) (x2 := (xs (nI i + 2).toNatClampNeg)) (x3 := (xs (nI i + 3).toNatClampNeg))  hI
  refine lv_aload_n C.1 C.2.1 dL_1103 rfl (lv_at hl 1 rfl) ?_
  refine lv_aload_n C.1 C.2.1 dL_1104 rfl (lv_at hl 0 rfl) ?_
  refine lv_iload_n C.1 C.2.1 dL_1105 rfl (lv_at hl 3 rfl) ?_
  refine lv_iconst (v := 1) C.1 C.2.1 dL_1106 rfl ?_
  refine lv_iadd C.1 C.2.1 dL_1107 ?_
  refine va_sld C.1 C.2.1 hX hbl hbA hW.2 (in_1 hi hL) dL_1108 ?_
  refine lv_aload_n C.1 C.2.1 dL_1109 rfl (lv_at hl 0 rfl) ?_
  refine lv_iload_n C.1 C.2.1 dL_1110 rfl (lv_at hl 3 rfl) ?_
  refine lv_iconst (v := 2) C.1 C.2.1 dL_1111 rfl ?_
  refine lv_iadd C.1 C.2.1 dL_1112 ?_
  refine va_sld C.1 C.2.1 hX hbl hbA hW.2 (in_2 hi hL) dL_1113 ?_
  refine lv_aload_n C.1 C.2.1 dL_1114 rfl (lv_at hl 0 rfl) ?_
  refine lv_iload_n C.1 C.2.1 dL_1115 rfl (lv_at hl 3 rfl) ?_
  refine lv_iconst (v := 3) C.1 C.2.1 dL_1116 rfl ?_
  refine lv_iadd C.1 C.2.1 dL_1117 ?_
  refine va_sld C.1 C.2.1 hX hbl hbA hW.2 (in_3 hi hL) dL_1118 ?_
  refine zr_cVI C hW (c_X8_mark (X := X) (l := l) e1) k_X8_mark (zr_recv C hW id_0 zco_0 rfl) w_916 ⟨Nat.le_of_ble_eq_true rfl, Nat.le_of_ble_eq_true rfl⟩ hcs rfl hl.1 (rest := []) rfl (Nat.le_of_ble_eq_true rfl) dL_1119 (fun H locs hW => ?_)
  refine lv_aload_n C.1 C.2.1 dL_1122 rfl (lv_at hl 2 rfl) ?_
  refine lv_aload_n C.1 C.2.1 dL_1123 rfl (lv_at hl 0 rfl) ?_
  refine lv_iload_n C.1 C.2.1 dL_1124 rfl (lv_at hl 3 rfl) ?_
  refine lv_iconst (v := 1) C.1 C.2.1 dL_1125 rfl ?_
  refine lv_iadd C.1 C.2.1 dL_1126 ?_
  refine va_sld C.1 C.2.1 hX hbl hbA hW.2 (in_1 hi hL) dL_1127 ?_
  refine lv_aload_n C.1 C.2.1 dL_1128 rfl (lv_at hl 0 rfl) ?_
  refine lv_iload_n C.1 C.2.1 dL_1129 rfl (lv_at hl 3 rfl) ?_
  refine lv_iconst (v := 2) C.1 C.2.1 dL_1130 rfl ?_
  refine lv_iadd C.1 C.2.1 dL_1131 ?_
  refine va_sld C.1 C.2.1 hX hbl hbA hW.2 (in_2 hi hL) dL_1132 ?_
  refine lv_aload_n C.1 C.2.1 dL_1133 rfl (lv_at hl 0 rfl) ?_
  refine lv_iload_n C.1 C.2.1 dL_1134 rfl (lv_at hl 3 rfl) ?_
  refine lv_iconst (v := 3) C.1 C.2.1 dL_1135 rfl ?_
  refine lv_iadd C.1 C.2.1 dL_1136 ?_
  refine va_sld C.1 C.2.1 hX hbl hbA hW.2 (in_3 hi hL) dL_1137 ?_
  refine zr_cVI C hW (c_X9_mark (X := X) (l := l) e2) k_X9_mark (zr_recv C hW id_20 zco_20 rfl) w_1400 ⟨Nat.le_of_ble_eq_true rfl, Nat.le_of_ble_eq_true rfl⟩ hcs rfl hl.1 (rest := [.int r]) rfl (Nat.le_of_ble_eq_true rfl) dL_1138 (fun H locs hW => ?_)
  refine lv_icmp_eq (tgt := 1492) C.1 C.2.1 dL_1141 (by decide) (fun _ => ?_) (fun hc => absurd rfl hc)
  exact kk m2 H locs ls hI2 hW hl
theorem lw_30 (K : LC X p s mi c b L xs) (hL : L ≤ 3072) (hi : i + 6 ≤ L) (hcs : cells ≤ room_1.cells ∧ slots ≤ room_1.slots) (kk : CE X p l e s mi below meth c b i cells slots Q) (hI : Inv m) (hW : Wd X s m H locs) (hl : lv_has ls 4 [(0, .ref b), (1, .ref (ad X 0 0)), (2, .ref (ad X 20 0)), (3, .int (nI i))]) : W p l e room_1 s mi #[Value.ref b] below meth c H locs cells slots Q (F0 mi 1146 ls []) := by
  obtain ⟨C, hX, hbl, hbA⟩ := K
  obtain ⟨r, m1, m2, e1, e2, hI2⟩ := op_pour (fu := 2000) (x1 := (xs (nI i + 1).toNatClampNeg)) (by decide)  hI
  refine lv_aload_n C.1 C.2.1 dL_1146 rfl (lv_at hl 1 rfl) ?_
  refine lv_aload_n C.1 C.2.1 dL_1147 rfl (lv_at hl 0 rfl) ?_
  refine lv_iload_n C.1 C.2.1 dL_1148 rfl (lv_at hl 3 rfl) ?_
  refine lv_iconst (v := 1) C.1 C.2.1 dL_1149 rfl ?_
  refine lv_iadd C.1 C.2.1 dL_1150 ?_
  refine va_sld C.1 C.2.1 hX hbl hbA hW.2 (in_1 hi hL) dL_1151 ?_
  refine zr_cVI C hW (c_X8_pour (X := X) (l := l) e1) k_X8_pour (zr_recv C hW id_0 zco_0 rfl) w_924 ⟨Nat.le_of_ble_eq_true rfl, Nat.le_of_ble_eq_true rfl⟩ hcs rfl hl.1 (rest := []) rfl (Nat.le_of_ble_eq_true rfl) dL_1152 (fun H locs hW => ?_)
  refine lv_aload_n C.1 C.2.1 dL_1155 rfl (lv_at hl 2 rfl) ?_
  refine lv_aload_n C.1 C.2.1 dL_1156 rfl (lv_at hl 0 rfl) ?_
  refine lv_iload_n C.1 C.2.1 dL_1157 rfl (lv_at hl 3 rfl) ?_
  refine lv_iconst (v := 1) C.1 C.2.1 dL_1158 rfl ?_
  refine lv_iadd C.1 C.2.1 dL_1159 ?_
  refine va_sld C.1 C.2.1 hX hbl hbA hW.2 (in_1 hi hL) dL_1160 ?_
  refine zr_cVI C hW (c_X9_pour (X := X) (l := l) e2) k_X9_pour (zr_recv C hW id_20 zco_20 rfl) w_1407 ⟨Nat.le_of_ble_eq_true rfl, Nat.le_of_ble_eq_true rfl⟩ hcs rfl hl.1 (rest := [.int r]) rfl (Nat.le_of_ble_eq_true rfl) dL_1161 (fun H locs hW => ?_)
  refine lv_icmp_eq (tgt := 1492) C.1 C.2.1 dL_1164 (by decide) (fun _ => ?_) (fun hc => absurd rfl hc)
  exact kk m2 H locs ls hI2 hW hl
theorem lw_31 (K : LC X p s mi c b L xs) (hL : L ≤ 3072) (hi : i + 6 ≤ L) (hcs : cells ≤ room_1.cells ∧ slots ≤ room_1.slots) (kk : CE X p l e s mi below meth c b i cells slots Q) (hI : Inv m) (hW : Wd X s m H locs) (hl : lv_has ls 4 [(0, .ref b), (1, .ref (ad X 0 0)), (2, .ref (ad X 20 0)), (3, .int (nI i))]) : W p l e room_1 s mi #[Value.ref b] below meth c H locs cells slots Q (F0 mi 1169 ls []) := by
  obtain ⟨C, hX, hbl, hbA⟩ := K
  obtain ⟨r, m1, m2, e1, e2, hI2⟩ := op_reads (fu := 2000) (x1 := (xs (nI i + 1).toNatClampNeg)) (by decide)  hI
  refine lv_aload_n C.1 C.2.1 dL_1169 rfl (lv_at hl 1 rfl) ?_
  refine lv_aload_n C.1 C.2.1 dL_1170 rfl (lv_at hl 0 rfl) ?_
  refine lv_iload_n C.1 C.2.1 dL_1171 rfl (lv_at hl 3 rfl) ?_
  refine lv_iconst (v := 1) C.1 C.2.1 dL_1172 rfl ?_
  refine lv_iadd C.1 C.2.1 dL_1173 ?_
  refine va_sld C.1 C.2.1 hX hbl hbA hW.2 (in_1 hi hL) dL_1174 ?_
  refine zr_cVI C hW (c_X8_reads (X := X) (l := l) e1) k_X8_reads (zr_recv C hW id_0 zco_0 rfl) w_929 ⟨Nat.le_of_ble_eq_true rfl, Nat.le_of_ble_eq_true rfl⟩ hcs rfl hl.1 (rest := []) rfl (Nat.le_of_ble_eq_true rfl) dL_1175 (fun H locs hW => ?_)
  refine lv_aload_n C.1 C.2.1 dL_1178 rfl (lv_at hl 2 rfl) ?_
  refine lv_aload_n C.1 C.2.1 dL_1179 rfl (lv_at hl 0 rfl) ?_
  refine lv_iload_n C.1 C.2.1 dL_1180 rfl (lv_at hl 3 rfl) ?_
  refine lv_iconst (v := 1) C.1 C.2.1 dL_1181 rfl ?_
  refine lv_iadd C.1 C.2.1 dL_1182 ?_
  refine va_sld C.1 C.2.1 hX hbl hbA hW.2 (in_1 hi hL) dL_1183 ?_
  refine zr_cVI C hW (c_X9_reads (X := X) (l := l) e2) k_X9_reads (zr_recv C hW id_20 zco_20 rfl) w_1411 ⟨Nat.le_of_ble_eq_true rfl, Nat.le_of_ble_eq_true rfl⟩ hcs rfl hl.1 (rest := [.int r]) rfl (Nat.le_of_ble_eq_true rfl) dL_1184 (fun H locs hW => ?_)
  refine lv_icmp_eq (tgt := 1492) C.1 C.2.1 dL_1187 (by decide) (fun _ => ?_) (fun hc => absurd rfl hc)
  exact kk m2 H locs ls hI2 hW hl
theorem lw_32 (K : LC X p s mi c b L xs) (hL : L ≤ 3072) (hi : i + 6 ≤ L) (hcs : cells ≤ room_1.cells ∧ slots ≤ room_1.slots) (kk : CE X p l e s mi below meth c b i cells slots Q) (hI : Inv m) (hW : Wd X s m H locs) (hl : lv_has ls 4 [(0, .ref b), (1, .ref (ad X 0 0)), (2, .ref (ad X 20 0)), (3, .int (nI i))]) : W p l e room_1 s mi #[Value.ref b] below meth c H locs cells slots Q (F0 mi 1192 ls []) := by
  obtain ⟨C, hX, hbl, hbA⟩ := K
  obtain ⟨r, m1, m2, e1, e2, hI2⟩ := op_copy (fu := 2000) (x1 := (xs (nI i + 1).toNatClampNeg)) (x2 := (xs (nI i + 2).toNatClampNeg)) (x3 := (xs (nI i + 3).toNatClampNeg)) (x4 := (xs (nI i + 4).toNatClampNeg)) (x5 := (xs (nI i + 5).toNatClampNeg)) (by decide)  hI
  refine lv_aload_n C.1 C.2.1 dL_1192 rfl (lv_at hl 1 rfl) ?_
  refine lv_aload_n C.1 C.2.1 dL_1193 rfl (lv_at hl 0 rfl) ?_
  refine lv_iload_n C.1 C.2.1 dL_1194 rfl (lv_at hl 3 rfl) ?_
  refine lv_iconst (v := 1) C.1 C.2.1 dL_1195 rfl ?_
  refine lv_iadd C.1 C.2.1 dL_1196 ?_
  refine va_sld C.1 C.2.1 hX hbl hbA hW.2 (in_1 hi hL) dL_1197 ?_
  refine lv_aload_n C.1 C.2.1 dL_1198 rfl (lv_at hl 0 rfl) ?_
  refine lv_iload_n C.1 C.2.1 dL_1199 rfl (lv_at hl 3 rfl) ?_
  refine lv_iconst (v := 2) C.1 C.2.1 dL_1200 rfl ?_
  refine lv_iadd C.1 C.2.1 dL_1201 ?_
  refine va_sld C.1 C.2.1 hX hbl hbA hW.2 (in_2 hi hL) dL_1202 ?_
  refine lv_aload_n C.1 C.2.1 dL_1203 rfl (lv_at hl 0 rfl) ?_
  refine lv_iload_n C.1 C.2.1 dL_1204 rfl (lv_at hl 3 rfl) ?_
  refine lv_iconst (v := 3) C.1 C.2.1 dL_1205 rfl ?_
  refine lv_iadd C.1 C.2.1 dL_1206 ?_
  refine va_sld C.1 C.2.1 hX hbl hbA hW.2 (in_3 hi hL) dL_1207 ?_
  refine lv_aload_n C.1 C.2.1 dL_1208 rfl (lv_at hl 0 rfl) ?_
  refine lv_iload_n C.1 C.2.1 dL_1209 rfl (lv_at hl 3 rfl) ?_
  refine lv_iconst (v := 4) C.1 C.2.1 dL_1210 rfl ?_
  refine lv_iadd C.1 C.2.1 dL_1211 ?_
  refine va_sld C.1 C.2.1 hX hbl hbA hW.2 (in_4 hi hL) dL_1212 ?_
  refine lv_aload_n C.1 C.2.1 dL_1213 rfl (lv_at hl 0 rfl) ?_
  refine lv_iload_n C.1 C.2.1 dL_1214 rfl (lv_at hl 3 rfl) ?_
  refine lv_iconst (v := 5) C.1 C.2.1 dL_1215 rfl ?_
  refine lv_iadd C.1 C.2.1 dL_1216 ?_
  refine va_sld C.1 C.2.1 hX hbl hbA hW.2 (in_5 hi hL) dL_1217 ?_
  refine zr_cVI C hW (c_X8_copy (X := X) (l := l) e1) k_X8_copy (zr_recv C hW id_0 zco_0 rfl) w_933 ⟨Nat.le_of_ble_eq_true rfl, Nat.le_of_ble_eq_true rfl⟩ hcs rfl hl.1 (rest := []) rfl (Nat.le_of_ble_eq_true rfl) dL_1218 (fun H locs hW => ?_)
  refine lv_aload_n C.1 C.2.1 dL_1221 rfl (lv_at hl 2 rfl) ?_
  refine lv_aload_n C.1 C.2.1 dL_1222 rfl (lv_at hl 0 rfl) ?_
  refine lv_iload_n C.1 C.2.1 dL_1223 rfl (lv_at hl 3 rfl) ?_
  refine lv_iconst (v := 1) C.1 C.2.1 dL_1224 rfl ?_
  refine lv_iadd C.1 C.2.1 dL_1225 ?_
  refine va_sld C.1 C.2.1 hX hbl hbA hW.2 (in_1 hi hL) dL_1226 ?_
  refine lv_aload_n C.1 C.2.1 dL_1227 rfl (lv_at hl 0 rfl) ?_
  refine lv_iload_n C.1 C.2.1 dL_1228 rfl (lv_at hl 3 rfl) ?_
  refine lv_iconst (v := 2) C.1 C.2.1 dL_1229 rfl ?_
  refine lv_iadd C.1 C.2.1 dL_1230 ?_
  refine va_sld C.1 C.2.1 hX hbl hbA hW.2 (in_2 hi hL) dL_1231 ?_
  refine lv_aload_n C.1 C.2.1 dL_1232 rfl (lv_at hl 0 rfl) ?_
  refine lv_iload_n C.1 C.2.1 dL_1233 rfl (lv_at hl 3 rfl) ?_
  refine lv_iconst (v := 3) C.1 C.2.1 dL_1234 rfl ?_
  refine lv_iadd C.1 C.2.1 dL_1235 ?_
  refine va_sld C.1 C.2.1 hX hbl hbA hW.2 (in_3 hi hL) dL_1236 ?_
  refine lv_aload_n C.1 C.2.1 dL_1237 rfl (lv_at hl 0 rfl) ?_
  refine lv_iload_n C.1 C.2.1 dL_1238 rfl (lv_at hl 3 rfl) ?_
  refine lv_iconst (v := 4) C.1 C.2.1 dL_1239 rfl ?_
  refine lv_iadd C.1 C.2.1 dL_1240 ?_
  refine va_sld C.1 C.2.1 hX hbl hbA hW.2 (in_4 hi hL) dL_1241 ?_
  refine lv_aload_n C.1 C.2.1 dL_1242 rfl (lv_at hl 0 rfl) ?_
  refine lv_iload_n C.1 C.2.1 dL_1243 rfl (lv_at hl 3 rfl) ?_
  refine lv_iconst (v := 5) C.1 C.2.1 dL_1244 rfl ?_
  refine lv_iadd C.1 C.2.1 dL_1245 ?_
  refine va_sld C.1 C.2.1 hX hbl hbA hW.2 (in_5 hi hL) dL_1246 ?_
  refine zr_cVI C hW (c_X9_copy (X := X) (l := l) e2) k_X9_copy (zr_recv C hW id_20 zco_20 rfl) w_1415 ⟨Nat.le_of_ble_eq_true rfl, Nat.le_of_ble_eq_true rfl⟩ hcs rfl hl.1 (rest := [.int r]) rfl (Nat.le_of_ble_eq_true rfl) dL_1247 (fun H locs hW => ?_)
  refine lv_icmp_eq (tgt := 1492) C.1 C.2.1 dL_1250 (by decide) (fun _ => ?_) (fun hc => absurd rfl hc)
  exact kk m2 H locs ls hI2 hW hl
theorem lw_33 (K : LC X p s mi c b L xs) (hL : L ≤ 3072) (hi : i + 6 ≤ L) (hcs : cells ≤ room_1.cells ∧ slots ≤ room_1.slots) (kk : CE X p l e s mi below meth c b i cells slots Q) (hI : Inv m) (hW : Wd X s m H locs) (hl : lv_has ls 4 [(0, .ref b), (1, .ref (ad X 0 0)), (2, .ref (ad X 20 0)), (3, .int (nI i))]) : W p l e room_1 s mi #[Value.ref b] below meth c H locs cells slots Q (F0 mi 1255 ls []) := by
  obtain ⟨C, hX, hbl, hbA⟩ := K
  obtain ⟨r, m1, m2, e1, e2, hI2⟩ := op_lay (fu := 2000) (x1 := (xs (nI i + 1).toNatClampNeg)) (x2 := (xs (nI i + 2).toNatClampNeg)) (x3 := (xs (nI i + 3).toNatClampNeg)) (by decide)  hI
  refine lv_aload_n C.1 C.2.1 dL_1255 rfl (lv_at hl 1 rfl) ?_
  refine lv_aload_n C.1 C.2.1 dL_1256 rfl (lv_at hl 0 rfl) ?_
  refine lv_iload_n C.1 C.2.1 dL_1257 rfl (lv_at hl 3 rfl) ?_
  refine lv_iconst (v := 1) C.1 C.2.1 dL_1258 rfl ?_
  refine lv_iadd C.1 C.2.1 dL_1259 ?_
  refine va_sld C.1 C.2.1 hX hbl hbA hW.2 (in_1 hi hL) dL_1260 ?_
  refine lv_aload_n C.1 C.2.1 dL_1261 rfl (lv_at hl 0 rfl) ?_
  refine lv_iload_n C.1 C.2.1 dL_1262 rfl (lv_at hl 3 rfl) ?_
  refine lv_iconst (v := 2) C.1 C.2.1 dL_1263 rfl ?_
  refine lv_iadd C.1 C.2.1 dL_1264 ?_
  refine va_sld C.1 C.2.1 hX hbl hbA hW.2 (in_2 hi hL) dL_1265 ?_
  refine lv_aload_n C.1 C.2.1 dL_1266 rfl (lv_at hl 0 rfl) ?_
  refine lv_iload_n C.1 C.2.1 dL_1267 rfl (lv_at hl 3 rfl) ?_
  refine lv_iconst (v := 3) C.1 C.2.1 dL_1268 rfl ?_
  refine lv_iadd C.1 C.2.1 dL_1269 ?_
  refine va_sld C.1 C.2.1 hX hbl hbA hW.2 (in_3 hi hL) dL_1270 ?_
  refine zr_cVI C hW (c_X8_lay (X := X) (l := l) e1) k_X8_lay (zr_recv C hW id_0 zco_0 rfl) w_942 ⟨Nat.le_of_ble_eq_true rfl, Nat.le_of_ble_eq_true rfl⟩ hcs rfl hl.1 (rest := []) rfl (Nat.le_of_ble_eq_true rfl) dL_1271 (fun H locs hW => ?_)
  refine lv_aload_n C.1 C.2.1 dL_1274 rfl (lv_at hl 2 rfl) ?_
  refine lv_aload_n C.1 C.2.1 dL_1275 rfl (lv_at hl 0 rfl) ?_
  refine lv_iload_n C.1 C.2.1 dL_1276 rfl (lv_at hl 3 rfl) ?_
  refine lv_iconst (v := 1) C.1 C.2.1 dL_1277 rfl ?_
  refine lv_iadd C.1 C.2.1 dL_1278 ?_
  refine va_sld C.1 C.2.1 hX hbl hbA hW.2 (in_1 hi hL) dL_1279 ?_
  refine lv_aload_n C.1 C.2.1 dL_1280 rfl (lv_at hl 0 rfl) ?_
  refine lv_iload_n C.1 C.2.1 dL_1281 rfl (lv_at hl 3 rfl) ?_
  refine lv_iconst (v := 2) C.1 C.2.1 dL_1282 rfl ?_
  refine lv_iadd C.1 C.2.1 dL_1283 ?_
  refine va_sld C.1 C.2.1 hX hbl hbA hW.2 (in_2 hi hL) dL_1284 ?_
  refine lv_aload_n C.1 C.2.1 dL_1285 rfl (lv_at hl 0 rfl) ?_
  refine lv_iload_n C.1 C.2.1 dL_1286 rfl (lv_at hl 3 rfl) ?_
  refine lv_iconst (v := 3) C.1 C.2.1 dL_1287 rfl ?_
  refine lv_iadd C.1 C.2.1 dL_1288 ?_
  refine va_sld C.1 C.2.1 hX hbl hbA hW.2 (in_3 hi hL) dL_1289 ?_
  refine zr_cVI C hW (c_X9_lay (X := X) (l := l) e2) k_X9_lay (zr_recv C hW id_20 zco_20 rfl) w_1419 ⟨Nat.le_of_ble_eq_true rfl, Nat.le_of_ble_eq_true rfl⟩ hcs rfl hl.1 (rest := [.int r]) rfl (Nat.le_of_ble_eq_true rfl) dL_1290 (fun H locs hW => ?_)
  refine lv_icmp_eq (tgt := 1492) C.1 C.2.1 dL_1293 (by decide) (fun _ => ?_) (fun hc => absurd rfl hc)
  exact kk m2 H locs ls hI2 hW hl
theorem lw_34 (K : LC X p s mi c b L xs) (hL : L ≤ 3072) (hi : i + 6 ≤ L) (hcs : cells ≤ room_1.cells ∧ slots ≤ room_1.slots) (kk : CE X p l e s mi below meth c b i cells slots Q) (hI : Inv m) (hW : Wd X s m H locs) (hl : lv_has ls 4 [(0, .ref b), (1, .ref (ad X 0 0)), (2, .ref (ad X 20 0)), (3, .int (nI i))]) : W p l e room_1 s mi #[Value.ref b] below meth c H locs cells slots Q (F0 mi 1298 ls []) := by
  obtain ⟨C, hX, hbl, hbA⟩ := K
  obtain ⟨r, m1, m2, e1, e2, hI2⟩ := op_ask (fu := 2000) (x1 := (xs (nI i + 1).toNatClampNeg)) (x2 := (xs (nI i + 2).toNatClampNeg))  hI
  refine lv_aload_n C.1 C.2.1 dL_1298 rfl (lv_at hl 1 rfl) ?_
  refine lv_aload_n C.1 C.2.1 dL_1299 rfl (lv_at hl 0 rfl) ?_
  refine lv_iload_n C.1 C.2.1 dL_1300 rfl (lv_at hl 3 rfl) ?_
  refine lv_iconst (v := 1) C.1 C.2.1 dL_1301 rfl ?_
  refine lv_iadd C.1 C.2.1 dL_1302 ?_
  refine va_sld C.1 C.2.1 hX hbl hbA hW.2 (in_1 hi hL) dL_1303 ?_
  refine lv_aload_n C.1 C.2.1 dL_1304 rfl (lv_at hl 0 rfl) ?_
  refine lv_iload_n C.1 C.2.1 dL_1305 rfl (lv_at hl 3 rfl) ?_
  refine lv_iconst (v := 2) C.1 C.2.1 dL_1306 rfl ?_
  refine lv_iadd C.1 C.2.1 dL_1307 ?_
  refine va_sld C.1 C.2.1 hX hbl hbA hW.2 (in_2 hi hL) dL_1308 ?_
  refine zr_cVI C hW (c_X8_ask (X := X) (l := l) e1) k_X8_ask (zr_recv C hW id_0 zco_0 rfl) w_955 ⟨Nat.le_of_ble_eq_true rfl, Nat.le_of_ble_eq_true rfl⟩ hcs rfl hl.1 (rest := []) rfl (Nat.le_of_ble_eq_true rfl) dL_1309 (fun H locs hW => ?_)
  refine lv_aload_n C.1 C.2.1 dL_1312 rfl (lv_at hl 2 rfl) ?_
  refine lv_aload_n C.1 C.2.1 dL_1313 rfl (lv_at hl 0 rfl) ?_
  refine lv_iload_n C.1 C.2.1 dL_1314 rfl (lv_at hl 3 rfl) ?_
  refine lv_iconst (v := 1) C.1 C.2.1 dL_1315 rfl ?_
  refine lv_iadd C.1 C.2.1 dL_1316 ?_
  refine va_sld C.1 C.2.1 hX hbl hbA hW.2 (in_1 hi hL) dL_1317 ?_
  refine lv_aload_n C.1 C.2.1 dL_1318 rfl (lv_at hl 0 rfl) ?_
  refine lv_iload_n C.1 C.2.1 dL_1319 rfl (lv_at hl 3 rfl) ?_
  refine lv_iconst (v := 2) C.1 C.2.1 dL_1320 rfl ?_
  refine lv_iadd C.1 C.2.1 dL_1321 ?_
  refine va_sld C.1 C.2.1 hX hbl hbA hW.2 (in_2 hi hL) dL_1322 ?_
  refine zr_cVI C hW (c_X9_ask (X := X) (l := l) e2) k_X9_ask (zr_recv C hW id_20 zco_20 rfl) w_1426 ⟨Nat.le_of_ble_eq_true rfl, Nat.le_of_ble_eq_true rfl⟩ hcs rfl hl.1 (rest := [.int r]) rfl (Nat.le_of_ble_eq_true rfl) dL_1323 (fun H locs hW => ?_)
  refine lv_icmp_eq (tgt := 1492) C.1 C.2.1 dL_1326 (by decide) (fun _ => ?_) (fun hc => absurd rfl hc)
  exact kk m2 H locs ls hI2 hW hl
theorem lw_35 (K : LC X p s mi c b L xs) (hL : L ≤ 3072) (hi : i + 6 ≤ L) (hcs : cells ≤ room_1.cells ∧ slots ≤ room_1.slots) (kk : CE X p l e s mi below meth c b i cells slots Q) (hI : Inv m) (hW : Wd X s m H locs) (hl : lv_has ls 4 [(0, .ref b), (1, .ref (ad X 0 0)), (2, .ref (ad X 20 0)), (3, .int (nI i))]) : W p l e room_1 s mi #[Value.ref b] below meth c H locs cells slots Q (F0 mi 1331 ls []) := by
  obtain ⟨C, hX, hbl, hbA⟩ := K
  obtain ⟨r, m1, m2, e1, e2, hI2⟩ := op_item (fu := 2000) (x1 := (xs (nI i + 1).toNatClampNeg)) (x2 := (xs (nI i + 2).toNatClampNeg))  hI
  refine lv_aload_n C.1 C.2.1 dL_1331 rfl (lv_at hl 1 rfl) ?_
  refine lv_aload_n C.1 C.2.1 dL_1332 rfl (lv_at hl 0 rfl) ?_
  refine lv_iload_n C.1 C.2.1 dL_1333 rfl (lv_at hl 3 rfl) ?_
  refine lv_iconst (v := 1) C.1 C.2.1 dL_1334 rfl ?_
  refine lv_iadd C.1 C.2.1 dL_1335 ?_
  refine va_sld C.1 C.2.1 hX hbl hbA hW.2 (in_1 hi hL) dL_1336 ?_
  refine lv_aload_n C.1 C.2.1 dL_1337 rfl (lv_at hl 0 rfl) ?_
  refine lv_iload_n C.1 C.2.1 dL_1338 rfl (lv_at hl 3 rfl) ?_
  refine lv_iconst (v := 2) C.1 C.2.1 dL_1339 rfl ?_
  refine lv_iadd C.1 C.2.1 dL_1340 ?_
  refine va_sld C.1 C.2.1 hX hbl hbA hW.2 (in_2 hi hL) dL_1341 ?_
  refine zr_cVI C hW (c_X8_item (X := X) (l := l) e1) k_X8_item (zr_recv C hW id_0 zco_0 rfl) w_965 ⟨Nat.le_of_ble_eq_true rfl, Nat.le_of_ble_eq_true rfl⟩ hcs rfl hl.1 (rest := []) rfl (Nat.le_of_ble_eq_true rfl) dL_1342 (fun H locs hW => ?_)
  refine lv_aload_n C.1 C.2.1 dL_1345 rfl (lv_at hl 2 rfl) ?_
  refine lv_aload_n C.1 C.2.1 dL_1346 rfl (lv_at hl 0 rfl) ?_
  refine lv_iload_n C.1 C.2.1 dL_1347 rfl (lv_at hl 3 rfl) ?_
  refine lv_iconst (v := 1) C.1 C.2.1 dL_1348 rfl ?_
  refine lv_iadd C.1 C.2.1 dL_1349 ?_
  refine va_sld C.1 C.2.1 hX hbl hbA hW.2 (in_1 hi hL) dL_1350 ?_
  refine lv_aload_n C.1 C.2.1 dL_1351 rfl (lv_at hl 0 rfl) ?_
  refine lv_iload_n C.1 C.2.1 dL_1352 rfl (lv_at hl 3 rfl) ?_
  refine lv_iconst (v := 2) C.1 C.2.1 dL_1353 rfl ?_
  refine lv_iadd C.1 C.2.1 dL_1354 ?_
  refine va_sld C.1 C.2.1 hX hbl hbA hW.2 (in_2 hi hL) dL_1355 ?_
  refine zr_cVI C hW (c_X9_item (X := X) (l := l) e2) k_X9_item (zr_recv C hW id_20 zco_20 rfl) w_1430 ⟨Nat.le_of_ble_eq_true rfl, Nat.le_of_ble_eq_true rfl⟩ hcs rfl hl.1 (rest := [.int r]) rfl (Nat.le_of_ble_eq_true rfl) dL_1356 (fun H locs hW => ?_)
  refine lv_icmp_eq (tgt := 1492) C.1 C.2.1 dL_1359 (by decide) (fun _ => ?_) (fun hc => absurd rfl hc)
  exact kk m2 H locs ls hI2 hW hl
theorem lw_36 (K : LC X p s mi c b L xs) (hL : L ≤ 3072) (hi : i + 6 ≤ L) (hcs : cells ≤ room_1.cells ∧ slots ≤ room_1.slots) (kk : CE X p l e s mi below meth c b i cells slots Q) (hI : Inv m) (hW : Wd X s m H locs) (hl : lv_has ls 4 [(0, .ref b), (1, .ref (ad X 0 0)), (2, .ref (ad X 20 0)), (3, .int (nI i))]) : W p l e room_1 s mi #[Value.ref b] below meth c H locs cells slots Q (F0 mi 1364 ls []) := by
  obtain ⟨C, hX, hbl, hbA⟩ := K
  obtain ⟨r, m1, m2, e1, e2, hI2⟩ := op_rest (fu := 2000) (x1 := (xs (nI i + 1).toNatClampNeg)) (x2 := (xs (nI i + 2).toNatClampNeg))  hI
  refine lv_aload_n C.1 C.2.1 dL_1364 rfl (lv_at hl 1 rfl) ?_
  refine lv_aload_n C.1 C.2.1 dL_1365 rfl (lv_at hl 0 rfl) ?_
  refine lv_iload_n C.1 C.2.1 dL_1366 rfl (lv_at hl 3 rfl) ?_
  refine lv_iconst (v := 1) C.1 C.2.1 dL_1367 rfl ?_
  refine lv_iadd C.1 C.2.1 dL_1368 ?_
  refine va_sld C.1 C.2.1 hX hbl hbA hW.2 (in_1 hi hL) dL_1369 ?_
  refine lv_aload_n C.1 C.2.1 dL_1370 rfl (lv_at hl 0 rfl) ?_
  refine lv_iload_n C.1 C.2.1 dL_1371 rfl (lv_at hl 3 rfl) ?_
  refine lv_iconst (v := 2) C.1 C.2.1 dL_1372 rfl ?_
  refine lv_iadd C.1 C.2.1 dL_1373 ?_
  refine va_sld C.1 C.2.1 hX hbl hbA hW.2 (in_2 hi hL) dL_1374 ?_
  refine zr_cVI C hW (c_X8_rest (X := X) (l := l) e1) k_X8_rest (zr_recv C hW id_0 zco_0 rfl) w_969 ⟨Nat.le_of_ble_eq_true rfl, Nat.le_of_ble_eq_true rfl⟩ hcs rfl hl.1 (rest := []) rfl (Nat.le_of_ble_eq_true rfl) dL_1375 (fun H locs hW => ?_)
  refine lv_aload_n C.1 C.2.1 dL_1378 rfl (lv_at hl 2 rfl) ?_
  refine lv_aload_n C.1 C.2.1 dL_1379 rfl (lv_at hl 0 rfl) ?_
  refine lv_iload_n C.1 C.2.1 dL_1380 rfl (lv_at hl 3 rfl) ?_
  refine lv_iconst (v := 1) C.1 C.2.1 dL_1381 rfl ?_
  refine lv_iadd C.1 C.2.1 dL_1382 ?_
  refine va_sld C.1 C.2.1 hX hbl hbA hW.2 (in_1 hi hL) dL_1383 ?_
  refine lv_aload_n C.1 C.2.1 dL_1384 rfl (lv_at hl 0 rfl) ?_
  refine lv_iload_n C.1 C.2.1 dL_1385 rfl (lv_at hl 3 rfl) ?_
  refine lv_iconst (v := 2) C.1 C.2.1 dL_1386 rfl ?_
  refine lv_iadd C.1 C.2.1 dL_1387 ?_
  refine va_sld C.1 C.2.1 hX hbl hbA hW.2 (in_2 hi hL) dL_1388 ?_
  refine zr_cVI C hW (c_X9_rest (X := X) (l := l) e2) k_X9_rest (zr_recv C hW id_20 zco_20 rfl) w_1434 ⟨Nat.le_of_ble_eq_true rfl, Nat.le_of_ble_eq_true rfl⟩ hcs rfl hl.1 (rest := [.int r]) rfl (Nat.le_of_ble_eq_true rfl) dL_1389 (fun H locs hW => ?_)
  refine lv_icmp_eq (tgt := 1492) C.1 C.2.1 dL_1392 (by decide) (fun _ => ?_) (fun hc => absurd rfl hc)
  exact kk m2 H locs ls hI2 hW hl
theorem lw_37 (K : LC X p s mi c b L xs) (hL : L ≤ 3072) (hi : i + 6 ≤ L) (hcs : cells ≤ room_1.cells ∧ slots ≤ room_1.slots) (kk : CE X p l e s mi below meth c b i cells slots Q) (hI : Inv m) (hW : Wd X s m H locs) (hl : lv_has ls 4 [(0, .ref b), (1, .ref (ad X 0 0)), (2, .ref (ad X 20 0)), (3, .int (nI i))]) : W p l e room_1 s mi #[Value.ref b] below meth c H locs cells slots Q (F0 mi 1397 ls []) := by
  obtain ⟨C, hX, hbl, hbA⟩ := K
  obtain ⟨r, m1, m2, e1, e2, hI2⟩ := op_tell (fu := 2000) (x1 := (xs (nI i + 1).toNatClampNeg))  hI
  refine lv_aload_n C.1 C.2.1 dL_1397 rfl (lv_at hl 1 rfl) ?_
  refine lv_aload_n C.1 C.2.1 dL_1398 rfl (lv_at hl 0 rfl) ?_
  refine lv_iload_n C.1 C.2.1 dL_1399 rfl (lv_at hl 3 rfl) ?_
  refine lv_iconst (v := 1) C.1 C.2.1 dL_1400 rfl ?_
  refine lv_iadd C.1 C.2.1 dL_1401 ?_
  refine va_sld C.1 C.2.1 hX hbl hbA hW.2 (in_1 hi hL) dL_1402 ?_
  refine zr_cVI C hW (c_X8_tell (X := X) (l := l) e1) k_X8_tell (zr_recv C hW id_0 zco_0 rfl) w_974 ⟨Nat.le_of_ble_eq_true rfl, Nat.le_of_ble_eq_true rfl⟩ hcs rfl hl.1 (rest := []) rfl (Nat.le_of_ble_eq_true rfl) dL_1403 (fun H locs hW => ?_)
  refine lv_aload_n C.1 C.2.1 dL_1406 rfl (lv_at hl 2 rfl) ?_
  refine lv_aload_n C.1 C.2.1 dL_1407 rfl (lv_at hl 0 rfl) ?_
  refine lv_iload_n C.1 C.2.1 dL_1408 rfl (lv_at hl 3 rfl) ?_
  refine lv_iconst (v := 1) C.1 C.2.1 dL_1409 rfl ?_
  refine lv_iadd C.1 C.2.1 dL_1410 ?_
  refine va_sld C.1 C.2.1 hX hbl hbA hW.2 (in_1 hi hL) dL_1411 ?_
  refine zr_cVI C hW (c_X9_tell (X := X) (l := l) e2) k_X9_tell (zr_recv C hW id_20 zco_20 rfl) w_1439 ⟨Nat.le_of_ble_eq_true rfl, Nat.le_of_ble_eq_true rfl⟩ hcs rfl hl.1 (rest := [.int r]) rfl (Nat.le_of_ble_eq_true rfl) dL_1412 (fun H locs hW => ?_)
  refine lv_icmp_eq (tgt := 1492) C.1 C.2.1 dL_1415 (by decide) (fun _ => ?_) (fun hc => absurd rfl hc)
  exact kk m2 H locs ls hI2 hW hl
theorem lw_38 (K : LC X p s mi c b L xs) (hL : L ≤ 3072) (hi : i + 6 ≤ L) (hcs : cells ≤ room_1.cells ∧ slots ≤ room_1.slots) (kk : CE X p l e s mi below meth c b i cells slots Q) (hI : Inv m) (hW : Wd X s m H locs) (hl : lv_has ls 4 [(0, .ref b), (1, .ref (ad X 0 0)), (2, .ref (ad X 20 0)), (3, .int (nI i))]) : W p l e room_1 s mi #[Value.ref b] below meth c H locs cells slots Q (F0 mi 1420 ls []) := by
  obtain ⟨C, hX, hbl, hbA⟩ := K
  obtain ⟨r, m1, m2, e1, e2, hI2⟩ := op_check (fu := 2000) (x1 := (xs (nI i + 1).toNatClampNeg)) (by decide)  hI
  refine lv_aload_n C.1 C.2.1 dL_1420 rfl (lv_at hl 1 rfl) ?_
  refine lv_aload_n C.1 C.2.1 dL_1421 rfl (lv_at hl 0 rfl) ?_
  refine lv_iload_n C.1 C.2.1 dL_1422 rfl (lv_at hl 3 rfl) ?_
  refine lv_iconst (v := 1) C.1 C.2.1 dL_1423 rfl ?_
  refine lv_iadd C.1 C.2.1 dL_1424 ?_
  refine va_sld C.1 C.2.1 hX hbl hbA hW.2 (in_1 hi hL) dL_1425 ?_
  refine zr_cVI C hW (c_X8_check (X := X) (l := l) e1) k_X8_check (zr_recv C hW id_0 zco_0 rfl) w_978 ⟨Nat.le_of_ble_eq_true rfl, Nat.le_of_ble_eq_true rfl⟩ hcs rfl hl.1 (rest := []) rfl (Nat.le_of_ble_eq_true rfl) dL_1426 (fun H locs hW => ?_)
  refine lv_aload_n C.1 C.2.1 dL_1429 rfl (lv_at hl 2 rfl) ?_
  refine lv_aload_n C.1 C.2.1 dL_1430 rfl (lv_at hl 0 rfl) ?_
  refine lv_iload_n C.1 C.2.1 dL_1431 rfl (lv_at hl 3 rfl) ?_
  refine lv_iconst (v := 1) C.1 C.2.1 dL_1432 rfl ?_
  refine lv_iadd C.1 C.2.1 dL_1433 ?_
  refine va_sld C.1 C.2.1 hX hbl hbA hW.2 (in_1 hi hL) dL_1434 ?_
  refine zr_cVI C hW (c_X9_check (X := X) (l := l) e2) k_X9_check (zr_recv C hW id_20 zco_20 rfl) w_1443 ⟨Nat.le_of_ble_eq_true rfl, Nat.le_of_ble_eq_true rfl⟩ hcs rfl hl.1 (rest := [.int r]) rfl (Nat.le_of_ble_eq_true rfl) dL_1435 (fun H locs hW => ?_)
  refine lv_icmp_eq (tgt := 1492) C.1 C.2.1 dL_1438 (by decide) (fun _ => ?_) (fun hc => absurd rfl hc)
  exact kk m2 H locs ls hI2 hW hl
theorem lw_39 (K : LC X p s mi c b L xs) (hL : L ≤ 3072) (hi : i + 6 ≤ L) (hcs : cells ≤ room_1.cells ∧ slots ≤ room_1.slots) (kk : CE X p l e s mi below meth c b i cells slots Q) (hI : Inv m) (hW : Wd X s m H locs) (hl : lv_has ls 4 [(0, .ref b), (1, .ref (ad X 0 0)), (2, .ref (ad X 20 0)), (3, .int (nI i))]) : W p l e room_1 s mi #[Value.ref b] below meth c H locs cells slots Q (F0 mi 1443 ls []) := by
  obtain ⟨C, hX, hbl, hbA⟩ := K
  obtain ⟨r, m1, m2, e1, e2, hI2⟩ := op_keep (fu := 2000)  (by decide)  hI
  refine lv_aload_n C.1 C.2.1 dL_1443 rfl (lv_at hl 1 rfl) ?_
  refine zr_cVI C hW (c_X8_keep (X := X) (l := l) e1) k_X8_keep (zr_recv C hW id_0 zco_0 rfl) w_986 ⟨Nat.le_of_ble_eq_true rfl, Nat.le_of_ble_eq_true rfl⟩ hcs rfl hl.1 (rest := []) rfl (Nat.le_of_ble_eq_true rfl) dL_1444 (fun H locs hW => ?_)
  refine lv_aload_n C.1 C.2.1 dL_1447 rfl (lv_at hl 2 rfl) ?_
  refine zr_cVI C hW (c_X9_keep (X := X) (l := l) e2) k_X9_keep (zr_recv C hW id_20 zco_20 rfl) w_1450 ⟨Nat.le_of_ble_eq_true rfl, Nat.le_of_ble_eq_true rfl⟩ hcs rfl hl.1 (rest := [.int r]) rfl (Nat.le_of_ble_eq_true rfl) dL_1448 (fun H locs hW => ?_)
  refine lv_icmp_eq (tgt := 1492) C.1 C.2.1 dL_1451 (by decide) (fun _ => ?_) (fun hc => absurd rfl hc)
  exact kk m2 H locs ls hI2 hW hl
theorem lw_40 (K : LC X p s mi c b L xs) (hL : L ≤ 3072) (hi : i + 6 ≤ L) (hcs : cells ≤ room_1.cells ∧ slots ≤ room_1.slots) (kk : CE X p l e s mi below meth c b i cells slots Q) (hI : Inv m) (hW : Wd X s m H locs) (hl : lv_has ls 4 [(0, .ref b), (1, .ref (ad X 0 0)), (2, .ref (ad X 20 0)), (3, .int (nI i))]) : W p l e room_1 s mi #[Value.ref b] below meth c H locs cells slots Q (F0 mi 1456 ls []) := by
  obtain ⟨C, hX, hbl, hbA⟩ := K
  obtain ⟨r, m1, m2, e1, e2, hI2⟩ := op_back (fu := 2000)  (by decide)  hI
  refine lv_aload_n C.1 C.2.1 dL_1456 rfl (lv_at hl 1 rfl) ?_
  refine zr_cVI C hW (c_X8_back (X := X) (l := l) e1) k_X8_back (zr_recv C hW id_0 zco_0 rfl) w_990 ⟨Nat.le_of_ble_eq_true rfl, Nat.le_of_ble_eq_true rfl⟩ hcs rfl hl.1 (rest := []) rfl (Nat.le_of_ble_eq_true rfl) dL_1457 (fun H locs hW => ?_)
  refine lv_aload_n C.1 C.2.1 dL_1460 rfl (lv_at hl 2 rfl) ?_
  refine zr_cVI C hW (c_X9_back (X := X) (l := l) e2) k_X9_back (zr_recv C hW id_20 zco_20 rfl) w_1454 ⟨Nat.le_of_ble_eq_true rfl, Nat.le_of_ble_eq_true rfl⟩ hcs rfl hl.1 (rest := [.int r]) rfl (Nat.le_of_ble_eq_true rfl) dL_1461 (fun H locs hW => ?_)
  refine lv_icmp_eq (tgt := 1492) C.1 C.2.1 dL_1464 (by decide) (fun _ => ?_) (fun hc => absurd rfl hc)
  exact kk m2 H locs ls hI2 hW hl
theorem lw_41 (K : LC X p s mi c b L xs) (hL : L ≤ 3072) (hi : i + 6 ≤ L) (hcs : cells ≤ room_1.cells ∧ slots ≤ room_1.slots) (kk : CE X p l e s mi below meth c b i cells slots Q) (hI : Inv m) (hW : Wd X s m H locs) (hl : lv_has ls 4 [(0, .ref b), (1, .ref (ad X 0 0)), (2, .ref (ad X 20 0)), (3, .int (nI i))]) : W p l e room_1 s mi #[Value.ref b] below meth c H locs cells slots Q (F0 mi 1469 ls []) := by
  obtain ⟨C, hX, hbl, hbA⟩ := K
  obtain ⟨r, m1, m2, e1, e2, hI2⟩ := op_count (fu := 2000) (x1 := (xs (nI i + 1).toNatClampNeg))  hI
  refine lv_aload_n C.1 C.2.1 dL_1469 rfl (lv_at hl 1 rfl) ?_
  refine lv_aload_n C.1 C.2.1 dL_1470 rfl (lv_at hl 0 rfl) ?_
  refine lv_iload_n C.1 C.2.1 dL_1471 rfl (lv_at hl 3 rfl) ?_
  refine lv_iconst (v := 1) C.1 C.2.1 dL_1472 rfl ?_
  refine lv_iadd C.1 C.2.1 dL_1473 ?_
  refine va_sld C.1 C.2.1 hX hbl hbA hW.2 (in_1 hi hL) dL_1474 ?_
  refine zr_cVI C hW (c_X8_count (X := X) (l := l) e1) k_X8_count (zr_recv C hW id_0 zco_0 rfl) w_994 ⟨Nat.le_of_ble_eq_true rfl, Nat.le_of_ble_eq_true rfl⟩ hcs rfl hl.1 (rest := []) rfl (Nat.le_of_ble_eq_true rfl) dL_1475 (fun H locs hW => ?_)
  refine lv_aload_n C.1 C.2.1 dL_1478 rfl (lv_at hl 2 rfl) ?_
  refine lv_aload_n C.1 C.2.1 dL_1479 rfl (lv_at hl 0 rfl) ?_
  refine lv_iload_n C.1 C.2.1 dL_1480 rfl (lv_at hl 3 rfl) ?_
  refine lv_iconst (v := 1) C.1 C.2.1 dL_1481 rfl ?_
  refine lv_iadd C.1 C.2.1 dL_1482 ?_
  refine va_sld C.1 C.2.1 hX hbl hbA hW.2 (in_1 hi hL) dL_1483 ?_
  refine zr_cVI C hW (c_X9_count (X := X) (l := l) e2) k_X9_count (zr_recv C hW id_20 zco_20 rfl) w_1458 ⟨Nat.le_of_ble_eq_true rfl, Nat.le_of_ble_eq_true rfl⟩ hcs rfl hl.1 (rest := [.int r]) rfl (Nat.le_of_ble_eq_true rfl) dL_1484 (fun H locs hW => ?_)
  refine lv_icmp_eq (tgt := 1492) C.1 C.2.1 dL_1487 (by decide) (fun _ => ?_) (fun hc => absurd rfl hc)
  exact kk m2 H locs ls hI2 hW hl
end LAW
