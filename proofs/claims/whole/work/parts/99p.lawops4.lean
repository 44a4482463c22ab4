section LAWOPS
variable {G : zG} {Γ : zT}
theorem lw_op_done {b L : Nat} {xs : Nat → Int32} {i k n : Nat} (hX : va_X b L xs Γ.2.2.1.1 Γ.2.2.1.1.heap) (hb : b < Γ.2.2.1.1.heap.size) (hL : L ≤ 3584) (hi : i + 7 ≤ L) (hk : Lk k n) (h : lwS G Γ b i (k + 162) (n + 810) 1376) : lwS G Γ b i k n 1182 := by
  intro P a a' q N R Q D E O T U V F M hA
  obtain ⟨hp1, hp2, hv, hA2⟩ := op_done hA O (xs (i + 1)) (xs (i + 2))
  refine z_aload_n dL_1182 rfl ?_
  refine L_arg hX hb hL hi 1 (by decide) (by decide) rfl rfl dL_1183 dL_1184 dL_1185 dL_1186 dL_1187 ?_
  refine L_arg hX hb hL hi 2 (by decide) (by decide) rfl rfl dL_1188 dL_1189 dL_1190 dL_1191 dL_1192 ?_
  refine L_xw (fun sz => c_X6_done G P a sz N R O F _ _ hp1) (pm_nrof _ _ _ _ _ _ _ _ _ _ _) rfl rfl zc_X6_done zv_X6_done tw_m_RL_131 (L_room rfl hk) rfl (Nat.zero_le _) dL_1193 (L_k1 hk rfl) (L_k2 hk rfl) ?_
  refine L_perm (pm_nrof _ _ _ _ _ _ _ _ _ _ _).symm ?_
  refine z_aload_n dL_1196 rfl ?_
  refine L_arg hX hb hL hi 1 (by decide) (by decide) rfl rfl dL_1197 dL_1198 dL_1199 dL_1200 dL_1201 ?_
  refine L_arg hX hb hL hi 2 (by decide) (by decide) rfl rfl dL_1202 dL_1203 dL_1204 dL_1205 dL_1206 ?_
  refine L_xw (fun sz => c_X7_done G a' (gX_ok G P) sz M _ _ hp2) (pm_m _ _ _ _ _ _ _ _ _ _ _) rfl rfl zc_X7_done zv_X7_done tw_m_RL_134 (L_room7 rfl hk) rfl (Nat.le_of_ble_eq_true rfl) dL_1207 (Nat.le_refl _) (Nat.le_refl _) ?_
  refine L_perm (pm_m _ _ _ _ _ _ _ _ _ _ _).symm ?_
  refine z_icmp_eq dL_1210 (tgt := 1376) (by decide) (fun _ => ?_) (fun hne => absurd hv hne)
  exact h _ _ _ _ _ _ _ _ _ _ _ _ _ _ _ hA2
theorem lw_op_days {b L : Nat} {xs : Nat → Int32} {i k n : Nat} (hX : va_X b L xs Γ.2.2.1.1 Γ.2.2.1.1.heap) (hb : b < Γ.2.2.1.1.heap.size) (hL : L ≤ 3584) (hi : i + 7 ≤ L) (hk : Lk k n) (h : lwS G Γ b i (k + 162) (n + 810) 1376) : lwS G Γ b i k n 1215 := by
  intro P a a' q N R Q D E O T U V F M hA
  obtain ⟨hp1, hp2, hv, hA2⟩ := op_days hA O (xs (i + 1))
  refine z_aload_n dL_1215 rfl ?_
  refine L_arg hX hb hL hi 1 (by decide) (by decide) rfl rfl dL_1216 dL_1217 dL_1218 dL_1219 dL_1220 ?_
  refine L_xw (fun sz => c_X6_days G P a sz N R O _ hp1) (pm_nro _ _ _ _ _ _ _ _ _ _ _) rfl rfl zc_X6_days zv_X6_days tw_m_RL_135 (L_room rfl hk) rfl (Nat.zero_le _) dL_1221 (L_k1 hk rfl) (L_k2 hk rfl) ?_
  refine L_perm (pm_nro _ _ _ _ _ _ _ _ _ _ _).symm ?_
  refine z_aload_n dL_1224 rfl ?_
  refine L_arg hX hb hL hi 1 (by decide) (by decide) rfl rfl dL_1225 dL_1226 dL_1227 dL_1228 dL_1229 ?_
  refine L_xw (fun sz => c_X7_days G a' (gX_ok G P) sz M _ hp2) (pm_m _ _ _ _ _ _ _ _ _ _ _) rfl rfl zc_X7_days zv_X7_days tw_m_RL_138 (L_room7 rfl hk) rfl (Nat.le_of_ble_eq_true rfl) dL_1230 (Nat.le_refl _) (Nat.le_refl _) ?_
  refine L_perm (pm_m _ _ _ _ _ _ _ _ _ _ _).symm ?_
  refine z_icmp_eq dL_1233 (tgt := 1376) (by decide) (fun _ => ?_) (fun hne => absurd hv hne)
  exact h _ _ _ _ _ _ _ _ _ _ _ _ _ _ _ hA2
theorem lw_op_seed {b L : Nat} {xs : Nat → Int32} {i k n : Nat} (hX : va_X b L xs Γ.2.2.1.1 Γ.2.2.1.1.heap) (hb : b < Γ.2.2.1.1.heap.size) (hL : L ≤ 3584) (hi : i + 7 ≤ L) (hk : Lk k n) (h : lwS G Γ b i (k + 162) (n + 810) 1376) : lwS G Γ b i k n 1238 := by
  intro P a a' q N R Q D E O T U V F M hA
  obtain ⟨hv, hA2⟩ := op_seed hA (xs (i + 1))
  refine z_aload_n dL_1238 rfl ?_
  refine L_arg hX hb hL hi 1 (by decide) (by decide) rfl rfl dL_1239 dL_1240 dL_1241 dL_1242 dL_1243 ?_
  refine L_xw (fun sz => c_X6_seed G P a sz N R _) (pm_nr _ _ _ _ _ _ _ _ _ _ _) rfl rfl zc_X6_seed zv_X6_seed tw_m_RL_139 (L_room rfl hk) rfl (Nat.zero_le _) dL_1244 (L_k1 hk rfl) (L_k2 hk rfl) ?_
  refine L_perm (pm_nr _ _ _ _ _ _ _ _ _ _ _).symm ?_
  refine z_aload_n dL_1247 rfl ?_
  refine L_arg hX hb hL hi 1 (by decide) (by decide) rfl rfl dL_1248 dL_1249 dL_1250 dL_1251 dL_1252 ?_
  refine L_xw (fun sz => c_X7_seed G a' (gX_ok G P) sz M _) (pm_m _ _ _ _ _ _ _ _ _ _ _) rfl rfl zc_X7_seed zv_X7_seed tw_m_RL_142 (L_room7 rfl hk) rfl (Nat.le_of_ble_eq_true rfl) dL_1253 (Nat.le_refl _) (Nat.le_refl _) ?_
  refine L_perm (pm_m _ _ _ _ _ _ _ _ _ _ _).symm ?_
  refine z_icmp_eq dL_1256 (tgt := 1376) (by decide) (fun _ => ?_) (fun hne => absurd hv hne)
  exact h _ _ _ _ _ _ _ _ _ _ _ _ _ _ _ hA2
theorem lw_op_act {b L : Nat} {xs : Nat → Int32} {i k n : Nat} (hX : va_X b L xs Γ.2.2.1.1 Γ.2.2.1.1.heap) (hb : b < Γ.2.2.1.1.heap.size) (hL : L ≤ 3584) (hi : i + 7 ≤ L) (hk : Lk k n) (h : lwS G Γ b i (k + 162) (n + 810) 1376) : lwS G Γ b i k n 1261 := by
  intro P a a' q N R Q D E O T U V F M hA
  obtain ⟨hp1, hp2, hv, hA2⟩ := op_act hA (xs (i + 1)) (xs (i + 2)) (xs (i + 3))
  refine z_aload_n dL_1261 rfl ?_
  refine L_arg hX hb hL hi 1 (by decide) (by decide) rfl rfl dL_1262 dL_1263 dL_1264 dL_1265 dL_1266 ?_
  refine L_arg hX hb hL hi 2 (by decide) (by decide) rfl rfl dL_1267 dL_1268 dL_1269 dL_1270 dL_1271 ?_
  refine L_arg hX hb hL hi 3 (by decide) (by decide) rfl rfl dL_1272 dL_1273 dL_1274 dL_1275 dL_1276 ?_
  refine L_xw (fun sz => c_X6_act G P a sz N R V _ _ _ hp1) (pm_nrv _ _ _ _ _ _ _ _ _ _ _) rfl rfl zc_X6_act zv_X6_act tw_m_RL_143 (L_room rfl hk) rfl (Nat.zero_le _) dL_1277 (L_k1 hk rfl) (L_k2 hk rfl) ?_
  refine L_perm (pm_nrv _ _ _ _ _ _ _ _ _ _ _).symm ?_
  refine z_aload_n dL_1280 rfl ?_
  refine L_arg hX hb hL hi 1 (by decide) (by decide) rfl rfl dL_1281 dL_1282 dL_1283 dL_1284 dL_1285 ?_
  refine L_arg hX hb hL hi 2 (by decide) (by decide) rfl rfl dL_1286 dL_1287 dL_1288 dL_1289 dL_1290 ?_
  refine L_arg hX hb hL hi 3 (by decide) (by decide) rfl rfl dL_1291 dL_1292 dL_1293 dL_1294 dL_1295 ?_
  refine L_xw (fun sz => c_X7_act G a' (gX_ok G P) sz M _ _ _ hp2) (pm_m _ _ _ _ _ _ _ _ _ _ _) rfl rfl zc_X7_act zv_X7_act tw_m_RL_146 (L_room7 rfl hk) rfl (Nat.le_of_ble_eq_true rfl) dL_1296 (Nat.le_refl _) (Nat.le_refl _) ?_
  refine L_perm (pm_m _ _ _ _ _ _ _ _ _ _ _).symm ?_
  refine z_icmp_eq dL_1299 (tgt := 1376) (by decide) (fun _ => ?_) (fun hne => absurd hv hne)
  exact h _ _ _ _ _ _ _ _ _ _ _ _ _ _ _ hA2
theorem lw_op_trace {b L : Nat} {xs : Nat → Int32} {i k n : Nat} (hX : va_X b L xs Γ.2.2.1.1 Γ.2.2.1.1.heap) (hb : b < Γ.2.2.1.1.heap.size) (hL : L ≤ 3584) (hi : i + 7 ≤ L) (hk : Lk k n) (h : lwS G Γ b i (k + 162) (n + 810) 1376) : lwS G Γ b i k n 1304 := by
  intro P a a' q N R Q D E O T U V F M hA
  obtain ⟨hp1, hp2, hv⟩ := op_trace hA (xs (i + 1))
  have hA2 := hA
  refine z_aload_n dL_1304 rfl ?_
  refine L_arg hX hb hL hi 1 (by decide) (by decide) rfl rfl dL_1305 dL_1306 dL_1307 dL_1308 dL_1309 ?_
  refine L_xri (c_X6_trace G P a N V _ hp1) (pm_nv _ _ _ _ _ _ _ _ _ _ _) rfl rfl zc_X6_trace zv_X6_trace tw_m_RL_147 (L_room rfl hk) rfl (Nat.zero_le _) dL_1310 (Nat.le_add_right k 162) (Nat.le_add_right n 810) ?_
  refine z_aload_n dL_1313 rfl ?_
  refine L_arg hX hb hL hi 1 (by decide) (by decide) rfl rfl dL_1314 dL_1315 dL_1316 dL_1317 dL_1318 ?_
  refine L_mri (c_X7_trace G a' M _ hp2) (pm_m _ _ _ _ _ _ _ _ _ _ _) rfl rfl zc_X7_trace zv_X7_trace tw_m_RL_150 (L_room7 rfl hk) rfl (Nat.le_of_ble_eq_true rfl) dL_1319 (Nat.le_refl _) (Nat.le_refl _) ?_
  refine z_icmp_eq dL_1322 (tgt := 1376) (by decide) (fun _ => ?_) (fun hne => absurd hv hne)
  exact h _ _ _ _ _ _ _ _ _ _ _ _ _ _ _ hA2
theorem lw_op_image {b L : Nat} {xs : Nat → Int32} {i k n : Nat} (hX : va_X b L xs Γ.2.2.1.1 Γ.2.2.1.1.heap) (hb : b < Γ.2.2.1.1.heap.size) (hL : L ≤ 3584) (hi : i + 7 ≤ L) (hk : Lk k n) (h : lwS G Γ b i (k + 162) (n + 810) 1376) : lwS G Γ b i k n 1327 := by
  intro P a a' q N R Q D E O T U V F M hA
  obtain ⟨hp1, hp2, hv, hA2⟩ := op_image hA 
  refine z_aload_n dL_1327 rfl ?_
  refine L_xw (fun sz => c_X6_image G P a sz N R Q hp1) (pm_nrq _ _ _ _ _ _ _ _ _ _ _) rfl rfl zc_X6_image zv_X6_image tw_m_RL_151 (L_room rfl hk) rfl (Nat.zero_le _) dL_1328 (L_k1 hk rfl) (L_k2 hk rfl) ?_
  refine L_perm (pm_nrq _ _ _ _ _ _ _ _ _ _ _).symm ?_
  refine z_aload_n dL_1331 rfl ?_
  refine L_xw (fun sz => c_X7_image G a' (gX_ok G P) sz M hp2) (pm_m _ _ _ _ _ _ _ _ _ _ _) rfl rfl zc_X7_image zv_X7_image tw_m_RL_154 (L_room7 rfl hk) rfl (Nat.le_of_ble_eq_true rfl) dL_1332 (Nat.le_refl _) (Nat.le_refl _) ?_
  refine L_perm (pm_m _ _ _ _ _ _ _ _ _ _ _).symm ?_
  refine z_icmp_eq dL_1335 (tgt := 1376) (by decide) (fun _ => ?_) (fun hne => absurd hv hne)
  exact h _ _ _ _ _ _ _ _ _ _ _ _ _ _ _ hA2
theorem lw_op_restore {b L : Nat} {xs : Nat → Int32} {i k n : Nat} (hX : va_X b L xs Γ.2.2.1.1 Γ.2.2.1.1.heap) (hb : b < Γ.2.2.1.1.heap.size) (hL : L ≤ 3584) (hi : i + 7 ≤ L) (hk : Lk k n) (h : lwS G Γ b i (k + 162) (n + 810) 1376) : lwS G Γ b i k n 1340 := by
  intro P a a' q N R Q D E O T U V F M hA
  obtain ⟨hp1, hp2, hv, hA2⟩ := op_restore hA 
  refine z_aload_n dL_1340 rfl ?_
  refine L_xw (fun sz => c_X6_restore G P a sz N R Q F hp1) (pm_nrqf _ _ _ _ _ _ _ _ _ _ _) rfl rfl zc_X6_restore zv_X6_restore tw_m_RL_155 (L_room rfl hk) rfl (Nat.zero_le _) dL_1341 (L_k1 hk rfl) (L_k2 hk rfl) ?_
  refine L_perm (pm_nrqf _ _ _ _ _ _ _ _ _ _ _).symm ?_
  refine z_aload_n dL_1344 rfl ?_
  refine L_xw (fun sz => c_X7_restore G a' (gX_ok G P) sz M hp2) (pm_m _ _ _ _ _ _ _ _ _ _ _) rfl rfl zc_X7_restore zv_X7_restore tw_m_RL_158 (L_room7 rfl hk) rfl (Nat.le_of_ble_eq_true rfl) dL_1345 (Nat.le_refl _) (Nat.le_refl _) ?_
  refine L_perm (pm_m _ _ _ _ _ _ _ _ _ _ _).symm ?_
  refine z_icmp_eq dL_1348 (tgt := 1376) (by decide) (fun _ => ?_) (fun hne => absurd hv hne)
  exact h _ _ _ _ _ _ _ _ _ _ _ _ _ _ _ hA2
theorem lw_op_status {b L : Nat} {xs : Nat → Int32} {i k n : Nat} (hX : va_X b L xs Γ.2.2.1.1 Γ.2.2.1.1.heap) (hb : b < Γ.2.2.1.1.heap.size) (hL : L ≤ 3584) (hi : i + 7 ≤ L) (hk : Lk k n) (h : lwS G Γ b i (k + 162) (n + 810) 1376) : lwS G Γ b i k n 1353 := by
  intro P a a' q N R Q D E O T U V F M hA
  obtain ⟨hp1, hp2, hv, hA2⟩ := op_status hA (xs (i + 1))
  refine z_aload_n dL_1353 rfl ?_
  refine L_arg hX hb hL hi 1 (by decide) (by decide) rfl rfl dL_1354 dL_1355 dL_1356 dL_1357 dL_1358 ?_
  refine L_xri (c_X6_status G P a N R V _ hp1) (pm_nrv _ _ _ _ _ _ _ _ _ _ _) rfl rfl zc_X6_status zv_X6_status tw_m_RL_159 (L_room rfl hk) rfl (Nat.zero_le _) dL_1359 (Nat.le_add_right k 162) (Nat.le_add_right n 810) ?_
  refine z_aload_n dL_1362 rfl ?_
  refine L_arg hX hb hL hi 1 (by decide) (by decide) rfl rfl dL_1363 dL_1364 dL_1365 dL_1366 dL_1367 ?_
  refine L_xw (fun sz => c_X7_status G a' (gX_ok G P) sz M _ hp2) (pm_m _ _ _ _ _ _ _ _ _ _ _) rfl rfl zc_X7_status zv_X7_status tw_m_RL_162 (L_room7 rfl hk) rfl (Nat.le_of_ble_eq_true rfl) dL_1368 (Nat.le_refl _) (Nat.le_refl _) ?_
  refine L_perm (pm_m _ _ _ _ _ _ _ _ _ _ _).symm ?_
  refine z_icmp_eq dL_1371 (tgt := 1376) (by decide) (fun _ => ?_) (fun hne => absurd hv hne)
  exact h _ _ _ _ _ _ _ _ _ _ _ _ _ _ _ hA2
end LAWOPS
