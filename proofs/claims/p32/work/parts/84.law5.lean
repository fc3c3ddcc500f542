section KL
variable {p : Program} {l : Launch} {e : Env} {s : State} {m : MethodId} {below : List Frame} {meth : Method} {c : Code} {bb L i : Nat} {xs : Nat → Int32} {G : kz_G} {x : Nat} {a sv ah h t : Nat → Nat} {b : Nat → Nat → Nat} {np nq nc nl nv ng nu nf nk nt : Nat} {V S Y : kz_S} {R : Nat → kz_S} {zp zq zc zl zv zg zu zf zk zt : Nat → Int32} {why beh : Int32} {D nP mL : Nat} {hh : Int32}
set_option maxHeartbeats 4000000 in
set_option maxRecDepth 100000 in
/-- behind a step the law holds the class against its rows, and goes on -/
theorem kl_tail (C0 : kl_C p s m c bb L xs G) (hi : i + 1 ≤ 60) (I0 : ps_I (i + 1) V S Y zp zq zc zl zv zg zu zf zk zt why beh) (KL : kl_at p l e s m below meth c bb G x a sv ah h b t np nq nc nl nv ng nu nf nk nt 104 [(0, .ref bb), (1, .ref x), (2, .ref np), (3, .ref nq), (4, .ref nc), (5, .ref nl), (6, .ref nv), (7, .ref ng), (8, .ref nu), (9, .ref nf), (10, .ref nk), (11, .ref nt), (12, .int why), (13, .int beh), (14, .int (nI (i + 1)))] V S Y R zp zq zc zl zv zg zu zf zk zt) : kl_at p l e s m below meth c bb G x a sv ah h b t np nq nc nl nv ng nu nf nk nt 1172 [(17, .int 1), (0, .ref bb), (1, .ref x), (2, .ref np), (3, .ref nq), (4, .ref nc), (5, .ref nl), (6, .ref nv), (7, .ref ng), (8, .ref nu), (9, .ref nf), (10, .ref nk), (11, .ref nt), (12, .int why), (13, .int beh), (14, .int (nI i))] V S Y R zp zq zc zl zv zg zu zf zk zt := by
  obtain ⟨hx, hb, hml, hown, hts, ⟨hX, hL⟩, hbl, hK, hZ0⟩ := C0
  have hA : ∀ q : Nat, s.heap.size ≤ q → kl_A s q := fun _ h => h
  have hbA : ¬ kl_A s bb := Nat.not_le.mpr hbl
  obtain ⟨⟨D, nP, mL, hR, hD9⟩, hv, -, -⟩ := I0
  intro H locs ls hP hD hS hl
  have hnP := ps_n hR
  have e5 := hR.2.2.2.2.1.1
  have e7 := hR.2.2.2.2.2.2.1.1
  have h7 := ps_h7 hR hi
  have h8 := ps_h8 hR hi
  have h5 := ps_h5 hR (by omega)
  have ht := ps_t hR (by omega)
  refine lv_iload hx hb dL_law_1172 (lv_at hl 0 rfl) ?_
  refine lv_if_eq (tgt := 1222) hx hb dL_law_1174 (by decide) (fun c => absurd c (by decide)) (fun _ => ?_)
  refine lv_aload_n hx hb dL_law_1177 rfl (lv_at hl 2 rfl) ?_
  refine lv_iconst (v := 0) hx hb dL_law_1178 (by decide +kernel) ?_
  refine kz_rdV (As := [.int 0]) (rest := []) (b := x) ⟨hx, hb, hml, hown, hts⟩ (c_X3_refusal l G x (a 0) (sv 0) (ah 0) (h 0) (t 0) V 0) (cwV 1 hts gL_law_X3_refusal rfl rfl rfl (by decide +kernel) ⟨Nat.le_of_ble_eq_true rfl, Nat.le_of_ble_eq_true rfl⟩) hK (hP.sub (cs := [xoW x (a 0) (sv 0) (ah 0) (h 0) (t 0) V]) [0] rfl) (kz_recv hK hP (ci := 3) (q0 := 0) rfl rfl) rfl hl.1 rfl (Nat.le_of_ble_eq_true rfl) dL_law_1179 ⟨Nat.le_of_ble_eq_true rfl, Nat.le_of_ble_eq_true rfl⟩ ?_
  refine lv_iload hx hb dL_law_1182 (lv_at hl 13 rfl) ?_
  refine lv_icmp_ne (tgt := 1222) hx hb dL_law_1184 (by decide) (fun c => absurd c (by exact fun z => z ((ps_ref hv).1))) (fun c_1 => ?_)
  refine lv_aload_n hx hb dL_law_1187 rfl (lv_at hl 2 rfl) ?_
  refine lv_iconst (v := 1) hx hb dL_law_1188 (by decide +kernel) ?_
  refine kz_rdV (As := [.int 1]) (rest := []) (b := x) ⟨hx, hb, hml, hown, hts⟩ (c_X3_refusal l G x (a 0) (sv 0) (ah 0) (h 0) (t 0) V 1) (cwV 1 hts gL_law_X3_refusal rfl rfl rfl (by decide +kernel) ⟨Nat.le_of_ble_eq_true rfl, Nat.le_of_ble_eq_true rfl⟩) hK (hP.sub (cs := [xoW x (a 0) (sv 0) (ah 0) (h 0) (t 0) V]) [0] rfl) (kz_recv hK hP (ci := 3) (q0 := 0) rfl rfl) rfl hl.1 rfl (Nat.le_of_ble_eq_true rfl) dL_law_1189 ⟨Nat.le_of_ble_eq_true rfl, Nat.le_of_ble_eq_true rfl⟩ ?_
  refine lv_iload hx hb dL_law_1192 (lv_at hl 14 rfl) ?_
  refine lv_icmp_ne (tgt := 1222) hx hb dL_law_1194 (by decide) (fun c => absurd c (by exact fun z => z ((ps_ref hv).2))) (fun c_2 => ?_)
  refine lv_aload_n hx hb dL_law_1197 rfl (lv_at hl 2 rfl) ?_
  refine lv_aload_n hx hb dL_law_1198 rfl (lv_at hl 3 rfl) ?_
  refine lv_aload_n hx hb dL_law_1199 rfl (lv_at hl 4 rfl) ?_
  refine lv_aload hx hb dL_law_1200 (lv_at hl 5 rfl) ?_
  refine lv_aload hx hb dL_law_1202 (lv_at hl 6 rfl) ?_
  refine lv_aload hx hb dL_law_1204 (lv_at hl 7 rfl) ?_
  refine lv_aload hx hb dL_law_1206 (lv_at hl 8 rfl) ?_
  refine lv_aload hx hb dL_law_1208 (lv_at hl 9 rfl) ?_
  refine lv_aload hx hb dL_law_1210 (lv_at hl 10 rfl) ?_
  refine lv_aload hx hb dL_law_1212 (lv_at hl 11 rfl) ?_
  refine lv_aload hx hb dL_law_1214 (lv_at hl 12 rfl) ?_
  refine kz_rdS (As := [.ref x, .ref np, .ref nq, .ref nc, .ref nl, .ref nv, .ref ng, .ref nu, .ref nf, .ref nk, .ref nt]) (rest := []) ⟨hx, hb, hml, hown, hts⟩ (c_L_shop l G x (sv 0) (ah 0) (h 0) (t 0) V a S np zp nq zq nc zc nl zl nv zv ng zg nu zu nf zf nk zk nt zt hR hi (by omega)) (va_cwS 11 hts gL_law_L_shop rfl rfl rfl (by decide +kernel) ⟨Nat.le_of_ble_eq_true rfl, Nat.le_of_ble_eq_true rfl⟩) hK (hP.sub (cs := [xoW x (a 0) (sv 0) (ah 0) (h 0) (t 0) V, shW G a S, [(np, .inl (G.2.1, 64, .inl zp))], [(nq, .inl (G.2.1, 64, .inl zq))], [(nc, .inl (G.2.1, 64, .inl zc))], [(nl, .inl (G.2.1, 64, .inl zl))], [(nv, .inl (G.2.1, 64, .inl zv))], [(ng, .inl (G.2.1, 10, .inl zg))], [(nu, .inl (G.2.1, 10, .inl zu))], [(nf, .inl (G.2.1, 10, .inl zf))], [(nk, .inl (G.2.1, 10, .inl zk))], [(nt, .inl (G.2.1, 10, .inl zt))]]) [0, 1, 12, 13, 14, 15, 16, 17, 18, 19, 20, 21] rfl) rfl hl.1 rfl (Nat.le_of_ble_eq_true rfl) dL_law_1216 ⟨Nat.le_of_ble_eq_true rfl, Nat.le_of_ble_eq_true rfl⟩ ?_
  refine lv_if_ne (tgt := 1224) hx hb dL_law_1219 (by decide) (fun _ => ?_) (fun c => absurd c (by decide))
  refine lv_aload_n hx hb dL_law_1224 rfl (lv_at hl 1 rfl) ?_
  refine lv_bipush (v := 70) hx hb dL_law_1225 (by decide +kernel) ?_
  refine lv_iload hx hb dL_law_1227 (lv_at hl 15 rfl) ?_
  refine lv_iadd hx hb dL_law_1229 ?_
  refine lv_topi (fun y_3 ey_4 => ?_)
  obtain rfl : y_3 = (nI (70 + i)) := by rw [ey_4]; exact nI_add 70 i
  refine kz_rxS (As := [.ref bb, .int (nI (70 + i))]) (rest := []) ⟨hx, hb, hml, hown, hts⟩ (c_L_cell l bb L (70 + i) xs (by omega) (by omega)) (va_cwS 2 hts gL_law_L_cell rfl rfl rfl (by decide +kernel) ⟨Nat.le_of_ble_eq_true rfl, Nat.le_of_ble_eq_true rfl⟩) hX hbl hbA hS rfl hl.1 rfl (Nat.le_of_ble_eq_true rfl) dL_law_1230 ⟨Nat.le_of_ble_eq_true rfl, Nat.le_of_ble_eq_true rfl⟩ ?_
  refine lv_topi (fun xx exx => ?_)
  clear exx
  refine lv_istore (lv' := [(18, .int xx), (17, .int 1), (0, .ref bb), (1, .ref x), (2, .ref np), (3, .ref nq), (4, .ref nc), (5, .ref nl), (6, .ref nv), (7, .ref ng), (8, .ref nu), (9, .ref nf), (10, .ref nk), (11, .ref nt), (12, .int why), (13, .int beh), (14, .int (nI i))]) hx hb dL_law_1233 hl (by decide) rfl (fun ls hl => ?_)
  refine lv_iload hx hb dL_law_1235 (lv_at hl 0 rfl) ?_
  refine lv_bipush (v := 7) hx hb dL_law_1237 (by decide +kernel) ?_
  refine kz_rdS (As := [.int xx, .int 7]) (rest := []) ⟨hx, hb, hml, hown, hts⟩ (c_L_low l G xx 7 (by omega) (by omega)) (va_cwS 2 hts gL_law_L_low rfl rfl rfl (by decide +kernel) ⟨Nat.le_of_ble_eq_true rfl, Nat.le_of_ble_eq_true rfl⟩) hK (hP.sub (cs := []) [] rfl) rfl hl.1 rfl (Nat.le_of_ble_eq_true rfl) dL_law_1239 ⟨Nat.le_of_ble_eq_true rfl, Nat.le_of_ble_eq_true rfl⟩ ?_
  obtain ⟨A0, eA0⟩ : ∃ z, z = ps_lo xx 7 := ⟨_, rfl⟩
  have hA0 : A0 < 7 := by rw [eA0]; exact ps_lo_lt (by omega)
  refine lv_topi (fun y_5 ey_6 => ?_)
  obtain rfl : y_5 = nI A0 := by rw [ey_6, eA0]
  refine lv_bipush (v := 7) hx hb dL_law_1242 (by decide +kernel) ?_
  refine lv_iload hx hb dL_law_1244 (lv_at hl 0 rfl) ?_
  refine lv_iconst (v := 3) hx hb dL_law_1246 (by decide +kernel) ?_
  refine lv_ishr hx hb dL_law_1247 ?_
  refine lv_bipush (v := 90) hx hb dL_law_1248 (by decide +kernel) ?_
  refine kz_rdS (As := [.int (xx >>> 3), .int 90]) (rest := [.int 7, .int (nI A0)]) ⟨hx, hb, hml, hown, hts⟩ (c_L_low l G (xx >>> 3) 90 (by omega) (by omega)) (va_cwS 2 hts gL_law_L_low rfl rfl rfl (by decide +kernel) ⟨Nat.le_of_ble_eq_true rfl, Nat.le_of_ble_eq_true rfl⟩) hK (hP.sub (cs := []) [] rfl) rfl hl.1 rfl (Nat.le_of_ble_eq_true rfl) dL_law_1250 ⟨Nat.le_of_ble_eq_true rfl, Nat.le_of_ble_eq_true rfl⟩ ?_
  obtain ⟨B0, eB0⟩ : ∃ z, z = ps_lo (xx >>> 3) 90 := ⟨_, rfl⟩
  have hB0 : B0 < 90 := by rw [eB0]; exact ps_lo_lt (by omega)
  refine lv_topi (fun y_7 ey_8 => ?_)
  obtain rfl : y_7 = nI B0 := by rw [ey_8, eB0]
  refine lv_imul hx hb dL_law_1253 ?_
  refine lv_topi (fun y_9 ey_10 => ?_)
  obtain rfl : y_9 = (nI (7 * B0)) := by rw [ey_10]; exact pk_mul 7 B0
  refine lv_iadd hx hb dL_law_1254 ?_
  refine lv_topi (fun y_11 ey_12 => ?_)
  obtain rfl : y_11 = (nI (A0 + 7 * B0)) := by rw [ey_12]; exact nI_add _ _
  refine lv_iload hx hb dL_law_1255 (lv_at hl 0 rfl) ?_
  refine lv_bipush (v := 10) hx hb dL_law_1257 (by decide +kernel) ?_
  refine lv_ishr hx hb dL_law_1259 ?_
  refine lv_bipush (v := 48) hx hb dL_law_1260 (by decide +kernel) ?_
  refine kz_rdS (As := [.int (xx >>> 10), .int 48]) (rest := [.int (nI (A0 + 7 * B0))]) ⟨hx, hb, hml, hown, hts⟩ (c_L_low l G (xx >>> 10) 48 (by omega) (by omega)) (va_cwS 2 hts gL_law_L_low rfl rfl rfl (by decide +kernel) ⟨Nat.le_of_ble_eq_true rfl, Nat.le_of_ble_eq_true rfl⟩) hK (hP.sub (cs := []) [] rfl) rfl hl.1 rfl (Nat.le_of_ble_eq_true rfl) dL_law_1262 ⟨Nat.le_of_ble_eq_true rfl, Nat.le_of_ble_eq_true rfl⟩ ?_
  obtain ⟨P0, eP0⟩ : ∃ z, z = ps_lo (xx >>> 10) 48 := ⟨_, rfl⟩
  have hP0 : P0 < 48 := by rw [eP0]; exact ps_lo_lt (by omega)
  refine lv_topi (fun y_13 ey_14 => ?_)
  obtain rfl : y_13 = nI P0 := by rw [ey_14, eP0]
  refine kz_rdS (As := [.int (nI (A0 + 7 * B0)), .int (nI P0)]) (rest := []) ⟨hx, hb, hml, hown, hts⟩ (c_L_code l G (A0 + 7 * B0) P0 (by omega) (by omega)) (va_cwS 2 hts gL_law_L_code rfl rfl rfl (by decide +kernel) ⟨Nat.le_of_ble_eq_true rfl, Nat.le_of_ble_eq_true rfl⟩) hK (hP.sub (cs := []) [] rfl) rfl hl.1 rfl (Nat.le_of_ble_eq_true rfl) dL_law_1265 ⟨Nat.le_of_ble_eq_true rfl, Nat.le_of_ble_eq_true rfl⟩ ?_
  refine lv_istore (lv' := [(19, .int (nI (ps_cd ((A0 + 7 * B0) % 7 + 1) P0))), (18, .int xx), (17, .int 1), (0, .ref bb), (1, .ref x), (2, .ref np), (3, .ref nq), (4, .ref nc), (5, .ref nl), (6, .ref nv), (7, .ref ng), (8, .ref nu), (9, .ref nf), (10, .ref nk), (11, .ref nt), (12, .int why), (13, .int beh), (14, .int (nI i))]) hx hb dL_law_1268 hl (by decide) rfl (fun ls hl => ?_)
  have hw7 : (A0 + 7 * B0) % 7 < 7 := Nat.mod_lt _ (by decide)
  have hAN := ps_cd_lt (w := (A0 + 7 * B0) % 7 + 1) (j := P0) (by omega) hP0
  refine lv_aload hx hb dL_law_1270 (lv_at hl 8 rfl) ?_
  refine lv_aload hx hb dL_law_1272 (lv_at hl 9 rfl) ?_
  refine lv_aload hx hb dL_law_1274 (lv_at hl 14 rfl) ?_
  refine lv_iload hx hb dL_law_1276 (lv_at hl 0 rfl) ?_
  refine kz_rdS (As := [.ref nl, .ref nv, .ref nt, .int (nI (ps_cd ((A0 + 7 * B0) % 7 + 1) P0))]) (rest := []) ⟨hx, hb, hml, hown, hts⟩ (c_L_until l G nl zl nv zv nt zt (nI (ps_cd ((A0 + 7 * B0) % 7 + 1) P0)) (by assumption)) (va_cwS 4 hts gL_law_L_until rfl rfl rfl (by decide +kernel) ⟨Nat.le_of_ble_eq_true rfl, Nat.le_of_ble_eq_true rfl⟩) hK (hP.sub (cs := [[(nl, .inl (G.2.1, 64, .inl zl))], [(nv, .inl (G.2.1, 64, .inl zv))], [(nt, .inl (G.2.1, 10, .inl zt))]]) [15, 16, 21] rfl) rfl hl.1 rfl (Nat.le_of_ble_eq_true rfl) dL_law_1278 ⟨Nat.le_of_ble_eq_true rfl, Nat.le_of_ble_eq_true rfl⟩ ?_
  refine lv_istore (lv' := [(20, .int (L_until_r zl zv zt (nI (ps_cd ((A0 + 7 * B0) % 7 + 1) P0)))), (19, .int (nI (ps_cd ((A0 + 7 * B0) % 7 + 1) P0))), (18, .int xx), (17, .int 1), (0, .ref bb), (1, .ref x), (2, .ref np), (3, .ref nq), (4, .ref nc), (5, .ref nl), (6, .ref nv), (7, .ref ng), (8, .ref nu), (9, .ref nf), (10, .ref nk), (11, .ref nt), (12, .int why), (13, .int beh), (14, .int (nI i))]) hx hb dL_law_1281 hl (by decide) rfl (fun ls hl => ?_)
  refine lv_aload_n hx hb dL_law_1283 rfl (lv_at hl 5 rfl) ?_
  refine lv_iload hx hb dL_law_1284 (lv_at hl 2 rfl) ?_
  refine lv_bipush (v := 7) hx hb dL_law_1286 (by decide +kernel) ?_
  refine kz_rdS (As := [.int xx, .int 7]) (rest := [.ref x]) ⟨hx, hb, hml, hown, hts⟩ (c_L_low l G xx 7 (by omega) (by omega)) (va_cwS 2 hts gL_law_L_low rfl rfl rfl (by decide +kernel) ⟨Nat.le_of_ble_eq_true rfl, Nat.le_of_ble_eq_true rfl⟩) hK (hP.sub (cs := []) [] rfl) rfl hl.1 rfl (Nat.le_of_ble_eq_true rfl) dL_law_1288 ⟨Nat.le_of_ble_eq_true rfl, Nat.le_of_ble_eq_true rfl⟩ ?_
  refine lv_topi (fun y_15 ey_16 => ?_)
  obtain rfl : y_15 = nI A0 := by rw [ey_16, eA0]
  refine lv_bipush (v := 7) hx hb dL_law_1291 (by decide +kernel) ?_
  refine lv_iload hx hb dL_law_1293 (lv_at hl 2 rfl) ?_
  refine lv_iconst (v := 3) hx hb dL_law_1295 (by decide +kernel) ?_
  refine lv_ishr hx hb dL_law_1296 ?_
  refine lv_bipush (v := 90) hx hb dL_law_1297 (by decide +kernel) ?_
  refine kz_rdS (As := [.int (xx >>> 3), .int 90]) (rest := [.int 7, .int (nI A0), .ref x]) ⟨hx, hb, hml, hown, hts⟩ (c_L_low l G (xx >>> 3) 90 (by omega) (by omega)) (va_cwS 2 hts gL_law_L_low rfl rfl rfl (by decide +kernel) ⟨Nat.le_of_ble_eq_true rfl, Nat.le_of_ble_eq_true rfl⟩) hK (hP.sub (cs := []) [] rfl) rfl hl.1 rfl (Nat.le_of_ble_eq_true rfl) dL_law_1299 ⟨Nat.le_of_ble_eq_true rfl, Nat.le_of_ble_eq_true rfl⟩ ?_
  refine lv_topi (fun y_17 ey_18 => ?_)
  obtain rfl : y_17 = nI B0 := by rw [ey_18, eB0]
  refine lv_imul hx hb dL_law_1302 ?_
  refine lv_topi (fun y_19 ey_20 => ?_)
  obtain rfl : y_19 = (nI (7 * B0)) := by rw [ey_20]; exact pk_mul 7 B0
  refine lv_iadd hx hb dL_law_1303 ?_
  refine lv_topi (fun y_21 ey_22 => ?_)
  obtain rfl : y_21 = (nI (A0 + 7 * B0)) := by rw [ey_22]; exact nI_add _ _
  refine lv_iload hx hb dL_law_1304 (lv_at hl 2 rfl) ?_
  refine lv_bipush (v := 10) hx hb dL_law_1306 (by decide +kernel) ?_
  refine lv_ishr hx hb dL_law_1308 ?_
  refine lv_bipush (v := 48) hx hb dL_law_1309 (by decide +kernel) ?_
  refine kz_rdS (As := [.int (xx >>> 10), .int 48]) (rest := [.int (nI (A0 + 7 * B0)), .ref x]) ⟨hx, hb, hml, hown, hts⟩ (c_L_low l G (xx >>> 10) 48 (by omega) (by omega)) (va_cwS 2 hts gL_law_L_low rfl rfl rfl (by decide +kernel) ⟨Nat.le_of_ble_eq_true rfl, Nat.le_of_ble_eq_true rfl⟩) hK (hP.sub (cs := []) [] rfl) rfl hl.1 rfl (Nat.le_of_ble_eq_true rfl) dL_law_1311 ⟨Nat.le_of_ble_eq_true rfl, Nat.le_of_ble_eq_true rfl⟩ ?_
  refine lv_topi (fun y_23 ey_24 => ?_)
  obtain rfl : y_23 = nI P0 := by rw [ey_24, eP0]
  refine lv_bipush (v := 8) hx hb dL_law_1314 (by decide +kernel) ?_
  refine lv_idiv hx hb dL_law_1316 (by decide +kernel) ?_
  refine lv_topi (fun y_25 ey_26 => ?_)
  obtain rfl : y_25 = (nI (P0 / 8)) := by rw [ey_26]; exact kz_divN (d := 8) (by omega) (by omega) (by omega)
  refine lv_iload hx hb dL_law_1317 (lv_at hl 2 rfl) ?_
  refine lv_bipush (v := 10) hx hb dL_law_1319 (by decide +kernel) ?_
  refine lv_ishr hx hb dL_law_1321 ?_
  refine lv_bipush (v := 48) hx hb dL_law_1322 (by decide +kernel) ?_
  refine kz_rdS (As := [.int (xx >>> 10), .int 48]) (rest := [.int (nI (P0 / 8)), .int (nI (A0 + 7 * B0)), .ref x]) ⟨hx, hb, hml, hown, hts⟩ (c_L_low l G (xx >>> 10) 48 (by omega) (by omega)) (va_cwS 2 hts gL_law_L_low rfl rfl rfl (by decide +kernel) ⟨Nat.le_of_ble_eq_true rfl, Nat.le_of_ble_eq_true rfl⟩) hK (hP.sub (cs := []) [] rfl) rfl hl.1 rfl (Nat.le_of_ble_eq_true rfl) dL_law_1324 ⟨Nat.le_of_ble_eq_true rfl, Nat.le_of_ble_eq_true rfl⟩ ?_
  refine lv_topi (fun y_27 ey_28 => ?_)
  obtain rfl : y_27 = nI P0 := by rw [ey_28, eP0]
  refine lv_bipush (v := 8) hx hb dL_law_1327 (by decide +kernel) ?_
  refine lv_irem hx hb dL_law_1329 (by decide +kernel) ?_
  refine kz_topR ?_
  refine lv_topi (fun y_29 ey_30 => ?_)
  obtain rfl : y_29 = (nI (P0 % 8)) := by rw [ey_30]; exact kz_remN (d := 8) (by omega) (by omega) (by omega)
  refine kz_rdV (As := [.int (nI (A0 + 7 * B0)), .int (nI (P0 / 8)), .int (nI (P0 % 8))]) (rest := []) (b := x) ⟨hx, hb, hml, hown, hts⟩ (c_X3_codeOf l G x (a 0) (sv 0) (ah 0) (h 0) (t 0) V (nI (A0 + 7 * B0)) (nI (P0 / 8)) (nI (P0 % 8))) (cwV 3 hts gL_law_X3_codeOf rfl rfl rfl (by decide +kernel) ⟨Nat.le_of_ble_eq_true rfl, Nat.le_of_ble_eq_true rfl⟩) hK (hP.sub (cs := [xoW x (a 0) (sv 0) (ah 0) (h 0) (t 0) V]) [0] rfl) (kz_recv hK hP (ci := 3) (q0 := 0) rfl rfl) rfl hl.1 rfl (Nat.le_of_ble_eq_true rfl) dL_law_1330 ⟨Nat.le_of_ble_eq_true rfl, Nat.le_of_ble_eq_true rfl⟩ ?_
  refine lv_iload hx hb dL_law_1333 (lv_at hl 1 rfl) ?_
  refine lv_icmp_ne (tgt := 1407) hx hb dL_law_1335 (by decide) (fun c => absurd c (by exact fun z => z (ps_codeOf V (by omega) hP0))) (fun c_31 => ?_)
  refine lv_aload_n hx hb dL_law_1338 rfl (lv_at hl 5 rfl) ?_
  refine lv_iload hx hb dL_law_1339 (lv_at hl 1 rfl) ?_
  refine kz_rdV (As := [.int (nI (ps_cd ((A0 + 7 * B0) % 7 + 1) P0))]) (rest := []) (b := x) ⟨hx, hb, hml, hown, hts⟩ (c_X3_restsUntil l G x (sv 0) (ah 0) (h 0) (t 0) V a S (nI (ps_cd ((A0 + 7 * B0) % 7 + 1) P0))) (cwV 1 hts gL_law_X3_restsUntil rfl rfl rfl (by decide +kernel) ⟨Nat.le_of_ble_eq_true rfl, Nat.le_of_ble_eq_true rfl⟩) hK (hP.sub (cs := [xoW x (a 0) (sv 0) (ah 0) (h 0) (t 0) V, shW G a S]) [0, 1] rfl) (kz_recv hK hP (ci := 3) (q0 := 0) rfl rfl) rfl hl.1 rfl (Nat.le_of_ble_eq_true rfl) dL_law_1341 ⟨Nat.le_of_ble_eq_true rfl, Nat.le_of_ble_eq_true rfl⟩ ?_
  refine lv_iload hx hb dL_law_1344 (lv_at hl 0 rfl) ?_
  refine lv_aload hx hb dL_law_1346 (lv_at hl 15 rfl) ?_
  refine lv_iconst (v := 5) hx hb dL_law_1348 (by decide +kernel) ?_
  refine va_iald (f := zt) hx hb hK.1 hP 113 0 rfl rfl (vp_in_nI (n := 5) (N := 10) (by decide) (by decide)) dL_law_1349 ?_
  refine lv_topi (fun y_32 ey_33 => ?_)
  obtain rfl : y_32 = (nI D) := by rw [ey_33]; exact (show (zt 5) = (nI D) from e5)
  refine lv_icmp_le (tgt := 1358) hx hb dL_law_1350 (by decide) (fun c_34 => ?_) (fun c_34 => ?_)
  · refine lv_bipush (v := (-6)) hx hb dL_law_1358 (by decide +kernel) ?_
    refine lv_icmp_ne (tgt := 1407) hx hb dL_law_1360 (by decide) (fun c => absurd c (by exact fun z => z ((ps_aRU (V := V) hR hi (by omega) hw7 hP0).trans (if_pos c_34)))) (fun c_35 => ?_)
    refine lv_aload_n hx hb dL_law_1363 rfl (lv_at hl 5 rfl) ?_
    refine lv_iload hx hb dL_law_1364 (lv_at hl 1 rfl) ?_
    refine kz_rdV (As := [.int (nI (ps_cd ((A0 + 7 * B0) % 7 + 1) P0))]) (rest := []) (b := x) ⟨hx, hb, hml, hown, hts⟩ (c_X3_isCode l G x (a 0) (sv 0) (ah 0) (h 0) (t 0) V (nI (ps_cd ((A0 + 7 * B0) % 7 + 1) P0))) (cwV 1 hts gL_law_X3_isCode rfl rfl rfl (by decide +kernel) ⟨Nat.le_of_ble_eq_true rfl, Nat.le_of_ble_eq_true rfl⟩) hK (hP.sub (cs := [xoW x (a 0) (sv 0) (ah 0) (h 0) (t 0) V]) [0] rfl) (kz_recv hK hP (ci := 3) (q0 := 0) rfl rfl) rfl hl.1 rfl (Nat.le_of_ble_eq_true rfl) dL_law_1366 ⟨Nat.le_of_ble_eq_true rfl, Nat.le_of_ble_eq_true rfl⟩ ?_
    refine lv_iconst (v := 1) hx hb dL_law_1369 (by decide +kernel) ?_
    refine lv_icmp_ne (tgt := 1407) hx hb dL_law_1370 (by decide) (fun c => absurd c (by exact fun z => z (ps_isC1 V hw7 hP0))) (fun c_36 => ?_)
    refine lv_aload_n hx hb dL_law_1373 rfl (lv_at hl 5 rfl) ?_
    refine lv_iload hx hb dL_law_1374 (lv_at hl 1 rfl) ?_
    refine lv_bipush (v := 10) hx hb dL_law_1376 (by decide +kernel) ?_
    refine lv_idiv hx hb dL_law_1378 (by decide +kernel) ?_
    refine lv_topi (fun y_37 ey_38 => ?_)
    obtain rfl : y_37 = (nI (ps_cd ((A0 + 7 * B0) % 7 + 1) P0 / 10)) := by rw [ey_38]; exact kz_divN (d := 10) (by omega) (by omega) (by omega)
    refine lv_bipush (v := 10) hx hb dL_law_1379 (by decide +kernel) ?_
    refine lv_imul hx hb dL_law_1381 ?_
    refine lv_topi (fun y_39 ey_40 => ?_)
    obtain rfl : y_39 = (nI (ps_cd ((A0 + 7 * B0) % 7 + 1) P0 / 10 * 10)) := by rw [ey_40]; exact pk_mul _ 10
    refine lv_iload hx hb dL_law_1382 (lv_at hl 1 rfl) ?_
    refine lv_iconst (v := 1) hx hb dL_law_1384 (by decide +kernel) ?_
    refine lv_iadd hx hb dL_law_1385 ?_
    refine lv_topi (fun y_41 ey_42 => ?_)
    obtain rfl : y_41 = (nI (ps_cd ((A0 + 7 * B0) % 7 + 1) P0 + 1)) := by rw [ey_42]; exact nI_1 _
    refine lv_iload hx hb dL_law_1386 (lv_at hl 2 rfl) ?_
    refine lv_bipush (v := 17) hx hb dL_law_1388 (by decide +kernel) ?_
    refine lv_ishr hx hb dL_law_1390 ?_
    refine lv_bipush (v := 9) hx hb dL_law_1391 (by decide +kernel) ?_
    refine kz_rdS (As := [.int (xx >>> 17), .int 9]) (rest := [.int (nI (ps_cd ((A0 + 7 * B0) % 7 + 1) P0 + 1)), .int (nI (ps_cd ((A0 + 7 * B0) % 7 + 1) P0 / 10 * 10)), .ref x]) ⟨hx, hb, hml, hown, hts⟩ (c_L_low l G (xx >>> 17) 9 (by omega) (by omega)) (va_cwS 2 hts gL_law_L_low rfl rfl rfl (by decide +kernel) ⟨Nat.le_of_ble_eq_true rfl, Nat.le_of_ble_eq_true rfl⟩) hK (hP.sub (cs := []) [] rfl) rfl hl.1 rfl (Nat.le_of_ble_eq_true rfl) dL_law_1393 ⟨Nat.le_of_ble_eq_true rfl, Nat.le_of_ble_eq_true rfl⟩ ?_
    obtain ⟨T0, eT0⟩ : ∃ z, z = ps_lo (xx >>> 17) 9 := ⟨_, rfl⟩
    have hT0 : T0 < 9 := by rw [eT0]; exact ps_lo_lt (by omega)
    refine lv_topi (fun y_43 ey_44 => ?_)
    obtain rfl : y_43 = nI T0 := by rw [ey_44, eT0]
    refine lv_iadd hx hb dL_law_1396 ?_
    refine lv_topi (fun y_45 ey_46 => ?_)
    obtain rfl : y_45 = (nI (ps_cd ((A0 + 7 * B0) % 7 + 1) P0 + 1 + T0)) := by rw [ey_46]; exact nI_add _ _
    refine lv_bipush (v := 10) hx hb dL_law_1397 (by decide +kernel) ?_
    refine lv_irem hx hb dL_law_1399 (by decide +kernel) ?_
    refine kz_topR ?_
    refine lv_topi (fun y_47 ey_48 => ?_)
    obtain rfl : y_47 = (nI ((ps_cd ((A0 + 7 * B0) % 7 + 1) P0 + 1 + T0) % 10)) := by rw [ey_48]; exact kz_remN (d := 10) (by omega) (by omega) (by omega)
    refine lv_iadd hx hb dL_law_1400 ?_
    refine lv_topi (fun y_49 ey_50 => ?_)
    obtain rfl : y_49 = (nI (ps_cd ((A0 + 7 * B0) % 7 + 1) P0 / 10 * 10 + (ps_cd ((A0 + 7 * B0) % 7 + 1) P0 + 1 + T0) % 10)) := by rw [ey_50]; exact nI_add _ _
    refine kz_rdV (As := [.int (nI (ps_cd ((A0 + 7 * B0) % 7 + 1) P0 / 10 * 10 + (ps_cd ((A0 + 7 * B0) % 7 + 1) P0 + 1 + T0) % 10))]) (rest := []) (b := x) ⟨hx, hb, hml, hown, hts⟩ (c_X3_isCode l G x (a 0) (sv 0) (ah 0) (h 0) (t 0) V (nI (ps_cd ((A0 + 7 * B0) % 7 + 1) P0 / 10 * 10 + (ps_cd ((A0 + 7 * B0) % 7 + 1) P0 + 1 + T0) % 10))) (cwV 1 hts gL_law_X3_isCode rfl rfl rfl (by decide +kernel) ⟨Nat.le_of_ble_eq_true rfl, Nat.le_of_ble_eq_true rfl⟩) hK (hP.sub (cs := [xoW x (a 0) (sv 0) (ah 0) (h 0) (t 0) V]) [0] rfl) (kz_recv hK hP (ci := 3) (q0 := 0) rfl rfl) rfl hl.1 rfl (Nat.le_of_ble_eq_true rfl) dL_law_1401 ⟨Nat.le_of_ble_eq_true rfl, Nat.le_of_ble_eq_true rfl⟩ ?_
    refine lv_if_eq (tgt := 1409) hx hb dL_law_1404 (by decide) (fun c_51 => ?_) (fun c => absurd c (by exact fun z => z (ps_isC0 V hw7 hP0 hT0)))
    refine lv_aload hx hb dL_law_1409 (lv_at hl 15 rfl) ?_
    refine lv_bipush (v := 7) hx hb dL_law_1411 (by decide +kernel) ?_
    refine va_iald (f := zt) hx hb hK.1 hP 113 0 rfl rfl (vp_in_nI (n := 7) (N := 10) (by decide) (by decide)) dL_law_1413 ?_
    refine lv_topi (fun y_52 ey_53 => ?_)
    obtain rfl : y_52 = (nI nP) := by rw [ey_53]; exact (show (zt 7) = (nI nP) from e7)
    refine lv_if_le (tgt := 1510) hx hb dL_law_1414 (by decide) (fun c_54 => ?_) (fun c_54 => ?_)
    · refine lv_iinc (v := (nI (i + 1))) (lv' := [(14, .int (nI (i + 1))), (20, .int (L_until_r zl zv zt (nI (ps_cd ((A0 + 7 * B0) % 7 + 1) P0)))), (19, .int (nI (ps_cd ((A0 + 7 * B0) % 7 + 1) P0))), (18, .int xx), (17, .int 1), (0, .ref bb), (1, .ref x), (2, .ref np), (3, .ref nq), (4, .ref nc), (5, .ref nl), (6, .ref nv), (7, .ref ng), (8, .ref nu), (9, .ref nf), (10, .ref nk), (11, .ref nt), (12, .int why), (13, .int beh)]) hx hb dL_law_1510 hl (k := 18) rfl (nI_1 _) (by decide) rfl (fun ls hl => ?_)
      refine lv_goto (tgt := 104) hx hb dL_law_1513 (by decide) ?_
      exact KL H locs ls hP hD hS (lv_sub hl [5, 6, 7, 8, 9, 10, 11, 12, 13, 14, 15, 16, 17, 18, 0] rfl)
    · have hnp0 := ps_pos0 c_54
      refine lv_iload hx hb dL_law_1417 (lv_at hl 2 rfl) ?_
      refine lv_bipush (v := 20) hx hb dL_law_1419 (by decide +kernel) ?_
      refine lv_ishr hx hb dL_law_1421 ?_
      refine lv_aload hx hb dL_law_1422 (lv_at hl 15 rfl) ?_
      refine lv_bipush (v := 7) hx hb dL_law_1424 (by decide +kernel) ?_
      refine va_iald (f := zt) hx hb hK.1 hP 113 0 rfl rfl (vp_in_nI (n := 7) (N := 10) (by decide) (by decide)) dL_law_1426 ?_
      refine lv_topi (fun y_55 ey_56 => ?_)
      obtain rfl : y_55 = (nI nP) := by rw [ey_56]; exact (show (zt 7) = (nI nP) from e7)
      refine kz_rdS (As := [.int (xx >>> 20), .int (nI nP)]) (rest := []) ⟨hx, hb, hml, hown, hts⟩ (c_L_low l G (xx >>> 20) nP (by omega) (by omega)) (va_cwS 2 hts gL_law_L_low rfl rfl rfl (by decide +kernel) ⟨Nat.le_of_ble_eq_true rfl, Nat.le_of_ble_eq_true rfl⟩) hK (hP.sub (cs := []) [] rfl) rfl hl.1 rfl (Nat.le_of_ble_eq_true rfl) dL_law_1427 ⟨Nat.le_of_ble_eq_true rfl, Nat.le_of_ble_eq_true rfl⟩ ?_
      obtain ⟨k0, ek0⟩ : ∃ z, z = ps_lo (xx >>> 20) nP := ⟨_, rfl⟩
      have hk0 : k0 < nP := by rw [ek0]; exact ps_lo_lt (by omega)
      refine lv_topi (fun y_57 ey_58 => ?_)
      obtain rfl : y_57 = nI k0 := by rw [ey_58, ek0]
      refine lv_istore (lv' := [(21, .int (nI k0)), (20, .int (L_until_r zl zv zt (nI (ps_cd ((A0 + 7 * B0) % 7 + 1) P0)))), (19, .int (nI (ps_cd ((A0 + 7 * B0) % 7 + 1) P0))), (18, .int xx), (17, .int 1), (0, .ref bb), (1, .ref x), (2, .ref np), (3, .ref nq), (4, .ref nc), (5, .ref nl), (6, .ref nv), (7, .ref ng), (8, .ref nu), (9, .ref nf), (10, .ref nk), (11, .ref nt), (12, .int why), (13, .int beh), (14, .int (nI i))]) hx hb dL_law_1430 hl (by decide) rfl (fun ls hl => ?_)
      refine lv_aload_n hx hb dL_law_1432 rfl (lv_at hl 7 rfl) ?_
      refine lv_iload hx hb dL_law_1433 (lv_at hl 0 rfl) ?_
      refine va_iald (f := zp) hx hb hK.1 hP 104 0 rfl rfl (vp_in_nI (n := k0) (N := 64) (by omega) (by decide)) dL_law_1435 ?_
      refine lv_topi (fun y_59 ey_60 => ?_)
      obtain rfl : y_59 = (zp k0) := by rw [ey_60, kz_nI_clamp (n := k0) (by omega)]
      refine lv_if_lt (tgt := 1461) hx hb dL_law_1436 (by decide) (fun c_61 => ?_) (fun c_61 => ?_)
      · refine lv_iconst (v := 0) hx hb dL_law_1461 (by decide +kernel) ?_
        refine lv_istore (lv' := [(22, .int 0), (21, .int (nI k0)), (20, .int (L_until_r zl zv zt (nI (ps_cd ((A0 + 7 * B0) % 7 + 1) P0)))), (19, .int (nI (ps_cd ((A0 + 7 * B0) % 7 + 1) P0))), (18, .int xx), (17, .int 1), (0, .ref bb), (1, .ref x), (2, .ref np), (3, .ref nq), (4, .ref nc), (5, .ref nl), (6, .ref nv), (7, .ref ng), (8, .ref nu), (9, .ref nf), (10, .ref nk), (11, .ref nt), (12, .int why), (13, .int beh), (14, .int (nI i))]) hx hb dL_law_1462 hl (by decide) rfl (fun ls hl => ?_)
        refine lv_iload hx hb dL_law_1464 (lv_at hl 0 rfl) ?_
        refine lv_if_eq (tgt := 1510) hx hb dL_law_1466 (by decide) (fun _ => ?_) (fun c => absurd c (by decide))
        refine lv_iinc (v := (nI (i + 1))) (lv' := [(14, .int (nI (i + 1))), (22, .int 0), (21, .int (nI k0)), (20, .int (L_until_r zl zv zt (nI (ps_cd ((A0 + 7 * B0) % 7 + 1) P0)))), (19, .int (nI (ps_cd ((A0 + 7 * B0) % 7 + 1) P0))), (18, .int xx), (17, .int 1), (0, .ref bb), (1, .ref x), (2, .ref np), (3, .ref nq), (4, .ref nc), (5, .ref nl), (6, .ref nv), (7, .ref ng), (8, .ref nu), (9, .ref nf), (10, .ref nk), (11, .ref nt), (12, .int why), (13, .int beh)]) hx hb dL_law_1510 hl (k := 20) rfl (nI_1 _) (by decide) rfl (fun ls hl => ?_)
        refine lv_goto (tgt := 104) hx hb dL_law_1513 (by decide) ?_
        exact KL H locs ls hP hD hS (lv_sub hl [7, 8, 9, 10, 11, 12, 13, 14, 15, 16, 17, 18, 19, 20, 0] rfl)
      · obtain ⟨j, hj, ek⟩ := ps_there hR.2.2.1 hk0 c_61
        refine lv_aload_n hx hb dL_law_1439 rfl (lv_at hl 7 rfl) ?_
        refine lv_aload hx hb dL_law_1440 (lv_at hl 9 rfl) ?_
        refine lv_aload hx hb dL_law_1442 (lv_at hl 16 rfl) ?_
        refine lv_aload hx hb dL_law_1444 (lv_at hl 9 rfl) ?_
        refine lv_iload hx hb dL_law_1446 (lv_at hl 0 rfl) ?_
        refine va_iald (f := zc) hx hb hK.1 hP 106 0 rfl rfl (vp_in_nI (n := k0) (N := 64) (by omega) (by decide)) dL_law_1448 ?_
        refine lv_topi (fun y_62 ey_63 => ?_)
        obtain rfl : y_62 = (zc k0) := by rw [ey_63, kz_nI_clamp (n := k0) (by omega)]
        refine kz_rdS (As := [.ref np, .ref nc, .ref nt, .int (zc k0)]) (rest := []) ⟨hx, hb, hml, hown, hts⟩ (c_L_by l G np zp nc zc nt zt (zc k0) (by assumption)) (va_cwS 4 hts gL_law_L_by rfl rfl rfl (by decide +kernel) ⟨Nat.le_of_ble_eq_true rfl, Nat.le_of_ble_eq_true rfl⟩) hK (hP.sub (cs := [[(np, .inl (G.2.1, 64, .inl zp))], [(nc, .inl (G.2.1, 64, .inl zc))], [(nt, .inl (G.2.1, 10, .inl zt))]]) [12, 14, 21] rfl) rfl hl.1 rfl (Nat.le_of_ble_eq_true rfl) dL_law_1449 ⟨Nat.le_of_ble_eq_true rfl, Nat.le_of_ble_eq_true rfl⟩ ?_
        refine lv_iload hx hb dL_law_1452 (lv_at hl 0 rfl) ?_
        refine lv_icmp_ne (tgt := 1461) hx hb dL_law_1454 (by decide) (fun c_64 => ?_) (fun c_64 => ?_)
        · refine lv_iconst (v := 0) hx hb dL_law_1461 (by decide +kernel) ?_
          refine lv_istore (lv' := [(22, .int 0), (21, .int (nI k0)), (20, .int (L_until_r zl zv zt (nI (ps_cd ((A0 + 7 * B0) % 7 + 1) P0)))), (19, .int (nI (ps_cd ((A0 + 7 * B0) % 7 + 1) P0))), (18, .int xx), (17, .int 1), (0, .ref bb), (1, .ref x), (2, .ref np), (3, .ref nq), (4, .ref nc), (5, .ref nl), (6, .ref nv), (7, .ref ng), (8, .ref nu), (9, .ref nf), (10, .ref nk), (11, .ref nt), (12, .int why), (13, .int beh), (14, .int (nI i))]) hx hb dL_law_1462 hl (by decide) rfl (fun ls hl => ?_)
          refine lv_iload hx hb dL_law_1464 (lv_at hl 0 rfl) ?_
          refine lv_if_eq (tgt := 1510) hx hb dL_law_1466 (by decide) (fun _ => ?_) (fun c => absurd c (by decide))
          refine lv_iinc (v := (nI (i + 1))) (lv' := [(14, .int (nI (i + 1))), (22, .int 0), (21, .int (nI k0)), (20, .int (L_until_r zl zv zt (nI (ps_cd ((A0 + 7 * B0) % 7 + 1) P0)))), (19, .int (nI (ps_cd ((A0 + 7 * B0) % 7 + 1) P0))), (18, .int xx), (17, .int 1), (0, .ref bb), (1, .ref x), (2, .ref np), (3, .ref nq), (4, .ref nc), (5, .ref nl), (6, .ref nv), (7, .ref ng), (8, .ref nu), (9, .ref nf), (10, .ref nk), (11, .ref nt), (12, .int why), (13, .int beh)]) hx hb dL_law_1510 hl (k := 20) rfl (nI_1 _) (by decide) rfl (fun ls hl => ?_)
          refine lv_goto (tgt := 104) hx hb dL_law_1513 (by decide) ?_
          exact KL H locs ls hP hD hS (lv_sub hl [7, 8, 9, 10, 11, 12, 13, 14, 15, 16, 17, 18, 19, 20, 0] rfl)
        · refine lv_iconst (v := 1) hx hb dL_law_1457 (by decide +kernel) ?_
          refine lv_goto (tgt := 1462) hx hb dL_law_1458 (by decide) ?_
          refine lv_istore (lv' := [(22, .int 1), (21, .int (nI k0)), (20, .int (L_until_r zl zv zt (nI (ps_cd ((A0 + 7 * B0) % 7 + 1) P0)))), (19, .int (nI (ps_cd ((A0 + 7 * B0) % 7 + 1) P0))), (18, .int xx), (17, .int 1), (0, .ref bb), (1, .ref x), (2, .ref np), (3, .ref nq), (4, .ref nc), (5, .ref nl), (6, .ref nv), (7, .ref ng), (8, .ref nu), (9, .ref nf), (10, .ref nk), (11, .ref nt), (12, .int why), (13, .int beh), (14, .int (nI i))]) hx hb dL_law_1462 hl (by decide) rfl (fun ls hl => ?_)
          refine lv_iload hx hb dL_law_1464 (lv_at hl 0 rfl) ?_
          refine lv_if_eq (tgt := 1510) hx hb dL_law_1466 (by decide) (fun c => absurd c (by decide)) (fun _ => ?_)
          refine lv_aload_n hx hb dL_law_1469 rfl (lv_at hl 7 rfl) ?_
          refine lv_aload hx hb dL_law_1470 (lv_at hl 10 rfl) ?_
          refine lv_iload hx hb dL_law_1472 (lv_at hl 1 rfl) ?_
          refine va_iald (f := zc) hx hb hK.1 hP 106 0 rfl rfl (vp_in_nI (n := k0) (N := 64) (by omega) (by decide)) dL_law_1474 ?_
          refine lv_topi (fun y_65 ey_66 => ?_)
          obtain rfl : y_65 = (zc k0) := by rw [ey_66, kz_nI_clamp (n := k0) (by omega)]
          refine lv_iload hx hb dL_law_1475 (lv_at hl 4 rfl) ?_
          refine lv_bipush (v := 30) hx hb dL_law_1477 (by decide +kernel) ?_
          refine kz_rdS (As := [.int xx, .int 30]) (rest := [.int (zc k0), .ref x]) ⟨hx, hb, hml, hown, hts⟩ (c_L_low l G xx 30 (by omega) (by omega)) (va_cwS 2 hts gL_law_L_low rfl rfl rfl (by decide +kernel) ⟨Nat.le_of_ble_eq_true rfl, Nat.le_of_ble_eq_true rfl⟩) hK (hP.sub (cs := []) [] rfl) rfl hl.1 rfl (Nat.le_of_ble_eq_true rfl) dL_law_1479 ⟨Nat.le_of_ble_eq_true rfl, Nat.le_of_ble_eq_true rfl⟩ ?_
          obtain ⟨fd, efd⟩ : ∃ z, z = ps_lo xx 30 := ⟨_, rfl⟩
          have hfd : fd < 30 := by rw [efd]; exact ps_lo_lt (by omega)
          refine lv_topi (fun y_67 ey_68 => ?_)
          obtain rfl : y_67 = nI fd := by rw [ey_68, efd]
          refine kz_rdV (As := [.int (zc k0), .int (nI fd)]) (rest := []) (b := x) ⟨hx, hb, hml, hown, hts⟩ (c_X3_feeIn l G x (sv 0) (ah 0) (h 0) (t 0) V a S (zc k0) (nI fd)) (cwV 2 hts gL_law_X3_feeIn rfl rfl rfl (by decide +kernel) ⟨Nat.le_of_ble_eq_true rfl, Nat.le_of_ble_eq_true rfl⟩) hK (hP.sub (cs := [xoW x (a 0) (sv 0) (ah 0) (h 0) (t 0) V, shW G a S]) [0, 1] rfl) (kz_recv hK hP (ci := 3) (q0 := 0) rfl rfl) rfl hl.1 rfl (Nat.le_of_ble_eq_true rfl) dL_law_1482 ⟨Nat.le_of_ble_eq_true rfl, Nat.le_of_ble_eq_true rfl⟩ ?_
          refine lv_aload_n hx hb dL_law_1485 rfl (lv_at hl 9 rfl) ?_
          refine lv_aload hx hb dL_law_1486 (lv_at hl 17 rfl) ?_
          refine lv_iload hx hb dL_law_1488 (lv_at hl 1 rfl) ?_
          refine lv_aload hx hb dL_law_1490 (lv_at hl 17 rfl) ?_
          refine lv_iconst (v := 5) hx hb dL_law_1492 (by decide +kernel) ?_
          refine va_iald (f := zt) hx hb hK.1 hP 113 0 rfl rfl (vp_in_nI (n := 5) (N := 10) (by decide) (by decide)) dL_law_1493 ?_
          refine lv_topi (fun y_69 ey_70 => ?_)
          obtain rfl : y_69 = (nI D) := by rw [ey_70]; exact (show (zt 5) = (nI D) from e5)
          refine lv_iload hx hb dL_law_1494 (lv_at hl 4 rfl) ?_
          refine lv_bipush (v := 30) hx hb dL_law_1496 (by decide +kernel) ?_
          refine kz_rdS (As := [.int xx, .int 30]) (rest := [.int (nI D), .int (nI k0), .ref nt, .ref nq, .int (X3_feeIn_r V S (zc k0) (nI fd))]) ⟨hx, hb, hml, hown, hts⟩ (c_L_low l G xx 30 (by omega) (by omega)) (va_cwS 2 hts gL_law_L_low rfl rfl rfl (by decide +kernel) ⟨Nat.le_of_ble_eq_true rfl, Nat.le_of_ble_eq_true rfl⟩) hK (hP.sub (cs := []) [] rfl) rfl hl.1 rfl (Nat.le_of_ble_eq_true rfl) dL_law_1498 ⟨Nat.le_of_ble_eq_true rfl, Nat.le_of_ble_eq_true rfl⟩ ?_
          refine lv_topi (fun y_71 ey_72 => ?_)
          obtain rfl : y_71 = nI fd := by rw [ey_72, efd]
          refine lv_iadd hx hb dL_law_1501 ?_
          refine lv_topi (fun y_73 ey_74 => ?_)
          obtain rfl : y_73 = (nI (D + fd)) := by rw [ey_74]; exact nI_add _ _
          refine kz_rdS (As := [.ref nq, .ref nt, .int (nI k0), .int (nI (D + fd))]) (rest := [.int (X3_feeIn_r V S (zc k0) (nI fd))]) ⟨hx, hb, hml, hown, hts⟩ (c_L_fee l G nq zq nt zt k0 (nI (D + fd)) (by omega)) (va_cwS 4 hts gL_law_L_fee rfl rfl rfl (by decide +kernel) ⟨Nat.le_of_ble_eq_true rfl, Nat.le_of_ble_eq_true rfl⟩) hK (hP.sub (cs := [[(nq, .inl (G.2.1, 64, .inl zq))], [(nt, .inl (G.2.1, 10, .inl zt))]]) [13, 21] rfl) rfl hl.1 rfl (Nat.le_of_ble_eq_true rfl) dL_law_1502 ⟨Nat.le_of_ble_eq_true rfl, Nat.le_of_ble_eq_true rfl⟩ ?_
          refine lv_icmp_eq (tgt := 1510) hx hb dL_law_1505 (by decide) (fun c_75 => ?_) (fun c => absurd c (by exact fun z => z (ps_aFee (V := V) hR (by omega) hk0 hj ek (by omega))))
          refine lv_iinc (v := (nI (i + 1))) (lv' := [(14, .int (nI (i + 1))), (22, .int 1), (21, .int (nI k0)), (20, .int (L_until_r zl zv zt (nI (ps_cd ((A0 + 7 * B0) % 7 + 1) P0)))), (19, .int (nI (ps_cd ((A0 + 7 * B0) % 7 + 1) P0))), (18, .int xx), (17, .int 1), (0, .ref bb), (1, .ref x), (2, .ref np), (3, .ref nq), (4, .ref nc), (5, .ref nl), (6, .ref nv), (7, .ref ng), (8, .ref nu), (9, .ref nf), (10, .ref nk), (11, .ref nt), (12, .int why), (13, .int beh)]) hx hb dL_law_1510 hl (k := 20) rfl (nI_1 _) (by decide) rfl (fun ls hl => ?_)
          refine lv_goto (tgt := 104) hx hb dL_law_1513 (by decide) ?_
          exact KL H locs ls hP hD hS (lv_sub hl [7, 8, 9, 10, 11, 12, 13, 14, 15, 16, 17, 18, 19, 20, 0] rfl)
  · refine lv_iload hx hb dL_law_1353 (lv_at hl 0 rfl) ?_
    refine lv_goto (tgt := 1360) hx hb dL_law_1355 (by decide) ?_
    refine lv_icmp_ne (tgt := 1407) hx hb dL_law_1360 (by decide) (fun c => absurd c (by exact fun z => z ((ps_aRU (V := V) hR hi (by omega) hw7 hP0).trans (if_neg c_34)))) (fun c_76 => ?_)
    refine lv_aload_n hx hb dL_law_1363 rfl (lv_at hl 5 rfl) ?_
    refine lv_iload hx hb dL_law_1364 (lv_at hl 1 rfl) ?_
    refine kz_rdV (As := [.int (nI (ps_cd ((A0 + 7 * B0) % 7 + 1) P0))]) (rest := []) (b := x) ⟨hx, hb, hml, hown, hts⟩ (c_X3_isCode l G x (a 0) (sv 0) (ah 0) (h 0) (t 0) V (nI (ps_cd ((A0 + 7 * B0) % 7 + 1) P0))) (cwV 1 hts gL_law_X3_isCode rfl rfl rfl (by decide +kernel) ⟨Nat.le_of_ble_eq_true rfl, Nat.le_of_ble_eq_true rfl⟩) hK (hP.sub (cs := [xoW x (a 0) (sv 0) (ah 0) (h 0) (t 0) V]) [0] rfl) (kz_recv hK hP (ci := 3) (q0 := 0) rfl rfl) rfl hl.1 rfl (Nat.le_of_ble_eq_true rfl) dL_law_1366 ⟨Nat.le_of_ble_eq_true rfl, Nat.le_of_ble_eq_true rfl⟩ ?_
    refine lv_iconst (v := 1) hx hb dL_law_1369 (by decide +kernel) ?_
    refine lv_icmp_ne (tgt := 1407) hx hb dL_law_1370 (by decide) (fun c => absurd c (by exact fun z => z (ps_isC1 V hw7 hP0))) (fun c_77 => ?_)
    refine lv_aload_n hx hb dL_law_1373 rfl (lv_at hl 5 rfl) ?_
    refine lv_iload hx hb dL_law_1374 (lv_at hl 1 rfl) ?_
    refine lv_bipush (v := 10) hx hb dL_law_1376 (by decide +kernel) ?_
    refine lv_idiv hx hb dL_law_1378 (by decide +kernel) ?_
    refine lv_topi (fun y_78 ey_79 => ?_)
    obtain rfl : y_78 = (nI (ps_cd ((A0 + 7 * B0) % 7 + 1) P0 / 10)) := by rw [ey_79]; exact kz_divN (d := 10) (by omega) (by omega) (by omega)
    refine lv_bipush (v := 10) hx hb dL_law_1379 (by decide +kernel) ?_
    refine lv_imul hx hb dL_law_1381 ?_
    refine lv_topi (fun y_80 ey_81 => ?_)
    obtain rfl : y_80 = (nI (ps_cd ((A0 + 7 * B0) % 7 + 1) P0 / 10 * 10)) := by rw [ey_81]; exact pk_mul _ 10
    refine lv_iload hx hb dL_law_1382 (lv_at hl 1 rfl) ?_
    refine lv_iconst (v := 1) hx hb dL_law_1384 (by decide +kernel) ?_
    refine lv_iadd hx hb dL_law_1385 ?_
    refine lv_topi (fun y_82 ey_83 => ?_)
    obtain rfl : y_82 = (nI (ps_cd ((A0 + 7 * B0) % 7 + 1) P0 + 1)) := by rw [ey_83]; exact nI_1 _
    refine lv_iload hx hb dL_law_1386 (lv_at hl 2 rfl) ?_
    refine lv_bipush (v := 17) hx hb dL_law_1388 (by decide +kernel) ?_
    refine lv_ishr hx hb dL_law_1390 ?_
    refine lv_bipush (v := 9) hx hb dL_law_1391 (by decide +kernel) ?_
    refine kz_rdS (As := [.int (xx >>> 17), .int 9]) (rest := [.int (nI (ps_cd ((A0 + 7 * B0) % 7 + 1) P0 + 1)), .int (nI (ps_cd ((A0 + 7 * B0) % 7 + 1) P0 / 10 * 10)), .ref x]) ⟨hx, hb, hml, hown, hts⟩ (c_L_low l G (xx >>> 17) 9 (by omega) (by omega)) (va_cwS 2 hts gL_law_L_low rfl rfl rfl (by decide +kernel) ⟨Nat.le_of_ble_eq_true rfl, Nat.le_of_ble_eq_true rfl⟩) hK (hP.sub (cs := []) [] rfl) rfl hl.1 rfl (Nat.le_of_ble_eq_true rfl) dL_law_1393 ⟨Nat.le_of_ble_eq_true rfl, Nat.le_of_ble_eq_true rfl⟩ ?_
    obtain ⟨T0, eT0⟩ : ∃ z, z = ps_lo (xx >>> 17) 9 := ⟨_, rfl⟩
    have hT0 : T0 < 9 := by rw [eT0]; exact ps_lo_lt (by omega)
    refine lv_topi (fun y_84 ey_85 => ?_)
    obtain rfl : y_84 = nI T0 := by rw [ey_85, eT0]
    refine lv_iadd hx hb dL_law_1396 ?_
    refine lv_topi (fun y_86 ey_87 => ?_)
    obtain rfl : y_86 = (nI (ps_cd ((A0 + 7 * B0) % 7 + 1) P0 + 1 + T0)) := by rw [ey_87]; exact nI_add _ _
    refine lv_bipush (v := 10) hx hb dL_law_1397 (by decide +kernel) ?_
    refine lv_irem hx hb dL_law_1399 (by decide +kernel) ?_
    refine kz_topR ?_
    refine lv_topi (fun y_88 ey_89 => ?_)
    obtain rfl : y_88 = (nI ((ps_cd ((A0 + 7 * B0) % 7 + 1) P0 + 1 + T0) % 10)) := by rw [ey_89]; exact kz_remN (d := 10) (by omega) (by omega) (by omega)
    refine lv_iadd hx hb dL_law_1400 ?_
    refine lv_topi (fun y_90 ey_91 => ?_)
    obtain rfl : y_90 = (nI (ps_cd ((A0 + 7 * B0) % 7 + 1) P0 / 10 * 10 + (ps_cd ((A0 + 7 * B0) % 7 + 1) P0 + 1 + T0) % 10)) := by rw [ey_91]; exact nI_add _ _
    refine kz_rdV (As := [.int (nI (ps_cd ((A0 + 7 * B0) % 7 + 1) P0 / 10 * 10 + (ps_cd ((A0 + 7 * B0) % 7 + 1) P0 + 1 + T0) % 10))]) (rest := []) (b := x) ⟨hx, hb, hml, hown, hts⟩ (c_X3_isCode l G x (a 0) (sv 0) (ah 0) (h 0) (t 0) V (nI (ps_cd ((A0 + 7 * B0) % 7 + 1) P0 / 10 * 10 + (ps_cd ((A0 + 7 * B0) % 7 + 1) P0 + 1 + T0) % 10))) (cwV 1 hts gL_law_X3_isCode rfl rfl rfl (by decide +kernel) ⟨Nat.le_of_ble_eq_true rfl, Nat.le_of_ble_eq_true rfl⟩) hK (hP.sub (cs := [xoW x (a 0) (sv 0) (ah 0) (h 0) (t 0) V]) [0] rfl) (kz_recv hK hP (ci := 3) (q0 := 0) rfl rfl) rfl hl.1 rfl (Nat.le_of_ble_eq_true rfl) dL_law_1401 ⟨Nat.le_of_ble_eq_true rfl, Nat.le_of_ble_eq_true rfl⟩ ?_
    refine lv_if_eq (tgt := 1409) hx hb dL_law_1404 (by decide) (fun c_92 => ?_) (fun c => absurd c (by exact fun z => z (ps_isC0 V hw7 hP0 hT0)))
    refine lv_aload hx hb dL_law_1409 (lv_at hl 15 rfl) ?_
    refine lv_bipush (v := 7) hx hb dL_law_1411 (by decide +kernel) ?_
    refine va_iald (f := zt) hx hb hK.1 hP 113 0 rfl rfl (vp_in_nI (n := 7) (N := 10) (by decide) (by decide)) dL_law_1413 ?_
    refine lv_topi (fun y_93 ey_94 => ?_)
    obtain rfl : y_93 = (nI nP) := by rw [ey_94]; exact (show (zt 7) = (nI nP) from e7)
    refine lv_if_le (tgt := 1510) hx hb dL_law_1414 (by decide) (fun c_95 => ?_) (fun c_95 => ?_)
    · refine lv_iinc (v := (nI (i + 1))) (lv' := [(14, .int (nI (i + 1))), (20, .int (L_until_r zl zv zt (nI (ps_cd ((A0 + 7 * B0) % 7 + 1) P0)))), (19, .int (nI (ps_cd ((A0 + 7 * B0) % 7 + 1) P0))), (18, .int xx), (17, .int 1), (0, .ref bb), (1, .ref x), (2, .ref np), (3, .ref nq), (4, .ref nc), (5, .ref nl), (6, .ref nv), (7, .ref ng), (8, .ref nu), (9, .ref nf), (10, .ref nk), (11, .ref nt), (12, .int why), (13, .int beh)]) hx hb dL_law_1510 hl (k := 18) rfl (nI_1 _) (by decide) rfl (fun ls hl => ?_)
      refine lv_goto (tgt := 104) hx hb dL_law_1513 (by decide) ?_
      exact KL H locs ls hP hD hS (lv_sub hl [5, 6, 7, 8, 9, 10, 11, 12, 13, 14, 15, 16, 17, 18, 0] rfl)
    · have hnp0 := ps_pos0 c_95
      refine lv_iload hx hb dL_law_1417 (lv_at hl 2 rfl) ?_
      refine lv_bipush (v := 20) hx hb dL_law_1419 (by decide +kernel) ?_
      refine lv_ishr hx hb dL_law_1421 ?_
      refine lv_aload hx hb dL_law_1422 (lv_at hl 15 rfl) ?_
      refine lv_bipush (v := 7) hx hb dL_law_1424 (by decide +kernel) ?_
      refine va_iald (f := zt) hx hb hK.1 hP 113 0 rfl rfl (vp_in_nI (n := 7) (N := 10) (by decide) (by decide)) dL_law_1426 ?_
      refine lv_topi (fun y_96 ey_97 => ?_)
      obtain rfl : y_96 = (nI nP) := by rw [ey_97]; exact (show (zt 7) = (nI nP) from e7)
      refine kz_rdS (As := [.int (xx >>> 20), .int (nI nP)]) (rest := []) ⟨hx, hb, hml, hown, hts⟩ (c_L_low l G (xx >>> 20) nP (by omega) (by omega)) (va_cwS 2 hts gL_law_L_low rfl rfl rfl (by decide +kernel) ⟨Nat.le_of_ble_eq_true rfl, Nat.le_of_ble_eq_true rfl⟩) hK (hP.sub (cs := []) [] rfl) rfl hl.1 rfl (Nat.le_of_ble_eq_true rfl) dL_law_1427 ⟨Nat.le_of_ble_eq_true rfl, Nat.le_of_ble_eq_true rfl⟩ ?_
      obtain ⟨k0, ek0⟩ : ∃ z, z = ps_lo (xx >>> 20) nP := ⟨_, rfl⟩
      have hk0 : k0 < nP := by rw [ek0]; exact ps_lo_lt (by omega)
      refine lv_topi (fun y_98 ey_99 => ?_)
      obtain rfl : y_98 = nI k0 := by rw [ey_99, ek0]
      refine lv_istore (lv' := [(21, .int (nI k0)), (20, .int (L_until_r zl zv zt (nI (ps_cd ((A0 + 7 * B0) % 7 + 1) P0)))), (19, .int (nI (ps_cd ((A0 + 7 * B0) % 7 + 1) P0))), (18, .int xx), (17, .int 1), (0, .ref bb), (1, .ref x), (2, .ref np), (3, .ref nq), (4, .ref nc), (5, .ref nl), (6, .ref nv), (7, .ref ng), (8, .ref nu), (9, .ref nf), (10, .ref nk), (11, .ref nt), (12, .int why), (13, .int beh), (14, .int (nI i))]) hx hb dL_law_1430 hl (by decide) rfl (fun ls hl => ?_)
      refine lv_aload_n hx hb dL_law_1432 rfl (lv_at hl 7 rfl) ?_
      refine lv_iload hx hb dL_law_1433 (lv_at hl 0 rfl) ?_
      refine va_iald (f := zp) hx hb hK.1 hP 104 0 rfl rfl (vp_in_nI (n := k0) (N := 64) (by omega) (by decide)) dL_law_1435 ?_
      refine lv_topi (fun y_100 ey_101 => ?_)
      obtain rfl : y_100 = (zp k0) := by rw [ey_101, kz_nI_clamp (n := k0) (by omega)]
      refine lv_if_lt (tgt := 1461) hx hb dL_law_1436 (by decide) (fun c_102 => ?_) (fun c_102 => ?_)
      · refine lv_iconst (v := 0) hx hb dL_law_1461 (by decide +kernel) ?_
        refine lv_istore (lv' := [(22, .int 0), (21, .int (nI k0)), (20, .int (L_until_r zl zv zt (nI (ps_cd ((A0 + 7 * B0) % 7 + 1) P0)))), (19, .int (nI (ps_cd ((A0 + 7 * B0) % 7 + 1) P0))), (18, .int xx), (17, .int 1), (0, .ref bb), (1, .ref x), (2, .ref np), (3, .ref nq), (4, .ref nc), (5, .ref nl), (6, .ref nv), (7, .ref ng), (8, .ref nu), (9, .ref nf), (10, .ref nk), (11, .ref nt), (12, .int why), (13, .int beh), (14, .int (nI i))]) hx hb dL_law_1462 hl (by decide) rfl (fun ls hl => ?_)
        refine lv_iload hx hb dL_law_1464 (lv_at hl 0 rfl) ?_
        refine lv_if_eq (tgt := 1510) hx hb dL_law_1466 (by decide) (fun _ => ?_) (fun c => absurd c (by decide))
        refine lv_iinc (v := (nI (i + 1))) (lv' := [(14, .int (nI (i + 1))), (22, .int 0), (21, .int (nI k0)), (20, .int (L_until_r zl zv zt (nI (ps_cd ((A0 + 7 * B0) % 7 + 1) P0)))), (19, .int (nI (ps_cd ((A0 + 7 * B0) % 7 + 1) P0))), (18, .int xx), (17, .int 1), (0, .ref bb), (1, .ref x), (2, .ref np), (3, .ref nq), (4, .ref nc), (5, .ref nl), (6, .ref nv), (7, .ref ng), (8, .ref nu), (9, .ref nf), (10, .ref nk), (11, .ref nt), (12, .int why), (13, .int beh)]) hx hb dL_law_1510 hl (k := 20) rfl (nI_1 _) (by decide) rfl (fun ls hl => ?_)
        refine lv_goto (tgt := 104) hx hb dL_law_1513 (by decide) ?_
        exact KL H locs ls hP hD hS (lv_sub hl [7, 8, 9, 10, 11, 12, 13, 14, 15, 16, 17, 18, 19, 20, 0] rfl)
      · obtain ⟨j, hj, ek⟩ := ps_there hR.2.2.1 hk0 c_102
        refine lv_aload_n hx hb dL_law_1439 rfl (lv_at hl 7 rfl) ?_
        refine lv_aload hx hb dL_law_1440 (lv_at hl 9 rfl) ?_
        refine lv_aload hx hb dL_law_1442 (lv_at hl 16 rfl) ?_
        refine lv_aload hx hb dL_law_1444 (lv_at hl 9 rfl) ?_
        refine lv_iload hx hb dL_law_1446 (lv_at hl 0 rfl) ?_
        refine va_iald (f := zc) hx hb hK.1 hP 106 0 rfl rfl (vp_in_nI (n := k0) (N := 64) (by omega) (by decide)) dL_law_1448 ?_
        refine lv_topi (fun y_103 ey_104 => ?_)
        obtain rfl : y_103 = (zc k0) := by rw [ey_104, kz_nI_clamp (n := k0) (by omega)]
        refine kz_rdS (As := [.ref np, .ref nc, .ref nt, .int (zc k0)]) (rest := []) ⟨hx, hb, hml, hown, hts⟩ (c_L_by l G np zp nc zc nt zt (zc k0) (by assumption)) (va_cwS 4 hts gL_law_L_by rfl rfl rfl (by decide +kernel) ⟨Nat.le_of_ble_eq_true rfl, Nat.le_of_ble_eq_true rfl⟩) hK (hP.sub (cs := [[(np, .inl (G.2.1, 64, .inl zp))], [(nc, .inl (G.2.1, 64, .inl zc))], [(nt, .inl (G.2.1, 10, .inl zt))]]) [12, 14, 21] rfl) rfl hl.1 rfl (Nat.le_of_ble_eq_true rfl) dL_law_1449 ⟨Nat.le_of_ble_eq_true rfl, Nat.le_of_ble_eq_true rfl⟩ ?_
        refine lv_iload hx hb dL_law_1452 (lv_at hl 0 rfl) ?_
        refine lv_icmp_ne (tgt := 1461) hx hb dL_law_1454 (by decide) (fun c_105 => ?_) (fun c_105 => ?_)
        · refine lv_iconst (v := 0) hx hb dL_law_1461 (by decide +kernel) ?_
          refine lv_istore (lv' := [(22, .int 0), (21, .int (nI k0)), (20, .int (L_until_r zl zv zt (nI (ps_cd ((A0 + 7 * B0) % 7 + 1) P0)))), (19, .int (nI (ps_cd ((A0 + 7 * B0) % 7 + 1) P0))), (18, .int xx), (17, .int 1), (0, .ref bb), (1, .ref x), (2, .ref np), (3, .ref nq), (4, .ref nc), (5, .ref nl), (6, .ref nv), (7, .ref ng), (8, .ref nu), (9, .ref nf), (10, .ref nk), (11, .ref nt), (12, .int why), (13, .int beh), (14, .int (nI i))]) hx hb dL_law_1462 hl (by decide) rfl (fun ls hl => ?_)
          refine lv_iload hx hb dL_law_1464 (lv_at hl 0 rfl) ?_
          refine lv_if_eq (tgt := 1510) hx hb dL_law_1466 (by decide) (fun _ => ?_) (fun c => absurd c (by decide))
          refine lv_iinc (v := (nI (i + 1))) (lv' := [(14, .int (nI (i + 1))), (22, .int 0), (21, .int (nI k0)), (20, .int (L_until_r zl zv zt (nI (ps_cd ((A0 + 7 * B0) % 7 + 1) P0)))), (19, .int (nI (ps_cd ((A0 + 7 * B0) % 7 + 1) P0))), (18, .int xx), (17, .int 1), (0, .ref bb), (1, .ref x), (2, .ref np), (3, .ref nq), (4, .ref nc), (5, .ref nl), (6, .ref nv), (7, .ref ng), (8, .ref nu), (9, .ref nf), (10, .ref nk), (11, .ref nt), (12, .int why), (13, .int beh)]) hx hb dL_law_1510 hl (k := 20) rfl (nI_1 _) (by decide) rfl (fun ls hl => ?_)
          refine lv_goto (tgt := 104) hx hb dL_law_1513 (by decide) ?_
          exact KL H locs ls hP hD hS (lv_sub hl [7, 8, 9, 10, 11, 12, 13, 14, 15, 16, 17, 18, 19, 20, 0] rfl)
        · refine lv_iconst (v := 1) hx hb dL_law_1457 (by decide +kernel) ?_
          refine lv_goto (tgt := 1462) hx hb dL_law_1458 (by decide) ?_
          refine lv_istore (lv' := [(22, .int 1), (21, .int (nI k0)), (20, .int (L_until_r zl zv zt (nI (ps_cd ((A0 + 7 * B0) % 7 + 1) P0)))), (19, .int (nI (ps_cd ((A0 + 7 * B0) % 7 + 1) P0))), (18, .int xx), (17, .int 1), (0, .ref bb), (1, .ref x), (2, .ref np), (3, .ref nq), (4, .ref nc), (5, .ref nl), (6, .ref nv), (7, .ref ng), (8, .ref nu), (9, .ref nf), (10, .ref nk), (11, .ref nt), (12, .int why), (13, .int beh), (14, .int (nI i))]) hx hb dL_law_1462 hl (by decide) rfl (fun ls hl => ?_)
          refine lv_iload hx hb dL_law_1464 (lv_at hl 0 rfl) ?_
          refine lv_if_eq (tgt := 1510) hx hb dL_law_1466 (by decide) (fun c => absurd c (by decide)) (fun _ => ?_)
          refine lv_aload_n hx hb dL_law_1469 rfl (lv_at hl 7 rfl) ?_
          refine lv_aload hx hb dL_law_1470 (lv_at hl 10 rfl) ?_
          refine lv_iload hx hb dL_law_1472 (lv_at hl 1 rfl) ?_
          refine va_iald (f := zc) hx hb hK.1 hP 106 0 rfl rfl (vp_in_nI (n := k0) (N := 64) (by omega) (by decide)) dL_law_1474 ?_
          refine lv_topi (fun y_106 ey_107 => ?_)
          obtain rfl : y_106 = (zc k0) := by rw [ey_107, kz_nI_clamp (n := k0) (by omega)]
          refine lv_iload hx hb dL_law_1475 (lv_at hl 4 rfl) ?_
          refine lv_bipush (v := 30) hx hb dL_law_1477 (by decide +kernel) ?_
          refine kz_rdS (As := [.int xx, .int 30]) (rest := [.int (zc k0), .ref x]) ⟨hx, hb, hml, hown, hts⟩ (c_L_low l G xx 30 (by omega) (by omega)) (va_cwS 2 hts gL_law_L_low rfl rfl rfl (by decide +kernel) ⟨Nat.le_of_ble_eq_true rfl, Nat.le_of_ble_eq_true rfl⟩) hK (hP.sub (cs := []) [] rfl) rfl hl.1 rfl (Nat.le_of_ble_eq_true rfl) dL_law_1479 ⟨Nat.le_of_ble_eq_true rfl, Nat.le_of_ble_eq_true rfl⟩ ?_
          obtain ⟨fd, efd⟩ : ∃ z, z = ps_lo xx 30 := ⟨_, rfl⟩
          have hfd : fd < 30 := by rw [efd]; exact ps_lo_lt (by omega)
          refine lv_topi (fun y_108 ey_109 => ?_)
          obtain rfl : y_108 = nI fd := by rw [ey_109, efd]
          refine kz_rdV (As := [.int (zc k0), .int (nI fd)]) (rest := []) (b := x) ⟨hx, hb, hml, hown, hts⟩ (c_X3_feeIn l G x (sv 0) (ah 0) (h 0) (t 0) V a S (zc k0) (nI fd)) (cwV 2 hts gL_law_X3_feeIn rfl rfl rfl (by decide +kernel) ⟨Nat.le_of_ble_eq_true rfl, Nat.le_of_ble_eq_true rfl⟩) hK (hP.sub (cs := [xoW x (a 0) (sv 0) (ah 0) (h 0) (t 0) V, shW G a S]) [0, 1] rfl) (kz_recv hK hP (ci := 3) (q0 := 0) rfl rfl) rfl hl.1 rfl (Nat.le_of_ble_eq_true rfl) dL_law_1482 ⟨Nat.le_of_ble_eq_true rfl, Nat.le_of_ble_eq_true rfl⟩ ?_
          refine lv_aload_n hx hb dL_law_1485 rfl (lv_at hl 9 rfl) ?_
          refine lv_aload hx hb dL_law_1486 (lv_at hl 17 rfl) ?_
          refine lv_iload hx hb dL_law_1488 (lv_at hl 1 rfl) ?_
          refine lv_aload hx hb dL_law_1490 (lv_at hl 17 rfl) ?_
          refine lv_iconst (v := 5) hx hb dL_law_1492 (by decide +kernel) ?_
          refine va_iald (f := zt) hx hb hK.1 hP 113 0 rfl rfl (vp_in_nI (n := 5) (N := 10) (by decide) (by decide)) dL_law_1493 ?_
          refine lv_topi (fun y_110 ey_111 => ?_)
          obtain rfl : y_110 = (nI D) := by rw [ey_111]; exact (show (zt 5) = (nI D) from e5)
          refine lv_iload hx hb dL_law_1494 (lv_at hl 4 rfl) ?_
          refine lv_bipush (v := 30) hx hb dL_law_1496 (by decide +kernel) ?_
          refine kz_rdS (As := [.int xx, .int 30]) (rest := [.int (nI D), .int (nI k0), .ref nt, .ref nq, .int (X3_feeIn_r V S (zc k0) (nI fd))]) ⟨hx, hb, hml, hown, hts⟩ (c_L_low l G xx 30 (by omega) (by omega)) (va_cwS 2 hts gL_law_L_low rfl rfl rfl (by decide +kernel) ⟨Nat.le_of_ble_eq_true rfl, Nat.le_of_ble_eq_true rfl⟩) hK (hP.sub (cs := []) [] rfl) rfl hl.1 rfl (Nat.le_of_ble_eq_true rfl) dL_law_1498 ⟨Nat.le_of_ble_eq_true rfl, Nat.le_of_ble_eq_true rfl⟩ ?_
          refine lv_topi (fun y_112 ey_113 => ?_)
          obtain rfl : y_112 = nI fd := by rw [ey_113, efd]
          refine lv_iadd hx hb dL_law_1501 ?_
          refine lv_topi (fun y_114 ey_115 => ?_)
          obtain rfl : y_114 = (nI (D + fd)) := by rw [ey_115]; exact nI_add _ _
          refine kz_rdS (As := [.ref nq, .ref nt, .int (nI k0), .int (nI (D + fd))]) (rest := [.int (X3_feeIn_r V S (zc k0) (nI fd))]) ⟨hx, hb, hml, hown, hts⟩ (c_L_fee l G nq zq nt zt k0 (nI (D + fd)) (by omega)) (va_cwS 4 hts gL_law_L_fee rfl rfl rfl (by decide +kernel) ⟨Nat.le_of_ble_eq_true rfl, Nat.le_of_ble_eq_true rfl⟩) hK (hP.sub (cs := [[(nq, .inl (G.2.1, 64, .inl zq))], [(nt, .inl (G.2.1, 10, .inl zt))]]) [13, 21] rfl) rfl hl.1 rfl (Nat.le_of_ble_eq_true rfl) dL_law_1502 ⟨Nat.le_of_ble_eq_true rfl, Nat.le_of_ble_eq_true rfl⟩ ?_
          refine lv_icmp_eq (tgt := 1510) hx hb dL_law_1505 (by decide) (fun c_116 => ?_) (fun c => absurd c (by exact fun z => z (ps_aFee (V := V) hR (by omega) hk0 hj ek (by omega))))
          refine lv_iinc (v := (nI (i + 1))) (lv' := [(14, .int (nI (i + 1))), (22, .int 1), (21, .int (nI k0)), (20, .int (L_until_r zl zv zt (nI (ps_cd ((A0 + 7 * B0) % 7 + 1) P0)))), (19, .int (nI (ps_cd ((A0 + 7 * B0) % 7 + 1) P0))), (18, .int xx), (17, .int 1), (0, .ref bb), (1, .ref x), (2, .ref np), (3, .ref nq), (4, .ref nc), (5, .ref nl), (6, .ref nv), (7, .ref ng), (8, .ref nu), (9, .ref nf), (10, .ref nk), (11, .ref nt), (12, .int why), (13, .int beh)]) hx hb dL_law_1510 hl (k := 20) rfl (nI_1 _) (by decide) rfl (fun ls hl => ?_)
          refine lv_goto (tgt := 104) hx hb dL_law_1513 (by decide) ?_
          exact KL H locs ls hP hD hS (lv_sub hl [7, 8, 9, 10, 11, 12, 13, 14, 15, 16, 17, 18, 19, 20, 0] rfl)
end KL
