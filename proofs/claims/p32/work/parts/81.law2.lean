section KL
variable {p : Program} {l : Launch} {e : Env} {s : State} {m : MethodId} {below : List Frame} {meth : Method} {c : Code} {bb L i : Nat} {xs : Nat → Int32} {G : kz_G} {x : Nat} {a sv ah h t : Nat → Nat} {b : Nat → Nat → Nat} {np nq nc nl nv ng nu nf nk nt : Nat} {V S Y : kz_S} {R : Nat → kz_S} {zp zq zc zl zv zg zu zf zk zt : Nat → Int32} {why beh : Int32} {D nP mL : Nat} {hh : Int32}
set_option maxHeartbeats 4000000 in
set_option maxRecDepth 100000 in
theorem kl_c_come (C0 : kl_C p s m c bb L xs G) (hI : ps_C i D nP mL V S Y zp zq zc zl zv zg zu zf zk zt why beh) (KK : kl_K p l e s m below meth c bb G x a sv ah h b t np nq nc nl nv ng nu nf nk nt i) : kl_at p l e s m below meth c bb G x a sv ah h b t np nq nc nl nv ng nu nf nk nt 138 [(0, .ref bb), (1, .ref x), (2, .ref np), (3, .ref nq), (4, .ref nc), (5, .ref nl), (6, .ref nv), (7, .ref ng), (8, .ref nu), (9, .ref nf), (10, .ref nk), (11, .ref nt), (12, .int why), (13, .int beh), (14, .int (nI i)), (15, .int hh)] V S Y R zp zq zc zl zv zg zu zf zk zt := by
  obtain ⟨hx, hb, hml, hown, hts, ⟨hX, hL⟩, hbl, hK, hZ0⟩ := C0
  have hA : ∀ q : Nat, s.heap.size ≤ q → kl_A s q := fun _ h => h
  have hbA : ¬ kl_A s bb := Nat.not_le.mpr hbl
  intro H locs ls hP hD hS hl
  have hR := hI.1
  have hin := hI.2.1
  have hNi := ps_hN hI
  have hDi := ps_hD hI
  have hnP := ps_n hR
  have hmL := ps_m hR
  have e5 := hR.2.2.2.2.1.1
  have e7 := hR.2.2.2.2.2.2.1.1
  have e8 := hR.2.2.2.2.2.2.2.1
  have h7 := ps_h7 hR hNi
  have h8 := ps_h8 hR hNi
  have h5 := ps_h5 hR (by omega)
  have ht := ps_t hR (by omega)
  have hJ := ps_J hR
  have hO := hI.2.2.2.1
  have hC := hI.2.2.2.2
  refine lv_aload hx hb dL_law_138 (lv_at hl 11 rfl) ?_
  refine lv_bipush (v := 7) hx hb dL_law_140 (by decide +kernel) ?_
  refine va_iald (f := zt) hx hb hK.1 hP 113 0 rfl rfl (vp_in_nI (n := 7) (N := 10) (by decide) (by decide)) dL_law_142 ?_
  refine lv_topi (fun y_1 ey_2 => ?_)
  obtain rfl : y_1 = (nI nP) := by rw [ey_2]; exact (show (zt 7) = (nI nP) from e7)
  refine lv_bipush (v := 60) hx hb dL_law_143 (by decide +kernel) ?_
  refine lv_icmp_ge (tgt := 322) hx hb dL_law_145 (by decide) (fun c => absurd c (by exact nI_ge (a := nP) (b := 60) (by omega) (by omega))) (fun c_3 => ?_)
  refine lv_iload hx hb dL_law_148 (lv_at hl 15 rfl) ?_
  refine lv_iconst (v := 5) hx hb dL_law_150 (by decide +kernel) ?_
  refine lv_ishr hx hb dL_law_151 ?_
  refine lv_iload hx hb dL_law_152 (lv_at hl 15 rfl) ?_
  refine lv_bipush (v := 25) hx hb dL_law_154 (by decide +kernel) ?_
  refine lv_ishr hx hb dL_law_156 ?_
  refine lv_iconst (v := 2) hx hb dL_law_157 (by decide +kernel) ?_
  refine kz_rdS (As := [.int (hh >>> 25), .int 2]) (rest := [.int (hh >>> 5)]) ⟨hx, hb, hml, hown, hts⟩ (c_L_low l G (hh >>> 25) 2 (by omega) (by omega)) (va_cwS 2 hts gL_law_L_low rfl rfl rfl (by decide +kernel) ⟨Nat.le_of_ble_eq_true rfl, Nat.le_of_ble_eq_true rfl⟩) hK (hP.sub (cs := []) [] rfl) rfl hl.1 rfl (Nat.le_of_ble_eq_true rfl) dL_law_158 ⟨Nat.le_of_ble_eq_true rfl, Nat.le_of_ble_eq_true rfl⟩ ?_
  refine lv_if_ne (tgt := 169) hx hb dL_law_161 (by decide) (fun c_4 => ?_) (fun c_4 => ?_)
  · refine lv_iconst (v := 2) hx hb dL_law_169 (by decide +kernel) ?_
    refine kz_rdS (As := [.int (hh >>> 5), .int 2]) (rest := []) ⟨hx, hb, hml, hown, hts⟩ (c_L_low l G (hh >>> 5) 2 (by omega) (by omega)) (va_cwS 2 hts gL_law_L_low rfl rfl rfl (by decide +kernel) ⟨Nat.le_of_ble_eq_true rfl, Nat.le_of_ble_eq_true rfl⟩) hK (hP.sub (cs := []) [] rfl) rfl hl.1 rfl (Nat.le_of_ble_eq_true rfl) dL_law_170 ⟨Nat.le_of_ble_eq_true rfl, Nat.le_of_ble_eq_true rfl⟩ ?_
    obtain ⟨sd, esd⟩ : ∃ z, z = ps_lo (hh >>> 5) 2 := ⟨_, rfl⟩
    have hsd : sd < 2 := by rw [esd]; exact ps_lo_lt (by omega)
    refine lv_topi (fun y_5 ey_6 => ?_)
    obtain rfl : y_5 = nI sd := by rw [ey_6, esd]
    refine lv_istore (lv' := [(18, .int (nI sd)), (0, .ref bb), (1, .ref x), (2, .ref np), (3, .ref nq), (4, .ref nc), (5, .ref nl), (6, .ref nv), (7, .ref ng), (8, .ref nu), (9, .ref nf), (10, .ref nk), (11, .ref nt), (12, .int why), (13, .int beh), (14, .int (nI i)), (15, .int hh)]) hx hb dL_law_173 hl (by decide) rfl (fun ls hl => ?_)
    refine lv_iload hx hb dL_law_175 (lv_at hl 16 rfl) ?_
    refine lv_bipush (v := 9) hx hb dL_law_177 (by decide +kernel) ?_
    refine lv_ishr hx hb dL_law_179 ?_
    refine lv_iconst (v := 3) hx hb dL_law_180 (by decide +kernel) ?_
    refine kz_rdS (As := [.int (hh >>> 9), .int 3]) (rest := []) ⟨hx, hb, hml, hown, hts⟩ (c_L_low l G (hh >>> 9) 3 (by omega) (by omega)) (va_cwS 2 hts gL_law_L_low rfl rfl rfl (by decide +kernel) ⟨Nat.le_of_ble_eq_true rfl, Nat.le_of_ble_eq_true rfl⟩) hK (hP.sub (cs := []) [] rfl) rfl hl.1 rfl (Nat.le_of_ble_eq_true rfl) dL_law_181 ⟨Nat.le_of_ble_eq_true rfl, Nat.le_of_ble_eq_true rfl⟩ ?_
    obtain ⟨sz, esz⟩ : ∃ z, z = ps_lo (hh >>> 9) 3 := ⟨_, rfl⟩
    have hsz : sz < 3 := by rw [esz]; exact ps_lo_lt (by omega)
    refine lv_topi (fun y_7 ey_8 => ?_)
    obtain rfl : y_7 = nI sz := by rw [ey_8, esz]
    refine lv_istore (lv' := [(19, .int (nI sz)), (18, .int (nI sd)), (0, .ref bb), (1, .ref x), (2, .ref np), (3, .ref nq), (4, .ref nc), (5, .ref nl), (6, .ref nv), (7, .ref ng), (8, .ref nu), (9, .ref nf), (10, .ref nk), (11, .ref nt), (12, .int why), (13, .int beh), (14, .int (nI i)), (15, .int hh)]) hx hb dL_law_184 hl (by decide) rfl (fun ls hl => ?_)
    refine lv_aload_n hx hb dL_law_186 rfl (lv_at hl 4 rfl) ?_
    refine lv_aload hx hb dL_law_187 (lv_at hl 7 rfl) ?_
    refine lv_aload hx hb dL_law_189 (lv_at hl 8 rfl) ?_
    refine lv_aload hx hb dL_law_191 (lv_at hl 13 rfl) ?_
    refine lv_iconst (v := 2) hx hb dL_law_193 (by decide +kernel) ?_
    refine lv_iload hx hb dL_law_194 (lv_at hl 0 rfl) ?_
    refine lv_imul hx hb dL_law_196 ?_
    refine lv_topi (fun y_9 ey_10 => ?_)
    obtain rfl : y_9 = (nI (2 * sz)) := by rw [ey_10]; exact pk_mul 2 sz
    refine lv_iconst (v := 5) hx hb dL_law_197 (by decide +kernel) ?_
    refine kz_rdS (As := [.ref np, .ref nl, .ref nv, .ref nt, .int (nI (2 * sz)), .int 5]) (rest := []) ⟨hx, hb, hml, hown, hts⟩ (c_L_place l G np zp nl zl nv zv nt zt (2 * sz) 5 (by assumption) (by assumption) (by assumption) (by omega) (by omega)) (va_cwS 6 hts gL_law_L_place rfl rfl rfl (by decide +kernel) ⟨Nat.le_of_ble_eq_true rfl, Nat.le_of_ble_eq_true rfl⟩) hK (hP.sub (cs := [[(np, .inl (G.2.1, 64, .inl zp))], [(nl, .inl (G.2.1, 64, .inl zl))], [(nv, .inl (G.2.1, 64, .inl zv))], [(nt, .inl (G.2.1, 10, .inl zt))]]) [12, 15, 16, 21] rfl) rfl hl.1 rfl (Nat.le_of_ble_eq_true rfl) dL_law_198 ⟨Nat.le_of_ble_eq_true rfl, Nat.le_of_ble_eq_true rfl⟩ ?_
    refine lv_istore (lv' := [(20, .int (L_place_r zp zl zv zt (2 * sz) 5)), (19, .int (nI sz)), (18, .int (nI sd)), (0, .ref bb), (1, .ref x), (2, .ref np), (3, .ref nq), (4, .ref nc), (5, .ref nl), (6, .ref nv), (7, .ref ng), (8, .ref nu), (9, .ref nf), (10, .ref nk), (11, .ref nt), (12, .int why), (13, .int beh), (14, .int (nI i)), (15, .int hh)]) hx hb dL_law_201 hl (by decide) rfl (fun ls hl => ?_)
    refine lv_iload hx hb dL_law_203 (lv_at hl 0 rfl) ?_
    refine lv_if_lt (tgt := 273) hx hb dL_law_205 (by decide) (fun c_11 => ?_) (fun c_11 => ?_)
    · refine lv_iconst (v := 1) hx hb dL_law_273 (by decide +kernel) ?_
      refine lv_istore (lv' := [(12, .int 1), (20, .int (L_place_r zp zl zv zt (2 * sz) 5)), (19, .int (nI sz)), (18, .int (nI sd)), (0, .ref bb), (1, .ref x), (2, .ref np), (3, .ref nq), (4, .ref nc), (5, .ref nl), (6, .ref nv), (7, .ref ng), (8, .ref nu), (9, .ref nf), (10, .ref nk), (11, .ref nt), (13, .int beh), (14, .int (nI i)), (15, .int hh)]) hx hb dL_law_274 hl (by decide) rfl (fun ls hl => ?_)
      refine lv_iload hx hb dL_law_276 (lv_at hl 1 rfl) ?_
      refine lv_ineg hx hb dL_law_278 ?_
      refine lv_istore (lv' := [(13, .int (-(L_place_r zp zl zv zt (2 * sz) 5))), (12, .int 1), (20, .int (L_place_r zp zl zv zt (2 * sz) 5)), (19, .int (nI sz)), (18, .int (nI sd)), (0, .ref bb), (1, .ref x), (2, .ref np), (3, .ref nq), (4, .ref nc), (5, .ref nl), (6, .ref nv), (7, .ref ng), (8, .ref nu), (9, .ref nf), (10, .ref nk), (11, .ref nt), (14, .int (nI i)), (15, .int hh)]) hx hb dL_law_279 hl (by decide) rfl (fun ls hl => ?_)
      refine lv_aload_n hx hb dL_law_281 rfl (lv_at hl 6 rfl) ?_
      refine lv_iload hx hb dL_law_282 (lv_at hl 4 rfl) ?_
      refine lv_iload hx hb dL_law_284 (lv_at hl 3 rfl) ?_
      refine kz_miV (As := [.int (nI sd), .int (nI sz)]) (rest := []) (b := x) (wr := [shW G sv kz_S0, shW G ah kz_S0, txW G t kz_T0, [(np, .inl (G.2.1, 64, .inl zp))], [(nq, .inl (G.2.1, 64, .inl zq))], [(nc, .inl (G.2.1, 64, .inl zc))], [(nl, .inl (G.2.1, 64, .inl zl))], [(nv, .inl (G.2.1, 64, .inl zv))], [(ng, .inl (G.2.1, 10, .inl zg))], [(nu, .inl (G.2.1, 10, .inl zu))], [(nf, .inl (G.2.1, 10, .inl zf))], [(nk, .inl (G.2.1, 10, .inl zk))], [(nt, .inl (G.2.1, 10, .inl zt))]]) (bs' := [xoW x (a 0) (sv 0) (ah 0) (h 0) (t 0) (X3_come_s0 V S Y R (nI sd) (nI sz)), shW G a (X3_come_s1 V S Y R (nI sd) (nI sz)), shW G sv kz_S0, shW G ah kz_S0, hsW G h (fun j => b j 0) (X3_come_s2 V S Y R (nI sd) (nI sz)), shW G (b 0) ((X3_come_s3 V S Y R (nI sd) (nI sz)) 0), shW G (b 1) ((X3_come_s3 V S Y R (nI sd) (nI sz)) 1), shW G (b 2) ((X3_come_s3 V S Y R (nI sd) (nI sz)) 2), shW G (b 3) ((X3_come_s3 V S Y R (nI sd) (nI sz)) 3), shW G (b 4) ((X3_come_s3 V S Y R (nI sd) (nI sz)) 4), shW G (b 5) ((X3_come_s3 V S Y R (nI sd) (nI sz)) 5), txW G t kz_T0, [(np, .inl (G.2.1, 64, .inl zp))], [(nq, .inl (G.2.1, 64, .inl zq))], [(nc, .inl (G.2.1, 64, .inl zc))], [(nl, .inl (G.2.1, 64, .inl zl))], [(nv, .inl (G.2.1, 64, .inl zv))], [(ng, .inl (G.2.1, 10, .inl zg))], [(nu, .inl (G.2.1, 10, .inl zu))], [(nf, .inl (G.2.1, 10, .inl zf))], [(nk, .inl (G.2.1, 10, .inl zk))], [(nt, .inl (G.2.1, 10, .inl zt))]]) ⟨hx, hb, hml, hown, hts⟩ (c_X3_come l G x (sv 0) (ah 0) (t 0) V a S h Y b R (nI sd) (nI sz) (by assumption) (by assumption) (by assumption)) (cwV 2 hts gL_law_X3_come rfl rfl rfl (by decide +kernel) ⟨Nat.le_of_ble_eq_true rfl, Nat.le_of_ble_eq_true rfl⟩) hK hP hD hS hA [0, 1, 4, 5, 6, 7, 8, 9, 10] [2, 3, 11, 12, 13, 14, 15, 16, 17, 18, 19, 20, 21] [13, 14, 0, 1, 15, 16, 17, 18, 19, 20, 21, 2, 3, 4, 5, 6, 7, 8, 9, 10, 11, 12] rfl (by decide) rfl (by decide) (by decide) rfl (by decide) (kz_recv hK hP (ci := 3) (q0 := 0) rfl rfl) rfl hl.1 rfl (Nat.le_of_ble_eq_true rfl) dL_law_286 ⟨Nat.le_of_ble_eq_true rfl, Nat.le_of_ble_eq_true rfl⟩ (fun H locs hP hD hS => ?_)
      obtain ⟨eans, I2⟩ := ps_opCome1 hI R (s := sd) (v := sz) (by omega) (by omega) c_11
      refine lv_iload hx hb dL_law_289 (lv_at hl 2 rfl) ?_
      refine lv_if_ge (tgt := 299) hx hb dL_law_291 (by decide) (fun c => absurd c (by exact Int32.not_le.mpr c_11)) (fun c_12 => ?_)
      refine lv_bipush (v := (-4)) hx hb dL_law_294 (by decide +kernel) ?_
      refine lv_goto (tgt := 309) hx hb dL_law_296 (by decide) ?_
      refine lv_icmp_ne (tgt := 316) hx hb dL_law_309 (by decide) (fun c => absurd c (by exact fun z => z (eans))) (fun c_13 => ?_)
      refine lv_iconst (v := 1) hx hb dL_law_312 (by decide +kernel) ?_
      refine lv_goto (tgt := 317) hx hb dL_law_313 (by decide) ?_
      refine lv_istore (lv' := [(17, .int 1), (13, .int (-(L_place_r zp zl zv zt (2 * sz) 5))), (12, .int 1), (20, .int (L_place_r zp zl zv zt (2 * sz) 5)), (19, .int (nI sz)), (18, .int (nI sd)), (0, .ref bb), (1, .ref x), (2, .ref np), (3, .ref nq), (4, .ref nc), (5, .ref nl), (6, .ref nv), (7, .ref ng), (8, .ref nu), (9, .ref nf), (10, .ref nk), (11, .ref nt), (14, .int (nI i)), (15, .int hh)]) hx hb dL_law_317 hl (by decide) rfl (fun ls hl => ?_)
      refine lv_goto (tgt := 1172) hx hb dL_law_319 (by decide) ?_
      exact KK (X3_come_s0 V S Y R (nI sd) (nI sz)) (X3_come_s1 V S Y R (nI sd) (nI sz)) (X3_come_s2 V S Y R (nI sd) (nI sz)) (X3_come_s3 V S Y R (nI sd) (nI sz)) zp zq zc zl zv zg zu zf zk zt 1 (-(L_place_r zp zl zv zt (2 * sz) 5)) I2 H locs ls hP hD hS (lv_sub hl [0, 6, 7, 8, 9, 10, 11, 12, 13, 14, 15, 16, 17, 2, 1, 18] rfl)
    · obtain ⟨j0, hj0, ej0, ep0, hf5⟩ := ps_plJ hI (a := 2 * sz) (b := 5) (by omega) (by omega) c_11
      have hl : lv_has ls 23 [(20, .int (nI j0)), (19, .int (nI sz)), (18, .int (nI sd)), (0, .ref bb), (1, .ref x), (2, .ref np), (3, .ref nq), (4, .ref nc), (5, .ref nl), (6, .ref nv), (7, .ref ng), (8, .ref nu), (9, .ref nf), (10, .ref nk), (11, .ref nt), (12, .int why), (13, .int beh), (14, .int (nI i)), (15, .int hh)] := by rw [← ej0]; exact hl
      refine lv_aload_n hx hb dL_law_208 rfl (lv_at hl 5 rfl) ?_
      refine lv_aload hx hb dL_law_209 (lv_at hl 14 rfl) ?_
      refine lv_bipush (v := 7) hx hb dL_law_211 (by decide +kernel) ?_
      refine va_iald (f := zt) hx hb hK.1 hP 113 0 rfl rfl (vp_in_nI (n := 7) (N := 10) (by decide) (by decide)) dL_law_213 ?_
      refine lv_topi (fun y_14 ey_15 => ?_)
      obtain rfl : y_14 = (nI nP) := by rw [ey_15]; exact (show (zt 7) = (nI nP) from e7)
      refine lv_iload hx hb dL_law_214 (lv_at hl 0 rfl) ?_
      refine va_iast hx hb hK.1 hP hD hS 104 0 rfl rfl (vp_in_nI (n := nP) (N := 64) (by omega) (by decide)) dL_law_216 (fun H locs hP hD hS => ?_)
      rw [kz_nI_clamp (n := nP) (by omega)] at hP hD
      have hP : kz_P G [xoW x (a 0) (sv 0) (ah 0) (h 0) (t 0) V, shW G a S, shW G sv kz_S0, shW G ah kz_S0, hsW G h (fun j => b j 0) Y, shW G (b 0) (R 0), shW G (b 1) (R 1), shW G (b 2) (R 2), shW G (b 3) (R 3), shW G (b 4) (R 4), shW G (b 5) (R 5), txW G t kz_T0, [(np, .inl (G.2.1, 64, .inl (upd zp nP (nI j0))))], [(nq, .inl (G.2.1, 64, .inl zq))], [(nc, .inl (G.2.1, 64, .inl zc))], [(nl, .inl (G.2.1, 64, .inl zl))], [(nv, .inl (G.2.1, 64, .inl zv))], [(ng, .inl (G.2.1, 10, .inl zg))], [(nu, .inl (G.2.1, 10, .inl zu))], [(nf, .inl (G.2.1, 10, .inl zf))], [(nk, .inl (G.2.1, 10, .inl zk))], [(nt, .inl (G.2.1, 10, .inl zt))]] H := hP
      have hD : kz_D (kl_A s) [xoW x (a 0) (sv 0) (ah 0) (h 0) (t 0) V, shW G a S, shW G sv kz_S0, shW G ah kz_S0, hsW G h (fun j => b j 0) Y, shW G (b 0) (R 0), shW G (b 1) (R 1), shW G (b 2) (R 2), shW G (b 3) (R 3), shW G (b 4) (R 4), shW G (b 5) (R 5), txW G t kz_T0, [(np, .inl (G.2.1, 64, .inl (upd zp nP (nI j0))))], [(nq, .inl (G.2.1, 64, .inl zq))], [(nc, .inl (G.2.1, 64, .inl zc))], [(nl, .inl (G.2.1, 64, .inl zl))], [(nv, .inl (G.2.1, 64, .inl zv))], [(ng, .inl (G.2.1, 10, .inl zg))], [(nu, .inl (G.2.1, 10, .inl zu))], [(nf, .inl (G.2.1, 10, .inl zf))], [(nk, .inl (G.2.1, 10, .inl zk))], [(nt, .inl (G.2.1, 10, .inl zt))]] := hD
      refine lv_aload_n hx hb dL_law_217 rfl (lv_at hl 6 rfl) ?_
      refine lv_aload hx hb dL_law_218 (lv_at hl 14 rfl) ?_
      refine lv_bipush (v := 7) hx hb dL_law_220 (by decide +kernel) ?_
      refine va_iald (f := zt) hx hb hK.1 hP 113 0 rfl rfl (vp_in_nI (n := 7) (N := 10) (by decide) (by decide)) dL_law_222 ?_
      refine lv_topi (fun y_16 ey_17 => ?_)
      obtain rfl : y_16 = (nI nP) := by rw [ey_17]; exact (show (zt 7) = (nI nP) from e7)
      refine lv_sipush (v := 1000) hx hb dL_law_223 (by decide +kernel) ?_
      refine lv_aload hx hb dL_law_226 (lv_at hl 14 rfl) ?_
      refine lv_iconst (v := 5) hx hb dL_law_228 (by decide +kernel) ?_
      refine va_iald (f := zt) hx hb hK.1 hP 113 0 rfl rfl (vp_in_nI (n := 5) (N := 10) (by decide) (by decide)) dL_law_229 ?_
      refine lv_topi (fun y_18 ey_19 => ?_)
      obtain rfl : y_18 = (nI D) := by rw [ey_19]; exact (show (zt 5) = (nI D) from e5)
      refine lv_imul hx hb dL_law_230 ?_
      refine lv_topi (fun y_20 ey_21 => ?_)
      obtain rfl : y_20 = (nI (1000 * D)) := by rw [ey_21]; exact pk_mul 1000 D
      refine lv_bipush (v := 100) hx hb dL_law_231 (by decide +kernel) ?_
      refine lv_iload hx hb dL_law_233 (lv_at hl 2 rfl) ?_
      refine lv_imul hx hb dL_law_235 ?_
      refine lv_topi (fun y_22 ey_23 => ?_)
      obtain rfl : y_22 = (nI (100 * sd)) := by rw [ey_23]; exact pk_mul 100 sd
      refine lv_iadd hx hb dL_law_236 ?_
      refine lv_topi (fun y_24 ey_25 => ?_)
      obtain rfl : y_24 = (nI (1000 * D + 100 * sd)) := by rw [ey_25]; exact nI_add _ _
      refine lv_bipush (v := 10) hx hb dL_law_237 (by decide +kernel) ?_
      refine lv_iload hx hb dL_law_239 (lv_at hl 1 rfl) ?_
      refine lv_imul hx hb dL_law_241 ?_
      refine lv_topi (fun y_26 ey_27 => ?_)
      obtain rfl : y_26 = (nI (10 * sz)) := by rw [ey_27]; exact pk_mul 10 sz
      refine lv_iadd hx hb dL_law_242 ?_
      refine lv_topi (fun y_28 ey_29 => ?_)
      obtain rfl : y_28 = (nI (1000 * D + 100 * sd + 10 * sz)) := by rw [ey_29]; exact nI_add _ _
      refine va_iast hx hb hK.1 hP hD hS 105 0 rfl rfl (vp_in_nI (n := nP) (N := 64) (by omega) (by decide)) dL_law_243 (fun H locs hP hD hS => ?_)
      rw [kz_nI_clamp (n := nP) (by omega)] at hP hD
      have hP : kz_P G [xoW x (a 0) (sv 0) (ah 0) (h 0) (t 0) V, shW G a S, shW G sv kz_S0, shW G ah kz_S0, hsW G h (fun j => b j 0) Y, shW G (b 0) (R 0), shW G (b 1) (R 1), shW G (b 2) (R 2), shW G (b 3) (R 3), shW G (b 4) (R 4), shW G (b 5) (R 5), txW G t kz_T0, [(np, .inl (G.2.1, 64, .inl (upd zp nP (nI j0))))], [(nq, .inl (G.2.1, 64, .inl (upd zq nP (nI (1000 * D + 100 * sd + 10 * sz)))))], [(nc, .inl (G.2.1, 64, .inl zc))], [(nl, .inl (G.2.1, 64, .inl zl))], [(nv, .inl (G.2.1, 64, .inl zv))], [(ng, .inl (G.2.1, 10, .inl zg))], [(nu, .inl (G.2.1, 10, .inl zu))], [(nf, .inl (G.2.1, 10, .inl zf))], [(nk, .inl (G.2.1, 10, .inl zk))], [(nt, .inl (G.2.1, 10, .inl zt))]] H := hP
      have hD : kz_D (kl_A s) [xoW x (a 0) (sv 0) (ah 0) (h 0) (t 0) V, shW G a S, shW G sv kz_S0, shW G ah kz_S0, hsW G h (fun j => b j 0) Y, shW G (b 0) (R 0), shW G (b 1) (R 1), shW G (b 2) (R 2), shW G (b 3) (R 3), shW G (b 4) (R 4), shW G (b 5) (R 5), txW G t kz_T0, [(np, .inl (G.2.1, 64, .inl (upd zp nP (nI j0))))], [(nq, .inl (G.2.1, 64, .inl (upd zq nP (nI (1000 * D + 100 * sd + 10 * sz)))))], [(nc, .inl (G.2.1, 64, .inl zc))], [(nl, .inl (G.2.1, 64, .inl zl))], [(nv, .inl (G.2.1, 64, .inl zv))], [(ng, .inl (G.2.1, 10, .inl zg))], [(nu, .inl (G.2.1, 10, .inl zu))], [(nf, .inl (G.2.1, 10, .inl zf))], [(nk, .inl (G.2.1, 10, .inl zk))], [(nt, .inl (G.2.1, 10, .inl zt))]] := hD
      refine lv_aload hx hb dL_law_244 (lv_at hl 7 rfl) ?_
      refine lv_aload hx hb dL_law_246 (lv_at hl 14 rfl) ?_
      refine lv_bipush (v := 7) hx hb dL_law_248 (by decide +kernel) ?_
      refine va_iald (f := zt) hx hb hK.1 hP 113 0 rfl rfl (vp_in_nI (n := 7) (N := 10) (by decide) (by decide)) dL_law_250 ?_
      refine lv_topi (fun y_30 ey_31 => ?_)
      obtain rfl : y_30 = (nI nP) := by rw [ey_31]; exact (show (zt 7) = (nI nP) from e7)
      refine lv_aload hx hb dL_law_251 (lv_at hl 14 rfl) ?_
      refine lv_iconst (v := 5) hx hb dL_law_253 (by decide +kernel) ?_
      refine va_iald (f := zt) hx hb hK.1 hP 113 0 rfl rfl (vp_in_nI (n := 5) (N := 10) (by decide) (by decide)) dL_law_254 ?_
      refine lv_topi (fun y_32 ey_33 => ?_)
      obtain rfl : y_32 = (nI D) := by rw [ey_33]; exact (show (zt 5) = (nI D) from e5)
      refine lv_iload hx hb dL_law_255 (lv_at hl 0 rfl) ?_
      refine kz_rdS (As := [.int (nI D), .int (nI j0)]) (rest := [.int (nI nP), .ref nc]) ⟨hx, hb, hml, hown, hts⟩ (c_L_code l G D j0 (by omega) (by omega)) (va_cwS 2 hts gL_law_L_code rfl rfl rfl (by decide +kernel) ⟨Nat.le_of_ble_eq_true rfl, Nat.le_of_ble_eq_true rfl⟩) hK (hP.sub (cs := []) [] rfl) rfl hl.1 rfl (Nat.le_of_ble_eq_true rfl) dL_law_257 ⟨Nat.le_of_ble_eq_true rfl, Nat.le_of_ble_eq_true rfl⟩ ?_
      refine va_iast hx hb hK.1 hP hD hS 106 0 rfl rfl (vp_in_nI (n := nP) (N := 64) (by omega) (by decide)) dL_law_260 (fun H locs hP hD hS => ?_)
      rw [kz_nI_clamp (n := nP) (by omega)] at hP hD
      have hP : kz_P G [xoW x (a 0) (sv 0) (ah 0) (h 0) (t 0) V, shW G a S, shW G sv kz_S0, shW G ah kz_S0, hsW G h (fun j => b j 0) Y, shW G (b 0) (R 0), shW G (b 1) (R 1), shW G (b 2) (R 2), shW G (b 3) (R 3), shW G (b 4) (R 4), shW G (b 5) (R 5), txW G t kz_T0, [(np, .inl (G.2.1, 64, .inl (upd zp nP (nI j0))))], [(nq, .inl (G.2.1, 64, .inl (upd zq nP (nI (1000 * D + 100 * sd + 10 * sz)))))], [(nc, .inl (G.2.1, 64, .inl (upd zc nP (nI (ps_cd (D % 7 + 1) j0)))))], [(nl, .inl (G.2.1, 64, .inl zl))], [(nv, .inl (G.2.1, 64, .inl zv))], [(ng, .inl (G.2.1, 10, .inl zg))], [(nu, .inl (G.2.1, 10, .inl zu))], [(nf, .inl (G.2.1, 10, .inl zf))], [(nk, .inl (G.2.1, 10, .inl zk))], [(nt, .inl (G.2.1, 10, .inl zt))]] H := hP
      have hD : kz_D (kl_A s) [xoW x (a 0) (sv 0) (ah 0) (h 0) (t 0) V, shW G a S, shW G sv kz_S0, shW G ah kz_S0, hsW G h (fun j => b j 0) Y, shW G (b 0) (R 0), shW G (b 1) (R 1), shW G (b 2) (R 2), shW G (b 3) (R 3), shW G (b 4) (R 4), shW G (b 5) (R 5), txW G t kz_T0, [(np, .inl (G.2.1, 64, .inl (upd zp nP (nI j0))))], [(nq, .inl (G.2.1, 64, .inl (upd zq nP (nI (1000 * D + 100 * sd + 10 * sz)))))], [(nc, .inl (G.2.1, 64, .inl (upd zc nP (nI (ps_cd (D % 7 + 1) j0)))))], [(nl, .inl (G.2.1, 64, .inl zl))], [(nv, .inl (G.2.1, 64, .inl zv))], [(ng, .inl (G.2.1, 10, .inl zg))], [(nu, .inl (G.2.1, 10, .inl zu))], [(nf, .inl (G.2.1, 10, .inl zf))], [(nk, .inl (G.2.1, 10, .inl zk))], [(nt, .inl (G.2.1, 10, .inl zt))]] := hD
      refine lv_aload hx hb dL_law_261 (lv_at hl 14 rfl) ?_
      refine lv_bipush (v := 7) hx hb dL_law_263 (by decide +kernel) ?_
      refine lv_dup2_11 hx hb dL_law_265 rfl rfl ?_
      refine va_iald (f := zt) hx hb hK.1 hP 113 0 rfl rfl (vp_in_nI (n := 7) (N := 10) (by decide) (by decide)) dL_law_266 ?_
      refine lv_topi (fun y_34 ey_35 => ?_)
      obtain rfl : y_34 = (nI nP) := by rw [ey_35]; exact (show (zt 7) = (nI nP) from e7)
      refine lv_iconst (v := 1) hx hb dL_law_267 (by decide +kernel) ?_
      refine lv_iadd hx hb dL_law_268 ?_
      refine lv_topi (fun y_36 ey_37 => ?_)
      obtain rfl : y_36 = (nI (nP + 1)) := by rw [ey_37]; exact nI_1 nP
      refine va_iast hx hb hK.1 hP hD hS 113 0 rfl rfl (vp_in_nI (n := 7) (N := 10) (by decide) (by decide)) dL_law_269 (fun H locs hP hD hS => ?_)
      have hP : kz_P G [xoW x (a 0) (sv 0) (ah 0) (h 0) (t 0) V, shW G a S, shW G sv kz_S0, shW G ah kz_S0, hsW G h (fun j => b j 0) Y, shW G (b 0) (R 0), shW G (b 1) (R 1), shW G (b 2) (R 2), shW G (b 3) (R 3), shW G (b 4) (R 4), shW G (b 5) (R 5), txW G t kz_T0, [(np, .inl (G.2.1, 64, .inl (upd zp nP (nI j0))))], [(nq, .inl (G.2.1, 64, .inl (upd zq nP (nI (1000 * D + 100 * sd + 10 * sz)))))], [(nc, .inl (G.2.1, 64, .inl (upd zc nP (nI (ps_cd (D % 7 + 1) j0)))))], [(nl, .inl (G.2.1, 64, .inl zl))], [(nv, .inl (G.2.1, 64, .inl zv))], [(ng, .inl (G.2.1, 10, .inl zg))], [(nu, .inl (G.2.1, 10, .inl zu))], [(nf, .inl (G.2.1, 10, .inl zf))], [(nk, .inl (G.2.1, 10, .inl zk))], [(nt, .inl (G.2.1, 10, .inl (upd zt 7 (nI (nP + 1)))))]] H := hP
      have hD : kz_D (kl_A s) [xoW x (a 0) (sv 0) (ah 0) (h 0) (t 0) V, shW G a S, shW G sv kz_S0, shW G ah kz_S0, hsW G h (fun j => b j 0) Y, shW G (b 0) (R 0), shW G (b 1) (R 1), shW G (b 2) (R 2), shW G (b 3) (R 3), shW G (b 4) (R 4), shW G (b 5) (R 5), txW G t kz_T0, [(np, .inl (G.2.1, 64, .inl (upd zp nP (nI j0))))], [(nq, .inl (G.2.1, 64, .inl (upd zq nP (nI (1000 * D + 100 * sd + 10 * sz)))))], [(nc, .inl (G.2.1, 64, .inl (upd zc nP (nI (ps_cd (D % 7 + 1) j0)))))], [(nl, .inl (G.2.1, 64, .inl zl))], [(nv, .inl (G.2.1, 64, .inl zv))], [(ng, .inl (G.2.1, 10, .inl zg))], [(nu, .inl (G.2.1, 10, .inl zu))], [(nf, .inl (G.2.1, 10, .inl zf))], [(nk, .inl (G.2.1, 10, .inl zk))], [(nt, .inl (G.2.1, 10, .inl (upd zt 7 (nI (nP + 1)))))]] := hD
      refine lv_goto (tgt := 281) hx hb dL_law_270 (by decide) ?_
      refine lv_aload_n hx hb dL_law_281 rfl (lv_at hl 4 rfl) ?_
      refine lv_iload hx hb dL_law_282 (lv_at hl 2 rfl) ?_
      refine lv_iload hx hb dL_law_284 (lv_at hl 1 rfl) ?_
      refine kz_miV (As := [.int (nI sd), .int (nI sz)]) (rest := []) (b := x) (wr := [shW G sv kz_S0, shW G ah kz_S0, txW G t kz_T0, [(np, .inl (G.2.1, 64, .inl (upd zp nP (nI j0))))], [(nq, .inl (G.2.1, 64, .inl (upd zq nP (nI (1000 * D + 100 * sd + 10 * sz)))))], [(nc, .inl (G.2.1, 64, .inl (upd zc nP (nI (ps_cd (D % 7 + 1) j0)))))], [(nl, .inl (G.2.1, 64, .inl zl))], [(nv, .inl (G.2.1, 64, .inl zv))], [(ng, .inl (G.2.1, 10, .inl zg))], [(nu, .inl (G.2.1, 10, .inl zu))], [(nf, .inl (G.2.1, 10, .inl zf))], [(nk, .inl (G.2.1, 10, .inl zk))], [(nt, .inl (G.2.1, 10, .inl (upd zt 7 (nI (nP + 1)))))]]) (bs' := [xoW x (a 0) (sv 0) (ah 0) (h 0) (t 0) (X3_come_s0 V S Y R (nI sd) (nI sz)), shW G a (X3_come_s1 V S Y R (nI sd) (nI sz)), shW G sv kz_S0, shW G ah kz_S0, hsW G h (fun j => b j 0) (X3_come_s2 V S Y R (nI sd) (nI sz)), shW G (b 0) ((X3_come_s3 V S Y R (nI sd) (nI sz)) 0), shW G (b 1) ((X3_come_s3 V S Y R (nI sd) (nI sz)) 1), shW G (b 2) ((X3_come_s3 V S Y R (nI sd) (nI sz)) 2), shW G (b 3) ((X3_come_s3 V S Y R (nI sd) (nI sz)) 3), shW G (b 4) ((X3_come_s3 V S Y R (nI sd) (nI sz)) 4), shW G (b 5) ((X3_come_s3 V S Y R (nI sd) (nI sz)) 5), txW G t kz_T0, [(np, .inl (G.2.1, 64, .inl (upd zp nP (nI j0))))], [(nq, .inl (G.2.1, 64, .inl (upd zq nP (nI (1000 * D + 100 * sd + 10 * sz)))))], [(nc, .inl (G.2.1, 64, .inl (upd zc nP (nI (ps_cd (D % 7 + 1) j0)))))], [(nl, .inl (G.2.1, 64, .inl zl))], [(nv, .inl (G.2.1, 64, .inl zv))], [(ng, .inl (G.2.1, 10, .inl zg))], [(nu, .inl (G.2.1, 10, .inl zu))], [(nf, .inl (G.2.1, 10, .inl zf))], [(nk, .inl (G.2.1, 10, .inl zk))], [(nt, .inl (G.2.1, 10, .inl (upd zt 7 (nI (nP + 1)))))]]) ⟨hx, hb, hml, hown, hts⟩ (c_X3_come l G x (sv 0) (ah 0) (t 0) V a S h Y b R (nI sd) (nI sz) (by assumption) (by assumption) (by assumption)) (cwV 2 hts gL_law_X3_come rfl rfl rfl (by decide +kernel) ⟨Nat.le_of_ble_eq_true rfl, Nat.le_of_ble_eq_true rfl⟩) hK hP hD hS hA [0, 1, 4, 5, 6, 7, 8, 9, 10] [2, 3, 11, 12, 13, 14, 15, 16, 17, 18, 19, 20, 21] [13, 14, 0, 1, 15, 16, 17, 18, 19, 20, 21, 2, 3, 4, 5, 6, 7, 8, 9, 10, 11, 12] rfl (by decide) rfl (by decide) (by decide) rfl (by decide) (kz_recv hK hP (ci := 3) (q0 := 0) rfl rfl) rfl hl.1 rfl (Nat.le_of_ble_eq_true rfl) dL_law_286 ⟨Nat.le_of_ble_eq_true rfl, Nat.le_of_ble_eq_true rfl⟩ (fun H locs hP hD hS => ?_)
      obtain ⟨eans, I2⟩ := ps_opCome2 hI R (s := sd) (v := sz) (by omega) (by omega) hj0 ep0 hf5
      refine lv_iload hx hb dL_law_289 (lv_at hl 0 rfl) ?_
      refine lv_if_ge (tgt := 299) hx hb dL_law_291 (by decide) (fun c_38 => ?_) (fun c => absurd c (by exact fun z => z (nI_pos' (by omega))))
      refine lv_aload hx hb dL_law_299 (lv_at hl 7 rfl) ?_
      refine lv_aload hx hb dL_law_301 (lv_at hl 14 rfl) ?_
      refine lv_bipush (v := 7) hx hb dL_law_303 (by decide +kernel) ?_
      refine va_iald (f := (upd zt 7 (nI (nP + 1)))) hx hb hK.1 hP 113 0 rfl rfl (vp_in_nI (n := 7) (N := 10) (by decide) (by decide)) dL_law_305 ?_
      refine lv_topi (fun y_39 ey_40 => ?_)
      obtain rfl : y_39 = (nI (nP + 1)) := by rw [ey_40]; exact (show ((upd zt 7 (nI (nP + 1))) 7) = (nI (nP + 1)) from pk_us)
      refine lv_iconst (v := 1) hx hb dL_law_306 (by decide +kernel) ?_
      refine lv_isub hx hb dL_law_307 ?_
      refine lv_topi (fun y_41 ey_42 => ?_)
      obtain rfl : y_41 = (nI nP) := by rw [ey_42]; exact nI_pred nP
      refine va_iald (f := (upd zc nP (nI (ps_cd (D % 7 + 1) j0)))) hx hb hK.1 hP 106 0 rfl rfl (vp_in_nI (n := nP) (N := 64) (by omega) (by decide)) dL_law_308 ?_
      refine lv_topi (fun y_43 ey_44 => ?_)
      obtain rfl : y_43 = (nI (ps_cd (D % 7 + 1) j0)) := by rw [ey_44, kz_nI_clamp (n := nP) (by omega)]; exact pk_us
      refine lv_icmp_ne (tgt := 316) hx hb dL_law_309 (by decide) (fun c => absurd c (by exact fun z => z (eans))) (fun c_45 => ?_)
      refine lv_iconst (v := 1) hx hb dL_law_312 (by decide +kernel) ?_
      refine lv_goto (tgt := 317) hx hb dL_law_313 (by decide) ?_
      refine lv_istore (lv' := [(17, .int 1), (20, .int (nI j0)), (19, .int (nI sz)), (18, .int (nI sd)), (0, .ref bb), (1, .ref x), (2, .ref np), (3, .ref nq), (4, .ref nc), (5, .ref nl), (6, .ref nv), (7, .ref ng), (8, .ref nu), (9, .ref nf), (10, .ref nk), (11, .ref nt), (12, .int why), (13, .int beh), (14, .int (nI i)), (15, .int hh)]) hx hb dL_law_317 hl (by decide) rfl (fun ls hl => ?_)
      refine lv_goto (tgt := 1172) hx hb dL_law_319 (by decide) ?_
      exact KK (X3_come_s0 V S Y R (nI sd) (nI sz)) (X3_come_s1 V S Y R (nI sd) (nI sz)) (X3_come_s2 V S Y R (nI sd) (nI sz)) (X3_come_s3 V S Y R (nI sd) (nI sz)) (upd zp nP (nI j0)) (upd zq nP (nI (1000 * D + 100 * sd + 10 * sz))) (upd zc nP (nI (ps_cd (D % 7 + 1) j0))) zl zv zg zu zf zk (upd zt 7 (nI (nP + 1))) why beh I2 H locs ls hP hD hS (lv_sub hl [0, 4, 5, 6, 7, 8, 9, 10, 11, 12, 13, 14, 15, 16, 17, 18] rfl)
  · refine lv_bipush (v := 10) hx hb dL_law_164 (by decide +kernel) ?_
    refine lv_goto (tgt := 170) hx hb dL_law_166 (by decide) ?_
    refine kz_rdS (As := [.int (hh >>> 5), .int 10]) (rest := []) ⟨hx, hb, hml, hown, hts⟩ (c_L_low l G (hh >>> 5) 10 (by omega) (by omega)) (va_cwS 2 hts gL_law_L_low rfl rfl rfl (by decide +kernel) ⟨Nat.le_of_ble_eq_true rfl, Nat.le_of_ble_eq_true rfl⟩) hK (hP.sub (cs := []) [] rfl) rfl hl.1 rfl (Nat.le_of_ble_eq_true rfl) dL_law_170 ⟨Nat.le_of_ble_eq_true rfl, Nat.le_of_ble_eq_true rfl⟩ ?_
    obtain ⟨sd, esd⟩ : ∃ z, z = ps_lo (hh >>> 5) 10 := ⟨_, rfl⟩
    have hsd : sd < 10 := by rw [esd]; exact ps_lo_lt (by omega)
    refine lv_topi (fun y_46 ey_47 => ?_)
    obtain rfl : y_46 = nI sd := by rw [ey_47, esd]
    refine lv_istore (lv' := [(18, .int (nI sd)), (0, .ref bb), (1, .ref x), (2, .ref np), (3, .ref nq), (4, .ref nc), (5, .ref nl), (6, .ref nv), (7, .ref ng), (8, .ref nu), (9, .ref nf), (10, .ref nk), (11, .ref nt), (12, .int why), (13, .int beh), (14, .int (nI i)), (15, .int hh)]) hx hb dL_law_173 hl (by decide) rfl (fun ls hl => ?_)
    refine lv_iload hx hb dL_law_175 (lv_at hl 16 rfl) ?_
    refine lv_bipush (v := 9) hx hb dL_law_177 (by decide +kernel) ?_
    refine lv_ishr hx hb dL_law_179 ?_
    refine lv_iconst (v := 3) hx hb dL_law_180 (by decide +kernel) ?_
    refine kz_rdS (As := [.int (hh >>> 9), .int 3]) (rest := []) ⟨hx, hb, hml, hown, hts⟩ (c_L_low l G (hh >>> 9) 3 (by omega) (by omega)) (va_cwS 2 hts gL_law_L_low rfl rfl rfl (by decide +kernel) ⟨Nat.le_of_ble_eq_true rfl, Nat.le_of_ble_eq_true rfl⟩) hK (hP.sub (cs := []) [] rfl) rfl hl.1 rfl (Nat.le_of_ble_eq_true rfl) dL_law_181 ⟨Nat.le_of_ble_eq_true rfl, Nat.le_of_ble_eq_true rfl⟩ ?_
    obtain ⟨sz, esz⟩ : ∃ z, z = ps_lo (hh >>> 9) 3 := ⟨_, rfl⟩
    have hsz : sz < 3 := by rw [esz]; exact ps_lo_lt (by omega)
    refine lv_topi (fun y_48 ey_49 => ?_)
    obtain rfl : y_48 = nI sz := by rw [ey_49, esz]
    refine lv_istore (lv' := [(19, .int (nI sz)), (18, .int (nI sd)), (0, .ref bb), (1, .ref x), (2, .ref np), (3, .ref nq), (4, .ref nc), (5, .ref nl), (6, .ref nv), (7, .ref ng), (8, .ref nu), (9, .ref nf), (10, .ref nk), (11, .ref nt), (12, .int why), (13, .int beh), (14, .int (nI i)), (15, .int hh)]) hx hb dL_law_184 hl (by decide) rfl (fun ls hl => ?_)
    refine lv_aload_n hx hb dL_law_186 rfl (lv_at hl 4 rfl) ?_
    refine lv_aload hx hb dL_law_187 (lv_at hl 7 rfl) ?_
    refine lv_aload hx hb dL_law_189 (lv_at hl 8 rfl) ?_
    refine lv_aload hx hb dL_law_191 (lv_at hl 13 rfl) ?_
    refine lv_iconst (v := 2) hx hb dL_law_193 (by decide +kernel) ?_
    refine lv_iload hx hb dL_law_194 (lv_at hl 0 rfl) ?_
    refine lv_imul hx hb dL_law_196 ?_
    refine lv_topi (fun y_50 ey_51 => ?_)
    obtain rfl : y_50 = (nI (2 * sz)) := by rw [ey_51]; exact pk_mul 2 sz
    refine lv_iconst (v := 5) hx hb dL_law_197 (by decide +kernel) ?_
    refine kz_rdS (As := [.ref np, .ref nl, .ref nv, .ref nt, .int (nI (2 * sz)), .int 5]) (rest := []) ⟨hx, hb, hml, hown, hts⟩ (c_L_place l G np zp nl zl nv zv nt zt (2 * sz) 5 (by assumption) (by assumption) (by assumption) (by omega) (by omega)) (va_cwS 6 hts gL_law_L_place rfl rfl rfl (by decide +kernel) ⟨Nat.le_of_ble_eq_true rfl, Nat.le_of_ble_eq_true rfl⟩) hK (hP.sub (cs := [[(np, .inl (G.2.1, 64, .inl zp))], [(nl, .inl (G.2.1, 64, .inl zl))], [(nv, .inl (G.2.1, 64, .inl zv))], [(nt, .inl (G.2.1, 10, .inl zt))]]) [12, 15, 16, 21] rfl) rfl hl.1 rfl (Nat.le_of_ble_eq_true rfl) dL_law_198 ⟨Nat.le_of_ble_eq_true rfl, Nat.le_of_ble_eq_true rfl⟩ ?_
    refine lv_istore (lv' := [(20, .int (L_place_r zp zl zv zt (2 * sz) 5)), (19, .int (nI sz)), (18, .int (nI sd)), (0, .ref bb), (1, .ref x), (2, .ref np), (3, .ref nq), (4, .ref nc), (5, .ref nl), (6, .ref nv), (7, .ref ng), (8, .ref nu), (9, .ref nf), (10, .ref nk), (11, .ref nt), (12, .int why), (13, .int beh), (14, .int (nI i)), (15, .int hh)]) hx hb dL_law_201 hl (by decide) rfl (fun ls hl => ?_)
    refine lv_iload hx hb dL_law_203 (lv_at hl 0 rfl) ?_
    refine lv_if_lt (tgt := 273) hx hb dL_law_205 (by decide) (fun c_52 => ?_) (fun c_52 => ?_)
    · refine lv_iconst (v := 1) hx hb dL_law_273 (by decide +kernel) ?_
      refine lv_istore (lv' := [(12, .int 1), (20, .int (L_place_r zp zl zv zt (2 * sz) 5)), (19, .int (nI sz)), (18, .int (nI sd)), (0, .ref bb), (1, .ref x), (2, .ref np), (3, .ref nq), (4, .ref nc), (5, .ref nl), (6, .ref nv), (7, .ref ng), (8, .ref nu), (9, .ref nf), (10, .ref nk), (11, .ref nt), (13, .int beh), (14, .int (nI i)), (15, .int hh)]) hx hb dL_law_274 hl (by decide) rfl (fun ls hl => ?_)
      refine lv_iload hx hb dL_law_276 (lv_at hl 1 rfl) ?_
      refine lv_ineg hx hb dL_law_278 ?_
      refine lv_istore (lv' := [(13, .int (-(L_place_r zp zl zv zt (2 * sz) 5))), (12, .int 1), (20, .int (L_place_r zp zl zv zt (2 * sz) 5)), (19, .int (nI sz)), (18, .int (nI sd)), (0, .ref bb), (1, .ref x), (2, .ref np), (3, .ref nq), (4, .ref nc), (5, .ref nl), (6, .ref nv), (7, .ref ng), (8, .ref nu), (9, .ref nf), (10, .ref nk), (11, .ref nt), (14, .int (nI i)), (15, .int hh)]) hx hb dL_law_279 hl (by decide) rfl (fun ls hl => ?_)
      refine lv_aload_n hx hb dL_law_281 rfl (lv_at hl 6 rfl) ?_
      refine lv_iload hx hb dL_law_282 (lv_at hl 4 rfl) ?_
      refine lv_iload hx hb dL_law_284 (lv_at hl 3 rfl) ?_
      refine kz_miV (As := [.int (nI sd), .int (nI sz)]) (rest := []) (b := x) (wr := [shW G sv kz_S0, shW G ah kz_S0, txW G t kz_T0, [(np, .inl (G.2.1, 64, .inl zp))], [(nq, .inl (G.2.1, 64, .inl zq))], [(nc, .inl (G.2.1, 64, .inl zc))], [(nl, .inl (G.2.1, 64, .inl zl))], [(nv, .inl (G.2.1, 64, .inl zv))], [(ng, .inl (G.2.1, 10, .inl zg))], [(nu, .inl (G.2.1, 10, .inl zu))], [(nf, .inl (G.2.1, 10, .inl zf))], [(nk, .inl (G.2.1, 10, .inl zk))], [(nt, .inl (G.2.1, 10, .inl zt))]]) (bs' := [xoW x (a 0) (sv 0) (ah 0) (h 0) (t 0) (X3_come_s0 V S Y R (nI sd) (nI sz)), shW G a (X3_come_s1 V S Y R (nI sd) (nI sz)), shW G sv kz_S0, shW G ah kz_S0, hsW G h (fun j => b j 0) (X3_come_s2 V S Y R (nI sd) (nI sz)), shW G (b 0) ((X3_come_s3 V S Y R (nI sd) (nI sz)) 0), shW G (b 1) ((X3_come_s3 V S Y R (nI sd) (nI sz)) 1), shW G (b 2) ((X3_come_s3 V S Y R (nI sd) (nI sz)) 2), shW G (b 3) ((X3_come_s3 V S Y R (nI sd) (nI sz)) 3), shW G (b 4) ((X3_come_s3 V S Y R (nI sd) (nI sz)) 4), shW G (b 5) ((X3_come_s3 V S Y R (nI sd) (nI sz)) 5), txW G t kz_T0, [(np, .inl (G.2.1, 64, .inl zp))], [(nq, .inl (G.2.1, 64, .inl zq))], [(nc, .inl (G.2.1, 64, .inl zc))], [(nl, .inl (G.2.1, 64, .inl zl))], [(nv, .inl (G.2.1, 64, .inl zv))], [(ng, .inl (G.2.1, 10, .inl zg))], [(nu, .inl (G.2.1, 10, .inl zu))], [(nf, .inl (G.2.1, 10, .inl zf))], [(nk, .inl (G.2.1, 10, .inl zk))], [(nt, .inl (G.2.1, 10, .inl zt))]]) ⟨hx, hb, hml, hown, hts⟩ (c_X3_come l G x (sv 0) (ah 0) (t 0) V a S h Y b R (nI sd) (nI sz) (by assumption) (by assumption) (by assumption)) (cwV 2 hts gL_law_X3_come rfl rfl rfl (by decide +kernel) ⟨Nat.le_of_ble_eq_true rfl, Nat.le_of_ble_eq_true rfl⟩) hK hP hD hS hA [0, 1, 4, 5, 6, 7, 8, 9, 10] [2, 3, 11, 12, 13, 14, 15, 16, 17, 18, 19, 20, 21] [13, 14, 0, 1, 15, 16, 17, 18, 19, 20, 21, 2, 3, 4, 5, 6, 7, 8, 9, 10, 11, 12] rfl (by decide) rfl (by decide) (by decide) rfl (by decide) (kz_recv hK hP (ci := 3) (q0 := 0) rfl rfl) rfl hl.1 rfl (Nat.le_of_ble_eq_true rfl) dL_law_286 ⟨Nat.le_of_ble_eq_true rfl, Nat.le_of_ble_eq_true rfl⟩ (fun H locs hP hD hS => ?_)
      obtain ⟨eans, I2⟩ := ps_opCome1 hI R (s := sd) (v := sz) (by omega) (by omega) c_52
      refine lv_iload hx hb dL_law_289 (lv_at hl 2 rfl) ?_
      refine lv_if_ge (tgt := 299) hx hb dL_law_291 (by decide) (fun c => absurd c (by exact Int32.not_le.mpr c_52)) (fun c_53 => ?_)
      refine lv_bipush (v := (-4)) hx hb dL_law_294 (by decide +kernel) ?_
      refine lv_goto (tgt := 309) hx hb dL_law_296 (by decide) ?_
      refine lv_icmp_ne (tgt := 316) hx hb dL_law_309 (by decide) (fun c => absurd c (by exact fun z => z (eans))) (fun c_54 => ?_)
      refine lv_iconst (v := 1) hx hb dL_law_312 (by decide +kernel) ?_
      refine lv_goto (tgt := 317) hx hb dL_law_313 (by decide) ?_
      refine lv_istore (lv' := [(17, .int 1), (13, .int (-(L_place_r zp zl zv zt (2 * sz) 5))), (12, .int 1), (20, .int (L_place_r zp zl zv zt (2 * sz) 5)), (19, .int (nI sz)), (18, .int (nI sd)), (0, .ref bb), (1, .ref x), (2, .ref np), (3, .ref nq), (4, .ref nc), (5, .ref nl), (6, .ref nv), (7, .ref ng), (8, .ref nu), (9, .ref nf), (10, .ref nk), (11, .ref nt), (14, .int (nI i)), (15, .int hh)]) hx hb dL_law_317 hl (by decide) rfl (fun ls hl => ?_)
      refine lv_goto (tgt := 1172) hx hb dL_law_319 (by decide) ?_
      exact KK (X3_come_s0 V S Y R (nI sd) (nI sz)) (X3_come_s1 V S Y R (nI sd) (nI sz)) (X3_come_s2 V S Y R (nI sd) (nI sz)) (X3_come_s3 V S Y R (nI sd) (nI sz)) zp zq zc zl zv zg zu zf zk zt 1 (-(L_place_r zp zl zv zt (2 * sz) 5)) I2 H locs ls hP hD hS (lv_sub hl [0, 6, 7, 8, 9, 10, 11, 12, 13, 14, 15, 16, 17, 2, 1, 18] rfl)
    · obtain ⟨j0, hj0, ej0, ep0, hf5⟩ := ps_plJ hI (a := 2 * sz) (b := 5) (by omega) (by omega) c_52
      have hl : lv_has ls 23 [(20, .int (nI j0)), (19, .int (nI sz)), (18, .int (nI sd)), (0, .ref bb), (1, .ref x), (2, .ref np), (3, .ref nq), (4, .ref nc), (5, .ref nl), (6, .ref nv), (7, .ref ng), (8, .ref nu), (9, .ref nf), (10, .ref nk), (11, .ref nt), (12, .int why), (13, .int beh), (14, .int (nI i)), (15, .int hh)] := by rw [← ej0]; exact hl
      refine lv_aload_n hx hb dL_law_208 rfl (lv_at hl 5 rfl) ?_
      refine lv_aload hx hb dL_law_209 (lv_at hl 14 rfl) ?_
      refine lv_bipush (v := 7) hx hb dL_law_211 (by decide +kernel) ?_
      refine va_iald (f := zt) hx hb hK.1 hP 113 0 rfl rfl (vp_in_nI (n := 7) (N := 10) (by decide) (by decide)) dL_law_213 ?_
      refine lv_topi (fun y_55 ey_56 => ?_)
      obtain rfl : y_55 = (nI nP) := by rw [ey_56]; exact (show (zt 7) = (nI nP) from e7)
      refine lv_iload hx hb dL_law_214 (lv_at hl 0 rfl) ?_
      refine va_iast hx hb hK.1 hP hD hS 104 0 rfl rfl (vp_in_nI (n := nP) (N := 64) (by omega) (by decide)) dL_law_216 (fun H locs hP hD hS => ?_)
      rw [kz_nI_clamp (n := nP) (by omega)] at hP hD
      have hP : kz_P G [xoW x (a 0) (sv 0) (ah 0) (h 0) (t 0) V, shW G a S, shW G sv kz_S0, shW G ah kz_S0, hsW G h (fun j => b j 0) Y, shW G (b 0) (R 0), shW G (b 1) (R 1), shW G (b 2) (R 2), shW G (b 3) (R 3), shW G (b 4) (R 4), shW G (b 5) (R 5), txW G t kz_T0, [(np, .inl (G.2.1, 64, .inl (upd zp nP (nI j0))))], [(nq, .inl (G.2.1, 64, .inl zq))], [(nc, .inl (G.2.1, 64, .inl zc))], [(nl, .inl (G.2.1, 64, .inl zl))], [(nv, .inl (G.2.1, 64, .inl zv))], [(ng, .inl (G.2.1, 10, .inl zg))], [(nu, .inl (G.2.1, 10, .inl zu))], [(nf, .inl (G.2.1, 10, .inl zf))], [(nk, .inl (G.2.1, 10, .inl zk))], [(nt, .inl (G.2.1, 10, .inl zt))]] H := hP
      have hD : kz_D (kl_A s) [xoW x (a 0) (sv 0) (ah 0) (h 0) (t 0) V, shW G a S, shW G sv kz_S0, shW G ah kz_S0, hsW G h (fun j => b j 0) Y, shW G (b 0) (R 0), shW G (b 1) (R 1), shW G (b 2) (R 2), shW G (b 3) (R 3), shW G (b 4) (R 4), shW G (b 5) (R 5), txW G t kz_T0, [(np, .inl (G.2.1, 64, .inl (upd zp nP (nI j0))))], [(nq, .inl (G.2.1, 64, .inl zq))], [(nc, .inl (G.2.1, 64, .inl zc))], [(nl, .inl (G.2.1, 64, .inl zl))], [(nv, .inl (G.2.1, 64, .inl zv))], [(ng, .inl (G.2.1, 10, .inl zg))], [(nu, .inl (G.2.1, 10, .inl zu))], [(nf, .inl (G.2.1, 10, .inl zf))], [(nk, .inl (G.2.1, 10, .inl zk))], [(nt, .inl (G.2.1, 10, .inl zt))]] := hD
      refine lv_aload_n hx hb dL_law_217 rfl (lv_at hl 6 rfl) ?_
      refine lv_aload hx hb dL_law_218 (lv_at hl 14 rfl) ?_
      refine lv_bipush (v := 7) hx hb dL_law_220 (by decide +kernel) ?_
      refine va_iald (f := zt) hx hb hK.1 hP 113 0 rfl rfl (vp_in_nI (n := 7) (N := 10) (by decide) (by decide)) dL_law_222 ?_
      refine lv_topi (fun y_57 ey_58 => ?_)
      obtain rfl : y_57 = (nI nP) := by rw [ey_58]; exact (show (zt 7) = (nI nP) from e7)
      refine lv_sipush (v := 1000) hx hb dL_law_223 (by decide +kernel) ?_
      refine lv_aload hx hb dL_law_226 (lv_at hl 14 rfl) ?_
      refine lv_iconst (v := 5) hx hb dL_law_228 (by decide +kernel) ?_
      refine va_iald (f := zt) hx hb hK.1 hP 113 0 rfl rfl (vp_in_nI (n := 5) (N := 10) (by decide) (by decide)) dL_law_229 ?_
      refine lv_topi (fun y_59 ey_60 => ?_)
      obtain rfl : y_59 = (nI D) := by rw [ey_60]; exact (show (zt 5) = (nI D) from e5)
      refine lv_imul hx hb dL_law_230 ?_
      refine lv_topi (fun y_61 ey_62 => ?_)
      obtain rfl : y_61 = (nI (1000 * D)) := by rw [ey_62]; exact pk_mul 1000 D
      refine lv_bipush (v := 100) hx hb dL_law_231 (by decide +kernel) ?_
      refine lv_iload hx hb dL_law_233 (lv_at hl 2 rfl) ?_
      refine lv_imul hx hb dL_law_235 ?_
      refine lv_topi (fun y_63 ey_64 => ?_)
      obtain rfl : y_63 = (nI (100 * sd)) := by rw [ey_64]; exact pk_mul 100 sd
      refine lv_iadd hx hb dL_law_236 ?_
      refine lv_topi (fun y_65 ey_66 => ?_)
      obtain rfl : y_65 = (nI (1000 * D + 100 * sd)) := by rw [ey_66]; exact nI_add _ _
      refine lv_bipush (v := 10) hx hb dL_law_237 (by decide +kernel) ?_
      refine lv_iload hx hb dL_law_239 (lv_at hl 1 rfl) ?_
      refine lv_imul hx hb dL_law_241 ?_
      refine lv_topi (fun y_67 ey_68 => ?_)
      obtain rfl : y_67 = (nI (10 * sz)) := by rw [ey_68]; exact pk_mul 10 sz
      refine lv_iadd hx hb dL_law_242 ?_
      refine lv_topi (fun y_69 ey_70 => ?_)
      obtain rfl : y_69 = (nI (1000 * D + 100 * sd + 10 * sz)) := by rw [ey_70]; exact nI_add _ _
      refine va_iast hx hb hK.1 hP hD hS 105 0 rfl rfl (vp_in_nI (n := nP) (N := 64) (by omega) (by decide)) dL_law_243 (fun H locs hP hD hS => ?_)
      rw [kz_nI_clamp (n := nP) (by omega)] at hP hD
      have hP : kz_P G [xoW x (a 0) (sv 0) (ah 0) (h 0) (t 0) V, shW G a S, shW G sv kz_S0, shW G ah kz_S0, hsW G h (fun j => b j 0) Y, shW G (b 0) (R 0), shW G (b 1) (R 1), shW G (b 2) (R 2), shW G (b 3) (R 3), shW G (b 4) (R 4), shW G (b 5) (R 5), txW G t kz_T0, [(np, .inl (G.2.1, 64, .inl (upd zp nP (nI j0))))], [(nq, .inl (G.2.1, 64, .inl (upd zq nP (nI (1000 * D + 100 * sd + 10 * sz)))))], [(nc, .inl (G.2.1, 64, .inl zc))], [(nl, .inl (G.2.1, 64, .inl zl))], [(nv, .inl (G.2.1, 64, .inl zv))], [(ng, .inl (G.2.1, 10, .inl zg))], [(nu, .inl (G.2.1, 10, .inl zu))], [(nf, .inl (G.2.1, 10, .inl zf))], [(nk, .inl (G.2.1, 10, .inl zk))], [(nt, .inl (G.2.1, 10, .inl zt))]] H := hP
      have hD : kz_D (kl_A s) [xoW x (a 0) (sv 0) (ah 0) (h 0) (t 0) V, shW G a S, shW G sv kz_S0, shW G ah kz_S0, hsW G h (fun j => b j 0) Y, shW G (b 0) (R 0), shW G (b 1) (R 1), shW G (b 2) (R 2), shW G (b 3) (R 3), shW G (b 4) (R 4), shW G (b 5) (R 5), txW G t kz_T0, [(np, .inl (G.2.1, 64, .inl (upd zp nP (nI j0))))], [(nq, .inl (G.2.1, 64, .inl (upd zq nP (nI (1000 * D + 100 * sd + 10 * sz)))))], [(nc, .inl (G.2.1, 64, .inl zc))], [(nl, .inl (G.2.1, 64, .inl zl))], [(nv, .inl (G.2.1, 64, .inl zv))], [(ng, .inl (G.2.1, 10, .inl zg))], [(nu, .inl (G.2.1, 10, .inl zu))], [(nf, .inl (G.2.1, 10, .inl zf))], [(nk, .inl (G.2.1, 10, .inl zk))], [(nt, .inl (G.2.1, 10, .inl zt))]] := hD
      refine lv_aload hx hb dL_law_244 (lv_at hl 7 rfl) ?_
      refine lv_aload hx hb dL_law_246 (lv_at hl 14 rfl) ?_
      refine lv_bipush (v := 7) hx hb dL_law_248 (by decide +kernel) ?_
      refine va_iald (f := zt) hx hb hK.1 hP 113 0 rfl rfl (vp_in_nI (n := 7) (N := 10) (by decide) (by decide)) dL_law_250 ?_
      refine lv_topi (fun y_71 ey_72 => ?_)
      obtain rfl : y_71 = (nI nP) := by rw [ey_72]; exact (show (zt 7) = (nI nP) from e7)
      refine lv_aload hx hb dL_law_251 (lv_at hl 14 rfl) ?_
      refine lv_iconst (v := 5) hx hb dL_law_253 (by decide +kernel) ?_
      refine va_iald (f := zt) hx hb hK.1 hP 113 0 rfl rfl (vp_in_nI (n := 5) (N := 10) (by decide) (by decide)) dL_law_254 ?_
      refine lv_topi (fun y_73 ey_74 => ?_)
      obtain rfl : y_73 = (nI D) := by rw [ey_74]; exact (show (zt 5) = (nI D) from e5)
      refine lv_iload hx hb dL_law_255 (lv_at hl 0 rfl) ?_
      refine kz_rdS (As := [.int (nI D), .int (nI j0)]) (rest := [.int (nI nP), .ref nc]) ⟨hx, hb, hml, hown, hts⟩ (c_L_code l G D j0 (by omega) (by omega)) (va_cwS 2 hts gL_law_L_code rfl rfl rfl (by decide +kernel) ⟨Nat.le_of_ble_eq_true rfl, Nat.le_of_ble_eq_true rfl⟩) hK (hP.sub (cs := []) [] rfl) rfl hl.1 rfl (Nat.le_of_ble_eq_true rfl) dL_law_257 ⟨Nat.le_of_ble_eq_true rfl, Nat.le_of_ble_eq_true rfl⟩ ?_
      refine va_iast hx hb hK.1 hP hD hS 106 0 rfl rfl (vp_in_nI (n := nP) (N := 64) (by omega) (by decide)) dL_law_260 (fun H locs hP hD hS => ?_)
      rw [kz_nI_clamp (n := nP) (by omega)] at hP hD
      have hP : kz_P G [xoW x (a 0) (sv 0) (ah 0) (h 0) (t 0) V, shW G a S, shW G sv kz_S0, shW G ah kz_S0, hsW G h (fun j => b j 0) Y, shW G (b 0) (R 0), shW G (b 1) (R 1), shW G (b 2) (R 2), shW G (b 3) (R 3), shW G (b 4) (R 4), shW G (b 5) (R 5), txW G t kz_T0, [(np, .inl (G.2.1, 64, .inl (upd zp nP (nI j0))))], [(nq, .inl (G.2.1, 64, .inl (upd zq nP (nI (1000 * D + 100 * sd + 10 * sz)))))], [(nc, .inl (G.2.1, 64, .inl (upd zc nP (nI (ps_cd (D % 7 + 1) j0)))))], [(nl, .inl (G.2.1, 64, .inl zl))], [(nv, .inl (G.2.1, 64, .inl zv))], [(ng, .inl (G.2.1, 10, .inl zg))], [(nu, .inl (G.2.1, 10, .inl zu))], [(nf, .inl (G.2.1, 10, .inl zf))], [(nk, .inl (G.2.1, 10, .inl zk))], [(nt, .inl (G.2.1, 10, .inl zt))]] H := hP
      have hD : kz_D (kl_A s) [xoW x (a 0) (sv 0) (ah 0) (h 0) (t 0) V, shW G a S, shW G sv kz_S0, shW G ah kz_S0, hsW G h (fun j => b j 0) Y, shW G (b 0) (R 0), shW G (b 1) (R 1), shW G (b 2) (R 2), shW G (b 3) (R 3), shW G (b 4) (R 4), shW G (b 5) (R 5), txW G t kz_T0, [(np, .inl (G.2.1, 64, .inl (upd zp nP (nI j0))))], [(nq, .inl (G.2.1, 64, .inl (upd zq nP (nI (1000 * D + 100 * sd + 10 * sz)))))], [(nc, .inl (G.2.1, 64, .inl (upd zc nP (nI (ps_cd (D % 7 + 1) j0)))))], [(nl, .inl (G.2.1, 64, .inl zl))], [(nv, .inl (G.2.1, 64, .inl zv))], [(ng, .inl (G.2.1, 10, .inl zg))], [(nu, .inl (G.2.1, 10, .inl zu))], [(nf, .inl (G.2.1, 10, .inl zf))], [(nk, .inl (G.2.1, 10, .inl zk))], [(nt, .inl (G.2.1, 10, .inl zt))]] := hD
      refine lv_aload hx hb dL_law_261 (lv_at hl 14 rfl) ?_
      refine lv_bipush (v := 7) hx hb dL_law_263 (by decide +kernel) ?_
      refine lv_dup2_11 hx hb dL_law_265 rfl rfl ?_
      refine va_iald (f := zt) hx hb hK.1 hP 113 0 rfl rfl (vp_in_nI (n := 7) (N := 10) (by decide) (by decide)) dL_law_266 ?_
      refine lv_topi (fun y_75 ey_76 => ?_)
      obtain rfl : y_75 = (nI nP) := by rw [ey_76]; exact (show (zt 7) = (nI nP) from e7)
      refine lv_iconst (v := 1) hx hb dL_law_267 (by decide +kernel) ?_
      refine lv_iadd hx hb dL_law_268 ?_
      refine lv_topi (fun y_77 ey_78 => ?_)
      obtain rfl : y_77 = (nI (nP + 1)) := by rw [ey_78]; exact nI_1 nP
      refine va_iast hx hb hK.1 hP hD hS 113 0 rfl rfl (vp_in_nI (n := 7) (N := 10) (by decide) (by decide)) dL_law_269 (fun H locs hP hD hS => ?_)
      have hP : kz_P G [xoW x (a 0) (sv 0) (ah 0) (h 0) (t 0) V, shW G a S, shW G sv kz_S0, shW G ah kz_S0, hsW G h (fun j => b j 0) Y, shW G (b 0) (R 0), shW G (b 1) (R 1), shW G (b 2) (R 2), shW G (b 3) (R 3), shW G (b 4) (R 4), shW G (b 5) (R 5), txW G t kz_T0, [(np, .inl (G.2.1, 64, .inl (upd zp nP (nI j0))))], [(nq, .inl (G.2.1, 64, .inl (upd zq nP (nI (1000 * D + 100 * sd + 10 * sz)))))], [(nc, .inl (G.2.1, 64, .inl (upd zc nP (nI (ps_cd (D % 7 + 1) j0)))))], [(nl, .inl (G.2.1, 64, .inl zl))], [(nv, .inl (G.2.1, 64, .inl zv))], [(ng, .inl (G.2.1, 10, .inl zg))], [(nu, .inl (G.2.1, 10, .inl zu))], [(nf, .inl (G.2.1, 10, .inl zf))], [(nk, .inl (G.2.1, 10, .inl zk))], [(nt, .inl (G.2.1, 10, .inl (upd zt 7 (nI (nP + 1)))))]] H := hP
      have hD : kz_D (kl_A s) [xoW x (a 0) (sv 0) (ah 0) (h 0) (t 0) V, shW G a S, shW G sv kz_S0, shW G ah kz_S0, hsW G h (fun j => b j 0) Y, shW G (b 0) (R 0), shW G (b 1) (R 1), shW G (b 2) (R 2), shW G (b 3) (R 3), shW G (b 4) (R 4), shW G (b 5) (R 5), txW G t kz_T0, [(np, .inl (G.2.1, 64, .inl (upd zp nP (nI j0))))], [(nq, .inl (G.2.1, 64, .inl (upd zq nP (nI (1000 * D + 100 * sd + 10 * sz)))))], [(nc, .inl (G.2.1, 64, .inl (upd zc nP (nI (ps_cd (D % 7 + 1) j0)))))], [(nl, .inl (G.2.1, 64, .inl zl))], [(nv, .inl (G.2.1, 64, .inl zv))], [(ng, .inl (G.2.1, 10, .inl zg))], [(nu, .inl (G.2.1, 10, .inl zu))], [(nf, .inl (G.2.1, 10, .inl zf))], [(nk, .inl (G.2.1, 10, .inl zk))], [(nt, .inl (G.2.1, 10, .inl (upd zt 7 (nI (nP + 1)))))]] := hD
      refine lv_goto (tgt := 281) hx hb dL_law_270 (by decide) ?_
      refine lv_aload_n hx hb dL_law_281 rfl (lv_at hl 4 rfl) ?_
      refine lv_iload hx hb dL_law_282 (lv_at hl 2 rfl) ?_
      refine lv_iload hx hb dL_law_284 (lv_at hl 1 rfl) ?_
      refine kz_miV (As := [.int (nI sd), .int (nI sz)]) (rest := []) (b := x) (wr := [shW G sv kz_S0, shW G ah kz_S0, txW G t kz_T0, [(np, .inl (G.2.1, 64, .inl (upd zp nP (nI j0))))], [(nq, .inl (G.2.1, 64, .inl (upd zq nP (nI (1000 * D + 100 * sd + 10 * sz)))))], [(nc, .inl (G.2.1, 64, .inl (upd zc nP (nI (ps_cd (D % 7 + 1) j0)))))], [(nl, .inl (G.2.1, 64, .inl zl))], [(nv, .inl (G.2.1, 64, .inl zv))], [(ng, .inl (G.2.1, 10, .inl zg))], [(nu, .inl (G.2.1, 10, .inl zu))], [(nf, .inl (G.2.1, 10, .inl zf))], [(nk, .inl (G.2.1, 10, .inl zk))], [(nt, .inl (G.2.1, 10, .inl (upd zt 7 (nI (nP + 1)))))]]) (bs' := [xoW x (a 0) (sv 0) (ah 0) (h 0) (t 0) (X3_come_s0 V S Y R (nI sd) (nI sz)), shW G a (X3_come_s1 V S Y R (nI sd) (nI sz)), shW G sv kz_S0, shW G ah kz_S0, hsW G h (fun j => b j 0) (X3_come_s2 V S Y R (nI sd) (nI sz)), shW G (b 0) ((X3_come_s3 V S Y R (nI sd) (nI sz)) 0), shW G (b 1) ((X3_come_s3 V S Y R (nI sd) (nI sz)) 1), shW G (b 2) ((X3_come_s3 V S Y R (nI sd) (nI sz)) 2), shW G (b 3) ((X3_come_s3 V S Y R (nI sd) (nI sz)) 3), shW G (b 4) ((X3_come_s3 V S Y R (nI sd) (nI sz)) 4), shW G (b 5) ((X3_come_s3 V S Y R (nI sd) (nI sz)) 5), txW G t kz_T0, [(np, .inl (G.2.1, 64, .inl (upd zp nP (nI j0))))], [(nq, .inl (G.2.1, 64, .inl (upd zq nP (nI (1000 * D + 100 * sd + 10 * sz)))))], [(nc, .inl (G.2.1, 64, .inl (upd zc nP (nI (ps_cd (D % 7 + 1) j0)))))], [(nl, .inl (G.2.1, 64, .inl zl))], [(nv, .inl (G.2.1, 64, .inl zv))], [(ng, .inl (G.2.1, 10, .inl zg))], [(nu, .inl (G.2.1, 10, .inl zu))], [(nf, .inl (G.2.1, 10, .inl zf))], [(nk, .inl (G.2.1, 10, .inl zk))], [(nt, .inl (G.2.1, 10, .inl (upd zt 7 (nI (nP + 1)))))]]) ⟨hx, hb, hml, hown, hts⟩ (c_X3_come l G x (sv 0) (ah 0) (t 0) V a S h Y b R (nI sd) (nI sz) (by assumption) (by assumption) (by assumption)) (cwV 2 hts gL_law_X3_come rfl rfl rfl (by decide +kernel) ⟨Nat.le_of_ble_eq_true rfl, Nat.le_of_ble_eq_true rfl⟩) hK hP hD hS hA [0, 1, 4, 5, 6, 7, 8, 9, 10] [2, 3, 11, 12, 13, 14, 15, 16, 17, 18, 19, 20, 21] [13, 14, 0, 1, 15, 16, 17, 18, 19, 20, 21, 2, 3, 4, 5, 6, 7, 8, 9, 10, 11, 12] rfl (by decide) rfl (by decide) (by decide) rfl (by decide) (kz_recv hK hP (ci := 3) (q0 := 0) rfl rfl) rfl hl.1 rfl (Nat.le_of_ble_eq_true rfl) dL_law_286 ⟨Nat.le_of_ble_eq_true rfl, Nat.le_of_ble_eq_true rfl⟩ (fun H locs hP hD hS => ?_)
      obtain ⟨eans, I2⟩ := ps_opCome2 hI R (s := sd) (v := sz) (by omega) (by omega) hj0 ep0 hf5
      refine lv_iload hx hb dL_law_289 (lv_at hl 0 rfl) ?_
      refine lv_if_ge (tgt := 299) hx hb dL_law_291 (by decide) (fun c_79 => ?_) (fun c => absurd c (by exact fun z => z (nI_pos' (by omega))))
      refine lv_aload hx hb dL_law_299 (lv_at hl 7 rfl) ?_
      refine lv_aload hx hb dL_law_301 (lv_at hl 14 rfl) ?_
      refine lv_bipush (v := 7) hx hb dL_law_303 (by decide +kernel) ?_
      refine va_iald (f := (upd zt 7 (nI (nP + 1)))) hx hb hK.1 hP 113 0 rfl rfl (vp_in_nI (n := 7) (N := 10) (by decide) (by decide)) dL_law_305 ?_
      refine lv_topi (fun y_80 ey_81 => ?_)
      obtain rfl : y_80 = (nI (nP + 1)) := by rw [ey_81]; exact (show ((upd zt 7 (nI (nP + 1))) 7) = (nI (nP + 1)) from pk_us)
      refine lv_iconst (v := 1) hx hb dL_law_306 (by decide +kernel) ?_
      refine lv_isub hx hb dL_law_307 ?_
      refine lv_topi (fun y_82 ey_83 => ?_)
      obtain rfl : y_82 = (nI nP) := by rw [ey_83]; exact nI_pred nP
      refine va_iald (f := (upd zc nP (nI (ps_cd (D % 7 + 1) j0)))) hx hb hK.1 hP 106 0 rfl rfl (vp_in_nI (n := nP) (N := 64) (by omega) (by decide)) dL_law_308 ?_
      refine lv_topi (fun y_84 ey_85 => ?_)
      obtain rfl : y_84 = (nI (ps_cd (D % 7 + 1) j0)) := by rw [ey_85, kz_nI_clamp (n := nP) (by omega)]; exact pk_us
      refine lv_icmp_ne (tgt := 316) hx hb dL_law_309 (by decide) (fun c => absurd c (by exact fun z => z (eans))) (fun c_86 => ?_)
      refine lv_iconst (v := 1) hx hb dL_law_312 (by decide +kernel) ?_
      refine lv_goto (tgt := 317) hx hb dL_law_313 (by decide) ?_
      refine lv_istore (lv' := [(17, .int 1), (20, .int (nI j0)), (19, .int (nI sz)), (18, .int (nI sd)), (0, .ref bb), (1, .ref x), (2, .ref np), (3, .ref nq), (4, .ref nc), (5, .ref nl), (6, .ref nv), (7, .ref ng), (8, .ref nu), (9, .ref nf), (10, .ref nk), (11, .ref nt), (12, .int why), (13, .int beh), (14, .int (nI i)), (15, .int hh)]) hx hb dL_law_317 hl (by decide) rfl (fun ls hl => ?_)
      refine lv_goto (tgt := 1172) hx hb dL_law_319 (by decide) ?_
      exact KK (X3_come_s0 V S Y R (nI sd) (nI sz)) (X3_come_s1 V S Y R (nI sd) (nI sz)) (X3_come_s2 V S Y R (nI sd) (nI sz)) (X3_come_s3 V S Y R (nI sd) (nI sz)) (upd zp nP (nI j0)) (upd zq nP (nI (1000 * D + 100 * sd + 10 * sz))) (upd zc nP (nI (ps_cd (D % 7 + 1) j0))) zl zv zg zu zf zk (upd zt 7 (nI (nP + 1))) why beh I2 H locs ls hP hD hS (lv_sub hl [0, 4, 5, 6, 7, 8, 9, 10, 11, 12, 13, 14, 15, 16, 17, 18] rfl)
set_option maxHeartbeats 4000000 in
set_option maxRecDepth 100000 in
theorem kl_c_fetch (C0 : kl_C p s m c bb L xs G) (hI : ps_C i D nP mL V S Y zp zq zc zl zv zg zu zf zk zt why beh) (KK : kl_K p l e s m below meth c bb G x a sv ah h b t np nq nc nl nv ng nu nf nk nt i) : kl_at p l e s m below meth c bb G x a sv ah h b t np nq nc nl nv ng nu nf nk nt 329 [(0, .ref bb), (1, .ref x), (2, .ref np), (3, .ref nq), (4, .ref nc), (5, .ref nl), (6, .ref nv), (7, .ref ng), (8, .ref nu), (9, .ref nf), (10, .ref nk), (11, .ref nt), (12, .int why), (13, .int beh), (14, .int (nI i)), (15, .int hh)] V S Y R zp zq zc zl zv zg zu zf zk zt := by
  obtain ⟨hx, hb, hml, hown, hts, ⟨hX, hL⟩, hbl, hK, hZ0⟩ := C0
  have hA : ∀ q : Nat, s.heap.size ≤ q → kl_A s q := fun _ h => h
  have hbA : ¬ kl_A s bb := Nat.not_le.mpr hbl
  intro H locs ls hP hD hS hl
  have hR := hI.1
  have hin := hI.2.1
  have hNi := ps_hN hI
  have hDi := ps_hD hI
  have hnP := ps_n hR
  have hmL := ps_m hR
  have e5 := hR.2.2.2.2.1.1
  have e7 := hR.2.2.2.2.2.2.1.1
  have e8 := hR.2.2.2.2.2.2.2.1
  have h7 := ps_h7 hR hNi
  have h8 := ps_h8 hR hNi
  have h5 := ps_h5 hR (by omega)
  have ht := ps_t hR (by omega)
  have hJ := ps_J hR
  have hO := hI.2.2.2.1
  have hC := hI.2.2.2.2
  refine lv_aload hx hb dL_law_329 (lv_at hl 4 rfl) ?_
  refine lv_aload hx hb dL_law_331 (lv_at hl 11 rfl) ?_
  refine lv_iload hx hb dL_law_333 (lv_at hl 15 rfl) ?_
  refine lv_iconst (v := 5) hx hb dL_law_335 (by decide +kernel) ?_
  refine lv_ishr hx hb dL_law_336 ?_
  refine kz_rdS (As := [.ref nc, .ref nt, .int (hh >>> 5)]) (rest := []) ⟨hx, hb, hml, hown, hts⟩ (c_L_other l G nc zc nt zt (hh >>> 5) (by assumption)) (va_cwS 3 hts gL_law_L_other rfl rfl rfl (by decide +kernel) ⟨Nat.le_of_ble_eq_true rfl, Nat.le_of_ble_eq_true rfl⟩) hK (hP.sub (cs := [[(nc, .inl (G.2.1, 64, .inl zc))], [(nt, .inl (G.2.1, 10, .inl zt))]]) [14, 21] rfl) rfl hl.1 rfl (Nat.le_of_ble_eq_true rfl) dL_law_337 ⟨Nat.le_of_ble_eq_true rfl, Nat.le_of_ble_eq_true rfl⟩ ?_
  refine lv_topi (fun cw ecw => ?_)
  have hcw : ∃ c, c < 10000 ∧ cw = nI c := by rw [ecw]; exact ps_oth hI _
  clear ecw
  refine lv_istore (lv' := [(18, .int cw), (0, .ref bb), (1, .ref x), (2, .ref np), (3, .ref nq), (4, .ref nc), (5, .ref nl), (6, .ref nv), (7, .ref ng), (8, .ref nu), (9, .ref nf), (10, .ref nk), (11, .ref nt), (12, .int why), (13, .int beh), (14, .int (nI i)), (15, .int hh)]) hx hb dL_law_340 hl (by decide) rfl (fun ls hl => ?_)
  refine lv_aload_n hx hb dL_law_342 rfl (lv_at hl 3 rfl) ?_
  refine lv_aload hx hb dL_law_343 (lv_at hl 5 rfl) ?_
  refine lv_aload hx hb dL_law_345 (lv_at hl 12 rfl) ?_
  refine lv_iload hx hb dL_law_347 (lv_at hl 0 rfl) ?_
  refine kz_rdS (As := [.ref np, .ref nc, .ref nt, .int cw]) (rest := []) ⟨hx, hb, hml, hown, hts⟩ (c_L_by l G np zp nc zc nt zt cw (by assumption)) (va_cwS 4 hts gL_law_L_by rfl rfl rfl (by decide +kernel) ⟨Nat.le_of_ble_eq_true rfl, Nat.le_of_ble_eq_true rfl⟩) hK (hP.sub (cs := [[(np, .inl (G.2.1, 64, .inl zp))], [(nc, .inl (G.2.1, 64, .inl zc))], [(nt, .inl (G.2.1, 10, .inl zt))]]) [12, 14, 21] rfl) rfl hl.1 rfl (Nat.le_of_ble_eq_true rfl) dL_law_349 ⟨Nat.le_of_ble_eq_true rfl, Nat.le_of_ble_eq_true rfl⟩ ?_
  refine lv_istore (lv' := [(19, .int (L_by_r zp zc zt cw)), (18, .int cw), (0, .ref bb), (1, .ref x), (2, .ref np), (3, .ref nq), (4, .ref nc), (5, .ref nl), (6, .ref nv), (7, .ref ng), (8, .ref nu), (9, .ref nf), (10, .ref nk), (11, .ref nt), (12, .int why), (13, .int beh), (14, .int (nI i)), (15, .int hh)]) hx hb dL_law_352 hl (by decide) rfl (fun ls hl => ?_)
  refine lv_bipush (v := (-7)) hx hb dL_law_354 (by decide +kernel) ?_
  refine lv_istore (lv' := [(20, .int (-7)), (19, .int (L_by_r zp zc zt cw)), (18, .int cw), (0, .ref bb), (1, .ref x), (2, .ref np), (3, .ref nq), (4, .ref nc), (5, .ref nl), (6, .ref nv), (7, .ref ng), (8, .ref nu), (9, .ref nf), (10, .ref nk), (11, .ref nt), (12, .int why), (13, .int beh), (14, .int (nI i)), (15, .int hh)]) hx hb dL_law_356 hl (by decide) rfl (fun ls hl => ?_)
  refine lv_aload hx hb dL_law_358 (lv_at hl 14 rfl) ?_
  refine lv_bipush (v := 6) hx hb dL_law_360 (by decide +kernel) ?_
  refine va_iald (f := zt) hx hb hK.1 hP 113 0 rfl rfl (vp_in_nI (n := 6) (N := 10) (by decide) (by decide)) dL_law_362 ?_
  refine lv_topi (fun y_1 ey_2 => ?_)
  obtain rfl : y_1 = (zt 6) := by rw [ey_2]; rfl
  refine lv_iconst (v := 3) hx hb dL_law_363 (by decide +kernel) ?_
  refine lv_icmp_ne (tgt := 381) hx hb dL_law_364 (by decide) (fun c_3 => ?_) (fun c_3 => ?_)
  · refine lv_iload hx hb dL_law_381 (lv_at hl 1 rfl) ?_
    refine lv_if_ge (tgt := 398) hx hb dL_law_383 (by decide) (fun c_4 => ?_) (fun c_4 => ?_)
    · obtain ⟨k, j, sd, hk, hj, ek, eb, epw, hsd, es⟩ := ps_byJ hI c_4
      have hl : lv_has ls 23 [(20, .int (-7)), (19, .int (nI k)), (18, .int cw), (0, .ref bb), (1, .ref x), (2, .ref np), (3, .ref nq), (4, .ref nc), (5, .ref nl), (6, .ref nv), (7, .ref ng), (8, .ref nu), (9, .ref nf), (10, .ref nk), (11, .ref nt), (12, .int why), (13, .int beh), (14, .int (nI i)), (15, .int hh)] := by rw [← eb]; exact hl
      refine lv_aload_n hx hb dL_law_398 rfl (lv_at hl 6 rfl) ?_
      refine lv_aload hx hb dL_law_399 (lv_at hl 14 rfl) ?_
      refine lv_iload hx hb dL_law_401 (lv_at hl 1 rfl) ?_
      refine lv_aload hx hb dL_law_403 (lv_at hl 14 rfl) ?_
      refine lv_iconst (v := 5) hx hb dL_law_405 (by decide +kernel) ?_
      refine va_iald (f := zt) hx hb hK.1 hP 113 0 rfl rfl (vp_in_nI (n := 5) (N := 10) (by decide) (by decide)) dL_law_406 ?_
      refine lv_topi (fun y_5 ey_6 => ?_)
      obtain rfl : y_5 = (nI D) := by rw [ey_6]; exact (show (zt 5) = (nI D) from e5)
      refine kz_rdS (As := [.ref nq, .ref nt, .int (nI k), .int (nI D)]) (rest := []) ⟨hx, hb, hml, hown, hts⟩ (c_L_fee l G nq zq nt zt k (nI D) (by omega)) (va_cwS 4 hts gL_law_L_fee rfl rfl rfl (by decide +kernel) ⟨Nat.le_of_ble_eq_true rfl, Nat.le_of_ble_eq_true rfl⟩) hK (hP.sub (cs := [[(nq, .inl (G.2.1, 64, .inl zq))], [(nt, .inl (G.2.1, 10, .inl zt))]]) [13, 21] rfl) rfl hl.1 rfl (Nat.le_of_ble_eq_true rfl) dL_law_407 ⟨Nat.le_of_ble_eq_true rfl, Nat.le_of_ble_eq_true rfl⟩ ?_
      refine lv_istore (lv' := [(20, .int (L_fee_r zq zt k (nI D))), (19, .int (nI k)), (18, .int cw), (0, .ref bb), (1, .ref x), (2, .ref np), (3, .ref nq), (4, .ref nc), (5, .ref nl), (6, .ref nv), (7, .ref ng), (8, .ref nu), (9, .ref nf), (10, .ref nk), (11, .ref nt), (12, .int why), (13, .int beh), (14, .int (nI i)), (15, .int hh)]) hx hb dL_law_410 hl (by decide) rfl (fun ls hl => ?_)
      refine lv_aload hx hb dL_law_412 (lv_at hl 14 rfl) ?_
      refine lv_bipush (v := 9) hx hb dL_law_414 (by decide +kernel) ?_
      refine lv_dup2_11 hx hb dL_law_416 rfl rfl ?_
      refine va_iald (f := zt) hx hb hK.1 hP 113 0 rfl rfl (vp_in_nI (n := 9) (N := 10) (by decide) (by decide)) dL_law_417 ?_
      refine lv_topi (fun y_7 ey_8 => ?_)
      obtain rfl : y_7 = (zt 9) := by rw [ey_8]; rfl
      refine lv_iload hx hb dL_law_418 (lv_at hl 0 rfl) ?_
      refine lv_iadd hx hb dL_law_420 ?_
      refine va_iast hx hb hK.1 hP hD hS 113 0 rfl rfl (vp_in_nI (n := 9) (N := 10) (by decide) (by decide)) dL_law_421 (fun H locs hP hD hS => ?_)
      have hP : kz_P G [xoW x (a 0) (sv 0) (ah 0) (h 0) (t 0) V, shW G a S, shW G sv kz_S0, shW G ah kz_S0, hsW G h (fun j => b j 0) Y, shW G (b 0) (R 0), shW G (b 1) (R 1), shW G (b 2) (R 2), shW G (b 3) (R 3), shW G (b 4) (R 4), shW G (b 5) (R 5), txW G t kz_T0, [(np, .inl (G.2.1, 64, .inl zp))], [(nq, .inl (G.2.1, 64, .inl zq))], [(nc, .inl (G.2.1, 64, .inl zc))], [(nl, .inl (G.2.1, 64, .inl zl))], [(nv, .inl (G.2.1, 64, .inl zv))], [(ng, .inl (G.2.1, 10, .inl zg))], [(nu, .inl (G.2.1, 10, .inl zu))], [(nf, .inl (G.2.1, 10, .inl zf))], [(nk, .inl (G.2.1, 10, .inl zk))], [(nt, .inl (G.2.1, 10, .inl (upd zt 9 ((zt 9) + (L_fee_r zq zt k (nI D))))))]] H := hP
      have hD : kz_D (kl_A s) [xoW x (a 0) (sv 0) (ah 0) (h 0) (t 0) V, shW G a S, shW G sv kz_S0, shW G ah kz_S0, hsW G h (fun j => b j 0) Y, shW G (b 0) (R 0), shW G (b 1) (R 1), shW G (b 2) (R 2), shW G (b 3) (R 3), shW G (b 4) (R 4), shW G (b 5) (R 5), txW G t kz_T0, [(np, .inl (G.2.1, 64, .inl zp))], [(nq, .inl (G.2.1, 64, .inl zq))], [(nc, .inl (G.2.1, 64, .inl zc))], [(nl, .inl (G.2.1, 64, .inl zl))], [(nv, .inl (G.2.1, 64, .inl zv))], [(ng, .inl (G.2.1, 10, .inl zg))], [(nu, .inl (G.2.1, 10, .inl zu))], [(nf, .inl (G.2.1, 10, .inl zf))], [(nk, .inl (G.2.1, 10, .inl zk))], [(nt, .inl (G.2.1, 10, .inl (upd zt 9 ((zt 9) + (L_fee_r zq zt k (nI D))))))]] := hD
      refine lv_aload hx hb dL_law_422 (lv_at hl 12 rfl) ?_
      refine lv_aload_n hx hb dL_law_424 rfl (lv_at hl 6 rfl) ?_
      refine lv_iload hx hb dL_law_425 (lv_at hl 1 rfl) ?_
      refine kz_rdS (As := [.ref nq, .int (nI k)]) (rest := [.ref nf]) ⟨hx, hb, hml, hown, hts⟩ (c_L_sender l G nq zq k (by omega)) (va_cwS 2 hts gL_law_L_sender rfl rfl rfl (by decide +kernel) ⟨Nat.le_of_ble_eq_true rfl, Nat.le_of_ble_eq_true rfl⟩) hK (hP.sub (cs := [[(nq, .inl (G.2.1, 64, .inl zq))]]) [13] rfl) rfl hl.1 rfl (Nat.le_of_ble_eq_true rfl) dL_law_427 ⟨Nat.le_of_ble_eq_true rfl, Nat.le_of_ble_eq_true rfl⟩ ?_
      refine lv_topi (fun y_9 ey_10 => ?_)
      obtain rfl : y_9 = (nI sd) := by rw [ey_10]; exact es
      refine lv_dup2_11 hx hb dL_law_430 rfl rfl ?_
      refine va_iald (f := zf) hx hb hK.1 hP 111 0 rfl rfl (vp_in_nI (n := sd) (N := 10) (by omega) (by decide)) dL_law_431 ?_
      refine lv_topi (fun y_11 ey_12 => ?_)
      obtain rfl : y_11 = (zf sd) := by rw [ey_12, kz_nI_clamp (n := sd) (by omega)]
      refine lv_iconst (v := 1) hx hb dL_law_432 (by decide +kernel) ?_
      refine lv_iadd hx hb dL_law_433 ?_
      refine va_iast hx hb hK.1 hP hD hS 111 0 rfl rfl (vp_in_nI (n := sd) (N := 10) (by omega) (by decide)) dL_law_434 (fun H locs hP hD hS => ?_)
      rw [kz_nI_clamp (n := sd) (by omega)] at hP hD
      have hP : kz_P G [xoW x (a 0) (sv 0) (ah 0) (h 0) (t 0) V, shW G a S, shW G sv kz_S0, shW G ah kz_S0, hsW G h (fun j => b j 0) Y, shW G (b 0) (R 0), shW G (b 1) (R 1), shW G (b 2) (R 2), shW G (b 3) (R 3), shW G (b 4) (R 4), shW G (b 5) (R 5), txW G t kz_T0, [(np, .inl (G.2.1, 64, .inl zp))], [(nq, .inl (G.2.1, 64, .inl zq))], [(nc, .inl (G.2.1, 64, .inl zc))], [(nl, .inl (G.2.1, 64, .inl zl))], [(nv, .inl (G.2.1, 64, .inl zv))], [(ng, .inl (G.2.1, 10, .inl zg))], [(nu, .inl (G.2.1, 10, .inl zu))], [(nf, .inl (G.2.1, 10, .inl (upd zf sd ((zf sd) + 1))))], [(nk, .inl (G.2.1, 10, .inl zk))], [(nt, .inl (G.2.1, 10, .inl (upd zt 9 ((zt 9) + (L_fee_r zq zt k (nI D))))))]] H := hP
      have hD : kz_D (kl_A s) [xoW x (a 0) (sv 0) (ah 0) (h 0) (t 0) V, shW G a S, shW G sv kz_S0, shW G ah kz_S0, hsW G h (fun j => b j 0) Y, shW G (b 0) (R 0), shW G (b 1) (R 1), shW G (b 2) (R 2), shW G (b 3) (R 3), shW G (b 4) (R 4), shW G (b 5) (R 5), txW G t kz_T0, [(np, .inl (G.2.1, 64, .inl zp))], [(nq, .inl (G.2.1, 64, .inl zq))], [(nc, .inl (G.2.1, 64, .inl zc))], [(nl, .inl (G.2.1, 64, .inl zl))], [(nv, .inl (G.2.1, 64, .inl zv))], [(ng, .inl (G.2.1, 10, .inl zg))], [(nu, .inl (G.2.1, 10, .inl zu))], [(nf, .inl (G.2.1, 10, .inl (upd zf sd ((zf sd) + 1))))], [(nk, .inl (G.2.1, 10, .inl zk))], [(nt, .inl (G.2.1, 10, .inl (upd zt 9 ((zt 9) + (L_fee_r zq zt k (nI D))))))]] := hD
      refine lv_aload_n hx hb dL_law_435 rfl (lv_at hl 5 rfl) ?_
      refine lv_aload hx hb dL_law_436 (lv_at hl 7 rfl) ?_
      refine lv_aload hx hb dL_law_438 (lv_at hl 8 rfl) ?_
      refine lv_aload hx hb dL_law_440 (lv_at hl 9 rfl) ?_
      refine lv_aload hx hb dL_law_442 (lv_at hl 14 rfl) ?_
      refine lv_iload hx hb dL_law_444 (lv_at hl 1 rfl) ?_
      refine kz_mvS (As := [.ref np, .ref nc, .ref nl, .ref nv, .ref nt, .int (nI k)]) (rest := []) (wr := [xoW x (a 0) (sv 0) (ah 0) (h 0) (t 0) V, shW G a S, shW G sv kz_S0, shW G ah kz_S0, hsW G h (fun j => b j 0) Y, shW G (b 0) (R 0), shW G (b 1) (R 1), shW G (b 2) (R 2), shW G (b 3) (R 3), shW G (b 4) (R 4), shW G (b 5) (R 5), txW G t kz_T0, [(nq, .inl (G.2.1, 64, .inl zq))], [(ng, .inl (G.2.1, 10, .inl zg))], [(nu, .inl (G.2.1, 10, .inl zu))], [(nf, .inl (G.2.1, 10, .inl (upd zf sd ((zf sd) + 1))))], [(nk, .inl (G.2.1, 10, .inl zk))]]) (bs' := [xoW x (a 0) (sv 0) (ah 0) (h 0) (t 0) V, shW G a S, shW G sv kz_S0, shW G ah kz_S0, hsW G h (fun j => b j 0) Y, shW G (b 0) (R 0), shW G (b 1) (R 1), shW G (b 2) (R 2), shW G (b 3) (R 3), shW G (b 4) (R 4), shW G (b 5) (R 5), txW G t kz_T0, [(np, .inl (G.2.1, 64, .inl (L_leaves_s0 zp zc zl zv (upd zt 9 ((zt 9) + (L_fee_r zq zt k (nI D)))) k)))], [(nq, .inl (G.2.1, 64, .inl zq))], [(nc, .inl (G.2.1, 64, .inl zc))], [(nl, .inl (G.2.1, 64, .inl (L_leaves_s2 zp zc zl zv (upd zt 9 ((zt 9) + (L_fee_r zq zt k (nI D)))) k)))], [(nv, .inl (G.2.1, 64, .inl (L_leaves_s3 zp zc zl zv (upd zt 9 ((zt 9) + (L_fee_r zq zt k (nI D)))) k)))], [(ng, .inl (G.2.1, 10, .inl zg))], [(nu, .inl (G.2.1, 10, .inl zu))], [(nf, .inl (G.2.1, 10, .inl (upd zf sd ((zf sd) + 1))))], [(nk, .inl (G.2.1, 10, .inl zk))], [(nt, .inl (G.2.1, 10, .inl (L_leaves_s4 zp zc zl zv (upd zt 9 ((zt 9) + (L_fee_r zq zt k (nI D)))) k)))]]) ⟨hx, hb, hml, hown, hts⟩ (c_L_leaves l G np zp nc zc nl zl nv zv nt (upd zt 9 ((zt 9) + (L_fee_r zq zt k (nI D)))) k (by omega) ⟨mL, by omega, (pk_un (by decide)).trans e8⟩) (va_cwS 6 hts gL_law_L_leaves rfl rfl rfl (by decide +kernel) ⟨Nat.le_of_ble_eq_true rfl, Nat.le_of_ble_eq_true rfl⟩) hK hP hD hS hA [12, 14, 15, 16, 21] [0, 1, 2, 3, 4, 5, 6, 7, 8, 9, 10, 11, 13, 17, 18, 19, 20] [0, 1, 2, 3, 4, 5, 6, 7, 8, 9, 10, 11, 17, 12, 18, 19, 20, 13, 14, 15, 16, 21] rfl (by decide) rfl (by decide) (by decide) rfl (by decide) rfl hl.1 rfl (Nat.le_of_ble_eq_true rfl) dL_law_446 ⟨Nat.le_of_ble_eq_true rfl, Nat.le_of_ble_eq_true rfl⟩ (fun H locs hP hD hS => ?_)
      refine lv_aload_n hx hb dL_law_449 rfl (lv_at hl 4 rfl) ?_
      refine lv_iload hx hb dL_law_450 (lv_at hl 2 rfl) ?_
      refine kz_miV (As := [.int cw]) (rest := []) (b := x) (wr := [shW G sv kz_S0, shW G ah kz_S0, txW G t kz_T0, [(np, .inl (G.2.1, 64, .inl (L_leaves_s0 zp zc zl zv (upd zt 9 ((zt 9) + (L_fee_r zq zt k (nI D)))) k)))], [(nq, .inl (G.2.1, 64, .inl zq))], [(nc, .inl (G.2.1, 64, .inl zc))], [(nl, .inl (G.2.1, 64, .inl (L_leaves_s2 zp zc zl zv (upd zt 9 ((zt 9) + (L_fee_r zq zt k (nI D)))) k)))], [(nv, .inl (G.2.1, 64, .inl (L_leaves_s3 zp zc zl zv (upd zt 9 ((zt 9) + (L_fee_r zq zt k (nI D)))) k)))], [(ng, .inl (G.2.1, 10, .inl zg))], [(nu, .inl (G.2.1, 10, .inl zu))], [(nf, .inl (G.2.1, 10, .inl (upd zf sd ((zf sd) + 1))))], [(nk, .inl (G.2.1, 10, .inl zk))], [(nt, .inl (G.2.1, 10, .inl (L_leaves_s4 zp zc zl zv (upd zt 9 ((zt 9) + (L_fee_r zq zt k (nI D)))) k)))]]) (bs' := [xoW x (a 0) (sv 0) (ah 0) (h 0) (t 0) (X3_fetch_s0 V S Y R cw), shW G a (X3_fetch_s1 V S Y R cw), shW G sv kz_S0, shW G ah kz_S0, hsW G h (fun j => b j 0) (X3_fetch_s2 V S Y R cw), shW G (b 0) ((X3_fetch_s3 V S Y R cw) 0), shW G (b 1) ((X3_fetch_s3 V S Y R cw) 1), shW G (b 2) ((X3_fetch_s3 V S Y R cw) 2), shW G (b 3) ((X3_fetch_s3 V S Y R cw) 3), shW G (b 4) ((X3_fetch_s3 V S Y R cw) 4), shW G (b 5) ((X3_fetch_s3 V S Y R cw) 5), txW G t kz_T0, [(np, .inl (G.2.1, 64, .inl (L_leaves_s0 zp zc zl zv (upd zt 9 ((zt 9) + (L_fee_r zq zt k (nI D)))) k)))], [(nq, .inl (G.2.1, 64, .inl zq))], [(nc, .inl (G.2.1, 64, .inl zc))], [(nl, .inl (G.2.1, 64, .inl (L_leaves_s2 zp zc zl zv (upd zt 9 ((zt 9) + (L_fee_r zq zt k (nI D)))) k)))], [(nv, .inl (G.2.1, 64, .inl (L_leaves_s3 zp zc zl zv (upd zt 9 ((zt 9) + (L_fee_r zq zt k (nI D)))) k)))], [(ng, .inl (G.2.1, 10, .inl zg))], [(nu, .inl (G.2.1, 10, .inl zu))], [(nf, .inl (G.2.1, 10, .inl (upd zf sd ((zf sd) + 1))))], [(nk, .inl (G.2.1, 10, .inl zk))], [(nt, .inl (G.2.1, 10, .inl (L_leaves_s4 zp zc zl zv (upd zt 9 ((zt 9) + (L_fee_r zq zt k (nI D)))) k)))]]) ⟨hx, hb, hml, hown, hts⟩ (c_X3_fetch l G x (sv 0) (ah 0) (t 0) V a S h Y b R cw (by assumption) (by assumption) (by assumption)) (cwV 1 hts gL_law_X3_fetch rfl rfl rfl (by decide +kernel) ⟨Nat.le_of_ble_eq_true rfl, Nat.le_of_ble_eq_true rfl⟩) hK hP hD hS hA [0, 1, 4, 5, 6, 7, 8, 9, 10] [2, 3, 11, 12, 13, 14, 15, 16, 17, 18, 19, 20, 21] [13, 14, 0, 1, 15, 16, 17, 18, 19, 20, 21, 2, 3, 4, 5, 6, 7, 8, 9, 10, 11, 12] rfl (by decide) rfl (by decide) (by decide) rfl (by decide) (kz_recv hK hP (ci := 3) (q0 := 0) rfl rfl) rfl hl.1 rfl (Nat.le_of_ble_eq_true rfl) dL_law_452 ⟨Nat.le_of_ble_eq_true rfl, Nat.le_of_ble_eq_true rfl⟩ (fun H locs hP hD hS => ?_)
      obtain ⟨eans, I2⟩ := ps_opFetch3 hI R hcw c_3 hk hj ek epw hsd es
      refine lv_iload hx hb dL_law_455 (lv_at hl 0 rfl) ?_
      refine lv_icmp_ne (tgt := 464) hx hb dL_law_457 (by decide) (fun c => absurd c (by exact fun z => z (eans))) (fun c_13 => ?_)
      refine lv_iconst (v := 1) hx hb dL_law_460 (by decide +kernel) ?_
      refine lv_goto (tgt := 465) hx hb dL_law_461 (by decide) ?_
      refine lv_istore (lv' := [(17, .int 1), (20, .int (L_fee_r zq zt k (nI D))), (19, .int (nI k)), (18, .int cw), (0, .ref bb), (1, .ref x), (2, .ref np), (3, .ref nq), (4, .ref nc), (5, .ref nl), (6, .ref nv), (7, .ref ng), (8, .ref nu), (9, .ref nf), (10, .ref nk), (11, .ref nt), (12, .int why), (13, .int beh), (14, .int (nI i)), (15, .int hh)]) hx hb dL_law_465 hl (by decide) rfl (fun ls hl => ?_)
      refine lv_goto (tgt := 1172) hx hb dL_law_467 (by decide) ?_
      exact KK (X3_fetch_s0 V S Y R cw) (X3_fetch_s1 V S Y R cw) (X3_fetch_s2 V S Y R cw) (X3_fetch_s3 V S Y R cw) (L_leaves_s0 zp zc zl zv (upd zt 9 ((zt 9) + (L_fee_r zq zt k (nI D)))) k) zq zc (L_leaves_s2 zp zc zl zv (upd zt 9 ((zt 9) + (L_fee_r zq zt k (nI D)))) k) (L_leaves_s3 zp zc zl zv (upd zt 9 ((zt 9) + (L_fee_r zq zt k (nI D)))) k) zg zu (upd zf sd ((zf sd) + 1)) zk (L_leaves_s4 zp zc zl zv (upd zt 9 ((zt 9) + (L_fee_r zq zt k (nI D)))) k) why beh I2 H locs ls hP hD hS (lv_sub hl [0, 4, 5, 6, 7, 8, 9, 10, 11, 12, 13, 14, 15, 16, 17, 18] rfl)
    · refine lv_aload hx hb dL_law_386 (lv_at hl 14 rfl) ?_
      refine lv_bipush (v := 6) hx hb dL_law_388 (by decide +kernel) ?_
      refine lv_dup2_11 hx hb dL_law_390 rfl rfl ?_
      refine va_iald (f := zt) hx hb hK.1 hP 113 0 rfl rfl (vp_in_nI (n := 6) (N := 10) (by decide) (by decide)) dL_law_391 ?_
      refine lv_topi (fun y_14 ey_15 => ?_)
      obtain rfl : y_14 = (zt 6) := by rw [ey_15]; rfl
      refine lv_iconst (v := 1) hx hb dL_law_392 (by decide +kernel) ?_
      refine lv_iadd hx hb dL_law_393 ?_
      refine va_iast hx hb hK.1 hP hD hS 113 0 rfl rfl (vp_in_nI (n := 6) (N := 10) (by decide) (by decide)) dL_law_394 (fun H locs hP hD hS => ?_)
      have hP : kz_P G [xoW x (a 0) (sv 0) (ah 0) (h 0) (t 0) V, shW G a S, shW G sv kz_S0, shW G ah kz_S0, hsW G h (fun j => b j 0) Y, shW G (b 0) (R 0), shW G (b 1) (R 1), shW G (b 2) (R 2), shW G (b 3) (R 3), shW G (b 4) (R 4), shW G (b 5) (R 5), txW G t kz_T0, [(np, .inl (G.2.1, 64, .inl zp))], [(nq, .inl (G.2.1, 64, .inl zq))], [(nc, .inl (G.2.1, 64, .inl zc))], [(nl, .inl (G.2.1, 64, .inl zl))], [(nv, .inl (G.2.1, 64, .inl zv))], [(ng, .inl (G.2.1, 10, .inl zg))], [(nu, .inl (G.2.1, 10, .inl zu))], [(nf, .inl (G.2.1, 10, .inl zf))], [(nk, .inl (G.2.1, 10, .inl zk))], [(nt, .inl (G.2.1, 10, .inl (upd zt 6 ((zt 6) + 1))))]] H := hP
      have hD : kz_D (kl_A s) [xoW x (a 0) (sv 0) (ah 0) (h 0) (t 0) V, shW G a S, shW G sv kz_S0, shW G ah kz_S0, hsW G h (fun j => b j 0) Y, shW G (b 0) (R 0), shW G (b 1) (R 1), shW G (b 2) (R 2), shW G (b 3) (R 3), shW G (b 4) (R 4), shW G (b 5) (R 5), txW G t kz_T0, [(np, .inl (G.2.1, 64, .inl zp))], [(nq, .inl (G.2.1, 64, .inl zq))], [(nc, .inl (G.2.1, 64, .inl zc))], [(nl, .inl (G.2.1, 64, .inl zl))], [(nv, .inl (G.2.1, 64, .inl zv))], [(ng, .inl (G.2.1, 10, .inl zg))], [(nu, .inl (G.2.1, 10, .inl zu))], [(nf, .inl (G.2.1, 10, .inl zf))], [(nk, .inl (G.2.1, 10, .inl zk))], [(nt, .inl (G.2.1, 10, .inl (upd zt 6 ((zt 6) + 1))))]] := hD
      refine lv_goto (tgt := 449) hx hb dL_law_395 (by decide) ?_
      refine lv_aload_n hx hb dL_law_449 rfl (lv_at hl 4 rfl) ?_
      refine lv_iload hx hb dL_law_450 (lv_at hl 2 rfl) ?_
      refine kz_miV (As := [.int cw]) (rest := []) (b := x) (wr := [shW G sv kz_S0, shW G ah kz_S0, txW G t kz_T0, [(np, .inl (G.2.1, 64, .inl zp))], [(nq, .inl (G.2.1, 64, .inl zq))], [(nc, .inl (G.2.1, 64, .inl zc))], [(nl, .inl (G.2.1, 64, .inl zl))], [(nv, .inl (G.2.1, 64, .inl zv))], [(ng, .inl (G.2.1, 10, .inl zg))], [(nu, .inl (G.2.1, 10, .inl zu))], [(nf, .inl (G.2.1, 10, .inl zf))], [(nk, .inl (G.2.1, 10, .inl zk))], [(nt, .inl (G.2.1, 10, .inl (upd zt 6 ((zt 6) + 1))))]]) (bs' := [xoW x (a 0) (sv 0) (ah 0) (h 0) (t 0) (X3_fetch_s0 V S Y R cw), shW G a (X3_fetch_s1 V S Y R cw), shW G sv kz_S0, shW G ah kz_S0, hsW G h (fun j => b j 0) (X3_fetch_s2 V S Y R cw), shW G (b 0) ((X3_fetch_s3 V S Y R cw) 0), shW G (b 1) ((X3_fetch_s3 V S Y R cw) 1), shW G (b 2) ((X3_fetch_s3 V S Y R cw) 2), shW G (b 3) ((X3_fetch_s3 V S Y R cw) 3), shW G (b 4) ((X3_fetch_s3 V S Y R cw) 4), shW G (b 5) ((X3_fetch_s3 V S Y R cw) 5), txW G t kz_T0, [(np, .inl (G.2.1, 64, .inl zp))], [(nq, .inl (G.2.1, 64, .inl zq))], [(nc, .inl (G.2.1, 64, .inl zc))], [(nl, .inl (G.2.1, 64, .inl zl))], [(nv, .inl (G.2.1, 64, .inl zv))], [(ng, .inl (G.2.1, 10, .inl zg))], [(nu, .inl (G.2.1, 10, .inl zu))], [(nf, .inl (G.2.1, 10, .inl zf))], [(nk, .inl (G.2.1, 10, .inl zk))], [(nt, .inl (G.2.1, 10, .inl (upd zt 6 ((zt 6) + 1))))]]) ⟨hx, hb, hml, hown, hts⟩ (c_X3_fetch l G x (sv 0) (ah 0) (t 0) V a S h Y b R cw (by assumption) (by assumption) (by assumption)) (cwV 1 hts gL_law_X3_fetch rfl rfl rfl (by decide +kernel) ⟨Nat.le_of_ble_eq_true rfl, Nat.le_of_ble_eq_true rfl⟩) hK hP hD hS hA [0, 1, 4, 5, 6, 7, 8, 9, 10] [2, 3, 11, 12, 13, 14, 15, 16, 17, 18, 19, 20, 21] [13, 14, 0, 1, 15, 16, 17, 18, 19, 20, 21, 2, 3, 4, 5, 6, 7, 8, 9, 10, 11, 12] rfl (by decide) rfl (by decide) (by decide) rfl (by decide) (kz_recv hK hP (ci := 3) (q0 := 0) rfl rfl) rfl hl.1 rfl (Nat.le_of_ble_eq_true rfl) dL_law_452 ⟨Nat.le_of_ble_eq_true rfl, Nat.le_of_ble_eq_true rfl⟩ (fun H locs hP hD hS => ?_)
      obtain ⟨eans, I2⟩ := ps_opFetch2 hI R hcw c_3 c_4
      refine lv_iload hx hb dL_law_455 (lv_at hl 0 rfl) ?_
      refine lv_icmp_ne (tgt := 464) hx hb dL_law_457 (by decide) (fun c => absurd c (by exact fun z => z (eans))) (fun c_16 => ?_)
      refine lv_iconst (v := 1) hx hb dL_law_460 (by decide +kernel) ?_
      refine lv_goto (tgt := 465) hx hb dL_law_461 (by decide) ?_
      refine lv_istore (lv' := [(17, .int 1), (20, .int (-7)), (19, .int (L_by_r zp zc zt cw)), (18, .int cw), (0, .ref bb), (1, .ref x), (2, .ref np), (3, .ref nq), (4, .ref nc), (5, .ref nl), (6, .ref nv), (7, .ref ng), (8, .ref nu), (9, .ref nf), (10, .ref nk), (11, .ref nt), (12, .int why), (13, .int beh), (14, .int (nI i)), (15, .int hh)]) hx hb dL_law_465 hl (by decide) rfl (fun ls hl => ?_)
      refine lv_goto (tgt := 1172) hx hb dL_law_467 (by decide) ?_
      exact KK (X3_fetch_s0 V S Y R cw) (X3_fetch_s1 V S Y R cw) (X3_fetch_s2 V S Y R cw) (X3_fetch_s3 V S Y R cw) zp zq zc zl zv zg zu zf zk (upd zt 6 ((zt 6) + 1)) why beh I2 H locs ls hP hD hS (lv_sub hl [0, 4, 5, 6, 7, 8, 9, 10, 11, 12, 13, 14, 15, 16, 17, 18] rfl)
  · refine lv_bipush (v := (-3)) hx hb dL_law_367 (by decide +kernel) ?_
    refine lv_istore (lv' := [(20, .int (-3)), (19, .int (L_by_r zp zc zt cw)), (18, .int cw), (0, .ref bb), (1, .ref x), (2, .ref np), (3, .ref nq), (4, .ref nc), (5, .ref nl), (6, .ref nv), (7, .ref ng), (8, .ref nu), (9, .ref nf), (10, .ref nk), (11, .ref nt), (12, .int why), (13, .int beh), (14, .int (nI i)), (15, .int hh)]) hx hb dL_law_369 hl (by decide) rfl (fun ls hl => ?_)
    refine lv_iconst (v := 2) hx hb dL_law_371 (by decide +kernel) ?_
    refine lv_istore (lv' := [(12, .int 2), (20, .int (-3)), (19, .int (L_by_r zp zc zt cw)), (18, .int cw), (0, .ref bb), (1, .ref x), (2, .ref np), (3, .ref nq), (4, .ref nc), (5, .ref nl), (6, .ref nv), (7, .ref ng), (8, .ref nu), (9, .ref nf), (10, .ref nk), (11, .ref nt), (13, .int beh), (14, .int (nI i)), (15, .int hh)]) hx hb dL_law_372 hl (by decide) rfl (fun ls hl => ?_)
    refine lv_bipush (v := (-6)) hx hb dL_law_374 (by decide +kernel) ?_
    refine lv_istore (lv' := [(13, .int (-6)), (12, .int 2), (20, .int (-3)), (19, .int (L_by_r zp zc zt cw)), (18, .int cw), (0, .ref bb), (1, .ref x), (2, .ref np), (3, .ref nq), (4, .ref nc), (5, .ref nl), (6, .ref nv), (7, .ref ng), (8, .ref nu), (9, .ref nf), (10, .ref nk), (11, .ref nt), (14, .int (nI i)), (15, .int hh)]) hx hb dL_law_376 hl (by decide) rfl (fun ls hl => ?_)
    refine lv_goto (tgt := 449) hx hb dL_law_378 (by decide) ?_
    refine lv_aload_n hx hb dL_law_449 rfl (lv_at hl 6 rfl) ?_
    refine lv_iload hx hb dL_law_450 (lv_at hl 4 rfl) ?_
    refine kz_miV (As := [.int cw]) (rest := []) (b := x) (wr := [shW G sv kz_S0, shW G ah kz_S0, txW G t kz_T0, [(np, .inl (G.2.1, 64, .inl zp))], [(nq, .inl (G.2.1, 64, .inl zq))], [(nc, .inl (G.2.1, 64, .inl zc))], [(nl, .inl (G.2.1, 64, .inl zl))], [(nv, .inl (G.2.1, 64, .inl zv))], [(ng, .inl (G.2.1, 10, .inl zg))], [(nu, .inl (G.2.1, 10, .inl zu))], [(nf, .inl (G.2.1, 10, .inl zf))], [(nk, .inl (G.2.1, 10, .inl zk))], [(nt, .inl (G.2.1, 10, .inl zt))]]) (bs' := [xoW x (a 0) (sv 0) (ah 0) (h 0) (t 0) (X3_fetch_s0 V S Y R cw), shW G a (X3_fetch_s1 V S Y R cw), shW G sv kz_S0, shW G ah kz_S0, hsW G h (fun j => b j 0) (X3_fetch_s2 V S Y R cw), shW G (b 0) ((X3_fetch_s3 V S Y R cw) 0), shW G (b 1) ((X3_fetch_s3 V S Y R cw) 1), shW G (b 2) ((X3_fetch_s3 V S Y R cw) 2), shW G (b 3) ((X3_fetch_s3 V S Y R cw) 3), shW G (b 4) ((X3_fetch_s3 V S Y R cw) 4), shW G (b 5) ((X3_fetch_s3 V S Y R cw) 5), txW G t kz_T0, [(np, .inl (G.2.1, 64, .inl zp))], [(nq, .inl (G.2.1, 64, .inl zq))], [(nc, .inl (G.2.1, 64, .inl zc))], [(nl, .inl (G.2.1, 64, .inl zl))], [(nv, .inl (G.2.1, 64, .inl zv))], [(ng, .inl (G.2.1, 10, .inl zg))], [(nu, .inl (G.2.1, 10, .inl zu))], [(nf, .inl (G.2.1, 10, .inl zf))], [(nk, .inl (G.2.1, 10, .inl zk))], [(nt, .inl (G.2.1, 10, .inl zt))]]) ⟨hx, hb, hml, hown, hts⟩ (c_X3_fetch l G x (sv 0) (ah 0) (t 0) V a S h Y b R cw (by assumption) (by assumption) (by assumption)) (cwV 1 hts gL_law_X3_fetch rfl rfl rfl (by decide +kernel) ⟨Nat.le_of_ble_eq_true rfl, Nat.le_of_ble_eq_true rfl⟩) hK hP hD hS hA [0, 1, 4, 5, 6, 7, 8, 9, 10] [2, 3, 11, 12, 13, 14, 15, 16, 17, 18, 19, 20, 21] [13, 14, 0, 1, 15, 16, 17, 18, 19, 20, 21, 2, 3, 4, 5, 6, 7, 8, 9, 10, 11, 12] rfl (by decide) rfl (by decide) (by decide) rfl (by decide) (kz_recv hK hP (ci := 3) (q0 := 0) rfl rfl) rfl hl.1 rfl (Nat.le_of_ble_eq_true rfl) dL_law_452 ⟨Nat.le_of_ble_eq_true rfl, Nat.le_of_ble_eq_true rfl⟩ (fun H locs hP hD hS => ?_)
    obtain ⟨eans, I2⟩ := ps_opFetch1 hI R hcw c_3
    refine lv_iload hx hb dL_law_455 (lv_at hl 2 rfl) ?_
    refine lv_icmp_ne (tgt := 464) hx hb dL_law_457 (by decide) (fun c => absurd c (by exact fun z => z (eans))) (fun c_17 => ?_)
    refine lv_iconst (v := 1) hx hb dL_law_460 (by decide +kernel) ?_
    refine lv_goto (tgt := 465) hx hb dL_law_461 (by decide) ?_
    refine lv_istore (lv' := [(17, .int 1), (13, .int (-6)), (12, .int 2), (20, .int (-3)), (19, .int (L_by_r zp zc zt cw)), (18, .int cw), (0, .ref bb), (1, .ref x), (2, .ref np), (3, .ref nq), (4, .ref nc), (5, .ref nl), (6, .ref nv), (7, .ref ng), (8, .ref nu), (9, .ref nf), (10, .ref nk), (11, .ref nt), (14, .int (nI i)), (15, .int hh)]) hx hb dL_law_465 hl (by decide) rfl (fun ls hl => ?_)
    refine lv_goto (tgt := 1172) hx hb dL_law_467 (by decide) ?_
    exact KK (X3_fetch_s0 V S Y R cw) (X3_fetch_s1 V S Y R cw) (X3_fetch_s2 V S Y R cw) (X3_fetch_s3 V S Y R cw) zp zq zc zl zv zg zu zf zk zt 2 (-6) I2 H locs ls hP hD hS (lv_sub hl [0, 6, 7, 8, 9, 10, 11, 12, 13, 14, 15, 16, 17, 2, 1, 18] rfl)
end KL
