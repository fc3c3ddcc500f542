section KL
variable {p : Program} {l : Launch} {e : Env} {s : State} {m : MethodId} {below : List Frame} {meth : Method} {c : Code} {bb L i : Nat} {xs : Nat → Int32} {G : kz_G} {x : Nat} {a sv ah h t : Nat → Nat} {b : Nat → Nat → Nat} {np nq nc nl nv ng nu nf nk nt : Nat} {V S Y : kz_S} {R : Nat → kz_S} {zp zq zc zl zv zg zu zf zk zt : Nat → Int32} {why beh : Int32} {D nP mL : Nat} {hh : Int32}
set_option maxHeartbeats 4000000 in
set_option maxRecDepth 100000 in
theorem kl_c_refuse (C0 : kl_C p s m c bb L xs G) (hI : ps_C i D nP mL V S Y zp zq zc zl zv zg zu zf zk zt why beh) (KK : kl_K p l e s m below meth c bb G x a sv ah h b t np nq nc nl nv ng nu nf nk nt i) : kl_at p l e s m below meth c bb G x a sv ah h b t np nq nc nl nv ng nu nf nk nt 477 [(0, .ref bb), (1, .ref x), (2, .ref np), (3, .ref nq), (4, .ref nc), (5, .ref nl), (6, .ref nv), (7, .ref ng), (8, .ref nu), (9, .ref nf), (10, .ref nk), (11, .ref nt), (12, .int why), (13, .int beh), (14, .int (nI i)), (15, .int hh)] V S Y R zp zq zc zl zv zg zu zf zk zt := by
  obtain ⟨hx, hb, hml, hown, hts, ⟨hX, hL⟩, hbl, hK, hZ0⟩ := C0
  have hA : ∀ q : Nat, s.heap.size ≤ q → kl_A s q := fun _ h => h
  have hbA : ¬ kl_A s bb := Nat.not_le.mpr hbl
  intro H locs ls hP hD hS hl
  have hR := hI.1
  have hin := hI.2.1
  have hNi := ps_hN hI
  have hDi := ps_hD hI
  have hnP := ps_n hR
  have hmL := ps_m hR
  have e5 := hR.2.2.2.2.1.1
  have e7 := hR.2.2.2.2.2.2.1.1
  have e8 := hR.2.2.2.2.2.2.2.1
  have h7 := ps_h7 hR hNi
  have h8 := ps_h8 hR hNi
  have h5 := ps_h5 hR (by omega)
  have ht := ps_t hR (by omega)
  have hJ := ps_J hR
  have hO := hI.2.2.2.1
  have hC := hI.2.2.2.2
  refine lv_aload hx hb dL_law_477 (lv_at hl 4 rfl) ?_
  refine lv_aload hx hb dL_law_479 (lv_at hl 11 rfl) ?_
  refine lv_iload hx hb dL_law_481 (lv_at hl 15 rfl) ?_
  refine lv_iconst (v := 5) hx hb dL_law_483 (by decide +kernel) ?_
  refine lv_ishr hx hb dL_law_484 ?_
  refine kz_rdS (As := [.ref nc, .ref nt, .int (hh >>> 5)]) (rest := []) ⟨hx, hb, hml, hown, hts⟩ (c_L_other l G nc zc nt zt (hh >>> 5) (by assumption)) (va_cwS 3 hts gL_law_L_other rfl rfl rfl (by decide +kernel) ⟨Nat.le_of_ble_eq_true rfl, Nat.le_of_ble_eq_true rfl⟩) hK (hP.sub (cs := [[(nc, .inl (G.2.1, 64, .inl zc))], [(nt, .inl (G.2.1, 10, .inl zt))]]) [14, 21] rfl) rfl hl.1 rfl (Nat.le_of_ble_eq_true rfl) dL_law_485 ⟨Nat.le_of_ble_eq_true rfl, Nat.le_of_ble_eq_true rfl⟩ ?_
  refine lv_topi (fun cw ecw => ?_)
  have hcw : ∃ c, c < 10000 ∧ cw = nI c := by rw [ecw]; exact ps_oth hI _
  clear ecw
  refine lv_istore (lv' := [(18, .int cw), (0, .ref bb), (1, .ref x), (2, .ref np), (3, .ref nq), (4, .ref nc), (5, .ref nl), (6, .ref nv), (7, .ref ng), (8, .ref nu), (9, .ref nf), (10, .ref nk), (11, .ref nt), (12, .int why), (13, .int beh), (14, .int (nI i)), (15, .int hh)]) hx hb dL_law_488 hl (by decide) rfl (fun ls hl => ?_)
  refine lv_aload_n hx hb dL_law_490 rfl (lv_at hl 3 rfl) ?_
  refine lv_aload hx hb dL_law_491 (lv_at hl 5 rfl) ?_
  refine lv_aload hx hb dL_law_493 (lv_at hl 12 rfl) ?_
  refine lv_iload hx hb dL_law_495 (lv_at hl 0 rfl) ?_
  refine kz_rdS (As := [.ref np, .ref nc, .ref nt, .int cw]) (rest := []) ⟨hx, hb, hml, hown, hts⟩ (c_L_by l G np zp nc zc nt zt cw (by assumption)) (va_cwS 4 hts gL_law_L_by rfl rfl rfl (by decide +kernel) ⟨Nat.le_of_ble_eq_true rfl, Nat.le_of_ble_eq_true rfl⟩) hK (hP.sub (cs := [[(np, .inl (G.2.1, 64, .inl zp))], [(nc, .inl (G.2.1, 64, .inl zc))], [(nt, .inl (G.2.1, 10, .inl zt))]]) [12, 14, 21] rfl) rfl hl.1 rfl (Nat.le_of_ble_eq_true rfl) dL_law_497 ⟨Nat.le_of_ble_eq_true rfl, Nat.le_of_ble_eq_true rfl⟩ ?_
  refine lv_istore (lv' := [(19, .int (L_by_r zp zc zt cw)), (18, .int cw), (0, .ref bb), (1, .ref x), (2, .ref np), (3, .ref nq), (4, .ref nc), (5, .ref nl), (6, .ref nv), (7, .ref ng), (8, .ref nu), (9, .ref nf), (10, .ref nk), (11, .ref nt), (12, .int why), (13, .int beh), (14, .int (nI i)), (15, .int hh)]) hx hb dL_law_500 hl (by decide) rfl (fun ls hl => ?_)
  refine lv_iconst (v := (-1)) hx hb dL_law_502 (by decide +kernel) ?_
  refine lv_istore (lv' := [(20, .int (-1)), (19, .int (L_by_r zp zc zt cw)), (18, .int cw), (0, .ref bb), (1, .ref x), (2, .ref np), (3, .ref nq), (4, .ref nc), (5, .ref nl), (6, .ref nv), (7, .ref ng), (8, .ref nu), (9, .ref nf), (10, .ref nk), (11, .ref nt), (12, .int why), (13, .int beh), (14, .int (nI i)), (15, .int hh)]) hx hb dL_law_503 hl (by decide) rfl (fun ls hl => ?_)
  refine lv_iload hx hb dL_law_505 (lv_at hl 1 rfl) ?_
  refine lv_if_ge (tgt := 542) hx hb dL_law_507 (by decide) (fun c_1 => ?_) (fun c_1 => ?_)
  · obtain ⟨k, j, sd, hk, hj, ek, eb, epw, hsd, es⟩ := ps_byJ hI c_1
    have hl : lv_has ls 23 [(20, .int (-1)), (19, .int (nI k)), (18, .int cw), (0, .ref bb), (1, .ref x), (2, .ref np), (3, .ref nq), (4, .ref nc), (5, .ref nl), (6, .ref nv), (7, .ref ng), (8, .ref nu), (9, .ref nf), (10, .ref nk), (11, .ref nt), (12, .int why), (13, .int beh), (14, .int (nI i)), (15, .int hh)] := by rw [← eb]; exact hl
    refine lv_aload hx hb dL_law_542 (lv_at hl 10 rfl) ?_
    refine lv_aload_n hx hb dL_law_544 rfl (lv_at hl 6 rfl) ?_
    refine lv_iload hx hb dL_law_545 (lv_at hl 1 rfl) ?_
    refine kz_rdS (As := [.ref nq, .int (nI k)]) (rest := [.ref ng]) ⟨hx, hb, hml, hown, hts⟩ (c_L_sender l G nq zq k (by omega)) (va_cwS 2 hts gL_law_L_sender rfl rfl rfl (by decide +kernel) ⟨Nat.le_of_ble_eq_true rfl, Nat.le_of_ble_eq_true rfl⟩) hK (hP.sub (cs := [[(nq, .inl (G.2.1, 64, .inl zq))]]) [13] rfl) rfl hl.1 rfl (Nat.le_of_ble_eq_true rfl) dL_law_547 ⟨Nat.le_of_ble_eq_true rfl, Nat.le_of_ble_eq_true rfl⟩ ?_
    refine lv_topi (fun y_2 ey_3 => ?_)
    obtain rfl : y_2 = (nI sd) := by rw [ey_3]; exact es
    refine va_iald (f := zg) hx hb hK.1 hP 109 0 rfl rfl (vp_in_nI (n := sd) (N := 10) (by omega) (by decide)) dL_law_550 ?_
    refine lv_topi (fun y_4 ey_5 => ?_)
    obtain rfl : y_4 = (zg sd) := by rw [ey_5, kz_nI_clamp (n := sd) (by omega)]
    refine lv_bipush (v := 9) hx hb dL_law_551 (by decide +kernel) ?_
    refine lv_icmp_ne (tgt := 570) hx hb dL_law_553 (by decide) (fun c_6 => ?_) (fun c_6 => ?_)
    · refine lv_aload hx hb dL_law_570 (lv_at hl 10 rfl) ?_
      refine lv_aload_n hx hb dL_law_572 rfl (lv_at hl 6 rfl) ?_
      refine lv_iload hx hb dL_law_573 (lv_at hl 1 rfl) ?_
      refine kz_rdS (As := [.ref nq, .int (nI k)]) (rest := [.ref ng]) ⟨hx, hb, hml, hown, hts⟩ (c_L_sender l G nq zq k (by omega)) (va_cwS 2 hts gL_law_L_sender rfl rfl rfl (by decide +kernel) ⟨Nat.le_of_ble_eq_true rfl, Nat.le_of_ble_eq_true rfl⟩) hK (hP.sub (cs := [[(nq, .inl (G.2.1, 64, .inl zq))]]) [13] rfl) rfl hl.1 rfl (Nat.le_of_ble_eq_true rfl) dL_law_575 ⟨Nat.le_of_ble_eq_true rfl, Nat.le_of_ble_eq_true rfl⟩ ?_
      refine lv_topi (fun y_7 ey_8 => ?_)
      obtain rfl : y_7 = (nI sd) := by rw [ey_8]; exact es
      refine lv_dup2_11 hx hb dL_law_578 rfl rfl ?_
      refine va_iald (f := zg) hx hb hK.1 hP 109 0 rfl rfl (vp_in_nI (n := sd) (N := 10) (by omega) (by decide)) dL_law_579 ?_
      refine lv_topi (fun y_9 ey_10 => ?_)
      obtain rfl : y_9 = (zg sd) := by rw [ey_10, kz_nI_clamp (n := sd) (by omega)]
      refine lv_iconst (v := 1) hx hb dL_law_580 (by decide +kernel) ?_
      refine lv_iadd hx hb dL_law_581 ?_
      refine va_iast hx hb hK.1 hP hD hS 109 0 rfl rfl (vp_in_nI (n := sd) (N := 10) (by omega) (by decide)) dL_law_582 (fun H locs hP hD hS => ?_)
      rw [kz_nI_clamp (n := sd) (by omega)] at hP hD
      have hP : kz_P G [xoW x (a 0) (sv 0) (ah 0) (h 0) (t 0) V, shW G a S, shW G sv kz_S0, shW G ah kz_S0, hsW G h (fun j => b j 0) Y, shW G (b 0) (R 0), shW G (b 1) (R 1), shW G (b 2) (R 2), shW G (b 3) (R 3), shW G (b 4) (R 4), shW G (b 5) (R 5), txW G t kz_T0, [(np, .inl (G.2.1, 64, .inl zp))], [(nq, .inl (G.2.1, 64, .inl zq))], [(nc, .inl (G.2.1, 64, .inl zc))], [(nl, .inl (G.2.1, 64, .inl zl))], [(nv, .inl (G.2.1, 64, .inl zv))], [(ng, .inl (G.2.1, 10, .inl (upd zg sd ((zg sd) + 1))))], [(nu, .inl (G.2.1, 10, .inl zu))], [(nf, .inl (G.2.1, 10, .inl zf))], [(nk, .inl (G.2.1, 10, .inl zk))], [(nt, .inl (G.2.1, 10, .inl zt))]] H := hP
      have hD : kz_D (kl_A s) [xoW x (a 0) (sv 0) (ah 0) (h 0) (t 0) V, shW G a S, shW G sv kz_S0, shW G ah kz_S0, hsW G h (fun j => b j 0) Y, shW G (b 0) (R 0), shW G (b 1) (R 1), shW G (b 2) (R 2), shW G (b 3) (R 3), shW G (b 4) (R 4), shW G (b 5) (R 5), txW G t kz_T0, [(np, .inl (G.2.1, 64, .inl zp))], [(nq, .inl (G.2.1, 64, .inl zq))], [(nc, .inl (G.2.1, 64, .inl zc))], [(nl, .inl (G.2.1, 64, .inl zl))], [(nv, .inl (G.2.1, 64, .inl zv))], [(ng, .inl (G.2.1, 10, .inl (upd zg sd ((zg sd) + 1))))], [(nu, .inl (G.2.1, 10, .inl zu))], [(nf, .inl (G.2.1, 10, .inl zf))], [(nk, .inl (G.2.1, 10, .inl zk))], [(nt, .inl (G.2.1, 10, .inl zt))]] := hD
      refine lv_aload hx hb dL_law_583 (lv_at hl 10 rfl) ?_
      refine lv_aload_n hx hb dL_law_585 rfl (lv_at hl 6 rfl) ?_
      refine lv_iload hx hb dL_law_586 (lv_at hl 1 rfl) ?_
      refine kz_rdS (As := [.ref nq, .int (nI k)]) (rest := [.ref ng]) ⟨hx, hb, hml, hown, hts⟩ (c_L_sender l G nq zq k (by omega)) (va_cwS 2 hts gL_law_L_sender rfl rfl rfl (by decide +kernel) ⟨Nat.le_of_ble_eq_true rfl, Nat.le_of_ble_eq_true rfl⟩) hK (hP.sub (cs := [[(nq, .inl (G.2.1, 64, .inl zq))]]) [13] rfl) rfl hl.1 rfl (Nat.le_of_ble_eq_true rfl) dL_law_588 ⟨Nat.le_of_ble_eq_true rfl, Nat.le_of_ble_eq_true rfl⟩ ?_
      refine lv_topi (fun y_11 ey_12 => ?_)
      obtain rfl : y_11 = (nI sd) := by rw [ey_12]; exact es
      refine va_iald (f := (upd zg sd ((zg sd) + 1))) hx hb hK.1 hP 109 0 rfl rfl (vp_in_nI (n := sd) (N := 10) (by omega) (by decide)) dL_law_591 ?_
      refine lv_topi (fun y_13 ey_14 => ?_)
      obtain rfl : y_13 = ((zg sd) + 1) := by rw [ey_14, kz_nI_clamp (n := sd) (by omega)]; exact pk_us
      refine lv_istore (lv' := [(20, .int ((zg sd) + 1)), (19, .int (nI k)), (18, .int cw), (0, .ref bb), (1, .ref x), (2, .ref np), (3, .ref nq), (4, .ref nc), (5, .ref nl), (6, .ref nv), (7, .ref ng), (8, .ref nu), (9, .ref nf), (10, .ref nk), (11, .ref nt), (12, .int why), (13, .int beh), (14, .int (nI i)), (15, .int hh)]) hx hb dL_law_592 hl (by decide) rfl (fun ls hl => ?_)
      refine lv_aload_n hx hb dL_law_594 rfl (lv_at hl 5 rfl) ?_
      refine lv_aload hx hb dL_law_595 (lv_at hl 7 rfl) ?_
      refine lv_aload hx hb dL_law_597 (lv_at hl 8 rfl) ?_
      refine lv_aload hx hb dL_law_599 (lv_at hl 9 rfl) ?_
      refine lv_aload hx hb dL_law_601 (lv_at hl 14 rfl) ?_
      refine lv_iload hx hb dL_law_603 (lv_at hl 1 rfl) ?_
      refine kz_mvS (As := [.ref np, .ref nc, .ref nl, .ref nv, .ref nt, .int (nI k)]) (rest := []) (wr := [xoW x (a 0) (sv 0) (ah 0) (h 0) (t 0) V, shW G a S, shW G sv kz_S0, shW G ah kz_S0, hsW G h (fun j => b j 0) Y, shW G (b 0) (R 0), shW G (b 1) (R 1), shW G (b 2) (R 2), shW G (b 3) (R 3), shW G (b 4) (R 4), shW G (b 5) (R 5), txW G t kz_T0, [(nq, .inl (G.2.1, 64, .inl zq))], [(ng, .inl (G.2.1, 10, .inl (upd zg sd ((zg sd) + 1))))], [(nu, .inl (G.2.1, 10, .inl zu))], [(nf, .inl (G.2.1, 10, .inl zf))], [(nk, .inl (G.2.1, 10, .inl zk))]]) (bs' := [xoW x (a 0) (sv 0) (ah 0) (h 0) (t 0) V, shW G a S, shW G sv kz_S0, shW G ah kz_S0, hsW G h (fun j => b j 0) Y, shW G (b 0) (R 0), shW G (b 1) (R 1), shW G (b 2) (R 2), shW G (b 3) (R 3), shW G (b 4) (R 4), shW G (b 5) (R 5), txW G t kz_T0, [(np, .inl (G.2.1, 64, .inl (L_leaves_s0 zp zc zl zv zt k)))], [(nq, .inl (G.2.1, 64, .inl zq))], [(nc, .inl (G.2.1, 64, .inl zc))], [(nl, .inl (G.2.1, 64, .inl (L_leaves_s2 zp zc zl zv zt k)))], [(nv, .inl (G.2.1, 64, .inl (L_leaves_s3 zp zc zl zv zt k)))], [(ng, .inl (G.2.1, 10, .inl (upd zg sd ((zg sd) + 1))))], [(nu, .inl (G.2.1, 10, .inl zu))], [(nf, .inl (G.2.1, 10, .inl zf))], [(nk, .inl (G.2.1, 10, .inl zk))], [(nt, .inl (G.2.1, 10, .inl (L_leaves_s4 zp zc zl zv zt k)))]]) ⟨hx, hb, hml, hown, hts⟩ (c_L_leaves l G np zp nc zc nl zl nv zv nt zt k (by omega) ⟨mL, by omega, e8⟩) (va_cwS 6 hts gL_law_L_leaves rfl rfl rfl (by decide +kernel) ⟨Nat.le_of_ble_eq_true rfl, Nat.le_of_ble_eq_true rfl⟩) hK hP hD hS hA [12, 14, 15, 16, 21] [0, 1, 2, 3, 4, 5, 6, 7, 8, 9, 10, 11, 13, 17, 18, 19, 20] [0, 1, 2, 3, 4, 5, 6, 7, 8, 9, 10, 11, 17, 12, 18, 19, 20, 13, 14, 15, 16, 21] rfl (by decide) rfl (by decide) (by decide) rfl (by decide) rfl hl.1 rfl (Nat.le_of_ble_eq_true rfl) dL_law_605 ⟨Nat.le_of_ble_eq_true rfl, Nat.le_of_ble_eq_true rfl⟩ (fun H locs hP hD hS => ?_)
      refine lv_aload_n hx hb dL_law_608 rfl (lv_at hl 4 rfl) ?_
      refine lv_iload hx hb dL_law_609 (lv_at hl 2 rfl) ?_
      refine kz_miV (As := [.int cw]) (rest := []) (b := x) (wr := [shW G sv kz_S0, shW G ah kz_S0, txW G t kz_T0, [(np, .inl (G.2.1, 64, .inl (L_leaves_s0 zp zc zl zv zt k)))], [(nq, .inl (G.2.1, 64, .inl zq))], [(nc, .inl (G.2.1, 64, .inl zc))], [(nl, .inl (G.2.1, 64, .inl (L_leaves_s2 zp zc zl zv zt k)))], [(nv, .inl (G.2.1, 64, .inl (L_leaves_s3 zp zc zl zv zt k)))], [(ng, .inl (G.2.1, 10, .inl (upd zg sd ((zg sd) + 1))))], [(nu, .inl (G.2.1, 10, .inl zu))], [(nf, .inl (G.2.1, 10, .inl zf))], [(nk, .inl (G.2.1, 10, .inl zk))], [(nt, .inl (G.2.1, 10, .inl (L_leaves_s4 zp zc zl zv zt k)))]]) (bs' := [xoW x (a 0) (sv 0) (ah 0) (h 0) (t 0) (X3_refuse_s0 V S Y R cw), shW G a (X3_refuse_s1 V S Y R cw), shW G sv kz_S0, shW G ah kz_S0, hsW G h (fun j => b j 0) (X3_refuse_s2 V S Y R cw), shW G (b 0) ((X3_refuse_s3 V S Y R cw) 0), shW G (b 1) ((X3_refuse_s3 V S Y R cw) 1), shW G (b 2) ((X3_refuse_s3 V S Y R cw) 2), shW G (b 3) ((X3_refuse_s3 V S Y R cw) 3), shW G (b 4) ((X3_refuse_s3 V S Y R cw) 4), shW G (b 5) ((X3_refuse_s3 V S Y R cw) 5), txW G t kz_T0, [(np, .inl (G.2.1, 64, .inl (L_leaves_s0 zp zc zl zv zt k)))], [(nq, .inl (G.2.1, 64, .inl zq))], [(nc, .inl (G.2.1, 64, .inl zc))], [(nl, .inl (G.2.1, 64, .inl (L_leaves_s2 zp zc zl zv zt k)))], [(nv, .inl (G.2.1, 64, .inl (L_leaves_s3 zp zc zl zv zt k)))], [(ng, .inl (G.2.1, 10, .inl (upd zg sd ((zg sd) + 1))))], [(nu, .inl (G.2.1, 10, .inl zu))], [(nf, .inl (G.2.1, 10, .inl zf))], [(nk, .inl (G.2.1, 10, .inl zk))], [(nt, .inl (G.2.1, 10, .inl (L_leaves_s4 zp zc zl zv zt k)))]]) ⟨hx, hb, hml, hown, hts⟩ (c_X3_refuse l G x (sv 0) (ah 0) (t 0) V a S h Y b R cw (by assumption) (by assumption) (by assumption)) (cwV 1 hts gL_law_X3_refuse rfl rfl rfl (by decide +kernel) ⟨Nat.le_of_ble_eq_true rfl, Nat.le_of_ble_eq_true rfl⟩) hK hP hD hS hA [0, 1, 4, 5, 6, 7, 8, 9, 10] [2, 3, 11, 12, 13, 14, 15, 16, 17, 18, 19, 20, 21] [13, 14, 0, 1, 15, 16, 17, 18, 19, 20, 21, 2, 3, 4, 5, 6, 7, 8, 9, 10, 11, 12] rfl (by decide) rfl (by decide) (by decide) rfl (by decide) (kz_recv hK hP (ci := 3) (q0 := 0) rfl rfl) rfl hl.1 rfl (Nat.le_of_ble_eq_true rfl) dL_law_611 ⟨Nat.le_of_ble_eq_true rfl, Nat.le_of_ble_eq_true rfl⟩ (fun H locs hP hD hS => ?_)
      obtain ⟨eans, I2⟩ := ps_opRefuse3 hI R hk hj ek epw hsd es c_6
      refine lv_iload hx hb dL_law_614 (lv_at hl 0 rfl) ?_
      refine lv_icmp_ne (tgt := 623) hx hb dL_law_616 (by decide) (fun c => absurd c (by exact fun z => z (eans))) (fun c_15 => ?_)
      refine lv_iconst (v := 1) hx hb dL_law_619 (by decide +kernel) ?_
      refine lv_goto (tgt := 624) hx hb dL_law_620 (by decide) ?_
      refine lv_istore (lv' := [(17, .int 1), (20, .int ((zg sd) + 1)), (19, .int (nI k)), (18, .int cw), (0, .ref bb), (1, .ref x), (2, .ref np), (3, .ref nq), (4, .ref nc), (5, .ref nl), (6, .ref nv), (7, .ref ng), (8, .ref nu), (9, .ref nf), (10, .ref nk), (11, .ref nt), (12, .int why), (13, .int beh), (14, .int (nI i)), (15, .int hh)]) hx hb dL_law_624 hl (by decide) rfl (fun ls hl => ?_)
      refine lv_goto (tgt := 1172) hx hb dL_law_626 (by decide) ?_
      exact KK (X3_refuse_s0 V S Y R cw) (X3_refuse_s1 V S Y R cw) (X3_refuse_s2 V S Y R cw) (X3_refuse_s3 V S Y R cw) (L_leaves_s0 zp zc zl zv zt k) zq zc (L_leaves_s2 zp zc zl zv zt k) (L_leaves_s3 zp zc zl zv zt k) (upd zg sd ((zg sd) + 1)) zu zf zk (L_leaves_s4 zp zc zl zv zt k) why beh I2 H locs ls hP hD hS (lv_sub hl [0, 4, 5, 6, 7, 8, 9, 10, 11, 12, 13, 14, 15, 16, 17, 18] rfl)
    · refine lv_bipush (v := (-3)) hx hb dL_law_556 (by decide +kernel) ?_
      refine lv_istore (lv' := [(20, .int (-3)), (19, .int (nI k)), (18, .int cw), (0, .ref bb), (1, .ref x), (2, .ref np), (3, .ref nq), (4, .ref nc), (5, .ref nl), (6, .ref nv), (7, .ref ng), (8, .ref nu), (9, .ref nf), (10, .ref nk), (11, .ref nt), (12, .int why), (13, .int beh), (14, .int (nI i)), (15, .int hh)]) hx hb dL_law_558 hl (by decide) rfl (fun ls hl => ?_)
      refine lv_iconst (v := 3) hx hb dL_law_560 (by decide +kernel) ?_
      refine lv_istore (lv' := [(12, .int 3), (20, .int (-3)), (19, .int (nI k)), (18, .int cw), (0, .ref bb), (1, .ref x), (2, .ref np), (3, .ref nq), (4, .ref nc), (5, .ref nl), (6, .ref nv), (7, .ref ng), (8, .ref nu), (9, .ref nf), (10, .ref nk), (11, .ref nt), (13, .int beh), (14, .int (nI i)), (15, .int hh)]) hx hb dL_law_561 hl (by decide) rfl (fun ls hl => ?_)
      refine lv_bipush (v := (-6)) hx hb dL_law_563 (by decide +kernel) ?_
      refine lv_istore (lv' := [(13, .int (-6)), (12, .int 3), (20, .int (-3)), (19, .int (nI k)), (18, .int cw), (0, .ref bb), (1, .ref x), (2, .ref np), (3, .ref nq), (4, .ref nc), (5, .ref nl), (6, .ref nv), (7, .ref ng), (8, .ref nu), (9, .ref nf), (10, .ref nk), (11, .ref nt), (14, .int (nI i)), (15, .int hh)]) hx hb dL_law_565 hl (by decide) rfl (fun ls hl => ?_)
      refine lv_goto (tgt := 608) hx hb dL_law_567 (by decide) ?_
      refine lv_aload_n hx hb dL_law_608 rfl (lv_at hl 6 rfl) ?_
      refine lv_iload hx hb dL_law_609 (lv_at hl 4 rfl) ?_
      refine kz_miV (As := [.int cw]) (rest := []) (b := x) (wr := [shW G sv kz_S0, shW G ah kz_S0, txW G t kz_T0, [(np, .inl (G.2.1, 64, .inl zp))], [(nq, .inl (G.2.1, 64, .inl zq))], [(nc, .inl (G.2.1, 64, .inl zc))], [(nl, .inl (G.2.1, 64, .inl zl))], [(nv, .inl (G.2.1, 64, .inl zv))], [(ng, .inl (G.2.1, 10, .inl zg))], [(nu, .inl (G.2.1, 10, .inl zu))], [(nf, .inl (G.2.1, 10, .inl zf))], [(nk, .inl (G.2.1, 10, .inl zk))], [(nt, .inl (G.2.1, 10, .inl zt))]]) (bs' := [xoW x (a 0) (sv 0) (ah 0) (h 0) (t 0) (X3_refuse_s0 V S Y R cw), shW G a (X3_refuse_s1 V S Y R cw), shW G sv kz_S0, shW G ah kz_S0, hsW G h (fun j => b j 0) (X3_refuse_s2 V S Y R cw), shW G (b 0) ((X3_refuse_s3 V S Y R cw) 0), shW G (b 1) ((X3_refuse_s3 V S Y R cw) 1), shW G (b 2) ((X3_refuse_s3 V S Y R cw) 2), shW G (b 3) ((X3_refuse_s3 V S Y R cw) 3), shW G (b 4) ((X3_refuse_s3 V S Y R cw) 4), shW G (b 5) ((X3_refuse_s3 V S Y R cw) 5), txW G t kz_T0, [(np, .inl (G.2.1, 64, .inl zp))], [(nq, .inl (G.2.1, 64, .inl zq))], [(nc, .inl (G.2.1, 64, .inl zc))], [(nl, .inl (G.2.1, 64, .inl zl))], [(nv, .inl (G.2.1, 64, .inl zv))], [(ng, .inl (G.2.1, 10, .inl zg))], [(nu, .inl (G.2.1, 10, .inl zu))], [(nf, .inl (G.2.1, 10, .inl zf))], [(nk, .inl (G.2.1, 10, .inl zk))], [(nt, .inl (G.2.1, 10, .inl zt))]]) ⟨hx, hb, hml, hown, hts⟩ (c_X3_refuse l G x (sv 0) (ah 0) (t 0) V a S h Y b R cw (by assumption) (by assumption) (by assumption)) (cwV 1 hts gL_law_X3_refuse rfl rfl rfl (by decide +kernel) ⟨Nat.le_of_ble_eq_true rfl, Nat.le_of_ble_eq_true rfl⟩) hK hP hD hS hA [0, 1, 4, 5, 6, 7, 8, 9, 10] [2, 3, 11, 12, 13, 14, 15, 16, 17, 18, 19, 20, 21] [13, 14, 0, 1, 15, 16, 17, 18, 19, 20, 21, 2, 3, 4, 5, 6, 7, 8, 9, 10, 11, 12] rfl (by decide) rfl (by decide) (by decide) rfl (by decide) (kz_recv hK hP (ci := 3) (q0 := 0) rfl rfl) rfl hl.1 rfl (Nat.le_of_ble_eq_true rfl) dL_law_611 ⟨Nat.le_of_ble_eq_true rfl, Nat.le_of_ble_eq_true rfl⟩ (fun H locs hP hD hS => ?_)
      obtain ⟨eans, I2⟩ := ps_opRefuse2 hI R hk hj ek epw hsd es c_6
      refine lv_iload hx hb dL_law_614 (lv_at hl 2 rfl) ?_
      refine lv_icmp_ne (tgt := 623) hx hb dL_law_616 (by decide) (fun c => absurd c (by exact fun z => z (eans))) (fun c_16 => ?_)
      refine lv_iconst (v := 1) hx hb dL_law_619 (by decide +kernel) ?_
      refine lv_goto (tgt := 624) hx hb dL_law_620 (by decide) ?_
      refine lv_istore (lv' := [(17, .int 1), (13, .int (-6)), (12, .int 3), (20, .int (-3)), (19, .int (nI k)), (18, .int cw), (0, .ref bb), (1, .ref x), (2, .ref np), (3, .ref nq), (4, .ref nc), (5, .ref nl), (6, .ref nv), (7, .ref ng), (8, .ref nu), (9, .ref nf), (10, .ref nk), (11, .ref nt), (14, .int (nI i)), (15, .int hh)]) hx hb dL_law_624 hl (by decide) rfl (fun ls hl => ?_)
      refine lv_goto (tgt := 1172) hx hb dL_law_626 (by decide) ?_
      exact KK (X3_refuse_s0 V S Y R cw) (X3_refuse_s1 V S Y R cw) (X3_refuse_s2 V S Y R cw) (X3_refuse_s3 V S Y R cw) zp zq zc zl zv zg zu zf zk zt 3 (-6) I2 H locs ls hP hD hS (lv_sub hl [0, 6, 7, 8, 9, 10, 11, 12, 13, 14, 15, 16, 17, 2, 1, 18] rfl)
  · refine lv_iconst (v := 4) hx hb dL_law_510 (by decide +kernel) ?_
    refine lv_istore (lv' := [(12, .int 4), (20, .int (-1)), (19, .int (L_by_r zp zc zt cw)), (18, .int cw), (0, .ref bb), (1, .ref x), (2, .ref np), (3, .ref nq), (4, .ref nc), (5, .ref nl), (6, .ref nv), (7, .ref ng), (8, .ref nu), (9, .ref nf), (10, .ref nk), (11, .ref nt), (13, .int beh), (14, .int (nI i)), (15, .int hh)]) hx hb dL_law_511 hl (by decide) rfl (fun ls hl => ?_)
    refine lv_aload hx hb dL_law_513 (lv_at hl 9 rfl) ?_
    refine lv_aload hx hb dL_law_515 (lv_at hl 10 rfl) ?_
    refine lv_aload hx hb dL_law_517 (lv_at hl 15 rfl) ?_
    refine lv_iload hx hb dL_law_519 (lv_at hl 3 rfl) ?_
    refine kz_rdS (As := [.ref nl, .ref nv, .ref nt, .int cw]) (rest := []) ⟨hx, hb, hml, hown, hts⟩ (c_L_until l G nl zl nv zv nt zt cw (by assumption)) (va_cwS 4 hts gL_law_L_until rfl rfl rfl (by decide +kernel) ⟨Nat.le_of_ble_eq_true rfl, Nat.le_of_ble_eq_true rfl⟩) hK (hP.sub (cs := [[(nl, .inl (G.2.1, 64, .inl zl))], [(nv, .inl (G.2.1, 64, .inl zv))], [(nt, .inl (G.2.1, 10, .inl zt))]]) [15, 16, 21] rfl) rfl hl.1 rfl (Nat.le_of_ble_eq_true rfl) dL_law_521 ⟨Nat.le_of_ble_eq_true rfl, Nat.le_of_ble_eq_true rfl⟩ ?_
    refine lv_aload hx hb dL_law_524 (lv_at hl 15 rfl) ?_
    refine lv_iconst (v := 5) hx hb dL_law_526 (by decide +kernel) ?_
    refine va_iald (f := zt) hx hb hK.1 hP 113 0 rfl rfl (vp_in_nI (n := 5) (N := 10) (by decide) (by decide)) dL_law_527 ?_
    refine lv_topi (fun y_17 ey_18 => ?_)
    obtain rfl : y_17 = (nI D) := by rw [ey_18]; exact (show (zt 5) = (nI D) from e5)
    refine lv_icmp_le (tgt := 535) hx hb dL_law_528 (by decide) (fun c_19 => ?_) (fun c_19 => ?_)
    · refine lv_bipush (v := (-6)) hx hb dL_law_535 (by decide +kernel) ?_
      refine lv_istore (lv' := [(13, .int (-6)), (12, .int 4), (20, .int (-1)), (19, .int (L_by_r zp zc zt cw)), (18, .int cw), (0, .ref bb), (1, .ref x), (2, .ref np), (3, .ref nq), (4, .ref nc), (5, .ref nl), (6, .ref nv), (7, .ref ng), (8, .ref nu), (9, .ref nf), (10, .ref nk), (11, .ref nt), (14, .int (nI i)), (15, .int hh)]) hx hb dL_law_537 hl (by decide) rfl (fun ls hl => ?_)
      refine lv_goto (tgt := 608) hx hb dL_law_539 (by decide) ?_
      refine lv_aload_n hx hb dL_law_608 rfl (lv_at hl 6 rfl) ?_
      refine lv_iload hx hb dL_law_609 (lv_at hl 4 rfl) ?_
      refine kz_miV (As := [.int cw]) (rest := []) (b := x) (wr := [shW G sv kz_S0, shW G ah kz_S0, txW G t kz_T0, [(np, .inl (G.2.1, 64, .inl zp))], [(nq, .inl (G.2.1, 64, .inl zq))], [(nc, .inl (G.2.1, 64, .inl zc))], [(nl, .inl (G.2.1, 64, .inl zl))], [(nv, .inl (G.2.1, 64, .inl zv))], [(ng, .inl (G.2.1, 10, .inl zg))], [(nu, .inl (G.2.1, 10, .inl zu))], [(nf, .inl (G.2.1, 10, .inl zf))], [(nk, .inl (G.2.1, 10, .inl zk))], [(nt, .inl (G.2.1, 10, .inl zt))]]) (bs' := [xoW x (a 0) (sv 0) (ah 0) (h 0) (t 0) (X3_refuse_s0 V S Y R cw), shW G a (X3_refuse_s1 V S Y R cw), shW G sv kz_S0, shW G ah kz_S0, hsW G h (fun j => b j 0) (X3_refuse_s2 V S Y R cw), shW G (b 0) ((X3_refuse_s3 V S Y R cw) 0), shW G (b 1) ((X3_refuse_s3 V S Y R cw) 1), shW G (b 2) ((X3_refuse_s3 V S Y R cw) 2), shW G (b 3) ((X3_refuse_s3 V S Y R cw) 3), shW G (b 4) ((X3_refuse_s3 V S Y R cw) 4), shW G (b 5) ((X3_refuse_s3 V S Y R cw) 5), txW G t kz_T0, [(np, .inl (G.2.1, 64, .inl zp))], [(nq, .inl (G.2.1, 64, .inl zq))], [(nc, .inl (G.2.1, 64, .inl zc))], [(nl, .inl (G.2.1, 64, .inl zl))], [(nv, .inl (G.2.1, 64, .inl zv))], [(ng, .inl (G.2.1, 10, .inl zg))], [(nu, .inl (G.2.1, 10, .inl zu))], [(nf, .inl (G.2.1, 10, .inl zf))], [(nk, .inl (G.2.1, 10, .inl zk))], [(nt, .inl (G.2.1, 10, .inl zt))]]) ⟨hx, hb, hml, hown, hts⟩ (c_X3_refuse l G x (sv 0) (ah 0) (t 0) V a S h Y b R cw (by assumption) (by assumption) (by assumption)) (cwV 1 hts gL_law_X3_refuse rfl rfl rfl (by decide +kernel) ⟨Nat.le_of_ble_eq_true rfl, Nat.le_of_ble_eq_true rfl⟩) hK hP hD hS hA [0, 1, 4, 5, 6, 7, 8, 9, 10] [2, 3, 11, 12, 13, 14, 15, 16, 17, 18, 19, 20, 21] [13, 14, 0, 1, 15, 16, 17, 18, 19, 20, 21, 2, 3, 4, 5, 6, 7, 8, 9, 10, 11, 12] rfl (by decide) rfl (by decide) (by decide) rfl (by decide) (kz_recv hK hP (ci := 3) (q0 := 0) rfl rfl) rfl hl.1 rfl (Nat.le_of_ble_eq_true rfl) dL_law_611 ⟨Nat.le_of_ble_eq_true rfl, Nat.le_of_ble_eq_true rfl⟩ (fun H locs hP hD hS => ?_)
      obtain ⟨eans, I1⟩ := ps_opRefuse1 hI R c_1
      have I2 := I1 (-6) (if_pos c_19).symm
      refine lv_iload hx hb dL_law_614 (lv_at hl 2 rfl) ?_
      refine lv_icmp_ne (tgt := 623) hx hb dL_law_616 (by decide) (fun c => absurd c (by exact fun z => z (eans))) (fun c_20 => ?_)
      refine lv_iconst (v := 1) hx hb dL_law_619 (by decide +kernel) ?_
      refine lv_goto (tgt := 624) hx hb dL_law_620 (by decide) ?_
      refine lv_istore (lv' := [(17, .int 1), (13, .int (-6)), (12, .int 4), (20, .int (-1)), (19, .int (L_by_r zp zc zt cw)), (18, .int cw), (0, .ref bb), (1, .ref x), (2, .ref np), (3, .ref nq), (4, .ref nc), (5, .ref nl), (6, .ref nv), (7, .ref ng), (8, .ref nu), (9, .ref nf), (10, .ref nk), (11, .ref nt), (14, .int (nI i)), (15, .int hh)]) hx hb dL_law_624 hl (by decide) rfl (fun ls hl => ?_)
      refine lv_goto (tgt := 1172) hx hb dL_law_626 (by decide) ?_
      exact KK (X3_refuse_s0 V S Y R cw) (X3_refuse_s1 V S Y R cw) (X3_refuse_s2 V S Y R cw) (X3_refuse_s3 V S Y R cw) zp zq zc zl zv zg zu zf zk zt 4 (-6) I2 H locs ls hP hD hS (lv_sub hl [0, 6, 7, 8, 9, 10, 11, 12, 13, 14, 15, 16, 17, 2, 1, 18] rfl)
    · refine lv_iconst (v := 5) hx hb dL_law_531 (by decide +kernel) ?_
      refine lv_goto (tgt := 537) hx hb dL_law_532 (by decide) ?_
      refine lv_istore (lv' := [(13, .int 5), (12, .int 4), (20, .int (-1)), (19, .int (L_by_r zp zc zt cw)), (18, .int cw), (0, .ref bb), (1, .ref x), (2, .ref np), (3, .ref nq), (4, .ref nc), (5, .ref nl), (6, .ref nv), (7, .ref ng), (8, .ref nu), (9, .ref nf), (10, .ref nk), (11, .ref nt), (14, .int (nI i)), (15, .int hh)]) hx hb dL_law_537 hl (by decide) rfl (fun ls hl => ?_)
      refine lv_goto (tgt := 608) hx hb dL_law_539 (by decide) ?_
      refine lv_aload_n hx hb dL_law_608 rfl (lv_at hl 6 rfl) ?_
      refine lv_iload hx hb dL_law_609 (lv_at hl 4 rfl) ?_
      refine kz_miV (As := [.int cw]) (rest := []) (b := x) (wr := [shW G sv kz_S0, shW G ah kz_S0, txW G t kz_T0, [(np, .inl (G.2.1, 64, .inl zp))], [(nq, .inl (G.2.1, 64, .inl zq))], [(nc, .inl (G.2.1, 64, .inl zc))], [(nl, .inl (G.2.1, 64, .inl zl))], [(nv, .inl (G.2.1, 64, .inl zv))], [(ng, .inl (G.2.1, 10, .inl zg))], [(nu, .inl (G.2.1, 10, .inl zu))], [(nf, .inl (G.2.1, 10, .inl zf))], [(nk, .inl (G.2.1, 10, .inl zk))], [(nt, .inl (G.2.1, 10, .inl zt))]]) (bs' := [xoW x (a 0) (sv 0) (ah 0) (h 0) (t 0) (X3_refuse_s0 V S Y R cw), shW G a (X3_refuse_s1 V S Y R cw), shW G sv kz_S0, shW G ah kz_S0, hsW G h (fun j => b j 0) (X3_refuse_s2 V S Y R cw), shW G (b 0) ((X3_refuse_s3 V S Y R cw) 0), shW G (b 1) ((X3_refuse_s3 V S Y R cw) 1), shW G (b 2) ((X3_refuse_s3 V S Y R cw) 2), shW G (b 3) ((X3_refuse_s3 V S Y R cw) 3), shW G (b 4) ((X3_refuse_s3 V S Y R cw) 4), shW G (b 5) ((X3_refuse_s3 V S Y R cw) 5), txW G t kz_T0, [(np, .inl (G.2.1, 64, .inl zp))], [(nq, .inl (G.2.1, 64, .inl zq))], [(nc, .inl (G.2.1, 64, .inl zc))], [(nl, .inl (G.2.1, 64, .inl zl))], [(nv, .inl (G.2.1, 64, .inl zv))], [(ng, .inl (G.2.1, 10, .inl zg))], [(nu, .inl (G.2.1, 10, .inl zu))], [(nf, .inl (G.2.1, 10, .inl zf))], [(nk, .inl (G.2.1, 10, .inl zk))], [(nt, .inl (G.2.1, 10, .inl zt))]]) ⟨hx, hb, hml, hown, hts⟩ (c_X3_refuse l G x (sv 0) (ah 0) (t 0) V a S h Y b R cw (by assumption) (by assumption) (by assumption)) (cwV 1 hts gL_law_X3_refuse rfl rfl rfl (by decide +kernel) ⟨Nat.le_of_ble_eq_true rfl, Nat.le_of_ble_eq_true rfl⟩) hK hP hD hS hA [0, 1, 4, 5, 6, 7, 8, 9, 10] [2, 3, 11, 12, 13, 14, 15, 16, 17, 18, 19, 20, 21] [13, 14, 0, 1, 15, 16, 17, 18, 19, 20, 21, 2, 3, 4, 5, 6, 7, 8, 9, 10, 11, 12] rfl (by decide) rfl (by decide) (by decide) rfl (by decide) (kz_recv hK hP (ci := 3) (q0 := 0) rfl rfl) rfl hl.1 rfl (Nat.le_of_ble_eq_true rfl) dL_law_611 ⟨Nat.le_of_ble_eq_true rfl, Nat.le_of_ble_eq_true rfl⟩ (fun H locs hP hD hS => ?_)
      obtain ⟨eans, I1⟩ := ps_opRefuse1 hI R c_1
      have I2 := I1 5 (if_neg c_19).symm
      refine lv_iload hx hb dL_law_614 (lv_at hl 2 rfl) ?_
      refine lv_icmp_ne (tgt := 623) hx hb dL_law_616 (by decide) (fun c => absurd c (by exact fun z => z (eans))) (fun c_21 => ?_)
      refine lv_iconst (v := 1) hx hb dL_law_619 (by decide +kernel) ?_
      refine lv_goto (tgt := 624) hx hb dL_law_620 (by decide) ?_
      refine lv_istore (lv' := [(17, .int 1), (13, .int 5), (12, .int 4), (20, .int (-1)), (19, .int (L_by_r zp zc zt cw)), (18, .int cw), (0, .ref bb), (1, .ref x), (2, .ref np), (3, .ref nq), (4, .ref nc), (5, .ref nl), (6, .ref nv), (7, .ref ng), (8, .ref nu), (9, .ref nf), (10, .ref nk), (11, .ref nt), (14, .int (nI i)), (15, .int hh)]) hx hb dL_law_624 hl (by decide) rfl (fun ls hl => ?_)
      refine lv_goto (tgt := 1172) hx hb dL_law_626 (by decide) ?_
      exact KK (X3_refuse_s0 V S Y R cw) (X3_refuse_s1 V S Y R cw) (X3_refuse_s2 V S Y R cw) (X3_refuse_s3 V S Y R cw) zp zq zc zl zv zg zu zf zk zt 4 5 I2 H locs ls hP hD hS (lv_sub hl [0, 6, 7, 8, 9, 10, 11, 12, 13, 14, 15, 16, 17, 2, 1, 18] rfl)
set_option maxHeartbeats 4000000 in
set_option maxRecDepth 100000 in
theorem kl_c_move (C0 : kl_C p s m c bb L xs G) (hI : ps_C i D nP mL V S Y zp zq zc zl zv zg zu zf zk zt why beh) (KK : kl_K p l e s m below meth c bb G x a sv ah h b t np nq nc nl nv ng nu nf nk nt i) : kl_at p l e s m below meth c bb G x a sv ah h b t np nq nc nl nv ng nu nf nk nt 636 [(0, .ref bb), (1, .ref x), (2, .ref np), (3, .ref nq), (4, .ref nc), (5, .ref nl), (6, .ref nv), (7, .ref ng), (8, .ref nu), (9, .ref nf), (10, .ref nk), (11, .ref nt), (12, .int why), (13, .int beh), (14, .int (nI i)), (15, .int hh)] V S Y R zp zq zc zl zv zg zu zf zk zt := by
  obtain ⟨hx, hb, hml, hown, hts, ⟨hX, hL⟩, hbl, hK, hZ0⟩ := C0
  have hA : ∀ q : Nat, s.heap.size ≤ q → kl_A s q := fun _ h => h
  have hbA : ¬ kl_A s bb := Nat.not_le.mpr hbl
  intro H locs ls hP hD hS hl
  have hR := hI.1
  have hin := hI.2.1
  have hNi := ps_hN hI
  have hDi := ps_hD hI
  have hnP := ps_n hR
  have hmL := ps_m hR
  have e5 := hR.2.2.2.2.1.1
  have e7 := hR.2.2.2.2.2.2.1.1
  have e8 := hR.2.2.2.2.2.2.2.1
  have h7 := ps_h7 hR hNi
  have h8 := ps_h8 hR hNi
  have h5 := ps_h5 hR (by omega)
  have ht := ps_t hR (by omega)
  have hJ := ps_J hR
  have hO := hI.2.2.2.1
  have hC := hI.2.2.2.2
  refine lv_aload hx hb dL_law_636 (lv_at hl 4 rfl) ?_
  refine lv_aload hx hb dL_law_638 (lv_at hl 11 rfl) ?_
  refine lv_iload hx hb dL_law_640 (lv_at hl 15 rfl) ?_
  refine lv_iconst (v := 5) hx hb dL_law_642 (by decide +kernel) ?_
  refine lv_ishr hx hb dL_law_643 ?_
  refine kz_rdS (As := [.ref nc, .ref nt, .int (hh >>> 5)]) (rest := []) ⟨hx, hb, hml, hown, hts⟩ (c_L_other l G nc zc nt zt (hh >>> 5) (by assumption)) (va_cwS 3 hts gL_law_L_other rfl rfl rfl (by decide +kernel) ⟨Nat.le_of_ble_eq_true rfl, Nat.le_of_ble_eq_true rfl⟩) hK (hP.sub (cs := [[(nc, .inl (G.2.1, 64, .inl zc))], [(nt, .inl (G.2.1, 10, .inl zt))]]) [14, 21] rfl) rfl hl.1 rfl (Nat.le_of_ble_eq_true rfl) dL_law_644 ⟨Nat.le_of_ble_eq_true rfl, Nat.le_of_ble_eq_true rfl⟩ ?_
  refine lv_topi (fun cw ecw => ?_)
  have hcw : ∃ c, c < 10000 ∧ cw = nI c := by rw [ecw]; exact ps_oth hI _
  clear ecw
  refine lv_istore (lv' := [(18, .int cw), (0, .ref bb), (1, .ref x), (2, .ref np), (3, .ref nq), (4, .ref nc), (5, .ref nl), (6, .ref nv), (7, .ref ng), (8, .ref nu), (9, .ref nf), (10, .ref nk), (11, .ref nt), (12, .int why), (13, .int beh), (14, .int (nI i)), (15, .int hh)]) hx hb dL_law_647 hl (by decide) rfl (fun ls hl => ?_)
  refine lv_aload_n hx hb dL_law_649 rfl (lv_at hl 3 rfl) ?_
  refine lv_aload hx hb dL_law_650 (lv_at hl 5 rfl) ?_
  refine lv_aload hx hb dL_law_652 (lv_at hl 12 rfl) ?_
  refine lv_iload hx hb dL_law_654 (lv_at hl 0 rfl) ?_
  refine kz_rdS (As := [.ref np, .ref nc, .ref nt, .int cw]) (rest := []) ⟨hx, hb, hml, hown, hts⟩ (c_L_by l G np zp nc zc nt zt cw (by assumption)) (va_cwS 4 hts gL_law_L_by rfl rfl rfl (by decide +kernel) ⟨Nat.le_of_ble_eq_true rfl, Nat.le_of_ble_eq_true rfl⟩) hK (hP.sub (cs := [[(np, .inl (G.2.1, 64, .inl zp))], [(nc, .inl (G.2.1, 64, .inl zc))], [(nt, .inl (G.2.1, 10, .inl zt))]]) [12, 14, 21] rfl) rfl hl.1 rfl (Nat.le_of_ble_eq_true rfl) dL_law_656 ⟨Nat.le_of_ble_eq_true rfl, Nat.le_of_ble_eq_true rfl⟩ ?_
  refine lv_istore (lv' := [(19, .int (L_by_r zp zc zt cw)), (18, .int cw), (0, .ref bb), (1, .ref x), (2, .ref np), (3, .ref nq), (4, .ref nc), (5, .ref nl), (6, .ref nv), (7, .ref ng), (8, .ref nu), (9, .ref nf), (10, .ref nk), (11, .ref nt), (12, .int why), (13, .int beh), (14, .int (nI i)), (15, .int hh)]) hx hb dL_law_659 hl (by decide) rfl (fun ls hl => ?_)
  refine lv_iload hx hb dL_law_661 (lv_at hl 17 rfl) ?_
  refine lv_bipush (v := 20) hx hb dL_law_663 (by decide +kernel) ?_
  refine lv_ishr hx hb dL_law_665 ?_
  refine lv_bipush (v := 6) hx hb dL_law_666 (by decide +kernel) ?_
  refine kz_rdS (As := [.int (hh >>> 20), .int 6]) (rest := []) ⟨hx, hb, hml, hown, hts⟩ (c_L_low l G (hh >>> 20) 6 (by omega) (by omega)) (va_cwS 2 hts gL_law_L_low rfl rfl rfl (by decide +kernel) ⟨Nat.le_of_ble_eq_true rfl, Nat.le_of_ble_eq_true rfl⟩) hK (hP.sub (cs := []) [] rfl) rfl hl.1 rfl (Nat.le_of_ble_eq_true rfl) dL_law_668 ⟨Nat.le_of_ble_eq_true rfl, Nat.le_of_ble_eq_true rfl⟩ ?_
  obtain ⟨sh, esh⟩ : ∃ z, z = ps_lo (hh >>> 20) 6 := ⟨_, rfl⟩
  have hsh : sh < 6 := by rw [esh]; exact ps_lo_lt (by omega)
  refine lv_topi (fun y_1 ey_2 => ?_)
  obtain rfl : y_1 = nI sh := by rw [ey_2, esh]
  refine lv_istore (lv' := [(20, .int (nI sh)), (19, .int (L_by_r zp zc zt cw)), (18, .int cw), (0, .ref bb), (1, .ref x), (2, .ref np), (3, .ref nq), (4, .ref nc), (5, .ref nl), (6, .ref nv), (7, .ref ng), (8, .ref nu), (9, .ref nf), (10, .ref nk), (11, .ref nt), (12, .int why), (13, .int beh), (14, .int (nI i)), (15, .int hh)]) hx hb dL_law_671 hl (by decide) rfl (fun ls hl => ?_)
  refine lv_iconst (v := (-1)) hx hb dL_law_673 (by decide +kernel) ?_
  refine lv_istore (lv' := [(21, .int (-1)), (20, .int (nI sh)), (19, .int (L_by_r zp zc zt cw)), (18, .int cw), (0, .ref bb), (1, .ref x), (2, .ref np), (3, .ref nq), (4, .ref nc), (5, .ref nl), (6, .ref nv), (7, .ref ng), (8, .ref nu), (9, .ref nf), (10, .ref nk), (11, .ref nt), (12, .int why), (13, .int beh), (14, .int (nI i)), (15, .int hh)]) hx hb dL_law_674 hl (by decide) rfl (fun ls hl => ?_)
  refine lv_iload hx hb dL_law_676 (lv_at hl 2 rfl) ?_
  refine lv_if_ge (tgt := 713) hx hb dL_law_678 (by decide) (fun c_3 => ?_) (fun c_3 => ?_)
  · obtain ⟨k, j, sd, hk, hj, ek, eb, epw, hsd, es⟩ := ps_byJ hI c_3
    have hl : lv_has ls 23 [(21, .int (-1)), (20, .int (nI sh)), (19, .int (nI k)), (18, .int cw), (0, .ref bb), (1, .ref x), (2, .ref np), (3, .ref nq), (4, .ref nc), (5, .ref nl), (6, .ref nv), (7, .ref ng), (8, .ref nu), (9, .ref nf), (10, .ref nk), (11, .ref nt), (12, .int why), (13, .int beh), (14, .int (nI i)), (15, .int hh)] := by rw [← eb]; exact hl
    refine lv_aload_n hx hb dL_law_713 rfl (lv_at hl 6 rfl) ?_
    refine lv_iload hx hb dL_law_714 (lv_at hl 2 rfl) ?_
    refine va_iald (f := zp) hx hb hK.1 hP 104 0 rfl rfl (vp_in_nI (n := k) (N := 64) (by omega) (by decide)) dL_law_716 ?_
    refine lv_topi (fun y_4 ey_5 => ?_)
    obtain rfl : y_4 = (nI j) := by rw [ey_5, kz_nI_clamp (n := k) (by omega)]; exact ek
    refine lv_bipush (v := 8) hx hb dL_law_717 (by decide +kernel) ?_
    refine lv_idiv hx hb dL_law_719 (by decide +kernel) ?_
    refine lv_iload hx hb dL_law_720 (lv_at hl 1 rfl) ?_
    refine lv_icmp_eq (tgt := 738) hx hb dL_law_722 (by decide) (fun c_6 => ?_) (fun c_6 => ?_)
    · refine lv_bipush (v := (-2)) hx hb dL_law_738 (by decide +kernel) ?_
      refine lv_istore (lv' := [(21, .int (-2)), (20, .int (nI sh)), (19, .int (nI k)), (18, .int cw), (0, .ref bb), (1, .ref x), (2, .ref np), (3, .ref nq), (4, .ref nc), (5, .ref nl), (6, .ref nv), (7, .ref ng), (8, .ref nu), (9, .ref nf), (10, .ref nk), (11, .ref nt), (12, .int why), (13, .int beh), (14, .int (nI i)), (15, .int hh)]) hx hb dL_law_740 hl (by decide) rfl (fun ls hl => ?_)
      refine lv_goto (tgt := 822) hx hb dL_law_742 (by decide) ?_
      refine lv_aload_n hx hb dL_law_822 rfl (lv_at hl 5 rfl) ?_
      refine lv_iload hx hb dL_law_823 (lv_at hl 3 rfl) ?_
      refine lv_iload hx hb dL_law_825 (lv_at hl 1 rfl) ?_
      refine kz_miV (As := [.int cw, .int (nI sh)]) (rest := []) (b := x) (wr := [shW G sv kz_S0, shW G ah kz_S0, txW G t kz_T0, [(np, .inl (G.2.1, 64, .inl zp))], [(nq, .inl (G.2.1, 64, .inl zq))], [(nc, .inl (G.2.1, 64, .inl zc))], [(nl, .inl (G.2.1, 64, .inl zl))], [(nv, .inl (G.2.1, 64, .inl zv))], [(ng, .inl (G.2.1, 10, .inl zg))], [(nu, .inl (G.2.1, 10, .inl zu))], [(nf, .inl (G.2.1, 10, .inl zf))], [(nk, .inl (G.2.1, 10, .inl zk))], [(nt, .inl (G.2.1, 10, .inl zt))]]) (bs' := [xoW x (a 0) (sv 0) (ah 0) (h 0) (t 0) (X3_move_s0 V S Y R cw (nI sh)), shW G a (X3_move_s1 V S Y R cw (nI sh)), shW G sv kz_S0, shW G ah kz_S0, hsW G h (fun j => b j 0) (X3_move_s2 V S Y R cw (nI sh)), shW G (b 0) ((X3_move_s3 V S Y R cw (nI sh)) 0), shW G (b 1) ((X3_move_s3 V S Y R cw (nI sh)) 1), shW G (b 2) ((X3_move_s3 V S Y R cw (nI sh)) 2), shW G (b 3) ((X3_move_s3 V S Y R cw (nI sh)) 3), shW G (b 4) ((X3_move_s3 V S Y R cw (nI sh)) 4), shW G (b 5) ((X3_move_s3 V S Y R cw (nI sh)) 5), txW G t kz_T0, [(np, .inl (G.2.1, 64, .inl zp))], [(nq, .inl (G.2.1, 64, .inl zq))], [(nc, .inl (G.2.1, 64, .inl zc))], [(nl, .inl (G.2.1, 64, .inl zl))], [(nv, .inl (G.2.1, 64, .inl zv))], [(ng, .inl (G.2.1, 10, .inl zg))], [(nu, .inl (G.2.1, 10, .inl zu))], [(nf, .inl (G.2.1, 10, .inl zf))], [(nk, .inl (G.2.1, 10, .inl zk))], [(nt, .inl (G.2.1, 10, .inl zt))]]) ⟨hx, hb, hml, hown, hts⟩ (c_X3_move l G x (sv 0) (ah 0) (t 0) V a S h Y b R cw (nI sh) (by assumption) (by assumption) (by assumption) (by assumption)) (cwV 2 hts gL_law_X3_move rfl rfl rfl (by decide +kernel) ⟨Nat.le_of_ble_eq_true rfl, Nat.le_of_ble_eq_true rfl⟩) hK hP hD hS hA [0, 1, 4, 5, 6, 7, 8, 9, 10] [2, 3, 11, 12, 13, 14, 15, 16, 17, 18, 19, 20, 21] [13, 14, 0, 1, 15, 16, 17, 18, 19, 20, 21, 2, 3, 4, 5, 6, 7, 8, 9, 10, 11, 12] rfl (by decide) rfl (by decide) (by decide) rfl (by decide) (kz_recv hK hP (ci := 3) (q0 := 0) rfl rfl) rfl hl.1 rfl (Nat.le_of_ble_eq_true rfl) dL_law_827 ⟨Nat.le_of_ble_eq_true rfl, Nat.le_of_ble_eq_true rfl⟩ (fun H locs hP hD hS => ?_)
      obtain ⟨eans, I2⟩ := ps_opMove2 hI R hk hj ek epw hsh (Or.inl c_6)
      refine lv_iload hx hb dL_law_830 (lv_at hl 0 rfl) ?_
      refine lv_icmp_ne (tgt := 839) hx hb dL_law_832 (by decide) (fun c => absurd c (by exact fun z => z (eans))) (fun c_7 => ?_)
      refine lv_iconst (v := 1) hx hb dL_law_835 (by decide +kernel) ?_
      refine lv_goto (tgt := 840) hx hb dL_law_836 (by decide) ?_
      refine lv_istore (lv' := [(17, .int 1), (21, .int (-2)), (20, .int (nI sh)), (19, .int (nI k)), (18, .int cw), (0, .ref bb), (1, .ref x), (2, .ref np), (3, .ref nq), (4, .ref nc), (5, .ref nl), (6, .ref nv), (7, .ref ng), (8, .ref nu), (9, .ref nf), (10, .ref nk), (11, .ref nt), (12, .int why), (13, .int beh), (14, .int (nI i)), (15, .int hh)]) hx hb dL_law_840 hl (by decide) rfl (fun ls hl => ?_)
      refine lv_goto (tgt := 1172) hx hb dL_law_842 (by decide) ?_
      exact KK (X3_move_s0 V S Y R cw (nI sh)) (X3_move_s1 V S Y R cw (nI sh)) (X3_move_s2 V S Y R cw (nI sh)) (X3_move_s3 V S Y R cw (nI sh)) zp zq zc zl zv zg zu zf zk zt why beh I2 H locs ls hP hD hS (lv_sub hl [0, 5, 6, 7, 8, 9, 10, 11, 12, 13, 14, 15, 16, 17, 18, 19] rfl)
    · refine lv_iload hx hb dL_law_725 (lv_at hl 1 rfl) ?_
      refine lv_iconst (v := 2) hx hb dL_law_727 (by decide +kernel) ?_
      refine lv_idiv hx hb dL_law_728 (by decide +kernel) ?_
      refine lv_aload_n hx hb dL_law_729 rfl (lv_at hl 7 rfl) ?_
      refine lv_iload hx hb dL_law_730 (lv_at hl 2 rfl) ?_
      refine kz_rdS (As := [.ref nq, .int (nI k)]) (rest := [.int ((nI sh) / 2)]) ⟨hx, hb, hml, hown, hts⟩ (c_L_size l G nq zq k (by omega)) (va_cwS 2 hts gL_law_L_size rfl rfl rfl (by decide +kernel) ⟨Nat.le_of_ble_eq_true rfl, Nat.le_of_ble_eq_true rfl⟩) hK (hP.sub (cs := [[(nq, .inl (G.2.1, 64, .inl zq))]]) [13] rfl) rfl hl.1 rfl (Nat.le_of_ble_eq_true rfl) dL_law_732 ⟨Nat.le_of_ble_eq_true rfl, Nat.le_of_ble_eq_true rfl⟩ ?_
      refine lv_icmp_ge (tgt := 745) hx hb dL_law_735 (by decide) (fun c_8 => ?_) (fun c_8 => ?_)
      · refine lv_aload_n hx hb dL_law_745 rfl (lv_at hl 6 rfl) ?_
        refine lv_aload hx hb dL_law_746 (lv_at hl 9 rfl) ?_
        refine lv_aload hx hb dL_law_748 (lv_at hl 10 rfl) ?_
        refine lv_aload hx hb dL_law_750 (lv_at hl 15 rfl) ?_
        refine lv_iload hx hb dL_law_752 (lv_at hl 1 rfl) ?_
        refine lv_iload hx hb dL_law_754 (lv_at hl 1 rfl) ?_
        refine kz_rdS (As := [.ref np, .ref nl, .ref nv, .ref nt, .int (nI sh), .int (nI sh)]) (rest := []) ⟨hx, hb, hml, hown, hts⟩ (c_L_place l G np zp nl zl nv zv nt zt sh sh (by assumption) (by assumption) (by assumption) (by omega) (by omega)) (va_cwS 6 hts gL_law_L_place rfl rfl rfl (by decide +kernel) ⟨Nat.le_of_ble_eq_true rfl, Nat.le_of_ble_eq_true rfl⟩) hK (hP.sub (cs := [[(np, .inl (G.2.1, 64, .inl zp))], [(nl, .inl (G.2.1, 64, .inl zl))], [(nv, .inl (G.2.1, 64, .inl zv))], [(nt, .inl (G.2.1, 10, .inl zt))]]) [12, 15, 16, 21] rfl) rfl hl.1 rfl (Nat.le_of_ble_eq_true rfl) dL_law_756 ⟨Nat.le_of_ble_eq_true rfl, Nat.le_of_ble_eq_true rfl⟩ ?_
        refine lv_istore (lv' := [(22, .int (L_place_r zp zl zv zt sh sh)), (21, .int (-1)), (20, .int (nI sh)), (19, .int (nI k)), (18, .int cw), (0, .ref bb), (1, .ref x), (2, .ref np), (3, .ref nq), (4, .ref nc), (5, .ref nl), (6, .ref nv), (7, .ref ng), (8, .ref nu), (9, .ref nf), (10, .ref nk), (11, .ref nt), (12, .int why), (13, .int beh), (14, .int (nI i)), (15, .int hh)]) hx hb dL_law_759 hl (by decide) rfl (fun ls hl => ?_)
        refine lv_bipush (v := (-4)) hx hb dL_law_761 (by decide +kernel) ?_
        refine lv_istore (lv' := [(21, .int (-4)), (22, .int (L_place_r zp zl zv zt sh sh)), (20, .int (nI sh)), (19, .int (nI k)), (18, .int cw), (0, .ref bb), (1, .ref x), (2, .ref np), (3, .ref nq), (4, .ref nc), (5, .ref nl), (6, .ref nv), (7, .ref ng), (8, .ref nu), (9, .ref nf), (10, .ref nk), (11, .ref nt), (12, .int why), (13, .int beh), (14, .int (nI i)), (15, .int hh)]) hx hb dL_law_763 hl (by decide) rfl (fun ls hl => ?_)
        refine lv_iload hx hb dL_law_765 (lv_at hl 1 rfl) ?_
        refine lv_if_ge (tgt := 781) hx hb dL_law_767 (by decide) (fun c_9 => ?_) (fun c_9 => ?_)
        · obtain ⟨j0, hj0, ej0, ep0, hf5⟩ := ps_plJ hI (a := sh) (b := sh) (Nat.le_refl sh) hsh (Int32.not_lt.mpr c_9)
          have hl : lv_has ls 23 [(21, .int (-4)), (22, .int (nI j0)), (20, .int (nI sh)), (19, .int (nI k)), (18, .int cw), (0, .ref bb), (1, .ref x), (2, .ref np), (3, .ref nq), (4, .ref nc), (5, .ref nl), (6, .ref nv), (7, .ref ng), (8, .ref nu), (9, .ref nf), (10, .ref nk), (11, .ref nt), (12, .int why), (13, .int beh), (14, .int (nI i)), (15, .int hh)] := by rw [← ej0]; exact hl
          refine lv_aload_n hx hb dL_law_781 rfl (lv_at hl 7 rfl) ?_
          refine lv_aload hx hb dL_law_782 (lv_at hl 9 rfl) ?_
          refine lv_aload hx hb dL_law_784 (lv_at hl 10 rfl) ?_
          refine lv_aload hx hb dL_law_786 (lv_at hl 11 rfl) ?_
          refine lv_aload hx hb dL_law_788 (lv_at hl 16 rfl) ?_
          refine lv_iload hx hb dL_law_790 (lv_at hl 3 rfl) ?_
          refine kz_mvS (As := [.ref np, .ref nc, .ref nl, .ref nv, .ref nt, .int (nI k)]) (rest := []) (wr := [xoW x (a 0) (sv 0) (ah 0) (h 0) (t 0) V, shW G a S, shW G sv kz_S0, shW G ah kz_S0, hsW G h (fun j => b j 0) Y, shW G (b 0) (R 0), shW G (b 1) (R 1), shW G (b 2) (R 2), shW G (b 3) (R 3), shW G (b 4) (R 4), shW G (b 5) (R 5), txW G t kz_T0, [(nq, .inl (G.2.1, 64, .inl zq))], [(ng, .inl (G.2.1, 10, .inl zg))], [(nu, .inl (G.2.1, 10, .inl zu))], [(nf, .inl (G.2.1, 10, .inl zf))], [(nk, .inl (G.2.1, 10, .inl zk))]]) (bs' := [xoW x (a 0) (sv 0) (ah 0) (h 0) (t 0) V, shW G a S, shW G sv kz_S0, shW G ah kz_S0, hsW G h (fun j => b j 0) Y, shW G (b 0) (R 0), shW G (b 1) (R 1), shW G (b 2) (R 2), shW G (b 3) (R 3), shW G (b 4) (R 4), shW G (b 5) (R 5), txW G t kz_T0, [(np, .inl (G.2.1, 64, .inl (L_leaves_s0 zp zc zl zv zt k)))], [(nq, .inl (G.2.1, 64, .inl zq))], [(nc, .inl (G.2.1, 64, .inl zc))], [(nl, .inl (G.2.1, 64, .inl (L_leaves_s2 zp zc zl zv zt k)))], [(nv, .inl (G.2.1, 64, .inl (L_leaves_s3 zp zc zl zv zt k)))], [(ng, .inl (G.2.1, 10, .inl zg))], [(nu, .inl (G.2.1, 10, .inl zu))], [(nf, .inl (G.2.1, 10, .inl zf))], [(nk, .inl (G.2.1, 10, .inl zk))], [(nt, .inl (G.2.1, 10, .inl (L_leaves_s4 zp zc zl zv zt k)))]]) ⟨hx, hb, hml, hown, hts⟩ (c_L_leaves l G np zp nc zc nl zl nv zv nt zt k (by omega) ⟨mL, by omega, e8⟩) (va_cwS 6 hts gL_law_L_leaves rfl rfl rfl (by decide +kernel) ⟨Nat.le_of_ble_eq_true rfl, Nat.le_of_ble_eq_true rfl⟩) hK hP hD hS hA [12, 14, 15, 16, 21] [0, 1, 2, 3, 4, 5, 6, 7, 8, 9, 10, 11, 13, 17, 18, 19, 20] [0, 1, 2, 3, 4, 5, 6, 7, 8, 9, 10, 11, 17, 12, 18, 19, 20, 13, 14, 15, 16, 21] rfl (by decide) rfl (by decide) (by decide) rfl (by decide) rfl hl.1 rfl (Nat.le_of_ble_eq_true rfl) dL_law_792 ⟨Nat.le_of_ble_eq_true rfl, Nat.le_of_ble_eq_true rfl⟩ (fun H locs hP hD hS => ?_)
          refine lv_aload_n hx hb dL_law_795 rfl (lv_at hl 7 rfl) ?_
          refine lv_iload hx hb dL_law_796 (lv_at hl 3 rfl) ?_
          refine lv_iload hx hb dL_law_798 (lv_at hl 1 rfl) ?_
          refine va_iast hx hb hK.1 hP hD hS 104 0 rfl rfl (vp_in_nI (n := k) (N := 64) (by omega) (by decide)) dL_law_800 (fun H locs hP hD hS => ?_)
          rw [kz_nI_clamp (n := k) (by omega)] at hP hD
          have hP : kz_P G [xoW x (a 0) (sv 0) (ah 0) (h 0) (t 0) V, shW G a S, shW G sv kz_S0, shW G ah kz_S0, hsW G h (fun j => b j 0) Y, shW G (b 0) (R 0), shW G (b 1) (R 1), shW G (b 2) (R 2), shW G (b 3) (R 3), shW G (b 4) (R 4), shW G (b 5) (R 5), txW G t kz_T0, [(np, .inl (G.2.1, 64, .inl (upd (L_leaves_s0 zp zc zl zv zt k) k (nI j0))))], [(nq, .inl (G.2.1, 64, .inl zq))], [(nc, .inl (G.2.1, 64, .inl zc))], [(nl, .inl (G.2.1, 64, .inl (L_leaves_s2 zp zc zl zv zt k)))], [(nv, .inl (G.2.1, 64, .inl (L_leaves_s3 zp zc zl zv zt k)))], [(ng, .inl (G.2.1, 10, .inl zg))], [(nu, .inl (G.2.1, 10, .inl zu))], [(nf, .inl (G.2.1, 10, .inl zf))], [(nk, .inl (G.2.1, 10, .inl zk))], [(nt, .inl (G.2.1, 10, .inl (L_leaves_s4 zp zc zl zv zt k)))]] H := hP
          have hD : kz_D (kl_A s) [xoW x (a 0) (sv 0) (ah 0) (h 0) (t 0) V, shW G a S, shW G sv kz_S0, shW G ah kz_S0, hsW G h (fun j => b j 0) Y, shW G (b 0) (R 0), shW G (b 1) (R 1), shW G (b 2) (R 2), shW G (b 3) (R 3), shW G (b 4) (R 4), shW G (b 5) (R 5), txW G t kz_T0, [(np, .inl (G.2.1, 64, .inl (upd (L_leaves_s0 zp zc zl zv zt k) k (nI j0))))], [(nq, .inl (G.2.1, 64, .inl zq))], [(nc, .inl (G.2.1, 64, .inl zc))], [(nl, .inl (G.2.1, 64, .inl (L_leaves_s2 zp zc zl zv zt k)))], [(nv, .inl (G.2.1, 64, .inl (L_leaves_s3 zp zc zl zv zt k)))], [(ng, .inl (G.2.1, 10, .inl zg))], [(nu, .inl (G.2.1, 10, .inl zu))], [(nf, .inl (G.2.1, 10, .inl zf))], [(nk, .inl (G.2.1, 10, .inl zk))], [(nt, .inl (G.2.1, 10, .inl (L_leaves_s4 zp zc zl zv zt k)))]] := hD
          refine lv_aload hx hb dL_law_801 (lv_at hl 9 rfl) ?_
          refine lv_iload hx hb dL_law_803 (lv_at hl 3 rfl) ?_
          refine lv_aload hx hb dL_law_805 (lv_at hl 16 rfl) ?_
          refine lv_iconst (v := 5) hx hb dL_law_807 (by decide +kernel) ?_
          refine va_iald (f := (L_leaves_s4 zp zc zl zv zt k)) hx hb hK.1 hP 113 0 rfl rfl (vp_in_nI (n := 5) (N := 10) (by decide) (by decide)) dL_law_808 ?_
          refine lv_topi (fun y_10 ey_11 => ?_)
          obtain rfl : y_10 = (nI D) := by rw [ey_11]; exact (show ((L_leaves_s4 zp zc zl zv zt k) 5) = (nI D) from ((L_lv5 _ _ _ _ _ _).trans e5))
          refine lv_iload hx hb dL_law_809 (lv_at hl 1 rfl) ?_
          refine kz_rdS (As := [.int (nI D), .int (nI j0)]) (rest := [.int (nI k), .ref nc]) ⟨hx, hb, hml, hown, hts⟩ (c_L_code l G D j0 (by omega) (by omega)) (va_cwS 2 hts gL_law_L_code rfl rfl rfl (by decide +kernel) ⟨Nat.le_of_ble_eq_true rfl, Nat.le_of_ble_eq_true rfl⟩) hK (hP.sub (cs := []) [] rfl) rfl hl.1 rfl (Nat.le_of_ble_eq_true rfl) dL_law_811 ⟨Nat.le_of_ble_eq_true rfl, Nat.le_of_ble_eq_true rfl⟩ ?_
          refine va_iast hx hb hK.1 hP hD hS 106 0 rfl rfl (vp_in_nI (n := k) (N := 64) (by omega) (by decide)) dL_law_814 (fun H locs hP hD hS => ?_)
          rw [kz_nI_clamp (n := k) (by omega)] at hP hD
          have hP : kz_P G [xoW x (a 0) (sv 0) (ah 0) (h 0) (t 0) V, shW G a S, shW G sv kz_S0, shW G ah kz_S0, hsW G h (fun j => b j 0) Y, shW G (b 0) (R 0), shW G (b 1) (R 1), shW G (b 2) (R 2), shW G (b 3) (R 3), shW G (b 4) (R 4), shW G (b 5) (R 5), txW G t kz_T0, [(np, .inl (G.2.1, 64, .inl (upd (L_leaves_s0 zp zc zl zv zt k) k (nI j0))))], [(nq, .inl (G.2.1, 64, .inl zq))], [(nc, .inl (G.2.1, 64, .inl (upd zc k (nI (ps_cd (D % 7 + 1) j0)))))], [(nl, .inl (G.2.1, 64, .inl (L_leaves_s2 zp zc zl zv zt k)))], [(nv, .inl (G.2.1, 64, .inl (L_leaves_s3 zp zc zl zv zt k)))], [(ng, .inl (G.2.1, 10, .inl zg))], [(nu, .inl (G.2.1, 10, .inl zu))], [(nf, .inl (G.2.1, 10, .inl zf))], [(nk, .inl (G.2.1, 10, .inl zk))], [(nt, .inl (G.2.1, 10, .inl (L_leaves_s4 zp zc zl zv zt k)))]] H := hP
          have hD : kz_D (kl_A s) [xoW x (a 0) (sv 0) (ah 0) (h 0) (t 0) V, shW G a S, shW G sv kz_S0, shW G ah kz_S0, hsW G h (fun j => b j 0) Y, shW G (b 0) (R 0), shW G (b 1) (R 1), shW G (b 2) (R 2), shW G (b 3) (R 3), shW G (b 4) (R 4), shW G (b 5) (R 5), txW G t kz_T0, [(np, .inl (G.2.1, 64, .inl (upd (L_leaves_s0 zp zc zl zv zt k) k (nI j0))))], [(nq, .inl (G.2.1, 64, .inl zq))], [(nc, .inl (G.2.1, 64, .inl (upd zc k (nI (ps_cd (D % 7 + 1) j0)))))], [(nl, .inl (G.2.1, 64, .inl (L_leaves_s2 zp zc zl zv zt k)))], [(nv, .inl (G.2.1, 64, .inl (L_leaves_s3 zp zc zl zv zt k)))], [(ng, .inl (G.2.1, 10, .inl zg))], [(nu, .inl (G.2.1, 10, .inl zu))], [(nf, .inl (G.2.1, 10, .inl zf))], [(nk, .inl (G.2.1, 10, .inl zk))], [(nt, .inl (G.2.1, 10, .inl (L_leaves_s4 zp zc zl zv zt k)))]] := hD
          refine lv_aload hx hb dL_law_815 (lv_at hl 9 rfl) ?_
          refine lv_iload hx hb dL_law_817 (lv_at hl 3 rfl) ?_
          refine va_iald (f := (upd zc k (nI (ps_cd (D % 7 + 1) j0)))) hx hb hK.1 hP 106 0 rfl rfl (vp_in_nI (n := k) (N := 64) (by omega) (by decide)) dL_law_819 ?_
          refine lv_topi (fun y_12 ey_13 => ?_)
          obtain rfl : y_12 = (nI (ps_cd (D % 7 + 1) j0)) := by rw [ey_13, kz_nI_clamp (n := k) (by omega)]; exact pk_us
          refine lv_istore (lv' := [(21, .int (nI (ps_cd (D % 7 + 1) j0))), (22, .int (nI j0)), (20, .int (nI sh)), (19, .int (nI k)), (18, .int cw), (0, .ref bb), (1, .ref x), (2, .ref np), (3, .ref nq), (4, .ref nc), (5, .ref nl), (6, .ref nv), (7, .ref ng), (8, .ref nu), (9, .ref nf), (10, .ref nk), (11, .ref nt), (12, .int why), (13, .int beh), (14, .int (nI i)), (15, .int hh)]) hx hb dL_law_820 hl (by decide) rfl (fun ls hl => ?_)
          refine lv_aload_n hx hb dL_law_822 rfl (lv_at hl 6 rfl) ?_
          refine lv_iload hx hb dL_law_823 (lv_at hl 4 rfl) ?_
          refine lv_iload hx hb dL_law_825 (lv_at hl 2 rfl) ?_
          refine kz_miV (As := [.int cw, .int (nI sh)]) (rest := []) (b := x) (wr := [shW G sv kz_S0, shW G ah kz_S0, txW G t kz_T0, [(np, .inl (G.2.1, 64, .inl (upd (L_leaves_s0 zp zc zl zv zt k) k (nI j0))))], [(nq, .inl (G.2.1, 64, .inl zq))], [(nc, .inl (G.2.1, 64, .inl (upd zc k (nI (ps_cd (D % 7 + 1) j0)))))], [(nl, .inl (G.2.1, 64, .inl (L_leaves_s2 zp zc zl zv zt k)))], [(nv, .inl (G.2.1, 64, .inl (L_leaves_s3 zp zc zl zv zt k)))], [(ng, .inl (G.2.1, 10, .inl zg))], [(nu, .inl (G.2.1, 10, .inl zu))], [(nf, .inl (G.2.1, 10, .inl zf))], [(nk, .inl (G.2.1, 10, .inl zk))], [(nt, .inl (G.2.1, 10, .inl (L_leaves_s4 zp zc zl zv zt k)))]]) (bs' := [xoW x (a 0) (sv 0) (ah 0) (h 0) (t 0) (X3_move_s0 V S Y R cw (nI sh)), shW G a (X3_move_s1 V S Y R cw (nI sh)), shW G sv kz_S0, shW G ah kz_S0, hsW G h (fun j => b j 0) (X3_move_s2 V S Y R cw (nI sh)), shW G (b 0) ((X3_move_s3 V S Y R cw (nI sh)) 0), shW G (b 1) ((X3_move_s3 V S Y R cw (nI sh)) 1), shW G (b 2) ((X3_move_s3 V S Y R cw (nI sh)) 2), shW G (b 3) ((X3_move_s3 V S Y R cw (nI sh)) 3), shW G (b 4) ((X3_move_s3 V S Y R cw (nI sh)) 4), shW G (b 5) ((X3_move_s3 V S Y R cw (nI sh)) 5), txW G t kz_T0, [(np, .inl (G.2.1, 64, .inl (upd (L_leaves_s0 zp zc zl zv zt k) k (nI j0))))], [(nq, .inl (G.2.1, 64, .inl zq))], [(nc, .inl (G.2.1, 64, .inl (upd zc k (nI (ps_cd (D % 7 + 1) j0)))))], [(nl, .inl (G.2.1, 64, .inl (L_leaves_s2 zp zc zl zv zt k)))], [(nv, .inl (G.2.1, 64, .inl (L_leaves_s3 zp zc zl zv zt k)))], [(ng, .inl (G.2.1, 10, .inl zg))], [(nu, .inl (G.2.1, 10, .inl zu))], [(nf, .inl (G.2.1, 10, .inl zf))], [(nk, .inl (G.2.1, 10, .inl zk))], [(nt, .inl (G.2.1, 10, .inl (L_leaves_s4 zp zc zl zv zt k)))]]) ⟨hx, hb, hml, hown, hts⟩ (c_X3_move l G x (sv 0) (ah 0) (t 0) V a S h Y b R cw (nI sh) (by assumption) (by assumption) (by assumption) (by assumption)) (cwV 2 hts gL_law_X3_move rfl rfl rfl (by decide +kernel) ⟨Nat.le_of_ble_eq_true rfl, Nat.le_of_ble_eq_true rfl⟩) hK hP hD hS hA [0, 1, 4, 5, 6, 7, 8, 9, 10] [2, 3, 11, 12, 13, 14, 15, 16, 17, 18, 19, 20, 21] [13, 14, 0, 1, 15, 16, 17, 18, 19, 20, 21, 2, 3, 4, 5, 6, 7, 8, 9, 10, 11, 12] rfl (by decide) rfl (by decide) (by decide) rfl (by decide) (kz_recv hK hP (ci := 3) (q0 := 0) rfl rfl) rfl hl.1 rfl (Nat.le_of_ble_eq_true rfl) dL_law_827 ⟨Nat.le_of_ble_eq_true rfl, Nat.le_of_ble_eq_true rfl⟩ (fun H locs hP hD hS => ?_)
          obtain ⟨eans, I2⟩ := ps_opMove4 hI R hk hj ek epw hsh c_6 c_8 hj0 ep0 hf5
          refine lv_iload hx hb dL_law_830 (lv_at hl 0 rfl) ?_
          refine lv_icmp_ne (tgt := 839) hx hb dL_law_832 (by decide) (fun c => absurd c (by exact fun z => z (eans))) (fun c_14 => ?_)
          refine lv_iconst (v := 1) hx hb dL_law_835 (by decide +kernel) ?_
          refine lv_goto (tgt := 840) hx hb dL_law_836 (by decide) ?_
          refine lv_istore (lv' := [(17, .int 1), (21, .int (nI (ps_cd (D % 7 + 1) j0))), (22, .int (nI j0)), (20, .int (nI sh)), (19, .int (nI k)), (18, .int cw), (0, .ref bb), (1, .ref x), (2, .ref np), (3, .ref nq), (4, .ref nc), (5, .ref nl), (6, .ref nv), (7, .ref ng), (8, .ref nu), (9, .ref nf), (10, .ref nk), (11, .ref nt), (12, .int why), (13, .int beh), (14, .int (nI i)), (15, .int hh)]) hx hb dL_law_840 hl (by decide) rfl (fun ls hl => ?_)
          refine lv_goto (tgt := 1172) hx hb dL_law_842 (by decide) ?_
          exact KK (X3_move_s0 V S Y R cw (nI sh)) (X3_move_s1 V S Y R cw (nI sh)) (X3_move_s2 V S Y R cw (nI sh)) (X3_move_s3 V S Y R cw (nI sh)) (upd (L_leaves_s0 zp zc zl zv zt k) k (nI j0)) zq (upd zc k (nI (ps_cd (D % 7 + 1) j0))) (L_leaves_s2 zp zc zl zv zt k) (L_leaves_s3 zp zc zl zv zt k) zg zu zf zk (L_leaves_s4 zp zc zl zv zt k) why beh I2 H locs ls hP hD hS (lv_sub hl [0, 6, 7, 8, 9, 10, 11, 12, 13, 14, 15, 16, 17, 18, 19, 20] rfl)
        · refine lv_iconst (v := 1) hx hb dL_law_770 (by decide +kernel) ?_
          refine lv_istore (lv' := [(12, .int 1), (21, .int (-4)), (22, .int (L_place_r zp zl zv zt sh sh)), (20, .int (nI sh)), (19, .int (nI k)), (18, .int cw), (0, .ref bb), (1, .ref x), (2, .ref np), (3, .ref nq), (4, .ref nc), (5, .ref nl), (6, .ref nv), (7, .ref ng), (8, .ref nu), (9, .ref nf), (10, .ref nk), (11, .ref nt), (13, .int beh), (14, .int (nI i)), (15, .int hh)]) hx hb dL_law_771 hl (by decide) rfl (fun ls hl => ?_)
          refine lv_iload hx hb dL_law_773 (lv_at hl 2 rfl) ?_
          refine lv_ineg hx hb dL_law_775 ?_
          refine lv_istore (lv' := [(13, .int (-(L_place_r zp zl zv zt sh sh))), (12, .int 1), (21, .int (-4)), (22, .int (L_place_r zp zl zv zt sh sh)), (20, .int (nI sh)), (19, .int (nI k)), (18, .int cw), (0, .ref bb), (1, .ref x), (2, .ref np), (3, .ref nq), (4, .ref nc), (5, .ref nl), (6, .ref nv), (7, .ref ng), (8, .ref nu), (9, .ref nf), (10, .ref nk), (11, .ref nt), (14, .int (nI i)), (15, .int hh)]) hx hb dL_law_776 hl (by decide) rfl (fun ls hl => ?_)
          refine lv_goto (tgt := 822) hx hb dL_law_778 (by decide) ?_
          refine lv_aload_n hx hb dL_law_822 rfl (lv_at hl 8 rfl) ?_
          refine lv_iload hx hb dL_law_823 (lv_at hl 6 rfl) ?_
          refine lv_iload hx hb dL_law_825 (lv_at hl 4 rfl) ?_
          refine kz_miV (As := [.int cw, .int (nI sh)]) (rest := []) (b := x) (wr := [shW G sv kz_S0, shW G ah kz_S0, txW G t kz_T0, [(np, .inl (G.2.1, 64, .inl zp))], [(nq, .inl (G.2.1, 64, .inl zq))], [(nc, .inl (G.2.1, 64, .inl zc))], [(nl, .inl (G.2.1, 64, .inl zl))], [(nv, .inl (G.2.1, 64, .inl zv))], [(ng, .inl (G.2.1, 10, .inl zg))], [(nu, .inl (G.2.1, 10, .inl zu))], [(nf, .inl (G.2.1, 10, .inl zf))], [(nk, .inl (G.2.1, 10, .inl zk))], [(nt, .inl (G.2.1, 10, .inl zt))]]) (bs' := [xoW x (a 0) (sv 0) (ah 0) (h 0) (t 0) (X3_move_s0 V S Y R cw (nI sh)), shW G a (X3_move_s1 V S Y R cw (nI sh)), shW G sv kz_S0, shW G ah kz_S0, hsW G h (fun j => b j 0) (X3_move_s2 V S Y R cw (nI sh)), shW G (b 0) ((X3_move_s3 V S Y R cw (nI sh)) 0), shW G (b 1) ((X3_move_s3 V S Y R cw (nI sh)) 1), shW G (b 2) ((X3_move_s3 V S Y R cw (nI sh)) 2), shW G (b 3) ((X3_move_s3 V S Y R cw (nI sh)) 3), shW G (b 4) ((X3_move_s3 V S Y R cw (nI sh)) 4), shW G (b 5) ((X3_move_s3 V S Y R cw (nI sh)) 5), txW G t kz_T0, [(np, .inl (G.2.1, 64, .inl zp))], [(nq, .inl (G.2.1, 64, .inl zq))], [(nc, .inl (G.2.1, 64, .inl zc))], [(nl, .inl (G.2.1, 64, .inl zl))], [(nv, .inl (G.2.1, 64, .inl zv))], [(ng, .inl (G.2.1, 10, .inl zg))], [(nu, .inl (G.2.1, 10, .inl zu))], [(nf, .inl (G.2.1, 10, .inl zf))], [(nk, .inl (G.2.1, 10, .inl zk))], [(nt, .inl (G.2.1, 10, .inl zt))]]) ⟨hx, hb, hml, hown, hts⟩ (c_X3_move l G x (sv 0) (ah 0) (t 0) V a S h Y b R cw (nI sh) (by assumption) (by assumption) (by assumption) (by assumption)) (cwV 2 hts gL_law_X3_move rfl rfl rfl (by decide +kernel) ⟨Nat.le_of_ble_eq_true rfl, Nat.le_of_ble_eq_true rfl⟩) hK hP hD hS hA [0, 1, 4, 5, 6, 7, 8, 9, 10] [2, 3, 11, 12, 13, 14, 15, 16, 17, 18, 19, 20, 21] [13, 14, 0, 1, 15, 16, 17, 18, 19, 20, 21, 2, 3, 4, 5, 6, 7, 8, 9, 10, 11, 12] rfl (by decide) rfl (by decide) (by decide) rfl (by decide) (kz_recv hK hP (ci := 3) (q0 := 0) rfl rfl) rfl hl.1 rfl (Nat.le_of_ble_eq_true rfl) dL_law_827 ⟨Nat.le_of_ble_eq_true rfl, Nat.le_of_ble_eq_true rfl⟩ (fun H locs hP hD hS => ?_)
          obtain ⟨eans, I2⟩ := ps_opMove3 hI R hk hj ek epw hsh c_6 c_8 (Int32.not_le.mp c_9)
          refine lv_iload hx hb dL_law_830 (lv_at hl 2 rfl) ?_
          refine lv_icmp_ne (tgt := 839) hx hb dL_law_832 (by decide) (fun c => absurd c (by exact fun z => z (eans))) (fun c_15 => ?_)
          refine lv_iconst (v := 1) hx hb dL_law_835 (by decide +kernel) ?_
          refine lv_goto (tgt := 840) hx hb dL_law_836 (by decide) ?_
          refine lv_istore (lv' := [(17, .int 1), (13, .int (-(L_place_r zp zl zv zt sh sh))), (12, .int 1), (21, .int (-4)), (22, .int (L_place_r zp zl zv zt sh sh)), (20, .int (nI sh)), (19, .int (nI k)), (18, .int cw), (0, .ref bb), (1, .ref x), (2, .ref np), (3, .ref nq), (4, .ref nc), (5, .ref nl), (6, .ref nv), (7, .ref ng), (8, .ref nu), (9, .ref nf), (10, .ref nk), (11, .ref nt), (14, .int (nI i)), (15, .int hh)]) hx hb dL_law_840 hl (by decide) rfl (fun ls hl => ?_)
          refine lv_goto (tgt := 1172) hx hb dL_law_842 (by decide) ?_
          exact KK (X3_move_s0 V S Y R cw (nI sh)) (X3_move_s1 V S Y R cw (nI sh)) (X3_move_s2 V S Y R cw (nI sh)) (X3_move_s3 V S Y R cw (nI sh)) zp zq zc zl zv zg zu zf zk zt 1 (-(L_place_r zp zl zv zt sh sh)) I2 H locs ls hP hD hS (lv_sub hl [0, 8, 9, 10, 11, 12, 13, 14, 15, 16, 17, 18, 19, 2, 1, 20] rfl)
      · refine lv_bipush (v := (-2)) hx hb dL_law_738 (by decide +kernel) ?_
        refine lv_istore (lv' := [(21, .int (-2)), (20, .int (nI sh)), (19, .int (nI k)), (18, .int cw), (0, .ref bb), (1, .ref x), (2, .ref np), (3, .ref nq), (4, .ref nc), (5, .ref nl), (6, .ref nv), (7, .ref ng), (8, .ref nu), (9, .ref nf), (10, .ref nk), (11, .ref nt), (12, .int why), (13, .int beh), (14, .int (nI i)), (15, .int hh)]) hx hb dL_law_740 hl (by decide) rfl (fun ls hl => ?_)
        refine lv_goto (tgt := 822) hx hb dL_law_742 (by decide) ?_
        refine lv_aload_n hx hb dL_law_822 rfl (lv_at hl 5 rfl) ?_
        refine lv_iload hx hb dL_law_823 (lv_at hl 3 rfl) ?_
        refine lv_iload hx hb dL_law_825 (lv_at hl 1 rfl) ?_
        refine kz_miV (As := [.int cw, .int (nI sh)]) (rest := []) (b := x) (wr := [shW G sv kz_S0, shW G ah kz_S0, txW G t kz_T0, [(np, .inl (G.2.1, 64, .inl zp))], [(nq, .inl (G.2.1, 64, .inl zq))], [(nc, .inl (G.2.1, 64, .inl zc))], [(nl, .inl (G.2.1, 64, .inl zl))], [(nv, .inl (G.2.1, 64, .inl zv))], [(ng, .inl (G.2.1, 10, .inl zg))], [(nu, .inl (G.2.1, 10, .inl zu))], [(nf, .inl (G.2.1, 10, .inl zf))], [(nk, .inl (G.2.1, 10, .inl zk))], [(nt, .inl (G.2.1, 10, .inl zt))]]) (bs' := [xoW x (a 0) (sv 0) (ah 0) (h 0) (t 0) (X3_move_s0 V S Y R cw (nI sh)), shW G a (X3_move_s1 V S Y R cw (nI sh)), shW G sv kz_S0, shW G ah kz_S0, hsW G h (fun j => b j 0) (X3_move_s2 V S Y R cw (nI sh)), shW G (b 0) ((X3_move_s3 V S Y R cw (nI sh)) 0), shW G (b 1) ((X3_move_s3 V S Y R cw (nI sh)) 1), shW G (b 2) ((X3_move_s3 V S Y R cw (nI sh)) 2), shW G (b 3) ((X3_move_s3 V S Y R cw (nI sh)) 3), shW G (b 4) ((X3_move_s3 V S Y R cw (nI sh)) 4), shW G (b 5) ((X3_move_s3 V S Y R cw (nI sh)) 5), txW G t kz_T0, [(np, .inl (G.2.1, 64, .inl zp))], [(nq, .inl (G.2.1, 64, .inl zq))], [(nc, .inl (G.2.1, 64, .inl zc))], [(nl, .inl (G.2.1, 64, .inl zl))], [(nv, .inl (G.2.1, 64, .inl zv))], [(ng, .inl (G.2.1, 10, .inl zg))], [(nu, .inl (G.2.1, 10, .inl zu))], [(nf, .inl (G.2.1, 10, .inl zf))], [(nk, .inl (G.2.1, 10, .inl zk))], [(nt, .inl (G.2.1, 10, .inl zt))]]) ⟨hx, hb, hml, hown, hts⟩ (c_X3_move l G x (sv 0) (ah 0) (t 0) V a S h Y b R cw (nI sh) (by assumption) (by assumption) (by assumption) (by assumption)) (cwV 2 hts gL_law_X3_move rfl rfl rfl (by decide +kernel) ⟨Nat.le_of_ble_eq_true rfl, Nat.le_of_ble_eq_true rfl⟩) hK hP hD hS hA [0, 1, 4, 5, 6, 7, 8, 9, 10] [2, 3, 11, 12, 13, 14, 15, 16, 17, 18, 19, 20, 21] [13, 14, 0, 1, 15, 16, 17, 18, 19, 20, 21, 2, 3, 4, 5, 6, 7, 8, 9, 10, 11, 12] rfl (by decide) rfl (by decide) (by decide) rfl (by decide) (kz_recv hK hP (ci := 3) (q0 := 0) rfl rfl) rfl hl.1 rfl (Nat.le_of_ble_eq_true rfl) dL_law_827 ⟨Nat.le_of_ble_eq_true rfl, Nat.le_of_ble_eq_true rfl⟩ (fun H locs hP hD hS => ?_)
        obtain ⟨eans, I2⟩ := ps_opMove2 hI R hk hj ek epw hsh (Or.inr c_8)
        refine lv_iload hx hb dL_law_830 (lv_at hl 0 rfl) ?_
        refine lv_icmp_ne (tgt := 839) hx hb dL_law_832 (by decide) (fun c => absurd c (by exact fun z => z (eans))) (fun c_16 => ?_)
        refine lv_iconst (v := 1) hx hb dL_law_835 (by decide +kernel) ?_
        refine lv_goto (tgt := 840) hx hb dL_law_836 (by decide) ?_
        refine lv_istore (lv' := [(17, .int 1), (21, .int (-2)), (20, .int (nI sh)), (19, .int (nI k)), (18, .int cw), (0, .ref bb), (1, .ref x), (2, .ref np), (3, .ref nq), (4, .ref nc), (5, .ref nl), (6, .ref nv), (7, .ref ng), (8, .ref nu), (9, .ref nf), (10, .ref nk), (11, .ref nt), (12, .int why), (13, .int beh), (14, .int (nI i)), (15, .int hh)]) hx hb dL_law_840 hl (by decide) rfl (fun ls hl => ?_)
        refine lv_goto (tgt := 1172) hx hb dL_law_842 (by decide) ?_
        exact KK (X3_move_s0 V S Y R cw (nI sh)) (X3_move_s1 V S Y R cw (nI sh)) (X3_move_s2 V S Y R cw (nI sh)) (X3_move_s3 V S Y R cw (nI sh)) zp zq zc zl zv zg zu zf zk zt why beh I2 H locs ls hP hD hS (lv_sub hl [0, 5, 6, 7, 8, 9, 10, 11, 12, 13, 14, 15, 16, 17, 18, 19] rfl)
  · refine lv_iconst (v := 4) hx hb dL_law_681 (by decide +kernel) ?_
    refine lv_istore (lv' := [(12, .int 4), (21, .int (-1)), (20, .int (nI sh)), (19, .int (L_by_r zp zc zt cw)), (18, .int cw), (0, .ref bb), (1, .ref x), (2, .ref np), (3, .ref nq), (4, .ref nc), (5, .ref nl), (6, .ref nv), (7, .ref ng), (8, .ref nu), (9, .ref nf), (10, .ref nk), (11, .ref nt), (13, .int beh), (14, .int (nI i)), (15, .int hh)]) hx hb dL_law_682 hl (by decide) rfl (fun ls hl => ?_)
    refine lv_aload hx hb dL_law_684 (lv_at hl 10 rfl) ?_
    refine lv_aload hx hb dL_law_686 (lv_at hl 11 rfl) ?_
    refine lv_aload hx hb dL_law_688 (lv_at hl 16 rfl) ?_
    refine lv_iload hx hb dL_law_690 (lv_at hl 4 rfl) ?_
    refine kz_rdS (As := [.ref nl, .ref nv, .ref nt, .int cw]) (rest := []) ⟨hx, hb, hml, hown, hts⟩ (c_L_until l G nl zl nv zv nt zt cw (by assumption)) (va_cwS 4 hts gL_law_L_until rfl rfl rfl (by decide +kernel) ⟨Nat.le_of_ble_eq_true rfl, Nat.le_of_ble_eq_true rfl⟩) hK (hP.sub (cs := [[(nl, .inl (G.2.1, 64, .inl zl))], [(nv, .inl (G.2.1, 64, .inl zv))], [(nt, .inl (G.2.1, 10, .inl zt))]]) [15, 16, 21] rfl) rfl hl.1 rfl (Nat.le_of_ble_eq_true rfl) dL_law_692 ⟨Nat.le_of_ble_eq_true rfl, Nat.le_of_ble_eq_true rfl⟩ ?_
    refine lv_aload hx hb dL_law_695 (lv_at hl 16 rfl) ?_
    refine lv_iconst (v := 5) hx hb dL_law_697 (by decide +kernel) ?_
    refine va_iald (f := zt) hx hb hK.1 hP 113 0 rfl rfl (vp_in_nI (n := 5) (N := 10) (by decide) (by decide)) dL_law_698 ?_
    refine lv_topi (fun y_17 ey_18 => ?_)
    obtain rfl : y_17 = (nI D) := by rw [ey_18]; exact (show (zt 5) = (nI D) from e5)
    refine lv_icmp_le (tgt := 706) hx hb dL_law_699 (by decide) (fun c_19 => ?_) (fun c_19 => ?_)
    · refine lv_bipush (v := (-6)) hx hb dL_law_706 (by decide +kernel) ?_
      refine lv_istore (lv' := [(13, .int (-6)), (12, .int 4), (21, .int (-1)), (20, .int (nI sh)), (19, .int (L_by_r zp zc zt cw)), (18, .int cw), (0, .ref bb), (1, .ref x), (2, .ref np), (3, .ref nq), (4, .ref nc), (5, .ref nl), (6, .ref nv), (7, .ref ng), (8, .ref nu), (9, .ref nf), (10, .ref nk), (11, .ref nt), (14, .int (nI i)), (15, .int hh)]) hx hb dL_law_708 hl (by decide) rfl (fun ls hl => ?_)
      refine lv_goto (tgt := 822) hx hb dL_law_710 (by decide) ?_
      refine lv_aload_n hx hb dL_law_822 rfl (lv_at hl 7 rfl) ?_
      refine lv_iload hx hb dL_law_823 (lv_at hl 5 rfl) ?_
      refine lv_iload hx hb dL_law_825 (lv_at hl 3 rfl) ?_
      refine kz_miV (As := [.int cw, .int (nI sh)]) (rest := []) (b := x) (wr := [shW G sv kz_S0, shW G ah kz_S0, txW G t kz_T0, [(np, .inl (G.2.1, 64, .inl zp))], [(nq, .inl (G.2.1, 64, .inl zq))], [(nc, .inl (G.2.1, 64, .inl zc))], [(nl, .inl (G.2.1, 64, .inl zl))], [(nv, .inl (G.2.1, 64, .inl zv))], [(ng, .inl (G.2.1, 10, .inl zg))], [(nu, .inl (G.2.1, 10, .inl zu))], [(nf, .inl (G.2.1, 10, .inl zf))], [(nk, .inl (G.2.1, 10, .inl zk))], [(nt, .inl (G.2.1, 10, .inl zt))]]) (bs' := [xoW x (a 0) (sv 0) (ah 0) (h 0) (t 0) (X3_move_s0 V S Y R cw (nI sh)), shW G a (X3_move_s1 V S Y R cw (nI sh)), shW G sv kz_S0, shW G ah kz_S0, hsW G h (fun j => b j 0) (X3_move_s2 V S Y R cw (nI sh)), shW G (b 0) ((X3_move_s3 V S Y R cw (nI sh)) 0), shW G (b 1) ((X3_move_s3 V S Y R cw (nI sh)) 1), shW G (b 2) ((X3_move_s3 V S Y R cw (nI sh)) 2), shW G (b 3) ((X3_move_s3 V S Y R cw (nI sh)) 3), shW G (b 4) ((X3_move_s3 V S Y R cw (nI sh)) 4), shW G (b 5) ((X3_move_s3 V S Y R cw (nI sh)) 5), txW G t kz_T0, [(np, .inl (G.2.1, 64, .inl zp))], [(nq, .inl (G.2.1, 64, .inl zq))], [(nc, .inl (G.2.1, 64, .inl zc))], [(nl, .inl (G.2.1, 64, .inl zl))], [(nv, .inl (G.2.1, 64, .inl zv))], [(ng, .inl (G.2.1, 10, .inl zg))], [(nu, .inl (G.2.1, 10, .inl zu))], [(nf, .inl (G.2.1, 10, .inl zf))], [(nk, .inl (G.2.1, 10, .inl zk))], [(nt, .inl (G.2.1, 10, .inl zt))]]) ⟨hx, hb, hml, hown, hts⟩ (c_X3_move l G x (sv 0) (ah 0) (t 0) V a S h Y b R cw (nI sh) (by assumption) (by assumption) (by assumption) (by assumption)) (cwV 2 hts gL_law_X3_move rfl rfl rfl (by decide +kernel) ⟨Nat.le_of_ble_eq_true rfl, Nat.le_of_ble_eq_true rfl⟩) hK hP hD hS hA [0, 1, 4, 5, 6, 7, 8, 9, 10] [2, 3, 11, 12, 13, 14, 15, 16, 17, 18, 19, 20, 21] [13, 14, 0, 1, 15, 16, 17, 18, 19, 20, 21, 2, 3, 4, 5, 6, 7, 8, 9, 10, 11, 12] rfl (by decide) rfl (by decide) (by decide) rfl (by decide) (kz_recv hK hP (ci := 3) (q0 := 0) rfl rfl) rfl hl.1 rfl (Nat.le_of_ble_eq_true rfl) dL_law_827 ⟨Nat.le_of_ble_eq_true rfl, Nat.le_of_ble_eq_true rfl⟩ (fun H locs hP hD hS => ?_)
      obtain ⟨eans, I1⟩ := ps_opMove1 hI R (y := nI sh) c_3
      have I2 := I1 (-6) (if_pos c_19).symm
      refine lv_iload hx hb dL_law_830 (lv_at hl 2 rfl) ?_
      refine lv_icmp_ne (tgt := 839) hx hb dL_law_832 (by decide) (fun c => absurd c (by exact fun z => z (eans))) (fun c_20 => ?_)
      refine lv_iconst (v := 1) hx hb dL_law_835 (by decide +kernel) ?_
      refine lv_goto (tgt := 840) hx hb dL_law_836 (by decide) ?_
      refine lv_istore (lv' := [(17, .int 1), (13, .int (-6)), (12, .int 4), (21, .int (-1)), (20, .int (nI sh)), (19, .int (L_by_r zp zc zt cw)), (18, .int cw), (0, .ref bb), (1, .ref x), (2, .ref np), (3, .ref nq), (4, .ref nc), (5, .ref nl), (6, .ref nv), (7, .ref ng), (8, .ref nu), (9, .ref nf), (10, .ref nk), (11, .ref nt), (14, .int (nI i)), (15, .int hh)]) hx hb dL_law_840 hl (by decide) rfl (fun ls hl => ?_)
      refine lv_goto (tgt := 1172) hx hb dL_law_842 (by decide) ?_
      exact KK (X3_move_s0 V S Y R cw (nI sh)) (X3_move_s1 V S Y R cw (nI sh)) (X3_move_s2 V S Y R cw (nI sh)) (X3_move_s3 V S Y R cw (nI sh)) zp zq zc zl zv zg zu zf zk zt 4 (-6) I2 H locs ls hP hD hS (lv_sub hl [0, 7, 8, 9, 10, 11, 12, 13, 14, 15, 16, 17, 18, 2, 1, 19] rfl)
    · refine lv_iconst (v := 5) hx hb dL_law_702 (by decide +kernel) ?_
      refine lv_goto (tgt := 708) hx hb dL_law_703 (by decide) ?_
      refine lv_istore (lv' := [(13, .int 5), (12, .int 4), (21, .int (-1)), (20, .int (nI sh)), (19, .int (L_by_r zp zc zt cw)), (18, .int cw), (0, .ref bb), (1, .ref x), (2, .ref np), (3, .ref nq), (4, .ref nc), (5, .ref nl), (6, .ref nv), (7, .ref ng), (8, .ref nu), (9, .ref nf), (10, .ref nk), (11, .ref nt), (14, .int (nI i)), (15, .int hh)]) hx hb dL_law_708 hl (by decide) rfl (fun ls hl => ?_)
      refine lv_goto (tgt := 822) hx hb dL_law_710 (by decide) ?_
      refine lv_aload_n hx hb dL_law_822 rfl (lv_at hl 7 rfl) ?_
      refine lv_iload hx hb dL_law_823 (lv_at hl 5 rfl) ?_
      refine lv_iload hx hb dL_law_825 (lv_at hl 3 rfl) ?_
      refine kz_miV (As := [.int cw, .int (nI sh)]) (rest := []) (b := x) (wr := [shW G sv kz_S0, shW G ah kz_S0, txW G t kz_T0, [(np, .inl (G.2.1, 64, .inl zp))], [(nq, .inl (G.2.1, 64, .inl zq))], [(nc, .inl (G.2.1, 64, .inl zc))], [(nl, .inl (G.2.1, 64, .inl zl))], [(nv, .inl (G.2.1, 64, .inl zv))], [(ng, .inl (G.2.1, 10, .inl zg))], [(nu, .inl (G.2.1, 10, .inl zu))], [(nf, .inl (G.2.1, 10, .inl zf))], [(nk, .inl (G.2.1, 10, .inl zk))], [(nt, .inl (G.2.1, 10, .inl zt))]]) (bs' := [xoW x (a 0) (sv 0) (ah 0) (h 0) (t 0) (X3_move_s0 V S Y R cw (nI sh)), shW G a (X3_move_s1 V S Y R cw (nI sh)), shW G sv kz_S0, shW G ah kz_S0, hsW G h (fun j => b j 0) (X3_move_s2 V S Y R cw (nI sh)), shW G (b 0) ((X3_move_s3 V S Y R cw (nI sh)) 0), shW G (b 1) ((X3_move_s3 V S Y R cw (nI sh)) 1), shW G (b 2) ((X3_move_s3 V S Y R cw (nI sh)) 2), shW G (b 3) ((X3_move_s3 V S Y R cw (nI sh)) 3), shW G (b 4) ((X3_move_s3 V S Y R cw (nI sh)) 4), shW G (b 5) ((X3_move_s3 V S Y R cw (nI sh)) 5), txW G t kz_T0, [(np, .inl (G.2.1, 64, .inl zp))], [(nq, .inl (G.2.1, 64, .inl zq))], [(nc, .inl (G.2.1, 64, .inl zc))], [(nl, .inl (G.2.1, 64, .inl zl))], [(nv, .inl (G.2.1, 64, .inl zv))], [(ng, .inl (G.2.1, 10, .inl zg))], [(nu, .inl (G.2.1, 10, .inl zu))], [(nf, .inl (G.2.1, 10, .inl zf))], [(nk, .inl (G.2.1, 10, .inl zk))], [(nt, .inl (G.2.1, 10, .inl zt))]]) ⟨hx, hb, hml, hown, hts⟩ (c_X3_move l G x (sv 0) (ah 0) (t 0) V a S h Y b R cw (nI sh) (by assumption) (by assumption) (by assumption) (by assumption)) (cwV 2 hts gL_law_X3_move rfl rfl rfl (by decide +kernel) ⟨Nat.le_of_ble_eq_true rfl, Nat.le_of_ble_eq_true rfl⟩) hK hP hD hS hA [0, 1, 4, 5, 6, 7, 8, 9, 10] [2, 3, 11, 12, 13, 14, 15, 16, 17, 18, 19, 20, 21] [13, 14, 0, 1, 15, 16, 17, 18, 19, 20, 21, 2, 3, 4, 5, 6, 7, 8, 9, 10, 11, 12] rfl (by decide) rfl (by decide) (by decide) rfl (by decide) (kz_recv hK hP (ci := 3) (q0 := 0) rfl rfl) rfl hl.1 rfl (Nat.le_of_ble_eq_true rfl) dL_law_827 ⟨Nat.le_of_ble_eq_true rfl, Nat.le_of_ble_eq_true rfl⟩ (fun H locs hP hD hS => ?_)
      obtain ⟨eans, I1⟩ := ps_opMove1 hI R (y := nI sh) c_3
      have I2 := I1 5 (if_neg c_19).symm
      refine lv_iload hx hb dL_law_830 (lv_at hl 2 rfl) ?_
      refine lv_icmp_ne (tgt := 839) hx hb dL_law_832 (by decide) (fun c => absurd c (by exact fun z => z (eans))) (fun c_21 => ?_)
      refine lv_iconst (v := 1) hx hb dL_law_835 (by decide +kernel) ?_
      refine lv_goto (tgt := 840) hx hb dL_law_836 (by decide) ?_
      refine lv_istore (lv' := [(17, .int 1), (13, .int 5), (12, .int 4), (21, .int (-1)), (20, .int (nI sh)), (19, .int (L_by_r zp zc zt cw)), (18, .int cw), (0, .ref bb), (1, .ref x), (2, .ref np), (3, .ref nq), (4, .ref nc), (5, .ref nl), (6, .ref nv), (7, .ref ng), (8, .ref nu), (9, .ref nf), (10, .ref nk), (11, .ref nt), (14, .int (nI i)), (15, .int hh)]) hx hb dL_law_840 hl (by decide) rfl (fun ls hl => ?_)
      refine lv_goto (tgt := 1172) hx hb dL_law_842 (by decide) ?_
      exact KK (X3_move_s0 V S Y R cw (nI sh)) (X3_move_s1 V S Y R cw (nI sh)) (X3_move_s2 V S Y R cw (nI sh)) (X3_move_s3 V S Y R cw (nI sh)) zp zq zc zl zv zg zu zf zk zt 4 5 I2 H locs ls hP hD hS (lv_sub hl [0, 7, 8, 9, 10, 11, 12, 13, 14, 15, 16, 17, 18, 2, 1, 19] rfl)
end KL
