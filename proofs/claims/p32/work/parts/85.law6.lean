section KL
variable {p : Program} {l : Launch} {e : Env} {s : State} {m : MethodId} {below : List Frame} {meth : Method} {c : Code} {bb L i : Nat} {xs : Nat → Int32} {G : kz_G} {x : Nat} {a sv ah h t : Nat → Nat} {b : Nat → Nat → Nat} {np nq nc nl nv ng nu nf nk nt : Nat} {V S Y : kz_S} {R : Nat → kz_S} {zp zq zc zl zv zg zu zf zk zt : Nat → Int32} {why beh : Int32} {D nP mL : Nat} {hh : Int32}
set_option maxHeartbeats 4000000 in
set_option maxRecDepth 100000 in
/-- the law's sixty steps -/
theorem kl_loop (C0 : kl_C p s m c bb L xs G) (hr : meth.sig.returnType = ret) (hlocks : meth.locks = false) : ∀ (n i : Nat) (V S Y : kz_S) (R : Nat → kz_S) (zp zq zc zl zv zg zu zf zk zt : Nat → Int32) (why beh : Int32), i ≤ 60 → 61 ≤ i + n → ps_I i V S Y zp zq zc zl zv zg zu zf zk zt why beh → kl_at p l e s m below meth c bb G x a sv ah h b t np nq nc nl nv ng nu nf nk nt 104 [(0, .ref bb), (1, .ref x), (2, .ref np), (3, .ref nq), (4, .ref nc), (5, .ref nl), (6, .ref nv), (7, .ref ng), (8, .ref nu), (9, .ref nf), (10, .ref nk), (11, .ref nt), (12, .int why), (13, .int beh), (14, .int (nI i))] V S Y R zp zq zc zl zv zg zu zf zk zt
  | 0, i, V, S, Y, R, zp, zq, zc, zl, zv, zg, zu, zf, zk, zt, why, beh, h1, h2, I0 => absurd h2 (by omega)
  | n + 1, i, V, S, Y, R, zp, zq, zc, zl, zv, zg, zu, zf, zk, zt, why, beh, h1, h2, I0 => by
    have C1 := C0
    obtain ⟨hx, hb, hml, hown, hts, ⟨hX, hL⟩, hbl, hK, hZ0⟩ := id C0
    have hA : ∀ q : Nat, s.heap.size ≤ q → kl_A s q := fun _ h => h
    have hbA : ¬ kl_A s bb := Nat.not_le.mpr hbl
    obtain ⟨⟨D, nP, mL, hR, hD9⟩, hv, hO, hC⟩ := I0
    intro H locs ls hP hD hS hl
    refine lv_iload hx hb dL_law_104 (lv_at hl 14 rfl) ?_
    refine lv_bipush (v := 60) hx hb dL_law_106 (by decide +kernel) ?_
    refine lv_icmp_ge (tgt := 1516) hx hb dL_law_108 (by decide) (fun c_1 => ?_) (fun c_1 => ?_)
    · refine lv_iconst (v := 1) hx hb dL_law_1516 (by decide +kernel) ?_
      refine va_forget (fun q hq => hS.2.2 q hq) ?_
      refine W.widen (k := 600000) (n := 7302250) (Nat.le_of_ble_eq_true rfl) (Nat.le_of_ble_eq_true rfl) ?_
      exact lw_ret hx hb hr hlocks dL_law_1517
    · have hi60 := kz_gt (a := 60) (b := i) c_1 (by omega) (by omega)
      have hI : ps_C i D nP mL V S Y zp zq zc zl zv zg zu zf zk zt why beh := ⟨hR, ⟨hD9, hi60⟩, hv, hO, hC⟩
      have KK : kl_K p l e s m below meth c bb G x a sv ah h b t np nq nc nl nv ng nu nf nk nt i := fun V S Y R zp zq zc zl zv zg zu zf zk zt why beh I1 => kl_tail C1 (by omega) I1 (kl_loop C1 hr hlocks n (i + 1) V S Y R zp zq zc zl zv zg zu zf zk zt why beh (by omega) (by omega) I1)
      refine lv_aload_n hx hb dL_law_111 rfl (lv_at hl 0 rfl) ?_
      refine lv_iload hx hb dL_law_112 (lv_at hl 14 rfl) ?_
      refine kz_rxS (As := [.ref bb, .int (nI i)]) (rest := []) ⟨hx, hb, hml, hown, hts⟩ (c_L_cell l bb L i xs (by omega) (by omega)) (va_cwS 2 hts gL_law_L_cell rfl rfl rfl (by decide +kernel) ⟨Nat.le_of_ble_eq_true rfl, Nat.le_of_ble_eq_true rfl⟩) hX hbl hbA hS rfl hl.1 rfl (Nat.le_of_ble_eq_true rfl) dL_law_114 ⟨Nat.le_of_ble_eq_true rfl, Nat.le_of_ble_eq_true rfl⟩ ?_
      refine lv_topi (fun hh ehh => ?_)
      clear ehh
      refine lv_istore (lv' := [(15, .int hh), (0, .ref bb), (1, .ref x), (2, .ref np), (3, .ref nq), (4, .ref nc), (5, .ref nl), (6, .ref nv), (7, .ref ng), (8, .ref nu), (9, .ref nf), (10, .ref nk), (11, .ref nt), (12, .int why), (13, .int beh), (14, .int (nI i))]) hx hb dL_law_117 hl (by decide) rfl (fun ls hl => ?_)
      refine lv_iload hx hb dL_law_119 (lv_at hl 0 rfl) ?_
      refine lv_bipush (v := 20) hx hb dL_law_121 (by decide +kernel) ?_
      refine kz_rdS (As := [.int hh, .int 20]) (rest := []) ⟨hx, hb, hml, hown, hts⟩ (c_L_low l G hh 20 (by omega) (by omega)) (va_cwS 2 hts gL_law_L_low rfl rfl rfl (by decide +kernel) ⟨Nat.le_of_ble_eq_true rfl, Nat.le_of_ble_eq_true rfl⟩) hK (hP.sub (cs := []) [] rfl) rfl hl.1 rfl (Nat.le_of_ble_eq_true rfl) dL_law_123 ⟨Nat.le_of_ble_eq_true rfl, Nat.le_of_ble_eq_true rfl⟩ ?_
      obtain ⟨kd, ekd⟩ : ∃ z, z = ps_lo hh 20 := ⟨_, rfl⟩
      have hkd : kd < 20 := by rw [ekd]; exact ps_lo_lt (by omega)
      refine lv_topi (fun y_2 ey_3 => ?_)
      obtain rfl : y_2 = nI kd := by rw [ey_3, ekd]
      refine lv_istore (lv' := [(16, .int (nI kd)), (15, .int hh), (0, .ref bb), (1, .ref x), (2, .ref np), (3, .ref nq), (4, .ref nc), (5, .ref nl), (6, .ref nv), (7, .ref ng), (8, .ref nu), (9, .ref nf), (10, .ref nk), (11, .ref nt), (12, .int why), (13, .int beh), (14, .int (nI i))]) hx hb dL_law_126 hl (by decide) rfl (fun ls hl => ?_)
      refine lv_iconst (v := 1) hx hb dL_law_128 (by decide +kernel) ?_
      refine lv_istore (lv' := [(17, .int 1), (16, .int (nI kd)), (15, .int hh), (0, .ref bb), (1, .ref x), (2, .ref np), (3, .ref nq), (4, .ref nc), (5, .ref nl), (6, .ref nv), (7, .ref ng), (8, .ref nu), (9, .ref nf), (10, .ref nk), (11, .ref nt), (12, .int why), (13, .int beh), (14, .int (nI i))]) hx hb dL_law_129 hl (by decide) rfl (fun ls hl => ?_)
      refine lv_iload hx hb dL_law_131 (lv_at hl 1 rfl) ?_
      refine lv_bipush (v := 9) hx hb dL_law_133 (by decide +kernel) ?_
      refine lv_icmp_ge (tgt := 322) hx hb dL_law_135 (by decide) (fun c_4 => ?_) (fun c_4 => ?_)
      · refine lv_iload hx hb dL_law_322 (lv_at hl 1 rfl) ?_
        refine lv_bipush (v := 12) hx hb dL_law_324 (by decide +kernel) ?_
        refine lv_icmp_ge (tgt := 470) hx hb dL_law_326 (by decide) (fun c_5 => ?_) (fun c_5 => ?_)
        · refine lv_iload hx hb dL_law_470 (lv_at hl 1 rfl) ?_
          refine lv_bipush (v := 14) hx hb dL_law_472 (by decide +kernel) ?_
          refine lv_icmp_ge (tgt := 629) hx hb dL_law_474 (by decide) (fun c_6 => ?_) (fun c_6 => ?_)
          · refine lv_iload hx hb dL_law_629 (lv_at hl 1 rfl) ?_
            refine lv_bipush (v := 14) hx hb dL_law_631 (by decide +kernel) ?_
            refine lv_icmp_ne (tgt := 845) hx hb dL_law_633 (by decide) (fun c_7 => ?_) (fun c_7 => ?_)
            · refine lv_iload hx hb dL_law_845 (lv_at hl 1 rfl) ?_
              refine lv_bipush (v := 17) hx hb dL_law_847 (by decide +kernel) ?_
              refine lv_icmp_ge (tgt := 945) hx hb dL_law_849 (by decide) (fun c_8 => ?_) (fun c_8 => ?_)
              · refine lv_iload hx hb dL_law_945 (lv_at hl 1 rfl) ?_
                refine lv_bipush (v := 17) hx hb dL_law_947 (by decide +kernel) ?_
                refine lv_icmp_ne (tgt := 1040) hx hb dL_law_949 (by decide) (fun c_9 => ?_) (fun c_9 => ?_)
                · exact kl_c_set C1 hI KK H locs ls hP hD hS (lv_sub hl [3, 4, 5, 6, 7, 8, 9, 10, 11, 12, 13, 14, 15, 16, 17, 2] rfl)
                · exact kl_c_call C1 hI KK H locs ls hP hD hS (lv_sub hl [3, 4, 5, 6, 7, 8, 9, 10, 11, 12, 13, 14, 15, 16, 17, 2] rfl)
              · exact kl_c_pass C1 hI KK H locs ls hP hD hS (lv_sub hl [3, 4, 5, 6, 7, 8, 9, 10, 11, 12, 13, 14, 15, 16, 17, 2] rfl)
            · exact kl_c_move C1 hI KK H locs ls hP hD hS (lv_sub hl [3, 4, 5, 6, 7, 8, 9, 10, 11, 12, 13, 14, 15, 16, 17, 2] rfl)
          · exact kl_c_refuse C1 hI KK H locs ls hP hD hS (lv_sub hl [3, 4, 5, 6, 7, 8, 9, 10, 11, 12, 13, 14, 15, 16, 17, 2] rfl)
        · exact kl_c_fetch C1 hI KK H locs ls hP hD hS (lv_sub hl [3, 4, 5, 6, 7, 8, 9, 10, 11, 12, 13, 14, 15, 16, 17, 2] rfl)
      · exact kl_c_come C1 hI KK H locs ls hP hD hS (lv_sub hl [3, 4, 5, 6, 7, 8, 9, 10, 11, 12, 13, 14, 15, 16, 17, 2] rfl)
end KL
