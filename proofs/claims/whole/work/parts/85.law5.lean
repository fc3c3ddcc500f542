section KL
theorem kl_sw (y : Int32) : (y = 0 ∨ y = 1 ∨ y = 2 ∨ y = 3 ∨ y = 4 ∨ y = 5 ∨ y = 6 ∨ y = 7 ∨ y = 8 ∨ y = 9 ∨ y = 10 ∨ y = 11 ∨ y = 12 ∨ y = 13 ∨ y = 14 ∨ y = 15 ∨ y = 16 ∨ y = 17 ∨ y = 18 ∨ y = 19 ∨ y = 20 ∨ y = 21 ∨ y = 22 ∨ y = 23 ∨ y = 24 ∨ y = 25 ∨ y = 26 ∨ y = 27 ∨ y = 28) ∨ (y.toInt < 0 ∨ 28 < y.toInt) := by
  by_cases h0 : y.toInt < 0
  · exact Or.inr (Or.inl h0)
  · by_cases h1 : 28 < y.toInt
    · exact Or.inr (Or.inr h1)
    · refine Or.inl ?_
      have hp : ¬ y < 0 := fun q => h0 (Int32.lt_iff_toInt_lt.mp q)
      obtain ⟨j, hj, rfl⟩ := nI_of hp
      rw [nI_toInt hj] at h1
      rcases (show j = 0 ∨ j = 1 ∨ j = 2 ∨ j = 3 ∨ j = 4 ∨ j = 5 ∨ j = 6 ∨ j = 7 ∨ j = 8 ∨ j = 9 ∨ j = 10 ∨ j = 11 ∨ j = 12 ∨ j = 13 ∨ j = 14 ∨ j = 15 ∨ j = 16 ∨ j = 17 ∨ j = 18 ∨ j = 19 ∨ j = 20 ∨ j = 21 ∨ j = 22 ∨ j = 23 ∨ j = 24 ∨ j = 25 ∨ j = 26 ∨ j = 27 ∨ j = 28 by omega) with rfl | rfl | rfl | rfl | rfl | rfl | rfl | rfl | rfl | rfl | rfl | rfl | rfl | rfl | rfl | rfl | rfl | rfl | rfl | rfl | rfl | rfl | rfl | rfl | rfl | rfl | rfl | rfl | rfl
      · exact (Or.inl rfl)
      · exact (Or.inr (Or.inl rfl))
      · exact (Or.inr (Or.inr (Or.inl rfl)))
      · exact (Or.inr (Or.inr (Or.inr (Or.inl rfl))))
      · exact (Or.inr (Or.inr (Or.inr (Or.inr (Or.inl rfl)))))
      · exact (Or.inr (Or.inr (Or.inr (Or.inr (Or.inr (Or.inl rfl))))))
      · exact (Or.inr (Or.inr (Or.inr (Or.inr (Or.inr (Or.inr (Or.inl rfl)))))))
      · exact (Or.inr (Or.inr (Or.inr (Or.inr (Or.inr (Or.inr (Or.inr (Or.inl rfl))))))))
      · exact (Or.inr (Or.inr (Or.inr (Or.inr (Or.inr (Or.inr (Or.inr (Or.inr (Or.inl rfl)))))))))
      · exact (Or.inr (Or.inr (Or.inr (Or.inr (Or.inr (Or.inr (Or.inr (Or.inr (Or.inr (Or.inl rfl))))))))))
      · exact (Or.inr (Or.inr (Or.inr (Or.inr (Or.inr (Or.inr (Or.inr (Or.inr (Or.inr (Or.inr (Or.inl rfl)))))))))))
      · exact (Or.inr (Or.inr (Or.inr (Or.inr (Or.inr (Or.inr (Or.inr (Or.inr (Or.inr (Or.inr (Or.inr (Or.inl rfl))))))))))))
      · exact (Or.inr (Or.inr (Or.inr (Or.inr (Or.inr (Or.inr (Or.inr (Or.inr (Or.inr (Or.inr (Or.inr (Or.inr (Or.inl rfl)))))))))))))
      · exact (Or.inr (Or.inr (Or.inr (Or.inr (Or.inr (Or.inr (Or.inr (Or.inr (Or.inr (Or.inr (Or.inr (Or.inr (Or.inr (Or.inl rfl))))))))))))))
      · exact (Or.inr (Or.inr (Or.inr (Or.inr (Or.inr (Or.inr (Or.inr (Or.inr (Or.inr (Or.inr (Or.inr (Or.inr (Or.inr (Or.inr (Or.inl rfl)))))))))))))))
      · exact (Or.inr (Or.inr (Or.inr (Or.inr (Or.inr (Or.inr (Or.inr (Or.inr (Or.inr (Or.inr (Or.inr (Or.inr (Or.inr (Or.inr (Or.inr (Or.inl rfl))))))))))))))))
      · exact (Or.inr (Or.inr (Or.inr (Or.inr (Or.inr (Or.inr (Or.inr (Or.inr (Or.inr (Or.inr (Or.inr (Or.inr (Or.inr (Or.inr (Or.inr (Or.inr (Or.inl rfl)))))))))))))))))
      · exact (Or.inr (Or.inr (Or.inr (Or.inr (Or.inr (Or.inr (Or.inr (Or.inr (Or.inr (Or.inr (Or.inr (Or.inr (Or.inr (Or.inr (Or.inr (Or.inr (Or.inr (Or.inl rfl))))))))))))))))))
      · exact (Or.inr (Or.inr (Or.inr (Or.inr (Or.inr (Or.inr (Or.inr (Or.inr (Or.inr (Or.inr (Or.inr (Or.inr (Or.inr (Or.inr (Or.inr (Or.inr (Or.inr (Or.inr (Or.inl rfl)))))))))))))))))))
      · exact (Or.inr (Or.inr (Or.inr (Or.inr (Or.inr (Or.inr (Or.inr (Or.inr (Or.inr (Or.inr (Or.inr (Or.inr (Or.inr (Or.inr (Or.inr (Or.inr (Or.inr (Or.inr (Or.inr (Or.inl rfl))))))))))))))))))))
      · exact (Or.inr (Or.inr (Or.inr (Or.inr (Or.inr (Or.inr (Or.inr (Or.inr (Or.inr (Or.inr (Or.inr (Or.inr (Or.inr (Or.inr (Or.inr (Or.inr (Or.inr (Or.inr (Or.inr (Or.inr (Or.inl rfl)))))))))))))))))))))
      · exact (Or.inr (Or.inr (Or.inr (Or.inr (Or.inr (Or.inr (Or.inr (Or.inr (Or.inr (Or.inr (Or.inr (Or.inr (Or.inr (Or.inr (Or.inr (Or.inr (Or.inr (Or.inr (Or.inr (Or.inr (Or.inr (Or.inl rfl))))))))))))))))))))))
      · exact (Or.inr (Or.inr (Or.inr (Or.inr (Or.inr (Or.inr (Or.inr (Or.inr (Or.inr (Or.inr (Or.inr (Or.inr (Or.inr (Or.inr (Or.inr (Or.inr (Or.inr (Or.inr (Or.inr (Or.inr (Or.inr (Or.inr (Or.inl rfl)))))))))))))))))))))))
      · exact (Or.inr (Or.inr (Or.inr (Or.inr (Or.inr (Or.inr (Or.inr (Or.inr (Or.inr (Or.inr (Or.inr (Or.inr (Or.inr (Or.inr (Or.inr (Or.inr (Or.inr (Or.inr (Or.inr (Or.inr (Or.inr (Or.inr (Or.inr (Or.inl rfl))))))))))))))))))))))))
      · exact (Or.inr (Or.inr (Or.inr (Or.inr (Or.inr (Or.inr (Or.inr (Or.inr (Or.inr (Or.inr (Or.inr (Or.inr (Or.inr (Or.inr (Or.inr (Or.inr (Or.inr (Or.inr (Or.inr (Or.inr (Or.inr (Or.inr (Or.inr (Or.inr (Or.inl rfl)))))))))))))))))))))))))
      · exact (Or.inr (Or.inr (Or.inr (Or.inr (Or.inr (Or.inr (Or.inr (Or.inr (Or.inr (Or.inr (Or.inr (Or.inr (Or.inr (Or.inr (Or.inr (Or.inr (Or.inr (Or.inr (Or.inr (Or.inr (Or.inr (Or.inr (Or.inr (Or.inr (Or.inr (Or.inl rfl))))))))))))))))))))))))))
      · exact (Or.inr (Or.inr (Or.inr (Or.inr (Or.inr (Or.inr (Or.inr (Or.inr (Or.inr (Or.inr (Or.inr (Or.inr (Or.inr (Or.inr (Or.inr (Or.inr (Or.inr (Or.inr (Or.inr (Or.inr (Or.inr (Or.inr (Or.inr (Or.inr (Or.inr (Or.inr (Or.inl rfl)))))))))))))))))))))))))))
      · exact (Or.inr (Or.inr (Or.inr (Or.inr (Or.inr (Or.inr (Or.inr (Or.inr (Or.inr (Or.inr (Or.inr (Or.inr (Or.inr (Or.inr (Or.inr (Or.inr (Or.inr (Or.inr (Or.inr (Or.inr (Or.inr (Or.inr (Or.inr (Or.inr (Or.inr (Or.inr (Or.inr (Or.inl rfl))))))))))))))))))))))))))))
      · exact (Or.inr (Or.inr (Or.inr (Or.inr (Or.inr (Or.inr (Or.inr (Or.inr (Or.inr (Or.inr (Or.inr (Or.inr (Or.inr (Or.inr (Or.inr (Or.inr (Or.inr (Or.inr (Or.inr (Or.inr (Or.inr (Or.inr (Or.inr (Or.inr (Or.inr (Or.inr (Or.inr (Or.inr rfl))))))))))))))))))))))))))))
variable {p : Program} {l : Launch} {e : Env} {s : State} {m : MethodId} {below : List Frame} {meth : Method} {c : Code} {bb L i : Nat} {xs : Nat → Int32} {G : kz_G} {x : Nat} {a sv ah h t o : Nat → Nat} {b : Nat → Nat → Nat} {V S Sv Sa Y : kz_S} {R : Nat → kz_S} {T M : kz_S}
/-- how many ints are left -/
theorem kl_left {i L : Nat} (hL : L ≤ 2048) (hi : i ≤ L) (c : ¬ Int32.ofNat L - 4 < nI i) : i + 4 ≤ L := by
  rcases Nat.lt_or_ge L (i + 4) with q | q
  · refine absurd (Int32.lt_iff_toInt_lt.mpr ?_) c
    have e : (Int32.ofNat L - 4).toInt = (L : Int) - (4 : Nat) := pk_sub_toInt (a := L) (b := 4) (by omega) (by omega)
    rw [e, nI_toInt (by omega)]
    omega
  · exact q
set_option maxHeartbeats 1000000 in
set_option maxRecDepth 100000 in
/-- the law's loop -/
theorem kl_loop (C0 : kl_C p s m c bb L xs G) (hL : L ≤ 2048) (hr : meth.sig.returnType = ret) (hlocks : meth.locks = false) : ∀ (n i : Nat) (V S Sv Sa Y : kz_S) (R : Nat → kz_S) (T M : kz_S), i ≤ L → L + 1 ≤ i + n → kl_I V S Sv Y R T M → kl_at p l e s m below meth c bb G x a sv ah h t o b i 18 V S Sv Sa Y R T M
  | 0, i, V, S, Sv, Sa, Y, R, T, M, h1, h2, I => absurd h2 (by omega)
  | n + 1, i, V, S, Sv, Sa, Y, R, T, M, h1, h2, I => by
    obtain ⟨hx, hb, hml, hown, hts, hX, hbl, hK, hZ⟩ := id C0
    have hbA : ¬ (fun q : Nat => s.heap.size ≤ q) bb := Nat.not_le.mpr hbl
    intro H locs ls hP hD hS hl
    refine lv_iload_n hx hb dL_law_18 rfl (lv_at hl 3 rfl) ?_
    refine lv_aload_n hx hb dL_law_19 rfl (lv_at hl 0 rfl) ?_
    refine va_slen hx hb hX hbl hbA hS dL_law_20 ?_
    refine lv_iconst (v := 4) hx hb dL_law_21 (by decide +kernel) ?_
    refine lv_isub hx hb dL_law_22 ?_
    refine lv_icmp_gt (tgt := 867) hx hb dL_law_23 (by decide) (fun _ => ?_) (fun c9 => ?_)
    · refine lv_iconst (v := 1) hx hb dL_law_867 (by decide +kernel) ?_
      refine va_forget (fun q hq => hS.2.2 q hq) ?_
      refine W.widen (k := 600000) (n := 7302250) (Nat.le_of_ble_eq_true rfl) (Nat.le_of_ble_eq_true rfl) ?_
      exact lw_ret hx hb hr hlocks dL_law_868
    · have hi4 := kl_left hL h1 c9
      have hi0 : vp_in (nI i) L := vp_in_nI (by omega) (by omega)
      have KK : kl_K p l e s m below meth c bb G x a sv ah h t o b i := by
        intro V S Sv Sa Y R T M I H locs ls hP hD hS hl
        refine lv_iinc (v := nI (i + 4)) (lv' := [(3, .int (nI (i + 4))), (0, .ref bb), (1, .ref x), (2, .ref (o 0))]) hx hb dL_law_861 hl (k := 3) rfl (nI_add i 4) (by decide) rfl (fun ls hl => ?_)
        refine lv_goto (tgt := 18) hx hb dL_law_864 (by decide) ?_
        exact (kl_loop C0 hL hr hlocks n (i + 4) V S Sv Sa Y R T M hi4 (by omega) I) _ _ _ hP hD hS (lv_sub hl [1, 2, 3, 0] rfl)
      refine lv_aload_n hx hb dL_law_26 rfl (lv_at hl 0 rfl) ?_
      refine lv_iload_n hx hb dL_law_27 rfl (lv_at hl 3 rfl) ?_
      refine va_sld hx hb hX hbl hbA hS hi0 dL_law_28 ?_
      refine lv_bipush (v := 31) hx hb dL_law_29 (by decide +kernel) ?_
      refine lv_iand hx hb dL_law_31 ?_
      refine lv_topi (fun y ey => ?_)
      clear ey
      rcases kl_sw y with hk | hout
      · rcases hk with rfl | rfl | rfl | rfl | rfl | rfl | rfl | rfl | rfl | rfl | rfl | rfl | rfl | rfl | rfl | rfl | rfl | rfl | rfl | rfl | rfl | rfl | rfl | rfl | rfl | rfl | rfl | rfl | rfl
        · refine lv_tableIn (off := 132) (tgt := 164) hx hb dL_law_32 (by decide +kernel) (by decide +kernel) (by decide +kernel) (by decide) ?_
          exact kl_c_set C0 hi4 hL I KK H locs ls hP hD hS hl
        · refine lv_tableIn (off := 165) (tgt := 197) hx hb dL_law_32 (by decide +kernel) (by decide +kernel) (by decide +kernel) (by decide) ?_
          exact kl_c_setting C0 hi4 hL I KK H locs ls hP hD hS hl
        · refine lv_tableIn (off := 188) (tgt := 220) hx hb dL_law_32 (by decide +kernel) (by decide +kernel) (by decide +kernel) (by decide) ?_
          exact kl_c_come C0 hi4 hL I KK H locs ls hP hD hS hl
        · refine lv_tableIn (off := 221) (tgt := 253) hx hb dL_law_32 (by decide +kernel) (by decide +kernel) (by decide +kernel) (by decide) ?_
          exact kl_c_fetch C0 hi4 hL I KK H locs ls hP hD hS hl
        · refine lv_tableIn (off := 244) (tgt := 276) hx hb dL_law_32 (by decide +kernel) (by decide +kernel) (by decide +kernel) (by decide) ?_
          exact kl_c_refuse C0 hi4 hL I KK H locs ls hP hD hS hl
        · refine lv_tableIn (off := 267) (tgt := 299) hx hb dL_law_32 (by decide +kernel) (by decide +kernel) (by decide +kernel) (by decide) ?_
          exact kl_c_move C0 hi4 hL I KK H locs ls hP hD hS hl
        · refine lv_tableIn (off := 300) (tgt := 332) hx hb dL_law_32 (by decide +kernel) (by decide +kernel) (by decide +kernel) (by decide) ?_
          exact kl_c_pass C0 hi4 hL I KK H locs ls hP hD hS hl
        · refine lv_tableIn (off := 323) (tgt := 355) hx hb dL_law_32 (by decide +kernel) (by decide +kernel) (by decide +kernel) (by decide) ?_
          exact kl_c_call C0 hi4 hL I KK H locs ls hP hD hS hl
        · refine lv_tableIn (off := 346) (tgt := 378) hx hb dL_law_32 (by decide +kernel) (by decide +kernel) (by decide +kernel) (by decide) ?_
          exact kl_c_day C0 hi4 hL I KK H locs ls hP hD hS hl
        · refine lv_tableIn (off := 359) (tgt := 391) hx hb dL_law_32 (by decide +kernel) (by decide +kernel) (by decide +kernel) (by decide) ?_
          exact kl_c_parcel C0 hi4 hL I KK H locs ls hP hD hS hl
        · refine lv_tableIn (off := 392) (tgt := 424) hx hb dL_law_32 (by decide +kernel) (by decide +kernel) (by decide +kernel) (by decide) ?_
          exact kl_c_codeAt C0 hi4 hL I KK H locs ls hP hD hS hl
        · refine lv_tableIn (off := 425) (tgt := 457) hx hb dL_law_32 (by decide +kernel) (by decide +kernel) (by decide +kernel) (by decide) ?_
          exact kl_c_shelf C0 hi4 hL I KK H locs ls hP hD hS hl
        · refine lv_tableIn (off := 458) (tgt := 490) hx hb dL_law_32 (by decide +kernel) (by decide +kernel) (by decide +kernel) (by decide) ?_
          exact kl_c_sender C0 hi4 hL I KK H locs ls hP hD hS hl
        · refine lv_tableIn (off := 491) (tgt := 523) hx hb dL_law_32 (by decide +kernel) (by decide +kernel) (by decide +kernel) (by decide) ?_
          exact kl_c_total C0 hi4 hL I KK H locs ls hP hD hS hl
        · refine lv_tableIn (off := 514) (tgt := 546) hx hb dL_law_32 (by decide +kernel) (by decide +kernel) (by decide +kernel) (by decide) ?_
          exact kl_c_refusal C0 hi4 hL I KK H locs ls hP hD hS hl
        · refine lv_tableIn (off := 537) (tgt := 569) hx hb dL_law_32 (by decide +kernel) (by decide +kernel) (by decide +kernel) (by decide) ?_
          exact kl_c_isCode C0 hi4 hL I KK H locs ls hP hD hS hl
        · refine lv_tableIn (off := 560) (tgt := 592) hx hb dL_law_32 (by decide +kernel) (by decide +kernel) (by decide +kernel) (by decide) ?_
          exact kl_c_codeOf C0 hi4 hL I KK H locs ls hP hD hS hl
        · refine lv_tableIn (off := 603) (tgt := 635) hx hb dL_law_32 (by decide +kernel) (by decide +kernel) (by decide +kernel) (by decide) ?_
          exact kl_c_restsUntil C0 hi4 hL I KK H locs ls hP hD hS hl
        · refine lv_tableIn (off := 626) (tgt := 658) hx hb dL_law_32 (by decide +kernel) (by decide +kernel) (by decide +kernel) (by decide) ?_
          exact kl_c_nextCode C0 hi4 hL I KK H locs ls hP hD hS hl
        · refine lv_tableIn (off := 649) (tgt := 681) hx hb dL_law_32 (by decide +kernel) (by decide +kernel) (by decide +kernel) (by decide) ?_
          exact kl_c_feeIn C0 hi4 hL I KK H locs ls hP hD hS hl
        · refine lv_tableIn (off := 682) (tgt := 714) hx hb dL_law_32 (by decide +kernel) (by decide +kernel) (by decide +kernel) (by decide) ?_
          exact kl_c_goesIn C0 hi4 hL I KK H locs ls hP hD hS hl
        · refine lv_tableIn (off := 705) (tgt := 737) hx hb dL_law_32 (by decide +kernel) (by decide +kernel) (by decide +kernel) (by decide) ?_
          exact kl_c_chargesIn C0 hi4 hL I KK H locs ls hP hD hS hl
        · refine lv_tableIn (off := 728) (tgt := 760) hx hb dL_law_32 (by decide +kernel) (by decide +kernel) (by decide +kernel) (by decide) ?_
          exact kl_c_append C0 hi4 hL I KK H locs ls hP hD hS hl
        · refine lv_tableIn (off := 751) (tgt := 783) hx hb dL_law_32 (by decide +kernel) (by decide +kernel) (by decide +kernel) (by decide) ?_
          exact kl_c_clearText C0 hi4 hL I KK H locs ls hP hD hS hl
        · refine lv_tableIn (off := 764) (tgt := 796) hx hb dL_law_32 (by decide +kernel) (by decide +kernel) (by decide +kernel) (by decide) ?_
          exact kl_c_errorPosition C0 hi4 hL I KK H locs ls hP hD hS hl
        · refine lv_tableIn (off := 777) (tgt := 809) hx hb dL_law_32 (by decide +kernel) (by decide +kernel) (by decide +kernel) (by decide) ?_
          exact kl_c_execute C0 hi4 hL I KK H locs ls hP hD hS hl
        · refine lv_tableIn (off := 790) (tgt := 822) hx hb dL_law_32 (by decide +kernel) (by decide +kernel) (by decide +kernel) (by decide) ?_
          exact kl_c_undo C0 hi4 hL I KK H locs ls hP hD hS hl
        · refine lv_tableIn (off := 803) (tgt := 835) hx hb dL_law_32 (by decide +kernel) (by decide +kernel) (by decide +kernel) (by decide) ?_
          exact kl_c_save C0 hi4 hL I KK H locs ls hP hD hS hl
        · refine lv_tableIn (off := 816) (tgt := 848) hx hb dL_law_32 (by decide +kernel) (by decide +kernel) (by decide +kernel) (by decide) ?_
          exact kl_c_restore C0 hi4 hL I KK H locs ls hP hD hS hl
      · refine lv_tableOut (tgt := 861) hx hb dL_law_32 hout (by decide) ?_
        exact KK V S Sv Sa Y R T M I H locs ls hP hD hS hl
end KL
