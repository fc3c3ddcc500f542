/-! PURE: days -/
section PS
variable {N D n m : Nat} {S : kz_S} {zp zq zc zl zv zg zu zf zk zt : Nat → Int32}
theorem ps_frame {T : kz_S} {g' u' k' : Nat → Int32} (h : ps_R N D n m S zp zq zc zl zv zg zu zf zk zt) (hb : ps_bn T g' u' zf k') (e0 : T 0 = S 0) (e1 : T 1 = S 1) (e2 : T 2 = S 2) (e3 : T 3 = S 3) (e4 : T 4 = S 4) (e5 : T 5 = S 5) (e6 : T 6 = S 6) (e7 : T 7 = S 7) (e8 : T 8 = S 8) (e9 : T 9 = S 9) : ps_R N D n m T zp zq zc zl zv g' u' zf k' zt := by
  obtain ⟨hst, hbn, hpa, hlf, hnm⟩ := h
  refine ⟨?_, hb, ?_, ?_, ?_⟩
  · unfold ps_st; rw [e0]; exact hst
  · unfold ps_pa ps_pc; rw [e5, e6, e7, e8]; exact hpa
  · unfold ps_lf; rw [e9]; exact hlf
  · unfold ps_nm; rw [e1, e2, e3, e4]; exact hnm
theorem ps_cour0 (h : ¬ kz_rem (zt 5 + 1) 3 = 0) : ∀ i, L_co zt zg zu zk i = (zg, zu, zk)
  | 0 => rfl
  | i + 1 => by rw [L_co, ps_cour0 h i, L_cst, if_neg (fun q => h q.1)]
theorem ps_cour1 (h : kz_rem (zt 5 + 1) 3 = 0) (hb : ps_bn S zg zu zf zk) (h2 : zt 2 = S 0 2) (h4 : zt 4 = S 0 4) : ∀ i, i ≤ 10 → ps_bn (X1_cour S i) (L_co zt zg zu zk i).1 (L_co zt zg zu zk i).2.1 zf (L_co zt zg zu zk i).2.2 ∧ ∀ k, k ≠ 10 → k ≠ 11 → k ≠ 13 → (X1_cour S i) k = S k
  | 0, _ => ⟨hb, fun _ _ _ _ => rfl⟩
  | i + 1, hi => by
    obtain ⟨b, c⟩ := ps_cour1 h hb h2 h4 i (by omega)
    have e10 := (b i (by omega)).1.1
    have c0 := c 0 (by omega) (by omega) (by omega)
    rw [X1_cour, L_co, X1_cstep, L_cst]
    by_cases q : X1_cour S i 10 i < X1_cour S i 0 4
    · rw [if_pos q, if_neg (fun r => r.2 (by rw [e10, h4, ← c0]; exact q))]
      exact ⟨b, c⟩
    · rw [if_neg q, if_pos ⟨h, fun r => q (by rw [← e10, c0, ← h4]; exact r)⟩]
      obtain ⟨h1, -⟩ := ps_takesB (t := L_d1 zt) b (((pk_un (by decide)).trans (pk_un (by decide))).trans (h2.trans (by rw [c0]))) (by omega : i < 10) 4
      refine ⟨h1, fun k h10 h11 h13 => ?_⟩
      rw [X1_emptyBin_s, va_up_ne _ _ h10, va_up_ne _ _ h13, va_up_ne _ _ h11]
      exact c k h10 h11 h13
set_option maxHeartbeats 1000000 in
theorem ps_retI (h : ps_R N D n m S zp zq zc zl zv zg zu zf zk zt) (hN : N ≤ 60) (hD : D ≤ 600) : ∀ a, a ≤ 48 → ∃ m', ps_R N D n m' (X1_ret S a).1 (L_re zq zc (zp, zl, zv, zg, zt, 0) a).1 zq zc (L_re zq zc (zp, zl, zv, zg, zt, 0) a).2.1 (L_re zq zc (zp, zl, zv, zg, zt, 0) a).2.2.1 (L_re zq zc (zp, zl, zv, zg, zt, 0) a).2.2.2.1 zu zf zk (L_re zq zc (zp, zl, zv, zg, zt, 0) a).2.2.2.2.1 ∧ (L_re zq zc (zp, zl, zv, zg, zt, 0) a).2.2.2.2.2 = (X1_ret S a).2
  | 0, _ => ⟨m, h, rfl⟩
  | a + 1, ha => by
    obtain ⟨m', r, ex⟩ := ps_retI h hN hD a (by omega)
    rw [X1_ret, L_re, X1_rstep, L_rst]
    generalize X1_ret S a = A at r ex ⊢
    generalize L_re zq zc (zp, zl, zv, zg, zt, 0) a = Z at r ex ⊢
    obtain ⟨T, x⟩ := A
    obtain ⟨p2, l2, v2, g2, t2, y⟩ := Z
    have r9 : ps_R N D n m' T p2 zq zc l2 v2 g2 zu zf zk t2 := r
    have ex9 : y = x := ex
    clear r ex
    subst ex9
    have ha8 : a < 48 := by omega
    rcases ps_rOn r9 hN ha8 with ⟨h5, hon⟩ | ⟨k, hk, ek, hon, h5⟩
    · have hg1 : ¬ X1_goes_p T a := fun q => q.1.1 h5
      have hg2 : ¬ L_goes zq p2 g2 t2 a := fun q => q.1 (by rw [hon]; decide)
      rw [if_neg hg1, if_neg hg2]
      exact ⟨m', r9, rfl⟩
    · obtain ⟨w, hw, ec, a5, a6, a7, a8, ⟨s, hs, es⟩, -, -⟩ := ps_rAt r9 hD hk ha8 ek
      have hnb := ps_n r9
      have eJ : L_dJ p2 t2 a = k := by
        show (L_on_r p2 t2 (nI a)).toNatClampNeg = k
        rw [hon, nI_clamp (by omega)]
      have e6 : (T 6 a).toNatClampNeg = s := by rw [a6, es, nI_clamp (by omega)]
      have e6' : (L_sender_r zq k).toNatClampNeg = s := by rw [es, nI_clamp (by omega)]
      have r5 : t2 5 = T 1 0 := r9.2.2.2.2.1.1.trans r9.2.2.2.2.1.2.symm
      have r3 : t2 3 = T 0 3 := r9.1.1 3 (by omega)
      have r10 : g2 s = T 10 s := (r9.2.1 s hs).1.1
      have hiff : L_goes zq p2 g2 t2 a ↔ X1_goes_p T a := by
        unfold L_goes X1_goes_p X1_isKeptTooLong_p
        rw [eJ, r5, ← a8, r3, e6', e6, r10, hon]
        exact ⟨fun q => ⟨⟨h5, q.2.1⟩, q.2.2⟩, fun q => ⟨nI_pos (by omega), q.1.2, q.2⟩⟩
      by_cases q : X1_goes_p T a
      · rw [if_pos q, if_pos (hiff.mpr q)]
        have rb := ps_bin r9 hs (by have := q.2; rw [e6] at this; exact this)
        have rl := ps_leave rb hN hk ha8 ek
        refine ⟨m' + 1, ?_, rfl⟩
        show ps_R N D n (m' + 1) (X1_leave_s (va_up T 10 (upd (T 10) (T 6 a).toNatClampNeg (T 10 (T 6 a).toNatClampNeg + 1))) a) (L_leaves_s0 p2 zc l2 v2 t2 (L_dJ p2 t2 a)) zq zc (L_leaves_s2 p2 zc l2 v2 t2 (L_dJ p2 t2 a)) (L_leaves_s3 p2 zc l2 v2 t2 (L_dJ p2 t2 a)) (L_gb zq p2 g2 t2 a) zu zf zk (L_leaves_s4 p2 zc l2 v2 t2 (L_dJ p2 t2 a))
        unfold L_gb
        rw [eJ, e6, e6']
        exact rl
      · rw [if_neg q, if_neg (fun z => q (hiff.mp z))]
        exact ⟨m', r9, rfl⟩
theorem ps_day (h : ps_R N D n m S zp zq zc zl zv zg zu zf zk zt) (hN : N ≤ 60) (hD : D + 1 ≤ 600) : ∃ m', ps_R N (D + 1) n m' (X1_beginDay_s S) (L_day_s0 zp zq zc zl zv zg zu zk zt) zq zc (L_day_s3 zp zq zc zl zv zg zu zk zt) (L_day_s4 zp zq zc zl zv zg zu zk zt) (L_day_s5 zp zq zc zl zv zg zu zk zt) (L_day_s6 zp zq zc zl zv zg zu zk zt) zf (L_day_s7 zp zq zc zl zv zg zu zk zt) (L_day_s8 zp zq zc zl zv zg zu zk zt) ∧ L_day_r zp zq zc zl zv zg zu zk zt = X1_beginDay_r S := by
  have h1 := ps_begin h
  have e5 : zt 5 = S 1 0 := h.2.2.2.2.1.1.trans h.2.2.2.2.1.2.symm
  rw [X1_beginDay_s, X1_beginDay_r]
  by_cases c : kz_rem (S 1 0 + 1) 3 = 0
  · rw [if_pos c, if_pos c]
    obtain ⟨b, cc⟩ := ps_cour1 (zt := zt) (by rw [e5]; exact c) h1.2.1 (h.1.1 2 (by omega)) (h.1.1 4 (by omega)) 10 (Nat.le_refl _)
    have h2 := ps_frame h1 b (cc 0 (by omega) (by omega) (by omega)) (cc 1 (by omega) (by omega) (by omega)) (cc 2 (by omega) (by omega) (by omega)) (cc 3 (by omega) (by omega) (by omega)) (cc 4 (by omega) (by omega) (by omega)) (cc 5 (by omega) (by omega) (by omega)) (cc 6 (by omega) (by omega) (by omega)) (cc 7 (by omega) (by omega) (by omega)) (cc 8 (by omega) (by omega) (by omega)) (cc 9 (by omega) (by omega) (by omega))
    obtain ⟨m', r, ex⟩ := ps_retI h2 hN hD 48 (Nat.le_refl _)
    rw [L_day_s0, L_day_s3, L_day_s4, L_day_s5, L_day_s6, L_day_s7, L_day_s8, L_day_r, L_dayZ, X1_returnParcelsKeptTooLong_s, X1_returnParcelsKeptTooLong_r, X1_letCourierCome_s]
    exact ⟨m', r, ex⟩
  · rw [if_neg c, if_neg c]
    have ec := ps_cour0 (zt := zt) (zg := zg) (zu := zu) (zk := zk) (by rw [e5]; exact c) 10
    have h2 : ps_R N (D + 1) n m (va_up (va_up S 1 (fun _ => S 1 0 + 1)) 2 (fun _ => 0)) zp zq zc zl zv (L_co zt zg zu zk 10).1 (L_co zt zg zu zk 10).2.1 zf (L_co zt zg zu zk 10).2.2 (L_d1 zt) := by rw [ec]; exact h1
    obtain ⟨m', r, ex⟩ := ps_retI h2 hN hD 48 (Nat.le_refl _)
    rw [L_day_s0, L_day_s3, L_day_s4, L_day_s5, L_day_s6, L_day_s7, L_day_s8, L_day_r, L_dayZ, X1_returnParcelsKeptTooLong_s, X1_returnParcelsKeptTooLong_r]
    exact ⟨m', r, ex⟩
/-- a day's needs -/
theorem ps_dyR (h : ps_R N D n m S zp zq zc zl zv zg zu zf zk zt) (hN : N ≤ 60) (hD : D ≤ 600) : ps_dy zp zq zt := by
  have hn := ps_n h
  have hm := ps_m h
  refine ⟨n, by omega, h.2.2.2.2.2.2.1.1, fun i hi => ?_, m, h.2.2.2.2.2.2.2.1, by omega⟩
  obtain ⟨s, hs, e⟩ := ps_rS h hD hi
  rw [e]
  exact vp_in_nI hs (by decide)
end PS
