-- move, pass, call, set
section KR
variable {D : Nat} {S T V : kz_S} {z y : Nat → Int32}
theorem kr_move (h : kz_R9 S z) {a b : Int32} (v6 : V 6 0 = a) (v7 : V 7 0 = b) (code k : Int32) : kr_op (X3_moveParcel_s0 V S code k) (X3_moveParcel_s1 V S code k) (X3_moveParcel_r V S code k) z (X4_whyNotMove_r z a b code k) (X4_moves_c0 z code k) (X4_whyNotMove_c6 z a b code k) (X4_whyNotMove_c7 z a b code k) (X4_moves_r z code k) := by
  obtain ⟨D, hD, e5, h0⟩ := id h
  rw [X3_moveParcel_s0, X3_moveParcel_s1, X3_moveParcel_r, X4_whyNotMove_r, X4_whyNotMove_c6, X4_whyNotMove_c7, X4_moves_r, X4_moves_c0]
  rcases kr_place h0 code with ⟨f1, f2⟩ | ⟨p, hp, ht, f1, f2⟩
  · rw [if_pos f1, if_pos f1, if_pos f1, if_pos f2, if_pos f2, if_pos f2]
    have er : X4_refuseCode_r z code = -1 := by rw [X4_refuseCode_r, ite_self]
    rw [er]
    exact ⟨(kr_noParcel (by omega) h0 code).1, (kr_noParcel (by omega) h0 code).2, Or.inl ⟨by decide, by decide, rfl, h⟩⟩
  · rw [f1, f2, if_neg (kr_n1 (by omega)), if_neg (kr_n1 (by omega)), if_neg (kr_n1 (by omega)), if_neg (kr_n6 (by omega)), if_neg (kr_n6 (by omega)), if_neg (kr_n6 (by omega)), nI_clamp (n := p) (by omega)]
    obtain ⟨w, q, hw, hq, a5, a3, a6, a0, a7, a8⟩ := kr_tkn h0 hp ht
    obtain ⟨⟨v, hv, ev⟩, c, hc, ec⟩ := h0.2.2.2.2 p hp ((kr_tk h0 hp).mp ht)
    by_cases g : X3_isWithin_p k 0 5
    · have g' : X4_in_p k 0 5 := g
      rw [if_pos g, if_pos g, if_pos g, if_pos g', if_pos g', if_pos g']
      obtain ⟨j, hj, rfl⟩ := kz_wiE (n := 5) g rfl (by decide)
      rw [nI_clamp (n := j) (by omega)]
      by_cases s1 : nI j = nI p / 8
      · rw [if_pos s1, if_pos s1, if_pos s1, if_pos s1.symm, if_pos s1.symm, if_pos s1.symm]
        exact ⟨v6, v7, Or.inl ⟨by decide, by decide, rfl, h⟩⟩
      · have s1' : ¬ nI p / 8 = nI j := fun e => s1 e.symm
        rw [if_neg s1, if_neg s1, if_neg s1, if_neg s1', if_neg s1', if_neg s1', X3_sizeOfShelf_r, a7]
        by_cases s2 : z (12 + 4 * p + 1) ≤ nI j / 2
        · rw [if_pos s2, if_pos s2, if_pos s2, if_pos s2, if_pos s2, if_pos s2]
          rcases kr_first (by omega) h0 (a := j) (b := j) (by omega) (by omega) with ⟨r1, r2⟩ | ⟨t, ht8, hg, r1, r2⟩
          · rw [if_pos r1, if_pos r1, if_pos r1, if_pos r2, if_pos r2, if_pos r2]
            exact ⟨(kr_noPlace h0 (by omega) (by omega)).1, (kr_noPlace h0 (by omega) (by omega)).2, Or.inl ⟨by decide, by decide, rfl, h⟩⟩
          · rw [r1, r2, if_neg (kr_n1 (by omega)), if_neg (kr_n1 (by omega)), if_neg (kr_n1 (by omega)), if_neg (kr_n6 (by omega)), if_neg (kr_n6 (by omega)), if_neg (kr_n6 (by omega)), nI_clamp (n := t) (by omega)]
            have hne : p ≠ t := fun e => ht (e ▸ hg.1)
            have h1 := kr_put (by omega) h0 ht8 (q := q) (v := v) (c := c) hq hv hc
            have k1 : ¬ X1_isFree_p (X1_put_s S t (nI q) (nI v) (nI c)) p := by
              show ¬ upd (S 5) t _ p = 0
              rw [pk_un hne]
              exact ht
            have h2 := kr_leave h1 hp k1
            have k2 : ¬ X1_isFree_p (X1_leave_s (X1_put_s S t (nI q) (nI v) (nI c)) p) t := by
              rw [X1_leave_s, if_neg k1]
              show ¬ upd (upd (S 5) t (X3_weekdayOf_r (S 1 0))) p 0 t = 0
              obtain ⟨d, hd, d1⟩ := h0.1.2.2.1
              rw [pk_un (Ne.symm hne), pk_us, d1.1, X3_weekdayOf_r, kz_wdN (by omega)]
              exact nI_ne0 (by omega) (by omega)
            rw [show z (12 + 4 * p + 0) = nI (q + 1) from a0, nI_pred, a6, a8, ev, ec]
            refine ⟨v6, v7, Or.inr ⟨by decide, kr_codeOnNN h2 ht8 k2, kr_codeOn h2 ht8 k2, D, hD, ?_, h2⟩⟩
            rw [kr_leave5 h1 hp k1, kz_lay5, e5]
        · rw [if_neg s2, if_neg s2, if_neg s2, if_neg s2, if_neg s2, if_neg s2]
          exact ⟨v6, v7, Or.inl ⟨by decide, by decide, rfl, h⟩⟩
    · have g' : ¬ X4_in_p k 0 5 := g
      rw [if_neg g, if_neg g, if_neg g, if_neg g', if_neg g', if_neg g']
      exact ⟨v6, v7, Or.inl ⟨by decide, by decide, rfl, h⟩⟩
theorem kr_pass (h : kz_R9 S z) {a b : Int32} (v6 : V 6 0 = a) (v7 : V 7 0 = b) (d : Int32) : kr_op V (X3_letPass_s S d) (X3_letPass_r S d) z (X4_whyNotPass_r z d) (X4_passes_c0 z d.toNatClampNeg) a b (X4_passes_r z d.toNatClampNeg) := by
  obtain ⟨D, hD, e5, h0⟩ := id h
  rw [X3_letPass_s, X3_letPass_r, X4_whyNotPass_r, X4_passes_c0, X4_passes_r]
  by_cases c : X3_isWithin_p d 1 30
  · have c' : X4_in_p d 1 30 := c
    rw [if_pos c, if_pos c, if_pos c']
    have h1 : ¬ d < 0 := fun q => c.1 (Int32.lt_trans q (by decide))
    obtain ⟨n, hn, rfl⟩ := nI_of2 (M := 30) (n := 30) (by decide) h1 (Int32.not_lt.mp c.2)
    have s1 : S 1 0 = nI D := (kr_day h0).trans e5
    have e9 : (9999 : Int32) - nI n = nI (9999 - n) := kz_subN (a := 9999) (by omega)
    rw [nI_clamp (n := n) (by omega), s1, e9, e5, nI_add]
    obtain ⟨p1, p2, p3, k, hk, pk⟩ := kr_psn h0 e5 n
    by_cases l : nI D ≤ nI (9999 - n)
    · have l1 : D ≤ 9999 - n := kz_le l (by omega) (by omega)
      have l2 : nI (D + n) ≤ 9999 := nI_le (a := D + n) (b := 9999) (by omega) (by omega)
      rw [if_pos l, if_pos l, if_pos l2]
      refine ⟨v6, v7, Or.inr ⟨by decide, ?_, p3, D + n, by omega, p2, p1⟩⟩
      rw [p3, pk]
      exact kr_ok (by omega)
    · have l1 := kz_gt l (by omega) (by omega)
      have l2 : ¬ nI (D + n) ≤ 9999 := nI_ge (a := 9999) (b := D + n) (by omega) (by omega)
      rw [if_neg l, if_neg l, if_neg l2]
      exact ⟨v6, v7, Or.inl ⟨by decide, by decide, rfl, h⟩⟩
  · have c' : ¬ X4_in_p d 1 30 := c
    rw [if_neg c, if_neg c, if_neg c']
    exact ⟨v6, v7, Or.inl ⟨by decide, by decide, rfl, h⟩⟩
theorem kr_takes5 {k : Nat} {v : Int32} : X4_takes_c0 z k v 5 = z 5 := kz_takes5
/-- call and set: refused, or done -/
theorem kr_call (h : kz_R9 S z) (z1 : Nat → Int32) (z2 q : Int32) : X3_callCourier_r V S q = X4_call_r z z1 z2 q ∧ kz_R9 (X3_callCourier_s V S q) (X4_call_c0 z z1 z2 q) ∧ ((X3_isError_p (X3_callCourier_r V S q) ∧ X4_call_c1 z z1 z2 q = z1 ∧ X4_call_c2 z z1 z2 q = z2) ∨ (¬ X3_isError_p (X3_callCourier_r V S q) ∧ X4_call_c1 z z1 z2 q = X4_record_c1 z z1 z2 ∧ X4_call_c2 z z1 z2 q = X4_record_c2 z z1 z2)) := by
  obtain ⟨D, hD, e5, h0⟩ := id h
  rw [X3_callCourier_r, X3_callCourier_s, X4_call_r, X4_call_c0, X4_call_c1, X4_call_c2]
  by_cases c : X3_isWithin_p q 0 9
  · have c' : X4_isSender_p q := c
    rw [if_pos c, if_pos c, if_pos c', if_pos c', if_pos c', if_pos c']
    obtain ⟨i, hi, rfl⟩ := kz_wiE (n := 9) c rfl (by decide)
    rw [nI_clamp (n := i) (by omega)]
    obtain ⟨⟨b, hb, b1, b2⟩, -⟩ := h0.2.2.2.1 i (by omega)
    obtain ⟨r, hr, er⟩ := h0.1.2.1 2 (by omega)
    have e2 : z (540 + 4 * i + 0) = nI b := b2
    rw [b1, e2]
    by_cases k : nI b = 0
    · rw [if_pos k, if_pos k, if_pos k, if_pos k, if_pos k, if_pos k]
      exact ⟨rfl, h, Or.inl ⟨by decide, rfl, rfl⟩⟩
    · rw [if_neg k, if_neg k, if_neg k, if_neg k, if_neg k, if_neg k]
      obtain ⟨t1, t2⟩ := kr_takes h0 (k0 := i) (by omega) 6
      refine ⟨t2, ⟨D, hD, by rw [kz_takes5, e5], t1⟩, Or.inr ⟨?_, rfl, rfl⟩⟩
      rw [t2, X4_takes_r, e2, er, show (6 : Int32) * nI r = nI (6 * r) from pk_mul 6 r, pk_mul]
      have h1 : 6 * r * b ≤ 6 * 50 * 9 := Nat.mul_le_mul (by omega) hb
      exact kr_ok (by omega)
  · have c' : ¬ X4_isSender_p q := c
    rw [if_neg c, if_neg c, if_neg c', if_neg c', if_neg c', if_neg c']
    exact ⟨rfl, h, Or.inl ⟨by decide, rfl, rfl⟩⟩
end KR
