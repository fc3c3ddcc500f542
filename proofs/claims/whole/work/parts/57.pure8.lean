-- fetch, refuse
theorem kr_neg {a b : Nat} (ha : a < 2 ^ 30) (hb : b < 2 ^ 30) (h : a ≤ b) : nI a - nI b ≤ 0 := Int32.le_iff_toInt_le.mpr (by rw [pk_sub_toInt ha hb]; show (a : Int) - b ≤ 0; omega)
section KR
variable {D : Nat} {S T V : kz_S} {z y : Nat → Int32}
theorem kr_feeNN (h : kz_RS D S z) (hD : D ≤ 9999) (e5 : z 5 = nI D) {p : Nat} (hp : p < 48) (ht : ¬ X1_isFree_p S p) : ¬ X3_isError_p (X4_feeOn_r z p (z 5)) := by
  obtain ⟨⟨v, hv, ev⟩, c, hc, ec⟩ := h.2.2.2.2 p hp ((kr_tk h hp).mp ht)
  obtain ⟨f, hf, ef⟩ := h.1.2.1 1 (by omega)
  obtain ⟨r, hr, er⟩ := h.1.2.1 2 (by omega)
  rw [X4_feeOn_r, e5, ev, ec, ef, er, kz_subN hc]
  by_cases k : nI (D - c) - nI f ≤ 0
  · rw [if_pos k]
    exact kr_ok (n := 0) (by omega)
  · rw [if_neg k]
    have hlt : f ≤ D - c := by
      rcases Nat.le_total f (D - c) with q | q
      · exact q
      · exact absurd (kr_neg (by omega) (by omega) q) k
    rw [kz_subN hlt, nI_1, pk_mul, pk_mul]
    have h1 : (v + 1) * r ≤ 3 * 50 := Nat.mul_le_mul (by omega) hr
    have h2 : (v + 1) * r * (D - c - f) ≤ 3 * 50 * 9999 := Nat.mul_le_mul h1 (by omega)
    exact kr_ok (by omega)
theorem kr_leave5 (h : kz_RS D S z) {p : Nat} (hp : p < 48) (ht : ¬ X1_isFree_p S p) : X4_leave_c0 z p 5 = z 5 := by
  obtain ⟨w, q, hw, hq, a5, a3, -⟩ := kr_tkn h hp ht
  exact kz_leave5 hp ⟨w, hw, a3⟩
theorem kr_fetch (h : kz_R9 S z) {a b : Int32} (v6 : V 6 0 = a) (v7 : V 7 0 = b) (code : Int32) : kr_op (X3_letFetch_s0 V S code) (X3_letFetch_s1 V S code) (X3_letFetch_r V S code) z (X4_whyNotFetch_r z a b code) (X4_fetches_c0 z code) (X4_whyNotFetch_c6 z a b code) (X4_whyNotFetch_c7 z a b code) (X4_fetches_r z code) := by
  obtain ⟨D, hD, e5, h0⟩ := id h
  rw [X3_letFetch_s0, X3_letFetch_s1, X3_letFetch_r, X4_whyNotFetch_r, X4_whyNotFetch_c6, X4_whyNotFetch_c7]
  by_cases c : X3_isWithin_p code 0 9999
  · have c' : X4_in_p code 0 9999 := c
    rw [if_pos c, if_pos c, if_pos c, if_pos c', if_pos c', if_pos c']
    by_cases l : X1_isLocked_p S
    · have l' := (kr_locked h0).mp l
      rw [if_pos l, if_pos l, if_pos l, if_pos l', if_pos l', if_pos l']
      exact ⟨rfl, rfl, Or.inl ⟨by decide, by decide, rfl, h⟩⟩
    · have l' := fun q => l ((kr_locked h0).mpr q)
      rw [if_neg l, if_neg l, if_neg l, if_neg l', if_neg l', if_neg l', X4_fetches_r, X4_fetches_c0]
      rcases kr_place h0 code with ⟨f1, f2⟩ | ⟨p, hp, ht, f1, f2⟩
      · rw [if_pos f1, if_pos f1, if_pos f1, if_pos f2, if_pos f2]
        exact ⟨v6, v7, Or.inr ⟨by decide, by decide, rfl, D, hD, by rw [pk_un (by omega), e5], kr_wrong h0 l⟩⟩
      · rw [f1, f2, if_neg (kr_n1 (by omega)), if_neg (kr_n1 (by omega)), if_neg (kr_n1 (by omega)), if_neg (kr_n6 (by omega)), if_neg (kr_n6 (by omega)), nI_clamp (n := p) (by omega)]
        obtain ⟨w, q, hw, hq, a5, a3, a6, a0, a7, a8⟩ := kr_tkn h0 hp ht
        have ef := kr_fee0 h0 hp ht
        have eq : (S 6 p).toNatClampNeg = q := by rw [a6, nI_clamp (by omega)]
        have h1 := kr_paid h0 hq (X4_feeOn_r z p (z 5))
        have h2 := kr_leave h1 hp ht
        have ez : ((upd (upd z 10 (z 10 + X4_feeOn_r z p (z 5))) 8 ((upd z 10 (z 10 + X4_feeOn_r z p (z 5))) 8 + 1)) (12 + 4 * p + 0) - 1).toNatClampNeg = q := by
          rw [pk_un (by omega), pk_un (by omega), show z (12 + 4 * p + 0) = nI (q + 1) from a0, nI_pred, nI_clamp (by omega)]
        rw [ef, eq, ez]
        refine ⟨v6, v7, Or.inr ⟨by decide, kr_feeNN h0 hD e5 hp ht, rfl, D, hD, ?_, h2⟩⟩
        rw [kr_leave5 h1 hp ht, kz_count5, pk_un (by omega), pk_un (by omega), e5]
  · have c' : ¬ X4_in_p code 0 9999 := c
    rw [if_neg c, if_neg c, if_neg c, if_neg c', if_neg c', if_neg c']
    exact ⟨v6, v7, Or.inl ⟨by decide, by decide, rfl, h⟩⟩
theorem kr_lvup {p : Nat} (ht : ¬ X1_isFree_p S p) (g : Nat → Int32) : va_up (X1_leave_s S p) 10 g = X1_leave_s (va_up S 10 g) p := by
  have ht' : ¬ (va_up S 10 g) 5 p = 0 := ht
  rw [X1_leave_s, if_neg ht, X1_leave_s, if_neg ht']
  funext c
  by_cases e : c = 10
  · subst e
    rw [va_up_self, va_up_ne _ _ (by decide), va_up_ne _ _ (by decide), va_up_self]
  · rw [va_up_ne _ _ e]
    by_cases e5 : c = 5
    · subst e5
      rw [va_up_self, va_up_self]
      rfl
    · rw [va_up_ne _ _ e5, va_up_ne _ _ e5]
      by_cases e9 : c = 9
      · subst e9
        rw [va_up_self, va_up_self]
        rfl
      · rw [va_up_ne _ _ e9, va_up_ne _ _ e9, va_up_ne _ _ e]
theorem kr_leave10 {p : Nat} (ht : ¬ X1_isFree_p S p) : X1_leave_s S p 10 = S 10 := by
  rw [X1_leave_s, if_neg ht]
  rfl
theorem kr_refuse (h : kz_R9 S z) {a b : Int32} (v6 : V 6 0 = a) (v7 : V 7 0 = b) (code : Int32) : kr_op (X3_letRefuse_s0 V S code) (X3_letRefuse_s1 V S code) (X3_letRefuse_r V S code) z (X4_whyNotRefuse_r z a b code) (X4_goesBack_c0 z (X4_placeBy_r z code).toNatClampNeg) (X4_whyNotRefuse_c6 z a b code) (X4_whyNotRefuse_c7 z a b code) (X4_goesBack_r z (X4_placeBy_r z code).toNatClampNeg) := by
  obtain ⟨D, hD, e5, h0⟩ := id h
  rw [X3_letRefuse_s0, X3_letRefuse_s1, X3_letRefuse_r, X4_whyNotRefuse_r, X4_whyNotRefuse_c6, X4_whyNotRefuse_c7]
  rcases kr_place h0 code with ⟨f1, f2⟩ | ⟨p, hp, ht, f1, f2⟩
  · rw [if_pos f1, if_pos f1, if_pos f1, if_pos f2, if_pos f2, if_pos f2]
    have er : X4_refuseCode_r z code = -1 := by rw [X4_refuseCode_r, ite_self]
    rw [er]
    exact ⟨(kr_noParcel (by omega) h0 code).1, (kr_noParcel (by omega) h0 code).2, Or.inl ⟨by decide, by decide, rfl, h⟩⟩
  · rw [f1, f2, if_neg (kr_n1 (by omega)), if_neg (kr_n1 (by omega)), if_neg (kr_n1 (by omega)), if_neg (kr_n6 (by omega)), if_neg (kr_n6 (by omega)), if_neg (kr_n6 (by omega)), nI_clamp (n := p) (by omega)]
    obtain ⟨w, q, hw, hq, a5, a3, a6, a0, a7, a8⟩ := kr_tkn h0 hp ht
    obtain ⟨⟨n, hn, b1, b2⟩, -⟩ := h0.2.2.2.1 q hq
    have eq : (S 6 p).toNatClampNeg = q := by rw [a6, nI_clamp (by omega)]
    have ez : (z (12 + 4 * p + 0) - 1).toNatClampNeg = q := by
      rw [show z (12 + 4 * p + 0) = nI (q + 1) from a0, nI_pred, nI_clamp (by omega)]
    have e2 : z (540 + 4 * q + 0) = nI n := b2
    rw [eq, ez, e2, kr_leave10 ht, b1]
    by_cases c : nI n < 9
    · have hn9 : n < 9 := kz_lt (b := 9) c (by omega) (by omega)
      have c9 : ¬ nI n = 9 := fun e => absurd ((nI_eq (a := n) (b := 9) (by omega) (by omega)).mp e) (by omega)
      have h9 : ¬ 9 ≤ S 10 (S 6 p).toNatClampNeg := by rw [eq, b1]; exact Int32.not_le.mpr c
      have hb := kr_back h0 hp ht h9
      have h1 := kr_bin h0 hq (by rw [eq] at h9; exact h9)
      have eg : X4_goesBack_c0 z p = X4_leave_c0 (X4_count_c0 z q 0 1) p := by rw [X4_goesBack_c0, ez]
      rw [if_pos c, if_pos c, if_pos c, if_neg c9, if_neg c9, if_neg c9, kr_lvup ht]
      rw [eq, b1] at hb
      refine ⟨v6, v7, Or.inr ⟨by decide, ?_, ?_, D, hD, ?_, hb⟩⟩
      · rw [pk_us, nI_1]; exact kr_ok (by omega)
      · have hb2 := (hb.2.2.2.1 q hq).1
        obtain ⟨m, hm, m1, m2⟩ := hb2
        have er : X4_goesBack_r z p = X4_goesBack_c0 z p (540 + 4 * q) := by rw [X4_goesBack_r, eg, ez, Nat.add_zero]
        rw [er, m2, ← m1, ← kr_lvup ht]
        rfl
      · rw [eg, kr_leave5 h1 hp ht, kz_count5, e5]
    · have hn9 : n = 9 := by
        have := kz_ge (b := 9) c (by omega) (by omega)
        omega
      have c9 : nI n = 9 := by rw [hn9]; rfl
      rw [if_neg c, if_neg c, if_neg c, if_pos c9, if_pos c9, if_pos c9]
      exact ⟨rfl, rfl, Or.inl ⟨by decide, by decide, rfl, h⟩⟩
end KR
