-- what is asked is answered alike
theorem kr_n6 {n : Nat} (h : n < 2 ^ 31) : ¬ nI n = (-6) := fun e => nI_pos h (e ▸ (by decide))
theorem kr_n1 {n : Nat} (h : n < 2 ^ 31) : ¬ nI n = (-1) := fun e => nI_pos h (e ▸ (by decide))
section KR
variable {D : Nat} {S V : kz_S} {z : Nat → Int32}
theorem kr_fee (h : kz_RS D S z) {p : Nat} (hp : p < 48) (ht : ¬ X1_isFree_p S p) (d : Int32) : X1_feeAfter_r S p d = X4_feeOn_r z p (z 5 + d) := by
  rcases h.2.1 p hp with ⟨a, -, -⟩ | ⟨w, q, hw, hq, a, b, s6, z0, e7, e8⟩
  · exact absurd a ht
  · rw [X1_feeAfter_r, X4_feeOn_r, e7, e8, h.1.1 2 (by omega), h.1.1 1 (by omega), kr_day h]
    by_cases c : z 5 + d - z (12 + 4 * p + 2) - z 1 ≤ 0
    · rw [if_pos c, if_neg (Int32.not_lt.mpr c), Int32.mul_zero]
    · rw [if_neg c, if_pos (Int32.not_le.mp c)]
theorem kr_fee0 (h : kz_RS D S z) {p : Nat} (hp : p < 48) (ht : ¬ X1_isFree_p S p) : X1_feeAfter_r S p 0 = X4_feeOn_r z p (z 5) := by
  rw [kr_fee h hp ht, Int32.add_zero]
theorem kr_setting (h : kz_RS D S z) (k : Int32) : X3_setting_r V S k = X4_setting_r z k := by
  rw [X3_setting_r, X4_setting_r]
  by_cases c : X3_isWithin_p k 0 4
  · rw [if_pos c, if_pos (show X4_in_p k 0 4 from c)]
    obtain ⟨j, hj, rfl⟩ := kz_wiE (n := 4) c rfl (by decide)
    rw [nI_clamp (by omega)]
    exact h.1.1 j (by omega)
  · rw [if_neg c, if_neg (show ¬ X4_in_p k 0 4 from c)]
theorem kr_codeOn (h : kz_RS D S z) {p : Nat} (hp : p < 48) (ht : ¬ X1_isFree_p S p) : X1_codeOn_r S p = X4_codeOn_r z p := by
  rcases h.2.1 p hp with ⟨a, -, -⟩ | ⟨w, q, hw, hq, a, b, -⟩
  · exact absurd a ht
  · rw [X1_codeOn_r, X4_codeOn_r, a, b, kr_code]
theorem kr_parcel (h : kz_RS D S z) (code k : Int32) : X3_parcel_r V S code k = X4_parcel_r z code k := by
  rw [X3_parcel_r, X4_parcel_r]
  rcases kr_place h code with ⟨a, b⟩ | ⟨p, hp, ht, a, b⟩
  · rw [if_pos a, if_pos b]
  · have n1 : ¬ nI p = (-1) := fun e => nI_pos (n := p) (by omega) (e ▸ (by decide))
    have n6 : ¬ nI p = (-6) := fun e => nI_pos (n := p) (by omega) (e ▸ (by decide))
    rw [a, b, if_neg n1, if_neg n6, nI_clamp (by omega), kr_fee0 h hp ht]
    rcases h.2.1 p hp with ⟨c, -, -⟩ | ⟨w, q, hw, hq, e5, e3, s6, z0, e7, e8⟩
    · exact absurd c ht
    · rw [show z (12 + 4 * p + 0) = nI (q + 1) from z0, s6, e7, e8, nI_pred]
theorem kr_codeAt (h : kz_RS D S z) (k p : Int32) : X3_codeAt_r V S k p = X4_codeAt_r z k p := by
  rw [X3_codeAt_r, X4_codeAt_r]
  by_cases c : X3_isPlace_p k p
  · rw [if_pos c, if_pos (show X4_isPlace_p k p from c)]
    obtain ⟨a, ha, rfl⟩ := kz_wiE (n := 5) c.1 rfl (by decide)
    obtain ⟨b, hb, rfl⟩ := kz_wiE (n := 7) c.2 rfl (by decide)
    rw [nI_clamp (by omega), nI_clamp (by omega)]
    have hp : 8 * a + b < 48 := by omega
    by_cases f : X1_isFree_p S (8 * a + b)
    · rw [if_pos f, if_neg ((kr_free h hp).mp f)]
    · rw [if_neg f, if_pos ((kr_tk h hp).mp f), kr_codeOn h hp f]
  · rw [if_neg c, if_neg (show ¬ X4_isPlace_p k p from c)]
theorem kr_isCode (code : Int32) : X3_isCode_r V code = X4_isCode_r code := by
  rw [X3_isCode_r, X4_isCode_r]
  by_cases c : X3_isWithin_p code 0 9999
  · rw [if_pos c, if_pos (show X4_in_p code 0 9999 from c)]
    rcases kr_ic (code := code) with ⟨a, b⟩ | ⟨k, hk, a, b⟩
    · rw [a, b]; rfl
    · rw [a, b, if_neg (nI_pos (by omega)), if_neg (kr_n6 (by omega))]
  · rw [if_neg c, if_neg (show ¬ X4_in_p code 0 9999 from c)]
theorem kr_codeOf (d k p : Int32) : X3_codeOf_r V d k p = X4_codeOf_r d k p := by
  rw [X3_codeOf_r, X4_codeOf_r, kr_code, kr_wd, Int32.mul_comm k 8]
theorem kr_restsUntil (hD : D < 2 ^ 20) (h : kz_RS D S z) (code : Int32) : X3_restsUntil_r V S code = X4_restsUntil_r z code := by
  rw [X3_restsUntil_r, X4_restsUntil_r]
  by_cases c : X3_isWithin_p code 0 9999
  · rw [if_pos c, if_pos (show X4_in_p code 0 9999 from c)]
    rcases kr_ic (code := code) with ⟨a, b⟩ | ⟨k, hk, a, b⟩
    · rw [a, b, if_pos (by decide), X4_restsOf_r, if_pos rfl, ite_self]
    · rw [a, b, if_neg (nI_pos (by omega))]
      by_cases r : X1_rests_p S (nI k)
      · rw [if_pos r, (kr_rests hD h hk).2 r, nI_clamp (by omega)]
      · rw [if_neg r, Decidable.not_not.mp (fun q => r ((kr_rests hD h hk).1.mpr q))]
  · rw [if_neg c, if_neg (show ¬ X4_in_p code 0 9999 from c)]
theorem kr_nextCode (hD : D < 2 ^ 20) (h : kz_RS D S z) (v : Int32) : X3_nextCode_r V S v = X4_nextCode_r z v := by
  rw [X3_nextCode_r, X4_nextCode_r]
  by_cases c : X3_isWithin_p v 0 2
  · rw [if_pos c, if_pos (show X4_in_p v 0 2 from c)]
    obtain ⟨j, hj, rfl⟩ := kz_wiE (n := 2) c rfl (by decide)
    rw [nI_clamp (by omega)]
    rcases kr_first hD h (a := 2 * j) (b := 5) (by omega) (by omega) with ⟨a, b⟩ | ⟨p, hp, -, a, b⟩
    · rw [if_pos a, if_pos b]
    · rw [a, b, if_neg (kr_n1 (by omega)), if_neg (kr_n6 (by omega)), kr_code, kr_wd, kr_day h]
  · rw [if_neg c, if_neg (show ¬ X4_in_p v 0 2 from c)]
theorem kr_feeIn (h : kz_RS D S z) (code d : Int32) : X3_feeIn_r V S code d = X4_feeIn_r z code d := by
  rw [X3_feeIn_r, X4_feeIn_r]
  rcases kr_place h code with ⟨a, b⟩ | ⟨p, hp, ht, a, b⟩
  · rw [if_pos a, if_pos b]
  · rw [a, b, if_neg (kr_n1 (by omega)), if_neg (kr_n6 (by omega)), nI_clamp (by omega), kr_fee h hp ht]
theorem kr_shelf (hD : D < 2 ^ 20) (h : kz_RS D S z) (k v : Int32) : X3_shelf_r V S k v = X4_shelf_r z k v := by
  rw [X3_shelf_r, X4_shelf_r]
  by_cases c : X3_isWithin_p k 0 5
  · rw [if_pos c, if_pos (show X4_in_p k 0 5 from c)]
    obtain ⟨a, ha, rfl⟩ := kz_wiE (n := 5) c rfl (by decide)
    rw [nI_clamp (by omega)]
    have e1 : X1_parcelsOnShelf_r S a = kz_cn (fun j => X4_isTaken_p z (8 * a + j)) 8 := kr_cn 8 (fun j hj => kr_tk h (by omega))
    have e2 : X1_restingOnShelf_r S a = kz_cn (fun j => ¬ X4_isTaken_p z (8 * a + j) ∧ X4_rests_p z (8 * a + j)) 8 := kr_cn 8 (fun j hj => by rw [kr_free h (by omega), kr_today hD h (by omega)])
    rw [e1, e2]
    by_cases c0 : v = 0
    · subst c0; rfl
    · rw [if_neg c0, if_neg c0]
      by_cases c1 : v = 1
      · subst c1; rfl
      · rw [if_neg c1, if_neg c1]
        by_cases c2 : v = 2
        · subst c2; rfl
        · rw [if_neg c2, if_neg (fun q => by
            obtain ⟨b, hb, rfl⟩ := kz_wiE (x := v) (n := 2) q rfl (by decide)
            rcases (show b = 0 ∨ b = 1 ∨ b = 2 by omega) with rfl | rfl | rfl
            · exact c0 rfl
            · exact c1 rfl
            · exact c2 rfl)]
  · rw [if_neg c, if_neg (show ¬ X4_in_p k 0 5 from c)]
theorem kr_sender (h : kz_RS D S z) (q v : Int32) : X3_sender_r V S q v = X4_sender_r z q v := by
  rw [X3_sender_r, X4_sender_r]
  by_cases c : X3_isWithin_p q 0 9
  · rw [if_pos c, if_pos (show X4_isSender_p q from c)]
    obtain ⟨a, ha, rfl⟩ := kz_wiE (n := 9) c rfl (by decide)
    rw [nI_clamp (by omega)]
    have e1 : X1_parcelsOfSender_r S (nI a) = kz_cn (fun j => z (12 + 4 * j + 0) = nI a + 1) 48 := by
      refine kr_cn 48 (fun j hj => ?_)
      show (¬ S 5 j = 0 ∧ S 6 j = nI a) ↔ z (12 + 4 * j) = nI a + 1
      rcases h.2.1 j hj with ⟨e5, z0, -⟩ | ⟨w, u, hw, hu, e5, e3, s6, z0, e7, e8⟩
      · rw [e5, z0, nI_1]
        exact ⟨fun x => absurd rfl x.1, fun x => absurd x.symm (nI_ne0 (by omega) (by omega))⟩
      · rw [e5, s6, z0, nI_1, nI_eq (by omega) (by omega), nI_eq (by omega) (by omega)]
        exact ⟨fun x => by omega, fun x => ⟨nI_ne0 (by omega) (by omega), by omega⟩⟩
    obtain ⟨⟨b, hb, b1, b2⟩, b3, b4, b5⟩ := h.2.2.2.1 a (by omega)
    rw [e1, b1, b3, b4, b5]
    generalize kz_cn (fun j => z (12 + 4 * j + 0) = nI a + 1) 48 = K
    by_cases c0 : v = 0
    · subst c0; rfl
    · rw [if_neg c0]
      by_cases c1 : v = 1
      · subst c1
        rw [if_pos rfl, if_pos (by decide), if_neg (by decide), show ((1 : Int32) - 1).toNatClampNeg = 0 by decide +kernel, Nat.add_zero, b2]
      · rw [if_neg c1]
        by_cases c2 : v = 2
        · subst c2; rw [if_pos rfl, if_pos (by decide), if_neg (by decide), show ((2 : Int32) - 1).toNatClampNeg = 1 by decide +kernel]
        · rw [if_neg c2]
          by_cases c3 : v = 3
          · subst c3; rw [if_pos rfl, if_pos (by decide), if_neg (by decide), show ((3 : Int32) - 1).toNatClampNeg = 2 by decide +kernel]
          · rw [if_neg c3]
            by_cases c4 : v = 4
            · subst c4; rw [if_pos rfl, if_pos (by decide), if_neg (by decide), show ((4 : Int32) - 1).toNatClampNeg = 3 by decide +kernel]
            · rw [if_neg c4, if_neg (fun q => by
                obtain ⟨b, hb, rfl⟩ := kz_wiE (x := v) (n := 4) q rfl (by decide)
                rcases (show b = 0 ∨ b = 1 ∨ b = 2 ∨ b = 3 ∨ b = 4 by omega) with rfl | rfl | rfl | rfl | rfl
                · exact c0 rfl
                · exact c1 rfl
                · exact c2 rfl
                · exact c3 rfl
                · exact c4 rfl)]
  · rw [if_neg c, if_neg (show ¬ X4_isSender_p q from c)]
theorem kr_parcels (h : kz_RS D S z) : X1_parcelsOnShelves_r S = X4_parcels_r z := by
  have e : X1_parcelsOnShelves_r S = kz_cn (fun j => ¬ X1_isFree_p S j) (8 * 6) := kr_cn8 (P := fun j => ¬ X1_isFree_p S j) 6
  rw [e]
  exact kr_cn 48 (fun j hj => kr_tk h hj)
theorem kr_locked (h : kz_RS D S z) : X1_isLocked_p S ↔ X4_isLocked_p z := by
  obtain ⟨u, hu, a, b⟩ := h.1.2.2.2.1
  show ¬ S 2 0 < 3 ↔ z 6 = 3
  rw [a, b]
  rcases (show u = 0 ∨ u = 1 ∨ u = 2 ∨ u = 3 by omega) with rfl | rfl | rfl | rfl <;> decide
theorem kr_total (h : kz_RS D S z) (v : Int32) : X3_total_r V S v = X4_total_r z v := by
  obtain ⟨h1, h2, h3, ⟨u, hu, u1, u2⟩, h5, h6, h7, h8, h9⟩ := h.1
  have e1 : X3_sum_r (S 10) = X4_inBins_r z := kr_sm 10 (fun j hj => by
    obtain ⟨⟨b, hb, b1, b2⟩, -⟩ := h.2.2.2.1 j hj
    rw [b1]; exact b2.symm)
  have e9 : X1_feesOnShelves_r S = X4_fees_r z := kr_sp 48 (fun j hj => kr_tk h hj) (fun j hj ht => kr_fee0 h hj ht)
  have e8 : (if X1_isLocked_p S then (1 : Int32) else 0) = if X4_isLocked_p z then 1 else 0 := kz_ifc (kr_locked h)
  rw [X3_total_r, X4_total_r, kr_parcels h, e1, h5, show X3_sum_r (S 12) = z 8 from h7, show X3_sum_r (S 13) = z 9 from h8, h6, show X3_sum_r (S 11) = z 11 from h9, e8, e9, u1.trans u2.symm]
  by_cases c2 : v = 2
  · subst c2; rfl
  · by_cases c3 : v = 3
    · subst c3; rfl
    · by_cases c4 : v = 4
      · subst c4; rfl
      · by_cases c5 : v = 5
        · subst c5; rfl
        · by_cases c6 : v = 6
          · subst c6; rfl
          · rw [if_neg c2, if_neg c3, if_neg c4, if_neg c5, if_neg c6, if_neg c2, if_neg c3, if_neg c4, if_neg c5, if_neg c6]
end KR
