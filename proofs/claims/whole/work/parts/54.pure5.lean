-- each change keeps the relation
theorem kr_smU {f : Nat → Int32} {q : Nat} {v : Int32} : ∀ n : Nat, kz_sm (upd f q (f q + v)) n = if q < n then kz_sm f n + v else kz_sm f n
  | 0 => by rw [if_neg (by omega)]; rfl
  | n + 1 => by
    rw [kz_sm, kz_sm, kr_smU n]
    by_cases c : q < n
    · rw [if_pos c, if_pos (by omega), pk_un (by omega), Int32.add_assoc, Int32.add_assoc, Int32.add_comm v]
    · rw [if_neg c]
      by_cases e : n = q
      · subst e; rw [if_pos (by omega), pk_us, Int32.add_assoc]
      · rw [if_neg (by omega), pk_un e]
section KR
variable {D : Nat} {S T V : kz_S} {z y : Nat → Int32}
theorem kr_hdF (h : kz_hd D S z) (e : ∀ j, j < 12 → y j = z j) (e0 : T 0 = S 0) (e1 : T 1 = S 1) (e2 : T 2 = S 2) (e3 : T 3 = S 3) (e4 : T 4 = S 4) (e11 : T 11 = S 11) (e12 : T 12 = S 12) (e13 : T 13 = S 13) : kz_hd D T y := by
  unfold kz_hd
  rw [e0, e1, e2, e3, e4, e11, e12, e13, e 5 (by omega), e 6 (by omega), e 7 (by omega), e 8 (by omega), e 9 (by omega), e 10 (by omega), e 11 (by omega)]
  exact ⟨fun k hk => (h.1 k hk).trans (e k (by omega)).symm, fun k hk => by rw [e k (by omega)]; exact h.2.1 k hk, h.2.2⟩
theorem kr_plF {p : Nat} (h : kz_pl z S p) (e0 : y (12 + 4 * p) = z (12 + 4 * p)) (e1 : y (12 + 4 * p + 1) = z (12 + 4 * p + 1)) (e2 : y (12 + 4 * p + 2) = z (12 + 4 * p + 2)) (e3 : y (12 + 4 * p + 3) = z (12 + 4 * p + 3)) (e5 : T 5 p = S 5 p) (e6 : T 6 p = S 6 p) (e7 : T 7 p = S 7 p) (e8 : T 8 p = S 8 p) : kz_pl y T p := by
  unfold kz_pl
  rw [e0, e1, e2, e3, e5, e6, e7, e8]
  exact h
theorem kr_bnF {k : Nat} (h : kz_bn z S k) (e0 : y (540 + 4 * k) = z (540 + 4 * k)) (e1 : y (540 + 4 * k + 1) = z (540 + 4 * k + 1)) (e2 : y (540 + 4 * k + 2) = z (540 + 4 * k + 2)) (e3 : y (540 + 4 * k + 3) = z (540 + 4 * k + 3)) (t0 : T 10 k = S 10 k) (t1 : T 11 k = S 11 k) (t2 : T 12 k = S 12 k) (t3 : T 13 k = S 13 k) : kz_bn y T k := by
  unfold kz_bn
  rw [e0, e1, e2, e3, t0, t1, t2, t3]
  exact h
theorem kr_bdF {p : Nat} (h : kz_bd D z p) (e0 : y (12 + 4 * p) = z (12 + 4 * p)) (e1 : y (12 + 4 * p + 1) = z (12 + 4 * p + 1)) (e2 : y (12 + 4 * p + 2) = z (12 + 4 * p + 2)) : kz_bd D y p := by
  unfold kz_bd
  rw [e0, e1, e2]
  exact h
theorem kr_tkn (h : kz_RS D S z) {p : Nat} (hp : p < 48) (ht : ¬ X1_isFree_p S p) : ∃ w q, w < 7 ∧ q < 10 ∧ S 5 p = nI (w + 1) ∧ z (12 + 4 * p + 3) = nI (w + 1) ∧ S 6 p = nI q ∧ z (12 + 4 * p) = nI (q + 1) ∧ S 7 p = z (12 + 4 * p + 1) ∧ S 8 p = z (12 + 4 * p + 2) :=
  (h.2.1 p hp).elim (fun a => absurd a.1 ht) id
theorem kr_leave (h : kz_RS D S z) {p : Nat} (hp : p < 48) (ht : ¬ X1_isFree_p S p) : kz_RS D (X1_leave_s S p) (X4_leave_c0 z p) := by
  obtain ⟨w, q, hw, hq, a5, a3, a6, a0, a7, a8⟩ := kr_tkn h hp ht
  obtain ⟨w', hw', b1, b2⟩ := kz_lvix (z := z) hp ⟨w, hw, a3⟩
  have ew : w' = w := by
    have e := b1.symm.trans a3
    rw [nI_eq (by omega) (by omega)] at e
    omega
  subst ew
  have i1 : (X3_indexFor_r (S 5 p) (nI p)).toNatClampNeg = 48 * w' + p := by
    rw [a5, X3_indexFor_r, kz_ixN, nI_clamp (by omega)]
  have eS : X1_leave_s S p = va_up (va_up S 9 (upd (S 9) (48 * w' + p) (S 1 0))) 5 (upd (S 5) p 0) := by
    rw [X1_leave_s, if_neg ht, i1]
  have eZ : X4_leave_c0 z p = upd (upd z (204 + (48 * w' + p)) (z 5)) (12 + 4 * p) 0 := by
    rw [X4_leave_c0, b2]
  rw [eS, eZ]
  have hk : 48 * w' + p < 336 := by omega
  generalize 48 * w' + p = k0 at hk
  obtain ⟨d, hd, d1, d5⟩ := h.1.2.2.1
  refine ⟨kr_hdF h.1 (fun j hj => by rw [pk_un (by omega), pk_un (by omega)]) rfl rfl rfl rfl rfl rfl rfl rfl, fun j hj => ?_, fun k hk9 => ?_, fun k hk9 => kr_bnF (h.2.2.2.1 k hk9) (by rw [pk_un (by omega), pk_un (by omega)]) (by rw [pk_un (by omega), pk_un (by omega)]) (by rw [pk_un (by omega), pk_un (by omega)]) (by rw [pk_un (by omega), pk_un (by omega)]) rfl rfl rfl rfl, fun j hj => ?_⟩
  · by_cases e : j = p
    · subst e
      exact Or.inl ⟨show upd (S 5) j 0 j = 0 from pk_us, pk_us, q, hq, a6⟩
    · exact kr_plF (h.2.1 j hj) (by rw [pk_un (by omega), pk_un (by omega)]) (by rw [pk_un (by omega), pk_un (by omega)]) (by rw [pk_un (by omega), pk_un (by omega)]) (by rw [pk_un (by omega), pk_un (by omega)]) (show upd (S 5) p 0 j = S 5 j from pk_un e) rfl rfl rfl
  · show kz_lf D (upd (S 9) k0 (S 1 0) k) _
    rw [pk_un (by omega : 204 + k ≠ 12 + 4 * p)]
    by_cases e : k = k0
    · subst e
      rw [pk_us, pk_us]
      exact Or.inr ⟨d, hd, d1, d5⟩
    · rw [pk_un e, pk_un (by omega)]
      exact h.2.2.1 k hk9
  · by_cases e : j = p
    · subst e
      exact fun t => absurd (show upd (upd z (204 + k0) (z 5)) (12 + 4 * j) 0 (12 + 4 * j) ≤ 0 by rw [pk_us]; decide) t
    · exact kr_bdF (h.2.2.2.2 j hj) (by rw [pk_un (by omega), pk_un (by omega)]) (by rw [pk_un (by omega), pk_un (by omega)]) (by rw [pk_un (by omega), pk_un (by omega)])
theorem kr_put (hD : D < 2 ^ 20) (h : kz_RS D S z) {p q v c : Nat} (hp : p < 48) (hq : q < 10) (hv : v ≤ 2) (hc : c ≤ D) : kz_RS D (X1_put_s S p (nI q) (nI v) (nI c)) (X4_lay_c0 z p (nI q) (nI v) (nI c)) := by
  obtain ⟨n, hn, d1, d5⟩ := h.1.2.2.1
  have eS : X1_put_s S p (nI q) (nI v) (nI c) = va_up (va_up (va_up (va_up S 5 (upd (S 5) p (nI (n % 7 + 1)))) 6 (upd (S 6) p (nI q))) 7 (upd (S 7) p (nI v))) 8 (upd (S 8) p (nI c)) := by
    rw [X1_put_s, d1, X3_weekdayOf_r, kz_wdN (by omega)]
  have eZ : X4_lay_c0 z p (nI q) (nI v) (nI c) = upd (upd (upd (upd z (12 + 4 * p) (nI (q + 1))) (12 + 4 * p + 1) (nI v)) (12 + 4 * p + 2) (nI c)) (12 + 4 * p + 3) (nI (n % 7 + 1)) := by
    rw [X4_lay_c0, pk_un (by omega), pk_un (by omega), pk_un (by omega), d5, X4_weekday_r, kz_wdN (by omega), nI_1]
  rw [eS, eZ]
  refine ⟨kr_hdF h.1 (fun j hj => by rw [pk_un (by omega), pk_un (by omega), pk_un (by omega), pk_un (by omega)]) rfl rfl rfl rfl rfl rfl rfl rfl, fun j hj => ?_, fun k hk9 => ?_, fun k hk9 => kr_bnF (h.2.2.2.1 k hk9) (by rw [pk_un (by omega), pk_un (by omega), pk_un (by omega), pk_un (by omega)]) (by rw [pk_un (by omega), pk_un (by omega), pk_un (by omega), pk_un (by omega)]) (by rw [pk_un (by omega), pk_un (by omega), pk_un (by omega), pk_un (by omega)]) (by rw [pk_un (by omega), pk_un (by omega), pk_un (by omega), pk_un (by omega)]) rfl rfl rfl rfl, fun j hj => ?_⟩
  · by_cases e : j = p
    · subst e
      refine Or.inr ⟨n % 7, q, Nat.mod_lt _ (by omega), hq, ?_, pk_us, ?_, ?_, ?_, ?_⟩
      · show upd (S 5) j (nI (n % 7 + 1)) j = nI (n % 7 + 1)
        exact pk_us
      · show upd (S 6) j (nI q) j = nI q
        exact pk_us
      · rw [pk_un (by omega), pk_un (by omega), pk_un (by omega), pk_us]
      · rw [pk_un (by omega), pk_un (by omega), pk_us]
        show upd (S 7) j (nI v) j = nI v
        exact pk_us
      · rw [pk_un (by omega), pk_us]
        show upd (S 8) j (nI c) j = nI c
        exact pk_us
    · exact kr_plF (h.2.1 j hj) (by rw [pk_un (by omega), pk_un (by omega), pk_un (by omega), pk_un (by omega)]) (by rw [pk_un (by omega), pk_un (by omega), pk_un (by omega), pk_un (by omega)]) (by rw [pk_un (by omega), pk_un (by omega), pk_un (by omega), pk_un (by omega)]) (by rw [pk_un (by omega), pk_un (by omega), pk_un (by omega), pk_un (by omega)]) (show upd (S 5) p _ j = S 5 j from pk_un e) (show upd (S 6) p _ j = S 6 j from pk_un e) (show upd (S 7) p _ j = S 7 j from pk_un e) (show upd (S 8) p _ j = S 8 j from pk_un e)
  · rw [pk_un (by omega), pk_un (by omega), pk_un (by omega), pk_un (by omega)]
    exact h.2.2.1 k hk9
  · by_cases e : j = p
    · subst e
      exact fun _ => ⟨⟨v, hv, by rw [pk_un (by omega), pk_un (by omega), pk_us]⟩, c, hc, by rw [pk_un (by omega), pk_us]⟩
    · exact kr_bdF (h.2.2.2.2 j hj) (by rw [pk_un (by omega), pk_un (by omega), pk_un (by omega), pk_un (by omega)]) (by rw [pk_un (by omega), pk_un (by omega), pk_un (by omega), pk_un (by omega)]) (by rw [pk_un (by omega), pk_un (by omega), pk_un (by omega), pk_un (by omega)])
theorem kr_bin (h : kz_RS D S z) {q : Nat} (hq : q < 10) (h9 : ¬ 9 ≤ S 10 q) : kz_RS D (va_up S 10 (upd (S 10) q (S 10 q + 1))) (X4_count_c0 z q 0 1) := by
  have eZ : X4_count_c0 z q 0 1 = upd z (540 + 4 * q) (z (540 + 4 * q) + 1) := rfl
  rw [eZ]
  refine ⟨kr_hdF h.1 (fun j hj => pk_un (by omega)) rfl rfl rfl rfl rfl rfl rfl rfl, fun j hj => kr_plF (h.2.1 j hj) (pk_un (by omega)) (pk_un (by omega)) (pk_un (by omega)) (pk_un (by omega)) rfl rfl rfl rfl, fun k hk9 => ?_, fun k hk9 => ?_, fun j hj => kr_bdF (h.2.2.2.2 j hj) (pk_un (by omega)) (pk_un (by omega)) (pk_un (by omega))⟩
  · rw [pk_un (by omega)]
    exact h.2.2.1 k hk9
  · by_cases e : k = q
    · subst e
      obtain ⟨⟨b, hb, b1, b2⟩, b3⟩ := h.2.2.2.1 k hk9
      have hb9 : b < 9 := by
        rw [b1] at h9
        exact kz_gt (a := 9) h9 (by omega) (by omega)
      refine ⟨⟨b + 1, by omega, ?_, by rw [pk_us, b2, nI_1]⟩, by rw [pk_un (by omega), pk_un (by omega), pk_un (by omega)]; exact b3⟩
      show upd (S 10) k (S 10 k + 1) k = nI (b + 1)
      rw [pk_us, b1, nI_1]
    · exact kr_bnF (h.2.2.2.1 k hk9) (pk_un (by omega)) (pk_un (by omega)) (pk_un (by omega)) (pk_un (by omega)) (show upd (S 10) q _ k = S 10 k from pk_un e) rfl rfl rfl
theorem kr_paid (h : kz_RS D S z) {q : Nat} (hq : q < 10) (f : Int32) : kz_RS D (va_up (va_up S 4 (fun _ => S 4 0 + f)) 12 (upd (S 12) q (S 12 q + 1))) (X4_count_c0 (upd (upd z 10 (z 10 + f)) 8 ((upd z 10 (z 10 + f)) 8 + 1)) q 2 1) := by
  have eZ : X4_count_c0 (upd (upd z 10 (z 10 + f)) 8 ((upd z 10 (z 10 + f)) 8 + 1)) q 2 1 = upd (upd (upd z 10 (z 10 + f)) 8 (z 8 + 1)) (540 + 4 * q + 2) (z (540 + 4 * q + 2) + 1) := by
    rw [X4_count_c0, pk_un (by omega : 540 + 4 * q + 2 ≠ 8), pk_un (by omega : 540 + 4 * q + 2 ≠ 10), pk_un (by omega : 8 ≠ 10)]
  rw [eZ]
  obtain ⟨h1, h2, h3, h4, h5, h6, h7, h8, h9⟩ := h.1
  have u : ∀ j, j ≠ 10 → j ≠ 8 → j ≠ 540 + 4 * q + 2 → upd (upd (upd z 10 (z 10 + f)) 8 (z 8 + 1)) (540 + 4 * q + 2) (z (540 + 4 * q + 2) + 1) j = z j := fun j a b c => by rw [pk_un c, pk_un b, pk_un a]
  refine ⟨⟨fun k hk => (h1 k hk).trans (u k (by omega) (by omega) (by omega)).symm, fun k hk => by rw [u k (by omega) (by omega) (by omega)]; exact h2 k hk, by rw [u 5 (by omega) (by omega) (by omega)]; exact h3, by rw [u 6 (by omega) (by omega) (by omega)]; exact h4, by rw [u 7 (by omega) (by omega) (by omega)]; exact h5, ?_, ?_, by rw [u 9 (by omega) (by omega) (by omega)]; exact h8, by rw [u 11 (by omega) (by omega) (by omega)]; exact h9⟩, fun j hj => kr_plF (h.2.1 j hj) (u _ (by omega) (by omega) (by omega)) (u _ (by omega) (by omega) (by omega)) (u _ (by omega) (by omega) (by omega)) (u _ (by omega) (by omega) (by omega)) rfl rfl rfl rfl, fun k hk9 => ?_, fun k hk9 => ?_, fun j hj => kr_bdF (h.2.2.2.2 j hj) (u _ (by omega) (by omega) (by omega)) (u _ (by omega) (by omega) (by omega)) (u _ (by omega) (by omega) (by omega))⟩
  · rw [pk_un (by omega), pk_un (by omega), pk_us]
    show S 4 0 + f = z 10 + f
    rw [h6]
  · rw [pk_un (by omega), pk_us]
    show kz_sm (upd (S 12) q (S 12 q + 1)) 10 = z 8 + 1
    rw [kr_smU 10, if_pos hq, h7]
  · rw [u _ (by omega) (by omega) (by omega)]
    exact h.2.2.1 k hk9
  · by_cases e : k = q
    · subst e
      obtain ⟨b, b3, b4, b5⟩ := h.2.2.2.1 k hk9
      unfold kz_bn
      rw [u _ (by omega) (by omega) (by omega), u (540 + 4 * k + 1) (by omega) (by omega) (by omega), u (540 + 4 * k + 3) (by omega) (by omega) (by omega), pk_us]
      refine ⟨b, b3, ?_, b5⟩
      show upd (S 12) k (S 12 k + 1) k = z (540 + 4 * k + 2) + 1
      rw [pk_us, b4]
    · exact kr_bnF (h.2.2.2.1 k hk9) (u _ (by omega) (by omega) (by omega)) (u _ (by omega) (by omega) (by omega)) (u _ (by omega) (by omega) (by omega)) (u _ (by omega) (by omega) (by omega)) rfl rfl (show upd (S 12) q _ k = S 12 k from pk_un e) rfl
theorem kr_came (h : kz_RS D S z) : kz_RS D (va_up S 3 (fun _ => S 3 0 + 1)) (upd z 7 (z 7 + 1)) := by
  obtain ⟨h1, h2, h3, h4, h5, h6⟩ := h.1
  have u : ∀ j, j ≠ 7 → upd z 7 (z 7 + 1) j = z j := fun j a => pk_un a
  refine ⟨⟨fun k hk => (h1 k hk).trans (u k (by omega)).symm, fun k hk => by rw [u k (by omega)]; exact h2 k hk, h3, h4, ?_, h6⟩, fun j hj => kr_plF (h.2.1 j hj) (u _ (by omega)) (u _ (by omega)) (u _ (by omega)) (u _ (by omega)) rfl rfl rfl rfl, fun k hk9 => ?_, fun k hk9 => kr_bnF (h.2.2.2.1 k hk9) (u _ (by omega)) (u _ (by omega)) (u _ (by omega)) (u _ (by omega)) rfl rfl rfl rfl, fun j hj => kr_bdF (h.2.2.2.2 j hj) (u _ (by omega)) (u _ (by omega)) (u _ (by omega))⟩
  · show S 3 0 + 1 = z 7 + 1
    rw [h5]
  · rw [u _ (by omega)]
    exact h.2.2.1 k hk9
theorem kr_wrong (h : kz_RS D S z) (hl : ¬ X1_isLocked_p S) : kz_RS D (va_up S 2 (fun _ => S 2 0 + 1)) (upd z 6 (z 6 + 1)) := by
  obtain ⟨h1, h2, h3, ⟨w, hw, w1, w2⟩, h5, h6⟩ := h.1
  have u : ∀ j, j ≠ 6 → upd z 6 (z 6 + 1) j = z j := fun j a => pk_un a
  have hw3 : w < 3 := by
    have c : S 2 0 < 3 := Decidable.not_not.mp hl
    rw [w1] at c
    exact kz_lt (b := 3) c (by omega) (by omega)
  refine ⟨⟨fun k hk => (h1 k hk).trans (u k (by omega)).symm, fun k hk => by rw [u k (by omega)]; exact h2 k hk, h3, ⟨w + 1, by omega, ?_, ?_⟩, h5, h6⟩, fun j hj => kr_plF (h.2.1 j hj) (u _ (by omega)) (u _ (by omega)) (u _ (by omega)) (u _ (by omega)) rfl rfl rfl rfl, fun k hk9 => ?_, fun k hk9 => kr_bnF (h.2.2.2.1 k hk9) (u _ (by omega)) (u _ (by omega)) (u _ (by omega)) (u _ (by omega)) rfl rfl rfl rfl, fun j hj => kr_bdF (h.2.2.2.2 j hj) (u _ (by omega)) (u _ (by omega)) (u _ (by omega))⟩
  · show S 2 0 + 1 = nI (w + 1)
    rw [w1, nI_1]
  · show z 6 + 1 = nI (w + 1)
    rw [w2, nI_1]
  · rw [u _ (by omega)]
    exact h.2.2.1 k hk9
theorem kr_begin1 (h : kz_RS D S z) : kz_RS (D + 1) (va_up (va_up S 1 (fun _ => S 1 0 + 1)) 2 (fun _ => 0)) (X4_begin1 z) := by
  obtain ⟨h1, h2, ⟨d, hd, d1, d2⟩, h4, h5, h6⟩ := h.1
  have u : ∀ j, j ≠ 5 → j ≠ 6 → X4_begin1 z j = z j := fun j a b => by rw [X4_begin1, pk_un b, pk_un a]
  refine ⟨⟨fun k hk => (h1 k hk).trans (u k (by omega) (by omega)).symm, fun k hk => by rw [u k (by omega) (by omega)]; exact h2 k hk, ⟨d + 1, by omega, ?_, ?_⟩, ⟨0, by omega, rfl, rfl⟩, by rw [u 7 (by omega) (by omega)]; exact h5, by rw [u 10 (by omega) (by omega), u 8 (by omega) (by omega), u 9 (by omega) (by omega), u 11 (by omega) (by omega)]; exact h6⟩, fun j hj => kr_plF (h.2.1 j hj) (u _ (by omega) (by omega)) (u _ (by omega) (by omega)) (u _ (by omega) (by omega)) (u _ (by omega) (by omega)) rfl rfl rfl rfl, fun k hk9 => ?_, fun k hk9 => kr_bnF (h.2.2.2.1 k hk9) (u _ (by omega) (by omega)) (u _ (by omega) (by omega)) (u _ (by omega) (by omega)) (u _ (by omega) (by omega)) rfl rfl rfl rfl, fun j hj => (kr_bdF (h.2.2.2.2 j hj) (u _ (by omega) (by omega)) (u _ (by omega) (by omega)) (u _ (by omega) (by omega))).mono (by omega)⟩
  · show S 1 0 + 1 = nI (d + 1)
    rw [d1, nI_1]
  · rw [X4_begin1, pk_un (by omega), pk_us, d2, nI_1]
  · rw [u _ (by omega) (by omega)]
    exact (h.2.2.1 k hk9).mono (by omega)
theorem kr_takes (h : kz_RS D S z) {k0 : Nat} (hk0 : k0 < 10) (r : Int32) : kz_RS D (X1_emptyBin_s S k0 r) (X4_takes_c0 z k0 r) ∧ X1_emptyBin_r S k0 r = X4_takes_r z k0 r := by
  obtain ⟨h1, h2, h3, h4, h5, h6, h7, h8, h9⟩ := h.1
  obtain ⟨⟨b0, hb0, b1, b2⟩, b3, b4, b5⟩ := h.2.2.2.1 k0 hk0
  have s2 : S 0 2 = z 2 := h1 2 (by omega)
  have ez : S 10 k0 = z (540 + 4 * k0) := b1.trans b2.symm
  have er : X1_emptyBin_r S k0 r = X4_takes_r z k0 r := by
    show (r * S 0 2) * S 10 k0 = (r * z 2) * z (540 + 4 * k0)
    rw [s2, ez]
  refine ⟨?_, er⟩
  have eZ : X4_takes_c0 z k0 r = upd (upd (upd (upd (upd z (540 + 4 * k0) (z (540 + 4 * k0) + -z (540 + 4 * k0))) (540 + 4 * k0 + 1) (z (540 + 4 * k0 + 1) + (r * z 2) * z (540 + 4 * k0))) (540 + 4 * k0 + 3) (z (540 + 4 * k0 + 3) + z (540 + 4 * k0))) 9 (z 9 + z (540 + 4 * k0))) 11 (z 11 + (r * z 2) * z (540 + 4 * k0)) := by
    rw [X4_takes_c0, X4_count_c0, X4_count_c0, X4_count_c0]
    simp only [Nat.add_zero]
    rw [pk_un (by omega : 540 + 4 * k0 + 3 ≠ 540 + 4 * k0 + 1), pk_un (by omega : 540 + 4 * k0 + 3 ≠ 540 + 4 * k0), pk_un (by omega : 540 + 4 * k0 + 1 ≠ 540 + 4 * k0), pk_un (by omega : 11 ≠ 9)]
    rw [pk_un (by omega : 11 ≠ 540 + 4 * k0 + 3), pk_un (by omega : 11 ≠ 540 + 4 * k0 + 1), pk_un (by omega : 11 ≠ 540 + 4 * k0), pk_un (by omega : 9 ≠ 540 + 4 * k0 + 3), pk_un (by omega : 9 ≠ 540 + 4 * k0 + 1), pk_un (by omega : 9 ≠ 540 + 4 * k0)]
  have eS : X1_emptyBin_s S k0 r = va_up (va_up (va_up S 11 (upd (S 11) k0 (S 11 k0 + (r * z 2) * z (540 + 4 * k0)))) 13 (upd (S 13) k0 (S 13 k0 + z (540 + 4 * k0)))) 10 (upd (S 10) k0 0) := by
    rw [X1_emptyBin_s, s2, ez]
  rw [eZ, eS]
  generalize z (540 + 4 * k0) = b at *
  generalize (r * z 2) * b = f at *
  have u : ∀ j, j ≠ 9 → j ≠ 11 → j ≠ 540 + 4 * k0 → j ≠ 540 + 4 * k0 + 1 → j ≠ 540 + 4 * k0 + 3 → upd (upd (upd (upd (upd z (540 + 4 * k0) (b + -b)) (540 + 4 * k0 + 1) (z (540 + 4 * k0 + 1) + f)) (540 + 4 * k0 + 3) (z (540 + 4 * k0 + 3) + b)) 9 (z 9 + b)) 11 (z 11 + f) j = z j := fun j e1 e2 e3 e4 e5 => by rw [pk_un e2, pk_un e1, pk_un e5, pk_un e4, pk_un e3]
  refine ⟨⟨fun k hk => (h1 k hk).trans (u k (by omega) (by omega) (by omega) (by omega) (by omega)).symm, fun k hk => by rw [u k (by omega) (by omega) (by omega) (by omega) (by omega)]; exact h2 k hk, by rw [u 5 (by omega) (by omega) (by omega) (by omega) (by omega)]; exact h3, by rw [u 6 (by omega) (by omega) (by omega) (by omega) (by omega)]; exact h4, by rw [u 7 (by omega) (by omega) (by omega) (by omega) (by omega)]; exact h5, by rw [u 10 (by omega) (by omega) (by omega) (by omega) (by omega)]; exact h6, by rw [u 8 (by omega) (by omega) (by omega) (by omega) (by omega)]; exact h7, ?_, ?_⟩, fun j hj => kr_plF (h.2.1 j hj) (u _ (by omega) (by omega) (by omega) (by omega) (by omega)) (u _ (by omega) (by omega) (by omega) (by omega) (by omega)) (u _ (by omega) (by omega) (by omega) (by omega) (by omega)) (u _ (by omega) (by omega) (by omega) (by omega) (by omega)) rfl rfl rfl rfl, fun k hk9 => ?_, fun k hk9 => ?_, fun j hj => kr_bdF (h.2.2.2.2 j hj) (u _ (by omega) (by omega) (by omega) (by omega) (by omega)) (u _ (by omega) (by omega) (by omega) (by omega) (by omega)) (u _ (by omega) (by omega) (by omega) (by omega) (by omega))⟩
  · rw [pk_un (by omega), pk_us]
    show kz_sm (upd (S 13) k0 (S 13 k0 + b)) 10 = z 9 + b
    rw [kr_smU 10, if_pos hk0, h8]
  · rw [pk_us]
    show kz_sm (upd (S 11) k0 (S 11 k0 + f)) 10 = z 11 + f
    rw [kr_smU 10, if_pos hk0, h9]
  · rw [u _ (by omega) (by omega) (by omega) (by omega) (by omega)]
    exact h.2.2.1 k hk9
  · by_cases e : k = k0
    · subst e
      unfold kz_bn
      rw [u (540 + 4 * k + 2) (by omega) (by omega) (by omega) (by omega) (by omega)]
      refine ⟨⟨0, by omega, show upd (S 10) k 0 k = nI 0 from pk_us, ?_⟩, ?_, b4, ?_⟩
      · rw [pk_un (by omega), pk_un (by omega), pk_un (by omega), pk_un (by omega), pk_us, Int32.add_right_neg]
        rfl
      · rw [pk_un (by omega), pk_un (by omega), pk_un (by omega), pk_us]
        show upd (S 11) k (S 11 k + f) k = _
        rw [pk_us, b3]
      · rw [pk_un (by omega), pk_un (by omega), pk_us]
        show upd (S 13) k (S 13 k + b) k = _
        rw [pk_us, b5]
    · exact kr_bnF (h.2.2.2.1 k hk9) (u _ (by omega) (by omega) (by omega) (by omega) (by omega)) (u _ (by omega) (by omega) (by omega) (by omega) (by omega)) (u _ (by omega) (by omega) (by omega) (by omega) (by omega)) (u _ (by omega) (by omega) (by omega) (by omega) (by omega)) (show upd (S 10) k0 _ k = S 10 k from pk_un e) (show upd (S 11) k0 _ k = S 11 k from pk_un e) rfl (show upd (S 13) k0 _ k = S 13 k from pk_un e)
end KR
