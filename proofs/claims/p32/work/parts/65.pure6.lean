/-! PURE: what the law asks of the class, told by its own rows -/
theorem ps_w4 {x : Nat} (h : x ≤ 9999) : X3_isWithin_p (nI x) 0 9999 := ps_wi (k := 9999) h (by omega)
theorem ps_w2 {x : Nat} (h : x ≤ 99) : X3_isWithin_p (nI x) 0 99 := ps_wi (k := 99) h (by omega)
def ps_ndB (w j t : Nat) : Bool := decide (X3_indexOfCode_r (nI (ps_cd (w + 1) j / 10 * 10 + (ps_cd (w + 1) j + 1 + t) % 10)) < 0)
set_option maxRecDepth 100000 in
theorem ps_ndT : kz_alB (fun w => kz_alB (fun j => kz_alB (fun t => ps_ndB w j t) 9) 48) 7 = true := by decide +kernel
theorem ps_nd {w j t : Nat} (hw : w < 7) (hj : j < 48) (ht : t < 9) : X3_indexOfCode_r (nI (ps_cd (w + 1) j / 10 * 10 + (ps_cd (w + 1) j + 1 + t) % 10)) < 0 := of_decide_eq_true (kz_alB_of 9 (kz_alB_of 48 (kz_alB_of 7 ps_ndT w hw) j hj) t ht)
theorem ps_isC1 (V : kz_S) {w j : Nat} (hw : w < 7) (hj : j < 48) : X3_isCode_r V (nI (ps_cd (w + 1) j)) = 1 := by
  have h1 := ps_cd_lt (w := w + 1) (by omega) hj
  rw [X3_isCode_r, if_pos (ps_w4 (by omega)), ps_ci hw hj, if_neg (nI_pos (by omega))]
theorem ps_isC0 (V : kz_S) {w j t : Nat} (hw : w < 7) (hj : j < 48) (ht : t < 9) : X3_isCode_r V (nI (ps_cd (w + 1) j / 10 * 10 + (ps_cd (w + 1) j + 1 + t) % 10)) = 0 := by
  have h1 := ps_cd_lt (w := w + 1) (by omega) hj
  have h2 : (ps_cd (w + 1) j + 1 + t) % 10 < 10 := Nat.mod_lt _ (by decide)
  rw [X3_isCode_r, if_pos (ps_w4 (by omega)), if_pos (ps_nd hw hj ht)]
theorem ps_codeOf (V : kz_S) {d j : Nat} (hd : d ≤ 9999) (hj : j < 48) : X3_codeOf_r V (nI d) (nI (j / 8)) (nI (j % 8)) = nI (ps_cd (d % 7 + 1) j) := by
  have h1 : X3_isPlace_p (nI (j / 8)) (nI (j % 8)) := ⟨ps_wi (k := 5) (by omega) (by omega), ps_wi (k := 7) (by omega) (by omega)⟩
  have e1 : X3_weekdayOf_r (nI d) = nI (d % 7 + 1) := by rw [X3_weekdayOf_r]; exact kz_wdN (by omega)
  have e2 : nI (j / 8) * 8 + nI (j % 8) = nI j := by rw [kz_e4]; exact congrArg nI (by omega)
  rw [X3_codeOf_r, if_pos h1, if_pos (ps_w4 hd), e1, e2]
  exact ps_cf (by omega) hj
section PS
variable {N D n m : Nat} {S V : kz_S} {zp zq zc zl zv zg zu zf zk zt : Nat → Int32}
theorem ps_aRU (h : ps_R N D n m S zp zq zc zl zv zg zu zf zk zt) (hN : N ≤ 60) (hD : D ≤ 600) {w j : Nat} (hw : w < 7) (hj : j < 48) : X3_restsUntil_r V S (nI (ps_cd (w + 1) j)) = if L_until_r zl zv zt (nI (ps_cd (w + 1) j)) ≤ nI D then (-6) else L_until_r zl zv zt (nI (ps_cd (w + 1) j)) := by
  have h1 := ps_cd_lt (w := w + 1) (by omega) hj
  rw [X3_restsUntil_r, if_pos (ps_w4 (by omega)), ps_ci hw hj, if_neg (nI_pos (by omega))]
  by_cases q : L_until_r zl zv zt (nI (ps_cd (w + 1) j)) ≤ nI D
  · rw [if_pos q, if_neg (fun z => (ps_rRe h hN hD hw hj).mp z q)]
  · rw [if_neg q, if_pos ((ps_rRe h hN hD hw hj).mpr q), nI_clamp (by omega)]
    rcases ps_rUn h hN hw hj with ⟨a, b⟩ | ⟨d, hd, a, b⟩
    · exact absurd (by rw [b]; exact nI_pos' (by omega)) q
    · rw [a, b]
theorem ps_pwI (h : ps_R N D n m S zp zq zc zl zv zg zu zf zk zt) {i j : Nat} (hi : i < n) (hj : j < 48) (e : zp i = nI j) : X1_placeWith_r S (zc i) = nI j := by
  obtain ⟨d, s, v, w, hd, hs, hv, hw, ez, ec, a5, -⟩ := ps_at h.2.2.1 hi hj e
  rw [ps_pw hw hj (by rw [ec]; exact ps_ci hw hj), if_pos a5]
theorem ps_aPar (h : ps_R N D n m S zp zq zc zl zv zg zu zf zk zt) (hD : D ≤ 600) {i j : Nat} (hi : i < n) (hj : j < 48) (e : zp i = nI j) : X3_parcel_r V S (zc i) 0 = L_sender_r zq i ∧ X3_parcel_r V S (zc i) 1 = L_size_r zq i ∧ X3_parcel_r V S (zc i) 2 = zq i / 1000 ∧ X3_parcel_r V S (zc i) 3 = nI j / 8 ∧ X3_parcel_r V S (zc i) 4 = kz_rem (nI j) 8 ∧ X3_parcel_r V S (zc i) 5 = L_fee_r zq zt i (nI D) := by
  have hpw := ps_pwI h hi hj e
  have hn : ¬ X1_placeWith_r S (zc i) = (-1) := by rw [hpw]; exact ps_m1 (by omega)
  obtain ⟨w, hw, ec, a5, a6, a7, a8, -⟩ := ps_rAt h hD hi hj e
  have ef := ps_rFee0 h hD hi hj e
  refine ⟨?_, ?_, ?_, ?_, ?_, ?_⟩
  · rw [X3_parcel_r, if_neg hn, if_pos rfl, hpw, nI_clamp (by omega), a6]
  · rw [X3_parcel_r, if_neg hn, if_neg (by decide), if_pos rfl, hpw, nI_clamp (by omega), a7]
  · rw [X3_parcel_r, if_neg hn, if_neg (by decide), if_neg (by decide), if_pos rfl, hpw, nI_clamp (by omega), a8]
  · rw [X3_parcel_r, if_neg hn, if_neg (by decide), if_neg (by decide), if_neg (by decide), if_pos rfl, hpw, nI_clamp (by omega)]
  · rw [X3_parcel_r, if_neg hn, if_neg (by decide), if_neg (by decide), if_neg (by decide), if_neg (by decide), if_pos rfl, hpw, nI_clamp (by omega)]
  · rw [X3_parcel_r, if_neg hn, if_neg (by decide), if_neg (by decide), if_neg (by decide), if_neg (by decide), if_neg (by decide), if_pos rfl, hpw, nI_clamp (by omega), ef]
theorem ps_aAt (h : ps_R N D n m S zp zq zc zl zv zg zu zf zk zt) {i j : Nat} (hi : i < n) (hj : j < 48) (e : zp i = nI j) : X3_codeAt_r V S (nI j / 8) (kz_rem (nI j) 8) = zc i ∧ X3_isCode_r V (zc i) = 1 := by
  obtain ⟨d, s, v, w, hd, hs, hv, hw, ez, ec, a5, -⟩ := ps_at h.2.2.1 hi hj e
  have e1 : nI j / 8 = nI (j / 8) := kz_divN (d := 8) (by omega) (by omega) (by omega)
  have e2 : kz_rem (nI j) 8 = nI (j % 8) := kz_remN (d := 8) (by omega) (by omega) (by omega)
  have h1 : X3_isPlace_p (nI (j / 8)) (nI (j % 8)) := ⟨ps_wi (k := 5) (by omega) (by omega), ps_wi (k := 7) (by omega) (by omega)⟩
  refine ⟨?_, by rw [ec]; exact ps_isC1 V hw hj⟩
  rw [e1, e2, X3_codeAt_r, if_pos h1, nI_clamp (by omega), nI_clamp (by omega), show 8 * (j / 8) + j % 8 = j by omega, if_neg (ps_n5 hw a5)]
  exact ps_codeOn h hi hj e
theorem ps_aFree {k j : Nat} (hk : k < 6) (hj : j < 8) (h5 : X1_isFree_p S (8 * k + j)) : X3_codeAt_r V S (nI k) (nI j) = (-6) := by
  have h1 : X3_isPlace_p (nI k) (nI j) := ⟨ps_wi (k := 5) (by omega) (by omega), ps_wi (k := 7) (by omega) (by omega)⟩
  rw [X3_codeAt_r, if_pos h1, nI_clamp (by omega), nI_clamp (by omega), if_pos h5]
theorem ps_aSnd (h : ps_R N D n m S zp zq zc zl zv zg zu zf zk zt) {s : Nat} (hs : s < 10) : X3_sender_r V S (nI s) 0 = X1_parcelsOfSender_r S (nI s) ∧ X3_sender_r V S (nI s) 1 = zg s ∧ X3_sender_r V S (nI s) 2 = zu s ∧ X3_sender_r V S (nI s) 3 = zf s ∧ X3_sender_r V S (nI s) 4 = zk s := by
  have w1 : X3_isWithin_p (nI s) 0 9 := ps_wi (k := 9) (by omega) (by omega)
  obtain ⟨⟨a, b, c, d⟩, -⟩ := h.2.1 s hs
  refine ⟨?_, ?_, ?_, ?_, ?_⟩
  · rw [X3_sender_r, if_pos w1, if_pos rfl]
  · rw [X3_sender_r, if_pos w1, if_neg (by decide), if_pos rfl, nI_clamp (by omega), a]
  · rw [X3_sender_r, if_pos w1, if_neg (by decide), if_neg (by decide), if_pos rfl, nI_clamp (by omega), b]
  · rw [X3_sender_r, if_pos w1, if_neg (by decide), if_neg (by decide), if_neg (by decide), if_pos rfl, nI_clamp (by omega), c]
  · rw [X3_sender_r, if_pos w1, if_neg (by decide), if_neg (by decide), if_neg (by decide), if_neg (by decide), if_pos rfl, nI_clamp (by omega), d]
theorem ps_aShf {k : Nat} (hk : k < 6) : X3_shelf_r V S (nI k) 0 = nI k / 2 ∧ X3_shelf_r V S (nI k) 1 = X1_parcelsOnShelf_r S k ∧ X3_shelf_r V S (nI k) 2 = X1_restingOnShelf_r S k := by
  have w1 : X3_isWithin_p (nI k) 0 5 := ps_wi (k := 5) (by omega) (by omega)
  refine ⟨?_, ?_, ?_⟩
  · rw [X3_shelf_r, if_pos w1, if_pos rfl, nI_clamp (by omega), X3_sizeOfShelf_r]
  · rw [X3_shelf_r, if_pos w1, if_neg (by decide), if_pos rfl, nI_clamp (by omega)]
  · rw [X3_shelf_r, if_pos w1, if_neg (by decide), if_neg (by decide), if_pos rfl, nI_clamp (by omega)]
theorem ps_aNxt (h : ps_R N D n m S zp zq zc zl zv zg zu zf zk zt) (hN : N ≤ 60) (hD : D ≤ 600) {v : Nat} (hv : v < 3) : (L_place_r zp zl zv zt (2 * v) 5 < 0 ∧ X3_nextCode_r V S (nI v) = (-6)) ∨ ∃ j, j < 48 ∧ L_place_r zp zl zv zt (2 * v) 5 = nI j ∧ X3_nextCode_r V S (nI v) = nI (ps_cd (D % 7 + 1) j) := by
  have w2 : X3_isWithin_p (nI v) 0 2 := ps_wi (k := 2) (by omega) (by omega)
  rcases ps_rPl h hN hD (a := 2 * v) (b := 5) (by omega) (by omega) with ⟨e1, e2⟩ | ⟨j, h1, hj, hg, e1, e2⟩
  · refine Or.inl ⟨?_, by rw [X3_nextCode_r, if_pos w2, nI_clamp (by omega), if_pos e1]⟩
    rw [e2]
    split <;> decide
  · refine Or.inr ⟨j, by omega, e2, ?_⟩
    have ew : X3_weekdayOf_r (S 1 0) = nI (D % 7 + 1) := by rw [h.2.2.2.2.1.2, X3_weekdayOf_r]; exact kz_wdN (by omega)
    rw [X3_nextCode_r, if_pos w2, nI_clamp (by omega), if_neg (by rw [e1]; exact ps_m1 (by omega)), e1, ew]
    exact ps_cf (by omega) (by omega)
theorem ps_aTot (h : ps_R N D n m S zp zq zc zl zv zg zu zf zk zt) : X3_day_r V S = nI D ∧ X3_total_r V S 0 = X1_parcelsOnShelves_r S ∧ X3_total_r V S 1 = L_sum_r zg ∧ X3_total_r V S 2 = nI n ∧ X3_total_r V S 3 = L_sum_r zf ∧ X3_total_r V S 4 = L_sum_r zk ∧ X3_total_r V S 5 = zt 9 ∧ X3_total_r V S 6 = L_sum_r zu ∧ X3_total_r V S 7 = zt 6 ∧ X3_total_r V S 8 = (if zt 6 = 3 then 1 else 0) ∧ X3_total_r V S 9 = X1_feesOnShelves_r S := by
  obtain ⟨hst, hbn, hpa, hlf, ⟨e5, e10⟩, ⟨u, hu, e6, e20⟩, ⟨e7, e30⟩, e8, e9, hn, hm⟩ := h
  refine ⟨by rw [X3_day_r, e10], ?_, ?_, ?_, ?_, ?_, ?_, ?_, ?_, ?_, ?_⟩
  · rw [X3_total_r, if_pos rfl]
  · rw [X3_total_r, if_neg (by decide), if_pos rfl, X3_sum_r, L_sum_r]
    exact ps_smE 10 (fun j hj => (hbn j hj).1.1.symm)
  · rw [X3_total_r, if_neg (by decide), if_neg (by decide), if_pos rfl, e30]
  · rw [X3_total_r, if_neg (by decide), if_neg (by decide), if_neg (by decide), if_pos rfl, X3_sum_r, L_sum_r]
    exact ps_smE 10 (fun j hj => (hbn j hj).1.2.2.1.symm)
  · rw [X3_total_r, if_neg (by decide), if_neg (by decide), if_neg (by decide), if_neg (by decide), if_pos rfl, X3_sum_r, L_sum_r]
    exact ps_smE 10 (fun j hj => (hbn j hj).1.2.2.2.symm)
  · rw [X3_total_r, if_neg (by decide), if_neg (by decide), if_neg (by decide), if_neg (by decide), if_neg (by decide), if_pos rfl, e9]
  · rw [X3_total_r, if_neg (by decide), if_neg (by decide), if_neg (by decide), if_neg (by decide), if_neg (by decide), if_neg (by decide), if_pos rfl, X3_sum_r, L_sum_r]
    exact ps_smE 10 (fun j hj => (hbn j hj).1.2.1.symm)
  · rw [X3_total_r, if_neg (by decide), if_neg (by decide), if_neg (by decide), if_neg (by decide), if_neg (by decide), if_neg (by decide), if_neg (by decide), if_pos rfl, e20, e6]
  · rw [X3_total_r, if_neg (by decide), if_neg (by decide), if_neg (by decide), if_neg (by decide), if_neg (by decide), if_neg (by decide), if_neg (by decide), if_neg (by decide), if_pos rfl]
    refine kz_ifc ?_
    unfold X1_isLocked_p
    rw [e6, e20]
    constructor
    · intro q
      have := kz_ge (a := u) (b := 3) q (by omega) (by omega)
      rw [show u = 3 by omega]; rfl
    · intro q
      have : u = 3 := (nI_eq (by omega) (by omega)).mp (q.trans (show (3 : Int32) = nI 3 from rfl))
      rw [this]; decide
  · rw [X3_total_r, if_neg (by decide), if_neg (by decide), if_neg (by decide), if_neg (by decide), if_neg (by decide), if_neg (by decide), if_neg (by decide), if_neg (by decide), if_neg (by decide), if_pos rfl]
theorem ps_aFee (h : ps_R N D n m S zp zq zc zl zv zg zu zf zk zt) (hD : D ≤ 600) {i j x : Nat} (hi : i < n) (hj : j < 48) (e : zp i = nI j) (hx : x ≤ 99) : X3_feeIn_r V S (zc i) (nI x) = L_fee_r zq zt i (nI (D + x)) := by
  have hpw := ps_pwI h hi hj e
  have hn : ¬ X1_placeWith_r S (zc i) = (-1) := by rw [hpw]; exact ps_m1 (by omega)
  rw [X3_feeIn_r, if_neg hn, if_pos (ps_w2 hx), hpw, nI_clamp (by omega)]
  exact (ps_rFee h hD x hi hj e).symm
end PS
theorem ps_ref {V : kz_S} {a b : Int32} (h : V 6 0 = a ∧ V 7 0 = b) : X3_refusal_r V 0 = a ∧ X3_refusal_r V 1 = b :=
  ⟨by rw [X3_refusal_r, if_pos rfl]; exact h.1, by rw [X3_refusal_r, if_neg (by decide), if_pos rfl]; exact h.2⟩
