/-! PURE: the law's steps -/
def ps_I (i : Nat) (V S Y : kz_S) (zp zq zc zl zv zg zu zf zk zt : Nat → Int32) (why beh : Int32) : Prop := (∃ D n m, ps_R i D n m S zp zq zc zl zv zg zu zf zk zt ∧ D ≤ 9 * i) ∧ (V 6 0 = why ∧ V 7 0 = beh) ∧ (∃ o, o < 6 ∧ Y 1 0 = nI o) ∧ ∃ c, c ≤ 5 ∧ Y 2 0 = nI c
/-- what holds as a step begins -/
def ps_C (i D n m : Nat) (V S Y : kz_S) (zp zq zc zl zv zg zu zf zk zt : Nat → Int32) (why beh : Int32) : Prop := ps_R i D n m S zp zq zc zl zv zg zu zf zk zt ∧ (D ≤ 9 * i ∧ i < 60) ∧ (V 6 0 = why ∧ V 7 0 = beh) ∧ (∃ o, o < 6 ∧ Y 1 0 = nI o) ∧ ∃ c, c ≤ 5 ∧ Y 2 0 = nI c
theorem ps_rec {Y : kz_S} (hO : ∃ o, o < 6 ∧ Y 1 0 = nI o) (hC : ∃ c, c ≤ 5 ∧ Y 2 0 = nI c) (V : kz_S) (r : Int32) : (∃ o, o < 6 ∧ (X3_recorded_s V Y r) 1 0 = nI o) ∧ ∃ c, c ≤ 5 ∧ (X3_recorded_s V Y r) 2 0 = nI c := by
  rw [X3_recorded_s]
  by_cases e : X3_isError_p r
  · rw [if_pos e]; exact ⟨hO, hC⟩
  · rw [if_neg e, X0_keepPrepared_s]
    by_cases e5 : 5 ≤ Y 2 0
    · rw [if_pos e5]
      obtain ⟨o, ho, eo⟩ := hO
      refine ⟨⟨(o + 1) % 6, Nat.mod_lt _ (by decide), ?_⟩, hC⟩
      show kz_rem (Y 1 0 + 1) 6 = _
      rw [eo, show nI o + 1 = nI (o + 1) from nI_1 o]
      exact kz_remN (d := 6) (by omega) (by omega) (by omega)
    · rw [if_neg e5]
      obtain ⟨c, hc, ec⟩ := hC
      refine ⟨hO, c + 1, ?_, ?_⟩
      · rw [ec] at e5
        have := kz_gt (a := 5) (b := c) e5 (by omega) (by omega)
        omega
      · show Y 2 0 + 1 = _
        rw [ec]; exact nI_1 c
theorem ps_wi {x k : Nat} (h : x ≤ k) (hk : k < 2 ^ 30) : X3_isWithin_p (nI x) 0 (nI k) := ⟨nI_pos (by omega), nI_nlt h (by omega)⟩
section PS
variable {i D n m : Nat} {V S Y : kz_S} {zp zq zc zl zv zg zu zf zk zt : Nat → Int32} {why beh : Int32}
theorem ps_fin (h : ps_C i D n m V S Y zp zq zc zl zv zg zu zf zk zt why beh) {D' n' m' : Nat} {S' V' : kz_S} {zp' zq' zc' zl' zv' zg' zu' zf' zk' zt' : Nat → Int32} {why' beh' : Int32} (hR : ps_R (i + 1) D' n' m' S' zp' zq' zc' zl' zv' zg' zu' zf' zk' zt') (hD : D' ≤ 9 * (i + 1)) (hV : V' 6 0 = why' ∧ V' 7 0 = beh') (V'' : kz_S) (r : Int32) : ps_I (i + 1) V' S' (X3_recorded_s V'' Y r) zp' zq' zc' zl' zv' zg' zu' zf' zk' zt' why' beh' :=
  ⟨⟨D', n', m', hR, hD⟩, hV, ps_rec h.2.2.2.1 h.2.2.2.2 V'' r⟩
theorem ps_same (h : ps_C i D n m V S Y zp zq zc zl zv zg zu zf zk zt why beh) {V' : kz_S} {why' beh' : Int32} (hV : V' 6 0 = why' ∧ V' 7 0 = beh') (V'' : kz_S) (r : Int32) : ps_I (i + 1) V' S (X3_recorded_s V'' Y r) zp zq zc zl zv zg zu zf zk zt why' beh' :=
  ps_fin h (ps_mono h.1 (by omega)) (by have := h.2.1.1; omega) hV V'' r
theorem ps_hN (h : ps_C i D n m V S Y zp zq zc zl zv zg zu zf zk zt why beh) : i ≤ 60 := by have := h.2.1.2; omega
theorem ps_hD (h : ps_C i D n m V S Y zp zq zc zl zv zg zu zf zk zt why beh) : D ≤ 540 := by have := h.2.1; omega
theorem ps_codeOn {N : Nat} (h : ps_R N D n m S zp zq zc zl zv zg zu zf zk zt) {a j : Nat} (ha : a < n) (hj : j < 48) (e : zp a = nI j) : X1_codeOn_r S j = zc a := by
  obtain ⟨d, s, v, w, hd, hs, hv, hw, ez, ec, a5, -⟩ := ps_at h.2.2.1 ha hj e
  rw [X1_codeOn_r, a5, ec]
  exact ps_cf (by omega) hj
-- come
theorem ps_opCome1 (h : ps_C i D n m V S Y zp zq zc zl zv zg zu zf zk zt why beh) (R : Nat → kz_S) {s v : Nat} (hs : s < 10) (hv : v < 3) (hp : L_place_r zp zl zv zt (2 * v) 5 < 0) : X3_come_r V S Y R (nI s) (nI v) = (-4) ∧ ps_I (i + 1) (X3_come_s0 V S Y R (nI s) (nI v)) (X3_come_s1 V S Y R (nI s) (nI v)) (X3_come_s2 V S Y R (nI s) (nI v)) zp zq zc zl zv zg zu zf zk zt 1 (-(L_place_r zp zl zv zt (2 * v) 5)) := by
  have hN := ps_hN h
  have hD := ps_hD h
  have w1 : X3_isWithin_p (nI s) 0 9 := ps_wi (k := 9) (by omega) (by omega)
  have w2 : X3_isWithin_p (nI v) 0 2 := ps_wi (k := 2) (by omega) (by omega)
  rcases ps_rPl h.1 hN (by omega) (a := 2 * v) (b := 5) (by omega) (by omega) with ⟨e1, e2⟩ | ⟨j, -, hj, -, -, e2⟩
  · have r0 : X3_letCome_s0 V S (nI s) (nI v) = X3_refuseForNoPlace_s V S (2 * v) 5 := by rw [X3_letCome_s0, if_pos w1, if_pos w2, nI_clamp (by omega), if_pos e1]
    have r1 : X3_letCome_s1 V S (nI s) (nI v) = S := by rw [X3_letCome_s1, if_pos w1, if_pos w2, nI_clamp (by omega), if_pos e1]
    have r2 : X3_letCome_r V S (nI s) (nI v) = (-4) := by rw [X3_letCome_r, if_pos w1, if_pos w2, nI_clamp (by omega), if_pos e1]
    refine ⟨r2, ?_⟩
    rw [show X3_come_s0 V S Y R (nI s) (nI v) = X3_refuseForNoPlace_s V S (2 * v) 5 from r0, show X3_come_s1 V S Y R (nI s) (nI v) = S from r1, e2, X3_refuseForNoPlace_s]
    refine ps_same h ?_ _ _
    by_cases c : X1_hasFreePlace_p S (2 * v) 5
    · rw [if_pos c, if_pos c]; exact ⟨rfl, rfl⟩
    · rw [if_neg c, if_neg c]; exact ⟨rfl, rfl⟩
  · exact absurd (show nI j < 0 by rw [← e2]; exact hp) (nI_pos (by omega))
theorem ps_plJ (h : ps_C i D n m V S Y zp zq zc zl zv zg zu zf zk zt why beh) {a b : Nat} (hab : a ≤ b) (hb : b < 6) (hp : ¬ L_place_r zp zl zv zt a b < 0) : ∃ j, j < 48 ∧ L_place_r zp zl zv zt a b = nI j ∧ X1_placeToGive_r S a b = nI j ∧ S 5 j = 0 := by
  have hD := ps_hD h
  rcases ps_rPl h.1 (ps_hN h) (by omega) hab hb with ⟨e1, e2⟩ | ⟨j, h1, hj, hg, e1, e2⟩
  · refine absurd ?_ hp
    rw [e2]
    split <;> decide
  · exact ⟨j, by omega, e2, e1, hg.1⟩
theorem ps_m1 {j : Nat} (h : j < 2 ^ 31) : ¬ nI j = (-1) := fun q => nI_pos h (by rw [q]; decide)
theorem ps_opCome2 (h : ps_C i D n m V S Y zp zq zc zl zv zg zu zf zk zt why beh) (R : Nat → kz_S) {s v j : Nat} (hs : s < 10) (hv : v < 3) (hj : j < 48) (ep : X1_placeToGive_r S (2 * v) 5 = nI j) (h5 : S 5 j = 0) : X3_come_r V S Y R (nI s) (nI v) = nI (ps_cd (D % 7 + 1) j) ∧ ps_I (i + 1) (X3_come_s0 V S Y R (nI s) (nI v)) (X3_come_s1 V S Y R (nI s) (nI v)) (X3_come_s2 V S Y R (nI s) (nI v)) (upd zp n (nI j)) (upd zq n (nI (1000 * D + 100 * s + 10 * v))) (upd zc n (nI (ps_cd (D % 7 + 1) j))) zl zv zg zu zf zk (upd zt 7 (nI (n + 1))) why beh := by
  have hD := ps_hD h
  have w1 : X3_isWithin_p (nI s) 0 9 := ps_wi (k := 9) (by omega) (by omega)
  have w2 : X3_isWithin_p (nI v) 0 2 := ps_wi (k := 2) (by omega) (by omega)
  have hn : ¬ X1_placeToGive_r S (2 * v) 5 = (-1) := by rw [ep]; exact ps_m1 (by omega)
  have hR := ps_come h.1 (by omega) hj hs hv h5
  have r0 : X3_come_s0 V S Y R (nI s) (nI v) = V := by rw [X3_come_s0, X3_letCome_s0, if_pos w1, if_pos w2, nI_clamp (by omega), if_neg hn]
  have r1 : X3_come_s1 V S Y R (nI s) (nI v) = va_up (X1_put_s S j (nI s) (nI v) (S 1 0)) 3 (fun _ => S 3 0 + 1) := by
    rw [X3_come_s1, X3_letCome_s1, if_pos w1, if_pos w2, nI_clamp (by omega), if_neg hn, ep, nI_clamp (by omega)]
    rfl
  have r2 : X3_come_r V S Y R (nI s) (nI v) = nI (ps_cd (D % 7 + 1) j) := by
    have e3 := ps_codeOn hR (a := n) (by omega) hj pk_us
    rw [pk_us] at e3
    rw [X3_come_r, X3_letCome_r, if_pos w1, if_pos w2, nI_clamp (by omega), if_neg hn, ep, nI_clamp (by omega)]
    exact e3
  refine ⟨r2, ?_⟩
  rw [r0, r1]
  exact ps_fin h hR (by have := h.2.1.1; omega) h.2.2.1 _ _
-- codes asked for
theorem ps_oth (h : ps_C i D n m V S Y zp zq zc zl zv zg zu zf zk zt why beh) (x : Int32) : ∃ c, c < 10000 ∧ L_other_r zc zt x = nI c := by
  have hn := ps_n h.1
  have hN := ps_hN h
  have e7 : zt 7 = nI n := h.1.2.2.2.2.2.2.1.1
  rw [L_other_r, e7, nI_clamp (by omega)]
  split
  · exact ⟨_, ps_lo_lt (by omega), rfl⟩
  · rename_i c
    split
    · exact ⟨_, ps_lo_lt (by omega), rfl⟩
    · obtain ⟨d, s, v, w, j, hd, hs, hv, hw, hj, ez, ec, -⟩ := h.1.2.2.1.1 (ps_lo x n) (ps_lo_lt (by have := ps_nz c; omega))
      exact ⟨_, ps_cd_lt (by omega) hj, ec⟩
theorem ps_lock (h : ps_C i D n m V S Y zp zq zc zl zv zg zu zf zk zt why beh) : X1_isLocked_p S ↔ zt 6 = 3 := by
  obtain ⟨u, hu, e6, e20⟩ := h.1.2.2.2.2.2.1
  unfold X1_isLocked_p
  rw [e6, e20]
  constructor
  · intro q
    have := kz_ge (a := u) (b := 3) q (by omega) (by omega)
    rw [show u = 3 by omega]; rfl
  · intro q
    have : u = 3 := (nI_eq (by omega) (by omega)).mp (q.trans (show (3 : Int32) = nI 3 from rfl))
    rw [this]; decide
theorem ps_opFetch1 (h : ps_C i D n m V S Y zp zq zc zl zv zg zu zf zk zt why beh) (R : Nat → kz_S) {w : Int32} (hw : ∃ c, c < 10000 ∧ w = nI c) (h6 : zt 6 = 3) : X3_fetch_r V S Y R w = (-3) ∧ ps_I (i + 1) (X3_fetch_s0 V S Y R w) (X3_fetch_s1 V S Y R w) (X3_fetch_s2 V S Y R w) zp zq zc zl zv zg zu zf zk zt 2 (-6) := by
  obtain ⟨c, hc, rfl⟩ := hw
  have w1 : X3_isWithin_p (nI c) 0 9999 := ps_wi (k := 9999) (by omega) (by omega)
  have hl := (ps_lock h).mpr h6
  have r0 : X3_fetch_s0 V S Y R (nI c) = X3_refuseFor_s V 2 (-6) := by rw [X3_fetch_s0, X3_letFetch_s0, if_pos w1, if_pos hl]
  have r1 : X3_fetch_s1 V S Y R (nI c) = S := by rw [X3_fetch_s1, X3_letFetch_s1, if_pos w1, if_pos hl]
  refine ⟨by rw [X3_fetch_r, X3_letFetch_r, if_pos w1, if_pos hl], ?_⟩
  rw [r0, r1]
  exact ps_same h ⟨rfl, rfl⟩ _ _
theorem ps_byN (h : ps_C i D n m V S Y zp zq zc zl zv zg zu zf zk zt why beh) {w : Int32} (hb : ¬ 0 ≤ L_by_r zp zc zt w) : X1_placeWith_r S w = (-1) := by
  have hn := ps_n h.1
  have hN := ps_hN h
  rcases ps_rBy h.1 hN w with ⟨-, e⟩ | ⟨k, j, hk, hj, ek, ec, e1, e2⟩
  · exact e
  · exact absurd (by rw [e1]; exact nI_pos' (by omega)) hb
theorem ps_byJ (h : ps_C i D n m V S Y zp zq zc zl zv zg zu zf zk zt why beh) {w : Int32} (hb : 0 ≤ L_by_r zp zc zt w) : ∃ k j s, k < n ∧ j < 48 ∧ zp k = nI j ∧ L_by_r zp zc zt w = nI k ∧ X1_placeWith_r S w = nI j ∧ s < 10 ∧ L_sender_r zq k = nI s := by
  have hD := ps_hD h
  rcases ps_rBy h.1 (ps_hN h) w with ⟨e, -⟩ | ⟨k, j, hk, hj, ek, ec, e1, e2⟩
  · exact absurd (by rw [e]; decide) (Int32.not_lt.mpr hb)
  · obtain ⟨s, hs, es⟩ := ps_rS h.1 (by omega) hk
    exact ⟨k, j, s, hk, hj, ek, e1, e2, hs, es⟩
theorem ps_opFetch2 (h : ps_C i D n m V S Y zp zq zc zl zv zg zu zf zk zt why beh) (R : Nat → kz_S) {w : Int32} (hw : ∃ c, c < 10000 ∧ w = nI c) (h6 : ¬ zt 6 = 3) (hb : ¬ 0 ≤ L_by_r zp zc zt w) : X3_fetch_r V S Y R w = (-7) ∧ ps_I (i + 1) (X3_fetch_s0 V S Y R w) (X3_fetch_s1 V S Y R w) (X3_fetch_s2 V S Y R w) zp zq zc zl zv zg zu zf zk (upd zt 6 (zt 6 + 1)) why beh := by
  have hpw := ps_byN h hb
  obtain ⟨c, hc, rfl⟩ := hw
  have w1 : X3_isWithin_p (nI c) 0 9999 := ps_wi (k := 9999) (by omega) (by omega)
  have hl : ¬ X1_isLocked_p S := fun q => h6 ((ps_lock h).mp q)
  have r0 : X3_fetch_s0 V S Y R (nI c) = V := by rw [X3_fetch_s0, X3_letFetch_s0, if_pos w1, if_neg hl, ite_self]
  have r1 : X3_fetch_s1 V S Y R (nI c) = va_up S 2 (fun _ => S 2 0 + 1) := by rw [X3_fetch_s1, X3_letFetch_s1, if_pos w1, if_neg hl, if_pos hpw]
  refine ⟨by rw [X3_fetch_r, X3_letFetch_r, if_pos w1, if_neg hl, if_pos hpw], ?_⟩
  rw [r0, r1]
  exact ps_fin h (ps_mono (ps_wrong h.1 h6) (by omega)) (by have := h.2.1.1; omega) h.2.2.1 _ _
theorem ps_opFetch3 (h : ps_C i D n m V S Y zp zq zc zl zv zg zu zf zk zt why beh) (R : Nat → kz_S) {w : Int32} {k j s : Nat} (hw : ∃ c, c < 10000 ∧ w = nI c) (h6 : ¬ zt 6 = 3) (hk : k < n) (hj : j < 48) (ek : zp k = nI j) (hpw : X1_placeWith_r S w = nI j) (hs : s < 10) (es : L_sender_r zq k = nI s) : X3_fetch_r V S Y R w = L_fee_r zq zt k (nI D) ∧ ps_I (i + 1) (X3_fetch_s0 V S Y R w) (X3_fetch_s1 V S Y R w) (X3_fetch_s2 V S Y R w) (L_leaves_s0 zp zc zl zv (upd zt 9 (zt 9 + L_fee_r zq zt k (nI D))) k) zq zc (L_leaves_s2 zp zc zl zv (upd zt 9 (zt 9 + L_fee_r zq zt k (nI D))) k) (L_leaves_s3 zp zc zl zv (upd zt 9 (zt 9 + L_fee_r zq zt k (nI D))) k) zg zu (upd zf s (zf s + 1)) zk (L_leaves_s4 zp zc zl zv (upd zt 9 (zt 9 + L_fee_r zq zt k (nI D))) k) why beh := by
  have hD := ps_hD h
  obtain ⟨c, hc, rfl⟩ := hw
  have w1 : X3_isWithin_p (nI c) 0 9999 := ps_wi (k := 9999) (by omega) (by omega)
  have hl : ¬ X1_isLocked_p S := fun q => h6 ((ps_lock h).mp q)
  have hn : ¬ X1_placeWith_r S (nI c) = (-1) := by rw [hpw]; exact ps_m1 (by omega)
  have ef := ps_rFee0 h.1 (by omega) hk hj ek
  obtain ⟨w', hw', ec, a5, a6, -⟩ := ps_rAt h.1 (by omega) hk hj ek
  have e6 : (S 6 j).toNatClampNeg = s := by rw [a6, es, nI_clamp (by omega)]
  have r0 : X3_fetch_s0 V S Y R (nI c) = V := by rw [X3_fetch_s0, X3_letFetch_s0, if_pos w1, if_neg hl, ite_self]
  have r1 : X3_fetch_s1 V S Y R (nI c) = X1_leave_s (va_up (va_up S 4 (fun _ => S 4 0 + L_fee_r zq zt k (nI D))) 12 (upd (S 12) s (S 12 s + 1))) j := by
    rw [X3_fetch_s1, X3_letFetch_s1, if_pos w1, if_neg hl, if_neg hn, hpw, nI_clamp (by omega), e6, ef]
  refine ⟨by rw [X3_fetch_r, X3_letFetch_r, if_pos w1, if_neg hl, if_neg hn, hpw, nI_clamp (by omega), ef], ?_⟩
  rw [r0, r1]
  exact ps_fin h (ps_mono (ps_leave (ps_paid h.1 hs _) (ps_hN h) hk hj ek) (by omega)) (by have := h.2.1.1; omega) h.2.2.1 _ _
-- refusals for want of a parcel
theorem ps_nop (h : ps_C i D n m V S Y zp zq zc zl zv zg zu zf zk zt why beh) (w : Int32) : (X3_refuseForNoParcel_s V S w) 6 0 = 4 ∧ (X3_refuseForNoParcel_s V S w) 7 0 = if L_until_r zl zv zt w ≤ nI D then (-6) else 5 := by
  have hD := ps_hD h
  rw [X3_refuseForNoParcel_s]
  rcases ps_ic w with e | ⟨v, j, hv, hj, e1, e2⟩
  · rw [e, if_pos (by decide), ps_rUn0 h.1 (ps_hN h) e, if_pos (nI_pos' (by omega))]
    exact ⟨rfl, rfl⟩
  · rw [e2, if_neg (nI_pos (by omega))]
    have hr := ps_rRe h.1 (ps_hN h) (by omega) hv hj
    rw [← e1] at hr
    by_cases q : L_until_r zl zv zt w ≤ nI D
    · rw [if_neg (fun z => (hr.mp z) q), if_pos q]
      exact ⟨rfl, rfl⟩
    · rw [if_pos (hr.mpr q), if_neg q]
      exact ⟨rfl, rfl⟩
theorem ps_opRefuse1 (h : ps_C i D n m V S Y zp zq zc zl zv zg zu zf zk zt why beh) (R : Nat → kz_S) {w : Int32} (hb : ¬ 0 ≤ L_by_r zp zc zt w) : X3_refuse_r V S Y R w = (-1) ∧ ∀ b : Int32, b = (if L_until_r zl zv zt w ≤ nI D then (-6) else 5) → ps_I (i + 1) (X3_refuse_s0 V S Y R w) (X3_refuse_s1 V S Y R w) (X3_refuse_s2 V S Y R w) zp zq zc zl zv zg zu zf zk zt 4 b := by
  have hpw := ps_byN h hb
  have r0 : X3_refuse_s0 V S Y R w = X3_refuseForNoParcel_s V S w := by rw [X3_refuse_s0, X3_letRefuse_s0, if_pos hpw]
  have r1 : X3_refuse_s1 V S Y R w = S := by rw [X3_refuse_s1, X3_letRefuse_s1, if_pos hpw]
  refine ⟨by rw [X3_refuse_r, X3_letRefuse_r, if_pos hpw], fun b hbv => ?_⟩
  rw [r0, r1, hbv]
  exact ps_same h (ps_nop h w) _ _
theorem ps_opRefuse2 (h : ps_C i D n m V S Y zp zq zc zl zv zg zu zf zk zt why beh) (R : Nat → kz_S) {w : Int32} {k j s : Nat} (hk : k < n) (hj : j < 48) (ek : zp k = nI j) (hpw : X1_placeWith_r S w = nI j) (hs : s < 10) (es : L_sender_r zq k = nI s) (h9 : zg s = 9) : X3_refuse_r V S Y R w = (-3) ∧ ps_I (i + 1) (X3_refuse_s0 V S Y R w) (X3_refuse_s1 V S Y R w) (X3_refuse_s2 V S Y R w) zp zq zc zl zv zg zu zf zk zt 3 (-6) := by
  have hD := ps_hD h
  have hn : ¬ X1_placeWith_r S w = (-1) := by rw [hpw]; exact ps_m1 (by omega)
  obtain ⟨w', hw', ec, a5, a6, -⟩ := ps_rAt h.1 (by omega) hk hj ek
  have e6 : (S 6 j).toNatClampNeg = s := by rw [a6, es, nI_clamp (by omega)]
  have e10 : S 10 s = 9 := (h.1.2.1 s hs).1.1.symm.trans h9
  have hc : ¬ S 10 (S 6 (X1_placeWith_r S w).toNatClampNeg).toNatClampNeg < 9 := by rw [hpw, nI_clamp (by omega), e6, e10]; decide
  have r0 : X3_refuse_s0 V S Y R w = X3_refuseFor_s V 3 (-6) := by rw [X3_refuse_s0, X3_letRefuse_s0, if_neg hn, if_neg hc]
  have r1 : X3_refuse_s1 V S Y R w = S := by rw [X3_refuse_s1, X3_letRefuse_s1, if_neg hn, if_neg hc]
  refine ⟨by rw [X3_refuse_r, X3_letRefuse_r, if_neg hn, if_neg hc], ?_⟩
  rw [r0, r1]
  exact ps_same h ⟨rfl, rfl⟩ _ _
theorem ps_opRefuse3 (h : ps_C i D n m V S Y zp zq zc zl zv zg zu zf zk zt why beh) (R : Nat → kz_S) {w : Int32} {k j s : Nat} (hk : k < n) (hj : j < 48) (ek : zp k = nI j) (hpw : X1_placeWith_r S w = nI j) (hs : s < 10) (es : L_sender_r zq k = nI s) (h9 : ¬ zg s = 9) : X3_refuse_r V S Y R w = zg s + 1 ∧ ps_I (i + 1) (X3_refuse_s0 V S Y R w) (X3_refuse_s1 V S Y R w) (X3_refuse_s2 V S Y R w) (L_leaves_s0 zp zc zl zv zt k) zq zc (L_leaves_s2 zp zc zl zv zt k) (L_leaves_s3 zp zc zl zv zt k) (upd zg s (zg s + 1)) zu zf zk (L_leaves_s4 zp zc zl zv zt k) why beh := by
  have hD := ps_hD h
  have hn : ¬ X1_placeWith_r S w = (-1) := by rw [hpw]; exact ps_m1 (by omega)
  obtain ⟨w', hw', ec, a5, a6, -⟩ := ps_rAt h.1 (by omega) hk hj ek
  have e6 : (S 6 j).toNatClampNeg = s := by rw [a6, es, nI_clamp (by omega)]
  obtain ⟨⟨eg, -⟩, b, hb, eb⟩ := h.1.2.1 s hs
  have hb9 : b ≠ 9 := fun q => h9 (by rw [eg, eb, q]; rfl)
  have h10 : ¬ 9 ≤ S 10 s := by rw [eb]; exact nI_ge (a := b) (b := 9) (by omega) (by omega)
  have hc : S 10 (S 6 (X1_placeWith_r S w).toNatClampNeg).toNatClampNeg < 9 := by rw [hpw, nI_clamp (by omega), e6, eb]; exact nI_lt (a := b) (b := 9) (by omega) (by omega)
  have el : X1_leave_s S j 10 = S 10 := by rw [ps_leaveS hw' hj a5]; rfl
  have hR := ps_bin (ps_leave h.1 (ps_hN h) hk hj ek) hs (by rw [el]; exact h10)
  have r0 : X3_refuse_s0 V S Y R w = V := by rw [X3_refuse_s0, X3_letRefuse_s0, if_neg hn, if_pos hc]
  have r1 : X3_refuse_s1 V S Y R w = va_up (X1_leave_s S j) 10 (upd (X1_leave_s S j 10) s (X1_leave_s S j 10 s + 1)) := by
    rw [X3_refuse_s1, X3_letRefuse_s1, if_neg hn, if_pos hc, hpw, nI_clamp (by omega), e6]
  refine ⟨?_, ?_⟩
  · rw [X3_refuse_r, X3_letRefuse_r, if_neg hn, if_pos hc, hpw, nI_clamp (by omega), e6, pk_us, el, eg]
  · rw [r0, r1]
    exact ps_fin h (ps_mono hR (by omega)) (by have := h.2.1.1; omega) h.2.2.1 _ _
-- move
theorem ps_opMove1 (h : ps_C i D n m V S Y zp zq zc zl zv zg zu zf zk zt why beh) (R : Nat → kz_S) {w y : Int32} (hb : ¬ 0 ≤ L_by_r zp zc zt w) : X3_move_r V S Y R w y = (-1) ∧ ∀ b : Int32, b = (if L_until_r zl zv zt w ≤ nI D then (-6) else 5) → ps_I (i + 1) (X3_move_s0 V S Y R w y) (X3_move_s1 V S Y R w y) (X3_move_s2 V S Y R w y) zp zq zc zl zv zg zu zf zk zt 4 b := by
  have hpw := ps_byN h hb
  have r0 : X3_move_s0 V S Y R w y = X3_refuseForNoParcel_s V S w := by rw [X3_move_s0, X3_moveParcel_s0, if_pos hpw]
  have r1 : X3_move_s1 V S Y R w y = S := by rw [X3_move_s1, X3_moveParcel_s1, if_pos hpw]
  refine ⟨by rw [X3_move_r, X3_moveParcel_r, if_pos hpw], fun b hbv => ?_⟩
  rw [r0, r1, hbv]
  exact ps_same h (ps_nop h w) _ _
theorem ps_opMove2 (h : ps_C i D n m V S Y zp zq zc zl zv zg zu zf zk zt why beh) (R : Nat → kz_S) {w : Int32} {k j y : Nat} (hk : k < n) (hj : j < 48) (ek : zp k = nI j) (hpw : X1_placeWith_r S w = nI j) (hy : y < 6) (hbad : nI j / 8 = nI y ∨ ¬ L_size_r zq k ≤ nI y / 2) : X3_move_r V S Y R w (nI y) = (-2) ∧ ps_I (i + 1) (X3_move_s0 V S Y R w (nI y)) (X3_move_s1 V S Y R w (nI y)) (X3_move_s2 V S Y R w (nI y)) zp zq zc zl zv zg zu zf zk zt why beh := by
  have hD := ps_hD h
  have hn : ¬ X1_placeWith_r S w = (-1) := by rw [hpw]; exact ps_m1 (by omega)
  have w1 : X3_isWithin_p (nI y) 0 5 := ps_wi (k := 5) (by omega) (by omega)
  obtain ⟨w', hw', ec, a5, a6, a7, -⟩ := ps_rAt h.1 (by omega) hk hj ek
  by_cases c : nI y = nI j / 8
  · have r0 : X3_move_s0 V S Y R w (nI y) = V := by rw [X3_move_s0, X3_moveParcel_s0, if_neg hn, if_pos w1, hpw, nI_clamp (by omega : y < 2 ^ 31), nI_clamp (by omega : j < 2 ^ 31), if_pos c]
    have r1 : X3_move_s1 V S Y R w (nI y) = S := by rw [X3_move_s1, X3_moveParcel_s1, if_neg hn, if_pos w1, hpw, nI_clamp (by omega : y < 2 ^ 31), nI_clamp (by omega : j < 2 ^ 31), if_pos c]
    refine ⟨by rw [X3_move_r, X3_moveParcel_r, if_neg hn, if_pos w1, hpw, nI_clamp (by omega : y < 2 ^ 31), nI_clamp (by omega : j < 2 ^ 31), if_pos c], ?_⟩
    rw [r0, r1]
    exact ps_same h h.2.2.1 _ _
  · have c2 : ¬ S 7 j ≤ X3_sizeOfShelf_r (nI y) := by
      rw [a7, X3_sizeOfShelf_r]
      exact hbad.elim (fun q => absurd q.symm c) id
    have r0 : X3_move_s0 V S Y R w (nI y) = V := by rw [X3_move_s0, X3_moveParcel_s0, if_neg hn, if_pos w1, hpw, nI_clamp (by omega : y < 2 ^ 31), nI_clamp (by omega : j < 2 ^ 31), if_neg c, if_neg c2]
    have r1 : X3_move_s1 V S Y R w (nI y) = S := by rw [X3_move_s1, X3_moveParcel_s1, if_neg hn, if_pos w1, hpw, nI_clamp (by omega : y < 2 ^ 31), nI_clamp (by omega : j < 2 ^ 31), if_neg c, if_neg c2]
    refine ⟨by rw [X3_move_r, X3_moveParcel_r, if_neg hn, if_pos w1, hpw, nI_clamp (by omega : y < 2 ^ 31), nI_clamp (by omega : j < 2 ^ 31), if_neg c, if_neg c2], ?_⟩
    rw [r0, r1]
    exact ps_same h h.2.2.1 _ _
theorem ps_opMove3 (h : ps_C i D n m V S Y zp zq zc zl zv zg zu zf zk zt why beh) (R : Nat → kz_S) {w : Int32} {k j y : Nat} (hk : k < n) (hj : j < 48) (ek : zp k = nI j) (hpw : X1_placeWith_r S w = nI j) (hy : y < 6) (hg : ¬ nI j / 8 = nI y) (hg2 : L_size_r zq k ≤ nI y / 2) (hp : L_place_r zp zl zv zt y y < 0) : X3_move_r V S Y R w (nI y) = (-4) ∧ ps_I (i + 1) (X3_move_s0 V S Y R w (nI y)) (X3_move_s1 V S Y R w (nI y)) (X3_move_s2 V S Y R w (nI y)) zp zq zc zl zv zg zu zf zk zt 1 (-(L_place_r zp zl zv zt y y)) := by
  have hD := ps_hD h
  have hn : ¬ X1_placeWith_r S w = (-1) := by rw [hpw]; exact ps_m1 (by omega)
  have w1 : X3_isWithin_p (nI y) 0 5 := ps_wi (k := 5) (by omega) (by omega)
  obtain ⟨w', hw', ec, a5, a6, a7, -⟩ := ps_rAt h.1 (by omega) hk hj ek
  have c : ¬ nI y = nI j / 8 := fun q => hg q.symm
  have c2 : S 7 j ≤ X3_sizeOfShelf_r (nI y) := by rw [a7, X3_sizeOfShelf_r]; exact hg2
  rcases ps_rPl h.1 (ps_hN h) (by omega) (Nat.le_refl y) hy with ⟨e1, e2⟩ | ⟨b, -, hb, -, -, e2⟩
  · have r0 : X3_move_s0 V S Y R w (nI y) = X3_refuseForNoPlace_s V S y y := by rw [X3_move_s0, X3_moveParcel_s0, if_neg hn, if_pos w1, hpw, nI_clamp (by omega : y < 2 ^ 31), nI_clamp (by omega : j < 2 ^ 31), if_neg c, if_pos c2, if_pos e1]
    have r1 : X3_move_s1 V S Y R w (nI y) = S := by rw [X3_move_s1, X3_moveParcel_s1, if_neg hn, if_pos w1, hpw, nI_clamp (by omega : y < 2 ^ 31), nI_clamp (by omega : j < 2 ^ 31), if_neg c, if_pos c2, if_pos e1]
    refine ⟨by rw [X3_move_r, X3_moveParcel_r, if_neg hn, if_pos w1, hpw, nI_clamp (by omega : y < 2 ^ 31), nI_clamp (by omega : j < 2 ^ 31), if_neg c, if_pos c2, if_pos e1], ?_⟩
    rw [r0, r1, e2, X3_refuseForNoPlace_s]
    refine ps_same h ?_ _ _
    by_cases q : X1_hasFreePlace_p S y y
    · rw [if_pos q, if_pos q]; exact ⟨rfl, rfl⟩
    · rw [if_neg q, if_neg q]; exact ⟨rfl, rfl⟩
  · exact absurd (show nI b < 0 by rw [← e2]; exact hp) (nI_pos (by omega))
theorem ps_opMove4 (h : ps_C i D n m V S Y zp zq zc zl zv zg zu zf zk zt why beh) (R : Nat → kz_S) {w : Int32} {k j y b : Nat} (hk : k < n) (hj : j < 48) (ek : zp k = nI j) (hpw : X1_placeWith_r S w = nI j) (hy : y < 6) (hg : ¬ nI j / 8 = nI y) (hg2 : L_size_r zq k ≤ nI y / 2) (hb : b < 48) (ep : X1_placeToGive_r S y y = nI b) (h5 : S 5 b = 0) : X3_move_r V S Y R w (nI y) = nI (ps_cd (D % 7 + 1) b) ∧ ps_I (i + 1) (X3_move_s0 V S Y R w (nI y)) (X3_move_s1 V S Y R w (nI y)) (X3_move_s2 V S Y R w (nI y)) (upd (L_leaves_s0 zp zc zl zv zt k) k (nI b)) zq (upd zc k (nI (ps_cd (D % 7 + 1) b))) (L_leaves_s2 zp zc zl zv zt k) (L_leaves_s3 zp zc zl zv zt k) zg zu zf zk (L_leaves_s4 zp zc zl zv zt k) why beh := by
  have hD := ps_hD h
  have hn : ¬ X1_placeWith_r S w = (-1) := by rw [hpw]; exact ps_m1 (by omega)
  have w1 : X3_isWithin_p (nI y) 0 5 := ps_wi (k := 5) (by omega) (by omega)
  obtain ⟨w', hw', ec, a5, a6, a7, -⟩ := ps_rAt h.1 (by omega) hk hj ek
  have c : ¬ nI y = nI j / 8 := fun q => hg q.symm
  have c2 : S 7 j ≤ X3_sizeOfShelf_r (nI y) := by rw [a7, X3_sizeOfShelf_r]; exact hg2
  have c3 : ¬ X1_placeToGive_r S y y = (-1) := by rw [ep]; exact ps_m1 (by omega)
  have hR := ps_move h.1 (ps_hN h) (by omega) hk hj ek hb h5
  have r0 : X3_move_s0 V S Y R w (nI y) = V := by rw [X3_move_s0, X3_moveParcel_s0, if_neg hn, if_pos w1, hpw, nI_clamp (by omega : y < 2 ^ 31), nI_clamp (by omega : j < 2 ^ 31), if_neg c, if_pos c2, if_neg c3]
  have r1 : X3_move_s1 V S Y R w (nI y) = X1_leave_s (X1_put_s S b (S 6 j) (S 7 j) (S 8 j)) j := by rw [X3_move_s1, X3_moveParcel_s1, if_neg hn, if_pos w1, hpw, nI_clamp (by omega : y < 2 ^ 31), nI_clamp (by omega : j < 2 ^ 31), if_neg c, if_pos c2, if_neg c3, ep, nI_clamp (by omega : b < 2 ^ 31)]
  refine ⟨?_, ?_⟩
  · have e3 := ps_codeOn hR hk hb pk_us
    rw [pk_us] at e3
    rw [X3_move_r, X3_moveParcel_r, if_neg hn, if_pos w1, hpw, nI_clamp (by omega : y < 2 ^ 31), nI_clamp (by omega : j < 2 ^ 31), if_neg c, if_pos c2, if_neg c3, ep, nI_clamp (by omega : b < 2 ^ 31)]
    exact e3
  · rw [r0, r1]
    exact ps_fin h hR (by have := h.2.1.1; omega) h.2.2.1 _ _
-- days, calls, settings
theorem ps_opPass (h : ps_C i D n m V S Y zp zq zc zl zv zg zu zf zk zt why beh) (R : Nat → kz_S) {d : Nat} {x : Int32} {p2 l2 v2 g2 u2 k2 t2 : Nat → Int32} (hd1 : 1 ≤ d) (hd9 : d ≤ 9) (hr : ∃ m', ps_R i (D + d) n m' (X3_psn S d).1 p2 zq zc l2 v2 g2 u2 zf k2 t2) (hx : x = (X3_psn S d).2) : X3_pass_r V S Y R (nI d) = x ∧ ps_I (i + 1) V (X3_pass_s1 V S Y R (nI d)) (X3_pass_s2 V S Y R (nI d)) p2 zq zc l2 v2 g2 u2 zf k2 t2 why beh := by
  have hD := ps_hD h
  have w1 : X3_isWithin_p (nI d) 1 30 := ⟨nI_nlt (a := d) (b := 1) hd1 (by omega), nI_nlt (a := 30) (b := d) (by omega) (by omega)⟩
  have w2 : S 1 0 ≤ 9999 - nI d := by
    rw [h.1.2.2.2.2.1.2, show (9999 : Int32) - nI d = nI (9999 - d) from pk_sub (a := 9999) (b := d) (by omega)]
    exact nI_le (by omega) (by omega)
  have r1 : X3_pass_s1 V S Y R (nI d) = (X3_psn S d).1 := by rw [X3_pass_s1, X3_letPass_s, if_pos w1, if_pos w2, nI_clamp (by omega)]
  refine ⟨by rw [X3_pass_r, X3_letPass_r, if_pos w1, if_pos w2, nI_clamp (by omega), hx], ?_⟩
  rw [r1]
  obtain ⟨m', r⟩ := hr
  exact ps_fin h (ps_mono r (by omega)) (by have := h.2.1.1; omega) h.2.2.1 _ _
theorem ps_opCall1 (h : ps_C i D n m V S Y zp zq zc zl zv zg zu zf zk zt why beh) (R : Nat → kz_S) {s : Nat} (hs : s < 10) (h0 : zg s = 0) : X3_call_r V S Y R (nI s) = (-3) ∧ ps_I (i + 1) V (X3_call_s1 V S Y R (nI s)) (X3_call_s2 V S Y R (nI s)) zp zq zc zl zv zg zu zf zk zt why beh := by
  have w1 : X3_isWithin_p (nI s) 0 9 := ps_wi (k := 9) (by omega) (by omega)
  have c : S 10 s = 0 := (h.1.2.1 s hs).1.1.symm.trans h0
  have r1 : X3_call_s1 V S Y R (nI s) = S := by rw [X3_call_s1, X3_callCourier_s, if_pos w1, nI_clamp (by omega), if_pos c]
  refine ⟨by rw [X3_call_r, X3_callCourier_r, if_pos w1, nI_clamp (by omega), if_pos c], ?_⟩
  rw [r1]
  exact ps_same h h.2.2.1 _ _
theorem ps_opCall2 (h : ps_C i D n m V S Y zp zq zc zl zv zg zu zf zk zt why beh) (R : Nat → kz_S) {s : Nat} (hs : s < 10) (h0 : ¬ zg s = 0) : X3_call_r V S Y R (nI s) = L_takes_r zg zu zk zt s 6 ∧ ps_I (i + 1) V (X3_call_s1 V S Y R (nI s)) (X3_call_s2 V S Y R (nI s)) zp zq zc zl zv (L_takes_s0 zg zu zk zt s 6) (L_takes_s1 zg zu zk zt s 6) zf (L_takes_s2 zg zu zk zt s 6) zt why beh := by
  have w1 : X3_isWithin_p (nI s) 0 9 := ps_wi (k := 9) (by omega) (by omega)
  have c : ¬ S 10 s = 0 := fun q => h0 ((h.1.2.1 s hs).1.1.trans q)
  obtain ⟨hR, er⟩ := ps_takes h.1 hs 6
  have r1 : X3_call_s1 V S Y R (nI s) = X1_emptyBin_s S s 6 := by rw [X3_call_s1, X3_callCourier_s, if_pos w1, nI_clamp (by omega), if_neg c]
  refine ⟨by rw [X3_call_r, X3_callCourier_r, if_pos w1, nI_clamp (by omega), if_neg c, er], ?_⟩
  rw [r1]
  exact ps_fin h (ps_mono hR (by omega)) (by have := h.2.1.1; omega) h.2.2.1 _ _
theorem ps_opSet (h : ps_C i D n m V S Y zp zq zc zl zv zg zu zf zk zt why beh) (R : Nat → kz_S) {k y : Nat} (hk : k < 5) (hy : y ≤ 50) (hv : X3_isWithin_p (nI y) (kz_low k) (kz_high k)) : X3_set_r V S Y R (nI k) (nI y) = zt k ∧ X3_setting_r V (X3_set_s1 V S Y R (nI k) (nI y)) (nI k) = nI y ∧ ps_I (i + 1) V (X3_set_s1 V S Y R (nI k) (nI y)) (X3_set_s2 V S Y R (nI k) (nI y)) zp zq zc zl zv zg zu zf zk (upd zt k (nI y)) why beh := by
  have w1 : X3_isWithin_p (nI k) 0 4 := ps_wi (k := 4) (by omega) (by omega)
  have r1 : X3_set_s1 V S Y R (nI k) (nI y) = va_up S 0 (upd (S 0) k (nI y)) := by rw [X3_set_s1, X3_changeSetting_s, if_pos w1, nI_clamp (by omega : k < 2 ^ 31), if_pos hv]
  refine ⟨by rw [X3_set_r, X3_changeSetting_r, if_pos w1, nI_clamp (by omega : k < 2 ^ 31), if_pos hv, h.1.1.1 k hk], ?_, ?_⟩
  · rw [r1, X3_setting_r, if_pos w1, nI_clamp (by omega : k < 2 ^ 31)]
    exact (show upd (S 0) k (nI y) k = nI y from pk_us)
  · rw [r1]
    exact ps_fin h (ps_mono (ps_setS h.1 hk hy) (by omega)) (by have := h.2.1.1; omega) h.2.2.1 _ _
end PS
