/-! PURE: the law's rows and the class's shop tell the same; what is asked of both -/
def ps_st (S : kz_S) (zt : Nat → Int32) : Prop := (∀ j, j < 5 → zt j = S 0 j) ∧ ∀ j, j < 5 → ∃ n, n ≤ 50 ∧ S 0 j = nI n
def ps_bn (S : kz_S) (zg zu zf zk : Nat → Int32) : Prop := ∀ j, j < 10 → (zg j = S 10 j ∧ zu j = S 11 j ∧ zf j = S 12 j ∧ zk j = S 13 j) ∧ ∃ b, b ≤ 9 ∧ S 10 j = nI b
/-- one parcel: its place or -1, what came, its code -/
def ps_pc (D : Nat) (S : kz_S) (y z c : Int32) : Prop := ∃ d s v w j, d ≤ D ∧ s < 10 ∧ v < 3 ∧ w < 7 ∧ j < 48 ∧ z = nI (1000 * d + 100 * s + 10 * v) ∧ c = nI (ps_cd (w + 1) j) ∧ (y = (-1) ∨ (y = nI j ∧ S 5 j = nI (w + 1) ∧ S 6 j = nI s ∧ S 7 j = nI v ∧ S 8 j = nI d))
def ps_pa (D n : Nat) (S : kz_S) (zp zq zc : Nat → Int32) : Prop := (∀ i, i < n → ps_pc D S (zp i) (zq i) (zc i)) ∧ (∀ i k, i < n → k < n → zp i = zp k → ¬ zp i < 0 → i = k) ∧ (∀ j, j < 48 → S 5 j = 0 ∨ ∃ i, i < n ∧ zp i = nI j) ∧ ∀ j, j < 48 → ∃ q, q < 10 ∧ S 6 j = nI q
def ps_lf (D m : Nat) (S : kz_S) (zl zv : Nat → Int32) : Prop := (∀ w j, w < 7 → j < 48 → S 9 (48 * w + j) = ps_lv zl zv (nI (ps_cd (w + 1) j)) m) ∧ (∀ i, i < m → ∃ d, d ≤ D ∧ zv i = nI d) ∧ ∀ i, i < m → ∃ w j, w < 7 ∧ j < 48 ∧ zl i = nI (ps_cd (w + 1) j)
def ps_nm (N D n m : Nat) (S : kz_S) (zp zt : Nat → Int32) : Prop := (zt 5 = nI D ∧ S 1 0 = nI D) ∧ (∃ u, u ≤ 3 ∧ zt 6 = nI u ∧ S 2 0 = nI u) ∧ (zt 7 = nI n ∧ S 3 0 = nI n) ∧ zt 8 = nI m ∧ zt 9 = S 4 0 ∧ n ≤ N ∧ m + ps_ct zp n ≤ N
def ps_R (N D n m : Nat) (S : kz_S) (zp zq zc zl zv zg zu zf zk zt : Nat → Int32) : Prop := ps_st S zt ∧ ps_bn S zg zu zf zk ∧ ps_pa D n S zp zq zc ∧ ps_lf D m S zl zv ∧ ps_nm N D n m S zp zt
section PS
variable {N D n m : Nat} {S : kz_S} {zp zq zc zl zv zg zu zf zk zt : Nat → Int32}
theorem ps_at (h : ps_pa D n S zp zq zc) {i j : Nat} (hi : i < n) (hj : j < 48) (e : zp i = nI j) : ∃ d s v w, d ≤ D ∧ s < 10 ∧ v < 3 ∧ w < 7 ∧ zq i = nI (1000 * d + 100 * s + 10 * v) ∧ zc i = nI (ps_cd (w + 1) j) ∧ S 5 j = nI (w + 1) ∧ S 6 j = nI s ∧ S 7 j = nI v ∧ S 8 j = nI d := by
  obtain ⟨d, s, v, w, k, hd, hs, hv, hw, hk, ez, ec, hy⟩ := h.1 i hi
  rcases hy with y | ⟨y, a5, a6, a7, a8⟩
  · exact absurd (show nI j < 0 by rw [← e, y]; decide) (nI_pos (by omega))
  · have ek : k = j := (nI_eq (by omega) (by omega)).mp (y.symm.trans e)
    subst ek
    exact ⟨d, s, v, w, hd, hs, hv, hw, ez, ec, a5, a6, a7, a8⟩
theorem ps_sgn (h : ps_pa D n S zp zq zc) {i : Nat} (hi : i < n) : zp i = (-1) ∨ ∃ j, j < 48 ∧ zp i = nI j := by
  obtain ⟨d, s, v, w, k, hd, hs, hv, hw, hk, ez, ec, hy⟩ := h.1 i hi
  exact hy.elim Or.inl fun a => Or.inr ⟨k, hk, a.1⟩
theorem ps_there (h : ps_pa D n S zp zq zc) {i : Nat} (hi : i < n) (h0 : ¬ zp i < 0) : ∃ j, j < 48 ∧ zp i = nI j :=
  (ps_sgn h hi).elim (fun e => absurd (show zp i < 0 by rw [e]; decide) h0) id
theorem ps_n5 {w : Nat} (hw : w < 7) {x : Int32} (e : x = nI (w + 1)) : ¬ x = 0 := by rw [e]; exact nI_ne0 (by omega) (by omega)
theorem ps_free (h : ps_pa D n S zp zq zc) {j : Nat} (hj : j < 48) (h0 : S 5 j = 0) : ∀ i, i < n → ¬ zp i = nI j := by
  intro i hi e
  obtain ⟨d, s, v, w, hd, hs, hv, hw, ez, ec, a5, -⟩ := ps_at h hi hj e
  exact ps_n5 hw a5 h0
theorem ps_J (h : ps_R N D n m S zp zq zc zl zv zg zu zf zk zt) : kz_J S := by
  obtain ⟨-, -, hp, -, -⟩ := h
  refine ⟨fun j hj => ?_, hp.2.2.2⟩
  rcases hp.2.2.1 j hj with e | ⟨i, hi, e⟩
  · exact ⟨0, by omega, e⟩
  · obtain ⟨d, s, v, w, hd, hs, hv, hw, ez, ec, a5, -⟩ := ps_at hp hi hj e
    exact ⟨w + 1, by omega, a5⟩
theorem ps_t (h : ps_R N D n m S zp zq zc zl zv zg zu zf zk zt) (hD : D ≤ 600) : ∃ d, d < 2 ^ 30 ∧ S 1 0 = nI d := ⟨D, by omega, h.2.2.2.2.1.2⟩
theorem ps_h7 (h : ps_R N D n m S zp zq zc zl zv zg zu zf zk zt) (hN : N ≤ 60) : ∃ n, n ≤ 60 ∧ zt 7 = nI n := ⟨n, by have := h.2.2.2.2.2.2.2.2.2.1; omega, h.2.2.2.2.2.2.1.1⟩
theorem ps_h8 (h : ps_R N D n m S zp zq zc zl zv zg zu zf zk zt) (hN : N ≤ 60) : ∃ n, n ≤ 60 ∧ zt 8 = nI n := ⟨m, by have := h.2.2.2.2.2.2.2.2.2.2; omega, h.2.2.2.2.2.2.2.1⟩
theorem ps_h5 (h : ps_R N D n m S zp zq zc zl zv zg zu zf zk zt) (hD : D ≤ 600) : ∃ d, d < 2 ^ 30 ∧ zt 5 = nI d := ⟨D, by omega, h.2.2.2.2.1.1⟩
theorem ps_n (h : ps_R N D n m S zp zq zc zl zv zg zu zf zk zt) : n ≤ N := h.2.2.2.2.2.2.2.2.2.1
theorem ps_m (h : ps_R N D n m S zp zq zc zl zv zg zu zf zk zt) : m + ps_ct zp n ≤ N := h.2.2.2.2.2.2.2.2.2.2
theorem ps_rOn (h : ps_R N D n m S zp zq zc zl zv zg zu zf zk zt) (hN : N ≤ 60) {j : Nat} (hj : j < 48) : (S 5 j = 0 ∧ L_on_r zp zt (nI j) = (-1)) ∨ ∃ i, i < n ∧ zp i = nI j ∧ L_on_r zp zt (nI j) = nI i ∧ ¬ S 5 j = 0 := by
  have hn := ps_n h
  have e7 : zt 7 = nI n := h.2.2.2.2.2.2.1.1
  have hp := h.2.2.1
  rw [L_on_r, e7, nI_clamp (by omega)]
  by_cases c : S 5 j = 0
  · exact Or.inl ⟨c, ps_on_no n (ps_free hp hj c)⟩
  · rcases hp.2.2.1 j hj with e | hi
    · exact absurd e c
    · obtain ⟨i, h1, h2, h3⟩ := ps_on_some n hi
      exact Or.inr ⟨i, h1, h2, h3, c⟩
theorem ps_pw {code : Int32} {w j : Nat} (hw : w < 7) (hj : j < 48) (e : X3_indexOfCode_r code = nI (48 * w + j)) : X1_placeWith_r S code = if S 5 j = nI (w + 1) then nI j else (-1) := by
  have e1 : kz_rem (nI (48 * w + j)) 48 = nI j := (kz_remN (d := 48) (by omega) (by omega) (by omega)).trans (congrArg nI (by omega))
  have e2 : nI (48 * w + j) / 48 + 1 = nI (w + 1) := by
    rw [show (48 : Int32) = nI 48 from rfl, kz_divN (by omega) (by omega) (by omega), nI_1]
    exact congrArg nI (by omega)
  rw [X1_placeWith_r, e, if_pos (nI_pos' (by omega)), e1, e2, nI_clamp (by omega)]
theorem ps_rBy (h : ps_R N D n m S zp zq zc zl zv zg zu zf zk zt) (hN : N ≤ 60) (code : Int32) : (L_by_r zp zc zt code = (-1) ∧ X1_placeWith_r S code = (-1)) ∨ ∃ i j, i < n ∧ j < 48 ∧ zp i = nI j ∧ zc i = code ∧ L_by_r zp zc zt code = nI i ∧ X1_placeWith_r S code = nI j := by
  have hn := ps_n h
  have e7 : zt 7 = nI n := h.2.2.2.2.2.2.1.1
  have hp := h.2.2.1
  rw [L_by_r, e7, nI_clamp (by omega)]
  by_cases c : ∃ i, i < n ∧ ¬ zp i < 0 ∧ zc i = code
  · obtain ⟨i, h1, h2, h3, h4⟩ := ps_by_some n c
    obtain ⟨j, hj, e⟩ := ps_there hp h1 h2
    obtain ⟨d, s, v, w, hd, hs, hv, hw, ez, ec, a5, -⟩ := ps_at hp h1 hj e
    refine Or.inr ⟨i, j, h1, hj, e, h3, h4, ?_⟩
    rw [ps_pw hw hj (by rw [← h3, ec]; exact ps_ci hw hj), if_pos a5]
  · refine Or.inl ⟨ps_by_no n (fun i hi q => c ⟨i, hi, q.1, q.2⟩), ?_⟩
    rcases ps_ic code with e | ⟨w, j, hw, hj, e1, e2⟩
    · rw [X1_placeWith_r, e, if_neg (by decide)]
    · rw [ps_pw hw hj e2]
      by_cases c5 : S 5 j = nI (w + 1)
      · exfalso
        rcases hp.2.2.1 j hj with e0 | ⟨i, hi, ei⟩
        · exact ps_n5 hw c5 e0
        · obtain ⟨d, s, v, w', hd, hs, hv, hw', ez, ec, a5, -⟩ := ps_at hp hi hj ei
          have ew : w + 1 = w' + 1 := (nI_eq (by omega) (by omega)).mp (c5.symm.trans a5)
          refine c ⟨i, hi, by rw [ei]; exact nI_pos (by omega), ?_⟩
          rw [ec, e1, ew]
      · rw [if_neg c5]
theorem ps_rUn (h : ps_R N D n m S zp zq zc zl zv zg zu zf zk zt) (hN : N ≤ 60) {w j : Nat} (hw : w < 7) (hj : j < 48) : (S 9 (48 * w + j) = (-1) ∧ L_until_r zl zv zt (nI (ps_cd (w + 1) j)) = 0) ∨ ∃ d, d ≤ D ∧ S 9 (48 * w + j) = nI d ∧ L_until_r zl zv zt (nI (ps_cd (w + 1) j)) = nI d + S 0 0 := by
  have hm := ps_m h
  have e8 : zt 8 = nI m := h.2.2.2.2.2.2.2.1
  have e0 : zt 0 = S 0 0 := h.1.1 0 (by omega)
  obtain ⟨l1, l2, l3⟩ := h.2.2.2.1
  rw [L_until_r, e8, nI_clamp (by omega), e0, l1 w j hw hj]
  exact ps_lv_un m l2
theorem ps_rUn0 (h : ps_R N D n m S zp zq zc zl zv zg zu zf zk zt) (hN : N ≤ 60) {code : Int32} (hc : X3_indexOfCode_r code = (-1)) : L_until_r zl zv zt code = 0 := by
  have hm := ps_m h
  have e8 : zt 8 = nI m := h.2.2.2.2.2.2.2.1
  rw [L_until_r, e8, nI_clamp (by omega)]
  refine ps_un_0 m (fun i hi e => ?_)
  obtain ⟨w, j, hw, hj, e1⟩ := h.2.2.2.1.2.2 i hi
  have h2 := ps_ci hw hj
  rw [← e1, e, hc] at h2
  exact absurd (show nI (48 * w + j) < 0 by rw [← h2]; decide) (nI_pos (by omega))
theorem ps_rRe (h : ps_R N D n m S zp zq zc zl zv zg zu zf zk zt) (hN : N ≤ 60) (hD : D ≤ 600) {w j : Nat} (hw : w < 7) (hj : j < 48) : X1_rests_p S (nI (48 * w + j)) ↔ ¬ L_until_r zl zv zt (nI (ps_cd (w + 1) j)) ≤ nI D := by
  have e1 : S 1 0 = nI D := h.2.2.2.2.1.2
  unfold X1_rests_p
  rw [nI_clamp (by omega), e1]
  rcases ps_rUn h hN hw hj with ⟨a, b⟩ | ⟨d, hd, a, b⟩
  · rw [a, b]
    exact ⟨fun q => absurd rfl q.1, fun q => absurd (nI_pos' (by omega)) q⟩
  · rw [a, b]
    exact ⟨fun q => q.2, fun q => ⟨fun q2 => absurd (show nI d < 0 by rw [q2]; decide) (nI_pos (by omega)), q⟩⟩
theorem ps_ixT (h : ps_R N D n m S zp zq zc zl zv zg zu zf zk zt) (hD : D ≤ 600) (j : Nat) : X3_indexFor_r (X3_weekdayOf_r (S 1 0)) (nI j) = nI (48 * (D % 7) + j) := by
  rw [h.2.2.2.2.1.2, X3_weekdayOf_r, X3_indexFor_r, kz_wdN (by omega), kz_ixN]
theorem ps_rT (h : ps_R N D n m S zp zq zc zl zv zg zu zf zk zt) (hN : N ≤ 60) (hD : D ≤ 600) {j : Nat} (hj : j < 48) : X1_restsToday_p S j ↔ L_plZ zl zv zt j := by
  unfold X1_restsToday_p L_plZ
  rw [ps_ixT h hD, h.2.2.2.2.1.1, nI_clamp (by omega)]
  exact ps_rRe h hN hD (by omega) hj
theorem ps_rF (h : ps_R N D n m S zp zq zc zl zv zg zu zf zk zt) (hN : N ≤ 60) {j : Nat} (hj : j < 48) : X1_isFree_p S j ↔ ¬ L_plT zp zt j := by
  unfold X1_isFree_p L_plT
  have hn := ps_n h
  rcases ps_rOn h hN hj with ⟨a, b⟩ | ⟨i, hi, e, b, a⟩
  · rw [b]; exact ⟨fun _ q => q (by decide), fun _ => a⟩
  · rw [b]; exact ⟨fun q => absurd q a, fun q => absurd (nI_pos (by omega)) q⟩
/-- the places that may be given -/
theorem ps_rPl (h : ps_R N D n m S zp zq zc zl zv zg zu zf zk zt) (hN : N ≤ 60) (hD : D ≤ 600) {a b : Nat} (hab : a ≤ b) (hb : b < 6) : (X1_placeToGive_r S a b = (-1) ∧ L_place_r zp zl zv zt a b = if X1_hasFreePlace_p S a b then (-5) else (-6)) ∨ ∃ j, 8 * a ≤ j ∧ j < 8 * (b + 1) ∧ X1_give_p S j ∧ X1_placeToGive_r S a b = nI j ∧ L_place_r zp zl zv zt a b = nI j := by
  rw [X1_placeToGive_r, L_place_r]
  rcases ps_scff (T := L_plT zp zt) (Z := L_plZ zl zv zt) (P := X1_give_p S) (Q := X1_isFree_p S) (8 * (b + 1) - 8 * a) (8 * a) (by omega) (fun j h1 h2 => ⟨⟨fun q => ⟨(ps_rF h hN (by omega)).mp q.1, fun z => q.2 ((ps_rT h hN hD (by omega)).mpr z)⟩, fun q => ⟨(ps_rF h hN (by omega)).mpr q.1, fun z => q.2 ((ps_rT h hN hD (by omega)).mp z)⟩⟩, ps_rF h hN (by omega)⟩) with q | ⟨j, h1, h2, h3, h4, h5⟩
  · exact Or.inl q
  · exact Or.inr ⟨j, h1, by omega, h3, h4, h5⟩
-- what a parcel's number tells
theorem ps_qd {d s v : Nat} (hd : d ≤ 600) (hs : s < 10) (hv : v < 3) : nI (1000 * d + 100 * s + 10 * v) / 1000 = nI d := (kz_divN (d := 1000) (by omega) (by omega) (by omega)).trans (congrArg nI (by omega))
theorem ps_qs {d s v : Nat} (hd : d ≤ 600) (hs : s < 10) (hv : v < 3) : kz_rem (nI (1000 * d + 100 * s + 10 * v)) 1000 / 100 = nI s := by
  rw [show (1000 : Int32) = nI 1000 from rfl, kz_remN (by omega) (by omega) (by omega)]
  exact (kz_divN (d := 100) (by omega) (by omega) (by omega)).trans (congrArg nI (by omega))
theorem ps_qv {d s v : Nat} (hd : d ≤ 600) (hs : s < 10) (hv : v < 3) : kz_rem (nI (1000 * d + 100 * s + 10 * v)) 100 / 10 = nI v := by
  rw [show (100 : Int32) = nI 100 from rfl, kz_remN (by omega) (by omega) (by omega)]
  exact (kz_divN (d := 10) (by omega) (by omega) (by omega)).trans (congrArg nI (by omega))
/-- a parcel on its place, told by both -/
theorem ps_rAt (h : ps_R N D n m S zp zq zc zl zv zg zu zf zk zt) (hD : D ≤ 600) {i j : Nat} (hi : i < n) (hj : j < 48) (e : zp i = nI j) : ∃ w, w < 7 ∧ zc i = nI (ps_cd (w + 1) j) ∧ S 5 j = nI (w + 1) ∧ S 6 j = L_sender_r zq i ∧ S 7 j = L_size_r zq i ∧ S 8 j = zq i / 1000 ∧ (∃ s, s < 10 ∧ L_sender_r zq i = nI s) ∧ (∃ v, v < 3 ∧ L_size_r zq i = nI v) ∧ ∃ d, d ≤ D ∧ zq i / 1000 = nI d := by
  obtain ⟨d, s, v, w, hd, hs, hv, hw, ez, ec, a5, a6, a7, a8⟩ := ps_at h.2.2.1 hi hj e
  have e1 : zq i / 1000 = nI d := by rw [ez]; exact ps_qd (by omega) hs hv
  have e2 : L_sender_r zq i = nI s := by rw [L_sender_r, ez]; exact ps_qs (by omega) hs hv
  have e3 : L_size_r zq i = nI v := by rw [L_size_r, ez]; exact ps_qv (by omega) hs hv
  exact ⟨w, hw, ec, a5, by rw [a6, e2], by rw [a7, e3], by rw [a8, e1], ⟨s, hs, e2⟩, ⟨v, hv, e3⟩, d, hd, e1⟩
theorem ps_rS (h : ps_R N D n m S zp zq zc zl zv zg zu zf zk zt) (hD : D ≤ 600) {i : Nat} (hi : i < n) : ∃ s, s < 10 ∧ L_sender_r zq i = nI s := by
  obtain ⟨d, s, v, w, k, hd, hs, hv, hw, hk, ez, ec, hy⟩ := h.2.2.1.1 i hi
  exact ⟨s, hs, by rw [L_sender_r, ez]; exact ps_qs (by omega) hs hv⟩
theorem ps_1le (y : Int32) : 1 ≤ y ↔ 0 < y := by
  rw [Int32.le_iff_toInt_le, Int32.lt_iff_toInt_lt, show (1 : Int32).toInt = 1 from by decide, show (0 : Int32).toInt = 0 from by decide]
  omega
theorem ps_rFee (h : ps_R N D n m S zp zq zc zl zv zg zu zf zk zt) (hD : D ≤ 600) {i j : Nat} (x : Nat) (hi : i < n) (hj : j < 48) (e : zp i = nI j) : L_fee_r zq zt i (nI (D + x)) = X1_feeAfter_r S j (nI x) := by
  obtain ⟨w, hw, ec, a5, a6, a7, a8, -⟩ := ps_rAt h hD hi hj e
  rw [L_fee_r, X1_feeAfter_r, a7, a8, h.1.1 1 (by omega), h.1.1 2 (by omega), h.2.2.2.2.1.2, nI_add]
  by_cases c : 0 < nI (D + x) - zq i / 1000 - S 0 1
  · rw [if_pos c, if_pos ((ps_1le _).mpr c)]
  · rw [if_neg c, if_neg (fun q => c ((ps_1le _).mp q)), Int32.mul_zero]
theorem ps_rFee0 (h : ps_R N D n m S zp zq zc zl zv zg zu zf zk zt) (hD : D ≤ 600) {i j : Nat} (hi : i < n) (hj : j < 48) (e : zp i = nI j) : L_fee_r zq zt i (nI D) = X1_feeAfter_r S j 0 := ps_rFee h hD 0 hi hj e
-- sums
theorem ps_cnA {P : Nat → Prop} [DecidablePred P] (m : Nat) : ∀ n : Nat, kz_cn P (m + n) = kz_cn P m + kz_cn (fun j => P (m + j)) n
  | 0 => by rw [kz_cn]; exact (Int32.add_zero _).symm
  | n + 1 => by
    rw [show m + (n + 1) = (m + n) + 1 by omega, kz_cn, kz_cn, ps_cnA m n]
    split
    · exact Int32.add_assoc _ _ _
    · rfl
theorem ps_cn8 {P : Nat → Prop} [DecidablePred P] : ∀ n : Nat, kz_sm (fun k => kz_cn (fun j => P (8 * k + j)) 8) n = kz_cn P (8 * n)
  | 0 => rfl
  | n + 1 => by rw [kz_sm, ps_cn8 n, show 8 * (n + 1) = 8 * n + 8 by omega, ps_cnA]
theorem ps_row (h : ps_R N D n m S zp zq zc zl zv zg zu zf zk zt) {i : Nat} (hi : i < n) {A : Prop} {B : Nat → Prop} {f : Int32} {g : Nat → Int32} (hA : zp i < 0 → ¬ A) (hB : ∀ j, j < 48 → zp i = nI j → (A ↔ B j) ∧ f = g j) : (A ∧ ∃ j, j < 48 ∧ zp i = nI j ∧ B j ∧ f = g j) ∨ (¬ A ∧ ∀ j, j < 48 → ¬ (zp i = nI j ∧ B j)) := by
  rcases ps_sgn h.2.2.1 hi with e | ⟨j, hj, e⟩
  · have hn : zp i < 0 := by rw [e]; decide
    exact Or.inr ⟨hA hn, fun j hj q => absurd (show nI j < 0 by rw [← q.1]; exact hn) (nI_pos (by omega))⟩
  · obtain ⟨h1, h2⟩ := hB j hj e
    by_cases a : A
    · exact Or.inl ⟨a, j, hj, e, h1.mp a, h2⟩
    · refine Or.inr ⟨a, fun k hk q => a ?_⟩
      have ek : k = j := (nI_eq (by omega) (by omega)).mp (q.1.symm.trans e)
      subst ek
      exact h1.mpr q.2
theorem ps_pos (h : ps_R N D n m S zp zq zc zl zv zg zu zf zk zt) {i j : Nat} (hi : i < n) (hj : j < 48) (e : zp i = nI j) : ¬ zp i < 0 ∧ ¬ X1_isFree_p S j := by
  obtain ⟨d, s, v, w, hd, hs, hv, hw, ez, ec, a5, -⟩ := ps_at h.2.2.1 hi hj e
  exact ⟨by rw [e]; exact nI_pos (by omega), ps_n5 hw a5⟩
theorem ps_col (h : ps_R N D n m S zp zq zc zl zv zg zu zf zk zt) {j : Nat} (hj : j < 48) (hf : ¬ X1_isFree_p S j) : ∃ i, i < n ∧ zp i = nI j := (h.2.2.1.2.2.1 j hj).elim (fun e => absurd e hf) id
theorem ps_tThere (h : ps_R N D n m S zp zq zc zl zv zg zu zf zk zt) : kz_cn (fun i => ¬ zp i < 0) n = X1_parcelsOnShelves_r S := by
  have e : X1_parcelsOnShelves_r S = kz_cn (fun j => ¬ X1_isFree_p S j) 48 := ps_cn8 (P := fun j => ¬ X1_isFree_p S j) 6
  rw [e, ps_cns, ps_cns]
  refine ps_bij (fun i hi => ps_row h hi (fun a b => b a) (fun j hj e => ?_)) (fun j hj b => ps_col h hj b) h.2.2.1.2.1
  obtain ⟨a, b⟩ := ps_pos h hi hj e
  exact ⟨⟨fun _ => b, fun _ => a⟩, rfl⟩
theorem ps_tMine (h : ps_R N D n m S zp zq zc zl zv zg zu zf zk zt) (hD : D ≤ 600) (y : Int32) : kz_cn (fun i => ¬ zp i < 0 ∧ L_sender_r zq i = y) n = X1_parcelsOfSender_r S y := by
  rw [X1_parcelsOfSender_r, ps_cns, ps_cns]
  refine ps_bij (fun i hi => ps_row h hi (fun a b => b.1 a) (fun j hj e => ?_)) (fun j hj b => ps_col h hj b.1) h.2.2.1.2.1
  obtain ⟨a, b⟩ := ps_pos h hi hj e
  obtain ⟨w, hw, ec, a5, a6, -⟩ := ps_rAt h hD hi hj e
  exact ⟨⟨fun q => ⟨b, a6.trans q.2⟩, fun q => ⟨a, a6.symm.trans q.2⟩⟩, rfl⟩
theorem ps_tFees (h : ps_R N D n m S zp zq zc zl zv zg zu zf zk zt) (hD : D ≤ 600) : kz_sp (fun i => ¬ zp i < 0) (fun i => L_fee_r zq zt i (nI D)) n = X1_feesOnShelves_r S := by
  rw [X1_feesOnShelves_r]
  refine ps_bij (fun i hi => ps_row h hi (fun a b => b a) (fun j hj e => ?_)) (fun j hj b => ps_col h hj b) h.2.2.1.2.1
  obtain ⟨a, b⟩ := ps_pos h hi hj e
  exact ⟨⟨fun _ => b, fun _ => a⟩, ps_rFee0 h hD hi hj e⟩
end PS
