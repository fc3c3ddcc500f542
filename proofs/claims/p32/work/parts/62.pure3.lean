/-! PURE: each change keeps what both tell -/
section PS
variable {N D n m : Nat} {S : kz_S} {zp zq zc zl zv zg zu zf zk zt : Nat → Int32}
theorem ps_mono {M : Nat} (h : ps_R N D n m S zp zq zc zl zv zg zu zf zk zt) (hM : N ≤ M) : ps_R M D n m S zp zq zc zl zv zg zu zf zk zt := by
  obtain ⟨a, b, c, d, e1, e2, e3, e4, e5, e6, e7⟩ := h
  exact ⟨a, b, c, d, e1, e2, e3, e4, e5, by omega, by omega⟩
theorem ps_leaveS {w j : Nat} (hw : w < 7) (hj : j < 48) (a5 : S 5 j = nI (w + 1)) : X1_leave_s S j = va_up (va_up S 9 (upd (S 9) (48 * w + j) (S 1 0))) 5 (upd (S 5) j 0) := by
  rw [X1_leave_s, if_neg (ps_n5 hw a5), a5, X3_indexFor_r, kz_ixN, nI_clamp (by omega)]
theorem ps_leave (h : ps_R N D n m S zp zq zc zl zv zg zu zf zk zt) (hN : N ≤ 60) {i j : Nat} (hi : i < n) (hj : j < 48) (e : zp i = nI j) : ps_R N D n (m + 1) (X1_leave_s S j) (L_leaves_s0 zp zc zl zv zt i) zq zc (L_leaves_s2 zp zc zl zv zt i) (L_leaves_s3 zp zc zl zv zt i) zg zu zf zk (L_leaves_s4 zp zc zl zv zt i) := by
  obtain ⟨hst, hbn, hpa, hlf, ⟨e5, e10⟩, ⟨u, hu, e6, e20⟩, ⟨e7, e30⟩, e8, e9, hn, hm⟩ := h
  obtain ⟨d, s, v, w, hd, hs, hv, hw, ez, ec, a5, a6, a7, a8⟩ := ps_at hpa hi hj e
  rw [ps_leaveS hw hj a5, L_leaves_s0, L_leaves_s2, L_leaves_s3, L_leaves_s4, e8, nI_clamp (by omega)]
  have hneg : ((-1) : Int32) < 0 := by decide
  refine ⟨⟨fun k hk => (pk_un (by omega)).trans (hst.1 k hk), hst.2⟩, hbn, ⟨fun k hk => ?_, fun a b ha hb hab hneg2 => ?_, fun k hk => ?_, hpa.2.2.2⟩, ⟨fun w' j' hw' hj' => ?_, fun k hk => ?_, fun k hk => ?_⟩, ⟨(pk_un (by omega)).trans e5, e10⟩, ⟨u, hu, (pk_un (by omega)).trans e6, e20⟩, ⟨(pk_un (by omega)).trans e7, e30⟩, pk_us.trans (nI_1 m), (pk_un (by omega)).trans e9, hn, ?_⟩
  · obtain ⟨d1, s1, v1, w1, j1, q1, q2, q3, q4, q5, q6, q7, hy⟩ := hpa.1 k hk
    refine ⟨d1, s1, v1, w1, j1, q1, q2, q3, q4, q5, q6, q7, ?_⟩
    by_cases c : k = i
    · subst c; exact Or.inl pk_us
    · rw [pk_un c]
      rcases hy with y | ⟨y, b5, b6, b7, b8⟩
      · exact Or.inl y
      · have hne : j1 ≠ j := fun q => c (hpa.2.1 k i hk hi (by rw [y, e, q]) (by rw [y]; exact nI_pos (by omega)))
        exact Or.inr ⟨y, (show upd (S 5) j 0 j1 = nI (w1 + 1) from (pk_un hne).trans b5), b6, b7, b8⟩
  · by_cases ca : a = i
    · subst ca; rw [pk_us] at hneg2; exact absurd hneg hneg2
    · by_cases cb : b = i
      · subst cb; rw [hab, pk_us] at hneg2; exact absurd hneg hneg2
      · rw [pk_un ca, pk_un cb] at hab
        rw [pk_un ca] at hneg2
        exact hpa.2.1 a b ha hb hab hneg2
  · show upd (S 5) j 0 k = 0 ∨ _
    by_cases c : k = j
    · subst c; exact Or.inl pk_us
    · rw [pk_un c]
      rcases hpa.2.2.1 k hk with q | ⟨i1, h1, h2⟩
      · exact Or.inl q
      · refine Or.inr ⟨i1, h1, ?_⟩
        have hne : i1 ≠ i := fun q => c ((nI_eq (by omega) (by omega)).mp (h2.symm.trans ((congrArg zp q).trans e)))
        rw [pk_un hne]; exact h2
  · show upd (S 9) (48 * w + j) (S 1 0) (48 * w' + j') = _
    rw [ps_lv, pk_us, pk_us, ps_lv_upd m (Nat.le_refl m), ec]
    by_cases c : w' = w ∧ j' = j
    · obtain ⟨rfl, rfl⟩ := c
      rw [pk_us, if_pos rfl, e10, e5]
    · rw [pk_un (by omega), if_neg (fun q => c (by obtain ⟨q1, q2⟩ := ps_cdI_inj (by omega) hj (by omega) hj' q; omega))]
      exact hlf.1 w' j' hw' hj'
  · by_cases c : k = m
    · subst c; exact ⟨D, Nat.le_refl D, pk_us.trans e5⟩
    · obtain ⟨d1, h1, h2⟩ := hlf.2.1 k (by omega)
      exact ⟨d1, h1, (pk_un c).trans h2⟩
  · by_cases c : k = m
    · subst c; exact ⟨w, j, hw, hj, pk_us.trans ec⟩
    · obtain ⟨w1, j1, h1, h2, h3⟩ := hlf.2.2 k (by omega)
      exact ⟨w1, j1, h1, h2, (pk_un c).trans h3⟩
  · have := ps_ct_l (zp := zp) (j := i) (y := (-1)) (by rw [e]; exact nI_pos (by omega)) hneg n hi
    omega
/-- a parcel is laid on a free place -/
theorem ps_put (h : ps_R N D n m S zp zq zc zl zv zg zu zf zk zt) (hD : D ≤ 600) {n' i j s v d : Nat} {zp' zq' zc' : Nat → Int32} (hi : i < n') (hj : j < 48) (hs : s < 10) (hv : v < 3) (hd : d ≤ D) (h5 : S 5 j = 0)
    (ep : zp' i = nI j) (eq : zq' i = nI (1000 * d + 100 * s + 10 * v)) (ec : zc' i = nI (ps_cd (D % 7 + 1) j)) (ho : ∀ k, k < n' → k ≠ i → k < n ∧ zp' k = zp k ∧ zq' k = zq k ∧ zc' k = zc k) (hb : ∀ k, k < n → ¬ zp k < 0 → k < n' ∧ k ≠ i) : ps_pa D n' (X1_put_s S j (nI s) (nI v) (nI d)) zp' zq' zc' := by
  obtain ⟨hst, hbn, hpa, hlf, ⟨e5, e10⟩, -⟩ := h
  have ew : X3_weekdayOf_r (S 1 0) = nI (D % 7 + 1) := by rw [e10, X3_weekdayOf_r]; exact kz_wdN (by omega)
  refine ⟨fun k hk => ?_, fun a b ha hb1 hab hneg => ?_, fun k hk => ?_, fun k hk => ?_⟩
  · by_cases c : k = i
    · subst c
      exact ⟨d, s, v, D % 7, j, hd, hs, hv, by omega, hj, eq, ec, Or.inr ⟨ep, (show upd (S 5) j (X3_weekdayOf_r (S 1 0)) j = _ from pk_us.trans ew), (show upd (S 6) j (nI s) j = _ from pk_us), (show upd (S 7) j (nI v) j = _ from pk_us), (show upd (S 8) j (nI d) j = _ from pk_us)⟩⟩
    · obtain ⟨h1, h2, h3, h4⟩ := ho k hk c
      rw [h2, h3, h4]
      obtain ⟨d1, s1, v1, w1, j1, q1, q2, q3, q4, q5, q6, q7, hy⟩ := hpa.1 k h1
      refine ⟨d1, s1, v1, w1, j1, q1, q2, q3, q4, q5, q6, q7, ?_⟩
      rcases hy with y | ⟨y, b5, b6, b7, b8⟩
      · exact Or.inl y
      · have hne : j1 ≠ j := fun q => ps_n5 q4 b5 (by rw [q]; exact h5)
        exact Or.inr ⟨y, (show upd (S 5) j (X3_weekdayOf_r (S 1 0)) j1 = _ from (pk_un hne).trans b5), (show upd (S 6) j (nI s) j1 = _ from (pk_un hne).trans b6), (show upd (S 7) j (nI v) j1 = _ from (pk_un hne).trans b7), (show upd (S 8) j (nI d) j1 = _ from (pk_un hne).trans b8)⟩
  · by_cases ca : a = i
    · by_cases cb : b = i
      · rw [ca, cb]
      · exfalso
        obtain ⟨h1, h2, -⟩ := ho b hb1 cb
        exact ps_free hpa hj h5 b h1 (by rw [← h2, ← hab, ca]; exact ep)
    · obtain ⟨h1, h2, -⟩ := ho a ha ca
      by_cases cb : b = i
      · exfalso
        exact ps_free hpa hj h5 a h1 (by rw [← h2, hab, cb]; exact ep)
      · obtain ⟨g1, g2, -⟩ := ho b hb1 cb
        rw [h2, g2] at hab
        rw [h2] at hneg
        exact hpa.2.1 a b h1 g1 hab hneg
  · show upd (S 5) j (X3_weekdayOf_r (S 1 0)) k = 0 ∨ _
    by_cases c : k = j
    · exact Or.inr ⟨i, hi, by rw [c]; exact ep⟩
    · rw [pk_un c]
      rcases hpa.2.2.1 k hk with q | ⟨i1, h1, h2⟩
      · exact Or.inl q
      · obtain ⟨g1, g2⟩ := hb i1 h1 (by rw [h2]; exact nI_pos (by omega))
        exact Or.inr ⟨i1, g1, (ho i1 g1 g2).2.1.trans h2⟩
  · show ∃ q, q < 10 ∧ upd (S 6) j (nI s) k = nI q
    by_cases c : k = j
    · subst c; exact ⟨s, hs, pk_us⟩
    · rw [pk_un c]; exact hpa.2.2.2 k hk
theorem ps_come (h : ps_R N D n m S zp zq zc zl zv zg zu zf zk zt) (hD : D ≤ 600) {j s v : Nat} (hj : j < 48) (hs : s < 10) (hv : v < 3) (h5 : S 5 j = 0) : ps_R (N + 1) D (n + 1) m (va_up (X1_put_s S j (nI s) (nI v) (S 1 0)) 3 (fun _ => S 3 0 + 1)) (upd zp n (nI j)) (upd zq n (nI (1000 * D + 100 * s + 10 * v))) (upd zc n (nI (ps_cd (D % 7 + 1) j))) zl zv zg zu zf zk (upd zt 7 (nI (n + 1))) := by
  have e10 : S 1 0 = nI D := h.2.2.2.2.1.2
  have hpa := ps_put h hD (n' := n + 1) (i := n) (d := D) (zp' := upd zp n (nI j)) (zq' := upd zq n (nI (1000 * D + 100 * s + 10 * v))) (zc' := upd zc n (nI (ps_cd (D % 7 + 1) j))) (by omega) hj hs hv (Nat.le_refl D) h5 pk_us pk_us pk_us (fun k h1 h2 => ⟨by omega, pk_un h2, pk_un h2, pk_un h2⟩) (fun k h1 _ => ⟨by omega, by omega⟩)
  rw [← e10] at hpa
  obtain ⟨hst, hbn, -, hlf, ⟨e5, -⟩, ⟨u, hu, e6, e20⟩, ⟨e7, e30⟩, e8, e9, hn, hm⟩ := h
  refine ⟨⟨fun k hk => (pk_un (by omega)).trans (hst.1 k hk), hst.2⟩, hbn, hpa, hlf, ⟨(pk_un (by omega)).trans e5, e10⟩, ⟨u, hu, (pk_un (by omega)).trans e6, e20⟩, ⟨pk_us, ?_⟩, (pk_un (by omega)).trans e8, (pk_un (by omega)).trans e9, by omega, ?_⟩
  · show S 3 0 + 1 = nI (n + 1)
    rw [e30]; exact nI_1 n
  · rw [ps_ct, ps_ct_n n (Nat.le_refl n), pk_us, if_neg (nI_pos (by omega))]
    omega
/-- a parcel that is moved: it leaves, and is laid anew -/
theorem ps_comm {a b : Nat} {q v d : Int32} {w : Nat} (hw : w < 7) (ha : a < 48) (hab : a ≠ b) (a5 : S 5 a = nI (w + 1)) : X1_leave_s (X1_put_s S b q v d) a = X1_put_s (X1_leave_s S a) b q v d := by
  have h1 : (X1_put_s S b q v d) 5 a = nI (w + 1) := (show upd (S 5) b (X3_weekdayOf_r (S 1 0)) a = _ from (pk_un hab).trans a5)
  rw [ps_leaveS hw ha h1, ps_leaveS hw ha a5]
  funext k j
  by_cases c5 : k = 5
  · subst c5
    show upd (upd (S 5) b (X3_weekdayOf_r (S 1 0))) a 0 j = upd (upd (S 5) a 0) b (X3_weekdayOf_r (S 1 0)) j
    by_cases ea : j = a
    · subst ea; rw [pk_us, pk_un hab, pk_us]
    · by_cases eb : j = b
      · subst eb; rw [pk_un ea, pk_us, pk_us]
      · rw [pk_un ea, pk_un eb, pk_un eb, pk_un ea]
  · by_cases c9 : k = 9
    · subst c9; rfl
    · by_cases c6 : k = 6
      · subst c6; rfl
      · by_cases c7 : k = 7
        · subst c7; rfl
        · by_cases c8 : k = 8
          · subst c8; rfl
          · unfold X1_put_s
            rw [va_up_ne _ _ c5, va_up_ne _ _ c9, va_up_ne _ _ c8, va_up_ne _ _ c7, va_up_ne _ _ c6, va_up_ne _ _ c5, va_up_ne _ _ c8, va_up_ne _ _ c7, va_up_ne _ _ c6, va_up_ne _ _ c5, va_up_ne _ _ c5, va_up_ne _ _ c9]
theorem ps_move (h : ps_R N D n m S zp zq zc zl zv zg zu zf zk zt) (hN : N ≤ 60) (hD : D ≤ 600) {i j k : Nat} (hi : i < n) (hj : j < 48) (e : zp i = nI j) (hk : k < 48) (h5 : S 5 k = 0) : ps_R (N + 1) D n (m + 1) (X1_leave_s (X1_put_s S k (S 6 j) (S 7 j) (S 8 j)) j) (upd (L_leaves_s0 zp zc zl zv zt i) i (nI k)) zq (upd zc i (nI (ps_cd (D % 7 + 1) k))) (L_leaves_s2 zp zc zl zv zt i) (L_leaves_s3 zp zc zl zv zt i) zg zu zf zk (L_leaves_s4 zp zc zl zv zt i) := by
  obtain ⟨d, s, v, w, hd, hs, hv, hw, ez, ec, a5, a6, a7, a8⟩ := ps_at h.2.2.1 hi hj e
  have hjk : j ≠ k := fun q => ps_n5 hw a5 (by rw [q]; exact h5)
  rw [ps_comm hw hj hjk a5, a6, a7, a8]
  have h2 := ps_leave h hN hi hj e
  have h5' : (X1_leave_s S j) 5 k = 0 := by
    rw [ps_leaveS hw hj a5]
    exact (show upd (S 5) j 0 k = 0 from (pk_un (fun q => hjk q.symm)).trans h5)
  have e1 : L_leaves_s0 zp zc zl zv zt i i = (-1) := by rw [L_leaves_s0, pk_us]
  have hpa := ps_put h2 hD (n' := n) (i := i) (j := k) (d := d) (s := s) (v := v) (zp' := upd (L_leaves_s0 zp zc zl zv zt i) i (nI k)) (zq' := zq) (zc' := upd zc i (nI (ps_cd (D % 7 + 1) k))) hi hk hs hv hd h5' pk_us ez pk_us (fun a h1 h3 => ⟨h1, pk_un h3, rfl, pk_un h3⟩) (fun a h1 h3 => ⟨h1, fun q => h3 (by rw [q, e1]; decide)⟩)
  obtain ⟨hst, hbn, -, hlf, ⟨e5, e10⟩, ⟨u, hu, e6, e20⟩, ⟨e7, e30⟩, e8, e9, hn, hm⟩ := h2
  refine ⟨hst, hbn, hpa, hlf, ⟨e5, e10⟩, ⟨u, hu, e6, e20⟩, ⟨e7, e30⟩, e8, e9, by omega, ?_⟩
  have := ps_ct_p (zp := L_leaves_s0 zp zc zl zv zt i) (j := i) (y := nI k) (by rw [e1]; decide) (nI_pos (by omega)) n hi
  omega
theorem ps_bin (h : ps_R N D n m S zp zq zc zl zv zg zu zf zk zt) {s : Nat} (hs : s < 10) (h9 : ¬ 9 ≤ S 10 s) : ps_R N D n m (va_up S 10 (upd (S 10) s (S 10 s + 1))) zp zq zc zl zv (upd zg s (zg s + 1)) zu zf zk zt := by
  obtain ⟨hst, hbn, hpa, hlf, hnm⟩ := h
  refine ⟨hst, fun k hk => ?_, hpa, hlf, hnm⟩
  obtain ⟨⟨a, b, c, d⟩, y, hy, ey⟩ := hbn k hk
  show (upd zg s (zg s + 1) k = upd (S 10) s (S 10 s + 1) k ∧ _) ∧ ∃ b, b ≤ 9 ∧ upd (S 10) s (S 10 s + 1) k = nI b
  by_cases e : k = s
  · subst e
    rw [pk_us, pk_us]
    refine ⟨⟨by rw [a], b, c, d⟩, y + 1, ?_, by rw [ey]; exact nI_1 y⟩
    rw [ey] at h9
    have := kz_gt (a := 9) (b := y) h9 (by omega) (by omega)
    omega
  · rw [pk_un e, pk_un e]
    exact ⟨⟨a, b, c, d⟩, y, hy, ey⟩
theorem ps_takesB {T : kz_S} {g u f k t : Nat → Int32} {s : Nat} (h : ps_bn T g u f k) (ht : t 2 = T 0 2) (hs : s < 10) (w : Int32) : ps_bn (X1_emptyBin_s T s w) (L_takes_s0 g u k t s w) (L_takes_s1 g u k t s w) f (L_takes_s2 g u k t s w) ∧ L_takes_r g u k t s w = X1_emptyBin_r T s w := by
  obtain ⟨⟨a, b, c, d⟩, -⟩ := h s hs
  have er : g s * w * t 2 = w * T 0 2 * T 10 s := by
    rw [a, ht, Int32.mul_comm (T 10 s) w, Int32.mul_assoc, Int32.mul_comm (T 10 s), ← Int32.mul_assoc]
  refine ⟨fun j hj => ?_, by rw [L_takes_r, X1_emptyBin_r]; exact er⟩
  rw [L_takes_s0, L_takes_s1, L_takes_s2, er]
  obtain ⟨⟨a1, b1, c1, d1⟩, y, hy, ey⟩ := h j hj
  show (upd g s 0 j = upd (T 10) s 0 j ∧ upd u s (u s + w * T 0 2 * T 10 s) j = upd (T 11) s (T 11 s + w * T 0 2 * T 10 s) j ∧ f j = T 12 j ∧ upd k s (k s + g s) j = upd (T 13) s (T 13 s + T 10 s) j) ∧ ∃ b, b ≤ 9 ∧ upd (T 10) s 0 j = nI b
  by_cases e : j = s
  · subst e
    rw [pk_us, pk_us, pk_us, pk_us, pk_us, pk_us, a, b, d]
    exact ⟨⟨rfl, rfl, c, rfl⟩, 0, by omega, rfl⟩
  · rw [pk_un e, pk_un e, pk_un e, pk_un e, pk_un e, pk_un e]
    exact ⟨⟨a1, b1, c1, d1⟩, y, hy, ey⟩
theorem ps_takes (h : ps_R N D n m S zp zq zc zl zv zg zu zf zk zt) {s : Nat} (hs : s < 10) (w : Int32) : ps_R N D n m (X1_emptyBin_s S s w) zp zq zc zl zv (L_takes_s0 zg zu zk zt s w) (L_takes_s1 zg zu zk zt s w) zf (L_takes_s2 zg zu zk zt s w) zt ∧ L_takes_r zg zu zk zt s w = X1_emptyBin_r S s w := by
  obtain ⟨hst, hbn, hpa, hlf, hnm⟩ := h
  obtain ⟨h1, h2⟩ := ps_takesB hbn (hst.1 2 (by omega)) hs w
  exact ⟨⟨hst, h1, hpa, hlf, hnm⟩, h2⟩
theorem ps_paid (h : ps_R N D n m S zp zq zc zl zv zg zu zf zk zt) {s : Nat} (hs : s < 10) (f : Int32) : ps_R N D n m (va_up (va_up S 4 (fun _ => S 4 0 + f)) 12 (upd (S 12) s (S 12 s + 1))) zp zq zc zl zv zg zu (upd zf s (zf s + 1)) zk (upd zt 9 (zt 9 + f)) := by
  obtain ⟨hst, hbn, hpa, hlf, ⟨e5, e10⟩, ⟨u, hu, e6, e20⟩, ⟨e7, e30⟩, e8, e9, hn, hm⟩ := h
  refine ⟨⟨fun k hk => (pk_un (by omega)).trans (hst.1 k hk), hst.2⟩, fun k hk => ?_, hpa, hlf, ⟨(pk_un (by omega)).trans e5, e10⟩, ⟨u, hu, (pk_un (by omega)).trans e6, e20⟩, ⟨(pk_un (by omega)).trans e7, e30⟩, (pk_un (by omega)).trans e8, (show upd zt 9 (zt 9 + f) 9 = S 4 0 + f by rw [pk_us, e9]), hn, hm⟩
  obtain ⟨⟨a, b, c, d⟩, y, hy, ey⟩ := hbn k hk
  show (zg k = S 10 k ∧ zu k = S 11 k ∧ upd zf s (zf s + 1) k = upd (S 12) s (S 12 s + 1) k ∧ zk k = S 13 k) ∧ ∃ b, b ≤ 9 ∧ S 10 k = nI b
  by_cases e : k = s
  · subst e
    rw [pk_us, pk_us, c]
    exact ⟨⟨a, b, rfl, d⟩, y, hy, ey⟩
  · rw [pk_un e, pk_un e]
    exact ⟨⟨a, b, c, d⟩, y, hy, ey⟩
theorem ps_wrong (h : ps_R N D n m S zp zq zc zl zv zg zu zf zk zt) (h3 : ¬ zt 6 = 3) : ps_R N D n m (va_up S 2 (fun _ => S 2 0 + 1)) zp zq zc zl zv zg zu zf zk (upd zt 6 (zt 6 + 1)) := by
  obtain ⟨hst, hbn, hpa, hlf, ⟨e5, e10⟩, ⟨u, hu, e6, e20⟩, ⟨e7, e30⟩, e8, e9, hn, hm⟩ := h
  have hu3 : u ≠ 3 := fun q => h3 (by rw [e6, q]; rfl)
  exact ⟨⟨fun k hk => (pk_un (by omega)).trans (hst.1 k hk), hst.2⟩, hbn, hpa, hlf, ⟨(pk_un (by omega)).trans e5, e10⟩, ⟨u + 1, by omega, by rw [pk_us, e6]; exact nI_1 u, (show S 2 0 + 1 = nI (u + 1) by rw [e20]; exact nI_1 u)⟩, ⟨(pk_un (by omega)).trans e7, e30⟩, (pk_un (by omega)).trans e8, (pk_un (by omega)).trans e9, hn, hm⟩
theorem ps_setS (h : ps_R N D n m S zp zq zc zl zv zg zu zf zk zt) {k y : Nat} (hk : k < 5) (hy : y ≤ 50) : ps_R N D n m (va_up S 0 (upd (S 0) k (nI y))) zp zq zc zl zv zg zu zf zk (upd zt k (nI y)) := by
  obtain ⟨hst, hbn, hpa, hlf, ⟨e5, e10⟩, ⟨u, hu, e6, e20⟩, ⟨e7, e30⟩, e8, e9, hn, hm⟩ := h
  refine ⟨⟨fun j hj => ?_, fun j hj => ?_⟩, hbn, hpa, hlf, ⟨(pk_un (by omega)).trans e5, e10⟩, ⟨u, hu, (pk_un (by omega)).trans e6, e20⟩, ⟨(pk_un (by omega)).trans e7, e30⟩, (pk_un (by omega)).trans e8, (pk_un (by omega)).trans e9, hn, hm⟩
  · show upd zt k (nI y) j = upd (S 0) k (nI y) j
    by_cases e : j = k
    · subst e; rw [pk_us, pk_us]
    · rw [pk_un e, pk_un e]; exact hst.1 j hj
  · show ∃ n, n ≤ 50 ∧ upd (S 0) k (nI y) j = nI n
    by_cases e : j = k
    · subst e; exact ⟨y, hy, pk_us⟩
    · rw [pk_un e]; exact hst.2 j hj
theorem ps_begin (h : ps_R N D n m S zp zq zc zl zv zg zu zf zk zt) : ps_R N (D + 1) n m (va_up (va_up S 1 (fun _ => S 1 0 + 1)) 2 (fun _ => 0)) zp zq zc zl zv zg zu zf zk (L_d1 zt) := by
  obtain ⟨hst, hbn, hpa, hlf, ⟨e5, e10⟩, ⟨u, hu, e6, e20⟩, ⟨e7, e30⟩, e8, e9, hn, hm⟩ := h
  refine ⟨⟨fun k hk => ((pk_un (by omega)).trans (pk_un (by omega))).trans (hst.1 k hk), hst.2⟩, hbn, ⟨fun k hk => ?_, hpa.2⟩, ⟨hlf.1, fun k hk => ?_, hlf.2.2⟩, ⟨(pk_un (by omega)).trans (pk_us.trans (by rw [e5]; exact nI_1 D)), (show S 1 0 + 1 = nI (D + 1) by rw [e10]; exact nI_1 D)⟩, ⟨0, by omega, pk_us, rfl⟩, ⟨((pk_un (by omega)).trans (pk_un (by omega))).trans e7, e30⟩, ((pk_un (by omega)).trans (pk_un (by omega))).trans e8, ((pk_un (by omega)).trans (pk_un (by omega))).trans e9, hn, hm⟩
  · obtain ⟨d1, s1, v1, w1, j1, q1, q⟩ := hpa.1 k hk
    exact ⟨d1, s1, v1, w1, j1, by omega, q⟩
  · obtain ⟨d1, h1, h2⟩ := hlf.2.1 k hk
    exact ⟨d1, by omega, h2⟩
end PS
