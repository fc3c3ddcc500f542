/-! WHAT STAYS TRUE OF THE REFERENCE'S ROW: who lies where, the day is at most 9999 -/
def kz_dz (z : Nat → Int32) : Prop := ∃ d, d ≤ 9999 ∧ z 5 = nI d
theorem kz_dzT {z : Nat → Int32} (h : kz_dz z) : ∃ d, d < 2 ^ 30 ∧ z 5 = nI d := by
  obtain ⟨d, hd, e⟩ := h
  exact ⟨d, by omega, e⟩
theorem kz_dz_of {z y : Nat → Int32} (h : kz_dz z) (e : y 5 = z 5) : kz_dz y := by
  unfold kz_dz
  rw [e]
  exact h
theorem kz_M_of {z : Nat → Int32} (h : kz_MP z) (hd : kz_dz z) : kz_M z := ⟨kz_dzT hd, h⟩
theorem kz_wnS {z0 : Nat → Int32} {z6 z7 q z : Int32} (h : 0 ≤ X4_whyNotCome_r z0 z6 z7 q z) : X4_isSender_p q := by
  rw [X4_whyNotCome_r] at h
  by_cases c1 : X4_isSender_p q
  · exact c1
  · rw [if_neg c1] at h
    exact absurd h (by decide)
theorem kz_lay5 {z : Nat → Int32} {t : Nat} {q v d : Int32} : X4_lay_c0 z t q v d 5 = z 5 := by
  rw [X4_lay_c0, pk_un (by omega), pk_un (by omega), pk_un (by omega), pk_un (by omega)]
theorem kz_lvix {z : Nat → Int32} {p : Nat} (hp : p < 48) (hw : ∃ w, w < 7 ∧ z (12 + 4 * p + 3) = nI (w + 1)) : ∃ w, w < 7 ∧ z (12 + 4 * p + 3) = nI (w + 1) ∧ ((204 + (48 * ((z (12 + 4 * p + 3)) - 1))) + (nI p)).toNatClampNeg = 204 + (48 * w + p) := by
  obtain ⟨w, hw7, e⟩ := hw
  refine ⟨w, hw7, e, ?_⟩
  rw [e, Int32.add_assoc, kz_ix4N, show 204 + nI (48 * w + p) = nI (204 + (48 * w + p)) from nI_add 204 _]
  exact nI_clamp (by omega)
theorem kz_leave5 {z : Nat → Int32} {p : Nat} (hp : p < 48) (hw : ∃ w, w < 7 ∧ z (12 + 4 * p + 3) = nI (w + 1)) : X4_leave_c0 z p 5 = z 5 := by
  obtain ⟨w, h1, h2, h3⟩ := kz_lvix hp hw
  rw [X4_leave_c0, h3, pk_un (by omega), pk_un (by omega)]
theorem kz_count5 {z : Nat → Int32} {k w : Nat} {v : Int32} : X4_count_c0 z k w v 5 = z 5 := by
  rw [X4_count_c0, pk_un (by omega)]
theorem kz_takes5 {z : Nat → Int32} {k : Nat} {v : Int32} : X4_takes_c0 z k v 5 = z 5 := by
  rw [X4_takes_c0, pk_un (by omega), pk_un (by omega), kz_count5, kz_count5, kz_count5]
theorem kz_back5 {z : Nat → Int32} {p : Nat} (hp : p < 48) (h : kz_MP z) (ht : X4_isTaken_p z p) : X4_goesBack_c0 z p 5 = z 5 := by
  rw [X4_goesBack_c0, kz_leave5 hp (kz_ctw ((h p hp).2 ht) hp), kz_count5]
theorem kz_cour5 {z : Nat → Int32} : ∀ n, X4_cour z n 5 = z 5
  | 0 => rfl
  | n + 1 => by
    rw [X4_cour, X4_cstep]
    split
    · split
      · exact kz_cour5 n
      · rw [kz_takes5]; exact kz_cour5 n
    · exact kz_cour5 n
theorem kz_ret5 {z : Nat → Int32} (h : kz_MP z) : ∀ n, n ≤ 48 → (X4_ret z n).1 5 = z 5
  | 0, _ => rfl
  | n + 1, hn => by
    rw [X4_ret, X4_rstep]
    split
    · rename_i c
      show X4_goesBack_c0 _ n 5 = z 5
      rw [kz_back5 (by omega) (kz_MP_ret h n (by omega)) c.1]
      exact kz_ret5 h n (by omega)
    · exact kz_ret5 h n (by omega)
theorem kz_MP_b1 {z : Nat → Int32} (h : kz_MP z) : kz_MP (X4_begin1 z) := by
  rw [X4_begin1]
  exact kz_MP_out (kz_MP_out h (by omega)) (by omega)
theorem kz_begins5 {z : Nat → Int32} (h : kz_MP z) : X4_begins_c0 z 5 = z 5 + 1 := by
  rw [X4_begins_c0, kz_ret5 (kz_MP_cour (kz_MP_b1 h) 10) 48 (Nat.le_refl _), kz_cour5, X4_begin1, pk_un (by omega), pk_us]
theorem X4_psn_1 {z : Nat → Int32} {n : Nat} : (X4_psn z (n + 1)).1 = X4_begins_c0 (X4_psn z n).1 := by rw [X4_psn]
theorem kz_MP_psn {z : Nat → Int32} (h : kz_MP z) : ∀ n, kz_MP (X4_psn z n).1
  | 0 => h
  | n + 1 => by
    rw [X4_psn_1]
    exact kz_MP_begins (kz_MP_psn h n)
theorem kz_psn5 {z : Nat → Int32} (h : kz_MP z) : ∀ n, (X4_psn z n).1 5 = z 5 + nI n
  | 0 => (Int32.add_zero _).symm
  | n + 1 => by
    rw [X4_psn_1, kz_begins5 (kz_MP_psn h n), kz_psn5 h n, nI_succ, Int32.add_assoc]
theorem kz_MP_days {z : Nat → Int32} (h : kz_MP z) : ∀ n, kz_MP (X4_days z n)
  | 0 => h
  | n + 1 => kz_MP_begins (kz_MP_days h n)
theorem kz_MP_lay {z : Nat → Int32} {t : Nat} {q v d : Int32} (h : kz_MP z) (hd : ∃ d, d < 2 ^ 30 ∧ z 5 = nI d) (hq : ∃ k, k ≤ 9 ∧ q = nI k) : kz_MP (X4_lay_c0 z t q v d) := by
  intro p hp
  by_cases e : p = t
  · subst e
    obtain ⟨k, hk, rfl⟩ := hq
    obtain ⟨d, hd, e5⟩ := hd
    refine ⟨⟨k + 1, by omega, ?_⟩, fun _ => ⟨d % 7, by omega, ?_⟩⟩
    · rw [X4_lay_c0, pk_un (by omega), pk_un (by omega), pk_un (by omega), show 12 + 4 * p + 0 = 12 + 4 * p from rfl, pk_us, nI_1]
    · rw [X4_lay_c0, pk_us, pk_un (by omega), pk_un (by omega), pk_un (by omega), e5, X4_weekday_r, kz_wdN hd]
  · rw [X4_lay_c0, pk_un (by omega), pk_un (by omega), pk_un (by omega), pk_un (by omega), pk_un (j := 12 + 4 * p + 3) (by omega), pk_un (j := 12 + 4 * p + 3) (by omega), pk_un (j := 12 + 4 * p + 3) (by omega), pk_un (j := 12 + 4 * p + 3) (by omega)]
    exact h p hp
theorem kz_pbLt {z : Nat → Int32} {code : Int32} (h : ¬ X4_placeBy_r z code = (-6)) : (X4_placeBy_r z code).toNatClampNeg < 48 := (kz_back (kz_pbIn h) (by decide)).2
theorem kz_M4_comes {z : Nat → Int32} {q v : Int32} (h : kz_MP z) (hd : kz_dz z) (hq : X4_isSender_p q) : kz_MP (X4_comes_c0 z q v) ∧ kz_dz (X4_comes_c0 z q v) := by
  obtain ⟨k, hk, e⟩ := kz_wiE (n := 9) hq rfl (by decide)
  rw [X4_comes_c0]
  exact ⟨kz_MP_out (kz_MP_lay h (kz_dzT hd) ⟨k, hk, e⟩) (by omega), kz_dz_of hd (by rw [pk_un (by omega), kz_lay5])⟩
theorem kz_M4_fetches {z : Nat → Int32} {code : Int32} (h : kz_MP z) (hd : kz_dz z) : kz_MP (X4_fetches_c0 z code) ∧ kz_dz (X4_fetches_c0 z code) := by
  rw [X4_fetches_c0]
  by_cases c : X4_placeBy_r z code = (-6)
  · rw [if_pos c]
    exact ⟨kz_MP_out h (by omega), kz_dz_of hd (by rw [pk_un (by omega)])⟩
  · rw [if_neg c]
    have hp := kz_pbLt c
    have ht := kz_pbT c
    have hw := (h _ hp).2 ht
    generalize (X4_placeBy_r z code).toNatClampNeg = p at hp hw ⊢
    have h1 : ∀ (k : Nat) (x y : Int32), kz_MP (X4_count_c0 (upd (upd z 10 x) 8 y) k 2 1) := fun k x y => by
      rw [X4_count_c0]
      exact kz_MP_out (kz_MP_out (kz_MP_out h (by omega)) (by omega)) (by omega)
    have h2 : ∀ (k : Nat) (x y : Int32), ∃ w, w < 7 ∧ X4_count_c0 (upd (upd z 10 x) 8 y) k 2 1 (12 + 4 * p + 3) = nI (w + 1) := fun k x y => kz_wE (by rw [X4_count_c0, pk_un (by omega), pk_un (by omega), pk_un (by omega)]) hw
    exact ⟨kz_MP_leave hp (h1 _ _ _) (h2 _ _ _), kz_dz_of hd (by rw [kz_leave5 hp (h2 _ _ _), kz_count5, pk_un (by omega), pk_un (by omega)])⟩
theorem kz_M4_back {z : Nat → Int32} {p : Nat} (hp : p < 48) (h : kz_MP z) (hd : kz_dz z) (ht : X4_isTaken_p z p) : kz_MP (X4_goesBack_c0 z p) ∧ kz_dz (X4_goesBack_c0 z p) :=
  ⟨kz_MP_back hp h ht, kz_dz_of hd (kz_back5 hp h ht)⟩
theorem kz_M4_moves {z : Nat → Int32} {code k : Int32} (h : kz_MP z) (hd : kz_dz z) (c : ¬ X4_placeBy_r z code = (-6)) : kz_MP (X4_moves_c0 z code k) ∧ kz_dz (X4_moves_c0 z code k) := by
  rw [X4_moves_c0]
  have hp := kz_pbLt c
  have ht := kz_pbT c
  have hw := (h _ hp).2 ht
  have hs := kz_sdS (h _ hp).1 ht
  generalize (X4_placeBy_r z code).toNatClampNeg = p at hp ht hw hs ⊢
  have hq : ∃ k, k ≤ 9 ∧ z (12 + 4 * p + 0) - 1 = nI k := by
    obtain ⟨q, hq, e⟩ := hs
    exact ⟨q, by omega, by rw [e, nI_pred]⟩
  have h1 : ∀ (t : Nat) (v d : Int32), kz_MP (X4_lay_c0 z t (z (12 + 4 * p + 0) - 1) v d) := fun t v d => kz_MP_lay h (kz_dzT hd) hq
  have h2 : ∀ (t : Nat) (v d : Int32), ∃ w, w < 7 ∧ X4_lay_c0 z t (z (12 + 4 * p + 0) - 1) v d (12 + 4 * p + 3) = nI (w + 1) := fun t v d => kz_layw hw (kz_dzT hd)
  exact ⟨kz_MP_leave hp (h1 _ _ _) (h2 _ _ _), kz_dz_of hd (by rw [kz_leave5 hp (h2 _ _ _), kz_lay5])⟩
theorem kz_wnpD {z : Nat → Int32} {d : Int32} (h : 0 ≤ X4_whyNotPass_r z d) : z 5 + d ≤ 9999 := by
  have c := kz_wnp h
  rw [X4_whyNotPass_r, if_pos c] at h
  by_cases c2 : z 5 + d ≤ 9999
  · exact c2
  · rw [if_neg c2] at h
    exact absurd h (by decide)
theorem kz_M4_passes {z : Nat → Int32} {d : Int32} (h : kz_MP z) (hd : kz_dz z) (c : 0 ≤ X4_whyNotPass_r z d) : kz_MP (X4_passes_c0 z d.toNatClampNeg) ∧ kz_dz (X4_passes_c0 z d.toNatClampNeg) := by
  rw [X4_passes_c0]
  refine ⟨kz_MP_psn h _, ?_⟩
  obtain ⟨n, hn, e⟩ := hd
  obtain ⟨k, hk, e2⟩ := kz_wi1 (n := 30) (kz_wnp c) rfl (by decide)
  have c2 := kz_wnpD c
  rw [e, e2, nI_add] at c2
  have h3 := kz_le (b := 9999) c2 (by omega) (by omega)
  refine ⟨n + (k + 1), h3, ?_⟩
  rw [kz_psn5 h, e, e2, nI_clamp (by omega), nI_add]
theorem kz_M4_one {z0 z10 : Nat → Int32} {z6 z7 : Int32} {p0 : Nat} (h : kz_MP z0) (hd : kz_dz z0) : kz_MP (X4_executeOne_c0 z0 z6 z7 z10 p0) ∧ kz_dz (X4_executeOne_c0 z0 z6 z7 z10 p0) := by
  have e0 : ∀ x : Int32, x = 0 → (0 : Int32) ≤ x := fun x e => by rw [e]; decide
  rw [X4_executeOne_c0]
  split
  · split
    · rename_i c
      exact kz_M4_comes h hd (kz_wnS (e0 _ c))
    · exact ⟨h, hd⟩
  · split
    · split
      · rename_i c
        exact kz_M4_moves h hd (kz_wnm (e0 _ c)).1
      · exact ⟨h, hd⟩
    · split
      · split
        · exact kz_M4_fetches h hd
        · exact ⟨h, hd⟩
      · split
        · split
          · rename_i c
            have c2 := kz_wnr (e0 _ c)
            exact kz_M4_back (kz_pbLt c2) h hd (kz_pbT c2)
          · exact ⟨h, hd⟩
        · split
          · rename_i c
            exact kz_M4_passes h hd (e0 _ c)
          · exact ⟨h, hd⟩
theorem kz_ep11 {z8 : Nat → Int32} {z9 : Int32} (hz9 : ∃ t, t ≤ 80 ∧ z9 = nI t) : ∀ (k : Nat) (q : X4_pq), kz_at z8 z9 k q → ∃ t, t ≤ 27 ∧ (X4_ep z8 z9 k q).2.1 = nI t
  | 0, q, h => by obtain ⟨j, e⟩ := kz_at_k h; cases e
  | k + 1, q, h => by
    obtain ⟨tm, sp, e1, e2, e3, e4, e5, e6⟩ := id h
    have e7 : (pq_rd z8 z9 q).2.1 = nI (tm + 1) := by
      show q.2.1 + 1 = _
      rw [e4]; exact nI_1 _
    rw [X4_ep]
    split
    · rename_i h1
      split
      · exact ⟨tm + 1, by omega, e7⟩
      · rename_i h2
        split
        · rename_i h3
          exact kz_ep11 hz9 k _ (kz_at_next h hz9 h1 h2 h3)
        · exact ⟨tm + 1, by omega, e7⟩
    · exact ⟨tm + 1, by omega, e7⟩
theorem kz_eps11 {z8 : Nat → Int32} {z9 : Int32} {z10 : Nat → Int32} (hz9 : ∃ t, t ≤ 80 ∧ z9 = nI t) : ∃ t, t ≤ 27 ∧ X4_errorPosition_c11 z8 z9 z10 = nI t := by
  rw [X4_errorPosition_c11, X4_eps]
  exact kz_ep11 hz9 100 _ ⟨0, 0, by omega, by omega, by omega, rfl, rfl, rfl⟩
