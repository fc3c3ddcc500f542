section KR
variable {T : kz_S} {z8 : Nat → Int32} {z9 : Int32} {n i : Nat}
theorem kr_cmdM (h : kr_tt T z8 z9 n) (hc : kr_sg T n i = 109) : (∃ e, e ≤ n ∧ (X4_rc z8 z9 (nI i) (-6)).2.2.2.2 = nI e ∧ X2_fe T 0 i (n - i) = nI e) ∨ ∃ k, 2 ≤ k ∧ i + k ≤ n ∧ (X4_rc z8 z9 (nI i) (-6)).2.2.2.2 = (-6) ∧ (X4_rc z8 z9 (nI i) (-6)).2.2.2.1 = nI (i + k) ∧ X2_fe T 0 i (n - i) = kr_aft T n (i + k) := by
  have hn := h.2.2.1
  have hi : i < n := kr_in hc (by decide)
  have er := kr_rcC h hi (Or.inr (Or.inr hc))
  rw [rc_t, if_pos hc, rc_m, rc_w] at er
  have e13 : (X4_rc z8 z9 (nI i) (-6)).2.2.2.2 = X4_figure_c13 z8 z9 (X4_wants_c12 (rc_4 z8 z9 (nI (i + 1), -6)).2.1 (rc_4 z8 z9 (nI (i + 1), -6)).2.2 (if X4_letter_r z8 z9 (rc_4 z8 z9 (nI (i + 1), -6)).2.1 = 62 then 1 else 0)) (X4_wants_c13 (rc_4 z8 z9 (nI (i + 1), -6)).2.1 (rc_4 z8 z9 (nI (i + 1), -6)).2.2 (if X4_letter_r z8 z9 (rc_4 z8 z9 (nI (i + 1), -6)).2.1 = 62 then 1 else 0)) 0 5 := by rw [er]
  have e12 : (X4_rc z8 z9 (nI i) (-6)).2.2.2.1 = X4_figure_c12 z8 z9 (X4_wants_c12 (rc_4 z8 z9 (nI (i + 1), -6)).2.1 (rc_4 z8 z9 (nI (i + 1), -6)).2.2 (if X4_letter_r z8 z9 (rc_4 z8 z9 (nI (i + 1), -6)).2.1 = 62 then 1 else 0)) (X4_wants_c13 (rc_4 z8 z9 (nI (i + 1), -6)).2.1 (rc_4 z8 z9 (nI (i + 1), -6)).2.2 (if X4_letter_r z8 z9 (rc_4 z8 z9 (nI (i + 1), -6)).2.1 = 62 then 1 else 0)) 0 5 := by rw [er]
  have ef : X2_fe T 0 i (n - i) = X2_fe T 20 (i + 1) (n - (i + 1)) := by
    rw [kr_feS h.1 hn (by omega) (by decide) (by decide), kr_p0, hc, show X2_phaseAfterLetter_r 109 = 20 by decide, if_neg (by decide)]
  generalize X4_rc z8 z9 (nI i) (-6) = r at e13 e12
  generalize X2_fe T 0 i (n - i) = f at ef
  rcases kr_r4c h (p := 20) (p1 := 21) (p2 := 22) (p3 := 23) (p4 := 24) ⟨by unfold kr_cd; decide, by unfold kr_cd; decide, by unfold kr_cd; decide, by unfold kr_cd; decide⟩ (by decide) (by decide) (by decide) (by decide) (j := i + 1) (by omega) with ⟨e, he, a, b⟩ | ⟨he, a, b⟩
  · have hb : ¬ nI e = (-6) := kr_n6 (by omega)
    rw [a, kr_wo hb, kr_fo hb] at e13
    exact Or.inl ⟨e, he, e13, ef.trans b⟩
  · rw [a] at e13 e12
    have e5 : i + 1 + 4 = i + 5 := by omega
    rw [e5] at e13 e12 b
    have b := ef.trans b
    rw [kr_feS (p := 24) h.1 hn (by omega) (by decide) (by rw [kr_p24]; decide), kr_p24] at b
    rw [show ((kr_num T n (i + 1), nI (i + 5), (-6 : Int32)) : Int32 × Int32 × Int32).2.1 = nI (i + 5) from rfl, show ((kr_num T n (i + 1), nI (i + 5), (-6 : Int32)) : Int32 × Int32 × Int32).2.2 = -6 from rfl, kr_wa, kr_wb, kr_tl h (by omega)] at e13 e12
    by_cases c : kr_sg T n (i + 5) = 62
    · have l5 := kr_in c (by decide)
      rw [if_pos c, if_neg (by decide : ¬ (1 : Int32) = 0)] at e13 e12
      rw [if_pos c, if_neg (by decide), kr_feS (p := 25) h.1 hn (by omega) (by decide) (by rw [kr_p25]; decide), kr_p25] at b
      rw [kr_fa] at e12
      by_cases d : X3_isWithin_p (kr_sg T n (i + 5 + 1)) 48 53
      · have l6 : i + 5 + 1 < n := by
          by_cases q : i + 5 + 1 < n
          · exact q
          · exact absurd d (by rw [kr_sg, if_neg q]; decide)
        rw [kr_fb1 h (by omega) ((kr_dg5 (kr_ts h)).mpr d)] at e13
        rw [if_pos d, if_neg (by decide), kr_fe6 h.1 hn (by omega)] at b
        exact Or.inr ⟨7, by omega, by omega, e13, e12, b⟩
      · rw [kr_fb0 h (by omega) (fun q => d ((kr_dg5 (kr_ts h)).mp q))] at e13
        rw [if_neg d, if_pos rfl] at b
        exact Or.inl ⟨i + 6, by omega, e13, b⟩
    · rw [if_neg c, if_pos (rfl : (0 : Int32) = 0), kr_fo (kr_n6 (by omega))] at e13
      rw [if_neg c, if_pos rfl] at b
      exact Or.inl ⟨i + 5, by omega, e13, b⟩
end KR
