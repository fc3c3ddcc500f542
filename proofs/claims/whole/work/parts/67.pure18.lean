section KR
variable {T : kz_S} {z8 : Nat → Int32} {z9 : Int32} {n i : Nat}
theorem kr_cmdA (h : kr_tt T z8 z9 n) (hc : kr_sg T n i = 97) : (∃ e, e ≤ n ∧ (X4_rc z8 z9 (nI i) (-6)).2.2.2.2 = nI e ∧ X2_fe T 0 i (n - i) = nI e) ∨ ∃ k, 2 ≤ k ∧ i + k ≤ n ∧ (X4_rc z8 z9 (nI i) (-6)).2.2.2.2 = (-6) ∧ (X4_rc z8 z9 (nI i) (-6)).2.2.2.1 = nI (i + k) ∧ X2_fe T 0 i (n - i) = kr_aft T n (i + k) := by
  have hi : i < n := kr_in hc (by decide)
  have hn := h.2.2.1
  have e : X4_rc z8 z9 (nI i) (-6) = rc_a z8 z9 97 (X4_figure_r z8 z9 (nI (i + 1)) (-6) 0 9) (rc_g z8 z9 0 9 (nI (i + 1), -6)) := by
    rw [X4_rc, kr_tl h (by omega), hc, rc_w, kr_wa, kr_wb, show rc_b 97 = 1 by decide, if_neg (by decide), rc_k, if_pos rfl]
  have e13 : (X4_rc z8 z9 (nI i) (-6)).2.2.2.2 = X4_size_c13 z8 z9 (nI (i + 2)) (X4_figure_c13 z8 z9 (nI (i + 1)) (-6) 0 9) := by rw [e, rc_a, rc_g, kr_fa]
  have e12 : (X4_rc z8 z9 (nI i) (-6)).2.2.2.1 = X4_size_c12 z8 z9 (nI (i + 2)) (X4_figure_c13 z8 z9 (nI (i + 1)) (-6) 0 9) := by rw [e, rc_a, rc_g, kr_fa]
  have ef := kr_feA h.1 hn hc
  generalize X4_rc z8 z9 (nI i) (-6) = r at e13 e12
  generalize X2_fe T 0 i (n - i) = f at ef
  by_cases c : X2_isDigit_p (kr_sg T n (i + 1))
  · have hi1 := kr_inD c
    rw [kr_fb1 h (by omega) ((kr_dg (kr_ts h)).mpr c), kr_sb h (by omega)] at e13
    rw [kr_fb1 h (by omega) ((kr_dg (kr_ts h)).mpr c), kr_sa] at e12
    rw [if_pos c] at ef
    by_cases d : X2_sizeOf_r (kr_sg T n (i + 2)) < 0
    · rw [if_pos d] at e13 ef
      exact Or.inl ⟨i + 2, by omega, e13, ef⟩
    · rw [if_neg d] at e13 ef
      have hi2 : i + 2 < n := by
        by_cases q : i + 2 < n
        · exact q
        · exact absurd (show X2_sizeOf_r (kr_sg T n (i + 2)) < 0 by rw [kr_sg, if_neg q]; decide) d
      exact Or.inr ⟨3, by omega, by omega, e13, e12, ef⟩
  · rw [kr_fb0 h (by omega) (fun q => c ((kr_dg (kr_ts h)).mp q)), kr_so (kr_n6 (by omega))] at e13
    rw [if_neg c] at ef
    exact Or.inl ⟨i + 1, by omega, e13, ef⟩
end KR
