section KR
variable {T : kz_S} {z8 : Nat → Int32} {z9 : Int32} {n i : Nat}
theorem kr_cmdD (h : kr_tt T z8 z9 n) (hc : kr_sg T n i = 100) : (∃ e, e ≤ n ∧ (X4_rc z8 z9 (nI i) (-6)).2.2.2.2 = nI e ∧ X2_fe T 0 i (n - i) = nI e) ∨ ∃ k, 2 ≤ k ∧ i + k ≤ n ∧ (X4_rc z8 z9 (nI i) (-6)).2.2.2.2 = (-6) ∧ (X4_rc z8 z9 (nI i) (-6)).2.2.2.1 = nI (i + k) ∧ X2_fe T 0 i (n - i) = kr_aft T n (i + k) := by
  have hi : i < n := kr_in hc (by decide)
  have hn := h.2.2.1
  have e : X4_rc z8 z9 (nI i) (-6) = (100, X4_days_r z8 z9 (nI (i + 1)) (-6), 0, X4_days_c12 z8 z9 (nI (i + 1)) (-6), X4_days_c13 z8 z9 (nI (i + 1)) (-6)) := by
    rw [X4_rc, kr_tl h (by omega), hc, rc_w, kr_wa, kr_wb, show rc_b 100 = 1 by decide, if_neg (by decide), rc_k, if_neg (by decide), if_pos rfl]
  have e13 : (X4_rc z8 z9 (nI i) (-6)).2.2.2.2 = X4_days_c13 z8 z9 (nI (i + 1)) (-6) := by rw [e]
  have e12 : (X4_rc z8 z9 (nI i) (-6)).2.2.2.1 = X4_days_c12 z8 z9 (nI (i + 1)) (-6) := by rw [e]
  have ef : X2_fe T 0 i (n - i) = if X2_phaseAfterFirstDigit_r (kr_sg T n (i + 1)) = (-1) then nI (i + 1) else X2_fe T (X2_phaseAfterFirstDigit_r (kr_sg T n (i + 1))) (i + 1 + 1) (n - (i + 1 + 1)) := by
    rw [kr_feS h.1 hn (by omega) (by decide) (by decide), kr_p0, hc, show X2_phaseAfterLetter_r 100 = 3 by decide, if_neg (by decide), kr_feS h.1 hn (by omega) (by decide) (by decide), kr_p3]
  have hf : X4_figure_r z8 z9 (nI (i + 1)) (-6) 1 9 = kr_sg T n (i + 1) - 48 := by rw [X4_figure_r, kr_tl h (by omega)]
  rw [X4_days_c13, ite_self, ite_self, ite_self] at e13
  rw [X4_days_c12, kr_fa, kr_tl h (by omega), hf] at e12
  generalize X4_rc z8 z9 (nI i) (-6) = r at e13 e12
  generalize X2_fe T 0 i (n - i) = f at ef
  have hd := kr_dg1 (kr_ts h (i := i + 1))
  by_cases c : X4_in_p (kr_sg T n (i + 1) - 48) 1 9
  · have hp := hd.1.mp c
    have hi1 : i + 1 < n := by
      by_cases q : i + 1 < n
      · exact q
      · exact absurd (show X2_phaseAfterFirstDigit_r (kr_sg T n (i + 1)) = (-1) by rw [kr_sg, if_neg q]; decide) hp
    rw [kr_fb1 h (by omega) c] at e13 e12
    rw [if_neg hp] at ef
    rw [if_pos rfl] at e12
    have tw := kr_tw (kr_ts h (i := i + 1)) (kr_ts h (i := i + 2)) c
    have fp := kr_feP h.1 hn (hd.2 hp) (i := i + 1 + 1) (by omega)
    by_cases t : kr_two (kr_sg T n (i + 1)) (kr_sg T n (i + 2))
    · obtain ⟨t1, t2⟩ := tw.mpr t
      obtain ⟨l, fe⟩ := fp.1 t
      rw [if_pos t1, if_neg t2, nI_1] at e12
      exact Or.inr ⟨3, by omega, by omega, e13, e12, ef.trans fe⟩
    · have fe := fp.2 t
      refine Or.inr ⟨2, by omega, by omega, e13, ?_, ef.trans fe⟩
      rw [e12]
      by_cases t1 : X4_in_p (kr_sg T n (i + 1 + 1) - 48) 0 9
      · rw [if_pos t1]
        by_cases t2 : 30 < 10 * (kr_sg T n (i + 1) - 48) + (kr_sg T n (i + 1 + 1) - 48)
        · rw [if_pos t2]
        · exact absurd (tw.mp ⟨t1, t2⟩) t
      · rw [if_neg t1]
  · rw [kr_fb0 h (by omega) c] at e13
    rw [if_pos (Decidable.not_not.mp (fun q => c (hd.1.mpr q)))] at ef
    exact Or.inl ⟨i + 1, by omega, e13, ef⟩
end KR
