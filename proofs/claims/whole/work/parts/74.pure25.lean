section KR
variable {T : kz_S} {z8 : Nat → Int32} {z9 : Int32} {n i : Nat}
theorem kr_rcC (h : kr_tt T z8 z9 n) (hi : i < n) (hc : kr_sg T n i = 112 ∨ kr_sg T n i = 120 ∨ kr_sg T n i = 109) : X4_rc z8 z9 (nI i) (-6) = rc_t z8 z9 (kr_sg T n i) (rc_4 z8 z9 (nI (i + 1), -6)) := by
  have hn := h.2.2.1
  rw [X4_rc, kr_tl h (by omega)]
  rcases hc with e | e | e
  · rw [e, rc_w, kr_wa, kr_wb, show rc_b 112 = 1 by decide, if_neg (by decide), rc_k, if_neg (by decide), if_neg (by decide)]
  · rw [e, rc_w, kr_wa, kr_wb, show rc_b 120 = 1 by decide, if_neg (by decide), rc_k, if_neg (by decide), if_neg (by decide)]
  · rw [e, rc_w, kr_wa, kr_wb, show rc_b 109 = 1 by decide, if_neg (by decide), rc_k, if_neg (by decide), if_neg (by decide)]
theorem kr_cmdP (h : kr_tt T z8 z9 n) (hc : kr_sg T n i = 112 ∨ kr_sg T n i = 120) : (∃ e, e ≤ n ∧ (X4_rc z8 z9 (nI i) (-6)).2.2.2.2 = nI e ∧ X2_fe T 0 i (n - i) = nI e) ∨ ∃ k, 2 ≤ k ∧ i + k ≤ n ∧ (X4_rc z8 z9 (nI i) (-6)).2.2.2.2 = (-6) ∧ (X4_rc z8 z9 (nI i) (-6)).2.2.2.1 = nI (i + k) ∧ X2_fe T 0 i (n - i) = kr_aft T n (i + k) := by
  have hn := h.2.2.1
  have hi : i < n := hc.elim (fun e => kr_in e (by decide)) (fun e => kr_in e (by decide))
  have hm : ¬ kr_sg T n i = 109 := fun e => by rw [e] at hc; exact absurd hc (by decide)
  have hl : X2_phaseAfterLetter_r (kr_sg T n i) = 10 := hc.elim (fun e => by rw [e]; decide) (fun e => by rw [e]; decide)
  have er := kr_rcC h hi (hc.elim Or.inl (fun e => Or.inr (Or.inl e)))
  rw [rc_t, if_neg hm] at er
  have e13 : (X4_rc z8 z9 (nI i) (-6)).2.2.2.2 = (rc_4 z8 z9 (nI (i + 1), -6)).2.2 := by rw [er]
  have e12 : (X4_rc z8 z9 (nI i) (-6)).2.2.2.1 = (rc_4 z8 z9 (nI (i + 1), -6)).2.1 := by rw [er]
  have ef : X2_fe T 0 i (n - i) = X2_fe T 10 (i + 1) (n - (i + 1)) := by
    rw [kr_feS h.1 hn (by omega) (by decide) (by decide), kr_p0, hl, if_neg (by decide)]
  generalize X4_rc z8 z9 (nI i) (-6) = r at e13 e12
  generalize X2_fe T 0 i (n - i) = f at ef
  rcases kr_r4c h (p := 10) (p1 := 11) (p2 := 12) (p3 := 13) (p4 := 6) ⟨by unfold kr_cd; decide, by unfold kr_cd; decide, by unfold kr_cd; decide, by unfold kr_cd; decide⟩ (by decide) (by decide) (by decide) (by decide) (j := i + 1) (by omega) with ⟨e, he, a, b⟩ | ⟨he, a, b⟩
  · exact Or.inl ⟨e, he, e13.trans a, ef.trans b⟩
  · rw [a] at e13 e12
    refine Or.inr ⟨5, by omega, by omega, e13, e12, ?_⟩
    rw [ef, b, kr_fe6 h.1 hn (by omega)]
end KR
