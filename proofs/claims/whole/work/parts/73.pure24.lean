section KR
variable {T : kz_S} {z8 : Nat → Int32} {z9 : Int32} {n i : Nat}
/-- the number of four signs -/
def kr_num (T : kz_S) (n j : Nat) : Int32 := 10 * (10 * (10 * (10 * 0 + (kr_sg T n j - 48)) + (kr_sg T n (j + 1) - 48)) + (kr_sg T n (j + 2) - 48)) + (kr_sg T n (j + 3) - 48)
theorem kr_r4c (h : kr_tt T z8 z9 n) {p p1 p2 p3 p4 : Int32} (hp : kr_cd p ∧ kr_cd p1 ∧ kr_cd p2 ∧ kr_cd p3) (e1 : (if p = 13 then 6 else p + 1) = p1) (e2 : (if p1 = 13 then 6 else p1 + 1) = p2) (e3 : (if p2 = 13 then 6 else p2 + 1) = p3) (e4 : (if p3 = 13 then 6 else p3 + 1) = p4) {j : Nat} (hj : j ≤ n) : (∃ e, e ≤ n ∧ (rc_4 z8 z9 (nI j, -6)).2.2 = nI e ∧ X2_fe T p j (n - j) = nI e) ∨ (j + 4 ≤ n ∧ rc_4 z8 z9 (nI j, -6) = (kr_num T n j, nI (j + 4), -6) ∧ X2_fe T p j (n - j) = X2_fe T p4 (j + 4) (n - (j + 4))) := by
  have hn := h.2.2.1
  rw [rc_4, kr_feC h.1 hn hp.1 hj, e1]
  by_cases c0 : X2_isDigit_p (kr_sg T n j)
  · have l0 := kr_inD c0
    rw [kr_f1 h (by omega) 0 c0, if_pos c0, kr_feC h.1 hn hp.2.1 (by omega), e2]
    by_cases c1 : X2_isDigit_p (kr_sg T n (j + 1))
    · have l1 := kr_inD c1
      rw [kr_f1 h (by omega) _ c1, if_pos c1, kr_feC h.1 hn hp.2.2.1 (by omega), e3]
      by_cases c2 : X2_isDigit_p (kr_sg T n (j + 2))
      · have l2 := kr_inD c2
        rw [kr_f1 h (by omega) _ c2, if_pos c2, kr_feC h.1 hn hp.2.2.2 (by omega), e4]
        by_cases c3 : X2_isDigit_p (kr_sg T n (j + 3))
        · have l3 := kr_inD c3
          rw [kr_f1 h (by omega) _ c3, if_pos c3]
          exact Or.inr ⟨by omega, rfl, rfl⟩
        · rw [if_neg c3]
          exact Or.inl ⟨j + 3, by omega, kr_f0 h (by omega) _ c3, rfl⟩
      · rw [if_neg c2]
        exact Or.inl ⟨j + 2, by omega, kr_ff2 (kr_n6 (by omega)) _ (kr_f0 h (by omega) _ c2), rfl⟩
    · rw [if_neg c1]
      exact Or.inl ⟨j + 1, by omega, kr_ff2 (kr_n6 (by omega)) _ (kr_ff2 (kr_n6 (by omega)) _ (kr_f0 h (by omega) _ c1)), rfl⟩
  · rw [if_neg c0]
    exact Or.inl ⟨j, by omega, kr_ff2 (kr_n6 (by omega)) _ (kr_ff2 (kr_n6 (by omega)) _ (kr_ff2 (kr_n6 (by omega)) _ (kr_f0 h (by omega) _ c0))), rfl⟩
end KR
