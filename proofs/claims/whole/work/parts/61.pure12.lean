section KR
variable {D : Nat} {S T V Sv : kz_S} {z y : Nat → Int32}
/-- a change that keeps what was before -/
theorem kr_opH {V' S' : kz_S} {r w a b r' : Int32} {z' : Nat → Int32} (hop : kr_op V' S' r z w z' a b r') {Y : kz_S} {R : Nat → kz_S} {z1 : Nat → Int32} {z2 : Int32} (hH : kz_H Y R z1 z2) (h : kz_R9 S z) : r = (if 0 ≤ w then r' else w) ∧ kz_R9 S' (if 0 ≤ w then z' else z) ∧ kz_H (X3_recorded_s V' Y r) (X0_prepare_R Y R S) (if 0 ≤ w then X4_record_c1 z z1 z2 else z1) (if 0 ≤ w then X4_record_c2 z z1 z2 else z2) := by
  obtain ⟨-, -, ⟨c, e, q, k⟩ | ⟨c, e, q, k⟩⟩ := hop
  · rw [if_neg c, if_neg c, if_neg c, if_neg c, X3_recorded_s, if_pos e]
    exact ⟨q, k, kr_prep hH S⟩
  · rw [if_pos c, if_pos c, if_pos c, if_pos c, X3_recorded_s, if_neg e]
    exact ⟨q, k, kr_rec hH h⟩
end KR
