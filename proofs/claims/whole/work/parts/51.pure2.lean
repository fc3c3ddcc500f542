set_option maxRecDepth 100000 in
theorem kr_icT : kz_alB (fun a => kz_alB (fun b => kz_ixB (100 * a + b)) 100) 100 = true := by decide +kernel
theorem kr_icS {c : Nat} (h : c < 10000) : (X3_indexOfCode_r (nI c) = (-1) ∧ X4_indexOf_r (nI c) = (-6)) ∨ (X3_indexOfCode_r (nI c) = X4_indexOf_r (nI c) ∧ 0 ≤ X3_indexOfCode_r (nI c) ∧ X3_indexOfCode_r (nI c) < 336) := by
  have h1 := kz_alB_of 100 (kz_alB_of 100 kr_icT (c / 100) (by omega)) (c % 100) (by omega)
  have h2 : kz_ixB (100 * (c / 100) + c % 100) = true := h1
  rw [show 100 * (c / 100) + c % 100 = c by omega] at h2
  exact of_decide_eq_true h2
theorem kr_ic {code : Int32} : (X3_indexOfCode_r code = (-1) ∧ X4_indexOf_r code = (-6)) ∨ ∃ k, k < 336 ∧ X3_indexOfCode_r code = nI k ∧ X4_indexOf_r code = nI k := by
  by_cases h : X3_isWithin_p code 0 9999
  · obtain ⟨c, hc, rfl⟩ := kz_wiE (n := 9999) h rfl (by decide)
    rcases kr_icS (c := c) (by omega) with h1 | ⟨h1, h2, h3⟩
    · exact Or.inl h1
    · obtain ⟨k, hk, e⟩ := nI_of (x := X3_indexOfCode_r (nI c)) (Int32.not_lt.mpr h2)
      refine Or.inr ⟨k, ?_, e, h1 ▸ e⟩
      rw [e] at h3
      exact kz_lt (b := 336) h3 hk (by decide)
  · left
    exact ⟨by rw [X3_indexOfCode_r, if_neg h], by rw [X4_indexOf_r, if_neg h]⟩
