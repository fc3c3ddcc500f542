section KR
variable {T : kz_S} {z8 : Nat → Int32} {z9 : Int32} {n i : Nat}
/-- behind the first figure of days -/
theorem kr_feP (h1 : T 1 0 = nI n) (hn : n ≤ 80) {a : Int32} (ha : X2_phaseAfterFirstDigit_r a = 4 ∨ X2_phaseAfterFirstDigit_r a = 5 ∨ X2_phaseAfterFirstDigit_r a = 6) (hi : i ≤ n) : (kr_two a (kr_sg T n i) → i < n ∧ X2_fe T (X2_phaseAfterFirstDigit_r a) i (n - i) = kr_aft T n (i + 1)) ∧ (¬ kr_two a (kr_sg T n i) → X2_fe T (X2_phaseAfterFirstDigit_r a) i (n - i) = kr_aft T n i) := by
  unfold kr_two
  rcases ha with e | e | e
  · rw [e, kr_feM h1 hn hi (by decide), kr_p4]
    refine ⟨fun q => ?_, fun q => ?_⟩
    · have hd : X2_isDigit_p (kr_sg T n i) := q.elim (fun x => x.2) (fun x => absurd x.1 (by decide))
      have hl := kr_inD hd
      have n59 : ¬ kr_sg T n i = 59 := fun c => by rw [c] at hd; exact absurd hd (by decide)
      refine ⟨hl, ?_⟩
      rw [if_neg (by omega), if_neg n59, if_pos hd, if_neg (by decide), kr_fe6 h1 hn (by omega)]
    · have hd : ¬ X2_isDigit_p (kr_sg T n i) := fun c => q (Or.inl ⟨rfl, c⟩)
      rw [if_neg hd, kr_aft]
      by_cases c : n ≤ i
      · rw [if_pos c, if_pos c]
      · rw [if_neg c, if_neg c]
        by_cases d : kr_sg T n i = 59
        · rw [if_pos d, if_pos d, if_neg (by decide)]
        · rw [if_neg d, if_neg d, if_pos rfl]
  · rw [e, kr_feM h1 hn hi (by decide), kr_p5]
    refine ⟨fun q => ?_, fun q => ?_⟩
    · have hd : kr_sg T n i = 48 := q.elim (fun x => absurd x.1 (by decide)) (fun x => x.2)
      have hl := kr_in hd (by decide)
      have n59 : ¬ kr_sg T n i = 59 := fun c => by rw [c] at hd; exact absurd hd (by decide)
      refine ⟨hl, ?_⟩
      rw [if_neg (by omega), if_neg n59, if_pos hd, if_neg (by decide), kr_fe6 h1 hn (by omega)]
    · have hd : ¬ kr_sg T n i = 48 := fun c => q (Or.inr ⟨rfl, c⟩)
      rw [if_neg hd, kr_aft]
      by_cases c : n ≤ i
      · rw [if_pos c, if_pos c]
      · rw [if_neg c, if_neg c]
        by_cases d : kr_sg T n i = 59
        · rw [if_pos d, if_pos d, if_neg (by decide)]
        · rw [if_neg d, if_neg d, if_pos rfl]
  · rw [e]
    exact ⟨fun q => absurd q (by rintro (⟨x, -⟩ | ⟨x, -⟩) <;> exact absurd x (by decide)), fun _ => kr_fe6 h1 hn hi⟩
end KR
