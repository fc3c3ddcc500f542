-- what holds of every sign: looked up
def kr_sn (x : Int32) : Prop := x = (-6) ∨ ∃ c, c < 128 ∧ x = nI c
def kr_all (f : Int32 → Bool) : Bool := f (-6) && kz_alB (fun c => f (nI c)) 128
theorem kr_all_of {f : Int32 → Bool} (h : kr_all f = true) {x : Int32} (hx : kr_sn x) : f x = true := by
  rw [kr_all, Bool.and_eq_true] at h
  rcases hx with e | ⟨c, hc, e⟩
  · rw [e]; exact h.1
  · rw [e]; exact kz_alB_of 128 h.2 c hc
theorem kr_sgN {T : kz_S} {n i : Nat} (hn : n ≤ 80) (hch : ∀ k, k < 80 → ∃ c, c < 128 ∧ T 0 k = nI c) : kr_sn (kr_sg T n i) := by
  rw [kr_sg]
  by_cases c : i < n
  · rw [if_pos c]; exact Or.inr (hch i (by omega))
  · rw [if_neg c]; exact Or.inl rfl
theorem kr_dgT : kr_all (fun x => decide (X4_in_p (x - 48) 0 9 ↔ X2_isDigit_p x)) = true := by decide +kernel
theorem kr_dg {x : Int32} (h : kr_sn x) : X4_in_p (x - 48) 0 9 ↔ X2_isDigit_p x := of_decide_eq_true (kr_all_of kr_dgT h)
theorem kr_dg5T : kr_all (fun x => decide (X4_in_p (x - 48) 0 5 ↔ X3_isWithin_p x 48 53)) = true := by decide +kernel
theorem kr_dg5 {x : Int32} (h : kr_sn x) : X4_in_p (x - 48) 0 5 ↔ X3_isWithin_p x 48 53 := of_decide_eq_true (kr_all_of kr_dg5T h)
theorem kr_dg1T : kr_all (fun x => decide ((X4_in_p (x - 48) 1 9 ↔ ¬ X2_phaseAfterFirstDigit_r x = (-1)) ∧ (¬ X2_phaseAfterFirstDigit_r x = (-1) → X2_phaseAfterFirstDigit_r x = 4 ∨ X2_phaseAfterFirstDigit_r x = 5 ∨ X2_phaseAfterFirstDigit_r x = 6))) = true := by decide +kernel
theorem kr_dg1 {x : Int32} (h : kr_sn x) : (X4_in_p (x - 48) 1 9 ↔ ¬ X2_phaseAfterFirstDigit_r x = (-1)) ∧ (¬ X2_phaseAfterFirstDigit_r x = (-1) → X2_phaseAfterFirstDigit_r x = 4 ∨ X2_phaseAfterFirstDigit_r x = 5 ∨ X2_phaseAfterFirstDigit_r x = 6) := of_decide_eq_true (kr_all_of kr_dg1T h)
theorem kr_leT : kr_all (fun x => decide ((rc_b x = 0 ↔ X2_phaseAfterLetter_r x = (-1)) ∧ (rc_b x = 0 ∨ x = 97 ∨ x = 100 ∨ x = 109 ∨ x = 112 ∨ x = 120))) = true := by decide +kernel
theorem kr_le {x : Int32} (h : kr_sn x) : (rc_b x = 0 ↔ X2_phaseAfterLetter_r x = (-1)) ∧ (rc_b x = 0 ∨ x = 97 ∨ x = 100 ∨ x = 109 ∨ x = 112 ∨ x = 120) := of_decide_eq_true (kr_all_of kr_leT h)
theorem kr_szT : kr_all (fun x => decide ((X2_sizeOf_r x < 0 ↔ ¬ (x = 115 ∨ x = 109 ∨ x = 108)))) = true := by decide +kernel
theorem kr_sz {x : Int32} (h : kr_sn x) : X2_sizeOf_r x < 0 ↔ ¬ (x = 115 ∨ x = 109 ∨ x = 108) := of_decide_eq_true (kr_all_of kr_szT h)
theorem kr_p6 (x : Int32) : X2_phaseAfter_r 6 x = if x = 59 then 0 else (-1) := by
  rw [X2_phaseAfter_r, if_pos (by decide)]
  by_cases c : x = 59
  · rw [if_pos c, if_pos c]
  · rw [if_neg c, if_neg c, if_neg (by decide), if_neg (by decide), if_neg (by decide), if_neg (by decide), if_neg (by decide), if_neg (by decide), if_neg (by decide), if_neg (by decide), X2_phaseInCode_r, if_pos rfl]
/-- behind a command: the end, the separator, or an error -/
def kr_aft (T : kz_S) (n j : Nat) : Int32 := if n ≤ j then (-6) else if kr_sg T n j = 59 then X2_fe T 0 (j + 1) (n - (j + 1)) else nI j
theorem kr_fe6 {T : kz_S} {n j : Nat} (h1 : T 1 0 = nI n) (hn : n ≤ 80) (hj : j ≤ n) : X2_fe T 6 j (n - j) = kr_aft T n j := by
  rw [kr_feM h1 hn hj (by decide), kr_aft, kr_p6]
  by_cases c : n ≤ j
  · rw [if_pos c, if_pos c]
  · rw [if_neg c, if_neg c]
    by_cases d : kr_sg T n j = 59
    · rw [if_pos d, if_pos d, if_neg (by decide)]
    · rw [if_neg d, if_neg d, if_pos rfl]
