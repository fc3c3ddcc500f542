-- what is done is done alike: come
def kz_R9 (S : kz_S) (z : Nat → Int32) : Prop := ∃ D, D ≤ 9999 ∧ z 5 = nI D ∧ kz_RS D S z
/-- a change: refused alike, or done alike -/
def kr_op (V' S' : kz_S) (r : Int32) (z : Nat → Int32) (w : Int32) (z' : Nat → Int32) (a b r' : Int32) : Prop := V' 6 0 = a ∧ V' 7 0 = b ∧ ((¬ 0 ≤ w ∧ X3_isError_p r ∧ r = w ∧ kz_R9 S' z) ∨ (0 ≤ w ∧ ¬ X3_isError_p r ∧ r = r' ∧ kz_R9 S' z'))
theorem kr_ok {n : Nat} (h : n < 2 ^ 31) : ¬ X3_isError_p (nI n) := fun q => q.2 (Int32.lt_iff_toInt_lt.mpr (by rw [nI_toInt h]; show (-1 : Int) < n; omega))
theorem kr_codeT : kz_alB (fun w => kz_alB (fun p => decide (¬ X3_isError_p (X3_codeFor_r (nI (w + 1)) (nI p)))) 48) 7 = true := by decide +kernel
theorem kr_codeNN {w p : Nat} (hw : w < 7) (hp : p < 48) : ¬ X3_isError_p (X3_codeFor_r (nI (w + 1)) (nI p)) := of_decide_eq_true (kz_alB_of 48 (kz_alB_of 7 kr_codeT w hw) p hp)
section KR
variable {D : Nat} {S T V : kz_S} {z y : Nat → Int32}
theorem kr_codeOnNN (h : kz_RS D S z) {p : Nat} (hp : p < 48) (ht : ¬ X1_isFree_p S p) : ¬ X3_isError_p (X1_codeOn_r S p) := by
  obtain ⟨w, q, hw, hq, a5, -⟩ := kr_tkn h hp ht
  rw [X1_codeOn_r, a5]
  exact kr_codeNN hw hp
theorem kr_noPlace (h : kz_RS D S z) {a b : Nat} (hb : b ≤ 5) (hab : a ≤ b + 1) : X3_refuseForNoPlace_s V S a b 6 0 = X4_refusePlace_c6 z a b ∧ X3_refuseForNoPlace_s V S a b 7 0 = X4_refusePlace_c7 z a b := by
  rw [X3_refuseForNoPlace_s, X4_refusePlace_c6, X4_refusePlace_c7]
  by_cases c : X1_hasFreePlace_p S a b
  · rw [if_pos c, if_pos ((kr_has h hb hab).mp c)]
    exact ⟨rfl, rfl⟩
  · rw [if_neg c, if_neg (fun q => c ((kr_has h hb hab).mpr q))]
    exact ⟨rfl, rfl⟩
theorem kr_noParcel (hD : D < 2 ^ 20) (h : kz_RS D S z) (code : Int32) : X3_refuseForNoParcel_s V S code 6 0 = X4_refuseCode_c6 z code ∧ X3_refuseForNoParcel_s V S code 7 0 = X4_refuseCode_c7 z code := by
  rw [X3_refuseForNoParcel_s, X4_refuseCode_c6, X4_refuseCode_c7]
  rcases kr_ic (code := code) with ⟨a, b⟩ | ⟨k, hk, a, b⟩
  · rw [a, b, if_pos (by decide), if_pos (by rw [X4_restsOf_r, if_pos rfl, ite_self]), if_pos (by rw [X4_restsOf_r, if_pos rfl, ite_self])]
    exact ⟨rfl, rfl⟩
  · rw [a, b, if_neg (nI_pos (by omega))]
    by_cases r : X1_rests_p S (nI k)
    · rw [if_pos r, if_neg ((kr_rests hD h hk).1.mp r), if_neg ((kr_rests hD h hk).1.mp r)]
      exact ⟨rfl, rfl⟩
    · rw [if_neg r, if_pos (Decidable.not_not.mp (fun q => r ((kr_rests hD h hk).1.mpr q))), if_pos (Decidable.not_not.mp (fun q => r ((kr_rests hD h hk).1.mpr q)))]
      exact ⟨rfl, rfl⟩
theorem kr_come (h : kz_R9 S z) {a b : Int32} (v6 : V 6 0 = a) (v7 : V 7 0 = b) (q v : Int32) : kr_op (X3_letCome_s0 V S q v) (X3_letCome_s1 V S q v) (X3_letCome_r V S q v) z (X4_whyNotCome_r z a b q v) (X4_comes_c0 z q v) (X4_whyNotCome_c6 z a b q v) (X4_whyNotCome_c7 z a b q v) (X4_comes_r z q v) := by
  obtain ⟨D, hD, e5, h0⟩ := id h
  rw [X3_letCome_s0, X3_letCome_s1, X3_letCome_r, X4_whyNotCome_r, X4_whyNotCome_c6, X4_whyNotCome_c7]
  by_cases c : X3_isWithin_p q 0 9
  · rw [if_pos c, if_pos c, if_pos c, if_pos (show X4_isSender_p q from c), if_pos (show X4_isSender_p q from c), if_pos (show X4_isSender_p q from c)]
    by_cases c2 : X3_isWithin_p v 0 2
    · rw [if_pos c2, if_pos c2, if_pos c2, if_pos (show X4_in_p v 0 2 from c2), if_pos (show X4_in_p v 0 2 from c2), if_pos (show X4_in_p v 0 2 from c2)]
      obtain ⟨i, hi, rfl⟩ := kz_wiE (n := 9) c rfl (by decide)
      obtain ⟨j, hj, rfl⟩ := kz_wiE (n := 2) c2 rfl (by decide)
      rw [X4_comes_r, X4_comes_c0, nI_clamp (n := j) (by omega)]
      rcases kr_first (by omega) h0 (a := 2 * j) (b := 5) (by omega) (by omega) with ⟨f1, f2⟩ | ⟨p, hp, hg, f1, f2⟩
      · rw [if_pos f1, if_pos f1, if_pos f1, if_pos f2, if_pos f2, if_pos f2]
        exact ⟨(kr_noPlace h0 (by omega) (by omega)).1, (kr_noPlace h0 (by omega) (by omega)).2, Or.inl ⟨by decide, by decide, rfl, h⟩⟩
      · rw [f1, f2, if_neg (kr_n1 (by omega)), if_neg (kr_n1 (by omega)), if_neg (kr_n1 (by omega)), if_neg (kr_n6 (by omega)), if_neg (kr_n6 (by omega)), if_neg (kr_n6 (by omega)), nI_clamp (n := p) (by omega)]
        have h1 := kr_put (by omega) h0 hp (q := i) (v := j) (c := D) (by omega) hj (Nat.le_refl _)
        have h2 := kr_came h1
        have s1 : S 1 0 = nI D := (kr_day h0).trans e5
        rw [e5, s1]
        have ht : ¬ X1_isFree_p (va_up (X1_put_s S p (nI i) (nI j) (nI D)) 3 (fun _ => (X1_put_s S p (nI i) (nI j) (nI D)) 3 0 + 1)) p := by
          show ¬ upd (S 5) p (X3_weekdayOf_r (S 1 0)) p = 0
          rw [pk_us, s1, X3_weekdayOf_r, kz_wdN (by omega)]
          exact nI_ne0 (by omega) (by omega)
        refine ⟨v6, v7, Or.inr ⟨by decide, kr_codeOnNN h2 hp ht, kr_codeOn h2 hp ht, D, hD, ?_, h2⟩⟩
        rw [pk_un (by omega), kz_lay5, e5]
    · rw [if_neg c2, if_neg c2, if_neg c2, if_neg (show ¬ X4_in_p v 0 2 from c2), if_neg (show ¬ X4_in_p v 0 2 from c2), if_neg (show ¬ X4_in_p v 0 2 from c2)]
      exact ⟨v6, v7, Or.inl ⟨by decide, by decide, rfl, h⟩⟩
  · rw [if_neg c, if_neg c, if_neg c, if_neg (show ¬ X4_isSender_p q from c), if_neg (show ¬ X4_isSender_p q from c), if_neg (show ¬ X4_isSender_p q from c)]
    exact ⟨v6, v7, Or.inl ⟨by decide, by decide, rfl, h⟩⟩
end KR
