-- searches and sums that agree
theorem kr_ff {P Q : Nat → Prop} [DecidablePred P] [DecidablePred Q] {a b : Int32} : ∀ (n i : Nat), (∀ j, i ≤ j → j < i + n → (P j ↔ Q j)) → (kz_ff P a i n = a ∧ kz_ff Q b i n = b) ∨ ∃ j, i ≤ j ∧ j < i + n ∧ P j ∧ kz_ff P a i n = nI j ∧ kz_ff Q b i n = nI j
  | 0, i, _ => Or.inl ⟨rfl, rfl⟩
  | n + 1, i, h => by
    have h0 := h i (Nat.le_refl _) (by omega)
    by_cases c : P i
    · exact Or.inr ⟨i, Nat.le_refl _, by omega, c, by rw [kz_ff, if_pos c], by rw [kz_ff, if_pos (h0.mp c)]⟩
    · rw [kz_ff, if_neg c, kz_ff, if_neg (fun q => c (h0.mpr q))]
      rcases kr_ff n (i + 1) (fun j h1 h2 => h j (by omega) (by omega)) with h3 | ⟨j, h4, h5, h6⟩
      · exact Or.inl h3
      · exact Or.inr ⟨j, by omega, by omega, h6⟩
theorem kr_fb {P Q : Nat → Prop} [DecidablePred P] [DecidablePred Q] : ∀ (n i : Nat), (∀ j, i ≤ j → j < i + n → (P j ↔ Q j)) → kz_fb P i n = kz_fb Q i n
  | 0, i, _ => rfl
  | n + 1, i, h => by
    have h0 := h i (Nat.le_refl _) (by omega)
    rw [kz_fb, kz_fb, kr_fb n (i + 1) (fun j h1 h2 => h j (by omega) (by omega))]
    by_cases c : P i
    · rw [if_pos c, if_pos (h0.mp c)]
    · rw [if_neg c, if_neg (fun q => c (h0.mpr q))]
theorem kr_cn {P Q : Nat → Prop} [DecidablePred P] [DecidablePred Q] : ∀ n : Nat, (∀ j, j < n → (P j ↔ Q j)) → kz_cn P n = kz_cn Q n
  | 0, _ => rfl
  | n + 1, h => by
    have h0 := h n (by omega)
    rw [kz_cn, kz_cn, kr_cn n (fun j h1 => h j (by omega))]
    by_cases c : P n
    · rw [if_pos c, if_pos (h0.mp c)]
    · rw [if_neg c, if_neg (fun q => c (h0.mpr q))]
theorem kr_sm {f g : Nat → Int32} : ∀ n : Nat, (∀ j, j < n → f j = g j) → kz_sm f n = kz_sm g n
  | 0, _ => rfl
  | n + 1, h => by rw [kz_sm, kz_sm, kr_sm n (fun j h1 => h j (by omega)), h n (by omega)]
theorem kr_sp {P Q : Nat → Prop} [DecidablePred P] [DecidablePred Q] {f g : Nat → Int32} : ∀ n : Nat, (∀ j, j < n → (P j ↔ Q j)) → (∀ j, j < n → P j → f j = g j) → kz_sp P f n = kz_sp Q g n
  | 0, _, _ => rfl
  | n + 1, h, e => by
    have h0 := h n (by omega)
    rw [kz_sp, kz_sp, kr_sp n (fun j h1 => h j (by omega)) (fun j h1 => e j (by omega))]
    by_cases c : P n
    · rw [if_pos c, if_pos (h0.mp c), e n (by omega) c]
    · rw [if_neg c, if_neg (fun q => c (h0.mpr q))]
theorem kr_cn0 {P : Nat → Prop} [DecidablePred P] : ∀ n : Nat, ∃ k, k ≤ n ∧ kz_cn P n = nI k
  | 0 => ⟨0, Nat.le_refl _, rfl⟩
  | n + 1 => by
    obtain ⟨k, hk, e⟩ := kr_cn0 (P := P) n
    rw [kz_cn]
    split
    · exact ⟨k + 1, by omega, by rw [e, nI_1]⟩
    · exact ⟨k, by omega, e⟩
/-- the sum over 8 places of each of 6 shelves is the count over 48 -/
theorem kr_cnA {P : Nat → Prop} [DecidablePred P] (m : Nat) : ∀ n : Nat, kz_cn P (m + n) = kz_cn P m + kz_cn (fun j => P (m + j)) n
  | 0 => by rw [kz_cn]; exact (Int32.add_zero _).symm
  | n + 1 => by
    rw [show m + (n + 1) = (m + n) + 1 by omega, kz_cn, kz_cn, kr_cnA m n]
    split
    · exact Int32.add_assoc _ _ _
    · rfl
theorem kr_cn8 {P : Nat → Prop} [DecidablePred P] : ∀ n : Nat, kz_sm (fun k => kz_cn (fun j => P (8 * k + j)) 8) n = kz_cn P (8 * n)
  | 0 => rfl
  | n + 1 => by rw [kz_sm, kr_cn8 n, show 8 * (n + 1) = 8 * n + 8 by omega, kr_cnA]
section KR
variable {D : Nat} {S : kz_S} {z : Nat → Int32}
theorem kr_free (h : kz_RS D S z) {p : Nat} (hp : p < 48) : X1_isFree_p S p ↔ ¬ X4_isTaken_p z p := by
  show S 5 p = 0 ↔ ¬ ¬ z (12 + 4 * p) ≤ 0
  rcases h.2.1 p hp with ⟨a, b, -⟩ | ⟨w, q, hw, hq, a, -, -, b, -⟩
  · rw [a, b]; decide
  · rw [a, b]
    exact ⟨fun e => absurd e (nI_ne0 (by omega) (by omega)), fun e => absurd (nI_nle (by omega) (by omega)) e⟩
theorem kr_tk (h : kz_RS D S z) {p : Nat} (hp : p < 48) : ¬ X1_isFree_p S p ↔ X4_isTaken_p z p := by
  rw [kr_free h hp]
  exact Decidable.not_not
theorem kr_day (h : kz_RS D S z) : S 1 0 = z 5 := by
  obtain ⟨d, -, a, b⟩ := h.1.2.2.1
  rw [a, b]
theorem kr_wd (d : Int32) : X3_weekdayOf_r d = X4_weekday_r d := rfl
theorem kr_code (w p : Int32) : X3_codeFor_r w p = X4_codeBy_r w p := rfl
theorem kr_rests (hD : D < 2 ^ 20) (h : kz_RS D S z) {k : Nat} (hk : k < 336) : (X1_rests_p S (nI k) ↔ ¬ X4_restsOf_r z (nI k) = (-6)) ∧ (X1_rests_p S (nI k) → X4_restsOf_r z (nI k) = S 9 k + S 0 0) := by
  obtain ⟨n0, hn0, e0⟩ := h.1.2.1 0 (by omega)
  obtain ⟨d, hd, e1, e5⟩ := h.1.2.2.1
  have s0 : S 0 0 = nI n0 := (h.1.1 0 (by omega)).trans e0
  have hc : (nI k).toNatClampNeg = k := nI_clamp (by omega)
  have hn : ¬ nI k = (-6) := fun e => nI_pos (n := k) (by omega) (e ▸ (by decide))
  have hz : (204 + nI k).toNatClampNeg = 204 + k := by
    rw [show (204 : Int32) + nI k = nI (204 + k) from nI_add 204 k, nI_clamp (by omega)]
  have hx : X4_restsOf_r z (nI k) = if z (204 + k) = (-6) then (-6) else if z (204 + k) + z 0 ≤ z 5 then (-6) else z (204 + k) + z 0 := by
    rw [X4_restsOf_r, if_neg hn, hz, ite_self]
  rw [hx]
  show ((¬ S 9 (nI k).toNatClampNeg = (-1) ∧ ¬ S 9 (nI k).toNatClampNeg + S 0 0 ≤ S 1 0) ↔ _) ∧ ((¬ S 9 (nI k).toNatClampNeg = (-1) ∧ ¬ S 9 (nI k).toNatClampNeg + S 0 0 ≤ S 1 0) → _)
  rw [hc]
  rcases h.2.2.1 k hk with ⟨a, b⟩ | ⟨n, hn1, a, b⟩
  · rw [if_pos b]
    exact ⟨⟨fun q => absurd a q.1, fun q => absurd rfl q⟩, fun q => absurd a q.1⟩
  · have h1 : ¬ z (204 + k) = (-6) := by
      rw [b]; exact fun e => nI_pos (n := n) (by omega) (e ▸ (by decide))
    have h2 : ¬ S 9 k = (-1) := by
      rw [a]; exact fun e => nI_pos (n := n) (by omega) (e ▸ (by decide))
    rw [if_neg h1, a, b, s0, e0, e1, e5, nI_add]
    by_cases c : nI (n + n0) ≤ nI d
    · rw [if_pos c]
      exact ⟨⟨fun q => absurd c q.2, fun q => absurd rfl q⟩, fun q => absurd c q.2⟩
    · rw [if_neg c]
      refine ⟨⟨fun _ e => nI_pos (n := n + n0) (by omega) (e ▸ (by decide)), fun _ => ⟨?_, c⟩⟩, fun _ => rfl⟩
      rw [← a]; exact h2
theorem kr_today (hD : D < 2 ^ 20) (h : kz_RS D S z) {j : Nat} (hj : j < 48) : X1_restsToday_p S j ↔ X4_rests_p z j := by
  obtain ⟨d, hd, e1, e5⟩ := h.1.2.2.1
  have i1 : X3_indexFor_r (X3_weekdayOf_r (S 1 0)) (nI j) = nI (48 * (d % 7) + j) := by
    rw [e1, X3_weekdayOf_r, kz_wdN (by omega), X3_indexFor_r, kz_ixN]
  have i2 : (48 * (X4_weekday_r (z 5) - 1)) + nI j = nI (48 * (d % 7) + j) := by
    rw [e5, X4_weekday_r, kz_wdN (by omega), kz_ix4N]
  show X1_rests_p S (X3_indexFor_r (X3_weekdayOf_r (S 1 0)) (nI j)) ↔ ¬ (X4_restsOf_r z ((48 * (X4_weekday_r (z 5) - 1)) + nI j)) = (-6)
  rw [i1, i2]
  exact (kr_rests hD h (by omega)).1
theorem kr_give (hD : D < 2 ^ 20) (h : kz_RS D S z) {j : Nat} (hj : j < 48) : X1_give_p S j ↔ X4_give_p z j := by
  show (X1_isFree_p S j ∧ ¬ X1_restsToday_p S j) ↔ (¬ X4_isTaken_p z j ∧ ¬ X4_rests_p z j)
  rw [kr_free h hj, kr_today hD h hj]
theorem kr_first (hD : D < 2 ^ 20) (h : kz_RS D S z) {a b : Nat} (hb : b ≤ 5) (hab : a ≤ b + 1) : (X1_placeToGive_r S a b = (-1) ∧ X4_firstPlace_r z a b = (-6)) ∨ ∃ p, p < 48 ∧ X1_give_p S p ∧ X1_placeToGive_r S a b = nI p ∧ X4_firstPlace_r z a b = nI p := by
  rcases kr_ff (P := X1_give_p S) (Q := X4_give_p z) (a := (-1)) (b := (-6)) (8 * (b + 1) - 8 * a) (8 * a) (fun j h1 h2 => kr_give hD h (by omega)) with h1 | ⟨j, h1, h2, h3, h4, h5⟩
  · exact Or.inl h1
  · exact Or.inr ⟨j, by omega, h3, h4, h5⟩
theorem kr_has (h : kz_RS D S z) {a b : Nat} (hb : b ≤ 5) (hab : a ≤ b + 1) : X1_hasFreePlace_p S a b ↔ X4_hasFree_p z a b := by
  show kz_fb (X1_isFree_p S) (8 * a) (8 * (b + 1) - 8 * a) = true ↔ kz_fb (fun j => ¬ X4_isTaken_p z j) (8 * a) (8 * (b + 1) - 8 * a) = true
  rw [kr_fb (8 * (b + 1) - 8 * a) (8 * a) (fun j h1 h2 => kr_free h (by omega))]
theorem kr_place (h : kz_RS D S z) (code : Int32) : (X1_placeWith_r S code = (-1) ∧ X4_placeBy_r z code = (-6)) ∨ ∃ p, p < 48 ∧ ¬ X1_isFree_p S p ∧ X1_placeWith_r S code = nI p ∧ X4_placeBy_r z code = nI p := by
  rcases kr_ic (code := code) with ⟨a, b⟩ | ⟨k, hk, a, b⟩
  · left
    exact ⟨by rw [X1_placeWith_r, a, if_neg (by decide)], by rw [X4_placeBy_r, if_pos b]⟩
  · have hr : kz_rem (nI k) 48 = nI (k % 48) := kz_remN (d := 48) (by omega) (by omega) (by omega)
    have hd : nI k / 48 = nI (k / 48) := kz_divN (d := 48) (by omega) (by omega) (by omega)
    have hn : ¬ nI k = (-6) := fun e => nI_pos (n := k) (by omega) (e ▸ (by decide))
    have x1 : X1_placeWith_r S code = if S 5 (k % 48) = nI (k / 48 + 1) then nI (k % 48) else (-1) := by
      rw [X1_placeWith_r, a, if_pos (nI_pos' (by omega)), hr, hd, nI_clamp (by omega), nI_1]
    have x4 : X4_placeBy_r z code = if X4_isTaken_p z (k % 48) then (if z (12 + 4 * (k % 48) + 3) = nI (k / 48 + 1) then nI (k % 48) else (-6)) else (-6) := by
      rw [X4_placeBy_r, b, if_neg hn, nI_clamp (by omega), hd, nI_1]
    have hp : k % 48 < 48 := Nat.mod_lt _ (by omega)
    rw [x1, x4]
    rcases h.2.1 (k % 48) hp with ⟨e5, ez, -⟩ | ⟨w, q, hw, hq, e5, ez, -⟩
    · left
      have ht : ¬ X4_isTaken_p z (k % 48) := (kr_free h hp).mp e5
      rw [if_neg ht, e5]
      exact ⟨if_neg (fun e => nI_ne0 (n := k / 48 + 1) (by omega) (by omega) e.symm), rfl⟩
    · have hf : ¬ X1_isFree_p S (k % 48) := by
        show ¬ S 5 (k % 48) = 0
        rw [e5]; exact nI_ne0 (by omega) (by omega)
      rw [if_pos ((kr_tk h hp).mp hf), e5, ez]
      by_cases c : nI (w + 1) = nI (k / 48 + 1)
      · rw [if_pos c, if_pos c]
        exact Or.inr ⟨k % 48, hp, hf, rfl, rfl⟩
      · rw [if_neg c, if_neg c]
        exact Or.inl ⟨rfl, rfl⟩
end KR
