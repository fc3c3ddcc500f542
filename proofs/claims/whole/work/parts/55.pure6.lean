-- a day begins alike
section KR
variable {D : Nat} {S T V : kz_S} {z y : Nat → Int32}
theorem kr_z5 (h : kz_RS D S z) : ∃ d, d ≤ D ∧ z 5 = nI d := by
  obtain ⟨d, hd, -, e⟩ := h.1.2.2.1
  exact ⟨d, hd, e⟩
theorem kr_cour1 (h : kz_RS D S z) (h3 : kz_rem (z 5) 3 = 0) : ∀ n, n ≤ 10 → kz_RS D (X1_cour S n) (X4_cour z n)
  | 0, _ => h
  | n + 1, hn => by
    have ih := kr_cour1 h h3 n (by omega)
    have e5 : X4_cour z n 5 = z 5 := kz_cour5 n
    have e10 : X1_cour S n 10 n = X4_cour z n (540 + 4 * n + 0) := by
      obtain ⟨⟨b, hb, b1, b2⟩, -⟩ := ih.2.2.2.1 n (by omega)
      rw [b1]; exact b2.symm
    rw [X1_cour, X4_cour, X1_cstep, X4_cstep, e5, if_pos h3, e10, ih.1.1 4 (by omega)]
    by_cases c : X4_cour z n (540 + 4 * n + 0) < X4_cour z n 4
    · rw [if_pos c, if_pos c]; exact ih
    · rw [if_neg c, if_neg c]; exact (kr_takes ih (by omega) 4).1
theorem kr_cour0 (h3 : ¬ kz_rem (z 5) 3 = 0) : ∀ n, X4_cour z n = z
  | 0 => rfl
  | n + 1 => by rw [X4_cour, kr_cour0 h3 n, X4_cstep, if_neg h3]
theorem kr_goes (h : kz_RS D S z) {i : Nat} (hi : i < 48) : X1_goes_p S i ↔ X4_goes_p z i := by
  show ((¬ S 5 i = 0 ∧ ¬ S 1 0 - S 8 i ≤ S 0 3) ∧ ¬ 9 ≤ S 10 (S 6 i).toNatClampNeg) ↔ (¬ z (12 + 4 * i) ≤ 0 ∧ ¬ z 5 - z (12 + 4 * i + 2) ≤ z 3 ∧ ¬ 9 ≤ z (540 + 4 * (z (12 + 4 * i) - 1).toNatClampNeg))
  rcases h.2.1 i hi with ⟨a, b, -⟩ | ⟨w, q, hw, hq, a5, a3, a6, a0, a7, a8⟩
  · rw [a, b]
    exact ⟨fun x => absurd rfl x.1.1, fun x => absurd (by decide) x.1⟩
  · obtain ⟨⟨b, hb, b1, b2⟩, -⟩ := h.2.2.2.1 q hq
    rw [kr_day h, a8, h.1.1 3 (by omega), a6, a0, nI_pred, nI_clamp (by omega), b1, b2, a5]
    exact ⟨fun x => ⟨nI_nle (by omega) (by omega), x.1.2, x.2⟩, fun x => ⟨⟨nI_ne0 (by omega) (by omega), x.2.1⟩, x.2.2⟩⟩
theorem kr_back (h : kz_RS D S z) {i : Nat} (hi : i < 48) (ht : ¬ X1_isFree_p S i) (h9 : ¬ 9 ≤ S 10 (S 6 i).toNatClampNeg) : kz_RS D (X1_leave_s (va_up S 10 (upd (S 10) (S 6 i).toNatClampNeg (S 10 (S 6 i).toNatClampNeg + 1))) i) (X4_goesBack_c0 z i) := by
  obtain ⟨w, q, hw, hq, a5, a3, a6, a0, a7, a8⟩ := kr_tkn h hi ht
  have e1 : (z (12 + 4 * i + 0) - 1).toNatClampNeg = q := by
    rw [show z (12 + 4 * i + 0) = nI (q + 1) from a0, nI_pred, nI_clamp (by omega)]
  have e2 : (S 6 i).toNatClampNeg = q := by rw [a6, nI_clamp (by omega)]
  rw [X4_goesBack_c0, e1]
  rw [e2] at h9 ⊢
  exact kr_leave (kr_bin h hq h9) hi ht
theorem kr_ret (h : kz_RS D S z) : ∀ n, n ≤ 48 → kz_RS D (X1_ret S n).1 (X4_ret z n).1 ∧ (X1_ret S n).2 = (X4_ret z n).2 ∧ ∃ k, k ≤ n ∧ (X4_ret z n).2 = nI k
  | 0, _ => ⟨h, rfl, 0, Nat.le_refl _, rfl⟩
  | n + 1, hn => by
    obtain ⟨ih, e, k, hk, ek⟩ := kr_ret h n (by omega)
    rw [X1_ret, X4_ret, X1_rstep, X4_rstep]
    by_cases c : X1_goes_p (X1_ret S n).1 n
    · rw [if_pos c, if_pos ((kr_goes ih (by omega)).mp c)]
      refine ⟨kr_back ih (by omega) c.1.1 c.2, ?_, k + 1, by omega, ?_⟩
      · show (X1_ret S n).2 + 1 = (X4_ret z n).2 + 1
        rw [e]
      · show (X4_ret z n).2 + 1 = nI (k + 1)
        rw [ek, nI_1]
    · rw [if_neg c, if_neg (fun q => c ((kr_goes ih (by omega)).mpr q))]
      exact ⟨ih, e, k, by omega, ek⟩
theorem kr_bd (h : kz_RS D S z) : kz_RS (D + 1) (X1_beginDay_s S) (X4_begins_c0 z) ∧ X1_beginDay_r S = X4_begins_r z ∧ ∃ k, k ≤ 48 ∧ X4_begins_r z = nI k := by
  have h1 := kr_begin1 h
  have e5 : X4_begin1 z 5 = S 1 0 + 1 := (kr_day h1).symm
  rw [X1_beginDay_s, X1_beginDay_r, X4_begins_c0, X4_begins_r]
  by_cases c : kz_rem (S 1 0 + 1) 3 = 0
  · rw [if_pos c, if_pos c]
    exact kr_ret (kr_cour1 h1 (by rw [e5]; exact c) 10 (Nat.le_refl _)) 48 (Nat.le_refl _)
  · rw [if_neg c, if_neg c, kr_cour0 (by rw [e5]; exact c)]
    exact kr_ret h1 48 (Nat.le_refl _)
theorem kr_bd5 (h : kz_RS D S z) {d : Nat} (e : z 5 = nI d) : X4_begins_c0 z 5 = nI (d + 1) := by
  rw [kz_begins5 h.MP, e, nI_1]
theorem kr_days (h : kz_RS D S z) {d : Nat} (e : z 5 = nI d) : ∀ n, kz_RS (D + n) (X1_days S n) (X4_days z n) ∧ X4_days z n 5 = nI (d + n)
  | 0 => ⟨h, e⟩
  | n + 1 => by
    obtain ⟨ih, e1⟩ := kr_days h e n
    exact ⟨(kr_bd ih).1, kr_bd5 ih e1⟩
theorem kr_psn (h : kz_RS D S z) {d : Nat} (e : z 5 = nI d) : ∀ n, kz_RS (D + n) (X3_psn S n).1 (X4_psn z n).1 ∧ (X4_psn z n).1 5 = nI (d + n) ∧ (X3_psn S n).2 = (X4_psn z n).2 ∧ ∃ k, k ≤ 48 * n ∧ (X4_psn z n).2 = nI k
  | 0 => ⟨h, e, rfl, 0, Nat.le_refl _, rfl⟩
  | n + 1 => by
    obtain ⟨ih, e1, e2, k, hk, ek⟩ := kr_psn h e n
    obtain ⟨b1, b2, j, hj, ej⟩ := kr_bd ih
    have b5 : X4_begins_c0 (X4_psn z n).1 5 = nI (d + n + 1) := kr_bd5 ih e1
    have a1 : (X3_psn S (n + 1)).1 = X1_beginDay_s (X3_psn S n).1 := by rw [X3_psn]
    have a2 : (X3_psn S (n + 1)).2 = (X3_psn S n).2 + X1_beginDay_r (X3_psn S n).1 := by rw [X3_psn]
    have a3 : (X4_psn z (n + 1)).1 = X4_begins_c0 (X4_psn z n).1 := by rw [X4_psn]
    have a4 : (X4_psn z (n + 1)).2 = (X4_psn z n).2 + X4_begins_r (X4_psn z n).1 := by rw [X4_psn]
    rw [a1, a2, a3, a4, e2, b2, ek, ej, nI_add]
    exact ⟨b1, b5, rfl, k + j, by omega, rfl⟩
end KR
