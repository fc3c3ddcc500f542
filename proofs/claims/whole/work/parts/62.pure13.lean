-- the beginning; the text
theorem kr_zn : ∀ n j, kz_zn n j = if 204 ≤ j ∧ j < 204 + n then (-6) else kz_z1 j
  | 0, j => by rw [if_neg (by omega)]; rfl
  | n + 1, j => by
    rw [kz_zn]
    by_cases e : j = 204 + n
    · rw [e, pk_us, if_pos (by omega)]
    · rw [pk_un e, kr_zn n j]
      by_cases c : 204 ≤ j ∧ j < 204 + n
      · rw [if_pos c, if_pos (by omega)]
      · rw [if_neg c, if_neg (by omega)]
theorem kr_z1 {j : Nat} (h : 5 ≤ j) : kz_z1 j = 0 := by
  unfold kz_z1
  rw [pk_un (by omega), pk_un (by omega), pk_un (by omega), pk_un (by omega), pk_un (by omega)]
theorem kr_zl {j : Nat} (h : j < 204) : kz_zn 336 j = kz_z1 j := by rw [kr_zn, if_neg (by omega)]
theorem kr_zh {j : Nat} (h : 540 ≤ j) : kz_zn 336 j = 0 := by rw [kr_zn, if_neg (by omega), kr_z1 (by omega)]
theorem kr_zm {j : Nat} (h : j < 204) (h5 : 5 ≤ j) : kz_zn 336 j = 0 := by rw [kr_zl h, kr_z1 h5]
theorem kr_ini : kz_R9 kz_S0 (kz_zn 336) := by
  refine ⟨0, by omega, kr_zm (by omega) (by omega), ⟨fun k hk => ?_, fun k hk => ?_, ⟨0, by omega, rfl, kr_zm (by omega) (by omega)⟩, ⟨0, by omega, rfl, kr_zm (by omega) (by omega)⟩, (kr_zm (by omega) (by omega)).symm, (kr_zm (by omega) (by omega)).symm, ?_, ?_, ?_⟩, fun p hp => Or.inl ⟨rfl, kr_zm (by omega) (by omega), 0, by omega, rfl⟩, fun k hk => Or.inl ⟨rfl, by rw [kr_zn, if_pos (by omega)]⟩, fun k hk => ⟨⟨0, by omega, rfl, kr_zh (by omega)⟩, (kr_zh (by omega)).symm, (kr_zh (by omega)).symm, (kr_zh (by omega)).symm⟩, fun p hp t => absurd (show kz_zn 336 (12 + 4 * p) ≤ 0 by rw [kr_zm (by omega) (by omega)]; decide) t⟩
  · rw [kr_zl (by omega)]
    rcases (show k = 0 ∨ k = 1 ∨ k = 2 ∨ k = 3 ∨ k = 4 by omega) with rfl | rfl | rfl | rfl | rfl <;> rfl
  · rw [kr_zl (by omega)]
    rcases (show k = 0 ∨ k = 1 ∨ k = 2 ∨ k = 3 ∨ k = 4 by omega) with rfl | rfl | rfl | rfl | rfl
    · exact ⟨5, by omega, rfl⟩
    · exact ⟨2, by omega, rfl⟩
    · exact ⟨10, by omega, rfl⟩
    · exact ⟨7, by omega, rfl⟩
    · exact ⟨2, by omega, rfl⟩
  · rw [kr_zm (by omega) (by omega)]; decide
  · rw [kr_zm (by omega) (by omega)]; decide
  · rw [kr_zm (by omega) (by omega)]; decide
theorem kr_iniH (R : Nat → kz_S) (z1 : Nat → Int32) : kz_H kz_Y0 R z1 0 := ⟨0, 0, by omega, by omega, rfl, rfl, rfl, fun i hi => absurd hi (by omega)⟩
theorem kr_iniV (Sv : kz_S) (z3 : Nat → Int32) : kz_sv kz_V0 Sv z3 0 := Or.inl ⟨rfl, rfl⟩
/-- the text: as many signs, the same ones -/
def kz_tx (T : kz_S) (z8 : Nat → Int32) (z9 : Int32) : Prop := ∃ n, n ≤ 80 ∧ T 1 0 = nI n ∧ z9 = nI n ∧ (∀ k, k < 80 → ∃ c, c < 128 ∧ T 0 k = nI c) ∧ (∀ k, k < 80 → ∃ c, c < 128 ∧ z8 k = nI c) ∧ ∀ k, k < n → T 0 k = z8 k
theorem kr_iniT : kz_tx kz_T0 (fun _ => 0) 0 := ⟨0, by omega, rfl, rfl, fun k _ => ⟨0, by omega, rfl⟩, fun k _ => ⟨0, by omega, rfl⟩, fun k hk => absurd hk (by omega)⟩
theorem kr_clear {T : kz_S} {z8 : Nat → Int32} {z9 : Int32} (h : kz_tx T z8 z9) (V : kz_S) : X3_clearText_r V T = X4_clearText_r z9 ∧ kz_tx (X3_clearText_s V T) z8 (X4_clearText_c9 z9) := by
  obtain ⟨n, hn, t1, e9, a, b, c⟩ := h
  exact ⟨t1.trans e9.symm, 0, by omega, rfl, rfl, a, b, fun k hk => absurd hk (by omega)⟩
theorem kr_append {T : kz_S} {z8 : Nat → Int32} {z9 : Int32} (h : kz_tx T z8 z9) (V : kz_S) (code : Int32) : X3_append_r V T code = X4_append_r z8 z9 code ∧ kz_tx (X3_append_s V T code) (X4_append_c8 z8 z9 code) (X4_append_c9 z8 z9 code) := by
  obtain ⟨n, hn, t1, e9, a, b, c⟩ := id h
  rw [X3_append_r, X3_append_s, X4_append_r, X4_append_c8, X4_append_c9]
  by_cases g : X3_isWithin_p code 33 126
  · have g' : X4_in_p code 33 126 := g
    rw [if_pos g, if_pos g, if_pos g', if_pos g', if_pos g']
    have h0 : ¬ code < 0 := fun q => g.1 (Int32.lt_trans q (by decide))
    obtain ⟨x, hx, rfl⟩ := nI_of2 (M := 126) (n := 126) (by decide) h0 (Int32.not_lt.mp g.2)
    rw [nI_clamp (n := x) (by omega), e9]
    by_cases f : n = 80
    · subst f
      have f1 : X2_isFull_p T := by
        show ¬ T 1 0 < 80
        rw [t1]; decide
      rw [if_pos f1, if_pos f1, if_pos (by decide), if_pos (by decide), if_pos (by decide)]
      exact ⟨rfl, by rw [← e9]; exact h⟩
    · have hn8 : n < 80 := by omega
      have f1 : ¬ X2_isFull_p T := by
        show ¬ ¬ T 1 0 < 80
        rw [t1]; exact fun q => q (nI_lt (a := n) (b := 80) hn8 (by omega))
      have f2 : ¬ nI n = 80 := fun e => f ((nI_eq (a := n) (b := 80) (by omega) (by omega)).mp e)
      have f3 : ¬ 80 ≤ T 1 0 := by
        rw [t1]; exact nI_ge (a := n) (b := 80) hn8 (by omega)
      rw [if_neg f1, if_neg f1, if_neg f2, if_neg f2, if_neg f2, X2_add_r, X2_add_s, if_neg f3, if_neg f3, t1, nI_clamp (n := n) (by omega), nI_1]
      refine ⟨rfl, n + 1, by omega, rfl, rfl, fun k hk => ?_, fun k hk => ?_, fun k hk => ?_⟩
      · show ∃ c, c < 128 ∧ upd (T 0) n (nI x) k = nI c
        by_cases e : k = n
        · exact ⟨x, by omega, by rw [e, pk_us]⟩
        · rw [pk_un e]; exact a k hk
      · by_cases e : k = n
        · exact ⟨x, by omega, by rw [e, pk_us]⟩
        · rw [pk_un e]; exact b k hk
      · show upd (T 0) n (nI x) k = upd z8 n (nI x) k
        by_cases e : k = n
        · rw [e, pk_us, pk_us]
        · rw [pk_un e, pk_un e]; exact c k (by omega)
  · have g' : ¬ X4_in_p code 33 126 := g
    rw [if_neg g, if_neg g, if_neg g', if_neg g', if_neg g']
    exact ⟨rfl, h⟩
