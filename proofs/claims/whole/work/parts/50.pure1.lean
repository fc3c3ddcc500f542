/-! PURE: the class's shop and the reference's row tell the same -/
def kz_pl (z : Nat → Int32) (S : kz_S) (p : Nat) : Prop := (S 5 p = 0 ∧ z (12 + 4 * p) = 0 ∧ ∃ q, q < 10 ∧ S 6 p = nI q) ∨ ∃ w q, w < 7 ∧ q < 10 ∧ S 5 p = nI (w + 1) ∧ z (12 + 4 * p + 3) = nI (w + 1) ∧ S 6 p = nI q ∧ z (12 + 4 * p) = nI (q + 1) ∧ S 7 p = z (12 + 4 * p + 1) ∧ S 8 p = z (12 + 4 * p + 2)
def kz_lf (D : Nat) (x y : Int32) : Prop := (x = (-1) ∧ y = (-6)) ∨ ∃ n, n ≤ D ∧ x = nI n ∧ y = nI n
def kz_bn (z : Nat → Int32) (S : kz_S) (k : Nat) : Prop := (∃ b, b ≤ 9 ∧ S 10 k = nI b ∧ z (540 + 4 * k) = nI b) ∧ S 11 k = z (540 + 4 * k + 1) ∧ S 12 k = z (540 + 4 * k + 2) ∧ S 13 k = z (540 + 4 * k + 3)
def kz_bd (D : Nat) (z : Nat → Int32) (p : Nat) : Prop := ¬ z (12 + 4 * p) ≤ 0 → (∃ v, v ≤ 2 ∧ z (12 + 4 * p + 1) = nI v) ∧ ∃ c, c ≤ D ∧ z (12 + 4 * p + 2) = nI c
def kz_hd (D : Nat) (S : kz_S) (z : Nat → Int32) : Prop := (∀ k, k < 5 → S 0 k = z k) ∧ (∀ k, k < 5 → ∃ n, n ≤ 50 ∧ z k = nI n) ∧ (∃ d, d ≤ D ∧ S 1 0 = nI d ∧ z 5 = nI d) ∧ (∃ u, u ≤ 3 ∧ S 2 0 = nI u ∧ z 6 = nI u) ∧ S 3 0 = z 7 ∧ S 4 0 = z 10 ∧ kz_sm (S 12) 10 = z 8 ∧ kz_sm (S 13) 10 = z 9 ∧ kz_sm (S 11) 10 = z 11
def kz_RS (D : Nat) (S : kz_S) (z : Nat → Int32) : Prop := kz_hd D S z ∧ (∀ p, p < 48 → kz_pl z S p) ∧ (∀ k, k < 336 → kz_lf D (S 9 k) (z (204 + k))) ∧ (∀ k, k < 10 → kz_bn z S k) ∧ ∀ p, p < 48 → kz_bd D z p
theorem kz_RS.ext {D : Nat} {S : kz_S} {z y : Nat → Int32} (h : kz_RS D S z) (e : ∀ j, j < 580 → y j = z j) : kz_RS D S y := by
  obtain ⟨⟨h1, h2, h3, h4, h5, h6, h7, h8, h9⟩, hp, hl, hb, hg⟩ := h
  refine ⟨⟨fun k hk => (h1 k hk).trans (e k (by omega)).symm, fun k hk => by rw [e k (by omega)]; exact h2 k hk, by rw [e 5 (by omega)]; exact h3, by rw [e 6 (by omega)]; exact h4, by rw [e 7 (by omega)]; exact h5, by rw [e 10 (by omega)]; exact h6, by rw [e 8 (by omega)]; exact h7, by rw [e 9 (by omega)]; exact h8, by rw [e 11 (by omega)]; exact h9⟩, fun p hp9 => ?_, fun k hk => ?_, fun k hk => ?_, fun p hp9 => ?_⟩
  · unfold kz_pl
    rw [e _ (by omega), e _ (by omega), e _ (by omega), e _ (by omega)]
    exact hp p hp9
  · rw [e _ (by omega)]
    exact hl k hk
  · unfold kz_bn
    rw [e _ (by omega), e _ (by omega), e _ (by omega), e _ (by omega)]
    exact hb k hk
  · unfold kz_bd
    rw [e _ (by omega), e _ (by omega), e _ (by omega)]
    exact hg p hp9
theorem kz_bd.mono {D E : Nat} {z : Nat → Int32} {p : Nat} (hd : D ≤ E) (h : kz_bd D z p) : kz_bd E z p := fun t => ⟨(h t).1, by obtain ⟨c, hc, e⟩ := (h t).2; exact ⟨c, by omega, e⟩⟩
theorem kz_lf.mono {D E : Nat} {x y : Int32} (hd : D ≤ E) (h : kz_lf D x y) : kz_lf E x y := h.elim Or.inl fun ⟨n, hn, a, b⟩ => Or.inr ⟨n, by omega, a, b⟩
theorem kz_RS.mono {D E : Nat} {S : kz_S} {z : Nat → Int32} (hd : D ≤ E) (h : kz_RS D S z) : kz_RS E S z := by
  obtain ⟨⟨h1, h2, ⟨d, h3, h3'⟩, h4⟩, hp, hl, hb, hg⟩ := h
  exact ⟨⟨h1, h2, ⟨d, by omega, h3'⟩, h4⟩, hp, fun k hk => (hl k hk).mono hd, hb, fun p hp9 => (hg p hp9).mono hd⟩
theorem kz_RS.J {D : Nat} {S : kz_S} {z : Nat → Int32} (h : kz_RS D S z) : kz_J S := by
  refine ⟨fun j hj => ?_, fun j hj => ?_⟩
  · rcases h.2.1 j hj with ⟨a, -, -⟩ | ⟨w, q, hw, -, a, -⟩
    · exact ⟨0, by omega, a⟩
    · exact ⟨w + 1, by omega, a⟩
  · rcases h.2.1 j hj with ⟨-, -, q, hq, a⟩ | ⟨w, q, hw, hq, -, -, a, -⟩
    · exact ⟨q, hq, a⟩
    · exact ⟨q, hq, a⟩
theorem kz_RS.MP {D : Nat} {S : kz_S} {z : Nat → Int32} (h : kz_RS D S z) : kz_MP z := by
  intro p hp
  rcases h.2.1 p hp with ⟨-, a, -⟩ | ⟨w, q, hw, hq, -, b, -, a, -⟩
  · exact ⟨⟨0, by omega, a⟩, fun c => absurd (show z (12 + 4 * p) ≤ 0 by rw [a]; decide) c⟩
  · exact ⟨⟨q + 1, by omega, a⟩, fun _ => ⟨w, hw, b⟩⟩
theorem kz_RS.dy {S : kz_S} {z : Nat → Int32} (h : kz_RS 9999 S z) : kz_dy S := by
  obtain ⟨d, hd, a, -⟩ := h.1.2.2.1
  exact ⟨d, hd, a⟩
theorem kz_RS.dz {S : kz_S} {z : Nat → Int32} (h : kz_RS 9999 S z) : kz_dz z := by
  obtain ⟨d, hd, -, a⟩ := h.1.2.2.1
  exact ⟨d, hd, a⟩
-- codes
def kz_ixB (c : Nat) : Bool := decide ((X3_indexOfCode_r (nI c) = (-1) ∧ X4_indexOf_r (nI c) = (-6)) ∨ (X3_indexOfCode_r (nI c) = X4_indexOf_r (nI c) ∧ 0 ≤ X3_indexOfCode_r (nI c) ∧ X3_indexOfCode_r (nI c) < 336))
def kz_alB (f : Nat → Bool) : Nat → Bool
  | 0 => true
  | n + 1 => f n && kz_alB f n
theorem kz_alB_of {f : Nat → Bool} : ∀ n, kz_alB f n = true → ∀ j, j < n → f j = true
  | 0, _, j, h => absurd h (by omega)
  | n + 1, h, j, hj => by
    rw [kz_alB, Bool.and_eq_true] at h
    by_cases e : j = n
    · rw [e]; exact h.1
    · exact kz_alB_of n h.2 j (by omega)
