/-! THE LAW: what holds between its calls, and that each call keeps it and answers alike -/
def kl_I (V S Sv Y : kz_S) (R : Nat → kz_S) (T M : kz_S) : Prop := kz_R9 S (M 0) ∧ kz_H Y R (M 1) (M 2 0) ∧ kz_sv V Sv (M 3) (M 4 0) ∧ V 6 0 = M 6 0 ∧ V 7 0 = M 7 0 ∧ kz_tx T (M 8) (M 9 0)
section KL
variable {V S Sv Y : kz_S} {R : Nat → kz_S} {T M : kz_S}
theorem kl_D (I : kl_I V S Sv Y R T M) : ∃ D, D < 2 ^ 20 ∧ kz_RS D S (M 0) := by
  obtain ⟨⟨D, hD, -, h⟩, -⟩ := I
  exact ⟨D, by omega, h⟩
theorem kl_9 (I : kl_I V S Sv Y R T M) : kz_RS 9999 S (M 0) := by
  obtain ⟨⟨D, hD, -, h⟩, -⟩ := I
  exact h.mono hD
theorem kl_J (I : kl_I V S Sv Y R T M) : kz_J S := (kl_9 I).J
theorem kl_dy (I : kl_I V S Sv Y R T M) : kz_dy S := (kl_9 I).dy
theorem kl_t (I : kl_I V S Sv Y R T M) : ∃ d, d < 2 ^ 30 ∧ S 1 0 = nI d := kz_dyT (kl_dy I)
theorem kl_MP (I : kl_I V S Sv Y R T M) : kz_MP (M 0) := (kl_9 I).MP
theorem kl_dz (I : kl_I V S Sv Y R T M) : kz_dz (M 0) := (kl_9 I).dz
theorem kl_zt (I : kl_I V S Sv Y R T M) : ∃ d, d < 2 ^ 30 ∧ M 0 5 = nI d := kz_dzT (kl_dz I)
theorem kl_M (I : kl_I V S Sv Y R T M) : kz_M (M 0) := kz_M_of (kl_MP I) (kl_dz I)
theorem kl_O (I : kl_I V S Sv Y R T M) : ∃ o, o < 6 ∧ Y 1 0 = nI o := by
  obtain ⟨-, ⟨o, c, ho, hc, e1, e2, e3, -⟩, -⟩ := I
  exact ⟨o, ho, e1⟩
theorem kl_Cn (I : kl_I V S Sv Y R T M) : ∃ c, c ≤ 5 ∧ Y 2 0 = nI c := by
  obtain ⟨-, ⟨o, c, ho, hc, e1, e2, e3, -⟩, -⟩ := I
  exact ⟨c, hc, e2⟩
theorem kl_pm (I : kl_I V S Sv Y R T M) : ∃ n, n ≤ 5 ∧ M 2 0 = nI n := by
  obtain ⟨-, ⟨o, c, ho, hc, e1, e2, e3, -⟩, -⟩ := I
  exact ⟨c, hc, e3⟩
theorem kl_L (I : kl_I V S Sv Y R T M) : ∃ n, n ≤ 80 ∧ T 1 0 = nI n := by
  obtain ⟨-, -, -, -, -, n, hn, t1, e9, a, b, c⟩ := I
  exact ⟨n, hn, t1⟩
theorem kl_ty (I : kl_I V S Sv Y R T M) : ∃ n, n ≤ 80 ∧ M 9 0 = nI n := by
  obtain ⟨-, -, -, -, -, n, hn, t1, e9, a, b, c⟩ := I
  exact ⟨n, hn, e9⟩
theorem kl_ch (I : kl_I V S Sv Y R T M) : ∀ k, k < 80 → ∃ c, c < 128 ∧ T 0 k = nI c := by
  obtain ⟨-, -, -, -, -, n, hn, t1, e9, a, b, c⟩ := I
  exact a
theorem kl_sv5 {V' : kz_S} {z3 : Nat → Int32} {z4 : Int32} (h : kz_sv V Sv z3 z4) (e : V' 5 = V 5) : kz_sv V' Sv z3 z4 := by
  unfold kz_sv
  rw [e]
  exact h
/-- a change that is refused, or recorded -/
theorem kl_rec {r : Int32} {z z1 w1 : Nat → Int32} {z2 w2 : Int32} (hH : kz_H Y R z1 z2) (hR : kz_R9 S z) (h : (X3_isError_p r ∧ w1 = z1 ∧ w2 = z2) ∨ (¬ X3_isError_p r ∧ w1 = X4_record_c1 z z1 z2 ∧ w2 = X4_record_c2 z z1 z2)) : kz_H (X3_recorded_s V Y r) (X0_prepare_R Y R S) w1 w2 := by
  rw [X3_recorded_s]
  rcases h with ⟨e, a, b⟩ | ⟨e, a, b⟩
  · rw [if_pos e, a, b]
    exact kr_prep hH S
  · rw [if_neg e, a, b]
    exact kr_rec hH hR
theorem kl_m_0_1_2 {f0 : Nat → Int32} {f1 : Nat → Int32} {x2 : Int32} (h1 : kz_R9 S f0) (h2 : kz_H Y R f1 x2) (h3 : kz_sv V Sv (M 3) (M 4 0)) (h6 : V 6 0 = (M 6 0)) (h7 : V 7 0 = (M 7 0)) (h8 : kz_tx T (M 8) (M 9 0)) : kl_I V S Sv Y R T (va_up (va_up (va_up M 0 f0) 1 f1) 2 (fun _ => x2)) := ⟨h1, h2, h3, h6, h7, h8⟩
theorem kl_m_0_1_2_6_7 {f0 : Nat → Int32} {f1 : Nat → Int32} {x2 : Int32} {x6 : Int32} {x7 : Int32} (h1 : kz_R9 S f0) (h2 : kz_H Y R f1 x2) (h3 : kz_sv V Sv (M 3) (M 4 0)) (h6 : V 6 0 = x6) (h7 : V 7 0 = x7) (h8 : kz_tx T (M 8) (M 9 0)) : kl_I V S Sv Y R T (va_up (va_up (va_up (va_up (va_up M 0 f0) 1 f1) 2 (fun _ => x2)) 6 (fun _ => x6)) 7 (fun _ => x7)) := ⟨h1, h2, h3, h6, h7, h8⟩
theorem kl_m_0_5 {f0 : Nat → Int32} {f5 : Nat → Int32} (h1 : kz_R9 S f0) (h2 : kz_H Y R (M 1) (M 2 0)) (h3 : kz_sv V Sv (M 3) (M 4 0)) (h6 : V 6 0 = (M 6 0)) (h7 : V 7 0 = (M 7 0)) (h8 : kz_tx T (M 8) (M 9 0)) : kl_I V S Sv Y R T (va_up (va_up M 0 f0) 5 f5) := ⟨h1, h2, h3, h6, h7, h8⟩
theorem kl_m_8_9 {f8 : Nat → Int32} {x9 : Int32} (h1 : kz_R9 S (M 0)) (h2 : kz_H Y R (M 1) (M 2 0)) (h3 : kz_sv V Sv (M 3) (M 4 0)) (h6 : V 6 0 = (M 6 0)) (h7 : V 7 0 = (M 7 0)) (h8 : kz_tx T f8 x9) : kl_I V S Sv Y R T (va_up (va_up M 8 f8) 9 (fun _ => x9)) := ⟨h1, h2, h3, h6, h7, h8⟩
theorem kl_m_9 {x9 : Int32} (h1 : kz_R9 S (M 0)) (h2 : kz_H Y R (M 1) (M 2 0)) (h3 : kz_sv V Sv (M 3) (M 4 0)) (h6 : V 6 0 = (M 6 0)) (h7 : V 7 0 = (M 7 0)) (h8 : kz_tx T (M 8) x9) : kl_I V S Sv Y R T (va_up M 9 (fun _ => x9)) := ⟨h1, h2, h3, h6, h7, h8⟩
theorem kl_m_10_11_12_13 {f10 : Nat → Int32} {x11 : Int32} {x12 : Int32} {x13 : Int32} (h1 : kz_R9 S (M 0)) (h2 : kz_H Y R (M 1) (M 2 0)) (h3 : kz_sv V Sv (M 3) (M 4 0)) (h6 : V 6 0 = (M 6 0)) (h7 : V 7 0 = (M 7 0)) (h8 : kz_tx T (M 8) (M 9 0)) : kl_I V S Sv Y R T (va_up (va_up (va_up (va_up M 10 f10) 11 (fun _ => x11)) 12 (fun _ => x12)) 13 (fun _ => x13)) := ⟨h1, h2, h3, h6, h7, h8⟩
theorem kl_m_0_1_2_6_7_9_10_11_12_13 {f0 : Nat → Int32} {f1 : Nat → Int32} {x2 : Int32} {x6 : Int32} {x7 : Int32} {x9 : Int32} {f10 : Nat → Int32} {x11 : Int32} {x12 : Int32} {x13 : Int32} (h1 : kz_R9 S f0) (h2 : kz_H Y R f1 x2) (h3 : kz_sv V Sv (M 3) (M 4 0)) (h6 : V 6 0 = x6) (h7 : V 7 0 = x7) (h8 : kz_tx T (M 8) x9) : kl_I V S Sv Y R T (va_up (va_up (va_up (va_up (va_up (va_up (va_up (va_up (va_up (va_up M 0 f0) 1 f1) 2 (fun _ => x2)) 6 (fun _ => x6)) 7 (fun _ => x7)) 9 (fun _ => x9)) 10 f10) 11 (fun _ => x11)) 12 (fun _ => x12)) 13 (fun _ => x13)) := ⟨h1, h2, h3, h6, h7, h8⟩
theorem kl_m_0_2 {f0 : Nat → Int32} {x2 : Int32} (h1 : kz_R9 S f0) (h2 : kz_H Y R (M 1) x2) (h3 : kz_sv V Sv (M 3) (M 4 0)) (h6 : V 6 0 = (M 6 0)) (h7 : V 7 0 = (M 7 0)) (h8 : kz_tx T (M 8) (M 9 0)) : kl_I V S Sv Y R T (va_up (va_up M 0 f0) 2 (fun _ => x2)) := ⟨h1, h2, h3, h6, h7, h8⟩
theorem kl_m_3_4 {f3 : Nat → Int32} {x4 : Int32} (h1 : kz_R9 S (M 0)) (h2 : kz_H Y R (M 1) (M 2 0)) (h3 : kz_sv V Sv f3 x4) (h6 : V 6 0 = (M 6 0)) (h7 : V 7 0 = (M 7 0)) (h8 : kz_tx T (M 8) (M 9 0)) : kl_I V S Sv Y R T (va_up (va_up M 3 f3) 4 (fun _ => x4)) := ⟨h1, h2, h3, h6, h7, h8⟩
theorem kl_p_set (I : kl_I V S Sv Y R T M) (k : Int32) (v : Int32) : X3_set_r V S Y R k v = X4_set_r (M 0) (M 1) (M 2 0) k v ∧ kl_I V (X3_set_s1 V S Y R k v) Sv (X3_set_s2 V S Y R k v) (X3_set_s3 V S Y R k v) T (va_up (va_up (va_up M 0 (X4_set_c0 (M 0) (M 1) (M 2 0) k v)) 1 (X4_set_c1 (M 0) (M 1) (M 2 0) k v)) 2 (fun _ => (X4_set_c2 (M 0) (M 1) (M 2 0) k v))) := by
  obtain ⟨hR, hH, hs, v6, v7, ht⟩ := I
  obtain ⟨h1, h2, h3⟩ := kr_set (V := V) hR (M 1) (M 2 0) k v
  exact ⟨h1, kl_m_0_1_2 h2 (kl_rec hH hR h3) hs v6 v7 ht⟩
theorem kl_p_setting (I : kl_I V S Sv Y R T M) (k : Int32) : X3_setting_r V S k = X4_setting_r (M 0) k := kr_setting (kl_9 I) k
theorem kl_p_come (I : kl_I V S Sv Y R T M) (q : Int32) (v : Int32) : X3_come_r V S Y R q v = X4_come_r (M 0) (M 1) (M 2 0) (M 6 0) (M 7 0) q v ∧ kl_I (X3_come_s0 V S Y R q v) (X3_come_s1 V S Y R q v) Sv (X3_come_s2 V S Y R q v) (X3_come_s3 V S Y R q v) T (va_up (va_up (va_up (va_up (va_up M 0 (X4_come_c0 (M 0) (M 1) (M 2 0) (M 6 0) (M 7 0) q v)) 1 (X4_come_c1 (M 0) (M 1) (M 2 0) (M 6 0) (M 7 0) q v)) 2 (fun _ => (X4_come_c2 (M 0) (M 1) (M 2 0) (M 6 0) (M 7 0) q v))) 6 (fun _ => (X4_come_c6 (M 0) (M 1) (M 2 0) (M 6 0) (M 7 0) q v))) 7 (fun _ => (X4_come_c7 (M 0) (M 1) (M 2 0) (M 6 0) (M 7 0) q v))) := by
  obtain ⟨hR, hH, hs, v6, v7, ht⟩ := I
  have op := kr_come hR v6 v7 q v
  obtain ⟨h1, h2, h3⟩ := kr_opH op hH hR
  refine ⟨h1, kl_m_0_1_2_6_7 h2 h3 (kl_sv5 hs kr_v5come) ?_ ?_ ht⟩
  · rw [X4_come_c6, ite_self]
    exact op.1
  · rw [X4_come_c7, ite_self]
    exact op.2.1
theorem kl_p_fetch (I : kl_I V S Sv Y R T M) (q : Int32) : X3_fetch_r V S Y R q = X4_fetch_r (M 0) (M 1) (M 2 0) (M 6 0) (M 7 0) q ∧ kl_I (X3_fetch_s0 V S Y R q) (X3_fetch_s1 V S Y R q) Sv (X3_fetch_s2 V S Y R q) (X3_fetch_s3 V S Y R q) T (va_up (va_up (va_up (va_up (va_up M 0 (X4_fetch_c0 (M 0) (M 1) (M 2 0) (M 6 0) (M 7 0) q)) 1 (X4_fetch_c1 (M 0) (M 1) (M 2 0) (M 6 0) (M 7 0) q)) 2 (fun _ => (X4_fetch_c2 (M 0) (M 1) (M 2 0) (M 6 0) (M 7 0) q))) 6 (fun _ => (X4_fetch_c6 (M 0) (M 1) (M 2 0) (M 6 0) (M 7 0) q))) 7 (fun _ => (X4_fetch_c7 (M 0) (M 1) (M 2 0) (M 6 0) (M 7 0) q))) := by
  obtain ⟨hR, hH, hs, v6, v7, ht⟩ := I
  have op := kr_fetch hR v6 v7 q
  obtain ⟨h1, h2, h3⟩ := kr_opH op hH hR
  refine ⟨h1, kl_m_0_1_2_6_7 h2 h3 (kl_sv5 hs kr_v5fetch) ?_ ?_ ht⟩
  · rw [X4_fetch_c6, ite_self]
    exact op.1
  · rw [X4_fetch_c7, ite_self]
    exact op.2.1
theorem kl_p_refuse (I : kl_I V S Sv Y R T M) (q : Int32) : X3_refuse_r V S Y R q = X4_refuse_r (M 0) (M 1) (M 2 0) (M 6 0) (M 7 0) q ∧ kl_I (X3_refuse_s0 V S Y R q) (X3_refuse_s1 V S Y R q) Sv (X3_refuse_s2 V S Y R q) (X3_refuse_s3 V S Y R q) T (va_up (va_up (va_up (va_up (va_up M 0 (X4_refuse_c0 (M 0) (M 1) (M 2 0) (M 6 0) (M 7 0) q)) 1 (X4_refuse_c1 (M 0) (M 1) (M 2 0) (M 6 0) (M 7 0) q)) 2 (fun _ => (X4_refuse_c2 (M 0) (M 1) (M 2 0) (M 6 0) (M 7 0) q))) 6 (fun _ => (X4_refuse_c6 (M 0) (M 1) (M 2 0) (M 6 0) (M 7 0) q))) 7 (fun _ => (X4_refuse_c7 (M 0) (M 1) (M 2 0) (M 6 0) (M 7 0) q))) := by
  obtain ⟨hR, hH, hs, v6, v7, ht⟩ := I
  have op := kr_refuse hR v6 v7 q
  obtain ⟨h1, h2, h3⟩ := kr_opH op hH hR
  refine ⟨h1, kl_m_0_1_2_6_7 h2 h3 (kl_sv5 hs kr_v5refuse) ?_ ?_ ht⟩
  · rw [X4_refuse_c6, ite_self]
    exact op.1
  · rw [X4_refuse_c7, ite_self]
    exact op.2.1
theorem kl_p_move (I : kl_I V S Sv Y R T M) (q : Int32) (v : Int32) : X3_move_r V S Y R q v = X4_move_r (M 0) (M 1) (M 2 0) (M 6 0) (M 7 0) q v ∧ kl_I (X3_move_s0 V S Y R q v) (X3_move_s1 V S Y R q v) Sv (X3_move_s2 V S Y R q v) (X3_move_s3 V S Y R q v) T (va_up (va_up (va_up (va_up (va_up M 0 (X4_move_c0 (M 0) (M 1) (M 2 0) (M 6 0) (M 7 0) q v)) 1 (X4_move_c1 (M 0) (M 1) (M 2 0) (M 6 0) (M 7 0) q v)) 2 (fun _ => (X4_move_c2 (M 0) (M 1) (M 2 0) (M 6 0) (M 7 0) q v))) 6 (fun _ => (X4_move_c6 (M 0) (M 1) (M 2 0) (M 6 0) (M 7 0) q v))) 7 (fun _ => (X4_move_c7 (M 0) (M 1) (M 2 0) (M 6 0) (M 7 0) q v))) := by
  obtain ⟨hR, hH, hs, v6, v7, ht⟩ := I
  have op := kr_move hR v6 v7 q v
  obtain ⟨h1, h2, h3⟩ := kr_opH op hH hR
  refine ⟨h1, kl_m_0_1_2_6_7 h2 h3 (kl_sv5 hs kr_v5move) ?_ ?_ ht⟩
  · rw [X4_move_c6, ite_self]
    exact op.1
  · rw [X4_move_c7, ite_self]
    exact op.2.1
theorem kl_p_pass (I : kl_I V S Sv Y R T M) (q : Int32) : X3_pass_r V S Y R q = X4_pass_r (M 0) (M 1) (M 2 0) q ∧ kl_I V (X3_pass_s1 V S Y R q) Sv (X3_pass_s2 V S Y R q) (X3_pass_s3 V S Y R q) T (va_up (va_up (va_up M 0 (X4_pass_c0 (M 0) (M 1) (M 2 0) q)) 1 (X4_pass_c1 (M 0) (M 1) (M 2 0) q)) 2 (fun _ => (X4_pass_c2 (M 0) (M 1) (M 2 0) q))) := by
  obtain ⟨hR, hH, hs, v6, v7, ht⟩ := I
  have op := kr_pass hR v6 v7 q
  obtain ⟨h1, h2, h3⟩ := kr_opH op hH hR
  exact ⟨h1, kl_m_0_1_2 h2 h3 hs v6 v7 ht⟩
theorem kl_p_call (I : kl_I V S Sv Y R T M) (q : Int32) : X3_call_r V S Y R q = X4_call_r (M 0) (M 1) (M 2 0) q ∧ kl_I V (X3_call_s1 V S Y R q) Sv (X3_call_s2 V S Y R q) (X3_call_s3 V S Y R q) T (va_up (va_up (va_up M 0 (X4_call_c0 (M 0) (M 1) (M 2 0) q)) 1 (X4_call_c1 (M 0) (M 1) (M 2 0) q)) 2 (fun _ => (X4_call_c2 (M 0) (M 1) (M 2 0) q))) := by
  obtain ⟨hR, hH, hs, v6, v7, ht⟩ := I
  obtain ⟨h1, h2, h3⟩ := kr_call (V := V) hR (M 1) (M 2 0) q
  exact ⟨h1, kl_m_0_1_2 h2 (kl_rec hH hR h3) hs v6 v7 ht⟩
theorem kl_p_day (I : kl_I V S Sv Y R T M) : X3_day_r V S = X4_day_r (M 0) := kr_day (kl_9 I)
theorem kl_p_parcel (I : kl_I V S Sv Y R T M) (q : Int32) (v : Int32) : X3_parcel_r V S q v = X4_parcel_r (M 0) q v := kr_parcel (kl_9 I) q v
theorem kl_p_codeAt (I : kl_I V S Sv Y R T M) (q : Int32) (v : Int32) : X3_codeAt_r V S q v = X4_codeAt_r (M 0) q v := kr_codeAt (kl_9 I) q v
theorem kl_p_shelf (I : kl_I V S Sv Y R T M) (q : Int32) (v : Int32) : X3_shelf_r V S q v = X4_shelf_r (M 0) q v := kr_shelf (by omega) (kl_9 I) q v
theorem kl_p_sender (I : kl_I V S Sv Y R T M) (q : Int32) (v : Int32) : X3_sender_r V S q v = X4_sender_r (M 0) q v := kr_sender (kl_9 I) q v
theorem kl_p_total (I : kl_I V S Sv Y R T M) (q : Int32) : X3_total_r V S q = X4_total_r (M 0) q := kr_total (kl_9 I) q
theorem kl_p_refusal (I : kl_I V S Sv Y R T M) (q : Int32) : X3_refusal_r V q = X4_refusal_r (M 6 0) (M 7 0) q := by
  rw [X3_refusal_r, X4_refusal_r, I.2.2.2.1, I.2.2.2.2.1]
theorem kl_p_isCode (I : kl_I V S Sv Y R T M) (q : Int32) : X3_isCode_r V q = X4_isCode_r  q := kr_isCode q
theorem kl_p_codeOf (I : kl_I V S Sv Y R T M) (q : Int32) (v : Int32) (w : Int32) : X3_codeOf_r V q v w = X4_codeOf_r  q v w := kr_codeOf q v w
theorem kl_p_restsUntil (I : kl_I V S Sv Y R T M) (q : Int32) : X3_restsUntil_r V S q = X4_restsUntil_r (M 0) q := kr_restsUntil (by omega) (kl_9 I) q
theorem kl_p_nextCode (I : kl_I V S Sv Y R T M) (q : Int32) : X3_nextCode_r V S q = X4_nextCode_r (M 0) q := kr_nextCode (by omega) (kl_9 I) q
theorem kl_p_feeIn (I : kl_I V S Sv Y R T M) (q : Int32) (v : Int32) : X3_feeIn_r V S q v = X4_feeIn_r (M 0) q v := kr_feeIn (kl_9 I) q v
theorem kl_p_goesIn (I : kl_I V S Sv Y R T M) (q : Int32) : X3_goesIn_r S q = X4_goesIn_r (M 0) (M 5) q ∧ kl_I V S Sv Y R T (va_up (va_up M 0 (X4_goesIn_c0 (M 0) (M 5) q)) 5 (X4_goesIn_c5 (M 0) (M 5) q)) := by
  obtain ⟨hR, hH, hs, v6, v7, ht⟩ := I
  obtain ⟨h1, h2⟩ := kr_goesIn hR (M 5) q
  exact ⟨h1, kl_m_0_5 h2 hH hs v6 v7 ht⟩
theorem kl_p_chargesIn (I : kl_I V S Sv Y R T M) (q : Int32) : X3_chargesIn_r S q = X4_chargesIn_r (M 0) (M 5) q ∧ kl_I V S Sv Y R T (va_up (va_up M 0 (X4_chargesIn_c0 (M 0) (M 5) q)) 5 (X4_chargesIn_c5 (M 0) (M 5) q)) := by
  obtain ⟨hR, hH, hs, v6, v7, ht⟩ := I
  obtain ⟨h1, h2⟩ := kr_chargesIn hR (M 5) q
  exact ⟨h1, kl_m_0_5 h2 hH hs v6 v7 ht⟩
theorem kl_p_append (I : kl_I V S Sv Y R T M) (q : Int32) : X3_append_r V T q = X4_append_r (M 8) (M 9 0) q ∧ kl_I V S Sv Y R (X3_append_s V T q) (va_up (va_up M 8 (X4_append_c8 (M 8) (M 9 0) q)) 9 (fun _ => (X4_append_c9 (M 8) (M 9 0) q))) := by
  obtain ⟨hR, hH, hs, v6, v7, ht⟩ := I
  obtain ⟨h1, h2⟩ := kr_append ht V q
  exact ⟨h1, kl_m_8_9 hR hH hs v6 v7 h2⟩
theorem kl_p_clearText (I : kl_I V S Sv Y R T M) : X3_clearText_r V T = X4_clearText_r (M 9 0) ∧ kl_I V S Sv Y R (X3_clearText_s V T) (va_up M 9 (fun _ => (X4_clearText_c9 (M 9 0)))) := by
  obtain ⟨hR, hH, hs, v6, v7, ht⟩ := I
  obtain ⟨h1, h2⟩ := kr_clear ht V
  exact ⟨h1, kl_m_9 hR hH hs v6 v7 h2⟩
theorem kl_p_errorPosition (I : kl_I V S Sv Y R T M) : X3_errorPosition_r V T = X4_errorPosition_r (M 8) (M 9 0) (M 10) ∧ kl_I V S Sv Y R T (va_up (va_up (va_up (va_up M 10 (X4_errorPosition_c10 (M 8) (M 9 0) (M 10))) 11 (fun _ => (X4_errorPosition_c11 (M 8) (M 9 0) (M 10)))) 12 (fun _ => (X4_errorPosition_c12 (M 8) (M 9 0) (M 10)))) 13 (fun _ => (X4_errorPosition_c13 (M 8) (M 9 0) (M 10)))) := by
  obtain ⟨hR, hH, hs, v6, v7, ht⟩ := I
  exact ⟨kr_err ht (M 10), kl_m_10_11_12_13 hR hH hs v6 v7 ht⟩
theorem kl_p_execute (I : kl_I V S Sv Y R T M) : X3_execute_r V S T = X4_execute_r (M 0) (M 1) (M 2 0) (M 6 0) (M 7 0) (M 8) (M 9 0) (M 10) ∧ kl_I (X3_execute_V V S T) (X3_execute_S V S T) Sv (X3_execute_Y V S Y T) (X3_execute_R S Y R T) (X3_execute_T T) (va_up (va_up (va_up (va_up (va_up (va_up (va_up (va_up (va_up (va_up M 0 (X4_execute_c0 (M 0) (M 1) (M 2 0) (M 6 0) (M 7 0) (M 8) (M 9 0) (M 10))) 1 (X4_execute_c1 (M 0) (M 1) (M 2 0) (M 6 0) (M 7 0) (M 8) (M 9 0) (M 10))) 2 (fun _ => (X4_execute_c2 (M 0) (M 1) (M 2 0) (M 6 0) (M 7 0) (M 8) (M 9 0) (M 10)))) 6 (fun _ => (X4_execute_c6 (M 0) (M 1) (M 2 0) (M 6 0) (M 7 0) (M 8) (M 9 0) (M 10)))) 7 (fun _ => (X4_execute_c7 (M 0) (M 1) (M 2 0) (M 6 0) (M 7 0) (M 8) (M 9 0) (M 10)))) 9 (fun _ => (X4_execute_c9 (M 0) (M 1) (M 2 0) (M 6 0) (M 7 0) (M 8) (M 9 0) (M 10)))) 10 (X4_execute_c10 (M 0) (M 1) (M 2 0) (M 6 0) (M 7 0) (M 8) (M 9 0) (M 10))) 11 (fun _ => (X4_execute_c11 (M 0) (M 1) (M 2 0) (M 6 0) (M 7 0) (M 8) (M 9 0) (M 10)))) 12 (fun _ => (X4_execute_c12 (M 0) (M 1) (M 2 0) (M 6 0) (M 7 0) (M 8) (M 9 0) (M 10)))) 13 (fun _ => (X4_execute_c13 (M 0) (M 1) (M 2 0) (M 6 0) (M 7 0) (M 8) (M 9 0) (M 10)))) := by
  obtain ⟨hR, hH, hs, v6, v7, ht⟩ := I
  obtain ⟨h1, h2, h6, h7, h3, h8⟩ := kr_exec ht hR v6 v7 hH (M 10)
  exact ⟨h1, kl_m_0_1_2_6_7_9_10_11_12_13 h2 h3 (kl_sv5 hs kr_v5exec) h6 h7 h8⟩
theorem kl_p_undo (I : kl_I V S Sv Y R T M) : X3_undo_r V S Y R = X4_undo_r (M 0) (M 1) (M 2 0) ∧ kl_I V (X3_undo_s1 V S Y R) Sv (X3_undo_s2 V S Y R) R T (va_up (va_up M 0 (X4_undo_c0 (M 0) (M 1) (M 2 0))) 2 (fun _ => (X4_undo_c2 (M 0) (M 1) (M 2 0)))) := by
  obtain ⟨hR, hH, hs, v6, v7, ht⟩ := I
  obtain ⟨h1, h2, h3⟩ := kr_undo hH (V := V) hR
  exact ⟨h1, kl_m_0_2 h2 h3 hs v6 v7 ht⟩
theorem kl_p_save (I : kl_I V S Sv Y R T M) : X3_save_r V S Sv = X4_parcels_r (M 0) ∧ kl_I (X3_save_s0 V S Sv) S (X3_save_s2 V S Sv) Y R T (va_up (va_up M 3 (X4_save_c3 (M 0) (M 3))) 4 (fun _ => (X4_save_c4 (M 0) (M 3)))) := by
  obtain ⟨hR, hH, hs, v6, v7, ht⟩ := I
  obtain ⟨h1, h2⟩ := kr_save (V := V) (Sv := Sv) hR (M 3)
  exact ⟨h1, kl_m_3_4 hR hH h2 v6 v7 ht⟩
theorem kl_p_restore (I : kl_I V S Sv Y R T M) : X3_restore_r V S Sv Y R = X4_restore_r (M 0) (M 1) (M 2 0) (M 3) (M 4 0) ∧ kl_I V (X3_restore_s1 V S Sv Y R) Sv (X3_restore_s3 V S Sv Y R) (X3_restore_s4 V S Sv Y R) T (va_up (va_up (va_up M 0 (X4_restore_c0 (M 0) (M 1) (M 2 0) (M 3) (M 4 0))) 1 (X4_restore_c1 (M 0) (M 1) (M 2 0) (M 3) (M 4 0))) 2 (fun _ => (X4_restore_c2 (M 0) (M 1) (M 2 0) (M 3) (M 4 0)))) := by
  obtain ⟨hR, hH, hs, v6, v7, ht⟩ := I
  obtain ⟨h1, h2, h3⟩ := kr_restore hH hR hs
  exact ⟨h1, kl_m_0_1_2 h2 h3 hs v6 v7 ht⟩
end KL
