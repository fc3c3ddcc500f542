/-- what a day needs: the parcels' number, their senders, room for their leavings -/
def ps_dy (zp zq zt : Nat → Int32) : Prop := ∃ n, n ≤ 60 ∧ zt 7 = nI n ∧ (∀ j, j < n → vp_in (L_sender_r zq j) 10) ∧ ∃ m, zt 8 = nI m ∧ m + ps_ct zp n ≤ 60
abbrev L_d1 (zt : Nat → Int32) : Nat → Int32 := upd (upd zt 5 (zt 5 + 1)) 6 0
abbrev L_due (zt g : Nat → Int32) (i : Nat) : Prop := kz_rem (zt 5 + 1) 3 = 0 ∧ ¬ g i < zt 4
abbrev ps_F3 : Type := (Nat → Int32) × (Nat → Int32) × (Nat → Int32)
def L_cst (zt : Nat → Int32) (Z : ps_F3) (i : Nat) : ps_F3 := if L_due zt Z.1 i then (L_takes_s0 Z.1 Z.2.1 Z.2.2 (L_d1 zt) i 4, L_takes_s1 Z.1 Z.2.1 Z.2.2 (L_d1 zt) i 4, L_takes_s2 Z.1 Z.2.1 Z.2.2 (L_d1 zt) i 4) else Z
def L_co (zt zg zu zk : Nat → Int32) : Nat → ps_F3
  | 0 => (zg, zu, zk)
  | n + 1 => L_cst zt (L_co zt zg zu zk n) n
theorem L_co_f {zt zg zu zk g1 u1 k1 : Nat → Int32} {i : Nat} (hT : (g1, u1, k1) = L_co zt zg zu zk i) (h : ¬ L_due zt g1 i) : (g1, u1, k1) = L_co zt zg zu zk (i + 1) := by
  rw [L_co, ← hT, L_cst, if_neg h]
theorem L_co_t {zt zg zu zk g1 u1 k1 : Nat → Int32} {i : Nat} (hT : (g1, u1, k1) = L_co zt zg zu zk i) (h : L_due zt g1 i) : (L_takes_s0 g1 u1 k1 (L_d1 zt) i 4, L_takes_s1 g1 u1 k1 (L_d1 zt) i 4, L_takes_s2 g1 u1 k1 (L_d1 zt) i 4) = L_co zt zg zu zk (i + 1) := by
  rw [L_co, ← hT, L_cst, if_pos h]
abbrev ps_F6 : Type := (Nat → Int32) × (Nat → Int32) × (Nat → Int32) × (Nat → Int32) × (Nat → Int32) × Int32
abbrev L_dJ (p t : Nat → Int32) (i : Nat) : Nat := (L_on_r p t (nI i)).toNatClampNeg
abbrev L_goes (zq p g t : Nat → Int32) (i : Nat) : Prop := ¬ L_on_r p t (nI i) < 0 ∧ ¬ (t 5 - zq (L_dJ p t i) / 1000) ≤ t 3 ∧ ¬ 9 ≤ g (L_sender_r zq (L_dJ p t i)).toNatClampNeg
abbrev L_gb (zq p g t : Nat → Int32) (i : Nat) : Nat → Int32 := upd g (L_sender_r zq (L_dJ p t i)).toNatClampNeg (g (L_sender_r zq (L_dJ p t i)).toNatClampNeg + 1)
def L_rst (zq zc : Nat → Int32) (Z : ps_F6) (i : Nat) : ps_F6 :=
  if L_goes zq Z.1 Z.2.2.2.1 Z.2.2.2.2.1 i then (L_leaves_s0 Z.1 zc Z.2.1 Z.2.2.1 Z.2.2.2.2.1 (L_dJ Z.1 Z.2.2.2.2.1 i), L_leaves_s2 Z.1 zc Z.2.1 Z.2.2.1 Z.2.2.2.2.1 (L_dJ Z.1 Z.2.2.2.2.1 i), L_leaves_s3 Z.1 zc Z.2.1 Z.2.2.1 Z.2.2.2.2.1 (L_dJ Z.1 Z.2.2.2.2.1 i), L_gb zq Z.1 Z.2.2.2.1 Z.2.2.2.2.1 i, L_leaves_s4 Z.1 zc Z.2.1 Z.2.2.1 Z.2.2.2.2.1 (L_dJ Z.1 Z.2.2.2.2.1 i), Z.2.2.2.2.2 + 1) else Z
def L_re (zq zc : Nat → Int32) (Z : ps_F6) : Nat → ps_F6
  | 0 => Z
  | n + 1 => L_rst zq zc (L_re zq zc Z n) n
theorem L_re_f {zq zc p2 l2 v2 g2 t2 : Nat → Int32} {x : Int32} {Z : ps_F6} {i : Nat} (hT : (p2, l2, v2, g2, t2, x) = L_re zq zc Z i) (h : ¬ L_goes zq p2 g2 t2 i) : (p2, l2, v2, g2, t2, x) = L_re zq zc Z (i + 1) := by
  rw [L_re, ← hT, L_rst, if_neg h]
theorem L_re_t {zq zc p2 l2 v2 g2 t2 : Nat → Int32} {x : Int32} {Z : ps_F6} {i : Nat} (hT : (p2, l2, v2, g2, t2, x) = L_re zq zc Z i) (h : L_goes zq p2 g2 t2 i) : (L_leaves_s0 p2 zc l2 v2 t2 (L_dJ p2 t2 i), L_leaves_s2 p2 zc l2 v2 t2 (L_dJ p2 t2 i), L_leaves_s3 p2 zc l2 v2 t2 (L_dJ p2 t2 i), L_gb zq p2 g2 t2 i, L_leaves_s4 p2 zc l2 v2 t2 (L_dJ p2 t2 i), x + 1) = L_re zq zc Z (i + 1) := by
  rw [L_re, ← hT, L_rst, if_pos h]
def L_dayZ (zp zq zc zl zv zg zu zk zt : Nat → Int32) : ps_F6 := L_re zq zc (zp, zl, zv, (L_co zt zg zu zk 10).1, L_d1 zt, 0) 48
def L_day_r (zp zq zc zl zv zg zu zk zt : Nat → Int32) : Int32 := (L_dayZ zp zq zc zl zv zg zu zk zt).2.2.2.2.2
def L_day_s0 (zp zq zc zl zv zg zu zk zt : Nat → Int32) : Nat → Int32 := (L_dayZ zp zq zc zl zv zg zu zk zt).1
def L_day_s3 (zp zq zc zl zv zg zu zk zt : Nat → Int32) : Nat → Int32 := (L_dayZ zp zq zc zl zv zg zu zk zt).2.1
def L_day_s4 (zp zq zc zl zv zg zu zk zt : Nat → Int32) : Nat → Int32 := (L_dayZ zp zq zc zl zv zg zu zk zt).2.2.1
def L_day_s5 (zp zq zc zl zv zg zu zk zt : Nat → Int32) : Nat → Int32 := (L_dayZ zp zq zc zl zv zg zu zk zt).2.2.2.1
def L_day_s6 (zp zq zc zl zv zg zu zk zt : Nat → Int32) : Nat → Int32 := (L_co zt zg zu zk 10).2.1
def L_day_s7 (zp zq zc zl zv zg zu zk zt : Nat → Int32) : Nat → Int32 := (L_co zt zg zu zk 10).2.2
def L_day_s8 (zp zq zc zl zv zg zu zk zt : Nat → Int32) : Nat → Int32 := (L_dayZ zp zq zc zl zv zg zu zk zt).2.2.2.2.1
theorem ps_on_get {zp : Nat → Int32} {w : Int32} : ∀ n, n < 2 ^ 31 → ¬ ps_on zp w n < 0 → ∃ j, j < n ∧ zp j = w ∧ ps_on zp w n = nI j
  | 0, _, h => absurd (show ((-1) : Int32) < 0 by decide) h
  | n + 1, hn, h => by
    rw [ps_on] at h ⊢
    by_cases c : zp n = w
    · rw [if_pos c]
      exact ⟨n, by omega, c, rfl⟩
    · rw [if_neg c] at h ⊢
      obtain ⟨j, h1, h2, h3⟩ := ps_on_get n (by omega) h
      exact ⟨j, by omega, h2, h3⟩
theorem ps_onJ {zp zt : Nat → Int32} {n : Nat} {w : Int32} (hn : n ≤ 60) (h7 : zt 7 = nI n) (h : ¬ L_on_r zp zt w < 0) : (L_on_r zp zt w).toNatClampNeg < n ∧ zp (L_on_r zp zt w).toNatClampNeg = w ∧ L_on_r zp zt w = nI (L_on_r zp zt w).toNatClampNeg := by
  rw [L_on_r, h7, nI_clamp (by omega)] at h ⊢
  obtain ⟨j, h1, h2, h3⟩ := ps_on_get n (by omega) h
  rw [h3, nI_clamp (by omega)]
  exact ⟨h1, h2, rfl⟩
theorem L_lv7 (p c l v t : Nat → Int32) (j : Nat) : L_leaves_s4 p c l v t j 7 = t 7 := by rw [L_leaves_s4, pk_un (by decide)]
theorem L_lv5 (p c l v t : Nat → Int32) (j : Nat) : L_leaves_s4 p c l v t j 5 = t 5 := by rw [L_leaves_s4, pk_un (by decide)]
theorem L_lv3 (p c l v t : Nat → Int32) (j : Nat) : L_leaves_s4 p c l v t j 3 = t 3 := by rw [L_leaves_s4, pk_un (by decide)]
theorem ps_nn {x : Int32} {i : Nat} (hi : i < 2 ^ 31) (h : x = nI i) : ¬ x < 0 := by rw [h]; exact nI_pos hi
theorem ps_dyM {p2 zc l2 v2 t2 : Nat → Int32} {n i J : Nat} (hjn : J < n) (hpj : p2 J = nI i) (hi : i < 48) (hM : ∃ m, t2 8 = nI m ∧ m + ps_ct p2 n ≤ 60) : ∃ m, L_leaves_s4 p2 zc l2 v2 t2 J 8 = nI m ∧ m + ps_ct (L_leaves_s0 p2 zc l2 v2 t2 J) n ≤ 60 := by
  obtain ⟨m, e, h⟩ := hM
  refine ⟨m + 1, by rw [L_leaves_s4, pk_us, e]; exact nI_1 m, ?_⟩
  have h1 := ps_ct_l (zp := p2) (y := (-1)) (ps_nn (by omega) hpj) (by decide) n hjn
  rw [L_leaves_s0]
  omega
theorem ps_dy8 {p2 t2 : Nat → Int32} {n i J : Nat} (hjn : J < n) (hpj : p2 J = nI i) (hi : i < 48) (hM : ∃ m, t2 8 = nI m ∧ m + ps_ct p2 n ≤ 60) : ∃ m, m < 64 ∧ t2 8 = nI m := by
  obtain ⟨m, e, h⟩ := hM
  exact ⟨m, by omega, e⟩
set_option maxHeartbeats 4000000 in
set_option maxRecDepth 100000 in
theorem c_L_day (l : Launch) (G : kz_G) (np : Nat) (zp : Nat → Int32) (nq : Nat) (zq : Nat → Int32) (nc : Nat) (zc : Nat → Int32) (nl : Nat) (zl : Nat → Int32) (nv : Nat) (zv : Nat → Int32) (ng : Nat) (zg : Nat → Int32) (nu : Nat) (zu : Nat → Int32) (nk : Nat) (zk : Nat → Int32) (nt : Nat) (zt : Nat → Int32) (hdy : ps_dy zp zq zt) : kz_mi l G yL_day wsL_day 1 26 [.ref np, .ref nq, .ref nc, .ref nl, .ref nv, .ref ng, .ref nu, .ref nk, .ref nt] [[(np, .inl (G.2.1, 64, .inl zp))], [(nq, .inl (G.2.1, 64, .inl zq))], [(nc, .inl (G.2.1, 64, .inl zc))], [(nl, .inl (G.2.1, 64, .inl zl))], [(nv, .inl (G.2.1, 64, .inl zv))], [(ng, .inl (G.2.1, 10, .inl zg))], [(nu, .inl (G.2.1, 10, .inl zu))], [(nk, .inl (G.2.1, 10, .inl zk))], [(nt, .inl (G.2.1, 10, .inl zt))]] [[(np, .inl (G.2.1, 64, .inl (L_day_s0 zp zq zc zl zv zg zu zk zt)))], [(nq, .inl (G.2.1, 64, .inl zq))], [(nc, .inl (G.2.1, 64, .inl zc))], [(nl, .inl (G.2.1, 64, .inl (L_day_s3 zp zq zc zl zv zg zu zk zt)))], [(nv, .inl (G.2.1, 64, .inl (L_day_s4 zp zq zc zl zv zg zu zk zt)))], [(ng, .inl (G.2.1, 10, .inl (L_day_s5 zp zq zc zl zv zg zu zk zt)))], [(nu, .inl (G.2.1, 10, .inl (L_day_s6 zp zq zc zl zv zg zu zk zt)))], [(nk, .inl (G.2.1, 10, .inl (L_day_s7 zp zq zc zl zv zg zu zk zt)))], [(nt, .inl (G.2.1, 10, .inl (L_day_s8 zp zq zc zl zv zg zu zk zt)))]] (L_day_r zp zq zc zl zv zg zu zk zt) := by
  intro sz
  refine Met.ofW (cc := cL_day) (maxL := 12) (ret := (some .int)) (by decide) rfl ?_
  intro p e s m args below meth c s₁ B hml hv
  obtain ⟨rfl, hsz, hP, hK, hD0⟩ := hv
  have hx := B.exec
  have hb := B.bytes
  have hr := B.returns
  have hts := atoms_spec (ws := wsL_day) B.pre
  have hown : s.vm.findClass RL = some m.cls := findClass_of_methodNamed B.named
  have hlocks := B.notSynchronized
  subst hsz
  have hD := hD0.self (sz := s.heap.size)
  generalize hAe : kz_A [[(np, .inl (G.2.1, 64, .inl zp))], [(nq, .inl (G.2.1, 64, .inl zq))], [(nc, .inl (G.2.1, 64, .inl zc))], [(nl, .inl (G.2.1, 64, .inl zl))], [(nv, .inl (G.2.1, 64, .inl zv))], [(ng, .inl (G.2.1, 10, .inl zg))], [(nu, .inl (G.2.1, 10, .inl zu))], [(nk, .inl (G.2.1, 10, .inl zk))], [(nt, .inl (G.2.1, 10, .inl zt))]] s.heap.size = A at hD ⊢
  have hA : ∀ q : Nat, s.heap.size ≤ q → A q := fun q h => by rw [← hAe]; exact Or.inr h
  have hS : va_S A s.heap s.heap [] := va_S.rf
  have hl := lv_entry ([.ref np, .ref nq, .ref nc, .ref nl, .ref nv, .ref ng, .ref nu, .ref nk, .ref nt]) (n := 12) (Nat.le_of_ble_eq_true rfl)
  rw [lg_entry_eq]
  generalize (lg_sl ([.ref np, .ref nq, .ref nc, .ref nl, .ref nv, .ref ng, .ref nu, .ref nk, .ref nt]) ++ List.replicate (12 - (lg_sl ([.ref np, .ref nq, .ref nc, .ref nl, .ref nv, .ref ng, .ref nu, .ref nk, .ref nt])).length) Slot.unset).toArray = ls at hl ⊢
  have hl : lv_has ls 12 [(0, .ref np), (1, .ref nq), (2, .ref nc), (3, .ref nl), (4, .ref nv), (5, .ref ng), (6, .ref nu), (7, .ref nk), (8, .ref nt)] := hl
  refine kz_start (fun QQ hQ => ?_)
  have hP : kz_P G [[(np, .inl (G.2.1, 64, .inl zp))], [(nq, .inl (G.2.1, 64, .inl zq))], [(nc, .inl (G.2.1, 64, .inl zc))], [(nl, .inl (G.2.1, 64, .inl zl))], [(nv, .inl (G.2.1, 64, .inl zv))], [(ng, .inl (G.2.1, 10, .inl zg))], [(nu, .inl (G.2.1, 10, .inl zu))], [(nk, .inl (G.2.1, 10, .inl zk))], [(nt, .inl (G.2.1, 10, .inl zt))]] s.heap := hP
  obtain ⟨n, hn, e7, hsn, hM0⟩ := id hdy
  refine lv_iconst (v := 0) hx hb dL_day_0 (by decide +kernel) ?_
  refine lv_istore (lv' := [(9, .int 0), (0, .ref np), (1, .ref nq), (2, .ref nc), (3, .ref nl), (4, .ref nv), (5, .ref ng), (6, .ref nu), (7, .ref nk), (8, .ref nt)]) hx hb dL_day_1 hl (by decide) rfl (fun ls hl => ?_)
  refine lv_aload hx hb dL_day_3 (lv_at hl 9 rfl) ?_
  refine lv_iconst (v := 5) hx hb dL_day_5 (by decide +kernel) ?_
  refine lv_dup2_11 hx hb dL_day_6 rfl rfl ?_
  refine va_iald (f := zt) hx hb hK.1 hP 8 0 rfl rfl (vp_in_nI (n := 5) (N := 10) (by decide) (by decide)) dL_day_7 ?_
  refine lv_topi (fun y_1 ey_2 => ?_)
  obtain rfl : y_1 = (zt 5) := by rw [ey_2]; rfl
  refine lv_iconst (v := 1) hx hb dL_day_8 (by decide +kernel) ?_
  refine lv_iadd hx hb dL_day_9 ?_
  refine va_iast hx hb hK.1 hP hD hS 8 0 rfl rfl (vp_in_nI (n := 5) (N := 10) (by decide) (by decide)) dL_day_10 (fun H locs hP hD hS => ?_)
  have hP : kz_P G [[(np, .inl (G.2.1, 64, .inl zp))], [(nq, .inl (G.2.1, 64, .inl zq))], [(nc, .inl (G.2.1, 64, .inl zc))], [(nl, .inl (G.2.1, 64, .inl zl))], [(nv, .inl (G.2.1, 64, .inl zv))], [(ng, .inl (G.2.1, 10, .inl zg))], [(nu, .inl (G.2.1, 10, .inl zu))], [(nk, .inl (G.2.1, 10, .inl zk))], [(nt, .inl (G.2.1, 10, .inl (upd zt 5 ((zt 5) + 1))))]] H := hP
  have hD : kz_D A [[(np, .inl (G.2.1, 64, .inl zp))], [(nq, .inl (G.2.1, 64, .inl zq))], [(nc, .inl (G.2.1, 64, .inl zc))], [(nl, .inl (G.2.1, 64, .inl zl))], [(nv, .inl (G.2.1, 64, .inl zv))], [(ng, .inl (G.2.1, 10, .inl zg))], [(nu, .inl (G.2.1, 10, .inl zu))], [(nk, .inl (G.2.1, 10, .inl zk))], [(nt, .inl (G.2.1, 10, .inl (upd zt 5 ((zt 5) + 1))))]] := hD
  refine lv_aload hx hb dL_day_11 (lv_at hl 9 rfl) ?_
  refine lv_bipush (v := 6) hx hb dL_day_13 (by decide +kernel) ?_
  refine lv_iconst (v := 0) hx hb dL_day_15 (by decide +kernel) ?_
  refine va_iast hx hb hK.1 hP hD hS 8 0 rfl rfl (vp_in_nI (n := 6) (N := 10) (by decide) (by decide)) dL_day_16 (fun H locs hP hD hS => ?_)
  have hP : kz_P G [[(np, .inl (G.2.1, 64, .inl zp))], [(nq, .inl (G.2.1, 64, .inl zq))], [(nc, .inl (G.2.1, 64, .inl zc))], [(nl, .inl (G.2.1, 64, .inl zl))], [(nv, .inl (G.2.1, 64, .inl zv))], [(ng, .inl (G.2.1, 10, .inl zg))], [(nu, .inl (G.2.1, 10, .inl zu))], [(nk, .inl (G.2.1, 10, .inl zk))], [(nt, .inl (G.2.1, 10, .inl (upd (upd zt 5 ((zt 5) + 1)) 6 0)))]] H := hP
  have hD : kz_D A [[(np, .inl (G.2.1, 64, .inl zp))], [(nq, .inl (G.2.1, 64, .inl zq))], [(nc, .inl (G.2.1, 64, .inl zc))], [(nl, .inl (G.2.1, 64, .inl zl))], [(nv, .inl (G.2.1, 64, .inl zv))], [(ng, .inl (G.2.1, 10, .inl zg))], [(nu, .inl (G.2.1, 10, .inl zu))], [(nk, .inl (G.2.1, 10, .inl zk))], [(nt, .inl (G.2.1, 10, .inl (upd (upd zt 5 ((zt 5) + 1)) 6 0)))]] := hD
  refine lv_iconst (v := 0) hx hb dL_day_17 (by decide +kernel) ?_
  refine lv_istore (lv' := [(10, .int 0), (9, .int 0), (0, .ref np), (1, .ref nq), (2, .ref nc), (3, .ref nl), (4, .ref nv), (5, .ref ng), (6, .ref nu), (7, .ref nk), (8, .ref nt)]) hx hb dL_day_18 hl (by decide) rfl (fun ls hl => ?_)
  have L20_3 : ∀ (n20 : Nat) (i1 : Nat) (g1 u1 k1 : Nat → Int32), (10 - i1 < n20) → (i1 ≤ 10) → ((g1, u1, k1) = L_co zt zg zu zk i1) → ∀ (H : Heap) (locs : List Loc), kz_P G [[(np, .inl (G.2.1, 64, .inl zp))], [(nq, .inl (G.2.1, 64, .inl zq))], [(nc, .inl (G.2.1, 64, .inl zc))], [(nl, .inl (G.2.1, 64, .inl zl))], [(nv, .inl (G.2.1, 64, .inl zv))], [(ng, .inl (G.2.1, 10, .inl g1))], [(nu, .inl (G.2.1, 10, .inl u1))], [(nk, .inl (G.2.1, 10, .inl k1))], [(nt, .inl (G.2.1, 10, .inl (upd (upd zt 5 ((zt 5) + 1)) 6 0)))]] H → kz_D A [[(np, .inl (G.2.1, 64, .inl zp))], [(nq, .inl (G.2.1, 64, .inl zq))], [(nc, .inl (G.2.1, 64, .inl zc))], [(nl, .inl (G.2.1, 64, .inl zl))], [(nv, .inl (G.2.1, 64, .inl zv))], [(ng, .inl (G.2.1, 10, .inl g1))], [(nu, .inl (G.2.1, 10, .inl u1))], [(nk, .inl (G.2.1, 10, .inl k1))], [(nt, .inl (G.2.1, 10, .inl (upd (upd zt 5 ((zt 5) + 1)) 6 0)))]] → va_S A s.heap H locs → ∀ ls : Array Slot, lv_has ls 12 [(10, .int (nI i1)), (9, .int 0), (0, .ref np), (1, .ref nq), (2, .ref nc), (3, .ref nl), (4, .ref nv), (5, .ref ng), (6, .ref nu), (7, .ref nk), (8, .ref nt)] → W p l e (headSpec wsL_day (kz_rm 1 26)).room s m ([.ref np, .ref nq, .ref nc, .ref nl, .ref nv, .ref ng, .ref nu, .ref nk, .ref nt] : List Value).toArray below meth c H locs 0 0 QQ (F0 m 20 ls []) := by
    intro n20
    induction n20 with
    | zero => intro i1 g1 u1 k1 h0; exact absurd h0 (Nat.not_lt_zero _)
    | succ n20 ih20_4 =>
      intro i1 g1 u1 k1 hmeas20 hi1 hT H locs hP hD hS ls hl
      refine lv_iload hx hb dL_day_20 (lv_at hl 0 rfl) ?_
      refine lv_bipush (v := 10) hx hb dL_day_22 (by decide +kernel) ?_
      refine lv_icmp_ge (tgt := 69) hx hb dL_day_24 (by decide) (fun c_5 => ?_) (fun c_5 => ?_)
      · have hge := kz_le (a := 10) (b := i1) c_5 (by omega) (by omega)
        refine lv_iconst (v := 0) hx hb dL_day_69 (by decide +kernel) ?_
        refine lv_istore (lv' := [(10, .int 0), (9, .int 0), (0, .ref np), (1, .ref nq), (2, .ref nc), (3, .ref nl), (4, .ref nv), (5, .ref ng), (6, .ref nu), (7, .ref nk), (8, .ref nt)]) hx hb dL_day_70 hl (by decide) rfl (fun ls hl => ?_)
        have L72_6 : ∀ (n72 : Nat) (i : Nat) (p2 l2 v2 g2 t2 : Nat → Int32) (x : Int32), (48 - i < n72) → (i ≤ 48) → ((p2, l2, v2, g2, t2, x) = L_re zq zc (zp, zl, zv, g1, L_d1 zt, 0) i) → (∃ m, t2 8 = nI m ∧ m + ps_ct p2 n ≤ 60) → (t2 7 = nI n) → (t2 5 = zt 5 + 1) → (t2 3 = zt 3) → ∀ (H : Heap) (locs : List Loc), kz_P G [[(np, .inl (G.2.1, 64, .inl p2))], [(nq, .inl (G.2.1, 64, .inl zq))], [(nc, .inl (G.2.1, 64, .inl zc))], [(nl, .inl (G.2.1, 64, .inl l2))], [(nv, .inl (G.2.1, 64, .inl v2))], [(ng, .inl (G.2.1, 10, .inl g2))], [(nu, .inl (G.2.1, 10, .inl u1))], [(nk, .inl (G.2.1, 10, .inl k1))], [(nt, .inl (G.2.1, 10, .inl t2))]] H → kz_D A [[(np, .inl (G.2.1, 64, .inl p2))], [(nq, .inl (G.2.1, 64, .inl zq))], [(nc, .inl (G.2.1, 64, .inl zc))], [(nl, .inl (G.2.1, 64, .inl l2))], [(nv, .inl (G.2.1, 64, .inl v2))], [(ng, .inl (G.2.1, 10, .inl g2))], [(nu, .inl (G.2.1, 10, .inl u1))], [(nk, .inl (G.2.1, 10, .inl k1))], [(nt, .inl (G.2.1, 10, .inl t2))]] → va_S A s.heap H locs → ∀ ls : Array Slot, lv_has ls 12 [(10, .int (nI i)), (9, .int x), (0, .ref np), (1, .ref nq), (2, .ref nc), (3, .ref nl), (4, .ref nv), (5, .ref ng), (6, .ref nu), (7, .ref nk), (8, .ref nt)] → W p l e (headSpec wsL_day (kz_rm 1 26)).room s m ([.ref np, .ref nq, .ref nc, .ref nl, .ref nv, .ref ng, .ref nu, .ref nk, .ref nt] : List Value).toArray below meth c H locs 0 0 QQ (F0 m 72 ls []) := by
          intro n72
          induction n72 with
          | zero => intro i p2 l2 v2 g2 t2 x h0; exact absurd h0 (Nat.not_lt_zero _)
          | succ n72 ih72_7 =>
            intro i p2 l2 v2 g2 t2 x hmeas72 hi2 hT2 hM h72 h52 h32 H locs hP hD hS ls hl
            refine lv_iload hx hb dL_day_72 (lv_at hl 0 rfl) ?_
            refine lv_bipush (v := 48) hx hb dL_day_74 (by decide +kernel) ?_
            refine lv_icmp_ge (tgt := 162) hx hb dL_day_76 (by decide) (fun c_8 => ?_) (fun c_8 => ?_)
            · have hge := kz_le (a := 48) (b := i) c_8 (by omega) (by omega)
              refine lv_iload hx hb dL_day_162 (lv_at hl 1 rfl) ?_
              subst hQ
              have hP9 : kz_P G [[(np, .inl (G.2.1, 64, .inl (L_day_s0 zp zq zc zl zv zg zu zk zt)))], [(nq, .inl (G.2.1, 64, .inl zq))], [(nc, .inl (G.2.1, 64, .inl zc))], [(nl, .inl (G.2.1, 64, .inl (L_day_s3 zp zq zc zl zv zg zu zk zt)))], [(nv, .inl (G.2.1, 64, .inl (L_day_s4 zp zq zc zl zv zg zu zk zt)))], [(ng, .inl (G.2.1, 10, .inl (L_day_s5 zp zq zc zl zv zg zu zk zt)))], [(nu, .inl (G.2.1, 10, .inl (L_day_s6 zp zq zc zl zv zg zu zk zt)))], [(nk, .inl (G.2.1, 10, .inl (L_day_s7 zp zq zc zl zv zg zu zk zt)))], [(nt, .inl (G.2.1, 10, .inl (L_day_s8 zp zq zc zl zv zg zu zk zt)))]] H := by obtain rfl : i1 = 10 := (by omega); obtain rfl : i = 48 := (by omega); rw [L_day_s0, L_day_s3, L_day_s4, L_day_s5, L_day_s6, L_day_s7, L_day_s8, L_dayZ, ← hT, ← hT2]; exact hP
              have hD9 : kz_D A [[(np, .inl (G.2.1, 64, .inl (L_day_s0 zp zq zc zl zv zg zu zk zt)))], [(nq, .inl (G.2.1, 64, .inl zq))], [(nc, .inl (G.2.1, 64, .inl zc))], [(nl, .inl (G.2.1, 64, .inl (L_day_s3 zp zq zc zl zv zg zu zk zt)))], [(nv, .inl (G.2.1, 64, .inl (L_day_s4 zp zq zc zl zv zg zu zk zt)))], [(ng, .inl (G.2.1, 10, .inl (L_day_s5 zp zq zc zl zv zg zu zk zt)))], [(nu, .inl (G.2.1, 10, .inl (L_day_s6 zp zq zc zl zv zg zu zk zt)))], [(nk, .inl (G.2.1, 10, .inl (L_day_s7 zp zq zc zl zv zg zu zk zt)))], [(nt, .inl (G.2.1, 10, .inl (L_day_s8 zp zq zc zl zv zg zu zk zt)))]] := by obtain rfl : i1 = 10 := (by omega); obtain rfl : i = 48 := (by omega); rw [L_day_s0, L_day_s3, L_day_s4, L_day_s5, L_day_s6, L_day_s7, L_day_s8, L_dayZ, ← hT, ← hT2]; exact hD
              exact W.iret (v := x) hx hb hr (fun t ht hW => ⟨⟨x, (), rfl, (by obtain rfl : i1 = 10 := (by omega); obtain rfl : i = 48 := (by omega); rw [L_day_r, L_dayZ, ← hT, ← hT2]), by rw [ht]; exact hP9, hD9⟩, hS.F ht⟩) hS.2.2 dL_day_164
            · have hlt := kz_gt (a := 48) (b := i) c_8 (by omega) (by omega)
              refine lv_aload_n hx hb dL_day_79 rfl (lv_at hl 2 rfl) ?_
              refine lv_aload hx hb dL_day_80 (lv_at hl 10 rfl) ?_
              refine lv_iload hx hb dL_day_82 (lv_at hl 0 rfl) ?_
              refine kz_rdS (As := [.ref np, .ref nt, .int (nI i)]) (rest := []) ⟨hx, hb, hml, hown, hts⟩ (c_L_on l G np p2 nt t2 (nI i) ⟨n, hn, h72⟩) (va_cwS 3 hts gL_day_L_on rfl rfl rfl (by decide +kernel) ⟨Nat.le_of_ble_eq_true rfl, Nat.le_of_ble_eq_true rfl⟩) hK (hP.sub (cs := [[(np, .inl (G.2.1, 64, .inl p2))], [(nt, .inl (G.2.1, 10, .inl t2))]]) [0, 8] rfl) rfl hl.1 rfl (Nat.le_of_ble_eq_true rfl) dL_day_84 ⟨Nat.le_of_ble_eq_true rfl, Nat.le_of_ble_eq_true rfl⟩ ?_
              refine lv_istore (lv' := [(11, .int (L_on_r p2 t2 (nI i))), (10, .int (nI i)), (9, .int x), (0, .ref np), (1, .ref nq), (2, .ref nc), (3, .ref nl), (4, .ref nv), (5, .ref ng), (6, .ref nu), (7, .ref nk), (8, .ref nt)]) hx hb dL_day_87 hl (by decide) rfl (fun ls hl => ?_)
              refine lv_iload hx hb dL_day_89 (lv_at hl 0 rfl) ?_
              refine lv_if_lt (tgt := 156) hx hb dL_day_91 (by decide) (fun c_9 => ?_) (fun c_9 => ?_)
              · refine lv_iinc (v := (nI (i + 1))) (lv' := [(10, .int (nI (i + 1))), (11, .int (L_on_r p2 t2 (nI i))), (9, .int x), (0, .ref np), (1, .ref nq), (2, .ref nc), (3, .ref nl), (4, .ref nv), (5, .ref ng), (6, .ref nu), (7, .ref nk), (8, .ref nt)]) hx hb dL_day_156 hl (k := 1) rfl (nI_1 _) (by decide) rfl (fun ls hl => ?_)
                refine lv_goto (tgt := 72) hx hb dL_day_159 (by decide) ?_
                exact ih72_7 (i + 1) p2 l2 v2 g2 t2 x (by omega) (by omega) (L_re_f hT2 (fun q => q.1 c_9)) hM h72 h52 h32 H locs hP hD hS ls (lv_sub hl [0, 2, 3, 4, 5, 6, 7, 8, 9, 10, 11] rfl)
              · obtain ⟨hjn, hpj, hje⟩ := ps_onJ (zp := p2) hn h72 c_9
                have hl : lv_has ls 12 [(11, .int (nI (L_on_r p2 t2 (nI i)).toNatClampNeg)), (10, .int (nI i)), (9, .int x), (0, .ref np), (1, .ref nq), (2, .ref nc), (3, .ref nl), (4, .ref nv), (5, .ref ng), (6, .ref nu), (7, .ref nk), (8, .ref nt)] := by rw [← hje]; exact hl
                refine lv_aload hx hb dL_day_94 (lv_at hl 11 rfl) ?_
                refine lv_iconst (v := 5) hx hb dL_day_96 (by decide +kernel) ?_
                refine va_iald (f := t2) hx hb hK.1 hP 8 0 rfl rfl (vp_in_nI (n := 5) (N := 10) (by decide) (by decide)) dL_day_97 ?_
                refine lv_topi (fun y_11 ey_12 => ?_)
                obtain rfl : y_11 = (t2 5) := by rw [ey_12]; rfl
                refine lv_aload_n hx hb dL_day_98 rfl (lv_at hl 4 rfl) ?_
                refine lv_iload hx hb dL_day_99 (lv_at hl 0 rfl) ?_
                refine va_iald (f := zq) hx hb hK.1 hP 1 0 rfl rfl (vp_in_nI (n := (L_on_r p2 t2 (nI i)).toNatClampNeg) (N := 64) (by omega) (by decide)) dL_day_101 ?_
                refine lv_topi (fun y_13 ey_14 => ?_)
                obtain rfl : y_13 = (zq ((L_on_r p2 t2 (nI i)).toNatClampNeg)) := by rw [ey_14, kz_nI_clamp (n := (L_on_r p2 t2 (nI i)).toNatClampNeg) (by omega)]
                refine lv_sipush (v := 1000) hx hb dL_day_102 (by decide +kernel) ?_
                refine lv_idiv hx hb dL_day_105 (by decide +kernel) ?_
                refine lv_isub hx hb dL_day_106 ?_
                refine lv_aload hx hb dL_day_107 (lv_at hl 11 rfl) ?_
                refine lv_iconst (v := 3) hx hb dL_day_109 (by decide +kernel) ?_
                refine va_iald (f := t2) hx hb hK.1 hP 8 0 rfl rfl (vp_in_nI (n := 3) (N := 10) (by decide) (by decide)) dL_day_110 ?_
                refine lv_topi (fun y_15 ey_16 => ?_)
                obtain rfl : y_15 = (t2 3) := by rw [ey_16]; rfl
                refine lv_icmp_le (tgt := 156) hx hb dL_day_111 (by decide) (fun c_17 => ?_) (fun c_17 => ?_)
                · refine lv_iinc (v := (nI (i + 1))) (lv' := [(10, .int (nI (i + 1))), (11, .int (nI (L_on_r p2 t2 (nI i)).toNatClampNeg)), (9, .int x), (0, .ref np), (1, .ref nq), (2, .ref nc), (3, .ref nl), (4, .ref nv), (5, .ref ng), (6, .ref nu), (7, .ref nk), (8, .ref nt)]) hx hb dL_day_156 hl (k := 1) rfl (nI_1 _) (by decide) rfl (fun ls hl => ?_)
                  refine lv_goto (tgt := 72) hx hb dL_day_159 (by decide) ?_
                  exact ih72_7 (i + 1) p2 l2 v2 g2 t2 x (by omega) (by omega) (L_re_f hT2 (fun q => q.2.1 c_17)) hM h72 h52 h32 H locs hP hD hS ls (lv_sub hl [0, 2, 3, 4, 5, 6, 7, 8, 9, 10, 11] rfl)
                · refine lv_aload hx hb dL_day_114 (lv_at hl 8 rfl) ?_
                  refine lv_aload_n hx hb dL_day_116 rfl (lv_at hl 4 rfl) ?_
                  refine lv_iload hx hb dL_day_117 (lv_at hl 0 rfl) ?_
                  refine kz_rdS (As := [.ref nq, .int (nI (L_on_r p2 t2 (nI i)).toNatClampNeg)]) (rest := [.ref ng]) ⟨hx, hb, hml, hown, hts⟩ (c_L_sender l G nq zq ((L_on_r p2 t2 (nI i)).toNatClampNeg) (by omega)) (va_cwS 2 hts gL_day_L_sender rfl rfl rfl (by decide +kernel) ⟨Nat.le_of_ble_eq_true rfl, Nat.le_of_ble_eq_true rfl⟩) hK (hP.sub (cs := [[(nq, .inl (G.2.1, 64, .inl zq))]]) [1] rfl) rfl hl.1 rfl (Nat.le_of_ble_eq_true rfl) dL_day_119 ⟨Nat.le_of_ble_eq_true rfl, Nat.le_of_ble_eq_true rfl⟩ ?_
                  refine va_iald (f := g2) hx hb hK.1 hP 5 0 rfl rfl (hsn _ hjn) dL_day_122 ?_
                  refine lv_bipush (v := 9) hx hb dL_day_123 (by decide +kernel) ?_
                  refine lv_icmp_ge (tgt := 156) hx hb dL_day_125 (by decide) (fun c_18 => ?_) (fun c_18 => ?_)
                  · refine lv_iinc (v := (nI (i + 1))) (lv' := [(10, .int (nI (i + 1))), (11, .int (nI (L_on_r p2 t2 (nI i)).toNatClampNeg)), (9, .int x), (0, .ref np), (1, .ref nq), (2, .ref nc), (3, .ref nl), (4, .ref nv), (5, .ref ng), (6, .ref nu), (7, .ref nk), (8, .ref nt)]) hx hb dL_day_156 hl (k := 1) rfl (nI_1 _) (by decide) rfl (fun ls hl => ?_)
                    refine lv_goto (tgt := 72) hx hb dL_day_159 (by decide) ?_
                    exact ih72_7 (i + 1) p2 l2 v2 g2 t2 x (by omega) (by omega) (L_re_f hT2 (fun q => q.2.2 c_18)) hM h72 h52 h32 H locs hP hD hS ls (lv_sub hl [0, 2, 3, 4, 5, 6, 7, 8, 9, 10, 11] rfl)
                  · refine lv_aload hx hb dL_day_128 (lv_at hl 8 rfl) ?_
                    refine lv_aload_n hx hb dL_day_130 rfl (lv_at hl 4 rfl) ?_
                    refine lv_iload hx hb dL_day_131 (lv_at hl 0 rfl) ?_
                    refine kz_rdS (As := [.ref nq, .int (nI (L_on_r p2 t2 (nI i)).toNatClampNeg)]) (rest := [.ref ng]) ⟨hx, hb, hml, hown, hts⟩ (c_L_sender l G nq zq ((L_on_r p2 t2 (nI i)).toNatClampNeg) (by omega)) (va_cwS 2 hts gL_day_L_sender rfl rfl rfl (by decide +kernel) ⟨Nat.le_of_ble_eq_true rfl, Nat.le_of_ble_eq_true rfl⟩) hK (hP.sub (cs := [[(nq, .inl (G.2.1, 64, .inl zq))]]) [1] rfl) rfl hl.1 rfl (Nat.le_of_ble_eq_true rfl) dL_day_133 ⟨Nat.le_of_ble_eq_true rfl, Nat.le_of_ble_eq_true rfl⟩ ?_
                    refine lv_dup2_11 hx hb dL_day_136 rfl rfl ?_
                    refine va_iald (f := g2) hx hb hK.1 hP 5 0 rfl rfl (hsn _ hjn) dL_day_137 ?_
                    refine lv_iconst (v := 1) hx hb dL_day_138 (by decide +kernel) ?_
                    refine lv_iadd hx hb dL_day_139 ?_
                    refine va_iast hx hb hK.1 hP hD hS 5 0 rfl rfl (hsn _ hjn) dL_day_140 (fun H locs hP hD hS => ?_)
                    have hP : kz_P G [[(np, .inl (G.2.1, 64, .inl p2))], [(nq, .inl (G.2.1, 64, .inl zq))], [(nc, .inl (G.2.1, 64, .inl zc))], [(nl, .inl (G.2.1, 64, .inl l2))], [(nv, .inl (G.2.1, 64, .inl v2))], [(ng, .inl (G.2.1, 10, .inl (upd g2 ((L_sender_r zq ((L_on_r p2 t2 (nI i)).toNatClampNeg)).toNatClampNeg) ((g2 (L_sender_r zq ((L_on_r p2 t2 (nI i)).toNatClampNeg)).toNatClampNeg) + 1))))], [(nu, .inl (G.2.1, 10, .inl u1))], [(nk, .inl (G.2.1, 10, .inl k1))], [(nt, .inl (G.2.1, 10, .inl t2))]] H := hP
                    have hD : kz_D A [[(np, .inl (G.2.1, 64, .inl p2))], [(nq, .inl (G.2.1, 64, .inl zq))], [(nc, .inl (G.2.1, 64, .inl zc))], [(nl, .inl (G.2.1, 64, .inl l2))], [(nv, .inl (G.2.1, 64, .inl v2))], [(ng, .inl (G.2.1, 10, .inl (upd g2 ((L_sender_r zq ((L_on_r p2 t2 (nI i)).toNatClampNeg)).toNatClampNeg) ((g2 (L_sender_r zq ((L_on_r p2 t2 (nI i)).toNatClampNeg)).toNatClampNeg) + 1))))], [(nu, .inl (G.2.1, 10, .inl u1))], [(nk, .inl (G.2.1, 10, .inl k1))], [(nt, .inl (G.2.1, 10, .inl t2))]] := hD
                    refine lv_aload_n hx hb dL_day_141 rfl (lv_at hl 3 rfl) ?_
                    refine lv_aload_n hx hb dL_day_142 rfl (lv_at hl 5 rfl) ?_
                    refine lv_aload_n hx hb dL_day_143 rfl (lv_at hl 6 rfl) ?_
                    refine lv_aload hx hb dL_day_144 (lv_at hl 7 rfl) ?_
                    refine lv_aload hx hb dL_day_146 (lv_at hl 11 rfl) ?_
                    refine lv_iload hx hb dL_day_148 (lv_at hl 0 rfl) ?_
                    refine kz_mvS (As := [.ref np, .ref nc, .ref nl, .ref nv, .ref nt, .int (nI (L_on_r p2 t2 (nI i)).toNatClampNeg)]) (rest := []) (wr := [[(nq, .inl (G.2.1, 64, .inl zq))], [(ng, .inl (G.2.1, 10, .inl (upd g2 ((L_sender_r zq ((L_on_r p2 t2 (nI i)).toNatClampNeg)).toNatClampNeg) ((g2 (L_sender_r zq ((L_on_r p2 t2 (nI i)).toNatClampNeg)).toNatClampNeg) + 1))))], [(nu, .inl (G.2.1, 10, .inl u1))], [(nk, .inl (G.2.1, 10, .inl k1))]]) (bs' := [[(np, .inl (G.2.1, 64, .inl (L_leaves_s0 p2 zc l2 v2 t2 ((L_on_r p2 t2 (nI i)).toNatClampNeg))))], [(nq, .inl (G.2.1, 64, .inl zq))], [(nc, .inl (G.2.1, 64, .inl zc))], [(nl, .inl (G.2.1, 64, .inl (L_leaves_s2 p2 zc l2 v2 t2 ((L_on_r p2 t2 (nI i)).toNatClampNeg))))], [(nv, .inl (G.2.1, 64, .inl (L_leaves_s3 p2 zc l2 v2 t2 ((L_on_r p2 t2 (nI i)).toNatClampNeg))))], [(ng, .inl (G.2.1, 10, .inl (upd g2 ((L_sender_r zq ((L_on_r p2 t2 (nI i)).toNatClampNeg)).toNatClampNeg) ((g2 (L_sender_r zq ((L_on_r p2 t2 (nI i)).toNatClampNeg)).toNatClampNeg) + 1))))], [(nu, .inl (G.2.1, 10, .inl u1))], [(nk, .inl (G.2.1, 10, .inl k1))], [(nt, .inl (G.2.1, 10, .inl (L_leaves_s4 p2 zc l2 v2 t2 ((L_on_r p2 t2 (nI i)).toNatClampNeg))))]]) ⟨hx, hb, hml, hown, hts⟩ (c_L_leaves l G np p2 nc zc nl l2 nv v2 nt t2 ((L_on_r p2 t2 (nI i)).toNatClampNeg) (by omega) (ps_dy8 hjn hpj hlt hM)) (va_cwS 6 hts gL_day_L_leaves rfl rfl rfl (by decide +kernel) ⟨Nat.le_of_ble_eq_true rfl, Nat.le_of_ble_eq_true rfl⟩) hK hP hD hS hA [0, 2, 3, 4, 8] [1, 5, 6, 7] [4, 0, 5, 6, 7, 1, 2, 3, 8] rfl (by decide) rfl (by decide) (by decide) rfl (by decide) rfl hl.1 rfl (Nat.le_of_ble_eq_true rfl) dL_day_150 ⟨Nat.le_of_ble_eq_true rfl, Nat.le_of_ble_eq_true rfl⟩ (fun H locs hP hD hS => ?_)
                    refine lv_iinc (v := (x + 1)) (lv' := [(9, .int (x + 1)), (11, .int (nI (L_on_r p2 t2 (nI i)).toNatClampNeg)), (10, .int (nI i)), (0, .ref np), (1, .ref nq), (2, .ref nc), (3, .ref nl), (4, .ref nv), (5, .ref ng), (6, .ref nu), (7, .ref nk), (8, .ref nt)]) hx hb dL_day_153 hl (k := 2) rfl rfl (by decide) rfl (fun ls hl => ?_)
                    refine lv_iinc (v := (nI (i + 1))) (lv' := [(10, .int (nI (i + 1))), (9, .int (x + 1)), (11, .int (nI (L_on_r p2 t2 (nI i)).toNatClampNeg)), (0, .ref np), (1, .ref nq), (2, .ref nc), (3, .ref nl), (4, .ref nv), (5, .ref ng), (6, .ref nu), (7, .ref nk), (8, .ref nt)]) hx hb dL_day_156 hl (k := 2) rfl (nI_1 _) (by decide) rfl (fun ls hl => ?_)
                    refine lv_goto (tgt := 72) hx hb dL_day_159 (by decide) ?_
                    exact ih72_7 (i + 1) (L_leaves_s0 p2 zc l2 v2 t2 ((L_on_r p2 t2 (nI i)).toNatClampNeg)) (L_leaves_s2 p2 zc l2 v2 t2 ((L_on_r p2 t2 (nI i)).toNatClampNeg)) (L_leaves_s3 p2 zc l2 v2 t2 ((L_on_r p2 t2 (nI i)).toNatClampNeg)) (upd g2 ((L_sender_r zq ((L_on_r p2 t2 (nI i)).toNatClampNeg)).toNatClampNeg) ((g2 (L_sender_r zq ((L_on_r p2 t2 (nI i)).toNatClampNeg)).toNatClampNeg) + 1)) (L_leaves_s4 p2 zc l2 v2 t2 ((L_on_r p2 t2 (nI i)).toNatClampNeg)) (x + 1) (by omega) (by omega) (L_re_t hT2 ⟨c_9, c_17, c_18⟩) (ps_dyM hjn hpj hlt hM) ((L_lv7 _ _ _ _ _ _).trans h72) ((L_lv5 _ _ _ _ _ _).trans h52) ((L_lv3 _ _ _ _ _ _).trans h32) H locs hP hD hS ls (lv_sub hl [0, 1, 3, 4, 5, 6, 7, 8, 9, 10, 11] rfl)
        exact L72_6 _ 0 zp zl zv g1 (L_d1 zt) 0 (Nat.lt_succ_self _) (by omega) rfl (by obtain ⟨m, e, h⟩ := hM0; exact ⟨m, ((pk_un (by decide)).trans (pk_un (by decide))).trans e, h⟩) (((pk_un (by decide)).trans (pk_un (by decide))).trans e7) ((pk_un (by decide)).trans pk_us) ((pk_un (by decide)).trans (pk_un (by decide))) H locs hP hD hS ls (lv_sub hl [0, 1, 2, 3, 4, 5, 6, 7, 8, 9, 10] rfl)
      · have hlt := kz_gt (a := 10) (b := i1) c_5 (by omega) (by omega)
        refine lv_aload hx hb dL_day_27 (lv_at hl 10 rfl) ?_
        refine lv_iconst (v := 5) hx hb dL_day_29 (by decide +kernel) ?_
        refine va_iald (f := (upd (upd zt 5 ((zt 5) + 1)) 6 0)) hx hb hK.1 hP 8 0 rfl rfl (vp_in_nI (n := 5) (N := 10) (by decide) (by decide)) dL_day_30 ?_
        refine lv_topi (fun y_19 ey_20 => ?_)
        obtain rfl : y_19 = ((zt 5) + 1) := by rw [ey_20]; exact (show ((upd (upd zt 5 ((zt 5) + 1)) 6 0) 5) = ((zt 5) + 1) from ((pk_un (by decide)).trans pk_us))
        refine lv_iconst (v := 3) hx hb dL_day_31 (by decide +kernel) ?_
        refine lv_irem hx hb dL_day_32 (by decide +kernel) ?_
        refine kz_topR ?_
        refine lv_if_ne (tgt := 63) hx hb dL_day_33 (by decide) (fun c_21 => ?_) (fun c_21 => ?_)
        · refine lv_iinc (v := (nI (i1 + 1))) (lv' := [(10, .int (nI (i1 + 1))), (9, .int 0), (0, .ref np), (1, .ref nq), (2, .ref nc), (3, .ref nl), (4, .ref nv), (5, .ref ng), (6, .ref nu), (7, .ref nk), (8, .ref nt)]) hx hb dL_day_63 hl (k := 0) rfl (nI_1 _) (by decide) rfl (fun ls hl => ?_)
          refine lv_goto (tgt := 20) hx hb dL_day_66 (by decide) ?_
          exact ih20_4 (i1 + 1) g1 u1 k1 (by omega) (by omega) (L_co_f hT (fun q => c_21 q.1)) H locs hP hD hS ls (lv_sub hl [0, 1, 2, 3, 4, 5, 6, 7, 8, 9, 10] rfl)
        · refine lv_aload hx hb dL_day_36 (lv_at hl 7 rfl) ?_
          refine lv_iload hx hb dL_day_38 (lv_at hl 0 rfl) ?_
          refine va_iald (f := g1) hx hb hK.1 hP 5 0 rfl rfl (vp_in_nI (n := i1) (N := 10) (by omega) (by decide)) dL_day_40 ?_
          refine lv_topi (fun y_22 ey_23 => ?_)
          obtain rfl : y_22 = (g1 i1) := by rw [ey_23, kz_nI_clamp (n := i1) (by omega)]
          refine lv_aload hx hb dL_day_41 (lv_at hl 10 rfl) ?_
          refine lv_iconst (v := 4) hx hb dL_day_43 (by decide +kernel) ?_
          refine va_iald (f := (upd (upd zt 5 ((zt 5) + 1)) 6 0)) hx hb hK.1 hP 8 0 rfl rfl (vp_in_nI (n := 4) (N := 10) (by decide) (by decide)) dL_day_44 ?_
          refine lv_topi (fun y_24 ey_25 => ?_)
          obtain rfl : y_24 = (zt 4) := by rw [ey_25]; exact (show ((upd (upd zt 5 ((zt 5) + 1)) 6 0) 4) = (zt 4) from ((pk_un (by decide)).trans (pk_un (by decide))))
          refine lv_icmp_lt (tgt := 63) hx hb dL_day_45 (by decide) (fun c_26 => ?_) (fun c_26 => ?_)
          · refine lv_iinc (v := (nI (i1 + 1))) (lv' := [(10, .int (nI (i1 + 1))), (9, .int 0), (0, .ref np), (1, .ref nq), (2, .ref nc), (3, .ref nl), (4, .ref nv), (5, .ref ng), (6, .ref nu), (7, .ref nk), (8, .ref nt)]) hx hb dL_day_63 hl (k := 0) rfl (nI_1 _) (by decide) rfl (fun ls hl => ?_)
            refine lv_goto (tgt := 20) hx hb dL_day_66 (by decide) ?_
            exact ih20_4 (i1 + 1) g1 u1 k1 (by omega) (by omega) (L_co_f hT (fun q => q.2 c_26)) H locs hP hD hS ls (lv_sub hl [0, 1, 2, 3, 4, 5, 6, 7, 8, 9, 10] rfl)
          · refine lv_aload hx hb dL_day_48 (lv_at hl 7 rfl) ?_
            refine lv_aload hx hb dL_day_50 (lv_at hl 8 rfl) ?_
            refine lv_aload hx hb dL_day_52 (lv_at hl 9 rfl) ?_
            refine lv_aload hx hb dL_day_54 (lv_at hl 10 rfl) ?_
            refine lv_iload hx hb dL_day_56 (lv_at hl 0 rfl) ?_
            refine lv_iconst (v := 4) hx hb dL_day_58 (by decide +kernel) ?_
            refine kz_miS (As := [.ref ng, .ref nu, .ref nk, .ref nt, .int (nI i1), .int 4]) (rest := []) (wr := [[(np, .inl (G.2.1, 64, .inl zp))], [(nq, .inl (G.2.1, 64, .inl zq))], [(nc, .inl (G.2.1, 64, .inl zc))], [(nl, .inl (G.2.1, 64, .inl zl))], [(nv, .inl (G.2.1, 64, .inl zv))]]) (bs' := [[(np, .inl (G.2.1, 64, .inl zp))], [(nq, .inl (G.2.1, 64, .inl zq))], [(nc, .inl (G.2.1, 64, .inl zc))], [(nl, .inl (G.2.1, 64, .inl zl))], [(nv, .inl (G.2.1, 64, .inl zv))], [(ng, .inl (G.2.1, 10, .inl (L_takes_s0 g1 u1 k1 (upd (upd zt 5 ((zt 5) + 1)) 6 0) i1 4)))], [(nu, .inl (G.2.1, 10, .inl (L_takes_s1 g1 u1 k1 (upd (upd zt 5 ((zt 5) + 1)) 6 0) i1 4)))], [(nk, .inl (G.2.1, 10, .inl (L_takes_s2 g1 u1 k1 (upd (upd zt 5 ((zt 5) + 1)) 6 0) i1 4)))], [(nt, .inl (G.2.1, 10, .inl (upd (upd zt 5 ((zt 5) + 1)) 6 0)))]]) ⟨hx, hb, hml, hown, hts⟩ (c_L_takes l G ng g1 nu u1 nk k1 nt (upd (upd zt 5 ((zt 5) + 1)) 6 0) i1 4 (by omega)) (va_cwS 6 hts gL_day_L_takes rfl rfl rfl (by decide +kernel) ⟨Nat.le_of_ble_eq_true rfl, Nat.le_of_ble_eq_true rfl⟩) hK hP hD hS hA [5, 6, 7, 8] [0, 1, 2, 3, 4] [0, 1, 2, 3, 4, 5, 6, 7, 8] rfl (by decide) rfl (by decide) (by decide) rfl (by decide) rfl hl.1 rfl (Nat.le_of_ble_eq_true rfl) dL_day_59 ⟨Nat.le_of_ble_eq_true rfl, Nat.le_of_ble_eq_true rfl⟩ (fun H locs hP hD hS => ?_)
            refine lv_pop hx hb dL_day_62 rfl ?_
            refine lv_iinc (v := (nI (i1 + 1))) (lv' := [(10, .int (nI (i1 + 1))), (9, .int 0), (0, .ref np), (1, .ref nq), (2, .ref nc), (3, .ref nl), (4, .ref nv), (5, .ref ng), (6, .ref nu), (7, .ref nk), (8, .ref nt)]) hx hb dL_day_63 hl (k := 0) rfl (nI_1 _) (by decide) rfl (fun ls hl => ?_)
            refine lv_goto (tgt := 20) hx hb dL_day_66 (by decide) ?_
            exact ih20_4 (i1 + 1) (L_takes_s0 g1 u1 k1 (upd (upd zt 5 ((zt 5) + 1)) 6 0) i1 4) (L_takes_s1 g1 u1 k1 (upd (upd zt 5 ((zt 5) + 1)) 6 0) i1 4) (L_takes_s2 g1 u1 k1 (upd (upd zt 5 ((zt 5) + 1)) 6 0) i1 4) (by omega) (by omega) (L_co_t hT ⟨c_21, c_26⟩) H locs hP hD hS ls (lv_sub hl [0, 1, 2, 3, 4, 5, 6, 7, 8, 9, 10] rfl)
  exact L20_3 _ 0 zg zu zk (Nat.lt_succ_self _) (by omega) rfl H locs hP hD hS ls (lv_sub hl [0, 1, 2, 3, 4, 5, 6, 7, 8, 9, 10] rfl)
