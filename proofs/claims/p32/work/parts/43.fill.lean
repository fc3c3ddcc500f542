theorem kz_iaP {G : kz_G} {a n : Nat} {f g : Nat → Int32} {H : Heap} (h : ∀ j, j < n → f j = g j) (hP : kz_P G [[(a, .inl (G.2.1, n, .inl f))]] H) : kz_P G [[(a, .inl (G.2.1, n, .inl g))]] H := by
  intro k q hk
  cases k with
  | zero =>
    cases hk
    have h1 := hP 0 _ rfl
    show H[a]? = some (vp_cell G.2.1 (n, .inl g))
    rw [← kz_cellEq h]
    exact h1
  | succ k => cases hk
set_option maxHeartbeats 4000000 in
set_option maxRecDepth 100000 in
theorem c_J7_fill_53178 (l : Launch) (G : kz_G) (a : Nat) (f : Nat → Int32) (v : Int32) : kz_mv l G yJ7_fill_53178 wsJ7_fill_53178 0 0 [.ref a, .int v] [[(a, .inl (G.2.1, 336, .inl f))]] [[(a, .inl (G.2.1, 336, .inl (fun _ => v)))]] := by
  intro sz
  refine Met.ofW (cc := cJ7_fill_53178) (maxL := 4) (ret := none) (by decide) rfl ?_
  intro p e s m args below meth c s₁ B hml hv
  obtain ⟨rfl, hsz, hP, hK, hD0⟩ := hv
  have hx := B.exec
  have hb := B.bytes
  have hr := B.returns
  have hts := atoms_spec (ws := wsJ7_fill_53178) B.pre
  have hown : s.vm.findClass RJ7 = some m.cls := findClass_of_methodNamed B.named
  have hlocks := B.notSynchronized
  subst hsz
  have hD := hD0.self (sz := s.heap.size)
  generalize hAe : kz_A [[(a, .inl (G.2.1, 336, .inl f))]] s.heap.size = A at hD ⊢
  have hA : ∀ q : Nat, s.heap.size ≤ q → A q := fun q h => by rw [← hAe]; exact Or.inr h
  have hS : va_S A s.heap s.heap [] := va_S.rf
  have hl := lv_entry ([.ref a, .int v]) (n := 4) (Nat.le_of_ble_eq_true rfl)
  rw [lg_entry_eq]
  generalize (lg_sl ([.ref a, .int v]) ++ List.replicate (4 - (lg_sl ([.ref a, .int v])).length) Slot.unset).toArray = ls at hl ⊢
  have hl : lv_has ls 4 [(0, .ref a), (1, .int v)] := hl
  refine kz_start (fun QQ hQ => ?_)
  have hP : kz_P G [[(a, .inl (G.2.1, 336, .inl f))]] s.heap := hP
  refine lv_iconst (v := 0) hx hb dJ7_fill_53178_0 (by decide +kernel) ?_
  refine lv_istore_n (lv' := [(2, .int 0), (0, .ref a), (1, .int v)]) hx hb dJ7_fill_53178_1 rfl hl (by decide) rfl (fun ls hl => ?_)
  refine lv_aload_n hx hb dJ7_fill_53178_2 rfl (lv_at hl 1 rfl) ?_
  refine va_alen (v := 336) hx hb hK.1 hP 0 0 rfl rfl rfl dJ7_fill_53178_3 ?_
  refine lv_istore_n (lv' := [(3, .int 336), (2, .int 0), (0, .ref a), (1, .int v)]) hx hb dJ7_fill_53178_4 rfl hl (by decide) rfl (fun ls hl => ?_)
  have L5_1 : ∀ (n5 : Nat) (i : Nat) (P1 : Nat → Int32), (336 - i < n5) → (i ≤ 336) → (∀ j, j < i → P1 j = v) → ∀ (H : Heap) (locs : List Loc), kz_P G [[(a, .inl (G.2.1, 336, .inl P1))]] H → kz_D A [[(a, .inl (G.2.1, 336, .inl P1))]] → va_S A s.heap H locs → ∀ ls : Array Slot, lv_has ls 4 [(3, .int 336), (2, .int (nI i)), (0, .ref a), (1, .int v)] → W p l e (headSpec wsJ7_fill_53178 (kz_rm 0 0)).room s m ([.ref a, .int v] : List Value).toArray below meth c H locs 0 0 QQ (F0 m 5 ls []) := by
    intro n5
    induction n5 with
    | zero => intro i P1 h0; exact absurd h0 (Nat.not_lt_zero _)
    | succ n5 ih5_2 =>
      intro i P1 hmeas5 hi1 hP1 H locs hP hD hS ls hl
      refine lv_iload_n hx hb dJ7_fill_53178_5 rfl (lv_at hl 1 rfl) ?_
      refine lv_iload_n hx hb dJ7_fill_53178_6 rfl (lv_at hl 0 rfl) ?_
      refine lv_icmp_ge (tgt := 20) hx hb dJ7_fill_53178_7 (by decide) (fun c_3 => ?_) (fun c_3 => ?_)
      · have hge := kz_le (a := 336) (b := i) c_3 (by omega) (by omega)
        subst hQ
        have hP9 : kz_P G [[(a, .inl (G.2.1, 336, .inl (fun _ => v)))]] H := kz_iaP (fun j hj => hP1 j (by omega)) hP
        have hD9 : kz_D A [[(a, .inl (G.2.1, 336, .inl (fun _ => v)))]] := kz_D_adr (by rfl) hD
        exact W.vret hx hb hr (fun t ht hW => ⟨⟨(), rfl, trivial, by rw [ht]; exact hP9, hD9⟩, hS.F ht⟩) hS.2.2 dJ7_fill_53178_20
      · have hlt := kz_gt (a := 336) (b := i) c_3 (by omega) (by omega)
        refine lv_aload_n hx hb dJ7_fill_53178_10 rfl (lv_at hl 2 rfl) ?_
        refine lv_iload_n hx hb dJ7_fill_53178_11 rfl (lv_at hl 1 rfl) ?_
        refine lv_iload_n hx hb dJ7_fill_53178_12 rfl (lv_at hl 3 rfl) ?_
        refine va_iast hx hb hK.1 hP hD hS 0 0 rfl rfl (vp_in_nI (n := i) (N := 336) (by omega) (by decide)) dJ7_fill_53178_13 (fun H locs hP hD hS => ?_)
        rw [kz_nI_clamp (n := i) (by omega)] at hP hD
        have hP : kz_P G [[(a, .inl (G.2.1, 336, .inl (upd P1 i v)))]] H := hP
        have hD : kz_D A [[(a, .inl (G.2.1, 336, .inl (upd P1 i v)))]] := hD
        refine lv_iinc (v := (nI (i + 1))) (lv' := [(2, .int (nI (i + 1))), (3, .int 336), (0, .ref a), (1, .int v)]) hx hb dJ7_fill_53178_14 hl (k := 1) rfl (nI_1 _) (by decide) rfl (fun ls hl => ?_)
        refine lv_goto (tgt := 5) hx hb dJ7_fill_53178_17 (by decide) ?_
        exact ih5_2 (i + 1) (upd P1 i v) (by omega) (by omega) (fun j hj => (Nat.lt_succ_iff_lt_or_eq.mp hj).elim (fun h9 => by rw [pk_un (by omega)]; exact hP1 j h9) (fun h9 => by rw [h9, pk_us])) H locs hP hD hS ls (lv_sub hl [1, 0, 2, 3] rfl)
  exact L5_1 _ 0 f (Nat.lt_succ_self _) (by omega) (fun j hj => absurd hj (by omega)) s.heap [] hP hD hS ls (lv_sub hl [0, 1, 2, 3] rfl)
