theorem lx_wsL_law_r14 : ∀ w ∈ wsL_law_r14, w ∈ lw_tbl := fun w h => (List.mem_append.mp (show w ∈ lz_wsL_law_r14a ++ (Cond.code yL_shop cL_shop 18 (some .boolean) :: lz_wsL_law_r14b) from h)).elim (lx_wsL_law_r14a w) (fun h => (List.mem_cons.mp h).elim (fun e => by rw [e]; exact lz_wsL_law_r14m) (lx_wsL_law_r14b w))
set_option maxRecDepth 20000 in
theorem lx_wsL_law_r15 : ∀ w ∈ wsL_law_r15, w ∈ lw_tbl := fun w h => (goodIn_p wsL_law_r15 [434, 438, 442, 446, 450] (by decide +kernel) (by decide +kernel) w h).1
set_option maxRecDepth 20000 in
theorem lx_wsL_law_r16 : ∀ w ∈ wsL_law_r16, w ∈ lw_tbl := fun w h => (goodIn_p wsL_law_r16 [454, 458, 462, 466, 470, 474] (by decide +kernel) (by decide +kernel) w h).1
set_option maxRecDepth 20000 in
theorem lx_wsL_law_r17 : ∀ w ∈ wsL_law_r17, w ∈ lw_tbl := fun w h => (goodIn_p wsL_law_r17 [478, 363, 369, 373] (by decide +kernel) (by decide +kernel) w h).1
set_option maxRecDepth 20000 in
theorem lx_wsX30 : ∀ w ∈ wsX30, w ∈ lw_tbl := fun w h => (goodIn_p wsX30 [] (by decide +kernel) (by decide +kernel) w h).1
set_option maxRecDepth 20000 in
theorem lx_wsX10 : ∀ w ∈ wsX10, w ∈ lw_tbl := fun w h => (goodIn_p wsX10 [] (by decide +kernel) (by decide +kernel) w h).1
set_option maxRecDepth 20000 in
theorem lx_wsX00 : ∀ w ∈ wsX00, w ∈ lw_tbl := fun w h => (goodIn_p wsX00 [] (by decide +kernel) (by decide +kernel) w h).1
set_option maxRecDepth 20000 in
theorem lx_wsX20 : ∀ w ∈ wsX20, w ∈ lw_tbl := fun w h => (goodIn_p wsX20 [] (by decide +kernel) (by decide +kernel) w h).1
theorem wsL_law_in : ∀ w ∈ wsL_law, w ∈ lw_tbl := (lx_app (lx_app (lx_app (lx_app (lx_app (lx_app lx_wsL_law_r1 (lx_app lx_wsL_law_r2 (lx_app lx_wsL_law_r3 (lx_app lx_wsL_law_r4 (lx_app lx_wsL_law_r5 (lx_app lx_wsL_law_r6 (lx_app lx_wsL_law_r7 (lx_app lx_wsL_law_r8 (lx_app lx_wsL_law_r9 (lx_app lx_wsL_law_r10 (lx_app lx_wsL_law_r11 (lx_app lx_wsL_law_r12 (lx_app lx_wsL_law_r13 (lx_app lx_wsL_law_r14 (lx_app lx_wsL_law_r15 (lx_app lx_wsL_law_r16 lx_wsL_law_r17)))))))))))))))) lx_wsX30) lx_wsX10) lx_wsX00) lx_wsX20) (fun w h => absurd h List.not_mem_nil))
