set_option maxRecDepth 20000 in
theorem lx_wsL_law_r9 : ∀ w ∈ wsL_law_r9, w ∈ lw_tbl := fun w h => (goodIn_p wsL_law_r9 [258, 262, 266, 270, 273, 276] (by decide +kernel) (by decide +kernel) w h).1
set_option maxRecDepth 20000 in
theorem lx_wsL_law_r10 : ∀ w ∈ wsL_law_r10, w ∈ lw_tbl := fun w h => (goodIn_p wsL_law_r10 [281, 284, 288, 292, 296] (by decide +kernel) (by decide +kernel) w h).1
set_option maxRecDepth 20000 in
theorem lx_wsL_law_r11 : ∀ w ∈ wsL_law_r11, w ∈ lw_tbl := fun w h => (goodIn_p wsL_law_r11 [300, 306, 310, 313, 418, 415] (by decide +kernel) (by decide +kernel) w h).1
set_option maxRecDepth 20000 in
theorem lx_wsL_law_r12 : ∀ w ∈ wsL_law_r12, w ∈ lw_tbl := fun w h => (goodIn_p wsL_law_r12 [317, 321, 325, 329, 333, 337] (by decide +kernel) (by decide +kernel) w h).1
set_option maxRecDepth 20000 in
theorem lx_wsL_law_r13 : ∀ w ∈ wsL_law_r13, w ∈ lw_tbl := fun w h => (goodIn_p wsL_law_r13 [341, 346, 350, 161, 173] (by decide +kernel) (by decide +kernel) w h).1
def lz_wsL_law_r14a : List Cond := [Cond.instanceMethod yX3_setting, Cond.selects RX3 yX3_setting yX3_setting, Cond.code yX3_setting cX3_setting 2 (some .int), Cond.methodLink RL 121 yX3_refusal, Cond.instanceMethod yX3_refusal, Cond.selects RX3 yX3_refusal yX3_refusal, Cond.code yX3_refusal cX3_refusal 2 (some .int), Cond.methodLink RL 124 yL_shop, Cond.static yL_shop]
def lz_wsL_law_r14b : List Cond := [Cond.methodLink RL 47 yX3_parcel, Cond.instanceMethod yX3_parcel, Cond.selects RX3 yX3_parcel yX3_parcel, Cond.code yX3_parcel cX3_parcel 4 (some .int), Cond.methodLink RL 52 yX3_codeAt, Cond.instanceMethod yX3_codeAt, Cond.selects RX3 yX3_codeAt yX3_codeAt, Cond.code yX3_codeAt cX3_codeAt 4 (some .int), Cond.methodLink RX3 107 yX1_isFree, Cond.methodLink RL 55 yX3_isCode, Cond.instanceMethod yX3_isCode, Cond.selects RX3 yX3_isCode yX3_isCode, Cond.code yX3_isCode cX3_isCode 2 (some .int), Cond.methodLink RL 59 yX3_sender]
theorem lz_wsL_law_r14m : Cond.code yL_shop cL_shop 18 (some .boolean) ∈ lw_tbl := List.mem_of_getElem? (i := 421) rfl
set_option maxRecDepth 20000 in
theorem lx_wsL_law_r14a : ∀ w ∈ lz_wsL_law_r14a, w ∈ lw_tbl := fun w h => (goodIn_p lz_wsL_law_r14a [195, 355] (by decide +kernel) (by decide +kernel) w h).1
set_option maxRecDepth 20000 in
theorem lx_wsL_law_r14b : ∀ w ∈ lz_wsL_law_r14b, w ∈ lw_tbl := fun w h => (goodIn_p lz_wsL_law_r14b [425, 429, 359] (by decide +kernel) (by decide +kernel) w h).1
