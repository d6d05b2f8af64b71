theorem ap_in {a b t : List Cond} (ha : ∀ w ∈ a, w ∈ t) (hb : ∀ w ∈ b, w ∈ t) : ∀ w ∈ a ++ b, w ∈ t := fun w h => (List.mem_append.mp h).elim (ha w) (hb w)
set_option maxRecDepth 100000 in
theorem inX9 : ∀ w ∈ wsX90, w ∈ lw_tbl := by decide +kernel
set_option maxRecDepth 100000 in
theorem inX10 : ∀ w ∈ wsX100, w ∈ lw_tbl := by decide +kernel
set_option maxRecDepth 100000 in
theorem inX8 : ∀ w ∈ wsX80, w ∈ lw_tbl := by decide +kernel
set_option maxRecDepth 100000 in
theorem inX5 : ∀ w ∈ wsX50, w ∈ lw_tbl := by decide +kernel
set_option maxRecDepth 100000 in
theorem inX7 : ∀ w ∈ wsX70, w ∈ lw_tbl := by decide +kernel
set_option maxRecDepth 100000 in
theorem inX0 : ∀ w ∈ wsX00, w ∈ lw_tbl := by decide +kernel
set_option maxRecDepth 100000 in
theorem inX6 : ∀ w ∈ wsX60, w ∈ lw_tbl := by decide +kernel
set_option maxRecDepth 100000 in
theorem inX2 : ∀ w ∈ wsX20, w ∈ lw_tbl := by decide +kernel
set_option maxRecDepth 100000 in
theorem inX4 : ∀ w ∈ wsX40, w ∈ lw_tbl := by decide +kernel
set_option maxRecDepth 100000 in
theorem wsL_law_in0 : ∀ w ∈ wsL_law0, w ∈ lw_tbl := (ap_in (ap_in (ap_in (ap_in (ap_in (ap_in (ap_in (ap_in (ap_in (ap_in (ap_in in_wsL_law0_r1 (ap_in in_wsL_law0_r2 (ap_in in_wsL_law0_r3 (ap_in in_wsL_law0_r4 (ap_in in_wsL_law0_r5 (ap_in in_wsL_law0_r6 (ap_in in_wsL_law0_r7 (ap_in in_wsL_law0_r8 (ap_in in_wsL_law0_r9 (ap_in in_wsL_law0_r10 (ap_in in_wsL_law0_r11 (ap_in in_wsL_law0_r12 (ap_in in_wsL_law0_r13 (ap_in in_wsL_law0_r14 (ap_in in_wsL_law0_r15 (ap_in in_wsL_law0_r16 (ap_in in_wsL_law0_r17 (ap_in in_wsL_law0_r18 (ap_in in_wsL_law0_r19 (ap_in in_wsL_law0_r20 (ap_in in_wsL_law0_r21 (ap_in in_wsL_law0_r22 (ap_in in_wsL_law0_r23 (ap_in in_wsL_law0_r24 (ap_in in_wsL_law0_r25 (ap_in in_wsL_law0_r26 (ap_in in_wsL_law0_r27 (ap_in in_wsL_law0_r28 (ap_in in_wsL_law0_r29 (ap_in in_wsL_law0_r30 (ap_in in_wsL_law0_r31 (ap_in in_wsL_law0_r32 (ap_in in_wsL_law0_r33 (ap_in in_wsL_law0_r34 (ap_in in_wsL_law0_r35 (ap_in in_wsL_law0_r36 (ap_in in_wsL_law0_r37 (ap_in in_wsL_law0_r38 (ap_in in_wsL_law0_r39 (ap_in in_wsL_law0_r40 (ap_in in_wsL_law0_r41 (ap_in in_wsL_law0_r42 (ap_in in_wsL_law0_r43 (ap_in in_wsL_law0_r44 (ap_in in_wsL_law0_r45 (ap_in in_wsL_law0_r46 (ap_in in_wsL_law0_r47 (ap_in in_wsL_law0_r48 (ap_in in_wsL_law0_r49 (ap_in in_wsL_law0_r50 (ap_in in_wsL_law0_r51 (ap_in in_wsL_law0_r52 (ap_in in_wsL_law0_r53 (ap_in in_wsL_law0_r54 (ap_in in_wsL_law0_r55 in_wsL_law0_r56))))))))))))))))))))))))))))))))))))))))))))))))))))))) inX9) inX10) inX8) inX5) inX7) inX0) inX6) inX2) inX4) (fun _ h => absurd h List.not_mem_nil))
