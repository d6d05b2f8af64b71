/-! goods by row and place -/
theorem goodIn_2 {big : List Cond} {rs : List (List Cond)} (hr : ∀ l ∈ rs, ∀ w ∈ l, w ∈ big) (ws : List Cond) (ps : List (Nat × Nat)) (hp : ws = ps.filterMap (fun q => (rs[q.1]?).bind (fun l => l[q.2]?))) (h : ws.all goodWord = true) : GoodIn big ws := by
  intro w hw
  refine ⟨?_, good_of_word (List.all_eq_true.mp h w hw)⟩
  rw [hp] at hw
  obtain ⟨q, _, h2⟩ := List.mem_filterMap.mp hw
  obtain ⟨l, h3, h4⟩ := Option.bind_eq_some_iff.mp h2
  exact hr l (List.mem_of_getElem? h3) w (List.mem_of_getElem? h4)
def rowsL : List (List Cond) := [wsL_law0_r1, wsL_law0_r2, wsL_law0_r3, wsL_law0_r4, wsL_law0_r5, wsL_law0_r6, wsL_law0_r7, wsL_law0_r8, wsL_law0_r9, wsL_law0_r10, wsL_law0_r11, wsL_law0_r12, wsL_law0_r13, wsL_law0_r14, wsL_law0_r15, wsL_law0_r16, wsL_law0_r17, wsL_law0_r18, wsL_law0_r19, wsL_law0_r20, wsL_law0_r21, wsL_law0_r22, wsL_law0_r23, wsL_law0_r24, wsL_law0_r25, wsL_law0_r26, wsL_law0_r27, wsL_law0_r28, wsL_law0_r29, wsL_law0_r30, wsL_law0_r31, wsL_law0_r32, wsL_law0_r33, wsL_law0_r34, wsL_law0_r35, wsL_law0_r36, wsL_law0_r37, wsL_law0_r38, wsL_law0_r39, wsL_law0_r40, wsL_law0_r41, wsL_law0_r42, wsL_law0_r43, wsL_law0_r44, wsL_law0_r45, wsL_law0_r46, wsL_law0_r47, wsL_law0_r48, wsL_law0_r49, wsL_law0_r50, wsL_law0_r51, wsL_law0_r52, wsL_law0_r53, wsL_law0_r54, wsL_law0_r55, wsL_law0_r56, wsX90, wsX100, wsX80, wsX50, wsX70, wsX00, wsX60, wsX20, wsX40]
set_option maxRecDepth 20000 in
theorem rowsL_flat : rowsL.flatten = wsL_law0 := by
  simp only [rowsL, wsL_law0, List.flatten_cons, List.flatten_nil, List.append_nil, List.append_assoc]
theorem rowsL_in : ∀ l ∈ rowsL, ∀ w ∈ l, w ∈ wsL_law0 := fun l hl w hw => rowsL_flat ▸ List.mem_flatten.mpr ⟨l, hl, hw⟩
