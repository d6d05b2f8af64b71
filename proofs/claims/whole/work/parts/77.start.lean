/-! what the start gives: rows of widenings, Strings, what a throw needs -/
def FLT : List Cond := flatC (Jvm.Cond.and given_1 narrow_1)
theorem fl_exM : Cond.exactly (Term.string "LongRunsModel" 126) "java/lang/String" ∈ FLT := by decide +kernel
theorem fl_coM : Cond.eq (Term.field (Term.string "LongRunsModel" 126) "java/lang/String" "coder" "B") (Term.int 0) ∈ FLT := by decide +kernel
theorem fl_arM : Cond.arrayOf (Term.field (Term.string "LongRunsModel" 126) "java/lang/String" "value" "[B") .byte ∈ FLT := by decide +kernel
theorem fl_leM : Cond.eq (Term.length (Term.field (Term.string "LongRunsModel" 126) "java/lang/String" "value" "[B")) (Term.int (Int32.ofNat 14)) ∈ FLT := by decide +kernel
theorem fl_elM : ∀ j, j < 14 → Cond.eq (Term.elem (Term.field (Term.string "LongRunsModel" 126) "java/lang/String" "value" "[B") (Term.int (Int32.ofNat j))) (Term.int (ltr j)) ∈ FLT := by decide +kernel
theorem fl_exC : Cond.exactly (Term.string "LongRuns$Kinds" 9) "java/lang/String" ∈ FLT := by decide +kernel
theorem fl_coC : Cond.eq (Term.field (Term.string "LongRuns$Kinds" 9) "java/lang/String" "coder" "B") (Term.int 0) ∈ FLT := by decide +kernel
theorem fl_arC : Cond.arrayOf (Term.field (Term.string "LongRuns$Kinds" 9) "java/lang/String" "value" "[B") .byte ∈ FLT := by decide +kernel
theorem fl_leC : Cond.eq (Term.length (Term.field (Term.string "LongRuns$Kinds" 9) "java/lang/String" "value" "[B")) (Term.int (Int32.ofNat 14)) ∈ FLT := by decide +kernel
theorem fl_elC : ∀ j, j < 14 → Cond.eq (Term.elem (Term.field (Term.string "LongRuns$Kinds" 9) "java/lang/String" "value" "[B") (Term.int (Int32.ofNat j))) (Term.int (ltr j)) ∈ FLT := by decide +kernel
theorem fw_arM : Cond.arrayOf (Term.static "LongRunsModel" "WIDENS" "[I") .int ∈ FLT := by decide +kernel
theorem fw_leM : Cond.eq (Term.length (Term.static "LongRunsModel" "WIDENS" "[I")) (Term.int (Int32.ofNat 8)) ∈ FLT := by decide +kernel
theorem fw_elM : ∀ j, j < 8 → Cond.eq (Term.elem (Term.static "LongRunsModel" "WIDENS" "[I") (Term.int (Int32.ofNat j))) (Term.int (wid j)) ∈ FLT := by decide +kernel
theorem fw_arC : Cond.arrayOf (Term.static "LongRuns$Kinds" "WIDENINGS" "[I") .int ∈ FLT := by decide +kernel
theorem fw_leC : Cond.eq (Term.length (Term.static "LongRuns$Kinds" "WIDENINGS" "[I")) (Term.int (Int32.ofNat 8)) ∈ FLT := by decide +kernel
theorem fw_elC : ∀ j, j < 8 → Cond.eq (Term.elem (Term.static "LongRuns$Kinds" "WIDENINGS" "[I") (Term.int (Int32.ofNat j))) (Term.int (wid j)) ∈ FLT := by decide +kernel
theorem fl_cs : Cond.eq (Term.static "java/lang/String" "COMPACT_STRINGS" "Z") (Term.int 1) ∈ FLT := by decide +kernel
theorem fl_fo : Cond.isRef (Term.static "jdk/internal/util/Preconditions" "SIOOBE_FORMATTER" "Ljava/util/function/BiFunction;") ∈ FLT := by decide +kernel
theorem fl_ex9 : Cond.exactly (Term.string "LongRuns" 356) "java/lang/String" ∈ FLT := by decide +kernel
theorem fl_us : Cond.isRef (Term.static "java/lang/Throwable" "UNASSIGNED_STACK" "[Ljava/lang/StackTraceElement;") ∈ FLT := by decide +kernel
theorem fl_su : Cond.isRef (Term.static "java/lang/Throwable" "SUPPRESSED_SENTINEL" "Ljava/util/List;") ∈ FLT := by decide +kernel
theorem start_tab {s : State} {ar : Array Value} {C n : String} {A : Nat → Prop} (hA : ∀ a : Nat, a < s.heap.size → ¬ A a) (hl : (Cond.laysStatic C n "[I").before ar s = true) (hi : (Cond.initialized C).before ar s = true) (h1 : (Cond.arrayOf (Term.static C n "[I") .int).before ar s = true) (h2 : (Cond.eq (Term.length (Term.static C n "[I")) (Term.int (Int32.ofNat 8))).before ar s = true) (h3 : ∀ j, j < 8 → (Cond.eq (Term.elem (Term.static C n "[I") (Term.int (Int32.ofNat j))) (Term.int (wid j))).before ar s = true) : ∃ t : Nat, va_Z C n "[I" (.ref t) A s s.heap ∧ va_T .int t 8 (fun j => .int (wid j)) A s s.heap := by
  obtain ⟨t, e1, e2⟩ := va_Tof (f := fun j => .int (wid j)) (A := A) (by decide) h1 (va_eqt h2) (fun j hj => va_eqt (h3 j hj)) hA
  exact ⟨t, va_Zof hl hi e1 hA, e2⟩
theorem start_str {s : State} {ar : Array Value} {own : String} {k : Nat} {A : Nat → Prop} (hA : ∀ a : Nat, a < s.heap.size → ¬ A a) (hs : (Cond.stringRef own k "zbcsijfdntoxyw").before ar s = true) (h0 : (Cond.exactly (Term.string own k) "java/lang/String").before ar s = true) (h1 : (Cond.eq (Term.field (Term.string own k) "java/lang/String" "coder" "B") (Term.int 0)).before ar s = true) (h2 : (Cond.arrayOf (Term.field (Term.string own k) "java/lang/String" "value" "[B") .byte).before ar s = true) (h3 : (Cond.eq (Term.length (Term.field (Term.string own k) "java/lang/String" "value" "[B")) (Term.int (Int32.ofNat 14))).before ar s = true) (h4 : ∀ j, j < 14 → (Cond.eq (Term.elem (Term.field (Term.string own k) "java/lang/String" "value" "[B") (Term.int (Int32.ofNat j))) (Term.int (ltr j))).before ar s = true)
    (hz : va_Z "java/lang/String" "COMPACT_STRINGS" "Z" (.int 1) A s s.heap) (hf : va_Zq "jdk/internal/util/Preconditions" "SIOOBE_FORMATTER" "Ljava/util/function/BiFunction;" A s s.heap) : ∃ a v : Nat, vk_R own k "zbcsijfdntoxyw" a s ∧ STR a v A s s.heap := by
  obtain ⟨a, c, cA, kA, q1, -⟩ := Cond.exactly_spec (args := ar) (first := s) (o := none) (s := s) (idx := []) h0
  obtain ⟨v, e1, e2⟩ := va_Tof (f := fun j => .int (ltr j)) (A := A) (by decide) h2 (va_eqt h3) (fun j hj => va_eqt (h4 j hj)) hA
  exact ⟨a, v, vk_R.of hs q1, vk_OFof q1 e1 hA, vk_OFof q1 (va_eqt h1) hA, e2, va_Oof h0 q1 hA, hz, hf⟩
theorem start_all {s : State} {b : Nat} {A : Nat → Prop} (hA : ∀ a : Nat, a < s.heap.size → ¬ A a) (hts : ∀ w ∈ lw_tbl, w.before #[Value.ref b] s = true) (hgv : (Jvm.Cond.and given_1 narrow_1).before #[Value.ref b] s = true) : SX A s s.heap ∧ CX s ∧ TXX A s s.heap := by
  have hs : ∀ w ∈ FLT, w.before #[Value.ref b] s = true := flat_of_before _ hgv
  have hz : va_Z "java/lang/String" "COMPACT_STRINGS" "Z" (.int 1) A s s.heap := va_Zof (hts _ (List.mem_of_getElem? (i := 358) (by decide +kernel))) (hts _ (List.mem_of_getElem? (i := 92) (by decide +kernel))) (va_eqt (hs _ fl_cs)) hA
  have hf : va_Zq "jdk/internal/util/Preconditions" "SIOOBE_FORMATTER" "Ljava/util/function/BiFunction;" A s s.heap := va_Zqof (hts _ (List.mem_of_getElem? (i := 401) (by decide +kernel))) (hts _ (List.mem_of_getElem? (i := 96) (by decide +kernel))) (hs _ fl_fo) hA
  refine ⟨⟨?_, ?_, ?_, ?_⟩, ⟨?_, ?_, ?_, ?_, ?_, ?_, ?_, ?_⟩, ⟨?_, ?_, ?_, ?_, ?_, ?_, ?_⟩⟩
  · exact start_tab hA (hts _ (List.mem_of_getElem? (i := 1266) (by decide +kernel))) (hts _ (List.mem_of_getElem? (i := 90) (by decide +kernel))) (hs _ fw_arM) (hs _ fw_leM) (fun j hj => hs _ (fw_elM j hj))
  · exact start_tab hA (hts _ (List.mem_of_getElem? (i := 511) (by decide +kernel))) (hts _ (List.mem_of_getElem? (i := 91) (by decide +kernel))) (hs _ fw_arC) (hs _ fw_leC) (fun j hj => hs _ (fw_elC j hj))
  · exact start_str hA (hts _ (List.mem_of_getElem? (i := 1194) (by decide +kernel))) (hs _ fl_exM) (hs _ fl_coM) (hs _ fl_arM) (hs _ fl_leM) (fun j hj => hs _ (fl_elM j hj)) hz hf
  · exact start_str hA (hts _ (List.mem_of_getElem? (i := 344) (by decide +kernel))) (hs _ fl_exC) (hs _ fl_coC) (hs _ fl_arC) (hs _ fl_leC) (fun j hj => hs _ (fl_elC j hj)) hz hf
  · exact va_AO.of (hts _ (List.mem_of_getElem? (i := 160) (by decide +kernel)))
  · exact va_Nw.of rfl (hts _ (List.mem_of_getElem? (i := 119) (by decide +kernel)))
  · exact va_Nw.of rfl (hts _ (List.mem_of_getElem? (i := 175) (by decide +kernel)))
  · exact va_Nw.of rfl (hts _ (List.mem_of_getElem? (i := 193) (by decide +kernel)))
  · exact va_Nw.of rfl (hts _ (List.mem_of_getElem? (i := 208) (by decide +kernel)))
  · exact va_Nw.of rfl (hts _ (List.mem_of_getElem? (i := 229) (by decide +kernel)))
  · exact va_Nw.of rfl (hts _ (List.mem_of_getElem? (i := 246) (by decide +kernel)))
  · exact va_Nw.of rfl (hts _ (List.mem_of_getElem? (i := 161) (by decide +kernel)))
  · obtain ⟨a, c, cA, kA, q1, -⟩ := Cond.exactly_spec (args := #[Value.ref b]) (first := s) (o := none) (s := s) (idx := []) (hs _ fl_ex9)
    exact ⟨a, vk_R.of (hts _ (List.mem_of_getElem? (i := 1028) (by decide +kernel))) q1⟩
  · exact va_Nw.of rfl (hts _ (List.mem_of_getElem? (i := 991) (by decide +kernel)))
  · exact va_Nw.of rfl (hts _ (List.mem_of_getElem? (i := 993) (by decide +kernel)))
  · exact va_Nw.of rfl (hts _ (List.mem_of_getElem? (i := 995) (by decide +kernel)))
  · exact va_Nw.of rfl (hts _ (List.mem_of_getElem? (i := 997) (by decide +kernel)))
  · exact vx_Zqof (hts _ (List.mem_of_getElem? (i := 1016) (by decide +kernel))) (hts _ (List.mem_of_getElem? (i := 105) (by decide +kernel))) (hs _ fl_us) hA
  · exact vx_Zqof (hts _ (List.mem_of_getElem? (i := 1018) (by decide +kernel))) (hts _ (List.mem_of_getElem? (i := 105) (by decide +kernel))) (hs _ fl_su) hA
