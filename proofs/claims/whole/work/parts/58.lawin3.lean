set_option maxRecDepth 20000 in
theorem li_wsL_law_r31 : ∀ w ∈ wsL_law_r31, w ∈ lw_tbl := fun w h => (goodIn_p wsL_law_r31 [863] (by decide +kernel) (by decide +kernel) w h).1
set_option maxRecDepth 20000 in
theorem li_X7 : ∀ w ∈ wsX70, w ∈ lw_tbl := fun w h => (goodIn_p wsX70 [] (by decide +kernel) (by decide +kernel) w h).1
set_option maxRecDepth 20000 in
theorem li_X8 : ∀ w ∈ wsX80, w ∈ lw_tbl := fun w h => (goodIn_p wsX80 [] (by decide +kernel) (by decide +kernel) w h).1
set_option maxRecDepth 20000 in
theorem li_X5 : ∀ w ∈ wsX50, w ∈ lw_tbl := fun w h => (goodIn_p wsX50 [] (by decide +kernel) (by decide +kernel) w h).1
set_option maxRecDepth 20000 in
theorem li_X6 : ∀ w ∈ wsX60, w ∈ lw_tbl := fun w h => (goodIn_p wsX60 [] (by decide +kernel) (by decide +kernel) w h).1
set_option maxRecDepth 20000 in
theorem li_X2 : ∀ w ∈ wsX20, w ∈ lw_tbl := fun w h => (goodIn_p wsX20 [] (by decide +kernel) (by decide +kernel) w h).1
set_option maxRecDepth 20000 in
theorem li_X4 : ∀ w ∈ wsX40, w ∈ lw_tbl := fun w h => (goodIn_p wsX40 [] (by decide +kernel) (by decide +kernel) w h).1
set_option maxRecDepth 20000 in
theorem li_X1 : ∀ w ∈ wsX10, w ∈ lw_tbl := fun w h => (goodIn_p wsX10 [] (by decide +kernel) (by decide +kernel) w h).1
set_option maxRecDepth 20000 in
theorem li_X3 : ∀ w ∈ wsX30, w ∈ lw_tbl := fun w h => (goodIn_p wsX30 [] (by decide +kernel) (by decide +kernel) w h).1
set_option maxRecDepth 20000 in
theorem li_X0 : ∀ w ∈ wsX00, w ∈ lw_tbl := fun w h => (goodIn_p wsX00 [] (by decide +kernel) (by decide +kernel) w h).1
theorem wsL_law_in : ∀ w ∈ wsL_law, w ∈ lw_tbl := by
  show ∀ w ∈ (wsL_law_r1 ++ (wsL_law_r2 ++ (wsL_law_r3 ++ (wsL_law_r4 ++ (wsL_law_r5 ++ (wsL_law_r6 ++ (wsL_law_r7 ++ (wsL_law_r8 ++ (wsL_law_r9 ++ (wsL_law_r10 ++ (wsL_law_r11 ++ (wsL_law_r12 ++ (wsL_law_r13 ++ (wsL_law_r14 ++ (wsL_law_r15 ++ (wsL_law_r16 ++ (wsL_law_r17 ++ (wsL_law_r18 ++ (wsL_law_r19 ++ (wsL_law_r20 ++ (wsL_law_r21 ++ (wsL_law_r22 ++ (wsL_law_r23 ++ (wsL_law_r24 ++ (wsL_law_r25 ++ (wsL_law_r26 ++ (wsL_law_r27 ++ (wsL_law_r28 ++ (wsL_law_r29 ++ (wsL_law_r30 ++ wsL_law_r31)))))))))))))))))))))))))))))) ++ wsX70 ++ wsX80 ++ wsX50 ++ wsX60 ++ wsX20 ++ wsX40 ++ wsX10 ++ wsX30 ++ wsX00 ++ ([] : List Cond), w ∈ lw_tbl
  exact List.forall_mem_append.mpr ⟨List.forall_mem_append.mpr ⟨List.forall_mem_append.mpr ⟨List.forall_mem_append.mpr ⟨List.forall_mem_append.mpr ⟨List.forall_mem_append.mpr ⟨List.forall_mem_append.mpr ⟨List.forall_mem_append.mpr ⟨List.forall_mem_append.mpr ⟨List.forall_mem_append.mpr ⟨List.forall_mem_append.mpr ⟨li_wsL_law_r1, List.forall_mem_append.mpr ⟨li_wsL_law_r2, List.forall_mem_append.mpr ⟨li_wsL_law_r3, List.forall_mem_append.mpr ⟨li_wsL_law_r4, List.forall_mem_append.mpr ⟨li_wsL_law_r5, List.forall_mem_append.mpr ⟨li_wsL_law_r6, List.forall_mem_append.mpr ⟨li_wsL_law_r7, List.forall_mem_append.mpr ⟨li_wsL_law_r8, List.forall_mem_append.mpr ⟨li_wsL_law_r9, List.forall_mem_append.mpr ⟨li_wsL_law_r10, List.forall_mem_append.mpr ⟨li_wsL_law_r11, List.forall_mem_append.mpr ⟨li_wsL_law_r12, List.forall_mem_append.mpr ⟨li_wsL_law_r13, List.forall_mem_append.mpr ⟨li_wsL_law_r14, List.forall_mem_append.mpr ⟨li_wsL_law_r15, List.forall_mem_append.mpr ⟨li_wsL_law_r16, List.forall_mem_append.mpr ⟨li_wsL_law_r17, List.forall_mem_append.mpr ⟨li_wsL_law_r18, List.forall_mem_append.mpr ⟨li_wsL_law_r19, List.forall_mem_append.mpr ⟨li_wsL_law_r20, List.forall_mem_append.mpr ⟨li_wsL_law_r21, List.forall_mem_append.mpr ⟨li_wsL_law_r22, List.forall_mem_append.mpr ⟨li_wsL_law_r23, List.forall_mem_append.mpr ⟨li_wsL_law_r24, List.forall_mem_append.mpr ⟨li_wsL_law_r25, List.forall_mem_append.mpr ⟨li_wsL_law_r26, List.forall_mem_append.mpr ⟨li_wsL_law_r27, List.forall_mem_append.mpr ⟨li_wsL_law_r28, List.forall_mem_append.mpr ⟨li_wsL_law_r29, List.forall_mem_append.mpr ⟨li_wsL_law_r30, li_wsL_law_r31⟩⟩⟩⟩⟩⟩⟩⟩⟩⟩⟩⟩⟩⟩⟩⟩⟩⟩⟩⟩⟩⟩⟩⟩⟩⟩⟩⟩⟩⟩, li_X7⟩, li_X8⟩, li_X5⟩, li_X6⟩, li_X2⟩, li_X4⟩, li_X1⟩, li_X3⟩, li_X0⟩, fun _ h => absurd h List.not_mem_nil⟩
