set_option maxRecDepth 20000 in
theorem lin_wsX120 : ∀ w ∈ wsX120, w ∈ lw_tbl := fun w h => (goodIn_p wsX120 [] (by decide +kernel) (by decide +kernel) w h).1
set_option maxRecDepth 20000 in
theorem lin_wsX130 : ∀ w ∈ wsX130, w ∈ lw_tbl := fun w h => (goodIn_p wsX130 [] (by decide +kernel) (by decide +kernel) w h).1
set_option maxRecDepth 20000 in
theorem lin_wsX80 : ∀ w ∈ wsX80, w ∈ lw_tbl := fun w h => (goodIn_p wsX80 [] (by decide +kernel) (by decide +kernel) w h).1
set_option maxRecDepth 20000 in
theorem lin_wsX20 : ∀ w ∈ wsX20, w ∈ lw_tbl := fun w h => (goodIn_p wsX20 [] (by decide +kernel) (by decide +kernel) w h).1
set_option maxRecDepth 20000 in
theorem lin_wsX30 : ∀ w ∈ wsX30, w ∈ lw_tbl := fun w h => (goodIn_p wsX30 [] (by decide +kernel) (by decide +kernel) w h).1
set_option maxRecDepth 20000 in
theorem lin_wsX90 : ∀ w ∈ wsX90, w ∈ lw_tbl := fun w h => (goodIn_p wsX90 [] (by decide +kernel) (by decide +kernel) w h).1
set_option maxRecDepth 20000 in
theorem lin_wsX70 : ∀ w ∈ wsX70, w ∈ lw_tbl := fun w h => (goodIn_p wsX70 [] (by decide +kernel) (by decide +kernel) w h).1
set_option maxRecDepth 20000 in
theorem lin_wsX110 : ∀ w ∈ wsX110, w ∈ lw_tbl := fun w h => (goodIn_p wsX110 [] (by decide +kernel) (by decide +kernel) w h).1
set_option maxRecDepth 20000 in
theorem lin_wsX10 : ∀ w ∈ wsX10, w ∈ lw_tbl := fun w h => (goodIn_p wsX10 [] (by decide +kernel) (by decide +kernel) w h).1
set_option maxRecDepth 20000 in
theorem lin_wsX60 : ∀ w ∈ wsX60, w ∈ lw_tbl := fun w h => (goodIn_p wsX60 [] (by decide +kernel) (by decide +kernel) w h).1
set_option maxRecDepth 20000 in
theorem lin_wsX50 : ∀ w ∈ wsX50, w ∈ lw_tbl := fun w h => (goodIn_p wsX50 [] (by decide +kernel) (by decide +kernel) w h).1
set_option maxRecDepth 20000 in
theorem lin_wsX40 : ∀ w ∈ wsX40, w ∈ lw_tbl := fun w h => (goodIn_p wsX40 [] (by decide +kernel) (by decide +kernel) w h).1
theorem wsL_law_in0 : ∀ w ∈ wsL_law0, w ∈ lw_tbl := by
  intro w h
  unfold wsL_law0 at h
  rcases List.mem_append.mp h with h | h
  rotate_left
  · cases h
  rcases List.mem_append.mp h with h | h
  rotate_left
  · exact lin_wsX40 w h
  rcases List.mem_append.mp h with h | h
  rotate_left
  · exact lin_wsX50 w h
  rcases List.mem_append.mp h with h | h
  rotate_left
  · exact lin_wsX60 w h
  rcases List.mem_append.mp h with h | h
  rotate_left
  · exact lin_wsX10 w h
  rcases List.mem_append.mp h with h | h
  rotate_left
  · exact lin_wsX110 w h
  rcases List.mem_append.mp h with h | h
  rotate_left
  · exact lin_wsX70 w h
  rcases List.mem_append.mp h with h | h
  rotate_left
  · exact lin_wsX90 w h
  rcases List.mem_append.mp h with h | h
  rotate_left
  · exact lin_wsX30 w h
  rcases List.mem_append.mp h with h | h
  rotate_left
  · exact lin_wsX20 w h
  rcases List.mem_append.mp h with h | h
  rotate_left
  · exact lin_wsX80 w h
  rcases List.mem_append.mp h with h | h
  rotate_left
  · exact lin_wsX130 w h
  rcases List.mem_append.mp h with h | h
  rotate_left
  · exact lin_wsX120 w h
  rcases List.mem_append.mp h with h | h
  · exact lin_r1 w h
  rcases List.mem_append.mp h with h | h
  · exact lin_r2 w h
  rcases List.mem_append.mp h with h | h
  · exact lin_r3 w h
  rcases List.mem_append.mp h with h | h
  · exact lin_r4 w h
  rcases List.mem_append.mp h with h | h
  · exact lin_r5 w h
  rcases List.mem_append.mp h with h | h
  · exact lin_r6 w h
  rcases List.mem_append.mp h with h | h
  · exact lin_r7 w h
  rcases List.mem_append.mp h with h | h
  · exact lin_r8 w h
  rcases List.mem_append.mp h with h | h
  · exact lin_r9 w h
  rcases List.mem_append.mp h with h | h
  · exact lin_r10 w h
  rcases List.mem_append.mp h with h | h
  · exact lin_r11 w h
  rcases List.mem_append.mp h with h | h
  · exact lin_r12 w h
  rcases List.mem_append.mp h with h | h
  · exact lin_r13 w h
  rcases List.mem_append.mp h with h | h
  · exact lin_r14 w h
  rcases List.mem_append.mp h with h | h
  · exact lin_r15 w h
  rcases List.mem_append.mp h with h | h
  · exact lin_r16 w h
  rcases List.mem_append.mp h with h | h
  · exact lin_r17 w h
  rcases List.mem_append.mp h with h | h
  · exact lin_r18 w h
  rcases List.mem_append.mp h with h | h
  · exact lin_r19 w h
  rcases List.mem_append.mp h with h | h
  · exact lin_r20 w h
  rcases List.mem_append.mp h with h | h
  · exact lin_r21 w h
  rcases List.mem_append.mp h with h | h
  · exact lin_r22 w h
  rcases List.mem_append.mp h with h | h
  · exact lin_r23 w h
  rcases List.mem_append.mp h with h | h
  · exact lin_r24 w h
  rcases List.mem_append.mp h with h | h
  · exact lin_r25 w h
  rcases List.mem_append.mp h with h | h
  · exact lin_r26 w h
  rcases List.mem_append.mp h with h | h
  · exact lin_r27 w h
  rcases List.mem_append.mp h with h | h
  · exact lin_r28 w h
  rcases List.mem_append.mp h with h | h
  · exact lin_r29 w h
  rcases List.mem_append.mp h with h | h
  · exact lin_r30 w h
  rcases List.mem_append.mp h with h | h
  · exact lin_r31 w h
  rcases List.mem_append.mp h with h | h
  · exact lin_r32 w h
  rcases List.mem_append.mp h with h | h
  · exact lin_r33 w h
  rcases List.mem_append.mp h with h | h
  · exact lin_r34 w h
  rcases List.mem_append.mp h with h | h
  · exact lin_r35 w h
  rcases List.mem_append.mp h with h | h
  · exact lin_r36 w h
  rcases List.mem_append.mp h with h | h
  · exact lin_r37 w h
  rcases List.mem_append.mp h with h | h
  · exact lin_r38 w h
  rcases List.mem_append.mp h with h | h
  · exact lin_r39 w h
  rcases List.mem_append.mp h with h | h
  · exact lin_r40 w h
  rcases List.mem_append.mp h with h | h
  · exact lin_r41 w h
  rcases List.mem_append.mp h with h | h
  · exact lin_r42 w h
  rcases List.mem_append.mp h with h | h
  · exact lin_r43 w h
  rcases List.mem_append.mp h with h | h
  · exact lin_r44 w h
  rcases List.mem_append.mp h with h | h
  · exact lin_r45 w h
  rcases List.mem_append.mp h with h | h
  · exact lin_r46 w h
  rcases List.mem_append.mp h with h | h
  · exact lin_r47 w h
  rcases List.mem_append.mp h with h | h
  · exact lin_r48 w h
  rcases List.mem_append.mp h with h | h
  · exact lin_r49 w h
  rcases List.mem_append.mp h with h | h
  · exact lin_r50 w h
  rcases List.mem_append.mp h with h | h
  · exact lin_r51 w h
  rcases List.mem_append.mp h with h | h
  · exact lin_r52 w h
  rcases List.mem_append.mp h with h | h
  · exact lin_r53 w h
  rcases List.mem_append.mp h with h | h
  · exact lin_r54 w h
  rcases List.mem_append.mp h with h | h
  · exact lin_r55 w h
  rcases List.mem_append.mp h with h | h
  · exact lin_r56 w h
  rcases List.mem_append.mp h with h | h
  · exact lin_r57 w h
  rcases List.mem_append.mp h with h | h
  · exact lin_r58 w h
  rcases List.mem_append.mp h with h | h
  · exact lin_r59 w h
  rcases List.mem_append.mp h with h | h
  · exact lin_r60 w h
  rcases List.mem_append.mp h with h | h
  · exact lin_r61 w h
  rcases List.mem_append.mp h with h | h
  · exact lin_r62 w h
  rcases List.mem_append.mp h with h | h
  · exact lin_r63 w h
  rcases List.mem_append.mp h with h | h
  · exact lin_r64 w h
  rcases List.mem_append.mp h with h | h
  · exact lin_r65 w h
  rcases List.mem_append.mp h with h | h
  · exact lin_r66 w h
  exact lin_r67 w h
