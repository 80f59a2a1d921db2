set_option maxRecDepth 20000 in
theorem wsL_law_in0_r8 : ∀ w ∈ wsL_law0_r8, w ∈ lw_tbl := fun w h => (goodIn_p wsL_law0_r8 [361, 368, 372, 462, 468, 472] (by decide +kernel) (by decide +kernel) w h).1
set_option maxRecDepth 20000 in
theorem wsL_law_in0_r9 : ∀ w ∈ wsL_law0_r9, w ∈ lw_tbl := fun w h => (goodIn_p wsL_law0_r9 [476, 481, 484, 488, 493, 497] (by decide +kernel) (by decide +kernel) w h).1
set_option maxRecDepth 20000 in
theorem wsL_law_in0_r10 : ∀ w ∈ wsL_law0_r10, w ∈ lw_tbl := fun w h => (goodIn_p wsL_law0_r10 [501, 443, 246, 447, 419, 423] (by decide +kernel) (by decide +kernel) w h).1
set_option maxRecDepth 20000 in
theorem wsL_law_in0_r11 : ∀ w ∈ wsL_law0_r11, w ∈ lw_tbl := fun w h => (goodIn_p wsL_law0_r11 [427, 505, 430, 379, 376, 508, 512] (by decide +kernel) (by decide +kernel) w h).1
set_option maxRecDepth 20000 in
theorem wsL_law_in0_r12 : ∀ w ∈ wsL_law0_r12, w ∈ lw_tbl := fun w h => (goodIn_p wsL_law0_r12 [517, 521, 243, 526, 531, 382, 385] (by decide +kernel) (by decide +kernel) w h).1
set_option maxRecDepth 20000 in
theorem wsL_law_in0_r13 : ∀ w ∈ wsL_law0_r13, w ∈ lw_tbl := fun w h => (goodIn_p wsL_law0_r13 [135, 207, 211, 215, 223] (by decide +kernel) (by decide +kernel) w h).1
set_option maxRecDepth 20000 in
theorem wsL_law_in0_r14 : ∀ w ∈ wsL_law0_r14, w ∈ lw_tbl := fun w h => (goodIn_p wsL_law0_r14 [235, 239, 388, 392, 396, 402] (by decide +kernel) (by decide +kernel) w h).1
set_option maxRecDepth 20000 in
theorem wsL_law_in0_r15 : ∀ w ∈ wsL_law0_r15, w ∈ lw_tbl := fun w h => (goodIn_p wsL_law0_r15 [406, 411, 415, 434, 439] (by decide +kernel) (by decide +kernel) w h).1
theorem inq_wsX00 : ∀ w ∈ wsX00, w ∈ lw_tbl := by decide +kernel
theorem inq_wsX20 : ∀ w ∈ wsX20, w ∈ lw_tbl := by decide +kernel
theorem inq_wsX30 : ∀ w ∈ wsX30, w ∈ lw_tbl := by decide +kernel
theorem inq_wsX10 : ∀ w ∈ wsX10, w ∈ lw_tbl := by decide +kernel
theorem inq_wsX40 : ∀ w ∈ wsX40, w ∈ lw_tbl := by decide +kernel
set_option maxRecDepth 20000 in
theorem wsL_law_in0 : ∀ w ∈ wsL_law0, w ∈ lw_tbl := by
  intro w h
  unfold wsL_law0 at h
  rcases List.mem_append.mp h with h | h
  rotate_left
  · exact absurd h List.not_mem_nil
  rcases List.mem_append.mp h with h | h
  rotate_left
  · exact inq_wsX00 w h
  rcases List.mem_append.mp h with h | h
  rotate_left
  · exact inq_wsX20 w h
  rcases List.mem_append.mp h with h | h
  rotate_left
  · exact inq_wsX30 w h
  rcases List.mem_append.mp h with h | h
  rotate_left
  · exact inq_wsX10 w h
  rcases List.mem_append.mp h with h | h
  rotate_left
  · exact inq_wsX40 w h
  rcases List.mem_append.mp h with h | h
  · exact wsL_law_in0_r1 w h
  rcases List.mem_append.mp h with h | h
  · exact wsL_law_in0_r2 w h
  rcases List.mem_append.mp h with h | h
  · exact wsL_law_in0_r3 w h
  rcases List.mem_append.mp h with h | h
  · exact wsL_law_in0_r4 w h
  rcases List.mem_append.mp h with h | h
  · exact wsL_law_in0_r5 w h
  rcases List.mem_append.mp h with h | h
  · exact wsL_law_in0_r6 w h
  rcases List.mem_append.mp h with h | h
  · exact wsL_law_in0_r7 w h
  rcases List.mem_append.mp h with h | h
  · exact wsL_law_in0_r8 w h
  rcases List.mem_append.mp h with h | h
  · exact wsL_law_in0_r9 w h
  rcases List.mem_append.mp h with h | h
  · exact wsL_law_in0_r10 w h
  rcases List.mem_append.mp h with h | h
  · exact wsL_law_in0_r11 w h
  rcases List.mem_append.mp h with h | h
  · exact wsL_law_in0_r12 w h
  rcases List.mem_append.mp h with h | h
  · exact wsL_law_in0_r13 w h
  rcases List.mem_append.mp h with h | h
  · exact wsL_law_in0_r14 w h
  exact wsL_law_in0_r15 w h
