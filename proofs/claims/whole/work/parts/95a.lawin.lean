def lw_t7 : List (List Cond) := [tables_1_1, tables_1_2, tables_1_3, tables_1_4, tables_1_5, tables_1_6, k2_sels lw_privs]
theorem lw_t7_in : ∀ b ∈ lw_t7, ∀ w ∈ b, w ∈ lw_tbl := by
  unfold lw_t7
  exact List.forall_mem_cons.mpr ⟨fun w h => List.mem_append_right _ (List.mem_append_left _ h), List.forall_mem_cons.mpr ⟨fun w h => List.mem_append_right _ (List.mem_append_right _ (List.mem_append_left _ h)), List.forall_mem_cons.mpr ⟨fun w h => List.mem_append_right _ (List.mem_append_right _ (List.mem_append_right _ (List.mem_append_left _ h))), List.forall_mem_cons.mpr ⟨fun w h => List.mem_append_right _ (List.mem_append_right _ (List.mem_append_right _ (List.mem_append_right _ (List.mem_append_left _ h)))), List.forall_mem_cons.mpr ⟨fun w h => List.mem_append_right _ (List.mem_append_right _ (List.mem_append_right _ (List.mem_append_right _ (List.mem_append_right _ (List.mem_append_left _ h))))), List.forall_mem_cons.mpr ⟨fun w h => List.mem_append_right _ (List.mem_append_right _ (List.mem_append_right _ (List.mem_append_right _ (List.mem_append_right _ (List.mem_append_right _ h))))), List.forall_mem_cons.mpr ⟨fun w h => List.mem_append_left _ h, fun _ h => absurd h List.not_mem_nil⟩⟩⟩⟩⟩⟩⟩
def lw_pl (q : Nat × Nat) : Option Cond := (lw_t7[q.1]?.getD [])[q.2]?
theorem lw_pl_in {q : Nat × Nat} {w : Cond} (h : lw_pl q = some w) : w ∈ lw_tbl := by
  unfold lw_pl at h
  cases hb : lw_t7[q.1]? with
  | none => rw [hb] at h; cases h
  | some b =>
    rw [hb] at h
    exact lw_t7_in b (List.mem_of_getElem? hb) w (List.mem_of_getElem? h)
theorem lw_pin (ws : List Cond) (ps : List (Nat × Nat)) (hp : ws.map some = ps.map lw_pl) : ∀ w ∈ ws, w ∈ lw_tbl := by
  intro w hw
  have h1 : some w ∈ ws.map some := List.mem_map.mpr ⟨w, hw, rfl⟩
  rw [hp] at h1
  obtain ⟨q, -, hi⟩ := List.mem_map.mp h1
  exact lw_pl_in hi
theorem lw_pin2 (ws : List Cond) (ps : List (Nat × Nat)) (hp : ws.all (fun w => decide (w ∈ ps.filterMap lw_pl)) = true) : ∀ w ∈ ws, w ∈ lw_tbl := by
  intro w hw
  have h1 := of_decide_eq_true (List.all_eq_true.mp hp w hw)
  obtain ⟨q, -, hi⟩ := List.mem_filterMap.mp h1
  exact lw_pl_in hi
theorem lw_n1 : ∀ w ∈ wsL_law0_r1, w ∈ lw_tbl := lw_pin _ [(0, 26), (0, 27), (0, 1), (3, 203), (3, 204), (0, 7), (5, 100), (0, 28), (0, 29), (0, 30), (0, 31), (0, 32), (0, 33), (0, 34), (0, 35), (0, 2), (0, 183), (0, 53), (0, 54), (0, 3), (0, 184), (0, 185), (0, 186), (0, 84)] (by decide +kernel)
theorem lw_n2 : ∀ w ∈ wsL_law0_r2, w ∈ lw_tbl := lw_pin _ [(0, 187), (0, 86), (0, 189), (0, 88), (0, 190), (0, 90), (0, 192), (0, 52), (0, 194), (0, 92), (0, 93), (0, 4), (0, 195), (0, 118), (0, 119), (0, 5), (0, 196), (0, 145), (0, 6), (0, 37), (0, 38), (0, 39), (0, 40), (0, 56)] (by decide +kernel)
theorem lw_n3 : ∀ w ∈ wsL_law0_r3, w ∈ lw_tbl := lw_pin _ [(0, 57), (0, 58), (0, 59), (0, 60), (0, 61), (0, 62), (0, 63), (0, 66), (0, 95), (0, 96), (0, 97), (0, 98), (0, 99), (0, 100), (0, 101), (0, 102), (0, 121), (0, 122), (0, 123), (0, 144), (0, 124), (0, 125), (0, 126), (0, 129)] (by decide +kernel)
theorem lw_n4 : ∀ w ∈ wsL_law0_r4, w ∈ lw_tbl := lw_pin _ [(0, 130), (0, 147), (0, 148), (0, 149), (0, 150), (0, 151), (3, 205), (3, 206), (3, 207), (3, 208), (3, 212), (3, 213), (3, 214), (3, 215), (3, 216), (3, 217), (3, 218), (3, 219), (3, 220), (3, 221), (3, 222), (3, 224), (3, 225), (3, 226)] (by decide +kernel)
theorem lw_n5 : ∀ w ∈ wsL_law0_r5, w ∈ lw_tbl := lw_pin _ [(3, 227), (3, 228), (3, 229), (3, 230), (3, 231), (3, 232), (3, 233), (3, 234), (3, 236), (3, 237), (4, 0), (1, 133), (4, 2), (4, 7), (4, 8), (4, 9), (4, 11), (4, 12), (4, 13), (4, 14), (4, 15), (4, 17), (4, 18), (4, 19)] (by decide +kernel)
theorem lw_n6 : ∀ w ∈ wsL_law0_r6, w ∈ lw_tbl := lw_pin _ [(4, 21), (0, 232), (0, 233), (0, 234), (0, 235), (0, 236), (0, 237), (0, 238), (0, 239), (0, 42), (4, 238), (4, 239), (5, 0), (5, 1), (3, 209), (4, 3), (1, 0), (1, 1), (1, 2), (1, 3), (5, 2), (5, 3), (5, 4), (5, 5)] (by decide +kernel)
theorem lw_n7 : ∀ w ∈ wsL_law0_r7, w ∈ lw_tbl := lw_pin _ [(1, 57), (1, 58), (0, 0), (1, 59), (1, 60), (1, 61), (1, 62), (1, 63), (1, 64), (1, 65), (0, 11), (0, 188), (1, 134), (0, 12), (1, 136), (1, 137), (1, 138), (1, 139), (1, 141), (4, 133), (4, 134), (4, 135), (4, 136), (3, 223)] (by decide +kernel)
theorem lw_n8 : ∀ w ∈ wsL_law0_r8, w ∈ lw_tbl := lw_pin _ [(4, 137), (4, 139), (6, 24), (4, 140), (4, 129), (4, 130), (4, 131), (4, 132), (1, 154), (1, 155), (1, 156), (1, 157), (1, 158), (1, 159), (1, 160), (1, 161), (1, 162), (1, 186), (0, 14), (1, 203), (1, 204), (0, 15), (1, 163), (1, 165)] (by decide +kernel)
theorem lw_n9 : ∀ w ∈ wsL_law0_r9, w ∈ lw_tbl := lw_pin _ [(6, 6), (1, 166), (1, 167), (0, 13), (1, 183), (1, 184), (1, 185), (1, 205), (1, 206), (1, 207), (1, 208), (1, 220), (1, 222), (1, 223), (1, 209), (1, 211), (1, 212), (1, 214), (2, 3), (2, 4), (2, 5), (2, 6), (1, 143), (4, 141)] (by decide +kernel)
theorem lw_n10 : ∀ w ∈ wsL_law0_r10, w ∈ lw_tbl := lw_pin _ [(4, 142), (4, 143), (4, 144), (4, 145), (4, 147), (6, 25), (4, 148), (4, 149), (4, 150), (4, 151), (2, 7), (2, 8), (2, 9), (2, 10), (2, 11), (2, 12), (2, 13), (2, 14), (2, 16), (6, 7), (2, 17), (4, 152), (4, 153), (4, 154)] (by decide +kernel)
theorem lw_n11 : ∀ w ∈ wsL_law0_r11, w ∈ lw_tbl := lw_pin _ [(4, 155), (4, 156), (4, 157), (4, 158), (2, 20), (2, 21), (2, 22), (2, 23), (2, 24), (2, 25), (2, 26), (2, 27), (2, 28), (2, 29), (2, 30), (0, 43), (2, 31), (2, 32), (2, 33), (2, 34), (0, 64), (2, 35), (2, 37), (6, 8)] (by decide +kernel)
theorem lw_n12 : ∀ w ∈ wsL_law0_r12, w ∈ lw_tbl := lw_pin _ [(2, 38), (2, 40), (2, 42), (6, 9), (2, 43), (2, 44), (2, 46), (6, 10), (2, 47), (2, 48), (2, 50), (6, 11), (2, 51), (2, 52), (2, 53), (2, 54), (0, 16), (2, 55), (5, 119), (2, 56), (2, 57), (2, 58), (2, 59), (2, 60)] (by decide +kernel)
theorem lw_n13 : ∀ w ∈ wsL_law0_r13, w ∈ lw_tbl := lw_pin _ [(5, 120), (2, 62), (2, 63), (2, 64), (2, 65), (2, 66), (2, 67), (2, 68), (2, 69), (2, 70), (2, 71), (0, 17), (2, 72), (2, 73), (2, 74), (2, 75), (2, 76), (2, 78), (2, 79), (0, 18), (2, 80), (2, 81), (2, 82), (0, 19)] (by decide +kernel)
theorem lw_n14 : ∀ w ∈ wsL_law0_r14, w ∈ lw_tbl := lw_pin _ [(2, 83), (2, 84), (2, 85), (2, 86), (2, 87), (2, 88), (2, 89), (2, 90), (2, 91), (2, 92), (2, 93), (2, 94), (2, 96), (2, 98), (2, 101), (2, 103), (6, 12), (2, 104), (2, 105), (2, 107), (6, 13), (2, 108), (2, 110), (2, 112)] (by decide +kernel)
theorem lw_n15 : ∀ w ∈ wsL_law0_r15, w ∈ lw_tbl := lw_pin _ [(6, 14), (2, 113), (2, 118), (2, 119), (2, 120), (2, 121), (5, 6), (5, 7), (5, 8), (5, 9), (4, 5), (4, 6), (3, 239), (3, 238), (4, 1), (5, 10), (5, 12), (6, 34), (5, 13), (4, 4), (5, 14), (5, 16), (6, 35), (5, 17)] (by decide +kernel)
theorem lw_n16 : ∀ w ∈ wsL_law0_r16, w ∈ lw_tbl := lw_pin _ [(5, 18), (5, 20), (6, 36), (5, 21), (5, 22), (5, 24), (6, 37), (5, 25), (5, 26), (5, 28), (6, 38), (5, 29), (5, 31), (5, 33), (6, 39), (5, 34), (5, 35), (5, 36), (5, 37), (5, 39), (6, 40), (5, 40), (5, 43), (5, 45)] (by decide +kernel)
theorem lw_n17 : ∀ w ∈ wsL_law0_r17, w ∈ lw_tbl := lw_pin _ [(6, 41), (5, 46), (1, 4), (1, 5), (1, 6), (1, 7), (5, 50), (5, 51), (5, 52), (5, 53), (2, 123), (2, 124), (2, 125), (2, 126), (2, 127), (2, 128), (2, 129), (2, 130), (2, 131), (2, 132), (2, 133), (4, 177), (4, 178), (4, 179)] (by decide +kernel)
theorem lw_n18 : ∀ w ∈ wsL_law0_r18, w ∈ lw_tbl := lw_pin _ [(4, 180), (4, 181), (4, 183), (6, 29), (4, 184), (2, 135), (2, 136), (2, 137), (2, 138), (2, 139), (2, 140), (2, 141), (0, 197), (0, 198), (2, 142), (2, 143), (2, 144), (2, 147), (2, 149), (6, 15), (2, 150), (2, 151), (2, 152), (2, 153)] (by decide +kernel)
