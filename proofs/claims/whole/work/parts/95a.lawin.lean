def lw_t7 : List (List Cond) := [tables_1_1, tables_1_2, tables_1_3, tables_1_4, tables_1_5, tables_1_6, k2_sels lw_privs]
theorem lw_t7_in : ∀ b ∈ lw_t7, ∀ w ∈ b, w ∈ lw_tbl := by
  unfold lw_t7
  exact List.forall_mem_cons.mpr ⟨fun w h => List.mem_append_right _ (List.mem_append_left _ h), List.forall_mem_cons.mpr ⟨fun w h => List.mem_append_right _ (List.mem_append_right _ (List.mem_append_left _ h)), List.forall_mem_cons.mpr ⟨fun w h => List.mem_append_right _ (List.mem_append_right _ (List.mem_append_right _ (List.mem_append_left _ h))), List.forall_mem_cons.mpr ⟨fun w h => List.mem_append_right _ (List.mem_append_right _ (List.mem_append_right _ (List.mem_append_right _ (List.mem_append_left _ h)))), List.forall_mem_cons.mpr ⟨fun w h => List.mem_append_right _ (List.mem_append_right _ (List.mem_append_right _ (List.mem_append_right _ (List.mem_append_right _ (List.mem_append_left _ h))))), List.forall_mem_cons.mpr ⟨fun w h => List.mem_append_right _ (List.mem_append_right _ (List.mem_append_right _ (List.mem_append_right _ (List.mem_append_right _ (List.mem_append_right _ h))))), List.forall_mem_cons.mpr ⟨fun w h => List.mem_append_left _ h, fun _ h => absurd h List.not_mem_nil⟩⟩⟩⟩⟩⟩⟩
def lw_pl (q : Nat × Nat) : Option Cond := (lw_t7[q.1]?.getD [])[q.2]?
theorem lw_pl_in {q : Nat × Nat} {w : Cond} (h : lw_pl q = some w) : w ∈ lw_tbl := by
  unfold lw_pl at h
  cases hb : lw_t7[q.1]? with
  | none => rw [hb] at h; cases h
  | some b =>
    rw [hb] at h
    exact lw_t7_in b (List.mem_of_getElem? hb) w (List.mem_of_getElem? h)
theorem lw_pin (ws : List Cond) (ps : List (Nat × Nat)) (hp : ws.map some = ps.map lw_pl) : ∀ w ∈ ws, w ∈ lw_tbl := by
  intro w hw
  have h1 : some w ∈ ws.map some := List.mem_map.mpr ⟨w, hw, rfl⟩
  rw [hp] at h1
  obtain ⟨q, -, hi⟩ := List.mem_map.mp h1
  exact lw_pl_in hi
theorem lw_pin2 (ws : List Cond) (ps : List (Nat × Nat)) (hp : ws.all (fun w => decide (w ∈ ps.filterMap lw_pl)) = true) : ∀ w ∈ ws, w ∈ lw_tbl := by
  intro w hw
  have h1 := of_decide_eq_true (List.all_eq_true.mp hp w hw)
  obtain ⟨q, -, hi⟩ := List.mem_filterMap.mp h1
  exact lw_pl_in hi
theorem lw_n1 : ∀ w ∈ wsL_law0_r1, w ∈ lw_tbl := lw_pin _ [(0, 26), (0, 27), (0, 1), (3, 207), (3, 208), (0, 7), (5, 104), (0, 28), (0, 29), (0, 30), (0, 31), (0, 32), (0, 33), (0, 34), (0, 35), (0, 2), (0, 187), (0, 57), (0, 58), (0, 3), (0, 188), (0, 189), (0, 190), (0, 88)] (by decide +kernel)
theorem lw_n2 : ∀ w ∈ wsL_law0_r2, w ∈ lw_tbl := lw_pin _ [(0, 191), (0, 90), (0, 193), (0, 92), (0, 194), (0, 94), (0, 196), (0, 56), (0, 198), (0, 96), (0, 97), (0, 4), (0, 199), (0, 122), (0, 123), (0, 5), (0, 200), (0, 149), (0, 6), (0, 37), (0, 38), (0, 39), (0, 40), (0, 60)] (by decide +kernel)
theorem lw_n3 : ∀ w ∈ wsL_law0_r3, w ∈ lw_tbl := lw_pin _ [(0, 61), (0, 62), (0, 63), (0, 64), (0, 65), (0, 66), (0, 67), (0, 70), (0, 99), (0, 100), (0, 101), (0, 102), (0, 103), (0, 104), (0, 105), (0, 106), (0, 125), (0, 126), (0, 127), (0, 148), (0, 128), (0, 129), (0, 130), (0, 133)] (by decide +kernel)
theorem lw_n4 : ∀ w ∈ wsL_law0_r4, w ∈ lw_tbl := lw_pin _ [(0, 134), (0, 151), (0, 152), (0, 153), (0, 154), (0, 155), (3, 209), (3, 210), (3, 211), (3, 212), (3, 216), (3, 217), (3, 218), (3, 219), (3, 220), (3, 221), (3, 222), (3, 223), (3, 224), (3, 225), (3, 226), (3, 228), (3, 229), (3, 230)] (by decide +kernel)
theorem lw_n5 : ∀ w ∈ wsL_law0_r5, w ∈ lw_tbl := lw_pin _ [(3, 231), (3, 232), (3, 233), (3, 234), (3, 235), (3, 236), (3, 237), (3, 238), (4, 0), (4, 1), (4, 4), (1, 137), (4, 6), (4, 11), (4, 12), (4, 13), (4, 15), (4, 16), (4, 17), (4, 18), (4, 19), (4, 21), (4, 22), (4, 23)] (by decide +kernel)
theorem lw_n6 : ∀ w ∈ wsL_law0_r6, w ∈ lw_tbl := lw_pin _ [(4, 25), (0, 236), (0, 237), (0, 238), (0, 239), (1, 0), (1, 1), (1, 2), (1, 3), (0, 42), (5, 2), (5, 3), (5, 4), (5, 5), (3, 213), (4, 7), (1, 4), (1, 5), (1, 6), (1, 7), (5, 6), (5, 7), (5, 8), (5, 9)] (by decide +kernel)
theorem lw_n7 : ∀ w ∈ wsL_law0_r7, w ∈ lw_tbl := lw_pin _ [(1, 61), (1, 62), (0, 0), (1, 63), (1, 64), (1, 65), (1, 66), (1, 67), (1, 68), (1, 69), (0, 11), (0, 192), (1, 138), (0, 12), (1, 140), (1, 141), (1, 142), (1, 143), (1, 145), (4, 137), (4, 138), (4, 139), (4, 140), (3, 227)] (by decide +kernel)
theorem lw_n8 : ∀ w ∈ wsL_law0_r8, w ∈ lw_tbl := lw_pin _ [(4, 141), (4, 143), (6, 24), (4, 144), (4, 133), (4, 134), (4, 135), (4, 136), (1, 158), (1, 159), (1, 160), (1, 161), (1, 162), (1, 163), (1, 164), (1, 165), (1, 166), (1, 190), (0, 14), (1, 207), (1, 208), (0, 15), (1, 167), (1, 169)] (by decide +kernel)
theorem lw_n9 : ∀ w ∈ wsL_law0_r9, w ∈ lw_tbl := lw_pin _ [(6, 6), (1, 170), (1, 171), (0, 13), (1, 187), (1, 188), (1, 189), (1, 209), (1, 210), (1, 211), (1, 212), (1, 224), (1, 226), (1, 227), (1, 213), (1, 215), (1, 216), (1, 218), (2, 7), (2, 8), (2, 9), (2, 10), (1, 147), (4, 145)] (by decide +kernel)
theorem lw_n10 : ∀ w ∈ wsL_law0_r10, w ∈ lw_tbl := lw_pin _ [(4, 146), (4, 147), (4, 148), (4, 149), (4, 151), (6, 25), (4, 152), (4, 153), (4, 154), (4, 155), (2, 11), (2, 12), (2, 13), (2, 14), (2, 15), (2, 16), (2, 17), (2, 18), (2, 20), (6, 7), (2, 21), (4, 156), (4, 157), (4, 158)] (by decide +kernel)
theorem lw_n11 : ∀ w ∈ wsL_law0_r11, w ∈ lw_tbl := lw_pin _ [(4, 159), (4, 160), (4, 161), (4, 162), (2, 24), (2, 25), (2, 26), (2, 27), (2, 28), (2, 29), (2, 30), (2, 31), (2, 32), (2, 33), (2, 34), (0, 43), (0, 45), (2, 35), (2, 36), (2, 37), (2, 38), (0, 68), (2, 39), (2, 41)] (by decide +kernel)
theorem lw_n12 : ∀ w ∈ wsL_law0_r12, w ∈ lw_tbl := lw_pin _ [(6, 8), (2, 42), (2, 44), (2, 46), (6, 9), (2, 47), (2, 48), (2, 50), (6, 10), (2, 51), (2, 52), (2, 54), (6, 11), (2, 55), (2, 56), (2, 57), (2, 58), (0, 16), (2, 59), (5, 123), (2, 60), (2, 61), (2, 62), (2, 63)] (by decide +kernel)
theorem lw_n13 : ∀ w ∈ wsL_law0_r13, w ∈ lw_tbl := lw_pin _ [(2, 64), (5, 124), (2, 66), (2, 67), (2, 68), (2, 69), (2, 70), (2, 71), (2, 72), (2, 73), (2, 74), (2, 75), (0, 17), (2, 76), (2, 77), (2, 78), (2, 79), (2, 80), (2, 82), (2, 83), (0, 18), (2, 84), (2, 85), (2, 86)] (by decide +kernel)
theorem lw_n14 : ∀ w ∈ wsL_law0_r14, w ∈ lw_tbl := lw_pin _ [(0, 19), (2, 87), (2, 88), (2, 89), (2, 90), (2, 91), (2, 92), (2, 93), (2, 94), (2, 95), (2, 96), (2, 97), (2, 98), (2, 100), (2, 102), (2, 105), (2, 107), (6, 12), (2, 108), (2, 109), (2, 111), (6, 13), (2, 112), (2, 114)] (by decide +kernel)
theorem lw_n15 : ∀ w ∈ wsL_law0_r15, w ∈ lw_tbl := lw_pin _ [(2, 116), (6, 14), (2, 117), (2, 122), (2, 123), (2, 124), (2, 125), (5, 10), (5, 11), (5, 12), (5, 13), (4, 9), (4, 10), (4, 3), (4, 2), (4, 5), (5, 14), (5, 16), (6, 34), (5, 17), (4, 8), (5, 18), (5, 20), (6, 35)] (by decide +kernel)
theorem lw_n16 : ∀ w ∈ wsL_law0_r16, w ∈ lw_tbl := lw_pin _ [(5, 21), (5, 22), (5, 24), (6, 36), (5, 25), (5, 26), (5, 28), (6, 37), (5, 29), (5, 30), (5, 32), (6, 38), (5, 33), (5, 35), (5, 37), (6, 39), (5, 38), (5, 39), (5, 40), (5, 41), (5, 43), (6, 40), (5, 44), (5, 47)] (by decide +kernel)
theorem lw_n17 : ∀ w ∈ wsL_law0_r17, w ∈ lw_tbl := lw_pin _ [(5, 49), (6, 41), (5, 50), (1, 8), (1, 9), (1, 10), (1, 11), (5, 54), (5, 55), (5, 56), (5, 57), (2, 127), (2, 128), (2, 129), (2, 130), (2, 131), (2, 132), (2, 133), (2, 134), (2, 135), (2, 136), (2, 137), (4, 181), (4, 182)] (by decide +kernel)
theorem lw_n18 : ∀ w ∈ wsL_law0_r18, w ∈ lw_tbl := lw_pin _ [(4, 183), (4, 184), (4, 185), (4, 187), (6, 29), (4, 188), (2, 139), (2, 140), (2, 141), (2, 142), (2, 143), (2, 144), (2, 145), (0, 201), (0, 202), (2, 146), (2, 147), (2, 148), (2, 151), (2, 153), (6, 15), (2, 154), (2, 155), (2, 156)] (by decide +kernel)
