/-! THE LAW: its words, by their places in the tables; its calls; its rows -/
def blt : List (List Cond) := [k2_sels lw_privs, tables_1_1, tables_1_2, tables_1_3, tables_1_4]
theorem blt_in : ∀ l ∈ blt, ∀ w ∈ l, w ∈ lw_tbl := by
  intro l hl w hw
  unfold lw_tbl tables_1
  unfold blt at hl
  rcases List.mem_cons.mp hl with h | hl
  · rw [h] at hw; exact List.mem_append_left _ hw
  rcases List.mem_cons.mp hl with h | hl
  · rw [h] at hw; exact List.mem_append_right _ (List.mem_append_left _ hw)
  rcases List.mem_cons.mp hl with h | hl
  · rw [h] at hw; exact List.mem_append_right _ (List.mem_append_right _ (List.mem_append_left _ hw))
  rcases List.mem_cons.mp hl with h | hl
  · rw [h] at hw; exact List.mem_append_right _ (List.mem_append_right _ (List.mem_append_right _ (List.mem_append_left _ hw)))
  rcases List.mem_cons.mp hl with h | hl
  · rw [h] at hw; exact List.mem_append_right _ (List.mem_append_right _ (List.mem_append_right _ (List.mem_append_right _ hw)))
  cases hl
def bltW (q : Nat × Nat) : Option Cond := match blt[q.1]? with
  | some l => l[q.2]?
  | none => none
theorem mem_b (ws : List Cond) (ps : List (Nat × Nat)) (hp : ws = ps.filterMap bltW) : ∀ w ∈ ws, w ∈ lw_tbl := by
  intro w hw
  rw [hp] at hw
  obtain ⟨q, -, h⟩ := List.mem_filterMap.mp hw
  unfold bltW at h
  cases hb : blt[q.1]? with
  | none => rw [hb] at h; cases h
  | some l =>
    rw [hb] at h
    exact blt_in l (List.mem_of_getElem? hb) w (List.mem_of_getElem? h)
set_option maxRecDepth 100000 in
theorem in_wsL_law_r1 : ∀ w ∈ wsL_law_r1, w ∈ lw_tbl := mem_b _ [(1, 15), (1, 16), (1, 1), (3, 96), (3, 97), (1, 6), (4, 207), (1, 17), (1, 18), (1, 19), (1, 20), (1, 21), (1, 22), (1, 23), (1, 24), (1, 2), (1, 142), (1, 64), (1, 65), (1, 3), (1, 143), (1, 144), (1, 145), (1, 92)] (by rfl)
set_option maxRecDepth 100000 in
theorem in_wsL_law_r2 : ∀ w ∈ wsL_law_r2, w ∈ lw_tbl := mem_b _ [(1, 93), (1, 4), (1, 146), (1, 147), (1, 140), (1, 148), (1, 112), (1, 113), (1, 5), (1, 149), (1, 26), (1, 27), (1, 28), (1, 31), (1, 32), (1, 33), (1, 34), (1, 35), (1, 37), (1, 38), (1, 63), (1, 41), (1, 42), (1, 43)] (by rfl)
set_option maxRecDepth 100000 in
theorem in_wsL_law_r3 : ∀ w ∈ wsL_law_r3, w ∈ lw_tbl := mem_b _ [(1, 67), (1, 68), (1, 69), (1, 70), (1, 71), (1, 72), (1, 73), (1, 74), (1, 94), (1, 95), (1, 96), (1, 97), (1, 98), (1, 101), (1, 115), (1, 116), (1, 117), (1, 141), (1, 118), (1, 123), (3, 98), (3, 99), (3, 100), (3, 101)] (by rfl)
set_option maxRecDepth 100000 in
theorem in_wsL_law_r4 : ∀ w ∈ wsL_law_r4, w ∈ lw_tbl := mem_b _ [(3, 103), (3, 104), (3, 106), (3, 107), (3, 108), (3, 110), (3, 111), (3, 112), (3, 113), (3, 114), (3, 115), (3, 116), (3, 117), (3, 118), (3, 119), (3, 120), (3, 123), (3, 102), (1, 167), (1, 168), (1, 169), (1, 170), (1, 171), (1, 172)] (by rfl)
set_option maxRecDepth 100000 in
theorem in_wsL_law_r5 : ∀ w ∈ wsL_law_r5, w ∈ lw_tbl := mem_b _ [(1, 173), (1, 174), (1, 102), (1, 103), (1, 175), (1, 176), (1, 177), (1, 178), (1, 179), (1, 181), (1, 180), (1, 7), (1, 45), (1, 48), (1, 182), (1, 183), (1, 184), (1, 185), (1, 187), (1, 188), (1, 193), (1, 195), (0, 0), (1, 196)] (by rfl)
set_option maxRecDepth 100000 in
theorem in_wsL_law_r6 : ∀ w ∈ wsL_law_r6, w ∈ lw_tbl := mem_b _ [(1, 197), (1, 198), (1, 199), (1, 200), (1, 201), (1, 202), (1, 203), (1, 204), (1, 44), (1, 75), (1, 47), (1, 76), (1, 205), (1, 207), (0, 1), (1, 208), (1, 209), (1, 210), (1, 211), (1, 212), (1, 213), (1, 214), (1, 215), (1, 216)] (by rfl)
set_option maxRecDepth 100000 in
theorem in_wsL_law_r7 : ∀ w ∈ wsL_law_r7, w ∈ lw_tbl := mem_b _ [(1, 217), (1, 219), (0, 2), (1, 220), (1, 221), (1, 222), (1, 223), (1, 224), (1, 225), (1, 227), (0, 3), (1, 228), (1, 40), (2, 16), (2, 17), (1, 8), (2, 18), (1, 229), (1, 231), (0, 4), (1, 232), (1, 233), (1, 235), (0, 5)] (by rfl)
set_option maxRecDepth 100000 in
theorem in_wsL_law_r8 : ∀ w ∈ wsL_law_r8, w ∈ lw_tbl := mem_b _ [(1, 236), (1, 237), (1, 239), (0, 6), (2, 0), (2, 1), (2, 2), (2, 3), (2, 4), (2, 5), (2, 7), (0, 7), (2, 8), (2, 13), (2, 14), (2, 15), (2, 9), (2, 10), (2, 11), (2, 12), (2, 19), (2, 21), (0, 8), (2, 22)] (by rfl)
set_option maxRecDepth 100000 in
theorem in_wsL_law_r9 : ∀ w ∈ wsL_law_r9, w ∈ lw_tbl := mem_b _ [(2, 23), (2, 25), (0, 9), (2, 26), (2, 27), (2, 29), (0, 10), (2, 30), (2, 31), (2, 32), (2, 33), (2, 34), (2, 35), (2, 37), (0, 11), (2, 38), (3, 172), (3, 173), (3, 174), (3, 175), (3, 176), (3, 177), (3, 178), (3, 179)] (by rfl)
set_option maxRecDepth 100000 in
theorem in_wsL_law_r10 : ∀ w ∈ wsL_law_r10, w ∈ lw_tbl := mem_b _ [(3, 180), (3, 181), (3, 182), (3, 184), (0, 23), (3, 185), (3, 105), (2, 39), (2, 40), (2, 41), (2, 42), (2, 43), (2, 44), (2, 45), (2, 46), (2, 48), (2, 49), (2, 50), (2, 51), (2, 52), (2, 53), (2, 54), (2, 55), (2, 56)] (by rfl)
set_option maxRecDepth 100000 in
theorem in_wsL_law_r11 : ∀ w ∈ wsL_law_r11, w ∈ lw_tbl := mem_b _ [(2, 57), (3, 186), (3, 187), (3, 188), (3, 189), (3, 190), (3, 192), (0, 24), (3, 193), (3, 194), (3, 195), (3, 196), (3, 197), (3, 199), (0, 25), (3, 200), (2, 58), (2, 59), (2, 60), (2, 61), (2, 62), (2, 63), (2, 64), (2, 65)] (by rfl)
set_option maxRecDepth 100000 in
theorem in_wsL_law_r12 : ∀ w ∈ wsL_law_r12, w ∈ lw_tbl := mem_b _ [(2, 66), (2, 67), (2, 68), (2, 69), (3, 201), (3, 202), (3, 203), (3, 204), (3, 205), (3, 207), (0, 26), (3, 208), (3, 209), (3, 211), (0, 27), (3, 212), (2, 70), (2, 71), (2, 72), (2, 73), (2, 74), (2, 75), (2, 76), (2, 77)] (by rfl)
set_option maxRecDepth 100000 in
theorem in_wsL_law_r13 : ∀ w ∈ wsL_law_r13, w ∈ lw_tbl := mem_b _ [(3, 213), (3, 214), (3, 215), (3, 216), (3, 217), (3, 219), (0, 28), (3, 220), (3, 221), (3, 223), (0, 29), (3, 224), (2, 78), (2, 79), (2, 80), (2, 81), (2, 82), (2, 83), (2, 84), (2, 85), (2, 86), (2, 87), (2, 88), (2, 89)] (by rfl)
set_option maxRecDepth 100000 in
theorem in_wsL_law_r14 : ∀ w ∈ wsL_law_r14, w ∈ lw_tbl := mem_b _ [(3, 225), (3, 226), (3, 227), (3, 228), (3, 229), (3, 231), (0, 30), (3, 232), (3, 233), (3, 235), (0, 31), (3, 236), (3, 237), (3, 239), (0, 32), (4, 0), (2, 91), (2, 92), (2, 93), (2, 94), (2, 95), (2, 96), (2, 97), (4, 1)] (by rfl)
set_option maxRecDepth 100000 in
theorem in_wsL_law_r15 : ∀ w ∈ wsL_law_r15, w ∈ lw_tbl := mem_b _ [(4, 2), (4, 3), (4, 4), (4, 5), (4, 7), (0, 33), (4, 8), (4, 9), (4, 11), (0, 34), (4, 12), (4, 13), (4, 15), (0, 35), (4, 16), (4, 17), (4, 19), (0, 36), (4, 20), (4, 21), (4, 23), (0, 37), (4, 24), (4, 25)] (by rfl)
set_option maxRecDepth 100000 in
theorem in_wsL_law_r16 : ∀ w ∈ wsL_law_r16, w ∈ lw_tbl := mem_b _ [(4, 27), (0, 38), (4, 28), (4, 29), (4, 31), (0, 39), (4, 32), (4, 33), (4, 35), (0, 40), (4, 36), (4, 37), (4, 39), (0, 41), (4, 40), (4, 41), (4, 43), (0, 42), (4, 44), (4, 45), (4, 47), (0, 43), (4, 48), (2, 98)] (by rfl)
set_option maxRecDepth 100000 in
theorem in_wsL_law_r17 : ∀ w ∈ wsL_law_r17, w ∈ lw_tbl := mem_b _ [(2, 99), (2, 100), (2, 101), (2, 102), (2, 103), (2, 104), (4, 49), (4, 50), (4, 51), (4, 52), (4, 53), (4, 55), (0, 44), (4, 56), (4, 57), (4, 59), (0, 45), (4, 60), (2, 105), (2, 106), (2, 107), (2, 108), (2, 109), (2, 110)] (by rfl)
set_option maxRecDepth 100000 in
theorem in_wsL_law_r18 : ∀ w ∈ wsL_law_r18, w ∈ lw_tbl := mem_b _ [(4, 61), (4, 62), (4, 63), (4, 64), (2, 111), (2, 112), (2, 113), (2, 114), (2, 115), (2, 116), (2, 117), (2, 118), (4, 65), (4, 66), (4, 67), (4, 68), (4, 69), (4, 71), (0, 46), (4, 72), (4, 73), (4, 75), (0, 47), (4, 76)] (by rfl)
set_option maxRecDepth 100000 in
theorem in_wsL_law_r19 : ∀ w ∈ wsL_law_r19, w ∈ lw_tbl := mem_b _ [(2, 119), (2, 120), (2, 121), (2, 122), (1, 46), (1, 49), (1, 39), (1, 120), (1, 104), (2, 123), (2, 124), (2, 125), (2, 126), (2, 127), (2, 128), (2, 129), (2, 130), (2, 131), (2, 132), (2, 133), (2, 134), (2, 135), (2, 136), (2, 137)] (by rfl)
set_option maxRecDepth 100000 in
theorem in_wsL_law_r20 : ∀ w ∈ wsL_law_r20, w ∈ lw_tbl := mem_b _ [(2, 138), (2, 139), (4, 77), (4, 78), (4, 79), (4, 80), (3, 109), (4, 81), (4, 83), (0, 48), (4, 84), (4, 85), (4, 87), (0, 49), (4, 88), (2, 140), (2, 141), (2, 142), (2, 143), (4, 89), (4, 90), (4, 91), (4, 92), (2, 144)] (by rfl)
set_option maxRecDepth 100000 in
theorem in_wsL_law_r21 : ∀ w ∈ wsL_law_r21, w ∈ lw_tbl := mem_b _ [(2, 145), (2, 146), (2, 147), (2, 148), (2, 149), (2, 150), (2, 151), (4, 93), (4, 94), (4, 95), (4, 96), (4, 97), (4, 98), (1, 9), (4, 99), (4, 103), (4, 105), (4, 104), (1, 9), (4, 106), (4, 100), (4, 101), (4, 102), (2, 152)] (by rfl)
set_option maxRecDepth 100000 in
theorem in_wsL_law_r22 : ∀ w ∈ wsL_law_r22, w ∈ lw_tbl := mem_b _ [(2, 153), (2, 154), (2, 155), (2, 156), (4, 107), (4, 108), (4, 109), (4, 110), (4, 111), (4, 112), (4, 113), (1, 10), (4, 114), (4, 118), (4, 120), (4, 119), (1, 10), (4, 121), (4, 115), (4, 116), (4, 117), (2, 157), (2, 158), (2, 159)] (by rfl)
set_option maxRecDepth 100000 in
theorem in_wsL_law_r23 : ∀ w ∈ wsL_law_r23, w ∈ lw_tbl := mem_b _ [(2, 160), (2, 161), (2, 162), (2, 163), (4, 122), (4, 123), (4, 124), (4, 125), (2, 164), (2, 165), (2, 166), (2, 167), (4, 126), (4, 127), (4, 128), (4, 129), (2, 168), (2, 169), (2, 170), (2, 171), (2, 172), (2, 177), (2, 173), (2, 175)] (by rfl)
set_option maxRecDepth 100000 in
theorem in_wsL_law_r24 : ∀ w ∈ wsL_law_r24, w ∈ lw_tbl := mem_b _ [(0, 12), (2, 176), (4, 130), (4, 131), (4, 132), (4, 133), (4, 134), (4, 136), (0, 50), (4, 137), (2, 178), (2, 179), (2, 180), (2, 181), (2, 182), (2, 183), (2, 184), (2, 185), (2, 186), (1, 119), (4, 138), (4, 139), (4, 140), (4, 141)] (by rfl)
set_option maxRecDepth 100000 in
theorem in_wsL_law_r25 : ∀ w ∈ wsL_law_r25, w ∈ lw_tbl := mem_b _ [(4, 142), (2, 188), (2, 189), (2, 190), (2, 191), (4, 143), (4, 144), (4, 145), (4, 146), (2, 192), (2, 193), (2, 194), (2, 195), (2, 196), (2, 197), (2, 198), (2, 199), (1, 121), (2, 200), (2, 201), (2, 202), (2, 203), (2, 204), (2, 205)] (by rfl)
set_option maxRecDepth 100000 in
theorem in_wsL_law_r26 : ∀ w ∈ wsL_law_r26, w ∈ lw_tbl := mem_b _ [(2, 206), (2, 207), (1, 125), (1, 122), (2, 208), (2, 210), (0, 13), (2, 211), (2, 212), (2, 214), (0, 14), (2, 215), (2, 216), (2, 217), (2, 218), (2, 224), (2, 225), (2, 226), (1, 11), (2, 227), (4, 208), (2, 228), (2, 229), (2, 230)] (by rfl)
set_option maxRecDepth 100000 in
theorem in_wsL_law_r27 : ∀ w ∈ wsL_law_r27, w ∈ lw_tbl := mem_b _ [(2, 231), (2, 232), (2, 233), (2, 234), (2, 235), (2, 236), (4, 209), (2, 238), (2, 239), (3, 0), (3, 1), (3, 2), (3, 3), (3, 4), (3, 5), (3, 6), (3, 7), (1, 12), (3, 8), (3, 9), (3, 10), (3, 11), (3, 12), (3, 14)] (by rfl)
set_option maxRecDepth 100000 in
theorem in_wsL_law_r28 : ∀ w ∈ wsL_law_r28, w ∈ lw_tbl := mem_b _ [(3, 15), (1, 13), (3, 16), (3, 17), (3, 18), (1, 14), (3, 19), (3, 20), (3, 21), (3, 22), (3, 23), (3, 24), (3, 25), (3, 26), (3, 27), (3, 28), (3, 29), (3, 30), (3, 32), (3, 34), (3, 36), (3, 38), (0, 15), (3, 39)] (by rfl)
set_option maxRecDepth 100000 in
theorem in_wsL_law_r29 : ∀ w ∈ wsL_law_r29, w ∈ lw_tbl := mem_b _ [(3, 40), (3, 42), (0, 16), (3, 43), (3, 44), (3, 46), (0, 17), (3, 47), (3, 48), (3, 50), (0, 18), (3, 51), (3, 52), (3, 54), (0, 19), (3, 55), (3, 56), (3, 58), (0, 20), (3, 59), (3, 60), (3, 61), (3, 62), (3, 63)] (by rfl)
set_option maxRecDepth 100000 in
theorem in_wsL_law_r30 : ∀ w ∈ wsL_law_r30, w ∈ lw_tbl := mem_b _ [(4, 147), (4, 148), (4, 149), (4, 150), (4, 151), (4, 153), (0, 51), (4, 154), (3, 121), (3, 122), (3, 124), (4, 155), (4, 157), (0, 52), (4, 158), (4, 159), (4, 161), (0, 53), (4, 162), (4, 163), (4, 165), (0, 54), (4, 166), (4, 167)] (by rfl)
set_option maxRecDepth 100000 in
theorem in_wsL_law_r31 : ∀ w ∈ wsL_law_r31, w ∈ lw_tbl := mem_b _ [(4, 169), (0, 55), (4, 170), (4, 171), (4, 173), (0, 56), (4, 174), (4, 175), (4, 177), (0, 57), (4, 178), (4, 179), (4, 181), (0, 58), (4, 182), (3, 65), (3, 66), (3, 67), (3, 68), (3, 69), (3, 71), (0, 21), (3, 72), (3, 73)] (by rfl)
set_option maxRecDepth 100000 in
theorem in_wsL_law_r32 : ∀ w ∈ wsL_law_r32, w ∈ lw_tbl := mem_b _ [(3, 74), (3, 75), (3, 76), (3, 78), (0, 22), (3, 79), (1, 124), (1, 126), (4, 183), (4, 184), (4, 185), (4, 186), (4, 187), (4, 189), (0, 59), (4, 190), (4, 191), (4, 193), (0, 60), (4, 194), (3, 80), (3, 81), (3, 82), (3, 83)] (by rfl)
set_option maxRecDepth 100000 in
theorem in_wsL_law_r33 : ∀ w ∈ wsL_law_r33, w ∈ lw_tbl := mem_b _ [(3, 84), (3, 85), (3, 86), (3, 87), (4, 195), (4, 196), (4, 197), (4, 198), (3, 88), (3, 89), (3, 90), (3, 91), (4, 199), (4, 200), (4, 201), (4, 202), (3, 92), (3, 93), (3, 94), (3, 95), (4, 203), (4, 204), (4, 205), (4, 206)] (by rfl)
theorem inZ0 : ∀ w ∈ wsX00, w ∈ lw_tbl := by decide +kernel
theorem inZ1 : ∀ w ∈ wsX10, w ∈ lw_tbl := by decide +kernel
theorem inZ2 : ∀ w ∈ wsX20, w ∈ lw_tbl := by decide +kernel
theorem inZ3 : ∀ w ∈ wsX30, w ∈ lw_tbl := by decide +kernel
theorem inZ4 : ∀ w ∈ wsX40, w ∈ lw_tbl := by decide +kernel
theorem inZ5 : ∀ w ∈ wsX50, w ∈ lw_tbl := by decide +kernel
theorem wsL_big : ∀ w ∈ (wsL_law_r1 ++ (wsL_law_r2 ++ (wsL_law_r3 ++ (wsL_law_r4 ++ (wsL_law_r5 ++ (wsL_law_r6 ++ (wsL_law_r7 ++ (wsL_law_r8 ++ (wsL_law_r9 ++ (wsL_law_r10 ++ (wsL_law_r11 ++ (wsL_law_r12 ++ (wsL_law_r13 ++ (wsL_law_r14 ++ (wsL_law_r15 ++ (wsL_law_r16 ++ (wsL_law_r17 ++ (wsL_law_r18 ++ (wsL_law_r19 ++ (wsL_law_r20 ++ (wsL_law_r21 ++ (wsL_law_r22 ++ (wsL_law_r23 ++ (wsL_law_r24 ++ (wsL_law_r25 ++ (wsL_law_r26 ++ (wsL_law_r27 ++ (wsL_law_r28 ++ (wsL_law_r29 ++ (wsL_law_r30 ++ (wsL_law_r31 ++ (wsL_law_r32 ++ wsL_law_r33)))))))))))))))))))))))))))))))), w ∈ lw_tbl := by
  intro w h
  rcases List.mem_append.mp h with h | h
  · exact in_wsL_law_r1 w h
  rcases List.mem_append.mp h with h | h
  · exact in_wsL_law_r2 w h
  rcases List.mem_append.mp h with h | h
  · exact in_wsL_law_r3 w h
  rcases List.mem_append.mp h with h | h
  · exact in_wsL_law_r4 w h
  rcases List.mem_append.mp h with h | h
  · exact in_wsL_law_r5 w h
  rcases List.mem_append.mp h with h | h
  · exact in_wsL_law_r6 w h
  rcases List.mem_append.mp h with h | h
  · exact in_wsL_law_r7 w h
  rcases List.mem_append.mp h with h | h
  · exact in_wsL_law_r8 w h
  rcases List.mem_append.mp h with h | h
  · exact in_wsL_law_r9 w h
  rcases List.mem_append.mp h with h | h
  · exact in_wsL_law_r10 w h
  rcases List.mem_append.mp h with h | h
  · exact in_wsL_law_r11 w h
  rcases List.mem_append.mp h with h | h
  · exact in_wsL_law_r12 w h
  rcases List.mem_append.mp h with h | h
  · exact in_wsL_law_r13 w h
  rcases List.mem_append.mp h with h | h
  · exact in_wsL_law_r14 w h
  rcases List.mem_append.mp h with h | h
  · exact in_wsL_law_r15 w h
  rcases List.mem_append.mp h with h | h
  · exact in_wsL_law_r16 w h
  rcases List.mem_append.mp h with h | h
  · exact in_wsL_law_r17 w h
  rcases List.mem_append.mp h with h | h
  · exact in_wsL_law_r18 w h
  rcases List.mem_append.mp h with h | h
  · exact in_wsL_law_r19 w h
  rcases List.mem_append.mp h with h | h
  · exact in_wsL_law_r20 w h
  rcases List.mem_append.mp h with h | h
  · exact in_wsL_law_r21 w h
  rcases List.mem_append.mp h with h | h
  · exact in_wsL_law_r22 w h
  rcases List.mem_append.mp h with h | h
  · exact in_wsL_law_r23 w h
  rcases List.mem_append.mp h with h | h
  · exact in_wsL_law_r24 w h
  rcases List.mem_append.mp h with h | h
  · exact in_wsL_law_r25 w h
  rcases List.mem_append.mp h with h | h
  · exact in_wsL_law_r26 w h
  rcases List.mem_append.mp h with h | h
  · exact in_wsL_law_r27 w h
  rcases List.mem_append.mp h with h | h
  · exact in_wsL_law_r28 w h
  rcases List.mem_append.mp h with h | h
  · exact in_wsL_law_r29 w h
  rcases List.mem_append.mp h with h | h
  · exact in_wsL_law_r30 w h
  rcases List.mem_append.mp h with h | h
  · exact in_wsL_law_r31 w h
  rcases List.mem_append.mp h with h | h
  · exact in_wsL_law_r32 w h
  exact in_wsL_law_r33 w h
theorem wsL_law_in : ∀ w ∈ wsL_law, w ∈ lw_tbl := by
  intro w h
  unfold wsL_law at h
  rcases List.mem_append.mp h with h | h
  rotate_left
  · cases h
  rcases List.mem_append.mp h with h | h
  rotate_left
  · exact inZ1 w h
  rcases List.mem_append.mp h with h | h
  rotate_left
  · exact inZ0 w h
  rcases List.mem_append.mp h with h | h
  rotate_left
  · exact inZ2 w h
  rcases List.mem_append.mp h with h | h
  rotate_left
  · exact inZ3 w h
  rcases List.mem_append.mp h with h | h
  rotate_left
  · exact inZ5 w h
  rcases List.mem_append.mp h with h | h
  rotate_left
  · exact inZ4 w h
  exact wsL_big w h
theorem inlX0 : ∀ w ∈ wsX00, w ∈ wsL_law := fun _ h => List.mem_append_left _ (List.mem_append_left _ (List.mem_append_right _ h))
theorem inX0 : ∀ w ∈ wsX00, w ∈ lw_tbl := fun w h => wsL_law_in w (inlX0 w h)
theorem inlX1 : ∀ w ∈ wsX10, w ∈ wsL_law := fun _ h => List.mem_append_left _ (List.mem_append_right _ h)
theorem inX1 : ∀ w ∈ wsX10, w ∈ lw_tbl := fun w h => wsL_law_in w (inlX1 w h)
theorem inlX2 : ∀ w ∈ wsX20, w ∈ wsL_law := fun _ h => List.mem_append_left _ (List.mem_append_left _ (List.mem_append_left _ (List.mem_append_right _ h)))
theorem inX2 : ∀ w ∈ wsX20, w ∈ lw_tbl := fun w h => wsL_law_in w (inlX2 w h)
theorem inlX3 : ∀ w ∈ wsX30, w ∈ wsL_law := fun _ h => List.mem_append_left _ (List.mem_append_left _ (List.mem_append_left _ (List.mem_append_left _ (List.mem_append_right _ h))))
theorem inX3 : ∀ w ∈ wsX30, w ∈ lw_tbl := fun w h => wsL_law_in w (inlX3 w h)
theorem inlX4 : ∀ w ∈ wsX40, w ∈ wsL_law := fun _ h => List.mem_append_left _ (List.mem_append_left _ (List.mem_append_left _ (List.mem_append_left _ (List.mem_append_left _ (List.mem_append_left _ (List.mem_append_right _ h))))))
theorem inX4 : ∀ w ∈ wsX40, w ∈ lw_tbl := fun w h => wsL_law_in w (inlX4 w h)
theorem inlX5 : ∀ w ∈ wsX50, w ∈ wsL_law := fun _ h => List.mem_append_left _ (List.mem_append_left _ (List.mem_append_left _ (List.mem_append_left _ (List.mem_append_left _ (List.mem_append_right _ h)))))
theorem inX5 : ∀ w ∈ wsX50, w ∈ lw_tbl := fun w h => wsL_law_in w (inlX5 w h)
