/-! SOUNDNESS, 4: the check of the methods' own words, by their places -/
def pm_ml : List (List (Nat × Nat)) := [[(1, 166), (1, 165), (1, 5)], [(4, 49), (4, 47), (4, 48), (1, 5)], [(5, 36), (5, 34), (5, 35), (1, 5)], [(5, 20), (5, 18), (5, 19), (1, 5)], [(5, 25), (5, 24), (0, 29), (1, 5)], [(5, 30), (5, 28), (5, 29), (1, 5)], [(5, 207), (5, 205), (5, 206), (1, 5)], [(2, 109), (2, 108), (1, 12)], [(3, 50), (3, 48), (3, 49), (1, 12)], [(3, 63), (3, 61), (3, 62), (1, 12)], [(1, 146), (1, 145), (1, 4)], [(1, 151), (1, 149), (1, 150), (1, 4)], [(4, 124), (4, 122), (4, 123), (1, 4)], [(4, 68), (4, 66), (4, 67), (1, 4)], [(4, 72), (4, 71), (0, 13), (1, 4)], [(4, 76), (4, 75), (0, 14), (1, 4)], [(4, 80), (4, 79), (0, 15), (1, 4)], [(4, 90), (4, 89), (0, 17), (1, 4)], [(4, 99), (4, 98), (0, 18), (1, 4)], [(4, 103), (4, 102), (1, 4)], [(4, 86), (4, 85), (0, 16), (1, 4)], [(4, 227), (4, 225), (4, 226), (1, 4)], [(4, 230), (4, 229), (1, 4)], [(2, 48), (2, 47), (1, 10)], [(4, 53), (4, 51), (4, 52), (1, 10)], [(5, 195), (5, 193), (5, 194), (1, 10)], [(5, 199), (5, 198), (0, 35), (1, 10)], [(5, 213), (5, 212), (0, 37), (1, 10)], [(5, 226), (5, 225), (0, 39), (1, 10)], [(5, 230), (5, 229), (0, 40), (1, 10)], [(5, 203), (5, 202), (0, 36), (1, 10)], [(5, 220), (5, 219), (1, 10)], [(5, 217), (5, 216), (0, 38), (1, 10)], [(5, 234), (5, 233), (0, 41), (1, 10)], [(2, 6), (2, 5), (1, 8)], [(4, 176), (4, 174), (4, 175), (1, 8)], [(2, 211), (2, 209), (2, 210), (1, 8)], [(3, 55), (3, 53), (3, 54), (1, 8)], [(2, 24), (2, 23), (1, 9)], [(4, 57), (4, 55), (4, 56), (1, 9)], [(3, 14), (3, 12), (3, 13), (1, 9)], [(3, 19), (3, 18), (0, 1), (1, 9)], [(3, 24), (3, 23), (0, 2), (1, 9)], [(1, 220), (1, 219), (1, 7)], [(2, 123), (2, 121), (2, 122), (1, 7)], [(5, 161), (5, 159), (5, 160), (1, 7)], [(2, 234), (2, 232), (2, 233), (1, 7)], [(3, 6), (3, 4), (3, 5), (1, 7)], [(4, 205), (4, 203), (4, 204), (1, 7)], [(4, 221), (4, 219), (4, 220), (1, 7)], [(4, 193), (4, 191), (4, 192), (1, 7)], [(5, 53), (5, 51), (5, 52), (1, 7)], [(3, 2), (3, 0), (3, 1), (1, 7)], [(4, 189), (4, 187), (4, 188), (1, 7)], [(4, 197), (4, 195), (4, 196), (1, 7)], [(4, 201), (4, 199), (4, 200), (1, 7)], [(4, 209), (4, 207), (4, 208), (1, 7)], [(5, 2), (5, 0), (5, 1), (1, 7)], [(5, 6), (5, 4), (5, 5), (1, 7)], [(5, 61), (5, 59), (5, 60), (1, 7)], [(4, 217), (4, 215), (4, 216), (1, 7)], [(5, 141), (5, 139), (5, 140), (1, 7)], [(4, 213), (4, 212), (0, 27), (1, 7)], [(4, 238), (4, 237), (0, 28), (1, 7)], [(2, 226), (2, 224), (2, 225), (1, 7)], [(2, 230), (2, 229), (0, 0), (1, 7)], [(6, 93), (6, 91), (6, 92), (1, 7)], [(5, 103), (5, 101), (5, 102), (1, 7)], [(5, 65), (5, 63), (5, 64), (1, 7)], [(5, 57), (5, 55), (5, 56), (1, 7)], [(2, 222), (2, 220), (2, 221), (1, 7)], [(1, 39), (1, 38), (1, 2)], [(2, 195), (2, 193), (2, 194), (1, 2)], [(2, 199), (2, 197), (2, 198), (1, 2)], [(3, 154), (3, 152), (3, 153), (1, 2)], [(3, 169), (3, 167), (3, 168), (1, 2)], [(3, 165), (3, 163), (3, 164), (1, 2)], [(4, 115), (4, 113), (4, 114), (1, 2)], [(4, 39), (4, 37), (4, 38), (1, 2)], [(4, 17), (4, 15), (4, 16), (1, 2)], [(3, 177), (3, 175), (3, 176), (1, 2)], [(3, 189), (3, 187), (3, 188), (1, 2)], [(4, 120), (4, 118), (4, 119), (1, 2)], [(4, 5), (4, 3), (4, 4), (1, 2)], [(3, 181), (3, 180), (0, 6), (1, 2)], [(1, 80), (1, 79), (1, 3)], [(4, 43), (4, 41), (4, 42), (1, 3)], [(3, 161), (3, 159), (3, 160), (1, 3)], [(3, 173), (3, 172), (0, 5), (1, 3)], [(3, 184), (3, 183), (1, 3)], [(4, 9), (4, 8), (0, 7), (1, 3)], [(4, 13), (4, 12), (0, 8), (1, 3)], [(4, 23), (4, 22), (0, 9), (1, 3)], [(4, 27), (4, 26), (0, 10), (1, 3)], [(4, 31), (4, 30), (0, 11), (1, 3)], [(4, 35), (4, 34), (0, 12), (1, 3)], [(3, 28), (3, 26), (3, 27), (1, 3)], [(3, 42), (3, 40), (3, 41), (1, 3)], [(6, 51), (6, 49), (6, 50), (1, 3)], [(1, 183), (1, 182), (1, 6)], [(4, 136), (4, 134), (4, 135), (1, 6)], [(4, 140), (4, 139), (0, 19), (1, 6)], [(4, 146), (4, 145), (0, 20), (1, 6)], [(4, 153), (4, 152), (0, 21), (1, 6)], [(4, 158), (4, 157), (0, 22), (1, 6)], [(4, 170), (4, 169), (0, 24), (1, 6)], [(4, 162), (4, 161), (0, 23), (1, 6)], [(4, 180), (4, 179), (0, 25), (1, 6)], [(4, 185), (4, 184), (0, 26), (1, 6)], [(2, 93), (2, 92), (1, 11)], [(6, 116), (6, 114), (6, 115), (1, 11)], [(6, 126), (6, 125), (0, 44), (1, 11)], [(6, 121), (6, 120), (0, 43), (1, 11)], [(1, 31), (1, 30), (1, 1)], [(2, 191), (2, 189), (2, 190), (1, 1)], [(3, 79), (3, 77), (3, 78), (1, 1)], [(4, 64), (4, 62), (4, 63), (1, 1)], [(4, 132), (4, 130), (4, 131), (1, 1)], [(5, 16), (5, 14), (5, 15), (1, 1)], [(2, 203), (2, 201), (2, 202), (1, 1)], [(2, 207), (2, 205), (2, 206), (1, 1)], [(3, 83), (3, 82), (0, 3), (1, 1)], [(5, 44), (5, 42), (5, 43), (1, 1)], [(5, 73), (5, 71), (5, 72), (1, 1)], [(5, 110), (5, 108), (5, 109), (1, 1)], [(5, 122), (5, 120), (5, 121), (1, 1)], [(5, 129), (5, 127), (5, 128), (1, 1)], [(5, 149), (5, 147), (5, 148), (1, 1)], [(6, 60), (6, 58), (6, 59), (1, 1)], [(6, 67), (6, 65), (6, 66), (1, 1)], [(6, 74), (6, 72), (6, 73), (1, 1)], [(2, 218), (2, 216), (2, 217), (1, 1)], [(6, 82), (6, 80), (6, 81), (1, 1)], [(2, 238), (2, 236), (2, 237), (1, 1)], [(6, 89), (6, 87), (6, 88), (1, 1)], [(5, 157), (5, 155), (5, 156), (1, 1)], [(5, 170), (5, 168), (5, 169), (1, 1)], [(5, 177), (5, 175), (5, 176), (1, 1)], [(6, 100), (6, 98), (6, 99), (1, 1)], [(3, 10), (3, 8), (3, 9), (1, 1)], [(5, 184), (5, 182), (5, 183), (1, 1)], [(5, 191), (5, 189), (5, 190), (1, 1)], [(6, 3), (6, 1), (6, 2), (1, 1)], [(6, 108), (6, 106), (6, 107), (1, 1)], [(6, 135), (6, 133), (6, 134), (1, 1)], [(6, 112), (6, 111), (0, 42), (1, 1)], [(6, 10), (6, 8), (6, 9), (1, 1)], [(3, 32), (3, 30), (3, 31), (1, 1)], [(6, 17), (6, 15), (6, 16), (1, 1)], [(6, 24), (6, 23), (1, 1)], [(6, 31), (6, 29), (6, 30), (1, 1)], [(6, 34), (6, 33), (1, 1)], [(6, 37), (6, 36), (1, 1)], [(6, 40), (6, 39), (1, 1)], [(6, 47), (6, 45), (6, 46), (1, 1)], [(3, 46), (3, 44), (3, 45), (1, 1)], [(3, 59), (3, 57), (3, 58), (1, 1)], [(3, 67), (3, 65), (3, 66), (1, 1)], [(3, 71), (3, 69), (3, 70), (1, 1)], [(5, 77), (5, 76), (0, 31), (1, 1)], [(5, 133), (5, 132), (0, 34), (1, 1)], [(5, 81), (5, 80), (0, 32), (1, 1)], [(5, 114), (5, 113), (0, 33), (1, 1)], [(5, 48), (5, 47), (0, 30), (1, 1)], [(6, 141), (6, 140), (1, 14)], [(6, 147), (6, 146), (0, 45), (1, 14)], [(7, 69), (7, 67), (7, 68), (1, 14)], [(7, 84), (7, 83), (0, 47), (1, 14)], [(7, 80), (7, 79), (1, 14)], [(8, 26), (8, 25), (1, 14)], [(8, 29), (8, 28), (1, 14)], [(8, 154), (8, 153), (1, 14)], [(7, 73), (7, 71), (7, 72), (1, 14)], [(7, 96), (7, 95), (0, 50), (1, 14)], [(7, 92), (7, 91), (0, 49), (1, 14)], [(7, 122), (7, 121), (0, 55), (1, 14)], [(7, 136), (7, 135), (1, 14)], [(7, 115), (7, 114), (1, 14)], [(7, 133), (7, 132), (0, 57), (1, 14)], [(7, 112), (7, 111), (0, 54), (1, 14)], [(7, 118), (7, 117), (1, 14)], [(7, 108), (7, 107), (0, 53), (1, 14)], [(7, 129), (7, 128), (0, 56), (1, 14)], [(7, 185), (7, 184), (0, 68), (1, 14)], [(7, 149), (7, 148), (0, 60), (1, 14)], [(7, 189), (7, 188), (0, 69), (1, 14)], [(7, 88), (7, 87), (0, 48), (1, 14)], [(7, 153), (7, 152), (0, 61), (1, 14)], [(7, 104), (7, 103), (0, 52), (1, 14)], [(7, 125), (7, 124), (1, 14)], [(7, 141), (7, 140), (0, 58), (1, 14)], [(7, 145), (7, 144), (0, 59), (1, 14)], [(7, 100), (7, 99), (0, 51), (1, 14)], [(7, 77), (7, 75), (7, 76), (1, 14)], [(6, 154), (6, 153), (1, 14)], [(7, 212), (7, 211), (1, 14)], [(6, 151), (6, 150), (0, 46), (1, 14)], [(7, 177), (7, 176), (0, 66), (1, 14)], [(7, 173), (7, 172), (0, 65), (1, 14)], [(7, 161), (7, 160), (0, 62), (1, 14)], [(7, 165), (7, 164), (0, 63), (1, 14)], [(7, 181), (7, 180), (0, 67), (1, 14)], [(7, 169), (7, 168), (0, 64), (1, 14)], [(7, 157), (7, 155), (7, 156), (1, 14)], [(8, 23), (8, 22), (1, 14)], [(8, 20), (8, 19), (0, 83), (1, 14)], [(7, 209), (7, 208), (0, 71), (1, 14)], [(7, 205), (7, 204), (0, 70), (1, 14)], [(7, 193), (7, 191), (7, 192), (1, 14)], [(7, 197), (7, 195), (7, 196), (1, 14)], [(8, 12), (8, 11), (0, 81), (1, 14)], [(8, 8), (8, 7), (0, 80), (1, 14)], [(8, 33), (8, 32), (0, 84), (1, 14)], [(8, 16), (8, 15), (0, 82), (1, 14)], [(8, 4), (8, 3), (0, 79), (1, 14)], [(8, 0), (7, 239), (0, 78), (1, 14)], [(7, 236), (7, 235), (0, 77), (1, 14)], [(7, 228), (7, 227), (0, 75), (1, 14)], [(7, 224), (7, 223), (0, 74), (1, 14)], [(7, 232), (7, 231), (0, 76), (1, 14)], [(7, 220), (7, 219), (0, 73), (1, 14)], [(7, 216), (7, 215), (0, 72), (1, 14)], [(7, 201), (7, 199), (7, 200), (1, 14)], [(8, 37), (8, 35), (8, 36), (1, 14)], [(8, 57), (8, 56), (0, 88), (1, 14)], [(8, 53), (8, 52), (0, 87), (1, 14)], [(8, 49), (8, 48), (0, 86), (1, 14)], [(8, 212), (8, 211), (0, 98), (1, 14)], [(8, 61), (8, 60), (0, 89), (1, 14)], [(8, 45), (8, 44), (0, 85), (1, 14)], [(8, 41), (8, 39), (8, 40), (1, 14)], [(8, 69), (8, 68), (0, 90), (1, 14)], [(8, 88), (8, 87), (0, 91), (1, 14)], [(8, 76), (8, 75), (1, 14)], [(8, 65), (8, 63), (8, 64), (1, 14)], [(8, 73), (8, 71), (8, 72), (1, 14)], [(8, 80), (8, 78), (8, 79), (1, 14)], [(8, 84), (8, 82), (8, 83), (1, 14)], [(8, 92), (8, 90), (8, 91), (1, 14)], [(8, 96), (8, 94), (8, 95), (1, 14)], [(8, 100), (8, 98), (8, 99), (1, 14)], [(8, 104), (8, 102), (8, 103), (1, 14)], [(8, 116), (8, 115), (0, 93), (1, 14)], [(8, 112), (8, 111), (0, 92), (1, 14)], [(8, 108), (8, 106), (8, 107), (1, 14)], [(8, 120), (8, 118), (8, 119), (1, 14)], [(8, 128), (8, 127), (0, 94), (1, 14)], [(8, 132), (8, 131), (0, 95), (1, 14)], [(8, 124), (8, 122), (8, 123), (1, 14)], [(8, 140), (8, 139), (0, 96), (1, 14)], [(8, 136), (8, 134), (8, 135), (1, 14)], [(8, 144), (8, 142), (8, 143), (1, 14)], [(8, 151), (8, 150), (1, 14)], [(8, 148), (8, 146), (8, 147), (1, 14)], [(8, 158), (8, 156), (8, 157), (1, 14)], [(8, 165), (8, 164), (1, 14)], [(8, 168), (8, 167), (1, 14)], [(8, 162), (8, 160), (8, 161), (1, 14)], [(8, 176), (8, 175), (0, 97), (1, 14)], [(8, 172), (8, 170), (8, 171), (1, 14)], [(8, 180), (8, 178), (8, 179), (1, 14)], [(8, 184), (8, 182), (8, 183), (1, 14)], [(8, 188), (8, 186), (8, 187), (1, 14)], [(8, 192), (8, 190), (8, 191), (1, 14)], [(8, 196), (8, 194), (8, 195), (1, 14)], [(8, 200), (8, 198), (8, 199), (1, 14)], [(8, 204), (8, 202), (8, 203), (1, 14)], [(8, 208), (8, 206), (8, 207), (1, 14)], [(8, 227), (8, 226), (0, 100), (1, 14)], [(8, 223), (8, 222), (0, 99), (1, 14)], [(8, 219), (8, 218), (1, 14)], [(8, 216), (8, 214), (8, 215), (1, 14)], [(8, 232), (8, 230), (8, 231), (1, 14)], [(9, 4), (9, 3), (0, 102), (1, 14)], [(9, 0), (8, 239), (0, 101), (1, 14)], [(8, 236), (8, 234), (8, 235), (1, 14)], [(9, 8), (9, 6), (9, 7), (1, 14)], [(9, 12), (9, 10), (9, 11), (1, 14)], [(9, 16), (9, 14), (9, 15), (1, 14)], [(3, 74), (3, 73), (1, 0)], [(4, 60), (4, 59), (1, 0)], [(4, 128), (4, 127), (1, 0)], [(5, 12), (5, 11), (1, 0)], [(5, 40), (5, 39), (1, 0)], [(5, 68), (5, 67), (1, 0)], [(5, 106), (5, 105), (1, 0)], [(5, 118), (5, 117), (1, 0)], [(5, 125), (5, 124), (1, 0)], [(5, 145), (5, 144), (1, 0)], [(5, 153), (5, 152), (1, 0)], [(5, 166), (5, 165), (1, 0)], [(5, 173), (5, 172), (1, 0)], [(5, 180), (5, 179), (1, 0)], [(5, 187), (5, 186), (1, 0)], [(5, 239), (5, 238), (1, 0)], [(6, 6), (6, 5), (1, 0)], [(6, 13), (6, 12), (1, 0)], [(6, 27), (6, 26), (1, 0)], [(6, 43), (6, 42), (1, 0)], [(6, 56), (6, 55), (1, 0)], [(6, 63), (6, 62), (1, 0)], [(6, 70), (6, 69), (1, 0)], [(6, 78), (6, 77), (1, 0)], [(6, 85), (6, 84), (1, 0)], [(6, 96), (6, 95), (1, 0)], [(6, 104), (6, 103), (1, 0)], [(6, 131), (6, 130), (1, 0)], [], [(3, 35), (3, 34), (1, 25)], [(2, 126), (2, 125), (1, 13)]]
def lw_at (l : Nat × Nat) : Option Cond := if l.1 = 0 then (k2_sels lw_privs)[l.2]? else (lw_chunk l.1)[l.2]?
theorem lw_at_in {l : Nat × Nat} {w : Cond} (h : lw_at l = some w) : w ∈ lw_tbl := by
  unfold lw_at at h
  split at h
  · exact List.mem_append_left _ (List.mem_of_getElem? h)
  · exact lw_chunk_in h
def mCk2 (M : Nat) : Bool := decide ((mWd M).drop 1 = ((pm_ml.getD M []).drop 1).filterMap lw_at) && (mWd M).all goodWord && plainName (sMdG M).1.cls && decide ((sMdG M).1.cls ≠ "java/lang/invoke/MethodHandle" ∧ (sMdG M).1.cls ≠ "java/lang/invoke/VarHandle") && decide ((pm_mt.getD M ([], 0)).2 = (sMdG M).2.2.1) && (if pm_km.getD M 9 = 5 then decide ((sMdG M).2.2.2.2 ≠ []) else decide ((sMdG M).2.2.2.2 = [])) && (if pm_km.getD M 9 = 2 then decide ((sMdG M).1.name = "<init>" ∧ (sMdG M).2.2.2.1 = none) else true) && decide ((sMdG M).2.2.1 ≤ 40)
theorem mCk2_ok {M : Nat} (h : mCk2 M = true) (hc : ∀ w, (mWd M).head? = some w → w ∈ lw_tbl) : mCk M = true := by
  unfold mCk2 at h
  unfold mCk
  simp only [Bool.and_eq_true] at h ⊢
  obtain ⟨⟨⟨⟨⟨⟨⟨h0, h1⟩, h2⟩, h3⟩, h4⟩, h5⟩, h6⟩, h7⟩ := h
  refine ⟨⟨⟨⟨⟨⟨?_, h2⟩, h3⟩, h4⟩, h5⟩, h6⟩, h7⟩
  refine List.all_eq_true.mpr fun w hw => ?_
  simp only [Bool.and_eq_true, decide_eq_true_eq]
  refine ⟨?_, List.all_eq_true.mp h1 w hw⟩
  have h0 := of_decide_eq_true h0
  generalize mWd M = L at hw h0 hc
  cases L with
  | nil => cases hw
  | cons a L =>
    rcases List.mem_cons.mp hw with rfl | hw
    · exact hc _ rfl
    · have hw : w ∈ (a :: L).drop 1 := hw
      rw [h0] at hw
      obtain ⟨l, -, hl⟩ := List.mem_filterMap.mp hw
      exact lw_at_in hl
theorem cw_no {M : Nat} (h : mWd M = []) : ∀ w, (mWd M).head? = some w → w ∈ lw_tbl := fun w hw => by rw [h] at hw; cases hw
theorem cw_at {M : Nat} {l : Nat × Nat} {w0 : Cond} (h1 : (mWd M).head? = some w0) (h2 : lw_at l = some w0) : ∀ w, (mWd M).head? = some w → w ∈ lw_tbl := fun w hw => by rw [h1] at hw; cases hw; exact lw_at_in h2
theorem cw_0 : ∀ w, (mWd 0).head? = some w → w ∈ lw_tbl := cw_at (l := (1, 166)) (w0 := Cond.code yX0_init prog_2_method_1_code 1 (none)) rfl rfl
theorem cw_1 : ∀ w, (mWd 1).head? = some w → w ∈ lw_tbl := cw_at (l := (4, 49)) (w0 := Cond.code yX0_clear prog_2_method_2_code 1 (none)) rfl rfl
theorem cw_2 : ∀ w, (mWd 2).head? = some w → w ∈ lw_tbl := cw_at (l := (5, 36)) (w0 := Cond.code yX0_copyFrom prog_2_method_3_code 2 (none)) rfl rfl
theorem cw_3 : ∀ w, (mWd 3).head? = some w → w ∈ lw_tbl := cw_at (l := (5, 20)) (w0 := Cond.code yX0_parse prog_2_method_4_code 3 ((some .boolean))) rfl rfl
theorem cw_4 : ∀ w, (mWd 4).head? = some w → w ∈ lw_tbl := cw_at (l := (5, 25)) (w0 := Cond.code yX0_parseLine prog_2_method_5_code 3 ((some .boolean))) rfl rfl
theorem cw_5 : ∀ w, (mWd 5).head? = some w → w ∈ lw_tbl := cw_at (l := (5, 30)) (w0 := Cond.code yX0_amountAfter prog_2_method_6_code 3 ((some .int))) rfl rfl
theorem cw_6 : ∀ w, (mWd 6).head? = some w → w ∈ lw_tbl := cw_at (l := (5, 207)) (w0 := Cond.code yX0_latestDay prog_2_method_7_code 3 ((some .int))) rfl rfl
theorem cw_7 : ∀ w, (mWd 7).head? = some w → w ∈ lw_tbl := cw_at (l := (2, 109)) (w0 := Cond.code yX1_init prog_3_method_1_code 1 (none)) rfl rfl
theorem cw_8 : ∀ w, (mWd 8).head? = some w → w ∈ lw_tbl := cw_at (l := (3, 50)) (w0 := Cond.code yX1_take prog_3_method_2_code 3 (none)) rfl rfl
theorem cw_9 : ∀ w, (mWd 9).head? = some w → w ∈ lw_tbl := cw_at (l := (3, 63)) (w0 := Cond.code yX1_giveTo prog_3_method_3_code 3 (none)) rfl rfl
theorem cw_10 : ∀ w, (mWd 10).head? = some w → w ∈ lw_tbl := cw_at (l := (1, 146)) (w0 := Cond.code yX2_init prog_4_method_1_code 1 (none)) rfl rfl
theorem cw_11 : ∀ w, (mWd 11).head? = some w → w ∈ lw_tbl := cw_at (l := (1, 151)) (w0 := Cond.code yX2_clear prog_4_method_2_code 1 (none)) rfl rfl
theorem cw_12 : ∀ w, (mWd 12).head? = some w → w ∈ lw_tbl := cw_at (l := (4, 124)) (w0 := Cond.code yX2_copyFrom prog_4_method_3_code 2 (none)) rfl rfl
theorem cw_13 : ∀ w, (mWd 13).head? = some w → w ∈ lw_tbl := cw_at (l := (4, 68)) (w0 := Cond.code yX2_parse prog_4_method_4_code 2 ((some .boolean))) rfl rfl
theorem cw_14 : ∀ w, (mWd 14).head? = some w → w ∈ lw_tbl := cw_at (l := (4, 72)) (w0 := Cond.code yX2_parseSum prog_4_method_5_code 5 ((some .boolean))) rfl rfl
theorem cw_15 : ∀ w, (mWd 15).head? = some w → w ∈ lw_tbl := cw_at (l := (4, 76)) (w0 := Cond.code yX2_parseProduct prog_4_method_6_code 5 ((some .boolean))) rfl rfl
theorem cw_16 : ∀ w, (mWd 16).head? = some w → w ∈ lw_tbl := cw_at (l := (4, 80)) (w0 := Cond.code yX2_parseUnit prog_4_method_7_code 5 ((some .boolean))) rfl rfl
theorem cw_17 : ∀ w, (mWd 17).head? = some w → w ∈ lw_tbl := cw_at (l := (4, 90)) (w0 := Cond.code yX2_parseBracket prog_4_method_8_code 3 ((some .boolean))) rfl rfl
theorem cw_18 : ∀ w, (mWd 18).head? = some w → w ∈ lw_tbl := cw_at (l := (4, 99)) (w0 := Cond.code yX2_parseChoice prog_4_method_9_code 4 ((some .boolean))) rfl rfl
theorem cw_19 : ∀ w, (mWd 19).head? = some w → w ∈ lw_tbl := cw_at (l := (4, 103)) (w0 := Cond.code yX2_inputNamed prog_4_method_10_code 1 ((some .int))) rfl rfl
theorem cw_20 : ∀ w, (mWd 20).head? = some w → w ∈ lw_tbl := cw_at (l := (4, 86)) (w0 := Cond.code yX2_add prog_4_method_11_code 2 (none)) rfl rfl
theorem cw_21 : ∀ w, (mWd 21).head? = some w → w ∈ lw_tbl := cw_at (l := (4, 227)) (w0 := Cond.code yX2_force prog_4_method_12_code 5 ((some .int))) rfl rfl
theorem cw_22 : ∀ w, (mWd 22).head? = some w → w ∈ lw_tbl := cw_at (l := (4, 230)) (w0 := Cond.code yX2_joined prog_4_method_13_code 3 ((some .int))) rfl rfl
theorem cw_23 : ∀ w, (mWd 23).head? = some w → w ∈ lw_tbl := cw_at (l := (2, 48)) (w0 := Cond.code yX3_init prog_5_method_1_code 3 (none)) rfl rfl
theorem cw_24 : ∀ w, (mWd 24).head? = some w → w ∈ lw_tbl := cw_at (l := (4, 53)) (w0 := Cond.code yX3_forget prog_5_method_2_code 1 (none)) rfl rfl
theorem cw_25 : ∀ w, (mWd 25).head? = some w → w ∈ lw_tbl := cw_at (l := (5, 195)) (w0 := Cond.code yX3_ask prog_5_method_3_code 2 (none)) rfl rfl
theorem cw_26 : ∀ w, (mWd 26).head? = some w → w ∈ lw_tbl := cw_at (l := (5, 199)) (w0 := Cond.code yX3_strikeWrong prog_5_method_4_code 4 (none)) rfl rfl
theorem cw_27 : ∀ w, (mWd 27).head? = some w → w ∈ lw_tbl := cw_at (l := (5, 213)) (w0 := Cond.code yX3_strikeUnlike prog_5_method_5_code 3 (none)) rfl rfl
theorem cw_28 : ∀ w, (mWd 28).head? = some w → w ∈ lw_tbl := cw_at (l := (5, 226)) (w0 := Cond.code yX3_countLeft prog_5_method_6_code 2 (none)) rfl rfl
theorem cw_29 : ∀ w, (mWd 29).head? = some w → w ∈ lw_tbl := cw_at (l := (5, 230)) (w0 := Cond.code yX3_chooseLook prog_5_method_7_code 4 (none)) rfl rfl
theorem cw_30 : ∀ w, (mWd 30).head? = some w → w ∈ lw_tbl := cw_at (l := (5, 203)) (w0 := Cond.code yX3_begin prog_5_method_8_code 2 (none)) rfl rfl
theorem cw_31 : ∀ w, (mWd 31).head? = some w → w ∈ lw_tbl := cw_at (l := (5, 220)) (w0 := Cond.code yX3_strongOf prog_5_method_9_code 1 ((some .int))) rfl rfl
theorem cw_32 : ∀ w, (mWd 32).head? = some w → w ∈ lw_tbl := cw_at (l := (5, 217)) (w0 := Cond.code yX3_grow prog_5_method_10_code 3 (none)) rfl rfl
theorem cw_33 : ∀ w, (mWd 33).head? = some w → w ∈ lw_tbl := cw_at (l := (5, 234)) (w0 := Cond.code yX3_mostAlike prog_5_method_11_code 3 ((some .int))) rfl rfl
theorem cw_34 : ∀ w, (mWd 34).head? = some w → w ∈ lw_tbl := cw_at (l := (2, 6)) (w0 := Cond.code yX4_init prog_6_method_1_code 1 (none)) rfl rfl
theorem cw_35 : ∀ w, (mWd 35).head? = some w → w ∈ lw_tbl := cw_at (l := (4, 176)) (w0 := Cond.code yX4_keep prog_6_method_2_code 2 (none)) rfl rfl
theorem cw_36 : ∀ w, (mWd 36).head? = some w → w ∈ lw_tbl := cw_at (l := (2, 211)) (w0 := Cond.code yX4_giveBack prog_6_method_3_code 2 ((some .boolean))) rfl rfl
theorem cw_37 : ∀ w, (mWd 37).head? = some w → w ∈ lw_tbl := cw_at (l := (3, 55)) (w0 := Cond.code yX4_copyFrom prog_6_method_4_code 3 (none)) rfl rfl
theorem cw_38 : ∀ w, (mWd 38).head? = some w → w ∈ lw_tbl := cw_at (l := (2, 24)) (w0 := Cond.code yX5_init prog_7_method_1_code 2 (none)) rfl rfl
theorem cw_39 : ∀ w, (mWd 39).head? = some w → w ∈ lw_tbl := cw_at (l := (4, 57)) (w0 := Cond.code yX5_forget prog_7_method_2_code 1 (none)) rfl rfl
theorem cw_40 : ∀ w, (mWd 40).head? = some w → w ∈ lw_tbl := cw_at (l := (3, 14)) (w0 := Cond.code yX5_find prog_7_method_3_code 1 (none)) rfl rfl
theorem cw_41 : ∀ w, (mWd 41).head? = some w → w ∈ lw_tbl := cw_at (l := (3, 19)) (w0 := Cond.code yX5_tryFrom prog_7_method_4_code 6 (none)) rfl rfl
theorem cw_42 : ∀ w, (mWd 42).head? = some w → w ∈ lw_tbl := cw_at (l := (3, 24)) (w0 := Cond.code yX5_isPeaceful prog_7_method_5_code 4 ((some .boolean))) rfl rfl
theorem cw_43 : ∀ w, (mWd 43).head? = some w → w ∈ lw_tbl := cw_at (l := (1, 220)) (w0 := Cond.code yX6_init prog_8_method_1_code 3 (none)) rfl rfl
theorem cw_44 : ∀ w, (mWd 44).head? = some w → w ∈ lw_tbl := cw_at (l := (2, 123)) (w0 := Cond.code yX6_begin prog_8_method_2_code 2 (none)) rfl rfl
theorem cw_45 : ∀ w, (mWd 45).head? = some w → w ∈ lw_tbl := cw_at (l := (5, 161)) (w0 := Cond.code yX6_copyFrom prog_8_method_3_code 2 (none)) rfl rfl
theorem cw_46 : ∀ w, (mWd 46).head? = some w → w ∈ lw_tbl := cw_at (l := (2, 234)) (w0 := Cond.code yX6_amount prog_8_method_4_code 3 ((some .int))) rfl rfl
theorem cw_47 : ∀ w, (mWd 47).head? = some w → w ∈ lw_tbl := cw_at (l := (3, 6)) (w0 := Cond.code yX6_houseOf prog_8_method_5_code 2 ((some .int))) rfl rfl
theorem cw_48 : ∀ w, (mWd 48).head? = some w → w ∈ lw_tbl := cw_at (l := (4, 205)) (w0 := Cond.code yX6_feltIn prog_8_method_6_code 2 ((some .int))) rfl rfl
theorem cw_49 : ∀ w, (mWd 49).head? = some w → w ∈ lw_tbl := cw_at (l := (4, 221)) (w0 := Cond.code yX6_daysOf prog_8_method_7_code 2 ((some .int))) rfl rfl
theorem cw_50 : ∀ w, (mWd 50).head? = some w → w ∈ lw_tbl := cw_at (l := (4, 193)) (w0 := Cond.code yX6_pianoIn prog_8_method_8_code 3 ((some .int))) rfl rfl
theorem cw_51 : ∀ w, (mWd 51).head? = some w → w ∈ lw_tbl := cw_at (l := (5, 53)) (w0 := Cond.code yX6_standing prog_8_method_9_code 3 ((some .int))) rfl rfl
theorem cw_52 : ∀ w, (mWd 52).head? = some w → w ∈ lw_tbl := cw_at (l := (3, 2)) (w0 := Cond.code yX6_occupied prog_8_method_10_code 3 ((some .int))) rfl rfl
theorem cw_53 : ∀ w, (mWd 53).head? = some w → w ∈ lw_tbl := cw_at (l := (4, 189)) (w0 := Cond.code yX6_put prog_8_method_11_code 3 ((some .boolean))) rfl rfl
theorem cw_54 : ∀ w, (mWd 54).head? = some w → w ∈ lw_tbl := cw_at (l := (4, 197)) (w0 := Cond.code yX6_takeOut prog_8_method_12_code 2 ((some .boolean))) rfl rfl
theorem cw_55 : ∀ w, (mWd 55).head? = some w → w ∈ lw_tbl := cw_at (l := (4, 201)) (w0 := Cond.code yX6_lay prog_8_method_13_code 4 ((some .boolean))) rfl rfl
theorem cw_56 : ∀ w, (mWd 56).head? = some w → w ∈ lw_tbl := cw_at (l := (4, 209)) (w0 := Cond.code yX6_passDay prog_8_method_14_code 4 (none)) rfl rfl
theorem cw_57 : ∀ w, (mWd 57).head? = some w → w ∈ lw_tbl := cw_at (l := (5, 2)) (w0 := Cond.code yX6_fights prog_8_method_15_code 3 ((some .int))) rfl rfl
theorem cw_58 : ∀ w, (mWd 58).head? = some w → w ∈ lw_tbl := cw_at (l := (5, 6)) (w0 := Cond.code yX6_fightsAt prog_8_method_16_code 6 ((some .int))) rfl rfl
theorem cw_59 : ∀ w, (mWd 59).head? = some w → w ∈ lw_tbl := cw_at (l := (5, 61)) (w0 := Cond.code yX6_fighters prog_8_method_17_code 3 ((some .int))) rfl rfl
theorem cw_60 : ∀ w, (mWd 60).head? = some w → w ∈ lw_tbl := cw_at (l := (4, 217)) (w0 := Cond.code yX6_force prog_8_method_18_code 3 ((some .int))) rfl rfl
theorem cw_61 : ∀ w, (mWd 61).head? = some w → w ∈ lw_tbl := cw_at (l := (5, 141)) (w0 := Cond.code yX6_brings prog_8_method_19_code 2 ((some .int))) rfl rfl
theorem cw_62 : ∀ w, (mWd 62).head? = some w → w ∈ lw_tbl := cw_at (l := (4, 213)) (w0 := Cond.code yX6_measure prog_8_method_20_code 2 (none)) rfl rfl
theorem cw_63 : ∀ w, (mWd 63).head? = some w → w ∈ lw_tbl := cw_at (l := (4, 238)) (w0 := Cond.code yX6_netForce prog_8_method_21_code 5 ((some .int))) rfl rfl
theorem cw_64 : ∀ w, (mWd 64).head? = some w → w ∈ lw_tbl := cw_at (l := (2, 226)) (w0 := Cond.code yX6_thingIn prog_8_method_22_code 2 ((some .int))) rfl rfl
theorem cw_65 : ∀ w, (mWd 65).head? = some w → w ∈ lw_tbl := cw_at (l := (2, 230)) (w0 := Cond.code yX6_mostBut prog_8_method_23_code 5 ((some .int))) rfl rfl
theorem cw_66 : ∀ w, (mWd 66).head? = some w → w ∈ lw_tbl := cw_at (l := (6, 93)) (w0 := Cond.code yX6_lead prog_8_method_24_code 4 ((some .int))) rfl rfl
theorem cw_67 : ∀ w, (mWd 67).head? = some w → w ∈ lw_tbl := cw_at (l := (5, 103)) (w0 := Cond.code yX6_kindsIn prog_8_method_25_code 4 ((some .int))) rfl rfl
theorem cw_68 : ∀ w, (mWd 68).head? = some w → w ∈ lw_tbl := cw_at (l := (5, 65)) (w0 := Cond.code yX6_total prog_8_method_26_code 3 ((some .int))) rfl rfl
theorem cw_69 : ∀ w, (mWd 69).head? = some w → w ∈ lw_tbl := cw_at (l := (5, 57)) (w0 := Cond.code yX6_content prog_8_method_27_code 3 ((some .int))) rfl rfl
theorem cw_70 : ∀ w, (mWd 70).head? = some w → w ∈ lw_tbl := cw_at (l := (2, 222)) (w0 := Cond.code yX6_otherThanTold prog_8_method_28_code 3 ((some .int))) rfl rfl
theorem cw_71 : ∀ w, (mWd 71).head? = some w → w ∈ lw_tbl := cw_at (l := (1, 39)) (w0 := Cond.code yX7_init prog_9_method_1_code 1 (none)) rfl rfl
theorem cw_72 : ∀ w, (mWd 72).head? = some w → w ∈ lw_tbl := cw_at (l := (2, 195)) (w0 := Cond.code yX7_hasRoom prog_9_method_2_code 1 ((some .boolean))) rfl rfl
theorem cw_73 : ∀ w, (mWd 73).head? = some w → w ∈ lw_tbl := cw_at (l := (2, 199)) (w0 := Cond.code yX7_add prog_9_method_3_code 3 (none)) rfl rfl
theorem cw_74 : ∀ w, (mWd 74).head? = some w → w ∈ lw_tbl := cw_at (l := (3, 154)) (w0 := Cond.code yX7_open prog_9_method_4_code 2 (none)) rfl rfl
theorem cw_75 : ∀ w, (mWd 75).head? = some w → w ∈ lw_tbl := cw_at (l := (3, 169)) (w0 := Cond.code yX7_peek prog_9_method_5_code 1 ((some .int))) rfl rfl
theorem cw_76 : ∀ w, (mWd 76).head? = some w → w ∈ lw_tbl := cw_at (l := (3, 165)) (w0 := Cond.code yX7_ended prog_9_method_6_code 1 ((some .boolean))) rfl rfl
theorem cw_77 : ∀ w, (mWd 77).head? = some w → w ∈ lw_tbl := cw_at (l := (4, 115)) (w0 := Cond.code yX7_sees prog_9_method_7_code 2 ((some .boolean))) rfl rfl
theorem cw_78 : ∀ w, (mWd 78).head? = some w → w ∈ lw_tbl := cw_at (l := (4, 39)) (w0 := Cond.code yX7_takes prog_9_method_8_code 2 ((some .boolean))) rfl rfl
theorem cw_79 : ∀ w, (mWd 79).head? = some w → w ∈ lw_tbl := cw_at (l := (4, 17)) (w0 := Cond.code yX7_takesNumber prog_9_method_9_code 4 ((some .boolean))) rfl rfl
theorem cw_80 : ∀ w, (mWd 80).head? = some w → w ∈ lw_tbl := cw_at (l := (3, 177)) (w0 := Cond.code yX7_takesWord prog_9_method_10_code 2 ((some .boolean))) rfl rfl
theorem cw_81 : ∀ w, (mWd 81).head? = some w → w ∈ lw_tbl := cw_at (l := (3, 189)) (w0 := Cond.code yX7_isWord prog_9_method_11_code 3 ((some .boolean))) rfl rfl
theorem cw_82 : ∀ w, (mWd 82).head? = some w → w ∈ lw_tbl := cw_at (l := (4, 120)) (w0 := Cond.code yX7_cannotStand prog_9_method_12_code 1 ((some .boolean))) rfl rfl
theorem cw_83 : ∀ w, (mWd 83).head? = some w → w ∈ lw_tbl := cw_at (l := (4, 5)) (w0 := Cond.code yX7_failsToken prog_9_method_13_code 2 ((some .boolean))) rfl rfl
theorem cw_84 : ∀ w, (mWd 84).head? = some w → w ∈ lw_tbl := cw_at (l := (3, 181)) (w0 := Cond.code yX7_fails prog_9_method_14_code 3 ((some .boolean))) rfl rfl
theorem cw_85 : ∀ w, (mWd 85).head? = some w → w ∈ lw_tbl := cw_at (l := (1, 80)) (w0 := Cond.code yX8_init prog_10_method_1_code 1 (none)) rfl rfl
theorem cw_86 : ∀ w, (mWd 86).head? = some w → w ∈ lw_tbl := cw_at (l := (4, 43)) (w0 := Cond.code yX8_copyFrom prog_10_method_2_code 2 (none)) rfl rfl
theorem cw_87 : ∀ w, (mWd 87).head? = some w → w ∈ lw_tbl := cw_at (l := (3, 161)) (w0 := Cond.code yX8_parse prog_10_method_3_code 3 ((some .boolean))) rfl rfl
theorem cw_88 : ∀ w, (mWd 88).head? = some w → w ∈ lw_tbl := cw_at (l := (3, 173)) (w0 := Cond.code yX8_parseClause prog_10_method_4_code 4 ((some .boolean))) rfl rfl
theorem cw_89 : ∀ w, (mWd 89).head? = some w → w ∈ lw_tbl := cw_at (l := (3, 184)) (w0 := Cond.code yX8_clauseKind prog_10_method_5_code 1 ((some .int))) rfl rfl
theorem cw_90 : ∀ w, (mWd 90).head? = some w → w ∈ lw_tbl := cw_at (l := (4, 9)) (w0 := Cond.code yX8_isFull prog_10_method_6_code 2 ((some .boolean))) rfl rfl
theorem cw_91 : ∀ w, (mWd 91).head? = some w → w ∈ lw_tbl := cw_at (l := (4, 13)) (w0 := Cond.code yX8_parseHouse prog_10_method_7_code 2 ((some .boolean))) rfl rfl
theorem cw_92 : ∀ w, (mWd 92).head? = some w → w ∈ lw_tbl := cw_at (l := (4, 23)) (w0 := Cond.code yX8_parseWall prog_10_method_8_code 4 ((some .boolean))) rfl rfl
theorem cw_93 : ∀ w, (mWd 93).head? = some w → w ∈ lw_tbl := cw_at (l := (4, 27)) (w0 := Cond.code yX8_parsePiano prog_10_method_9_code 3 ((some .boolean))) rfl rfl
theorem cw_94 : ∀ w, (mWd 94).head? = some w → w ∈ lw_tbl := cw_at (l := (4, 31)) (w0 := Cond.code yX8_parseWish prog_10_method_10_code 3 ((some .boolean))) rfl rfl
theorem cw_95 : ∀ w, (mWd 95).head? = some w → w ∈ lw_tbl := cw_at (l := (4, 35)) (w0 := Cond.code yX8_parseFelt prog_10_method_11_code 2 ((some .boolean))) rfl rfl
theorem cw_96 : ∀ w, (mWd 96).head? = some w → w ∈ lw_tbl := cw_at (l := (3, 28)) (w0 := Cond.code yX8_hasWall prog_10_method_12_code 3 ((some .boolean))) rfl rfl
theorem cw_97 : ∀ w, (mWd 97).head? = some w → w ∈ lw_tbl := cw_at (l := (3, 42)) (w0 := Cond.code yX8_besideAny prog_10_method_13_code 4 ((some .int))) rfl rfl
theorem cw_98 : ∀ w, (mWd 98).head? = some w → w ∈ lw_tbl := cw_at (l := (6, 51)) (w0 := Cond.code yX8_given prog_10_method_14_code 5 ((some .int))) rfl rfl
theorem cw_99 : ∀ w, (mWd 99).head? = some w → w ∈ lw_tbl := cw_at (l := (1, 183)) (w0 := Cond.code yX9_init prog_11_method_1_code 2 (none)) rfl rfl
theorem cw_100 : ∀ w, (mWd 100).head? = some w → w ∈ lw_tbl := cw_at (l := (4, 136)) (w0 := Cond.code yX9_parse prog_11_method_2_code 2 ((some .boolean))) rfl rfl
theorem cw_101 : ∀ w, (mWd 101).head? = some w → w ∈ lw_tbl := cw_at (l := (4, 140)) (w0 := Cond.code yX9_parseSteps prog_11_method_3_code 4 ((some .boolean))) rfl rfl
theorem cw_102 : ∀ w, (mWd 102).head? = some w → w ∈ lw_tbl := cw_at (l := (4, 146)) (w0 := Cond.code yX9_parseStep prog_11_method_4_code 3 ((some .boolean))) rfl rfl
theorem cw_103 : ∀ w, (mWd 103).head? = some w → w ∈ lw_tbl := cw_at (l := (4, 153)) (w0 := Cond.code yX9_takesPiano prog_11_method_5_code 2 ((some .boolean))) rfl rfl
theorem cw_104 : ∀ w, (mWd 104).head? = some w → w ∈ lw_tbl := cw_at (l := (4, 158)) (w0 := Cond.code yX9_parseSecond prog_11_method_6_code 5 ((some .boolean))) rfl rfl
theorem cw_105 : ∀ w, (mWd 105).head? = some w → w ∈ lw_tbl := cw_at (l := (4, 170)) (w0 := Cond.code yX9_parseAgain prog_11_method_7_code 4 ((some .boolean))) rfl rfl
theorem cw_106 : ∀ w, (mWd 106).head? = some w → w ∈ lw_tbl := cw_at (l := (4, 162)) (w0 := Cond.code yX9_addStep prog_11_method_8_code 4 ((some .boolean))) rfl rfl
theorem cw_107 : ∀ w, (mWd 107).head? = some w → w ∈ lw_tbl := cw_at (l := (4, 180)) (w0 := Cond.code yX9_doSteps prog_11_method_9_code 7 (none)) rfl rfl
theorem cw_108 : ∀ w, (mWd 108).head? = some w → w ∈ lw_tbl := cw_at (l := (4, 185)) (w0 := Cond.code yX9_doStep prog_11_method_10_code 3 ((some .boolean))) rfl rfl
theorem cw_109 : ∀ w, (mWd 109).head? = some w → w ∈ lw_tbl := cw_at (l := (2, 93)) (w0 := Cond.code yX10_init prog_12_method_1_code 2 (none)) rfl rfl
theorem cw_110 : ∀ w, (mWd 110).head? = some w → w ∈ lw_tbl := cw_at (l := (6, 116)) (w0 := Cond.code yX10_play prog_12_method_2_code 6 (none)) rfl rfl
theorem cw_111 : ∀ w, (mWd 111).head? = some w → w ∈ lw_tbl := cw_at (l := (6, 126)) (w0 := Cond.code yX10_putAny prog_12_method_3_code 4 (none)) rfl rfl
theorem cw_112 : ∀ w, (mWd 112).head? = some w → w ∈ lw_tbl := cw_at (l := (6, 121)) (w0 := Cond.code yX10_draw prog_12_method_4_code 2 ((some .int))) rfl rfl
theorem cw_113 : ∀ w, (mWd 113).head? = some w → w ∈ lw_tbl := cw_at (l := (1, 31)) (w0 := Cond.code yX11_init prog_1_method_1_code 2 (none)) rfl rfl
theorem cw_114 : ∀ w, (mWd 114).head? = some w → w ∈ lw_tbl := cw_at (l := (2, 191)) (w0 := Cond.code yX11_feed prog_1_method_2_code 6 ((some .int))) rfl rfl
theorem cw_115 : ∀ w, (mWd 115).head? = some w → w ∈ lw_tbl := cw_at (l := (3, 79)) (w0 := Cond.code yX11_terrace prog_1_method_3_code 2 ((some .int))) rfl rfl
theorem cw_116 : ∀ w, (mWd 116).head? = some w → w ∈ lw_tbl := cw_at (l := (4, 64)) (w0 := Cond.code yX11_law prog_1_method_4_code 2 ((some .int))) rfl rfl
theorem cw_117 : ∀ w, (mWd 117).head? = some w → w ∈ lw_tbl := cw_at (l := (4, 132)) (w0 := Cond.code yX11_work prog_1_method_5_code 2 ((some .int))) rfl rfl
theorem cw_118 : ∀ w, (mWd 118).head? = some w → w ∈ lw_tbl := cw_at (l := (5, 16)) (w0 := Cond.code yX11_book prog_1_method_6_code 2 ((some .int))) rfl rfl
theorem cw_119 : ∀ w, (mWd 119).head? = some w → w ∈ lw_tbl := cw_at (l := (2, 203)) (w0 := Cond.code yX11_fault prog_1_method_7_code 1 ((some .int))) rfl rfl
theorem cw_120 : ∀ w, (mWd 120).head? = some w → w ∈ lw_tbl := cw_at (l := (2, 207)) (w0 := Cond.code yX11_undo prog_1_method_8_code 1 ((some .int))) rfl rfl
theorem cw_121 : ∀ w, (mWd 121).head? = some w → w ∈ lw_tbl := cw_at (l := (3, 83)) (w0 := Cond.code yX11_openText prog_1_method_9_code 3 (none)) rfl rfl
theorem cw_122 : ∀ w, (mWd 122).head? = some w → w ∈ lw_tbl := cw_at (l := (5, 44)) (w0 := Cond.code yX11_told prog_1_method_10_code 2 ((some .int))) rfl rfl
theorem cw_123 : ∀ w, (mWd 123).head? = some w → w ∈ lw_tbl := cw_at (l := (5, 73)) (w0 := Cond.code yX11_house prog_1_method_11_code 3 ((some .int))) rfl rfl
theorem cw_124 : ∀ w, (mWd 124).head? = some w → w ∈ lw_tbl := cw_at (l := (5, 110)) (w0 := Cond.code yX11_there prog_1_method_12_code 3 ((some .int))) rfl rfl
theorem cw_125 : ∀ w, (mWd 125).head? = some w → w ∈ lw_tbl := cw_at (l := (5, 122)) (w0 := Cond.code yX11_wall prog_1_method_13_code 3 ((some .int))) rfl rfl
theorem cw_126 : ∀ w, (mWd 126).head? = some w → w ∈ lw_tbl := cw_at (l := (5, 129)) (w0 := Cond.code yX11_piano prog_1_method_14_code 3 ((some .int))) rfl rfl
theorem cw_127 : ∀ w, (mWd 127).head? = some w → w ∈ lw_tbl := cw_at (l := (5, 149)) (w0 := Cond.code yX11_would prog_1_method_15_code 9 ((some .int))) rfl rfl
theorem cw_128 : ∀ w, (mWd 128).head? = some w → w ∈ lw_tbl := cw_at (l := (6, 60)) (w0 := Cond.code yX11_those prog_1_method_16_code 4 ((some .int))) rfl rfl
theorem cw_129 : ∀ w, (mWd 129).head? = some w → w ∈ lw_tbl := cw_at (l := (6, 67)) (w0 := Cond.code yX11_loudest prog_1_method_17_code 5 ((some .int))) rfl rfl
theorem cw_130 : ∀ w, (mWd 130).head? = some w → w ∈ lw_tbl := cw_at (l := (6, 74)) (w0 := Cond.code yX11_quiet prog_1_method_18_code 5 ((some .int))) rfl rfl
theorem cw_131 : ∀ w, (mWd 131).head? = some w → w ∈ lw_tbl := cw_at (l := (2, 218)) (w0 := Cond.code yX11_changed prog_1_method_19_code 1 ((some .int))) rfl rfl
theorem cw_132 : ∀ w, (mWd 132).head? = some w → w ∈ lw_tbl := cw_at (l := (6, 82)) (w0 := Cond.code yX11_oldest prog_1_method_20_code 5 ((some .int))) rfl rfl
theorem cw_133 : ∀ w, (mWd 133).head? = some w → w ∈ lw_tbl := cw_at (l := (2, 238)) (w0 := Cond.code yX11_empty prog_1_method_21_code 1 ((some .int))) rfl rfl
theorem cw_134 : ∀ w, (mWd 134).head? = some w → w ∈ lw_tbl := cw_at (l := (6, 89)) (w0 := Cond.code yX11_margin prog_1_method_22_code 2 ((some .int))) rfl rfl
theorem cw_135 : ∀ w, (mWd 135).head? = some w → w ∈ lw_tbl := cw_at (l := (5, 157)) (w0 := Cond.code yX11_ahead prog_1_method_23_code 5 ((some .int))) rfl rfl
theorem cw_136 : ∀ w, (mWd 136).head? = some w → w ∈ lw_tbl := cw_at (l := (5, 170)) (w0 := Cond.code yX11_when prog_1_method_24_code 4 ((some .int))) rfl rfl
theorem cw_137 : ∀ w, (mWd 137).head? = some w → w ∈ lw_tbl := cw_at (l := (5, 177)) (w0 := Cond.code yX11_muffle prog_1_method_25_code 3 ((some .int))) rfl rfl
theorem cw_138 : ∀ w, (mWd 138).head? = some w → w ∈ lw_tbl := cw_at (l := (6, 100)) (w0 := Cond.code yX11_tunes prog_1_method_26_code 3 ((some .int))) rfl rfl
theorem cw_139 : ∀ w, (mWd 139).head? = some w → w ∈ lw_tbl := cw_at (l := (3, 10)) (w0 := Cond.code yX11_places prog_1_method_27_code 1 ((some .int))) rfl rfl
theorem cw_140 : ∀ w, (mWd 140).head? = some w → w ∈ lw_tbl := cw_at (l := (5, 184)) (w0 := Cond.code yX11_placed prog_1_method_28_code 2 ((some .int))) rfl rfl
theorem cw_141 : ∀ w, (mWd 141).head? = some w → w ∈ lw_tbl := cw_at (l := (5, 191)) (w0 := Cond.code yX11_from prog_1_method_29_code 3 ((some .int))) rfl rfl
theorem cw_142 : ∀ w, (mWd 142).head? = some w → w ∈ lw_tbl := cw_at (l := (6, 3)) (w0 := Cond.code yX11_look prog_1_method_30_code 3 ((some .int))) rfl rfl
theorem cw_143 : ∀ w, (mWd 143).head? = some w → w ∈ lw_tbl := cw_at (l := (6, 108)) (w0 := Cond.code yX11_year prog_1_method_31_code 5 ((some .int))) rfl rfl
theorem cw_144 : ∀ w, (mWd 144).head? = some w → w ∈ lw_tbl := cw_at (l := (6, 135)) (w0 := Cond.code yX11_span prog_1_method_32_code 12 ((some .int))) rfl rfl
theorem cw_145 : ∀ w, (mWd 145).head? = some w → w ∈ lw_tbl := cw_at (l := (6, 112)) (w0 := Cond.code yX11_needYear prog_1_method_33_code 3 (none)) rfl rfl
theorem cw_146 : ∀ w, (mWd 146).head? = some w → w ∈ lw_tbl := cw_at (l := (6, 10)) (w0 := Cond.code yX11_way prog_1_method_34_code 5 ((some .int))) rfl rfl
theorem cw_147 : ∀ w, (mWd 147).head? = some w → w ∈ lw_tbl := cw_at (l := (3, 32)) (w0 := Cond.code yX11_alone prog_1_method_35_code 3 ((some .int))) rfl rfl
theorem cw_148 : ∀ w, (mWd 148).head? = some w → w ∈ lw_tbl := cw_at (l := (6, 17)) (w0 := Cond.code yX11_price prog_1_method_36_code 12 ((some .long))) rfl rfl
theorem cw_149 : ∀ w, (mWd 149).head? = some w → w ∈ lw_tbl := cw_at (l := (6, 24)) (w0 := Cond.code yX11_commonDivisor prog_1_method_37_code 11 ((some .long))) rfl rfl
theorem cw_150 : ∀ w, (mWd 150).head? = some w → w ∈ lw_tbl := cw_at (l := (6, 31)) (w0 := Cond.code yX11_tuner prog_1_method_38_code 9 ((some .int))) rfl rfl
theorem cw_151 : ∀ w, (mWd 151).head? = some w → w ∈ lw_tbl := cw_at (l := (6, 34)) (w0 := Cond.code yX11_isRest prog_1_method_39_code 4 ((some .boolean))) rfl rfl
theorem cw_152 : ∀ w, (mWd 152).head? = some w → w ∈ lw_tbl := cw_at (l := (6, 37)) (w0 := Cond.code yX11_tunerHas prog_1_method_40_code 3 ((some .int))) rfl rfl
theorem cw_153 : ∀ w, (mWd 153).head? = some w → w ∈ lw_tbl := cw_at (l := (6, 40)) (w0 := Cond.code yX11_houseHas prog_1_method_41_code 4 ((some .int))) rfl rfl
theorem cw_154 : ∀ w, (mWd 154).head? = some w → w ∈ lw_tbl := cw_at (l := (6, 47)) (w0 := Cond.code yX11_share prog_1_method_42_code 5 ((some .int))) rfl rfl
theorem cw_155 : ∀ w, (mWd 155).head? = some w → w ∈ lw_tbl := cw_at (l := (3, 46)) (w0 := Cond.code yX11_image prog_1_method_43_code 1 ((some .int))) rfl rfl
theorem cw_156 : ∀ w, (mWd 156).head? = some w → w ∈ lw_tbl := cw_at (l := (3, 59)) (w0 := Cond.code yX11_restore prog_1_method_44_code 1 ((some .int))) rfl rfl
theorem cw_157 : ∀ w, (mWd 157).head? = some w → w ∈ lw_tbl := cw_at (l := (3, 67)) (w0 := Cond.code yX11_status prog_1_method_45_code 2 ((some .int))) rfl rfl
theorem cw_158 : ∀ w, (mWd 158).head? = some w → w ∈ lw_tbl := cw_at (l := (3, 71)) (w0 := Cond.code yX11_count prog_1_method_46_code 2 ((some .int))) rfl rfl
theorem cw_159 : ∀ w, (mWd 159).head? = some w → w ∈ lw_tbl := cw_at (l := (5, 77)) (w0 := Cond.code yX11_needHouse prog_1_method_47_code 2 (none)) rfl rfl
theorem cw_160 : ∀ w, (mWd 160).head? = some w → w ∈ lw_tbl := cw_at (l := (5, 133)) (w0 := Cond.code yX11_needPiano prog_1_method_48_code 2 (none)) rfl rfl
theorem cw_161 : ∀ w, (mWd 161).head? = some w → w ∈ lw_tbl := cw_at (l := (5, 81)) (w0 := Cond.code yX11_needMember prog_1_method_49_code 3 (none)) rfl rfl
theorem cw_162 : ∀ w, (mWd 162).head? = some w → w ∈ lw_tbl := cw_at (l := (5, 114)) (w0 := Cond.code yX11_needThing prog_1_method_50_code 2 (none)) rfl rfl
theorem cw_163 : ∀ w, (mWd 163).head? = some w → w ∈ lw_tbl := cw_at (l := (5, 48)) (w0 := Cond.code yX11_needRange prog_1_method_51_code 4 (none)) rfl rfl
theorem cw_164 : ∀ w, (mWd 164).head? = some w → w ∈ lw_tbl := cw_at (l := (6, 141)) (w0 := Cond.code yX12_init prog_14_method_1_code 1 (none)) rfl rfl
theorem cw_165 : ∀ w, (mWd 165).head? = some w → w ∈ lw_tbl := cw_at (l := (6, 147)) (w0 := Cond.code yX12_tellsNothing prog_14_method_2_code 2 (none)) rfl rfl
theorem cw_166 : ∀ w, (mWd 166).head? = some w → w ∈ lw_tbl := cw_at (l := (7, 69)) (w0 := Cond.code yX12_thrown prog_14_method_3_code 1 ((some .int))) rfl rfl
theorem cw_167 : ∀ w, (mWd 167).head? = some w → w ∈ lw_tbl := cw_at (l := (7, 84)) (w0 := Cond.code yX12_bad prog_14_method_4_code 4 ((some .boolean))) rfl rfl
theorem cw_168 : ∀ w, (mWd 168).head? = some w → w ∈ lw_tbl := cw_at (l := (7, 80)) (w0 := Cond.code yX12_in prog_14_method_5_code 3 ((some .boolean))) rfl rfl
theorem cw_169 : ∀ w, (mWd 169).head? = some w → w ∈ lw_tbl := cw_at (l := (8, 26)) (w0 := Cond.code yX12_less prog_14_method_6_code 2 ((some .int))) rfl rfl
theorem cw_170 : ∀ w, (mWd 170).head? = some w → w ∈ lw_tbl := cw_at (l := (8, 29)) (w0 := Cond.code yX12_more prog_14_method_7_code 2 ((some .int))) rfl rfl
theorem cw_171 : ∀ w, (mWd 171).head? = some w → w ∈ lw_tbl := cw_at (l := (8, 154)) (w0 := Cond.code yX12_has prog_14_method_8_code 2 ((some .boolean))) rfl rfl
theorem cw_172 : ∀ w, (mWd 172).head? = some w → w ∈ lw_tbl := cw_at (l := (7, 73)) (w0 := Cond.code yX12_feed prog_14_method_9_code 8 ((some .int))) rfl rfl
theorem cw_173 : ∀ w, (mWd 173).head? = some w → w ∈ lw_tbl := cw_at (l := (7, 96)) (w0 := Cond.code yX12_byteAt prog_14_method_10_code 2 ((some .int))) rfl rfl
theorem cw_174 : ∀ w, (mWd 174).head? = some w → w ∈ lw_tbl := cw_at (l := (7, 92)) (w0 := Cond.code yX12_blanks prog_14_method_11_code 1 (none)) rfl rfl
theorem cw_175 : ∀ w, (mWd 175).head? = some w → w ∈ lw_tbl := cw_at (l := (7, 122)) (w0 := Cond.code yX12_wrong prog_14_method_12_code 3 (none)) rfl rfl
theorem cw_176 : ∀ w, (mWd 176).head? = some w → w ∈ lw_tbl := cw_at (l := (7, 136)) (w0 := Cond.code yX12_isDigit prog_14_method_13_code 1 ((some .boolean))) rfl rfl
theorem cw_177 : ∀ w, (mWd 177).head? = some w → w ∈ lw_tbl := cw_at (l := (7, 115)) (w0 := Cond.code yX12_isSmall prog_14_method_14_code 1 ((some .boolean))) rfl rfl
theorem cw_178 : ∀ w, (mWd 178).head? = some w → w ∈ lw_tbl := cw_at (l := (7, 133)) (w0 := Cond.code yX12_number prog_14_method_15_code 5 ((some .int))) rfl rfl
theorem cw_179 : ∀ w, (mWd 179).head? = some w → w ∈ lw_tbl := cw_at (l := (7, 112)) (w0 := Cond.code yX12_wordHere prog_14_method_16_code 3 ((some .int))) rfl rfl
theorem cw_180 : ∀ w, (mWd 180).head? = some w → w ∈ lw_tbl := cw_at (l := (7, 118)) (w0 := Cond.code yX12_six prog_14_method_17_code 7 ((some .int))) rfl rfl
theorem cw_181 : ∀ w, (mWd 181).head? = some w → w ∈ lw_tbl := cw_at (l := (7, 108)) (w0 := Cond.code yX12_isWord prog_14_method_18_code 7 ((some .boolean))) rfl rfl
theorem cw_182 : ∀ w, (mWd 182).head? = some w → w ∈ lw_tbl := cw_at (l := (7, 129)) (w0 := Cond.code yX12_skipWord prog_14_method_19_code 1 (none)) rfl rfl
theorem cw_183 : ∀ w, (mWd 183).head? = some w → w ∈ lw_tbl := cw_at (l := (7, 185)) (w0 := Cond.code yX12_takes prog_14_method_20_code 8 ((some .boolean))) rfl rfl
theorem cw_184 : ∀ w, (mWd 184).head? = some w → w ∈ lw_tbl := cw_at (l := (7, 149)) (w0 := Cond.code yX12_sign prog_14_method_21_code 2 (none)) rfl rfl
theorem cw_185 : ∀ w, (mWd 185).head? = some w → w ∈ lw_tbl := cw_at (l := (7, 189)) (w0 := Cond.code yX12_takesSign prog_14_method_22_code 3 ((some .boolean))) rfl rfl
theorem cw_186 : ∀ w, (mWd 186).head? = some w → w ∈ lw_tbl := cw_at (l := (7, 88)) (w0 := Cond.code yX12_starts prog_14_method_23_code 2 (none)) rfl rfl
theorem cw_187 : ∀ w, (mWd 187).head? = some w → w ∈ lw_tbl := cw_at (l := (7, 153)) (w0 := Cond.code yX12_ends prog_14_method_24_code 1 ((some .int))) rfl rfl
theorem cw_188 : ∀ w, (mWd 188).head? = some w → w ∈ lw_tbl := cw_at (l := (7, 104)) (w0 := Cond.code yX12_kindHere prog_14_method_25_code 1 ((some .int))) rfl rfl
theorem cw_189 : ∀ w, (mWd 189).head? = some w → w ∈ lw_tbl := cw_at (l := (7, 125)) (w0 := Cond.code yX12_mostOf prog_14_method_26_code 1 ((some .int))) rfl rfl
theorem cw_190 : ∀ w, (mWd 190).head? = some w → w ∈ lw_tbl := cw_at (l := (7, 141)) (w0 := Cond.code yX12_readHouse prog_14_method_27_code 1 ((some .int))) rfl rfl
theorem cw_191 : ∀ w, (mWd 191).head? = some w → w ∈ lw_tbl := cw_at (l := (7, 145)) (w0 := Cond.code yX12_isReadWall prog_14_method_28_code 4 ((some .boolean))) rfl rfl
theorem cw_192 : ∀ w, (mWd 192).head? = some w → w ∈ lw_tbl := cw_at (l := (7, 100)) (w0 := Cond.code yX12_clause prog_14_method_29_code 6 (none)) rfl rfl
theorem cw_193 : ∀ w, (mWd 193).head? = some w → w ∈ lw_tbl := cw_at (l := (7, 77)) (w0 := Cond.code yX12_terrace prog_14_method_30_code 2 ((some .int))) rfl rfl
theorem cw_194 : ∀ w, (mWd 194).head? = some w → w ∈ lw_tbl := cw_at (l := (6, 154)) (w0 := Cond.code yX12_lays prog_14_method_31_code 5 (none)) rfl rfl
theorem cw_195 : ∀ w, (mWd 195).head? = some w → w ∈ lw_tbl := cw_at (l := (7, 212)) (w0 := Cond.code yX12_copies prog_14_method_32_code 3 (none)) rfl rfl
theorem cw_196 : ∀ w, (mWd 196).head? = some w → w ∈ lw_tbl := cw_at (l := (6, 151)) (w0 := Cond.code yX12_beginsAnew prog_14_method_33_code 2 (none)) rfl rfl
theorem cw_197 : ∀ w, (mWd 197).head? = some w → w ∈ lw_tbl := cw_at (l := (7, 177)) (w0 := Cond.code yX12_notes prog_14_method_34_code 3 (none)) rfl rfl
theorem cw_198 : ∀ w, (mWd 198).head? = some w → w ∈ lw_tbl := cw_at (l := (7, 173)) (w0 := Cond.code yX12_opensOne prog_14_method_35_code 1 ((some .boolean))) rfl rfl
theorem cw_199 : ∀ w, (mWd 199).head? = some w → w ∈ lw_tbl := cw_at (l := (7, 161)) (w0 := Cond.code yX12_sum prog_14_method_36_code 2 (none)) rfl rfl
theorem cw_200 : ∀ w, (mWd 200).head? = some w → w ∈ lw_tbl := cw_at (l := (7, 165)) (w0 := Cond.code yX12_product prog_14_method_37_code 2 (none)) rfl rfl
theorem cw_201 : ∀ w, (mWd 201).head? = some w → w ∈ lw_tbl := cw_at (l := (7, 181)) (w0 := Cond.code yX12_knownHere prog_14_method_38_code 1 ((some .int))) rfl rfl
theorem cw_202 : ∀ w, (mWd 202).head? = some w → w ∈ lw_tbl := cw_at (l := (7, 169)) (w0 := Cond.code yX12_one prog_14_method_39_code 3 (none)) rfl rfl
theorem cw_203 : ∀ w, (mWd 203).head? = some w → w ∈ lw_tbl := cw_at (l := (7, 157)) (w0 := Cond.code yX12_law prog_14_method_40_code 2 ((some .int))) rfl rfl
theorem cw_204 : ∀ w, (mWd 204).head? = some w → w ∈ lw_tbl := cw_at (l := (8, 23)) (w0 := Cond.code yX12_by prog_14_method_41_code 3 ((some .int))) rfl rfl
theorem cw_205 : ∀ w, (mWd 205).head? = some w → w ∈ lw_tbl := cw_at (l := (8, 20)) (w0 := Cond.code yX12_byLaw prog_14_method_42_code 3 ((some .int))) rfl rfl
theorem cw_206 : ∀ w, (mWd 206).head? = some w → w ∈ lw_tbl := cw_at (l := (7, 209)) (w0 := Cond.code yX12_stepHere prog_14_method_43_code 1 ((some .int))) rfl rfl
theorem cw_207 : ∀ w, (mWd 207).head? = some w → w ∈ lw_tbl := cw_at (l := (7, 205)) (w0 := Cond.code yX12_readsStep prog_14_method_44_code 3 (none)) rfl rfl
theorem cw_208 : ∀ w, (mWd 208).head? = some w → w ∈ lw_tbl := cw_at (l := (7, 193)) (w0 := Cond.code yX12_book prog_14_method_45_code 6 ((some .int))) rfl rfl
theorem cw_209 : ∀ w, (mWd 209).head? = some w → w ∈ lw_tbl := cw_at (l := (7, 197)) (w0 := Cond.code yX12_fault prog_14_method_46_code 1 ((some .int))) rfl rfl
theorem cw_210 : ∀ w, (mWd 210).head? = some w → w ∈ lw_tbl := cw_at (l := (8, 12)) (w0 := Cond.code yX12_isWall prog_14_method_47_code 4 ((some .boolean))) rfl rfl
theorem cw_211 : ∀ w, (mWd 211).head? = some w → w ∈ lw_tbl := cw_at (l := (8, 8)) (w0 := Cond.code yX12_isBeside prog_14_method_48_code 4 ((some .boolean))) rfl rfl
theorem cw_212 : ∀ w, (mWd 212).head? = some w → w ∈ lw_tbl := cw_at (l := (8, 33)) (w0 := Cond.code yX12_isFight prog_14_method_49_code 4 ((some .boolean))) rfl rfl
theorem cw_213 : ∀ w, (mWd 213).head? = some w → w ∈ lw_tbl := cw_at (l := (8, 16)) (w0 := Cond.code yX12_forceBy prog_14_method_50_code 9 ((some .int))) rfl rfl
theorem cw_214 : ∀ w, (mWd 214).head? = some w → w ∈ lw_tbl := cw_at (l := (8, 4)) (w0 := Cond.code yX12_forceWith prog_14_method_51_code 7 ((some .int))) rfl rfl
theorem cw_215 : ∀ w, (mWd 215).head? = some w → w ∈ lw_tbl := cw_at (l := (8, 0)) (w0 := Cond.code yX12_forceOf prog_14_method_52_code 3 ((some .int))) rfl rfl
theorem cw_216 : ∀ w, (mWd 216).head? = some w → w ∈ lw_tbl := cw_at (l := (7, 236)) (w0 := Cond.code yX12_brings prog_14_method_53_code 5 ((some .int))) rfl rfl
theorem cw_217 : ∀ w, (mWd 217).head? = some w → w ∈ lw_tbl := cw_at (l := (7, 228)) (w0 := Cond.code yX12_pianoIn prog_14_method_54_code 4 ((some .int))) rfl rfl
theorem cw_218 : ∀ w, (mWd 218).head? = some w → w ∈ lw_tbl := cw_at (l := (7, 224)) (w0 := Cond.code yX12_puts2 prog_14_method_55_code 4 ((some .boolean))) rfl rfl
theorem cw_219 : ∀ w, (mWd 219).head? = some w → w ∈ lw_tbl := cw_at (l := (7, 232)) (w0 := Cond.code yX12_dayEnds prog_14_method_56_code 4 (none)) rfl rfl
theorem cw_220 : ∀ w, (mWd 220).head? = some w → w ∈ lw_tbl := cw_at (l := (7, 220)) (w0 := Cond.code yX12_does prog_14_method_57_code 4 ((some .boolean))) rfl rfl
theorem cw_221 : ∀ w, (mWd 221).head? = some w → w ∈ lw_tbl := cw_at (l := (7, 216)) (w0 := Cond.code yX12_goes prog_14_method_58_code 5 (none)) rfl rfl
theorem cw_222 : ∀ w, (mWd 222).head? = some w → w ∈ lw_tbl := cw_at (l := (7, 201)) (w0 := Cond.code yX12_work prog_14_method_59_code 2 ((some .int))) rfl rfl
theorem cw_223 : ∀ w, (mWd 223).head? = some w → w ∈ lw_tbl := cw_at (l := (8, 37)) (w0 := Cond.code yX12_undo prog_14_method_60_code 1 ((some .int))) rfl rfl
theorem cw_224 : ∀ w, (mWd 224).head? = some w → w ∈ lw_tbl := cw_at (l := (8, 57)) (w0 := Cond.code yX12_amount prog_14_method_61_code 4 ((some .int))) rfl rfl
theorem cw_225 : ∀ w, (mWd 225).head? = some w → w ∈ lw_tbl := cw_at (l := (8, 53)) (w0 := Cond.code yX12_thingOf prog_14_method_62_code 5 ((some .int))) rfl rfl
theorem cw_226 : ∀ w, (mWd 226).head? = some w → w ∈ lw_tbl := cw_at (l := (8, 49)) (w0 := Cond.code yX12_wishedIn prog_14_method_63_code 4 ((some .int))) rfl rfl
theorem cw_227 : ∀ w, (mWd 227).head? = some w → w ∈ lw_tbl := cw_at (l := (8, 212)) (w0 := Cond.code yX12_changedIn prog_14_method_64_code 4 ((some .int))) rfl rfl
theorem cw_228 : ∀ w, (mWd 228).head? = some w → w ∈ lw_tbl := cw_at (l := (8, 61)) (w0 := Cond.code yX12_allIn prog_14_method_65_code 4 ((some .int))) rfl rfl
theorem cw_229 : ∀ w, (mWd 229).head? = some w → w ∈ lw_tbl := cw_at (l := (8, 45)) (w0 := Cond.code yX12_fightsOf prog_14_method_66_code 5 ((some .int))) rfl rfl
theorem cw_230 : ∀ w, (mWd 230).head? = some w → w ∈ lw_tbl := cw_at (l := (8, 41)) (w0 := Cond.code yX12_told prog_14_method_67_code 5 ((some .int))) rfl rfl
theorem cw_231 : ∀ w, (mWd 231).head? = some w → w ∈ lw_tbl := cw_at (l := (8, 69)) (w0 := Cond.code yX12_isHouse prog_14_method_68_code 2 ((some .boolean))) rfl rfl
theorem cw_232 : ∀ w, (mWd 232).head? = some w → w ∈ lw_tbl := cw_at (l := (8, 88)) (w0 := Cond.code yX12_isPiano prog_14_method_69_code 2 ((some .boolean))) rfl rfl
theorem cw_233 : ∀ w, (mWd 233).head? = some w → w ∈ lw_tbl := cw_at (l := (8, 76)) (w0 := Cond.code yX12_isThing prog_14_method_70_code 1 ((some .boolean))) rfl rfl
theorem cw_234 : ∀ w, (mWd 234).head? = some w → w ∈ lw_tbl := cw_at (l := (8, 65)) (w0 := Cond.code yX12_house prog_14_method_71_code 6 ((some .int))) rfl rfl
theorem cw_235 : ∀ w, (mWd 235).head? = some w → w ∈ lw_tbl := cw_at (l := (8, 73)) (w0 := Cond.code yX12_there prog_14_method_72_code 3 ((some .int))) rfl rfl
theorem cw_236 : ∀ w, (mWd 236).head? = some w → w ∈ lw_tbl := cw_at (l := (8, 80)) (w0 := Cond.code yX12_wall prog_14_method_73_code 3 ((some .int))) rfl rfl
theorem cw_237 : ∀ w, (mWd 237).head? = some w → w ∈ lw_tbl := cw_at (l := (8, 84)) (w0 := Cond.code yX12_piano prog_14_method_74_code 3 ((some .int))) rfl rfl
theorem cw_238 : ∀ w, (mWd 238).head? = some w → w ∈ lw_tbl := cw_at (l := (8, 92)) (w0 := Cond.code yX12_would prog_14_method_75_code 9 ((some .int))) rfl rfl
theorem cw_239 : ∀ w, (mWd 239).head? = some w → w ∈ lw_tbl := cw_at (l := (8, 96)) (w0 := Cond.code yX12_ahead prog_14_method_76_code 5 ((some .int))) rfl rfl
theorem cw_240 : ∀ w, (mWd 240).head? = some w → w ∈ lw_tbl := cw_at (l := (8, 100)) (w0 := Cond.code yX12_when prog_14_method_77_code 4 ((some .int))) rfl rfl
theorem cw_241 : ∀ w, (mWd 241).head? = some w → w ∈ lw_tbl := cw_at (l := (8, 104)) (w0 := Cond.code yX12_muffle prog_14_method_78_code 3 ((some .int))) rfl rfl
theorem cw_242 : ∀ w, (mWd 242).head? = some w → w ∈ lw_tbl := cw_at (l := (8, 116)) (w0 := Cond.code yX12_putsFrom prog_14_method_79_code 6 (none)) rfl rfl
theorem cw_243 : ∀ w, (mWd 243).head? = some w → w ∈ lw_tbl := cw_at (l := (8, 112)) (w0 := Cond.code yX12_placesAll prog_14_method_80_code 2 (none)) rfl rfl
theorem cw_244 : ∀ w, (mWd 244).head? = some w → w ∈ lw_tbl := cw_at (l := (8, 108)) (w0 := Cond.code yX12_places prog_14_method_81_code 1 ((some .int))) rfl rfl
theorem cw_245 : ∀ w, (mWd 245).head? = some w → w ∈ lw_tbl := cw_at (l := (8, 120)) (w0 := Cond.code yX12_placed prog_14_method_82_code 2 ((some .int))) rfl rfl
theorem cw_246 : ∀ w, (mWd 246).head? = some w → w ∈ lw_tbl := cw_at (l := (8, 128)) (w0 := Cond.code yX12_laysHeard prog_14_method_83_code 6 (none)) rfl rfl
theorem cw_247 : ∀ w, (mWd 247).head? = some w → w ∈ lw_tbl := cw_at (l := (8, 132)) (w0 := Cond.code yX12_isHeard prog_14_method_84_code 2 ((some .boolean))) rfl rfl
theorem cw_248 : ∀ w, (mWd 248).head? = some w → w ∈ lw_tbl := cw_at (l := (8, 124)) (w0 := Cond.code yX12_from prog_14_method_85_code 7 ((some .int))) rfl rfl
theorem cw_249 : ∀ w, (mWd 249).head? = some w → w ∈ lw_tbl := cw_at (l := (8, 140)) (w0 := Cond.code yX12_isTold prog_14_method_86_code 3 ((some .boolean))) rfl rfl
theorem cw_250 : ∀ w, (mWd 250).head? = some w → w ∈ lw_tbl := cw_at (l := (8, 136)) (w0 := Cond.code yX12_look prog_14_method_87_code 8 ((some .int))) rfl rfl
theorem cw_251 : ∀ w, (mWd 251).head? = some w → w ∈ lw_tbl := cw_at (l := (8, 144)) (w0 := Cond.code yX12_way prog_14_method_88_code 6 ((some .int))) rfl rfl
theorem cw_252 : ∀ w, (mWd 252).head? = some w → w ∈ lw_tbl := cw_at (l := (8, 151)) (w0 := Cond.code yX12_ones prog_14_method_89_code 3 ((some .int))) rfl rfl
theorem cw_253 : ∀ w, (mWd 253).head? = some w → w ∈ lw_tbl := cw_at (l := (8, 148)) (w0 := Cond.code yX12_alone prog_14_method_90_code 5 ((some .int))) rfl rfl
theorem cw_254 : ∀ w, (mWd 254).head? = some w → w ∈ lw_tbl := cw_at (l := (8, 158)) (w0 := Cond.code yX12_price prog_14_method_91_code 14 ((some .long))) rfl rfl
theorem cw_255 : ∀ w, (mWd 255).head? = some w → w ∈ lw_tbl := cw_at (l := (8, 165)) (w0 := Cond.code yX12_hisBy prog_14_method_92_code 3 ((some .int))) rfl rfl
theorem cw_256 : ∀ w, (mWd 256).head? = some w → w ∈ lw_tbl := cw_at (l := (8, 168)) (w0 := Cond.code yX12_itsBy prog_14_method_93_code 4 ((some .int))) rfl rfl
theorem cw_257 : ∀ w, (mWd 257).head? = some w → w ∈ lw_tbl := cw_at (l := (8, 162)) (w0 := Cond.code yX12_tuner prog_14_method_94_code 10 ((some .int))) rfl rfl
theorem cw_258 : ∀ w, (mWd 258).head? = some w → w ∈ lw_tbl := cw_at (l := (8, 176)) (w0 := Cond.code yX12_givenBy prog_14_method_95_code 5 ((some .int))) rfl rfl
theorem cw_259 : ∀ w, (mWd 259).head? = some w → w ∈ lw_tbl := cw_at (l := (8, 172)) (w0 := Cond.code yX12_share prog_14_method_96_code 5 ((some .int))) rfl rfl
theorem cw_260 : ∀ w, (mWd 260).head? = some w → w ∈ lw_tbl := cw_at (l := (8, 180)) (w0 := Cond.code yX12_those prog_14_method_97_code 4 ((some .int))) rfl rfl
theorem cw_261 : ∀ w, (mWd 261).head? = some w → w ∈ lw_tbl := cw_at (l := (8, 184)) (w0 := Cond.code yX12_loudest prog_14_method_98_code 5 ((some .int))) rfl rfl
theorem cw_262 : ∀ w, (mWd 262).head? = some w → w ∈ lw_tbl := cw_at (l := (8, 188)) (w0 := Cond.code yX12_quiet prog_14_method_99_code 5 ((some .int))) rfl rfl
theorem cw_263 : ∀ w, (mWd 263).head? = some w → w ∈ lw_tbl := cw_at (l := (8, 192)) (w0 := Cond.code yX12_tunes prog_14_method_100_code 3 ((some .int))) rfl rfl
theorem cw_264 : ∀ w, (mWd 264).head? = some w → w ∈ lw_tbl := cw_at (l := (8, 196)) (w0 := Cond.code yX12_oldest prog_14_method_101_code 5 ((some .int))) rfl rfl
theorem cw_265 : ∀ w, (mWd 265).head? = some w → w ∈ lw_tbl := cw_at (l := (8, 200)) (w0 := Cond.code yX12_empty prog_14_method_102_code 3 ((some .int))) rfl rfl
theorem cw_266 : ∀ w, (mWd 266).head? = some w → w ∈ lw_tbl := cw_at (l := (8, 204)) (w0 := Cond.code yX12_margin prog_14_method_103_code 5 ((some .int))) rfl rfl
theorem cw_267 : ∀ w, (mWd 267).head? = some w → w ∈ lw_tbl := cw_at (l := (8, 208)) (w0 := Cond.code yX12_changed prog_14_method_104_code 1 ((some .int))) rfl rfl
theorem cw_268 : ∀ w, (mWd 268).head? = some w → w ∈ lw_tbl := cw_at (l := (8, 227)) (w0 := Cond.code yX12_draw prog_14_method_105_code 2 ((some .int))) rfl rfl
theorem cw_269 : ∀ w, (mWd 269).head? = some w → w ∈ lw_tbl := cw_at (l := (8, 223)) (w0 := Cond.code yX12_yearBy prog_14_method_106_code 6 (none)) rfl rfl
theorem cw_270 : ∀ w, (mWd 270).head? = some w → w ∈ lw_tbl := cw_at (l := (8, 219)) (w0 := Cond.code yX12_isYear prog_14_method_107_code 2 ((some .boolean))) rfl rfl
theorem cw_271 : ∀ w, (mWd 271).head? = some w → w ∈ lw_tbl := cw_at (l := (8, 216)) (w0 := Cond.code yX12_year prog_14_method_108_code 5 ((some .int))) rfl rfl
theorem cw_272 : ∀ w, (mWd 272).head? = some w → w ∈ lw_tbl := cw_at (l := (8, 232)) (w0 := Cond.code yX12_span prog_14_method_109_code 12 ((some .int))) rfl rfl
theorem cw_273 : ∀ w, (mWd 273).head? = some w → w ∈ lw_tbl := cw_at (l := (9, 4)) (w0 := Cond.code yX12_puts prog_14_method_110_code 4 ((some .int))) rfl rfl
theorem cw_274 : ∀ w, (mWd 274).head? = some w → w ∈ lw_tbl := cw_at (l := (9, 0)) (w0 := Cond.code yX12_putsAll prog_14_method_111_code 5 (none)) rfl rfl
theorem cw_275 : ∀ w, (mWd 275).head? = some w → w ∈ lw_tbl := cw_at (l := (8, 236)) (w0 := Cond.code yX12_image prog_14_method_112_code 1 ((some .int))) rfl rfl
theorem cw_276 : ∀ w, (mWd 276).head? = some w → w ∈ lw_tbl := cw_at (l := (9, 8)) (w0 := Cond.code yX12_restore prog_14_method_113_code 1 ((some .int))) rfl rfl
theorem cw_277 : ∀ w, (mWd 277).head? = some w → w ∈ lw_tbl := cw_at (l := (9, 12)) (w0 := Cond.code yX12_status prog_14_method_114_code 2 ((some .int))) rfl rfl
theorem cw_278 : ∀ w, (mWd 278).head? = some w → w ∈ lw_tbl := cw_at (l := (9, 16)) (w0 := Cond.code yX12_count prog_14_method_115_code 2 ((some .int))) rfl rfl
theorem cw_279 : ∀ w, (mWd 279).head? = some w → w ∈ lw_tbl := cw_at (l := (3, 74)) (w0 := Cond.codeWith yL_terrace method_3_code 4 ((some .int)) [(0, 9, 12, 13)]) rfl rfl
theorem cw_280 : ∀ w, (mWd 280).head? = some w → w ∈ lw_tbl := cw_at (l := (4, 60)) (w0 := Cond.codeWith yL_law method_4_code 4 ((some .int)) [(0, 9, 12, 13)]) rfl rfl
theorem cw_281 : ∀ w, (mWd 281).head? = some w → w ∈ lw_tbl := cw_at (l := (4, 128)) (w0 := Cond.codeWith yL_work method_5_code 4 ((some .int)) [(0, 9, 12, 13)]) rfl rfl
theorem cw_282 : ∀ w, (mWd 282).head? = some w → w ∈ lw_tbl := cw_at (l := (5, 12)) (w0 := Cond.codeWith yL_book method_6_code 4 ((some .int)) [(0, 9, 12, 13)]) rfl rfl
theorem cw_283 : ∀ w, (mWd 283).head? = some w → w ∈ lw_tbl := cw_at (l := (5, 40)) (w0 := Cond.codeWith yL_told method_7_code 4 ((some .int)) [(0, 9, 12, 13)]) rfl rfl
theorem cw_284 : ∀ w, (mWd 284).head? = some w → w ∈ lw_tbl := cw_at (l := (5, 68)) (w0 := Cond.codeWith yL_house method_8_code 5 ((some .int)) [(0, 10, 13, 31), (0, 10, 17, 13)]) rfl rfl
theorem cw_285 : ∀ w, (mWd 285).head? = some w → w ∈ lw_tbl := cw_at (l := (5, 106)) (w0 := Cond.codeWith yL_there method_9_code 5 ((some .int)) [(0, 10, 13, 31), (0, 10, 17, 13)]) rfl rfl
theorem cw_286 : ∀ w, (mWd 286).head? = some w → w ∈ lw_tbl := cw_at (l := (5, 118)) (w0 := Cond.codeWith yL_wall method_10_code 5 ((some .int)) [(0, 10, 13, 31), (0, 10, 17, 13)]) rfl rfl
theorem cw_287 : ∀ w, (mWd 287).head? = some w → w ∈ lw_tbl := cw_at (l := (5, 125)) (w0 := Cond.codeWith yL_piano method_11_code 5 ((some .int)) [(0, 10, 13, 31), (0, 10, 17, 13)]) rfl rfl
theorem cw_288 : ∀ w, (mWd 288).head? = some w → w ∈ lw_tbl := cw_at (l := (5, 145)) (w0 := Cond.codeWith yL_would method_12_code 11 ((some .int)) [(0, 22, 25, 13)]) rfl rfl
theorem cw_289 : ∀ w, (mWd 289).head? = some w → w ∈ lw_tbl := cw_at (l := (5, 153)) (w0 := Cond.codeWith yL_ahead method_13_code 6 ((some .int)) [(0, 12, 15, 31), (0, 12, 19, 13)]) rfl rfl
theorem cw_290 : ∀ w, (mWd 290).head? = some w → w ∈ lw_tbl := cw_at (l := (5, 166)) (w0 := Cond.codeWith yL_when method_14_code 5 ((some .int)) [(0, 10, 13, 31), (0, 10, 17, 13)]) rfl rfl
theorem cw_291 : ∀ w, (mWd 291).head? = some w → w ∈ lw_tbl := cw_at (l := (5, 173)) (w0 := Cond.codeWith yL_muffle method_15_code 4 ((some .int)) [(0, 9, 12, 31)]) rfl rfl
theorem cw_292 : ∀ w, (mWd 292).head? = some w → w ∈ lw_tbl := cw_at (l := (5, 180)) (w0 := Cond.codeWith yL_placed method_16_code 4 ((some .int)) [(0, 9, 12, 31)]) rfl rfl
theorem cw_293 : ∀ w, (mWd 293).head? = some w → w ∈ lw_tbl := cw_at (l := (5, 187)) (w0 := Cond.codeWith yL_from method_17_code 5 ((some .int)) [(0, 10, 13, 31), (0, 10, 17, 13)]) rfl rfl
theorem cw_294 : ∀ w, (mWd 294).head? = some w → w ∈ lw_tbl := cw_at (l := (5, 239)) (w0 := Cond.codeWith yL_look method_18_code 5 ((some .int)) [(0, 10, 13, 31), (0, 10, 17, 13)]) rfl rfl
theorem cw_295 : ∀ w, (mWd 295).head? = some w → w ∈ lw_tbl := cw_at (l := (6, 6)) (w0 := Cond.codeWith yL_way method_19_code 5 ((some .int)) [(0, 10, 13, 31)]) rfl rfl
theorem cw_296 : ∀ w, (mWd 296).head? = some w → w ∈ lw_tbl := cw_at (l := (6, 13)) (w0 := Cond.codeWith yL_price method_20_code 6 ((some .int)) [(0, 11, 14, 13)]) rfl rfl
theorem cw_297 : ∀ w, (mWd 297).head? = some w → w ∈ lw_tbl := cw_at (l := (6, 27)) (w0 := Cond.codeWith yL_tuner method_21_code 6 ((some .int)) [(0, 12, 15, 13)]) rfl rfl
theorem cw_298 : ∀ w, (mWd 298).head? = some w → w ∈ lw_tbl := cw_at (l := (6, 43)) (w0 := Cond.codeWith yL_share method_22_code 6 ((some .int)) [(0, 12, 15, 31), (0, 12, 19, 13)]) rfl rfl
theorem cw_299 : ∀ w, (mWd 299).head? = some w → w ∈ lw_tbl := cw_at (l := (6, 56)) (w0 := Cond.codeWith yL_those method_23_code 4 ((some .int)) [(0, 9, 12, 13)]) rfl rfl
theorem cw_300 : ∀ w, (mWd 300).head? = some w → w ∈ lw_tbl := cw_at (l := (6, 63)) (w0 := Cond.codeWith yL_loudest method_24_code 4 ((some .int)) [(0, 9, 12, 13)]) rfl rfl
theorem cw_301 : ∀ w, (mWd 301).head? = some w → w ∈ lw_tbl := cw_at (l := (6, 70)) (w0 := Cond.codeWith yL_quiet method_25_code 4 ((some .int)) [(0, 9, 12, 31)]) rfl rfl
theorem cw_302 : ∀ w, (mWd 302).head? = some w → w ∈ lw_tbl := cw_at (l := (6, 78)) (w0 := Cond.codeWith yL_oldest method_26_code 4 ((some .int)) [(0, 9, 12, 13)]) rfl rfl
theorem cw_303 : ∀ w, (mWd 303).head? = some w → w ∈ lw_tbl := cw_at (l := (6, 85)) (w0 := Cond.codeWith yL_margin method_27_code 4 ((some .int)) [(0, 9, 12, 31)]) rfl rfl
theorem cw_304 : ∀ w, (mWd 304).head? = some w → w ∈ lw_tbl := cw_at (l := (6, 96)) (w0 := Cond.codeWith yL_tunes method_28_code 5 ((some .int)) [(0, 10, 13, 31)]) rfl rfl
theorem cw_305 : ∀ w, (mWd 305).head? = some w → w ∈ lw_tbl := cw_at (l := (6, 104)) (w0 := Cond.codeWith yL_year method_29_code 7 ((some .int)) [(0, 14, 17, 13)]) rfl rfl
theorem cw_306 : ∀ w, (mWd 306).head? = some w → w ∈ lw_tbl := cw_at (l := (6, 131)) (w0 := Cond.codeWith yL_span method_30_code 9 ((some .int)) [(0, 18, 21, 13)]) rfl rfl
theorem cw_307 : ∀ w, (mWd 307).head? = some w → w ∈ lw_tbl := cw_no rfl
theorem cw_308 : ∀ w, (mWd 308).head? = some w → w ∈ lw_tbl := cw_at (l := (3, 35)) (w0 := Cond.code yJ6_bitCount_0f7a4 prog_20_method_49_code 1 ((some .int))) rfl rfl
theorem cw_309 : ∀ w, (mWd 309).head? = some w → w ∈ lw_tbl := cw_at (l := (2, 126)) (w0 := Cond.code yJ7_fill_53178 prog_30_method_103_code 4 (none)) rfl rfl
theorem cw_all : ∀ M, M < 310 → ∀ w, (mWd M).head? = some w → w ∈ lw_tbl
  | 0, _ => cw_0
  | 1, _ => cw_1
  | 2, _ => cw_2
  | 3, _ => cw_3
  | 4, _ => cw_4
  | 5, _ => cw_5
  | 6, _ => cw_6
  | 7, _ => cw_7
  | 8, _ => cw_8
  | 9, _ => cw_9
  | 10, _ => cw_10
  | 11, _ => cw_11
  | 12, _ => cw_12
  | 13, _ => cw_13
  | 14, _ => cw_14
  | 15, _ => cw_15
  | 16, _ => cw_16
  | 17, _ => cw_17
  | 18, _ => cw_18
  | 19, _ => cw_19
  | 20, _ => cw_20
  | 21, _ => cw_21
  | 22, _ => cw_22
  | 23, _ => cw_23
  | 24, _ => cw_24
  | 25, _ => cw_25
  | 26, _ => cw_26
  | 27, _ => cw_27
  | 28, _ => cw_28
  | 29, _ => cw_29
  | 30, _ => cw_30
  | 31, _ => cw_31
  | 32, _ => cw_32
  | 33, _ => cw_33
  | 34, _ => cw_34
  | 35, _ => cw_35
  | 36, _ => cw_36
  | 37, _ => cw_37
  | 38, _ => cw_38
  | 39, _ => cw_39
  | 40, _ => cw_40
  | 41, _ => cw_41
  | 42, _ => cw_42
  | 43, _ => cw_43
  | 44, _ => cw_44
  | 45, _ => cw_45
  | 46, _ => cw_46
  | 47, _ => cw_47
  | 48, _ => cw_48
  | 49, _ => cw_49
  | 50, _ => cw_50
  | 51, _ => cw_51
  | 52, _ => cw_52
  | 53, _ => cw_53
  | 54, _ => cw_54
  | 55, _ => cw_55
  | 56, _ => cw_56
  | 57, _ => cw_57
  | 58, _ => cw_58
  | 59, _ => cw_59
  | 60, _ => cw_60
  | 61, _ => cw_61
  | 62, _ => cw_62
  | 63, _ => cw_63
  | 64, _ => cw_64
  | 65, _ => cw_65
  | 66, _ => cw_66
  | 67, _ => cw_67
  | 68, _ => cw_68
  | 69, _ => cw_69
  | 70, _ => cw_70
  | 71, _ => cw_71
  | 72, _ => cw_72
  | 73, _ => cw_73
  | 74, _ => cw_74
  | 75, _ => cw_75
  | 76, _ => cw_76
  | 77, _ => cw_77
  | 78, _ => cw_78
  | 79, _ => cw_79
  | 80, _ => cw_80
  | 81, _ => cw_81
  | 82, _ => cw_82
  | 83, _ => cw_83
  | 84, _ => cw_84
  | 85, _ => cw_85
  | 86, _ => cw_86
  | 87, _ => cw_87
  | 88, _ => cw_88
  | 89, _ => cw_89
  | 90, _ => cw_90
  | 91, _ => cw_91
  | 92, _ => cw_92
  | 93, _ => cw_93
  | 94, _ => cw_94
  | 95, _ => cw_95
  | 96, _ => cw_96
  | 97, _ => cw_97
  | 98, _ => cw_98
  | 99, _ => cw_99
  | 100, _ => cw_100
  | 101, _ => cw_101
  | 102, _ => cw_102
  | 103, _ => cw_103
  | 104, _ => cw_104
  | 105, _ => cw_105
  | 106, _ => cw_106
  | 107, _ => cw_107
  | 108, _ => cw_108
  | 109, _ => cw_109
  | 110, _ => cw_110
  | 111, _ => cw_111
  | 112, _ => cw_112
  | 113, _ => cw_113
  | 114, _ => cw_114
  | 115, _ => cw_115
  | 116, _ => cw_116
  | 117, _ => cw_117
  | 118, _ => cw_118
  | 119, _ => cw_119
  | 120, _ => cw_120
  | 121, _ => cw_121
  | 122, _ => cw_122
  | 123, _ => cw_123
  | 124, _ => cw_124
  | 125, _ => cw_125
  | 126, _ => cw_126
  | 127, _ => cw_127
  | 128, _ => cw_128
  | 129, _ => cw_129
  | 130, _ => cw_130
  | 131, _ => cw_131
  | 132, _ => cw_132
  | 133, _ => cw_133
  | 134, _ => cw_134
  | 135, _ => cw_135
  | 136, _ => cw_136
  | 137, _ => cw_137
  | 138, _ => cw_138
  | 139, _ => cw_139
  | 140, _ => cw_140
  | 141, _ => cw_141
  | 142, _ => cw_142
  | 143, _ => cw_143
  | 144, _ => cw_144
  | 145, _ => cw_145
  | 146, _ => cw_146
  | 147, _ => cw_147
  | 148, _ => cw_148
  | 149, _ => cw_149
  | 150, _ => cw_150
  | 151, _ => cw_151
  | 152, _ => cw_152
  | 153, _ => cw_153
  | 154, _ => cw_154
  | 155, _ => cw_155
  | 156, _ => cw_156
  | 157, _ => cw_157
  | 158, _ => cw_158
  | 159, _ => cw_159
  | 160, _ => cw_160
  | 161, _ => cw_161
  | 162, _ => cw_162
  | 163, _ => cw_163
  | 164, _ => cw_164
  | 165, _ => cw_165
  | 166, _ => cw_166
  | 167, _ => cw_167
  | 168, _ => cw_168
  | 169, _ => cw_169
  | 170, _ => cw_170
  | 171, _ => cw_171
  | 172, _ => cw_172
  | 173, _ => cw_173
  | 174, _ => cw_174
  | 175, _ => cw_175
  | 176, _ => cw_176
  | 177, _ => cw_177
  | 178, _ => cw_178
  | 179, _ => cw_179
  | 180, _ => cw_180
  | 181, _ => cw_181
  | 182, _ => cw_182
  | 183, _ => cw_183
  | 184, _ => cw_184
  | 185, _ => cw_185
  | 186, _ => cw_186
  | 187, _ => cw_187
  | 188, _ => cw_188
  | 189, _ => cw_189
  | 190, _ => cw_190
  | 191, _ => cw_191
  | 192, _ => cw_192
  | 193, _ => cw_193
  | 194, _ => cw_194
  | 195, _ => cw_195
  | 196, _ => cw_196
  | 197, _ => cw_197
  | 198, _ => cw_198
  | 199, _ => cw_199
  | 200, _ => cw_200
  | 201, _ => cw_201
  | 202, _ => cw_202
  | 203, _ => cw_203
  | 204, _ => cw_204
  | 205, _ => cw_205
  | 206, _ => cw_206
  | 207, _ => cw_207
  | 208, _ => cw_208
  | 209, _ => cw_209
  | 210, _ => cw_210
  | 211, _ => cw_211
  | 212, _ => cw_212
  | 213, _ => cw_213
  | 214, _ => cw_214
  | 215, _ => cw_215
  | 216, _ => cw_216
  | 217, _ => cw_217
  | 218, _ => cw_218
  | 219, _ => cw_219
  | 220, _ => cw_220
  | 221, _ => cw_221
  | 222, _ => cw_222
  | 223, _ => cw_223
  | 224, _ => cw_224
  | 225, _ => cw_225
  | 226, _ => cw_226
  | 227, _ => cw_227
  | 228, _ => cw_228
  | 229, _ => cw_229
  | 230, _ => cw_230
  | 231, _ => cw_231
  | 232, _ => cw_232
  | 233, _ => cw_233
  | 234, _ => cw_234
  | 235, _ => cw_235
  | 236, _ => cw_236
  | 237, _ => cw_237
  | 238, _ => cw_238
  | 239, _ => cw_239
  | 240, _ => cw_240
  | 241, _ => cw_241
  | 242, _ => cw_242
  | 243, _ => cw_243
  | 244, _ => cw_244
  | 245, _ => cw_245
  | 246, _ => cw_246
  | 247, _ => cw_247
  | 248, _ => cw_248
  | 249, _ => cw_249
  | 250, _ => cw_250
  | 251, _ => cw_251
  | 252, _ => cw_252
  | 253, _ => cw_253
  | 254, _ => cw_254
  | 255, _ => cw_255
  | 256, _ => cw_256
  | 257, _ => cw_257
  | 258, _ => cw_258
  | 259, _ => cw_259
  | 260, _ => cw_260
  | 261, _ => cw_261
  | 262, _ => cw_262
  | 263, _ => cw_263
  | 264, _ => cw_264
  | 265, _ => cw_265
  | 266, _ => cw_266
  | 267, _ => cw_267
  | 268, _ => cw_268
  | 269, _ => cw_269
  | 270, _ => cw_270
  | 271, _ => cw_271
  | 272, _ => cw_272
  | 273, _ => cw_273
  | 274, _ => cw_274
  | 275, _ => cw_275
  | 276, _ => cw_276
  | 277, _ => cw_277
  | 278, _ => cw_278
  | 279, _ => cw_279
  | 280, _ => cw_280
  | 281, _ => cw_281
  | 282, _ => cw_282
  | 283, _ => cw_283
  | 284, _ => cw_284
  | 285, _ => cw_285
  | 286, _ => cw_286
  | 287, _ => cw_287
  | 288, _ => cw_288
  | 289, _ => cw_289
  | 290, _ => cw_290
  | 291, _ => cw_291
  | 292, _ => cw_292
  | 293, _ => cw_293
  | 294, _ => cw_294
  | 295, _ => cw_295
  | 296, _ => cw_296
  | 297, _ => cw_297
  | 298, _ => cw_298
  | 299, _ => cw_299
  | 300, _ => cw_300
  | 301, _ => cw_301
  | 302, _ => cw_302
  | 303, _ => cw_303
  | 304, _ => cw_304
  | 305, _ => cw_305
  | 306, _ => cw_306
  | 307, _ => cw_307
  | 308, _ => cw_308
  | 309, _ => cw_309
  | z + 310, h => absurd h (by omega)
theorem mck_0 : (List.range 31).all (fun k => mCk2 (0 + k)) = true := by decide +kernel
theorem mck_31 : (List.range 31).all (fun k => mCk2 (31 + k)) = true := by decide +kernel
theorem mck_62 : (List.range 31).all (fun k => mCk2 (62 + k)) = true := by decide +kernel
theorem mck_93 : (List.range 31).all (fun k => mCk2 (93 + k)) = true := by decide +kernel
theorem mck_124 : (List.range 31).all (fun k => mCk2 (124 + k)) = true := by decide +kernel
theorem mck_155 : (List.range 31).all (fun k => mCk2 (155 + k)) = true := by decide +kernel
theorem mck_186 : (List.range 31).all (fun k => mCk2 (186 + k)) = true := by decide +kernel
theorem mck_217 : (List.range 31).all (fun k => mCk2 (217 + k)) = true := by decide +kernel
theorem mck_248 : (List.range 31).all (fun k => mCk2 (248 + k)) = true := by decide +kernel
theorem mck_279 : (List.range 31).all (fun k => mCk2 (279 + k)) = true := by decide +kernel
theorem mk_all : ∀ M, M < 310 → mCk M = true := by
  intro M h
  by_cases h0 : M < 31
  · have := List.all_eq_true.mp mck_0 (M - 0) (List.mem_range.mpr (by omega))
    rw [show 0 + (M - 0) = M by omega] at this
    exact mCk2_ok this (cw_all M h)
  by_cases h31 : M < 62
  · have := List.all_eq_true.mp mck_31 (M - 31) (List.mem_range.mpr (by omega))
    rw [show 31 + (M - 31) = M by omega] at this
    exact mCk2_ok this (cw_all M h)
  by_cases h62 : M < 93
  · have := List.all_eq_true.mp mck_62 (M - 62) (List.mem_range.mpr (by omega))
    rw [show 62 + (M - 62) = M by omega] at this
    exact mCk2_ok this (cw_all M h)
  by_cases h93 : M < 124
  · have := List.all_eq_true.mp mck_93 (M - 93) (List.mem_range.mpr (by omega))
    rw [show 93 + (M - 93) = M by omega] at this
    exact mCk2_ok this (cw_all M h)
  by_cases h124 : M < 155
  · have := List.all_eq_true.mp mck_124 (M - 124) (List.mem_range.mpr (by omega))
    rw [show 124 + (M - 124) = M by omega] at this
    exact mCk2_ok this (cw_all M h)
  by_cases h155 : M < 186
  · have := List.all_eq_true.mp mck_155 (M - 155) (List.mem_range.mpr (by omega))
    rw [show 155 + (M - 155) = M by omega] at this
    exact mCk2_ok this (cw_all M h)
  by_cases h186 : M < 217
  · have := List.all_eq_true.mp mck_186 (M - 186) (List.mem_range.mpr (by omega))
    rw [show 186 + (M - 186) = M by omega] at this
    exact mCk2_ok this (cw_all M h)
  by_cases h217 : M < 248
  · have := List.all_eq_true.mp mck_217 (M - 217) (List.mem_range.mpr (by omega))
    rw [show 217 + (M - 217) = M by omega] at this
    exact mCk2_ok this (cw_all M h)
  by_cases h248 : M < 279
  · have := List.all_eq_true.mp mck_248 (M - 248) (List.mem_range.mpr (by omega))
    rw [show 248 + (M - 248) = M by omega] at this
    exact mCk2_ok this (cw_all M h)
  by_cases h279 : M < 310
  · have := List.all_eq_true.mp mck_279 (M - 279) (List.mem_range.mpr (by omega))
    rw [show 279 + (M - 279) = M by omega] at this
    exact mCk2_ok this (cw_all M h)
  omega
