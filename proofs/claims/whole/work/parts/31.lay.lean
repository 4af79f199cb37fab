/-! WHERE THE CELLS ARE (by program): cell 0 the class, from 213 on the reference; a Reckoning at 1 and at 88, the image at 175. -/
def tSh : List (Nat × Nat) := [(7, 7), (3, 16), (0, 6), (5, 4), (100, 30), (5, 4), (100, 24), (5, 4), (100, 36), (5, 4), (100, 120), (5, 4), (100, 8), (5, 4), (100, 16), (1, 16), (100, 6), (100, 6), (100, 6), (101, 6), (100, 6), (100, 6), (100, 6), (100, 6), (101, 6), (100, 6), (102, 6), (102, 6), (101, 5), (101, 5), (103, 24), (100, 8), (100, 8), (100, 8), (100, 8), (100, 8), (100, 8), (100, 8), (100, 8), (100, 8), (100, 8), (100, 8), (100, 8), (100, 8), (100, 8), (100, 8), (100, 8), (100, 8), (100, 8), (100, 8), (100, 8), (100, 8), (100, 8), (100, 8), (100, 8), (101, 24), (104, 5), (101, 8), (101, 8), (101, 8), (101, 8), (101, 8), (104, 5), (101, 6), (101, 6), (101, 6), (101, 6), (101, 6), (101, 5), (101, 5), (101, 5), (101, 5), (101, 5), (101, 6), (103, 5), (100, 8), (100, 8), (100, 8), (100, 8), (100, 8), (103, 5), (100, 8), (100, 8), (100, 8), (100, 8), (100, 8), (101, 6), (2, 1), (3, 16), (0, 6), (5, 4), (100, 30), (5, 4), (100, 24), (5, 4), (100, 36), (5, 4), (100, 120), (5, 4), (100, 8), (5, 4), (100, 16), (1, 16), (100, 6), (100, 6), (100, 6), (101, 6), (100, 6), (100, 6), (100, 6), (100, 6), (101, 6), (100, 6), (102, 6), (102, 6), (101, 5), (101, 5), (103, 24), (100, 8), (100, 8), (100, 8), (100, 8), (100, 8), (100, 8), (100, 8), (100, 8), (100, 8), (100, 8), (100, 8), (100, 8), (100, 8), (100, 8), (100, 8), (100, 8), (100, 8), (100, 8), (100, 8), (100, 8), (100, 8), (100, 8), (100, 8), (100, 8), (101, 24), (104, 5), (101, 8), (101, 8), (101, 8), (101, 8), (101, 8), (104, 5), (101, 6), (101, 6), (101, 6), (101, 6), (101, 6), (101, 5), (101, 5), (101, 5), (101, 5), (101, 5), (101, 6), (103, 5), (100, 8), (100, 8), (100, 8), (100, 8), (100, 8), (103, 5), (100, 8), (100, 8), (100, 8), (100, 8), (100, 8), (101, 6), (2, 1), (0, 6), (5, 4), (100, 30), (5, 4), (100, 24), (5, 4), (100, 36), (5, 4), (100, 120), (5, 4), (100, 8), (5, 4), (100, 16), (4, 6), (100, 10), (103, 10), (100, 6), (100, 6), (100, 6), (100, 6), (100, 6), (100, 6), (100, 6), (100, 6), (100, 6), (100, 6), (100, 100), (6, 3), (100, 6), (104, 6), (101, 60), (101, 60), (101, 60), (101, 60), (101, 60), (101, 60), (100, 6), (102, 10), (8, 42), (101, 239), (101, 239), (101, 239), (101, 239), (101, 192), (101, 24), (101, 40), (101, 5), (101, 5), (101, 5), (101, 5), (101, 5), (101, 30), (101, 6), (101, 5), (101, 720), (101, 6), (101, 6), (101, 6), (101, 6), (100, 6), (100, 6), (102, 6), (100, 100), (100, 60), (100, 10), (100, 6), (100, 6), (101, 360), (101, 60)]
def tPt : List (List (Int × Int)) := [[(2, 175), (4, 188), (5, 202), (6, 212)], [(0, 2), (1, 15), (2, 30), (3, 55), (4, 56), (5, 62), (6, 68), (7, 69), (8, 70), (9, 71), (10, 72), (11, 73), (12, 74), (13, 80), (14, 86), (15, 87)], [(0, 3), (1, 5), (2, 7), (3, 9), (4, 11), (5, 13)], [(2, 4)], [], [(2, 6)], [], [(2, 8)], [], [(2, 10)], [], [(2, 12)], [], [(2, 14)], [], [(1, 16), (2, 17), (3, 18), (4, 19), (6, 20), (7, 21), (8, 22), (9, 23), (10, 24), (11, 25), (12, 26), (13, 27), (14, 28), (15, 29)], [], [], [], [], [], [], [], [], [], [], [], [], [], [], [(0, 31), (1, 32), (2, 33), (3, 34), (4, 35), (5, 36), (6, 37), (7, 38), (8, 39), (9, 40), (10, 41), (11, 42), (12, 43), (13, 44), (14, 45), (15, 46), (16, 47), (17, 48), (18, 49), (19, 50), (20, 51), (21, 52), (22, 53), (23, 54)], [], [], [], [], [], [], [], [], [], [], [], [], [], [], [], [], [], [], [], [], [], [], [], [], [], [(0, 57), (1, 58), (2, 59), (3, 60), (4, 61)], [], [], [], [], [], [(0, 63), (1, 64), (2, 65), (3, 66), (4, 67)], [], [], [], [], [], [], [], [], [], [], [], [(0, 75), (1, 76), (2, 77), (3, 78), (4, 79)], [], [], [], [], [], [(0, 81), (1, 82), (2, 83), (3, 84), (4, 85)], [], [], [], [], [], [], [], [(0, 89), (1, 102), (2, 117), (3, 142), (4, 143), (5, 149), (6, 155), (7, 156), (8, 157), (9, 158), (10, 159), (11, 160), (12, 161), (13, 167), (14, 173), (15, 174)], [(0, 90), (1, 92), (2, 94), (3, 96), (4, 98), (5, 100)], [(2, 91)], [], [(2, 93)], [], [(2, 95)], [], [(2, 97)], [], [(2, 99)], [], [(2, 101)], [], [(1, 103), (2, 104), (3, 105), (4, 106), (6, 107), (7, 108), (8, 109), (9, 110), (10, 111), (11, 112), (12, 113), (13, 114), (14, 115), (15, 116)], [], [], [], [], [], [], [], [], [], [], [], [], [], [], [(0, 118), (1, 119), (2, 120), (3, 121), (4, 122), (5, 123), (6, 124), (7, 125), (8, 126), (9, 127), (10, 128), (11, 129), (12, 130), (13, 131), (14, 132), (15, 133), (16, 134), (17, 135), (18, 136), (19, 137), (20, 138), (21, 139), (22, 140), (23, 141)], [], [], [], [], [], [], [], [], [], [], [], [], [], [], [], [], [], [], [], [], [], [], [], [], [], [(0, 144), (1, 145), (2, 146), (3, 147), (4, 148)], [], [], [], [], [], [(0, 150), (1, 151), (2, 152), (3, 153), (4, 154)], [], [], [], [], [], [], [], [], [], [], [], [(0, 162), (1, 163), (2, 164), (3, 165), (4, 166)], [], [], [], [], [], [(0, 168), (1, 169), (2, 170), (3, 171), (4, 172)], [], [], [], [], [], [], [], [(0, 176), (1, 178), (2, 180), (3, 182), (4, 184), (5, 186)], [(2, 177)], [], [(2, 179)], [], [(2, 181)], [], [(2, 183)], [], [(2, 185)], [], [(2, 187)], [], [(2, 189), (3, 190), (4, 201)], [], [(0, 191), (1, 192), (2, 193), (3, 194), (4, 195), (5, 196), (6, 197), (7, 198), (8, 199), (9, 200)], [], [], [], [], [], [], [], [], [], [], [], [(0, 203), (1, 204), (2, 211)], [], [(0, 205), (1, 206), (2, 207), (3, 208), (4, 209), (5, 210)], [], [], [], [], [], [], [], [], [(0, 214), (1, 215), (2, 216), (3, 217), (6, 218), (7, 219), (8, 220), (9, 221), (10, 222), (11, 223), (12, 224), (13, 225), (14, 226), (15, 227), (16, 228), (17, 229), (18, 230), (19, 231), (20, 232), (21, 233), (22, 234), (23, 235), (24, 236), (32, 237), (33, 238), (34, 239), (38, 240), (39, 241), (40, 242), (41, 243)], [], [], [], [], [], [], [], [], [], [], [], [], [], [], [], [], [], [], [], [], [], [], [], [], [], [], [], [], [], []]
def pGet : List (Int × Int) → Int → Int
  | [], _ => -1
  | (i, p) :: r, j => if j = i then p else pGet r j
def ssL (L : Nat) (a : Int) : Nat × Nat := if a = -2 then (100, L) else if a = -3 then (100, 6) else if a = -4 then (100, 6) else if a = -5 then (100, 6) else if a = -6 then (100, 5) else if a = -7 then (100, 7) else if a = -8 then (120, 0) else if a = -9 then (120, 0) else if a = -10 then (120, 0) else if a = -11 then (120, 0) else if a = -12 then (120, 0) else if a = -13 then (110, 8) else if a = -14 then (110, 8) else if a = -15 then (110, 7) else if a = -16 then (110, 3) else if a = -17 then (110, 0) else (99, 0)
def spZ (z : Int) (a i : Int) : Int := if a = -1 then (if i = 0 then z else 0) else if i = 0 then (if a = -8 then -13 else if a = -9 then -14 else if a = -10 then -15 else if a = -11 then -16 else if a = -12 then -17 else 0) else 0
/-- the world by phase: z even before the reference is made, z odd after -/
def w0 (L : Nat) (z x y : Int) : gW := (if z % 2 = 0 then 213 else 244, if z % 2 = 0 then 2500 else 5184, fun a => if 0 ≤ a ∧ a < 213 then tSh.getD a.toNat (99, 0) else if (213 ≤ a ∧ a < 244) ∧ ¬ z % 2 = 0 then tSh.getD a.toNat (99, 0) else ssL L a, fun a i => if a = 0 ∧ i = 0 then x else if a = 0 ∧ i = 1 then y else if 0 ≤ a ∧ a < 213 then pGet (tPt.getD a.toNat []) i else if (213 ≤ a ∧ a < 244) ∧ ¬ z % 2 = 0 then pGet (tPt.getD a.toNat []) i else spZ (z / 2) a i)
/-- a Reckoning's place, a Book's place -/
def RB (b : Int) : Prop := b = 1 ∨ b = 88
def BB (q : Int) : Prop := q = 2 ∨ q = 89 ∨ q = 175
theorem BB_r {b : Int} (h : RB b) : BB (b + 1) := by
  rcases h with rfl | rfl
  · exact Or.inl rfl
  · exact Or.inr (Or.inl rfl)
section LAY
variable {L : Nat} {z x y : Int}
theorem wS_hi [hz : NeZero (z % 2)] {a : Int} (h : 213 ≤ a ∧ a < 244) : wS (w0 L z x y) a = tSh.getD a.toNat (99, 0) := by
  show (if 0 ≤ a ∧ a < 213 then _ else if (213 ≤ a ∧ a < 244) ∧ ¬ z % 2 = 0 then _ else _) = _
  rw [if_neg (by omega), if_pos ⟨h, hz.out⟩]
theorem wP_hi [hz : NeZero (z % 2)] {a i : Int} (h : 213 ≤ a ∧ a < 244) : wP (w0 L z x y) a i = pGet (tPt.getD a.toNat []) i := by
  show (if a = 0 ∧ i = 0 then _ else if a = 0 ∧ i = 1 then _ else if 0 ≤ a ∧ a < 213 then _ else if (213 ≤ a ∧ a < 244) ∧ ¬ z % 2 = 0 then _ else _) = _
  rw [if_neg (by omega), if_neg (by omega), if_neg (by omega), if_pos ⟨h, hz.out⟩]
theorem zS_m3 : wS (w0 L z x y) (-3) = (100, 6) := rfl
theorem zS_m4 : wS (w0 L z x y) (-4) = (100, 6) := rfl
theorem zS_m5 : wS (w0 L z x y) (-5) = (100, 6) := rfl
theorem zS_m6 : wS (w0 L z x y) (-6) = (100, 5) := rfl
theorem zS_m7 : wS (w0 L z x y) (-7) = (100, 7) := rfl
theorem zS_m8 : wS (w0 L z x y) (-8) = (120, 0) := rfl
theorem zS_m9 : wS (w0 L z x y) (-9) = (120, 0) := rfl
theorem zS_m10 : wS (w0 L z x y) (-10) = (120, 0) := rfl
theorem zS_m11 : wS (w0 L z x y) (-11) = (120, 0) := rfl
theorem zS_m12 : wS (w0 L z x y) (-12) = (120, 0) := rfl
theorem zS_m13 : wS (w0 L z x y) (-13) = (110, 8) := rfl
theorem zS_m14 : wS (w0 L z x y) (-14) = (110, 8) := rfl
theorem zS_m15 : wS (w0 L z x y) (-15) = (110, 7) := rfl
theorem zS_m16 : wS (w0 L z x y) (-16) = (110, 3) := rfl
theorem zS_m17 : wS (w0 L z x y) (-17) = (110, 0) := rfl
theorem zS_m2 : wS (w0 L z x y) (-2) = (100, L) := rfl
theorem zP_m8 : wP (w0 L z x y) (-8) 0 = -13 := rfl
theorem zP_m9 : wP (w0 L z x y) (-9) 0 = -14 := rfl
theorem zP_m10 : wP (w0 L z x y) (-10) 0 = -15 := rfl
theorem zP_m11 : wP (w0 L z x y) (-11) 0 = -16 := rfl
theorem zP_m12 : wP (w0 L z x y) (-12) 0 = -17 := rfl
theorem zP_m1 : wP (w0 L z x y) (-1) 0 = z / 2 := rfl
theorem zP_0_0 : wP (w0 L z x y) 0 0 = x := rfl
theorem zP_0_1 : wP (w0 L z x y) 0 1 = y := rfl
theorem zS_0 : wS (w0 L z x y) 0 = (7, 7) := rfl
theorem zP_0_2 : wP (w0 L z x y) 0 2 = 175 := rfl
theorem zP_0_4 : wP (w0 L z x y) 0 4 = 188 := rfl
theorem zP_0_5 : wP (w0 L z x y) 0 5 = 202 := rfl
theorem zP_0_6 : wP (w0 L z x y) 0 6 = 212 := rfl
theorem zS_188 : wS (w0 L z x y) 188 = (4, 6) := rfl
theorem zP_188_2 : wP (w0 L z x y) 188 2 = 189 := rfl
theorem zP_188_3 : wP (w0 L z x y) 188 3 = 190 := rfl
theorem zP_188_4 : wP (w0 L z x y) 188 4 = 201 := rfl
theorem zS_189 : wS (w0 L z x y) 189 = (100, 10) := rfl
theorem zS_190 : wS (w0 L z x y) 190 = (103, 10) := rfl
theorem zS_191 : wS (w0 L z x y) 191 = (100, 6) := rfl
theorem zS_192 : wS (w0 L z x y) 192 = (100, 6) := rfl
theorem zS_193 : wS (w0 L z x y) 193 = (100, 6) := rfl
theorem zS_194 : wS (w0 L z x y) 194 = (100, 6) := rfl
theorem zS_195 : wS (w0 L z x y) 195 = (100, 6) := rfl
theorem zS_196 : wS (w0 L z x y) 196 = (100, 6) := rfl
theorem zS_197 : wS (w0 L z x y) 197 = (100, 6) := rfl
theorem zS_198 : wS (w0 L z x y) 198 = (100, 6) := rfl
theorem zS_199 : wS (w0 L z x y) 199 = (100, 6) := rfl
theorem zS_200 : wS (w0 L z x y) 200 = (100, 6) := rfl
theorem zS_201 : wS (w0 L z x y) 201 = (100, 100) := rfl
theorem zS_202 : wS (w0 L z x y) 202 = (6, 3) := rfl
theorem zP_202_0 : wP (w0 L z x y) 202 0 = 203 := rfl
theorem zP_202_1 : wP (w0 L z x y) 202 1 = 204 := rfl
theorem zP_202_2 : wP (w0 L z x y) 202 2 = 211 := rfl
theorem zS_203 : wS (w0 L z x y) 203 = (100, 6) := rfl
theorem zS_204 : wS (w0 L z x y) 204 = (104, 6) := rfl
theorem zS_205 : wS (w0 L z x y) 205 = (101, 60) := rfl
theorem zS_206 : wS (w0 L z x y) 206 = (101, 60) := rfl
theorem zS_207 : wS (w0 L z x y) 207 = (101, 60) := rfl
theorem zS_208 : wS (w0 L z x y) 208 = (101, 60) := rfl
theorem zS_209 : wS (w0 L z x y) 209 = (101, 60) := rfl
theorem zS_210 : wS (w0 L z x y) 210 = (101, 60) := rfl
theorem zS_211 : wS (w0 L z x y) 211 = (100, 6) := rfl
theorem zS_212 : wS (w0 L z x y) 212 = (102, 10) := rfl
theorem zS_213 [NeZero (z % 2)] : wS (w0 L z x y) 213 = (8, 42) := (wS_hi (by omega)).trans rfl
theorem zP_213_0 [NeZero (z % 2)] : wP (w0 L z x y) 213 0 = 214 := (wP_hi (by omega)).trans rfl
theorem zP_213_1 [NeZero (z % 2)] : wP (w0 L z x y) 213 1 = 215 := (wP_hi (by omega)).trans rfl
theorem zP_213_2 [NeZero (z % 2)] : wP (w0 L z x y) 213 2 = 216 := (wP_hi (by omega)).trans rfl
theorem zP_213_3 [NeZero (z % 2)] : wP (w0 L z x y) 213 3 = 217 := (wP_hi (by omega)).trans rfl
theorem zP_213_6 [NeZero (z % 2)] : wP (w0 L z x y) 213 6 = 218 := (wP_hi (by omega)).trans rfl
theorem zP_213_7 [NeZero (z % 2)] : wP (w0 L z x y) 213 7 = 219 := (wP_hi (by omega)).trans rfl
theorem zP_213_8 [NeZero (z % 2)] : wP (w0 L z x y) 213 8 = 220 := (wP_hi (by omega)).trans rfl
theorem zP_213_9 [NeZero (z % 2)] : wP (w0 L z x y) 213 9 = 221 := (wP_hi (by omega)).trans rfl
theorem zP_213_10 [NeZero (z % 2)] : wP (w0 L z x y) 213 10 = 222 := (wP_hi (by omega)).trans rfl
theorem zP_213_11 [NeZero (z % 2)] : wP (w0 L z x y) 213 11 = 223 := (wP_hi (by omega)).trans rfl
theorem zP_213_12 [NeZero (z % 2)] : wP (w0 L z x y) 213 12 = 224 := (wP_hi (by omega)).trans rfl
theorem zP_213_13 [NeZero (z % 2)] : wP (w0 L z x y) 213 13 = 225 := (wP_hi (by omega)).trans rfl
theorem zP_213_14 [NeZero (z % 2)] : wP (w0 L z x y) 213 14 = 226 := (wP_hi (by omega)).trans rfl
theorem zP_213_15 [NeZero (z % 2)] : wP (w0 L z x y) 213 15 = 227 := (wP_hi (by omega)).trans rfl
theorem zP_213_16 [NeZero (z % 2)] : wP (w0 L z x y) 213 16 = 228 := (wP_hi (by omega)).trans rfl
theorem zP_213_17 [NeZero (z % 2)] : wP (w0 L z x y) 213 17 = 229 := (wP_hi (by omega)).trans rfl
theorem zP_213_18 [NeZero (z % 2)] : wP (w0 L z x y) 213 18 = 230 := (wP_hi (by omega)).trans rfl
theorem zP_213_19 [NeZero (z % 2)] : wP (w0 L z x y) 213 19 = 231 := (wP_hi (by omega)).trans rfl
theorem zP_213_20 [NeZero (z % 2)] : wP (w0 L z x y) 213 20 = 232 := (wP_hi (by omega)).trans rfl
theorem zP_213_21 [NeZero (z % 2)] : wP (w0 L z x y) 213 21 = 233 := (wP_hi (by omega)).trans rfl
theorem zP_213_22 [NeZero (z % 2)] : wP (w0 L z x y) 213 22 = 234 := (wP_hi (by omega)).trans rfl
theorem zP_213_23 [NeZero (z % 2)] : wP (w0 L z x y) 213 23 = 235 := (wP_hi (by omega)).trans rfl
theorem zP_213_24 [NeZero (z % 2)] : wP (w0 L z x y) 213 24 = 236 := (wP_hi (by omega)).trans rfl
theorem zP_213_32 [NeZero (z % 2)] : wP (w0 L z x y) 213 32 = 237 := (wP_hi (by omega)).trans rfl
theorem zP_213_33 [NeZero (z % 2)] : wP (w0 L z x y) 213 33 = 238 := (wP_hi (by omega)).trans rfl
theorem zP_213_34 [NeZero (z % 2)] : wP (w0 L z x y) 213 34 = 239 := (wP_hi (by omega)).trans rfl
theorem zP_213_38 [NeZero (z % 2)] : wP (w0 L z x y) 213 38 = 240 := (wP_hi (by omega)).trans rfl
theorem zP_213_39 [NeZero (z % 2)] : wP (w0 L z x y) 213 39 = 241 := (wP_hi (by omega)).trans rfl
theorem zP_213_40 [NeZero (z % 2)] : wP (w0 L z x y) 213 40 = 242 := (wP_hi (by omega)).trans rfl
theorem zP_213_41 [NeZero (z % 2)] : wP (w0 L z x y) 213 41 = 243 := (wP_hi (by omega)).trans rfl
theorem zS_214 [NeZero (z % 2)] : wS (w0 L z x y) 214 = (101, 239) := (wS_hi (by omega)).trans rfl
theorem zS_215 [NeZero (z % 2)] : wS (w0 L z x y) 215 = (101, 239) := (wS_hi (by omega)).trans rfl
theorem zS_216 [NeZero (z % 2)] : wS (w0 L z x y) 216 = (101, 239) := (wS_hi (by omega)).trans rfl
theorem zS_217 [NeZero (z % 2)] : wS (w0 L z x y) 217 = (101, 239) := (wS_hi (by omega)).trans rfl
theorem zS_218 [NeZero (z % 2)] : wS (w0 L z x y) 218 = (101, 192) := (wS_hi (by omega)).trans rfl
theorem zS_219 [NeZero (z % 2)] : wS (w0 L z x y) 219 = (101, 24) := (wS_hi (by omega)).trans rfl
theorem zS_220 [NeZero (z % 2)] : wS (w0 L z x y) 220 = (101, 40) := (wS_hi (by omega)).trans rfl
theorem zS_221 [NeZero (z % 2)] : wS (w0 L z x y) 221 = (101, 5) := (wS_hi (by omega)).trans rfl
theorem zS_222 [NeZero (z % 2)] : wS (w0 L z x y) 222 = (101, 5) := (wS_hi (by omega)).trans rfl
theorem zS_223 [NeZero (z % 2)] : wS (w0 L z x y) 223 = (101, 5) := (wS_hi (by omega)).trans rfl
theorem zS_224 [NeZero (z % 2)] : wS (w0 L z x y) 224 = (101, 5) := (wS_hi (by omega)).trans rfl
theorem zS_225 [NeZero (z % 2)] : wS (w0 L z x y) 225 = (101, 5) := (wS_hi (by omega)).trans rfl
theorem zS_226 [NeZero (z % 2)] : wS (w0 L z x y) 226 = (101, 30) := (wS_hi (by omega)).trans rfl
theorem zS_227 [NeZero (z % 2)] : wS (w0 L z x y) 227 = (101, 6) := (wS_hi (by omega)).trans rfl
theorem zS_228 [NeZero (z % 2)] : wS (w0 L z x y) 228 = (101, 5) := (wS_hi (by omega)).trans rfl
theorem zS_229 [NeZero (z % 2)] : wS (w0 L z x y) 229 = (101, 720) := (wS_hi (by omega)).trans rfl
theorem zS_230 [NeZero (z % 2)] : wS (w0 L z x y) 230 = (101, 6) := (wS_hi (by omega)).trans rfl
theorem zS_231 [NeZero (z % 2)] : wS (w0 L z x y) 231 = (101, 6) := (wS_hi (by omega)).trans rfl
theorem zS_232 [NeZero (z % 2)] : wS (w0 L z x y) 232 = (101, 6) := (wS_hi (by omega)).trans rfl
theorem zS_233 [NeZero (z % 2)] : wS (w0 L z x y) 233 = (101, 6) := (wS_hi (by omega)).trans rfl
theorem zS_234 [NeZero (z % 2)] : wS (w0 L z x y) 234 = (100, 6) := (wS_hi (by omega)).trans rfl
theorem zS_235 [NeZero (z % 2)] : wS (w0 L z x y) 235 = (100, 6) := (wS_hi (by omega)).trans rfl
theorem zS_236 [NeZero (z % 2)] : wS (w0 L z x y) 236 = (102, 6) := (wS_hi (by omega)).trans rfl
theorem zS_237 [NeZero (z % 2)] : wS (w0 L z x y) 237 = (100, 100) := (wS_hi (by omega)).trans rfl
theorem zS_238 [NeZero (z % 2)] : wS (w0 L z x y) 238 = (100, 60) := (wS_hi (by omega)).trans rfl
theorem zS_239 [NeZero (z % 2)] : wS (w0 L z x y) 239 = (100, 10) := (wS_hi (by omega)).trans rfl
theorem zS_240 [NeZero (z % 2)] : wS (w0 L z x y) 240 = (100, 6) := (wS_hi (by omega)).trans rfl
theorem zS_241 [NeZero (z % 2)] : wS (w0 L z x y) 241 = (100, 6) := (wS_hi (by omega)).trans rfl
theorem zS_242 [NeZero (z % 2)] : wS (w0 L z x y) 242 = (101, 360) := (wS_hi (by omega)).trans rfl
theorem zS_243 [NeZero (z % 2)] : wS (w0 L z x y) 243 = (101, 60) := (wS_hi (by omega)).trans rfl
theorem zS_r0 {b : Int} (h : RB b) : wS (w0 L z x y) b = (3, 16) := by rcases h with rfl | rfl <;> rfl
theorem zP_r0_0 {b : Int} (h : RB b) : wP (w0 L z x y) b 0 = b + 1 := by rcases h with rfl | rfl <;> rfl
theorem zP_r0_1 {b : Int} (h : RB b) : wP (w0 L z x y) b 1 = b + 14 := by rcases h with rfl | rfl <;> rfl
theorem zP_r0_2 {b : Int} (h : RB b) : wP (w0 L z x y) b 2 = b + 29 := by rcases h with rfl | rfl <;> rfl
theorem zP_r0_3 {b : Int} (h : RB b) : wP (w0 L z x y) b 3 = b + 54 := by rcases h with rfl | rfl <;> rfl
theorem zP_r0_4 {b : Int} (h : RB b) : wP (w0 L z x y) b 4 = b + 55 := by rcases h with rfl | rfl <;> rfl
theorem zP_r0_5 {b : Int} (h : RB b) : wP (w0 L z x y) b 5 = b + 61 := by rcases h with rfl | rfl <;> rfl
theorem zP_r0_6 {b : Int} (h : RB b) : wP (w0 L z x y) b 6 = b + 67 := by rcases h with rfl | rfl <;> rfl
theorem zP_r0_7 {b : Int} (h : RB b) : wP (w0 L z x y) b 7 = b + 68 := by rcases h with rfl | rfl <;> rfl
theorem zP_r0_8 {b : Int} (h : RB b) : wP (w0 L z x y) b 8 = b + 69 := by rcases h with rfl | rfl <;> rfl
theorem zP_r0_9 {b : Int} (h : RB b) : wP (w0 L z x y) b 9 = b + 70 := by rcases h with rfl | rfl <;> rfl
theorem zP_r0_10 {b : Int} (h : RB b) : wP (w0 L z x y) b 10 = b + 71 := by rcases h with rfl | rfl <;> rfl
theorem zP_r0_11 {b : Int} (h : RB b) : wP (w0 L z x y) b 11 = b + 72 := by rcases h with rfl | rfl <;> rfl
theorem zP_r0_12 {b : Int} (h : RB b) : wP (w0 L z x y) b 12 = b + 73 := by rcases h with rfl | rfl <;> rfl
theorem zP_r0_13 {b : Int} (h : RB b) : wP (w0 L z x y) b 13 = b + 79 := by rcases h with rfl | rfl <;> rfl
theorem zP_r0_14 {b : Int} (h : RB b) : wP (w0 L z x y) b 14 = b + 85 := by rcases h with rfl | rfl <;> rfl
theorem zP_r0_15 {b : Int} (h : RB b) : wP (w0 L z x y) b 15 = b + 86 := by rcases h with rfl | rfl <;> rfl
theorem zS_r1 {b : Int} (h : RB b) : wS (w0 L z x y) (b + 1) = (0, 6) := by rcases h with rfl | rfl <;> rfl
theorem zP_r1_0 {b : Int} (h : RB b) : wP (w0 L z x y) (b + 1) 0 = b + 2 := by rcases h with rfl | rfl <;> rfl
theorem zP_r1_1 {b : Int} (h : RB b) : wP (w0 L z x y) (b + 1) 1 = b + 4 := by rcases h with rfl | rfl <;> rfl
theorem zP_r1_2 {b : Int} (h : RB b) : wP (w0 L z x y) (b + 1) 2 = b + 6 := by rcases h with rfl | rfl <;> rfl
theorem zP_r1_3 {b : Int} (h : RB b) : wP (w0 L z x y) (b + 1) 3 = b + 8 := by rcases h with rfl | rfl <;> rfl
theorem zP_r1_4 {b : Int} (h : RB b) : wP (w0 L z x y) (b + 1) 4 = b + 10 := by rcases h with rfl | rfl <;> rfl
theorem zP_r1_5 {b : Int} (h : RB b) : wP (w0 L z x y) (b + 1) 5 = b + 12 := by rcases h with rfl | rfl <;> rfl
theorem zS_r2 {b : Int} (h : RB b) : wS (w0 L z x y) (b + 2) = (5, 4) := by rcases h with rfl | rfl <;> rfl
theorem zP_r2_2 {b : Int} (h : RB b) : wP (w0 L z x y) (b + 2) 2 = b + 3 := by rcases h with rfl | rfl <;> rfl
theorem zS_r3 {b : Int} (h : RB b) : wS (w0 L z x y) (b + 3) = (100, 30) := by rcases h with rfl | rfl <;> rfl
theorem zS_r4 {b : Int} (h : RB b) : wS (w0 L z x y) (b + 4) = (5, 4) := by rcases h with rfl | rfl <;> rfl
theorem zP_r4_2 {b : Int} (h : RB b) : wP (w0 L z x y) (b + 4) 2 = b + 5 := by rcases h with rfl | rfl <;> rfl
theorem zS_r5 {b : Int} (h : RB b) : wS (w0 L z x y) (b + 5) = (100, 24) := by rcases h with rfl | rfl <;> rfl
theorem zS_r6 {b : Int} (h : RB b) : wS (w0 L z x y) (b + 6) = (5, 4) := by rcases h with rfl | rfl <;> rfl
theorem zP_r6_2 {b : Int} (h : RB b) : wP (w0 L z x y) (b + 6) 2 = b + 7 := by rcases h with rfl | rfl <;> rfl
theorem zS_r7 {b : Int} (h : RB b) : wS (w0 L z x y) (b + 7) = (100, 36) := by rcases h with rfl | rfl <;> rfl
theorem zS_r8 {b : Int} (h : RB b) : wS (w0 L z x y) (b + 8) = (5, 4) := by rcases h with rfl | rfl <;> rfl
theorem zP_r8_2 {b : Int} (h : RB b) : wP (w0 L z x y) (b + 8) 2 = b + 9 := by rcases h with rfl | rfl <;> rfl
theorem zS_r9 {b : Int} (h : RB b) : wS (w0 L z x y) (b + 9) = (100, 120) := by rcases h with rfl | rfl <;> rfl
theorem zS_r10 {b : Int} (h : RB b) : wS (w0 L z x y) (b + 10) = (5, 4) := by rcases h with rfl | rfl <;> rfl
theorem zP_r10_2 {b : Int} (h : RB b) : wP (w0 L z x y) (b + 10) 2 = b + 11 := by rcases h with rfl | rfl <;> rfl
theorem zS_r11 {b : Int} (h : RB b) : wS (w0 L z x y) (b + 11) = (100, 8) := by rcases h with rfl | rfl <;> rfl
theorem zS_r12 {b : Int} (h : RB b) : wS (w0 L z x y) (b + 12) = (5, 4) := by rcases h with rfl | rfl <;> rfl
theorem zP_r12_2 {b : Int} (h : RB b) : wP (w0 L z x y) (b + 12) 2 = b + 13 := by rcases h with rfl | rfl <;> rfl
theorem zS_r13 {b : Int} (h : RB b) : wS (w0 L z x y) (b + 13) = (100, 16) := by rcases h with rfl | rfl <;> rfl
theorem zS_r14 {b : Int} (h : RB b) : wS (w0 L z x y) (b + 14) = (1, 16) := by rcases h with rfl | rfl <;> rfl
theorem zP_r14_1 {b : Int} (h : RB b) : wP (w0 L z x y) (b + 14) 1 = b + 15 := by rcases h with rfl | rfl <;> rfl
theorem zP_r14_2 {b : Int} (h : RB b) : wP (w0 L z x y) (b + 14) 2 = b + 16 := by rcases h with rfl | rfl <;> rfl
theorem zP_r14_3 {b : Int} (h : RB b) : wP (w0 L z x y) (b + 14) 3 = b + 17 := by rcases h with rfl | rfl <;> rfl
theorem zP_r14_4 {b : Int} (h : RB b) : wP (w0 L z x y) (b + 14) 4 = b + 18 := by rcases h with rfl | rfl <;> rfl
theorem zP_r14_6 {b : Int} (h : RB b) : wP (w0 L z x y) (b + 14) 6 = b + 19 := by rcases h with rfl | rfl <;> rfl
theorem zP_r14_7 {b : Int} (h : RB b) : wP (w0 L z x y) (b + 14) 7 = b + 20 := by rcases h with rfl | rfl <;> rfl
theorem zP_r14_8 {b : Int} (h : RB b) : wP (w0 L z x y) (b + 14) 8 = b + 21 := by rcases h with rfl | rfl <;> rfl
theorem zP_r14_9 {b : Int} (h : RB b) : wP (w0 L z x y) (b + 14) 9 = b + 22 := by rcases h with rfl | rfl <;> rfl
theorem zP_r14_10 {b : Int} (h : RB b) : wP (w0 L z x y) (b + 14) 10 = b + 23 := by rcases h with rfl | rfl <;> rfl
theorem zP_r14_11 {b : Int} (h : RB b) : wP (w0 L z x y) (b + 14) 11 = b + 24 := by rcases h with rfl | rfl <;> rfl
theorem zP_r14_12 {b : Int} (h : RB b) : wP (w0 L z x y) (b + 14) 12 = b + 25 := by rcases h with rfl | rfl <;> rfl
theorem zP_r14_13 {b : Int} (h : RB b) : wP (w0 L z x y) (b + 14) 13 = b + 26 := by rcases h with rfl | rfl <;> rfl
theorem zP_r14_14 {b : Int} (h : RB b) : wP (w0 L z x y) (b + 14) 14 = b + 27 := by rcases h with rfl | rfl <;> rfl
theorem zP_r14_15 {b : Int} (h : RB b) : wP (w0 L z x y) (b + 14) 15 = b + 28 := by rcases h with rfl | rfl <;> rfl
theorem zS_r15 {b : Int} (h : RB b) : wS (w0 L z x y) (b + 15) = (100, 6) := by rcases h with rfl | rfl <;> rfl
theorem zS_r16 {b : Int} (h : RB b) : wS (w0 L z x y) (b + 16) = (100, 6) := by rcases h with rfl | rfl <;> rfl
theorem zS_r17 {b : Int} (h : RB b) : wS (w0 L z x y) (b + 17) = (100, 6) := by rcases h with rfl | rfl <;> rfl
theorem zS_r18 {b : Int} (h : RB b) : wS (w0 L z x y) (b + 18) = (101, 6) := by rcases h with rfl | rfl <;> rfl
theorem zS_r19 {b : Int} (h : RB b) : wS (w0 L z x y) (b + 19) = (100, 6) := by rcases h with rfl | rfl <;> rfl
theorem zS_r20 {b : Int} (h : RB b) : wS (w0 L z x y) (b + 20) = (100, 6) := by rcases h with rfl | rfl <;> rfl
theorem zS_r21 {b : Int} (h : RB b) : wS (w0 L z x y) (b + 21) = (100, 6) := by rcases h with rfl | rfl <;> rfl
theorem zS_r22 {b : Int} (h : RB b) : wS (w0 L z x y) (b + 22) = (100, 6) := by rcases h with rfl | rfl <;> rfl
theorem zS_r23 {b : Int} (h : RB b) : wS (w0 L z x y) (b + 23) = (101, 6) := by rcases h with rfl | rfl <;> rfl
theorem zS_r24 {b : Int} (h : RB b) : wS (w0 L z x y) (b + 24) = (100, 6) := by rcases h with rfl | rfl <;> rfl
theorem zS_r25 {b : Int} (h : RB b) : wS (w0 L z x y) (b + 25) = (102, 6) := by rcases h with rfl | rfl <;> rfl
theorem zS_r26 {b : Int} (h : RB b) : wS (w0 L z x y) (b + 26) = (102, 6) := by rcases h with rfl | rfl <;> rfl
theorem zS_r27 {b : Int} (h : RB b) : wS (w0 L z x y) (b + 27) = (101, 5) := by rcases h with rfl | rfl <;> rfl
theorem zS_r28 {b : Int} (h : RB b) : wS (w0 L z x y) (b + 28) = (101, 5) := by rcases h with rfl | rfl <;> rfl
theorem zS_r29 {b : Int} (h : RB b) : wS (w0 L z x y) (b + 29) = (103, 24) := by rcases h with rfl | rfl <;> rfl
theorem zS_r54 {b : Int} (h : RB b) : wS (w0 L z x y) (b + 54) = (101, 24) := by rcases h with rfl | rfl <;> rfl
theorem zS_r55 {b : Int} (h : RB b) : wS (w0 L z x y) (b + 55) = (104, 5) := by rcases h with rfl | rfl <;> rfl
theorem zS_r61 {b : Int} (h : RB b) : wS (w0 L z x y) (b + 61) = (104, 5) := by rcases h with rfl | rfl <;> rfl
theorem zS_r67 {b : Int} (h : RB b) : wS (w0 L z x y) (b + 67) = (101, 5) := by rcases h with rfl | rfl <;> rfl
theorem zS_r68 {b : Int} (h : RB b) : wS (w0 L z x y) (b + 68) = (101, 5) := by rcases h with rfl | rfl <;> rfl
theorem zS_r69 {b : Int} (h : RB b) : wS (w0 L z x y) (b + 69) = (101, 5) := by rcases h with rfl | rfl <;> rfl
theorem zS_r70 {b : Int} (h : RB b) : wS (w0 L z x y) (b + 70) = (101, 5) := by rcases h with rfl | rfl <;> rfl
theorem zS_r71 {b : Int} (h : RB b) : wS (w0 L z x y) (b + 71) = (101, 5) := by rcases h with rfl | rfl <;> rfl
theorem zS_r72 {b : Int} (h : RB b) : wS (w0 L z x y) (b + 72) = (101, 6) := by rcases h with rfl | rfl <;> rfl
theorem zS_r73 {b : Int} (h : RB b) : wS (w0 L z x y) (b + 73) = (103, 5) := by rcases h with rfl | rfl <;> rfl
theorem zS_r79 {b : Int} (h : RB b) : wS (w0 L z x y) (b + 79) = (103, 5) := by rcases h with rfl | rfl <;> rfl
theorem zS_r85 {b : Int} (h : RB b) : wS (w0 L z x y) (b + 85) = (101, 6) := by rcases h with rfl | rfl <;> rfl
theorem zS_r86 {b : Int} (h : RB b) : wS (w0 L z x y) (b + 86) = (2, 1) := by rcases h with rfl | rfl <;> rfl
theorem zP_g_losses {b g : Int} (h : RB b) (h0 : 0 ≤ g) (h1 : g < 24) : wP (w0 L z x y) (b + 29) g = b + 30 + g := by
  have : g = 0 ∨ g = 1 ∨ g = 2 ∨ g = 3 ∨ g = 4 ∨ g = 5 ∨ g = 6 ∨ g = 7 ∨ g = 8 ∨ g = 9 ∨ g = 10 ∨ g = 11 ∨ g = 12 ∨ g = 13 ∨ g = 14 ∨ g = 15 ∨ g = 16 ∨ g = 17 ∨ g = 18 ∨ g = 19 ∨ g = 20 ∨ g = 21 ∨ g = 22 ∨ g = 23 := by omega
  rcases h with rfl | rfl <;> rcases this with rfl | rfl | rfl | rfl | rfl | rfl | rfl | rfl | rfl | rfl | rfl | rfl | rfl | rfl | rfl | rfl | rfl | rfl | rfl | rfl | rfl | rfl | rfl | rfl <;> rfl
theorem zS_g_losses {b g : Int} (h : RB b) (h0 : 0 ≤ g) (h1 : g < 24) : wS (w0 L z x y) (b + 30 + g) = (100, 8) := by
  have : g = 0 ∨ g = 1 ∨ g = 2 ∨ g = 3 ∨ g = 4 ∨ g = 5 ∨ g = 6 ∨ g = 7 ∨ g = 8 ∨ g = 9 ∨ g = 10 ∨ g = 11 ∨ g = 12 ∨ g = 13 ∨ g = 14 ∨ g = 15 ∨ g = 16 ∨ g = 17 ∨ g = 18 ∨ g = 19 ∨ g = 20 ∨ g = 21 ∨ g = 22 ∨ g = 23 := by omega
  rcases h with rfl | rfl <;> rcases this with rfl | rfl | rfl | rfl | rfl | rfl | rfl | rfl | rfl | rfl | rfl | rfl | rfl | rfl | rfl | rfl | rfl | rfl | rfl | rfl | rfl | rfl | rfl | rfl <;> rfl
theorem zP_g_rows {b g : Int} (h : RB b) (h0 : 0 ≤ g) (h1 : g < 5) : wP (w0 L z x y) (b + 55) g = b + 56 + g := by
  have : g = 0 ∨ g = 1 ∨ g = 2 ∨ g = 3 ∨ g = 4 := by omega
  rcases h with rfl | rfl <;> rcases this with rfl | rfl | rfl | rfl | rfl <;> rfl
theorem zS_g_rows {b g : Int} (h : RB b) (h0 : 0 ≤ g) (h1 : g < 5) : wS (w0 L z x y) (b + 56 + g) = (101, 8) := by
  have : g = 0 ∨ g = 1 ∨ g = 2 ∨ g = 3 ∨ g = 4 := by omega
  rcases h with rfl | rfl <;> rcases this with rfl | rfl | rfl | rfl | rfl <;> rfl
theorem zP_g_deltaBy {b g : Int} (h : RB b) (h0 : 0 ≤ g) (h1 : g < 5) : wP (w0 L z x y) (b + 61) g = b + 62 + g := by
  have : g = 0 ∨ g = 1 ∨ g = 2 ∨ g = 3 ∨ g = 4 := by omega
  rcases h with rfl | rfl <;> rcases this with rfl | rfl | rfl | rfl | rfl <;> rfl
theorem zS_g_deltaBy {b g : Int} (h : RB b) (h0 : 0 ≤ g) (h1 : g < 5) : wS (w0 L z x y) (b + 62 + g) = (101, 6) := by
  have : g = 0 ∨ g = 1 ∨ g = 2 ∨ g = 3 ∨ g = 4 := by omega
  rcases h with rfl | rfl <;> rcases this with rfl | rfl | rfl | rfl | rfl <;> rfl
theorem zP_g_prices {b g : Int} (h : RB b) (h0 : 0 ≤ g) (h1 : g < 5) : wP (w0 L z x y) (b + 73) g = b + 74 + g := by
  have : g = 0 ∨ g = 1 ∨ g = 2 ∨ g = 3 ∨ g = 4 := by omega
  rcases h with rfl | rfl <;> rcases this with rfl | rfl | rfl | rfl | rfl <;> rfl
theorem zS_g_prices {b g : Int} (h : RB b) (h0 : 0 ≤ g) (h1 : g < 5) : wS (w0 L z x y) (b + 74 + g) = (100, 8) := by
  have : g = 0 ∨ g = 1 ∨ g = 2 ∨ g = 3 ∨ g = 4 := by omega
  rcases h with rfl | rfl <;> rcases this with rfl | rfl | rfl | rfl | rfl <;> rfl
theorem zP_g_unrests {b g : Int} (h : RB b) (h0 : 0 ≤ g) (h1 : g < 5) : wP (w0 L z x y) (b + 79) g = b + 80 + g := by
  have : g = 0 ∨ g = 1 ∨ g = 2 ∨ g = 3 ∨ g = 4 := by omega
  rcases h with rfl | rfl <;> rcases this with rfl | rfl | rfl | rfl | rfl <;> rfl
theorem zS_g_unrests {b g : Int} (h : RB b) (h0 : 0 ≤ g) (h1 : g < 5) : wS (w0 L z x y) (b + 80 + g) = (100, 8) := by
  have : g = 0 ∨ g = 1 ∨ g = 2 ∨ g = 3 ∨ g = 4 := by omega
  rcases h with rfl | rfl <;> rcases this with rfl | rfl | rfl | rfl | rfl <;> rfl
theorem zP_g_numbers {g : Int} (h0 : 0 ≤ g) (h1 : g < 10) : wP (w0 L z x y) 190 g = 191 + g := by
  have : g = 0 ∨ g = 1 ∨ g = 2 ∨ g = 3 ∨ g = 4 ∨ g = 5 ∨ g = 6 ∨ g = 7 ∨ g = 8 ∨ g = 9 := by omega
  rcases this with rfl | rfl | rfl | rfl | rfl | rfl | rfl | rfl | rfl | rfl <;> rfl
theorem zS_g_numbers {g : Int} (h0 : 0 ≤ g) (h1 : g < 10) : wS (w0 L z x y) (191 + g) = (100, 6) := by
  have : g = 0 ∨ g = 1 ∨ g = 2 ∨ g = 3 ∨ g = 4 ∨ g = 5 ∨ g = 6 ∨ g = 7 ∨ g = 8 ∨ g = 9 := by omega
  rcases this with rfl | rfl | rfl | rfl | rfl | rfl | rfl | rfl | rfl | rfl <;> rfl
theorem zP_g_items {g : Int} (h0 : 0 ≤ g) (h1 : g < 6) : wP (w0 L z x y) 204 g = 205 + g := by
  have : g = 0 ∨ g = 1 ∨ g = 2 ∨ g = 3 ∨ g = 4 ∨ g = 5 := by omega
  rcases this with rfl | rfl | rfl | rfl | rfl | rfl <;> rfl
theorem zS_g_items {g : Int} (h0 : 0 ≤ g) (h1 : g < 6) : wS (w0 L z x y) (205 + g) = (101, 60) := by
  have : g = 0 ∨ g = 1 ∨ g = 2 ∨ g = 3 ∨ g = 4 ∨ g = 5 := by omega
  rcases this with rfl | rfl | rfl | rfl | rfl | rfl <;> rfl
theorem zS_b0 {q : Int} (h : BB q) : wS (w0 L z x y) q = (0, 6) := by rcases h with rfl | rfl | rfl <;> rfl
theorem zP_b0_0 {q : Int} (h : BB q) : wP (w0 L z x y) q 0 = q + 1 := by rcases h with rfl | rfl | rfl <;> rfl
theorem zP_b0_1 {q : Int} (h : BB q) : wP (w0 L z x y) q 1 = q + 3 := by rcases h with rfl | rfl | rfl <;> rfl
theorem zP_b0_2 {q : Int} (h : BB q) : wP (w0 L z x y) q 2 = q + 5 := by rcases h with rfl | rfl | rfl <;> rfl
theorem zP_b0_3 {q : Int} (h : BB q) : wP (w0 L z x y) q 3 = q + 7 := by rcases h with rfl | rfl | rfl <;> rfl
theorem zP_b0_4 {q : Int} (h : BB q) : wP (w0 L z x y) q 4 = q + 9 := by rcases h with rfl | rfl | rfl <;> rfl
theorem zP_b0_5 {q : Int} (h : BB q) : wP (w0 L z x y) q 5 = q + 11 := by rcases h with rfl | rfl | rfl <;> rfl
theorem zS_b1 {q : Int} (h : BB q) : wS (w0 L z x y) (q + 1) = (5, 4) := by rcases h with rfl | rfl | rfl <;> rfl
theorem zP_b1_2 {q : Int} (h : BB q) : wP (w0 L z x y) (q + 1) 2 = q + 2 := by rcases h with rfl | rfl | rfl <;> rfl
theorem zS_b2 {q : Int} (h : BB q) : wS (w0 L z x y) (q + 2) = (100, 30) := by rcases h with rfl | rfl | rfl <;> rfl
theorem zS_b3 {q : Int} (h : BB q) : wS (w0 L z x y) (q + 3) = (5, 4) := by rcases h with rfl | rfl | rfl <;> rfl
theorem zP_b3_2 {q : Int} (h : BB q) : wP (w0 L z x y) (q + 3) 2 = q + 4 := by rcases h with rfl | rfl | rfl <;> rfl
theorem zS_b4 {q : Int} (h : BB q) : wS (w0 L z x y) (q + 4) = (100, 24) := by rcases h with rfl | rfl | rfl <;> rfl
theorem zS_b5 {q : Int} (h : BB q) : wS (w0 L z x y) (q + 5) = (5, 4) := by rcases h with rfl | rfl | rfl <;> rfl
theorem zP_b5_2 {q : Int} (h : BB q) : wP (w0 L z x y) (q + 5) 2 = q + 6 := by rcases h with rfl | rfl | rfl <;> rfl
theorem zS_b6 {q : Int} (h : BB q) : wS (w0 L z x y) (q + 6) = (100, 36) := by rcases h with rfl | rfl | rfl <;> rfl
theorem zS_b7 {q : Int} (h : BB q) : wS (w0 L z x y) (q + 7) = (5, 4) := by rcases h with rfl | rfl | rfl <;> rfl
theorem zP_b7_2 {q : Int} (h : BB q) : wP (w0 L z x y) (q + 7) 2 = q + 8 := by rcases h with rfl | rfl | rfl <;> rfl
theorem zS_b8 {q : Int} (h : BB q) : wS (w0 L z x y) (q + 8) = (100, 120) := by rcases h with rfl | rfl | rfl <;> rfl
theorem zS_b9 {q : Int} (h : BB q) : wS (w0 L z x y) (q + 9) = (5, 4) := by rcases h with rfl | rfl | rfl <;> rfl
theorem zP_b9_2 {q : Int} (h : BB q) : wP (w0 L z x y) (q + 9) 2 = q + 10 := by rcases h with rfl | rfl | rfl <;> rfl
theorem zS_b10 {q : Int} (h : BB q) : wS (w0 L z x y) (q + 10) = (100, 8) := by rcases h with rfl | rfl | rfl <;> rfl
theorem zS_b11 {q : Int} (h : BB q) : wS (w0 L z x y) (q + 11) = (5, 4) := by rcases h with rfl | rfl | rfl <;> rfl
theorem zP_b11_2 {q : Int} (h : BB q) : wP (w0 L z x y) (q + 11) 2 = q + 12 := by rcases h with rfl | rfl | rfl <;> rfl
theorem zS_b12 {q : Int} (h : BB q) : wS (w0 L z x y) (q + 12) = (100, 16) := by rcases h with rfl | rfl | rfl <;> rfl
end LAY
theorem e_X0_init {d : Nat} {w : gW} {m : gM} {K : Option gV → gW → gM → Prop} {x0 : Int} : C (d + 1) M_X0_init [(2, x0)] w m K = R d M_X0_init 0 [(2, x0), (3, 0), (3, 0)] [] w m K := rfl
theorem e_X0_copyFrom {d : Nat} {w : gW} {m : gM} {K : Option gV → gW → gM → Prop} {x0 x1 : Int} : C (d + 1) M_X0_copyFrom [(2, x0), (2, x1)] w m K = R d M_X0_copyFrom 0 [(2, x0), (2, x1)] [] w m K := rfl
theorem e_X0_priceBy {d : Nat} {w : gW} {m : gM} {K : Option gV → gW → gM → Prop} {x0 x1 x2 : Int} : C (d + 1) M_X0_priceBy [(2, x0), (0, x1), (0, x2)] w m K = R d M_X0_priceBy 0 [(2, x0), (0, x1), (0, x2), (3, 0)] [] w m K := rfl
theorem e_X0_unrestBy {d : Nat} {w : gW} {m : gM} {K : Option gV → gW → gM → Prop} {x0 x1 x2 : Int} : C (d + 1) M_X0_unrestBy [(2, x0), (0, x1), (0, x2)] w m K = R d M_X0_unrestBy 0 [(2, x0), (0, x1), (0, x2), (3, 0)] [] w m K := rfl
theorem e_X0_money {d : Nat} {w : gW} {m : gM} {K : Option gV → gW → gM → Prop} {x0 x1 x2 : Int} : C (d + 1) M_X0_money [(0, x0), (0, x1), (0, x2)] w m K = R d M_X0_money 0 [(0, x0), (0, x1), (0, x2), (3, 0), (3, 0)] [] w m K := rfl
theorem e_X0_worthOf {d : Nat} {w : gW} {m : gM} {K : Option gV → gW → gM → Prop} {x0 x1 x2 x3 : Int} : C (d + 1) M_X0_worthOf [(2, x0), (0, x1), (0, x2), (0, x3)] w m K = R d M_X0_worthOf 0 [(2, x0), (0, x1), (0, x2), (0, x3), (3, 0), (3, 0), (3, 0)] [] w m K := rfl
theorem e_X0_legOfInstrument {d : Nat} {w : gW} {m : gM} {K : Option gV → gW → gM → Prop} {x0 x1 x2 x3 x4 : Int} : C (d + 1) M_X0_legOfInstrument [(2, x0), (0, x1), (0, x2), (0, x3), (0, x4)] w m K = R d M_X0_legOfInstrument 0 [(2, x0), (0, x1), (0, x2), (0, x3), (0, x4), (3, 0)] [] w m K := rfl
theorem e_X0_unlikeStrikesAndExpiries {d : Nat} {w : gW} {m : gM} {K : Option gV → gW → gM → Prop} {x0 : Int} : C (d + 1) M_X0_unlikeStrikesAndExpiries [(2, x0)] w m K = R d M_X0_unlikeStrikesAndExpiries 0 [(2, x0), (3, 0), (3, 0)] [] w m K := rfl
theorem e_X0_isFirstOfItsPair {d : Nat} {w : gW} {m : gM} {K : Option gV → gW → gM → Prop} {x0 x1 : Int} : C (d + 1) M_X0_isFirstOfItsPair [(2, x0), (0, x1)] w m K = R d M_X0_isFirstOfItsPair 0 [(2, x0), (0, x1), (3, 0)] [] w m K := rfl
theorem e_X0_scale {d : Nat} {w : gW} {m : gM} {K : Option gV → gW → gM → Prop} {x0 x1 : Int} : C (d + 1) M_X0_scale [(2, x0), (0, x1)] w m K = R d M_X0_scale 0 [(2, x0), (0, x1), (3, 0), (3, 0), (3, 0)] [] w m K := rfl
theorem e_X0_follow {d : Nat} {w : gW} {m : gM} {K : Option gV → gW → gM → Prop} {x0 : Int} : C (d + 1) M_X0_follow [(2, x0)] w m K = R d M_X0_follow 0 [(2, x0), (3, 0), (3, 0), (3, 0)] [] w m K := rfl
theorem e_X0_shiftGrounds {d : Nat} {w : gW} {m : gM} {K : Option gV → gW → gM → Prop} {x0 x1 x2 : Int} : C (d + 1) M_X0_shiftGrounds [(2, x0), (0, x1), (0, x2)] w m K = R d M_X0_shiftGrounds 0 [(2, x0), (0, x1), (0, x2), (3, 0), (3, 0)] [] w m K := rfl
theorem e_X1_init {d : Nat} {w : gW} {m : gM} {K : Option gV → gW → gM → Prop} {x0 : Int} : C (d + 1) M_X1_init [(2, x0)] w m K = R d M_X1_init 0 [(2, x0)] [] w m K := rfl
theorem e_X1_prepare {d : Nat} {w : gW} {m : gM} {K : Option gV → gW → gM → Prop} {x0 x1 x2 x3 x4 : Int} : C (d + 1) M_X1_prepare [(2, x0), (2, x1), (2, x2), (2, x3), (2, x4)] w m K = R d M_X1_prepare 0 [(2, x0), (2, x1), (2, x2), (2, x3), (2, x4), (3, 0), (3, 0), (3, 0)] [] w m K := rfl
theorem e_X1_areSo {d : Nat} {w : gW} {m : gM} {K : Option gV → gW → gM → Prop} {x0 x1 x2 : Int} : C (d + 1) M_X1_areSo [(1, x0), (1, x1), (0, x2)] w m K = R d M_X1_areSo 0 [(1, x0), (3, 0), (1, x1), (3, 0), (0, x2), (3, 0)] [] w m K := rfl
theorem e_X1_timesOf {d : Nat} {w : gW} {m : gM} {K : Option gV → gW → gM → Prop} {x0 x1 : Int} : C (d + 1) M_X1_timesOf [(2, x0), (0, x1)] w m K = R d M_X1_timesOf 0 [(2, x0), (0, x1)] [] w m K := rfl
theorem e_X1_creditOf {d : Nat} {w : gW} {m : gM} {K : Option gV → gW → gM → Prop} {x0 x1 x2 : Int} : C (d + 1) M_X1_creditOf [(2, x0), (0, x1), (1, x2)] w m K = R d M_X1_creditOf 0 [(2, x0), (0, x1), (1, x2), (3, 0)] [] w m K := rfl
theorem e_X1_take {d : Nat} {w : gW} {m : gM} {K : Option gV → gW → gM → Prop} {x0 x1 x2 : Int} : C (d + 1) M_X1_take [(2, x0), (0, x1), (1, x2)] w m K = R d M_X1_take 0 [(2, x0), (0, x1), (1, x2), (3, 0)] [] w m K := rfl
theorem e_X1_hoped {d : Nat} {w : gW} {m : gM} {K : Option gV → gW → gM → Prop} {x0 : Int} : C (d + 1) M_X1_hoped [(2, x0)] w m K = R d M_X1_hoped 0 [(2, x0), (3, 0), (3, 0), (3, 0)] [] w m K := rfl
theorem e_X1_search {d : Nat} {w : gW} {m : gM} {K : Option gV → gW → gM → Prop} {x0 x1 x2 : Int} : C (d + 1) M_X1_search [(2, x0), (0, x1), (1, x2)] w m K = R d M_X1_search 0 [(2, x0), (0, x1), (1, x2), (3, 0), (3, 0), (3, 0), (3, 0)] [] w m K := rfl
theorem e_X1_walk {d : Nat} {w : gW} {m : gM} {K : Option gV → gW → gM → Prop} {x0 x1 : Int} : C (d + 1) M_X1_walk [(2, x0), (2, x1)] w m K = R d M_X1_walk 0 [(2, x0), (2, x1), (3, 0), (3, 0), (3, 0), (3, 0), (3, 0), (3, 0)] [] w m K := rfl
theorem e_X1_nameOrder {d : Nat} {w : gW} {m : gM} {K : Option gV → gW → gM → Prop} {x0 x1 : Int} : C (d + 1) M_X1_nameOrder [(2, x0), (0, x1)] w m K = R d M_X1_nameOrder 0 [(2, x0), (0, x1), (3, 0), (3, 0), (3, 0)] [] w m K := rfl
theorem e_X1_nextFree {d : Nat} {w : gW} {m : gM} {K : Option gV → gW → gM → Prop} {x0 x1 x2 : Int} : C (d + 1) M_X1_nextFree [(2, x0), (0, x1), (0, x2)] w m K = R d M_X1_nextFree 0 [(2, x0), (0, x1), (0, x2), (3, 0), (3, 0), (3, 0), (3, 0)] [] w m K := rfl
theorem e_X2_init {d : Nat} {w : gW} {m : gM} {K : Option gV → gW → gM → Prop} {x0 : Int} : C (d + 1) M_X2_init [(2, x0)] w m K = R d M_X2_init 0 [(2, x0)] [] w m K := rfl
theorem e_X2_isInt {d : Nat} {w : gW} {m : gM} {K : Option gV → gW → gM → Prop} {x0 : Int} : C (d + 1) M_X2_isInt [(1, x0)] w m K = R d M_X2_isInt 0 [(1, x0), (3, 0)] [] w m K := rfl
theorem e_X2_fit {d : Nat} {w : gW} {m : gM} {K : Option gV → gW → gM → Prop} {x0 x1 : Int} : C (d + 1) M_X2_fit [(2, x0), (1, x1)] w m K = R d M_X2_fit 0 [(2, x0), (1, x1), (3, 0)] [] w m K := rfl
theorem e_X3_init {d : Nat} {w : gW} {m : gM} {K : Option gV → gW → gM → Prop} {x0 : Int} : C (d + 1) M_X3_init [(2, x0)] w m K = R d M_X3_init 0 [(2, x0)] [] w m K := rfl
theorem e_X3_reckon {d : Nat} {w : gW} {m : gM} {K : Option gV → gW → gM → Prop} {x0 : Int} : C (d + 1) M_X3_reckon [(2, x0)] w m K = R d M_X3_reckon 0 [(2, x0), (3, 0), (3, 0)] [] w m K := rfl
theorem e_X3_marginByFloor {d : Nat} {w : gW} {m : gM} {K : Option gV → gW → gM → Prop} {x0 x1 : Int} : C (d + 1) M_X3_marginByFloor [(2, x0), (0, x1)] w m K = R d M_X3_marginByFloor 0 [(2, x0), (0, x1), (3, 0), (3, 0), (3, 0)] [] w m K := rfl
theorem e_X3_clearGrounds {d : Nat} {w : gW} {m : gM} {K : Option gV → gW → gM → Prop} {x0 : Int} : C (d + 1) M_X3_clearGrounds [(2, x0)] w m K = R d M_X3_clearGrounds 0 [(2, x0), (3, 0), (3, 0)] [] w m K := rfl
theorem e_X3_addLosses {d : Nat} {w : gW} {m : gM} {K : Option gV → gW → gM → Prop} {x0 x1 : Int} : C (d + 1) M_X3_addLosses [(2, x0), (0, x1)] w m K = R d M_X3_addLosses 0 [(2, x0), (0, x1), (3, 0), (3, 0), (3, 0), (3, 0), (3, 0), (3, 0), (3, 0), (3, 0)] [] w m K := rfl
theorem e_X3_addDelta {d : Nat} {w : gW} {m : gM} {K : Option gV → gW → gM → Prop} {x0 x1 : Int} : C (d + 1) M_X3_addDelta [(2, x0), (0, x1)] w m K = R d M_X3_addDelta 0 [(2, x0), (0, x1), (3, 0), (3, 0), (3, 0), (3, 0), (3, 0), (3, 0), (3, 0)] [] w m K := rfl
theorem e_X3_sumGround {d : Nat} {w : gW} {m : gM} {K : Option gV → gW → gM → Prop} {x0 x1 : Int} : C (d + 1) M_X3_sumGround [(2, x0), (0, x1)] w m K = R d M_X3_sumGround 0 [(2, x0), (0, x1), (3, 0), (3, 0), (3, 0), (3, 0), (3, 0), (3, 0)] [] w m K := rfl
theorem e_X3_fitWithoutSign {d : Nat} {w : gW} {m : gM} {K : Option gV → gW → gM → Prop} {x0 x1 : Int} : C (d + 1) M_X3_fitWithoutSign [(2, x0), (1, x1)] w m K = R d M_X3_fitWithoutSign 0 [(2, x0), (1, x1), (3, 0)] [] w m K := rfl
theorem e_X3_chargesOf {d : Nat} {w : gW} {m : gM} {K : Option gV → gW → gM → Prop} {x0 x1 : Int} : C (d + 1) M_X3_chargesOf [(2, x0), (0, x1)] w m K = R d M_X3_chargesOf 0 [(2, x0), (0, x1), (3, 0), (3, 0), (3, 0), (3, 0), (3, 0), (3, 0), (3, 0), (3, 0)] [] w m K := rfl
theorem e_X3_paired {d : Nat} {w : gW} {m : gM} {K : Option gV → gW → gM → Prop} {x0 x1 x2 : Int} : C (d + 1) M_X3_paired [(2, x0), (0, x1), (0, x2)] w m K = R d M_X3_paired 0 [(2, x0), (0, x1), (0, x2), (3, 0), (3, 0)] [] w m K := rfl
theorem e_X3_sumAll {d : Nat} {w : gW} {m : gM} {K : Option gV → gW → gM → Prop} {x0 : Int} : C (d + 1) M_X3_sumAll [(2, x0)] w m K = R d M_X3_sumAll 0 [(2, x0), (3, 0), (3, 0), (3, 0), (3, 0), (3, 0), (3, 0), (3, 0), (3, 0), (3, 0), (3, 0), (3, 0), (3, 0)] [] w m K := rfl
theorem e_X4_init {d : Nat} {w : gW} {m : gM} {K : Option gV → gW → gM → Prop} {x0 : Int} : C (d + 1) M_X4_init [(2, x0)] w m K = R d M_X4_init 0 [(2, x0)] [] w m K := rfl
theorem e_X4_add {d : Nat} {w : gW} {m : gM} {K : Option gV → gW → gM → Prop} {x0 x1 : Int} : C (d + 1) M_X4_add [(2, x0), (0, x1)] w m K = R d M_X4_add 0 [(2, x0), (0, x1)] [] w m K := rfl
theorem e_X4_parse {d : Nat} {w : gW} {m : gM} {K : Option gV → gW → gM → Prop} {x0 : Int} : C (d + 1) M_X4_parse [(2, x0)] w m K = R d M_X4_parse 0 [(2, x0), (3, 0)] [] w m K := rfl
theorem e_X4_parseClause {d : Nat} {w : gW} {m : gM} {K : Option gV → gW → gM → Prop} {x0 x1 : Int} : C (d + 1) M_X4_parseClause [(2, x0), (0, x1)] w m K = R d M_X4_parseClause 0 [(2, x0), (0, x1), (3, 0), (3, 0), (3, 0), (3, 0), (3, 0), (3, 0)] [] w m K := rfl
theorem e_X4_formOf {d : Nat} {w : gW} {m : gM} {K : Option gV → gW → gM → Prop} {x0 : Int} : C (d + 1) M_X4_formOf [(0, x0)] w m K = R d M_X4_formOf 0 [(0, x0)] [] w m K := rfl
theorem e_X4_skip {d : Nat} {w : gW} {m : gM} {K : Option gV → gW → gM → Prop} {x0 x1 : Int} : C (d + 1) M_X4_skip [(2, x0), (0, x1)] w m K = R d M_X4_skip 0 [(2, x0), (0, x1)] [] w m K := rfl
theorem e_X4_parseNumber {d : Nat} {w : gW} {m : gM} {K : Option gV → gW → gM → Prop} {x0 x1 : Int} : C (d + 1) M_X4_parseNumber [(2, x0), (0, x1)] w m K = R d M_X4_parseNumber 0 [(2, x0), (0, x1), (3, 0), (3, 0), (3, 0)] [] w m K := rfl
theorem e_X5_init {d : Nat} {w : gW} {m : gM} {K : Option gV → gW → gM → Prop} {x0 x1 x2 : Int} : C (d + 1) M_X5_init [(2, x0), (0, x1), (0, x2)] w m K = R d M_X5_init 0 [(2, x0), (0, x1), (0, x2)] [] w m K := rfl
theorem e_X5_has {d : Nat} {w : gW} {m : gM} {K : Option gV → gW → gM → Prop} {x0 x1 : Int} : C (d + 1) M_X5_has [(2, x0), (0, x1)] w m K = R d M_X5_has 0 [(2, x0), (0, x1)] [] w m K := rfl
theorem e_X5_at {d : Nat} {w : gW} {m : gM} {K : Option gV → gW → gM → Prop} {x0 x1 x2 : Int} : C (d + 1) M_X5_at [(2, x0), (0, x1), (0, x2)] w m K = R d M_X5_at 0 [(2, x0), (0, x1), (0, x2), (3, 0)] [] w m K := rfl
theorem e_X5_put {d : Nat} {w : gW} {m : gM} {K : Option gV → gW → gM → Prop} {x0 x1 x2 x3 : Int} : C (d + 1) M_X5_put [(2, x0), (0, x1), (0, x2), (0, x3)] w m K = R d M_X5_put 0 [(2, x0), (0, x1), (0, x2), (0, x3), (3, 0)] [] w m K := rfl
theorem e_X5_grow {d : Nat} {w : gW} {m : gM} {K : Option gV → gW → gM → Prop} {x0 : Int} : C (d + 1) M_X5_grow [(2, x0)] w m K = R d M_X5_grow 0 [(2, x0), (3, 0)] [] w m K := rfl
theorem e_X5_removeAt {d : Nat} {w : gW} {m : gM} {K : Option gV → gW → gM → Prop} {x0 x1 : Int} : C (d + 1) M_X5_removeAt [(2, x0), (0, x1)] w m K = R d M_X5_removeAt 0 [(2, x0), (0, x1)] [] w m K := rfl
theorem e_X5_dropZeros {d : Nat} {w : gW} {m : gM} {K : Option gV → gW → gM → Prop} {x0 x1 : Int} : C (d + 1) M_X5_dropZeros [(2, x0), (0, x1)] w m K = R d M_X5_dropZeros 0 [(2, x0), (0, x1), (3, 0)] [] w m K := rfl
theorem e_X5_copyFrom {d : Nat} {w : gW} {m : gM} {K : Option gV → gW → gM → Prop} {x0 x1 : Int} : C (d + 1) M_X5_copyFrom [(2, x0), (2, x1)] w m K = R d M_X5_copyFrom 0 [(2, x0), (2, x1)] [] w m K := rfl
theorem e_X6_init {d : Nat} {w : gW} {m : gM} {K : Option gV → gW → gM → Prop} {x0 : Int} : C (d + 1) M_X6_init [(2, x0)] w m K = R d M_X6_init 0 [(2, x0), (3, 0)] [] w m K := rfl
theorem e_X6_empty {d : Nat} {w : gW} {m : gM} {K : Option gV → gW → gM → Prop} {x0 x1 : Int} : C (d + 1) M_X6_empty [(2, x0), (0, x1)] w m K = R d M_X6_empty 0 [(2, x0), (0, x1)] [] w m K := rfl
theorem e_X6_lay {d : Nat} {w : gW} {m : gM} {K : Option gV → gW → gM → Prop} {x0 x1 x2 x3 : Int} : C (d + 1) M_X6_lay [(2, x0), (0, x1), (0, x2), (0, x3)] w m K = R d M_X6_lay 0 [(2, x0), (0, x1), (0, x2), (0, x3), (3, 0)] [] w m K := rfl
theorem e_X6_has {d : Nat} {w : gW} {m : gM} {K : Option gV → gW → gM → Prop} {x0 x1 x2 : Int} : C (d + 1) M_X6_has [(2, x0), (0, x1), (1, x2)] w m K = R d M_X6_has 0 [(2, x0), (0, x1), (1, x2), (3, 0)] [] w m K := rfl
theorem e_X6_hasRange {d : Nat} {w : gW} {m : gM} {K : Option gV → gW → gM → Prop} {x0 x1 x2 x3 : Int} : C (d + 1) M_X6_hasRange [(2, x0), (0, x1), (0, x2), (0, x3)] w m K = R d M_X6_hasRange 0 [(2, x0), (0, x1), (0, x2), (0, x3)] [] w m K := rfl
theorem e_X6_cut {d : Nat} {w : gW} {m : gM} {K : Option gV → gW → gM → Prop} {x0 x1 : Int} : C (d + 1) M_X6_cut [(0, x0), (1, x1)] w m K = R d M_X6_cut 0 [(0, x0), (1, x1), (3, 0)] [] w m K := rfl
theorem e_X7_init {d : Nat} {w : gW} {m : gM} {K : Option gV → gW → gM → Prop} {x0 : Int} : C (d + 1) M_X7_init [(2, x0)] w m K = R d M_X7_init 0 [(2, x0)] [] w m K := rfl
theorem e_X7_ground {d : Nat} {w : gW} {m : gM} {K : Option gV → gW → gM → Prop} {x0 x1 x2 x3 : Int} : C (d + 1) M_X7_ground [(2, x0), (0, x1), (0, x2), (0, x3)] w m K = R d M_X7_ground 0 [(2, x0), (0, x1), (0, x2), (0, x3), (3, 0), (3, 0)] [] w m K := rfl
theorem e_X7_groundOf {d : Nat} {w : gW} {m : gM} {K : Option gV → gW → gM → Prop} {x0 x1 x2 : Int} : C (d + 1) M_X7_groundOf [(2, x0), (0, x1), (0, x2)] w m K = R d M_X7_groundOf 0 [(2, x0), (0, x1), (0, x2)] [] w m K := rfl
theorem e_X7_move {d : Nat} {w : gW} {m : gM} {K : Option gV → gW → gM → Prop} {x0 x1 x2 x3 : Int} : C (d + 1) M_X7_move [(2, x0), (0, x1), (0, x2), (0, x3)] w m K = R d M_X7_move 0 [(2, x0), (0, x1), (0, x2), (0, x3), (3, 0)] [] w m K := rfl
theorem e_X7_still {d : Nat} {w : gW} {m : gM} {K : Option gV → gW → gM → Prop} {x0 x1 : Int} : C (d + 1) M_X7_still [(2, x0), (0, x1)] w m K = R d M_X7_still 0 [(2, x0), (0, x1)] [] w m K := rfl
theorem e_X7_moved {d : Nat} {w : gW} {m : gM} {K : Option gV → gW → gM → Prop} {x0 x1 x2 x3 : Int} : C (d + 1) M_X7_moved [(2, x0), (0, x1), (0, x2), (0, x3)] w m K = R d M_X7_moved 0 [(2, x0), (0, x1), (0, x2), (0, x3)] [] w m K := rfl
theorem e_X7_offset {d : Nat} {w : gW} {m : gM} {K : Option gV → gW → gM → Prop} {x0 x1 x2 x3 x4 x5 x6 : Int} : C (d + 1) M_X7_offset [(2, x0), (0, x1), (0, x2), (0, x3), (0, x4), (0, x5), (0, x6)] w m K = R d M_X7_offset 0 [(2, x0), (0, x1), (0, x2), (0, x3), (0, x4), (0, x5), (0, x6), (3, 0)] [] w m K := rfl
theorem e_X7_unset {d : Nat} {w : gW} {m : gM} {K : Option gV → gW → gM → Prop} {x0 x1 : Int} : C (d + 1) M_X7_unset [(2, x0), (0, x1)] w m K = R d M_X7_unset 0 [(2, x0), (0, x1)] [] w m K := rfl
theorem e_X7_trade {d : Nat} {w : gW} {m : gM} {K : Option gV → gW → gM → Prop} {x0 x1 x2 x3 x4 x5 : Int} : C (d + 1) M_X7_trade [(2, x0), (0, x1), (0, x2), (0, x3), (0, x4), (0, x5)] w m K = R d M_X7_trade 0 [(2, x0), (0, x1), (0, x2), (0, x3), (0, x4), (0, x5), (3, 0), (3, 0)] [] w m K := rfl
theorem e_X7_find {d : Nat} {w : gW} {m : gM} {K : Option gV → gW → gM → Prop} {x0 x1 x2 x3 x4 : Int} : C (d + 1) M_X7_find [(2, x0), (0, x1), (0, x2), (0, x3), (0, x4)] w m K = R d M_X7_find 0 [(2, x0), (0, x1), (0, x2), (0, x3), (0, x4), (3, 0)] [] w m K := rfl
theorem e_X7_legOf {d : Nat} {w : gW} {m : gM} {K : Option gV → gW → gM → Prop} {x0 x1 x2 : Int} : C (d + 1) M_X7_legOf [(2, x0), (0, x1), (0, x2)] w m K = R d M_X7_legOf 0 [(2, x0), (0, x1), (0, x2)] [] w m K := rfl
theorem e_X7_value {d : Nat} {w : gW} {m : gM} {K : Option gV → gW → gM → Prop} {x0 x1 x2 : Int} : C (d + 1) M_X7_value [(2, x0), (0, x1), (0, x2)] w m K = R d M_X7_value 0 [(2, x0), (0, x1), (0, x2), (3, 0)] [] w m K := rfl
theorem e_X7_taken {d : Nat} {w : gW} {m : gM} {K : Option gV → gW → gM → Prop} {x0 x1 x2 : Int} : C (d + 1) M_X7_taken [(2, x0), (0, x1), (0, x2)] w m K = R d M_X7_taken 0 [(2, x0), (0, x1), (0, x2), (3, 0), (3, 0)] [] w m K := rfl
theorem e_X7_loss {d : Nat} {w : gW} {m : gM} {K : Option gV → gW → gM → Prop} {x0 x1 x2 : Int} : C (d + 1) M_X7_loss [(2, x0), (0, x1), (0, x2)] w m K = R d M_X7_loss 0 [(2, x0), (0, x1), (0, x2)] [] w m K := rfl
theorem e_X7_row {d : Nat} {w : gW} {m : gM} {K : Option gV → gW → gM → Prop} {x0 x1 x2 : Int} : C (d + 1) M_X7_row [(2, x0), (0, x1), (0, x2)] w m K = R d M_X7_row 0 [(2, x0), (0, x1), (0, x2)] [] w m K := rfl
theorem e_X7_risk {d : Nat} {w : gW} {m : gM} {K : Option gV → gW → gM → Prop} {x0 x1 x2 : Int} : C (d + 1) M_X7_risk [(2, x0), (0, x1), (0, x2)] w m K = R d M_X7_risk 0 [(2, x0), (0, x1), (0, x2)] [] w m K := rfl
theorem e_X7_told {d : Nat} {w : gW} {m : gM} {K : Option gV → gW → gM → Prop} {x0 x1 : Int} : C (d + 1) M_X7_told [(2, x0), (0, x1)] w m K = R d M_X7_told 0 [(2, x0), (0, x1)] [] w m K := rfl
theorem e_X7_order {d : Nat} {w : gW} {m : gM} {K : Option gV → gW → gM → Prop} {x0 x1 : Int} : C (d + 1) M_X7_order [(2, x0), (0, x1)] w m K = R d M_X7_order 0 [(2, x0), (0, x1)] [] w m K := rfl
theorem e_X7_used {d : Nat} {w : gW} {m : gM} {K : Option gV → gW → gM → Prop} {x0 x1 x2 : Int} : C (d + 1) M_X7_used [(2, x0), (0, x1), (0, x2)] w m K = R d M_X7_used 0 [(2, x0), (0, x1), (0, x2)] [] w m K := rfl
theorem e_X7_ordered {d : Nat} {w : gW} {m : gM} {K : Option gV → gW → gM → Prop} {x0 x1 : Int} : C (d + 1) M_X7_ordered [(2, x0), (0, x1)] w m K = R d M_X7_ordered 0 [(2, x0), (0, x1)] [] w m K := rfl
theorem e_X7_would {d : Nat} {w : gW} {m : gM} {K : Option gV → gW → gM → Prop} {x0 x1 x2 x3 x4 x5 : Int} : C (d + 1) M_X7_would [(2, x0), (0, x1), (0, x2), (0, x3), (0, x4), (0, x5)] w m K = R d M_X7_would 0 [(2, x0), (0, x1), (0, x2), (0, x3), (0, x4), (0, x5)] [] w m K := rfl
theorem e_X7_hedge {d : Nat} {w : gW} {m : gM} {K : Option gV → gW → gM → Prop} {x0 x1 x2 : Int} : C (d + 1) M_X7_hedge [(2, x0), (0, x1), (0, x2)] w m K = R d M_X7_hedge 0 [(2, x0), (0, x1), (0, x2), (3, 0), (3, 0), (3, 0), (3, 0), (3, 0), (3, 0), (3, 0)] [] w m K := rfl
theorem e_X7_share {d : Nat} {w : gW} {m : gM} {K : Option gV → gW → gM → Prop} {x0 x1 x2 : Int} : C (d + 1) M_X7_share [(2, x0), (0, x1), (0, x2)] w m K = R d M_X7_share 0 [(2, x0), (0, x1), (0, x2), (3, 0), (3, 0), (3, 0), (3, 0)] [] w m K := rfl
theorem e_X7_see {d : Nat} {w : gW} {m : gM} {K : Option gV → gW → gM → Prop} {x0 x1 x2 : Int} : C (d + 1) M_X7_see [(2, x0), (0, x1), (0, x2)] w m K = R d M_X7_see 0 [(2, x0), (0, x1), (0, x2), (3, 0), (3, 0)] [] w m K := rfl
theorem e_X7_fits {d : Nat} {w : gW} {m : gM} {K : Option gV → gW → gM → Prop} {x0 x1 : Int} : C (d + 1) M_X7_fits [(2, x0), (0, x1)] w m K = R d M_X7_fits 0 [(2, x0), (0, x1), (3, 0), (3, 0), (3, 0)] [] w m K := rfl
theorem e_X7_plan {d : Nat} {w : gW} {m : gM} {K : Option gV → gW → gM → Prop} {x0 x1 x2 : Int} : C (d + 1) M_X7_plan [(2, x0), (0, x1), (0, x2)] w m K = R d M_X7_plan 0 [(2, x0), (0, x1), (0, x2), (3, 0), (3, 0)] [] w m K := rfl
theorem e_X7_ends {d : Nat} {w : gW} {m : gM} {K : Option gV → gW → gM → Prop} {x0 : Int} : C (d + 1) M_X7_ends [(2, x0)] w m K = R d M_X7_ends 0 [(2, x0)] [] w m K := rfl
theorem e_X7_feed {d : Nat} {w : gW} {m : gM} {K : Option gV → gW → gM → Prop} {x0 x1 : Int} : C (d + 1) M_X7_feed [(2, x0), (0, x1)] w m K = R d M_X7_feed 0 [(2, x0), (0, x1)] [] w m K := rfl
theorem e_X7_read {d : Nat} {w : gW} {m : gM} {K : Option gV → gW → gM → Prop} {x0 : Int} : C (d + 1) M_X7_read [(2, x0)] w m K = R d M_X7_read 0 [(2, x0), (3, 0), (3, 0), (3, 0)] [] w m K := rfl
theorem e_X7_judge {d : Nat} {w : gW} {m : gM} {K : Option gV → gW → gM → Prop} {x0 x1 x2 x3 : Int} : C (d + 1) M_X7_judge [(2, x0), (0, x1), (0, x2), (0, x3)] w m K = R d M_X7_judge 0 [(2, x0), (0, x1), (0, x2), (0, x3), (3, 0), (3, 0), (3, 0)] [] w m K := rfl
theorem e_X7_image {d : Nat} {w : gW} {m : gM} {K : Option gV → gW → gM → Prop} {x0 : Int} : C (d + 1) M_X7_image [(2, x0)] w m K = R d M_X7_image 0 [(2, x0)] [] w m K := rfl
theorem e_X7_undo {d : Nat} {w : gW} {m : gM} {K : Option gV → gW → gM → Prop} {x0 : Int} : C (d + 1) M_X7_undo [(2, x0)] w m K = R d M_X7_undo 0 [(2, x0)] [] w m K := rfl
theorem e_X7_count {d : Nat} {w : gW} {m : gM} {K : Option gV → gW → gM → Prop} {x0 x1 : Int} : C (d + 1) M_X7_count [(2, x0), (0, x1)] w m K = R d M_X7_count 0 [(2, x0), (0, x1)] [] w m K := rfl
theorem e_X7_tape {d : Nat} {w : gW} {m : gM} {K : Option gV → gW → gM → Prop} {x0 x1 x2 x3 : Int} : C (d + 1) M_X7_tape [(2, x0), (0, x1), (0, x2), (0, x3)] w m K = R d M_X7_tape 0 [(2, x0), (0, x1), (0, x2), (0, x3)] [] w m K := rfl
theorem e_X7_item {d : Nat} {w : gW} {m : gM} {K : Option gV → gW → gM → Prop} {x0 x1 x2 x3 : Int} : C (d + 1) M_X7_item [(2, x0), (0, x1), (0, x2), (1, x3)] w m K = R d M_X7_item 0 [(2, x0), (0, x1), (0, x2), (1, x3), (3, 0)] [] w m K := rfl
theorem e_X7_peek {d : Nat} {w : gW} {m : gM} {K : Option gV → gW → gM → Prop} {x0 x1 x2 : Int} : C (d + 1) M_X7_peek [(2, x0), (0, x1), (0, x2)] w m K = R d M_X7_peek 0 [(2, x0), (0, x1), (0, x2)] [] w m K := rfl
theorem e_X7_shift {d : Nat} {w : gW} {m : gM} {K : Option gV → gW → gM → Prop} {x0 x1 x2 x3 x4 x5 : Int} : C (d + 1) M_X7_shift [(2, x0), (0, x1), (0, x2), (0, x3), (0, x4), (0, x5)] w m K = R d M_X7_shift 0 [(2, x0), (0, x1), (0, x2), (0, x3), (0, x4), (0, x5)] [] w m K := rfl
theorem e_X7_accept {d : Nat} {w : gW} {m : gM} {K : Option gV → gW → gM → Prop} {x0 : Int} : C (d + 1) M_X7_accept [(2, x0)] w m K = R d M_X7_accept 0 [(2, x0), (3, 0)] [] w m K := rfl
theorem e_X7_tryGround {d : Nat} {w : gW} {m : gM} {K : Option gV → gW → gM → Prop} {x0 x1 x2 x3 : Int} : C (d + 1) M_X7_tryGround [(2, x0), (0, x1), (0, x2), (0, x3)] w m K = R d M_X7_tryGround 0 [(2, x0), (0, x1), (0, x2), (0, x3)] [] w m K := rfl
theorem e_X7_tryMove {d : Nat} {w : gW} {m : gM} {K : Option gV → gW → gM → Prop} {x0 x1 x2 x3 : Int} : C (d + 1) M_X7_tryMove [(2, x0), (0, x1), (0, x2), (0, x3)] w m K = R d M_X7_tryMove 0 [(2, x0), (0, x1), (0, x2), (0, x3), (3, 0), (3, 0)] [] w m K := rfl
theorem e_X7_tryOffset {d : Nat} {w : gW} {m : gM} {K : Option gV → gW → gM → Prop} {x0 x1 x2 x3 x4 x5 x6 : Int} : C (d + 1) M_X7_tryOffset [(2, x0), (0, x1), (0, x2), (0, x3), (0, x4), (0, x5), (0, x6)] w m K = R d M_X7_tryOffset 0 [(2, x0), (0, x1), (0, x2), (0, x3), (0, x4), (0, x5), (0, x6), (3, 0), (3, 0)] [] w m K := rfl
theorem e_X7_tryTrade {d : Nat} {w : gW} {m : gM} {K : Option gV → gW → gM → Prop} {x0 x1 x2 x3 x4 x5 : Int} : C (d + 1) M_X7_tryTrade [(2, x0), (0, x1), (0, x2), (0, x3), (0, x4), (0, x5)] w m K = R d M_X7_tryTrade 0 [(2, x0), (0, x1), (0, x2), (0, x3), (0, x4), (0, x5), (3, 0), (3, 0), (3, 0), (3, 0), (3, 0)] [] w m K := rfl
theorem e_X7_tryClause {d : Nat} {w : gW} {m : gM} {K : Option gV → gW → gM → Prop} {x0 x1 x2 : Int} : C (d + 1) M_X7_tryClause [(2, x0), (0, x1), (2, x2)] w m K = R d M_X7_tryClause 0 [(2, x0), (0, x1), (2, x2)] [] w m K := rfl
theorem e_X7_sieveFloors {d : Nat} {w : gW} {m : gM} {K : Option gV → gW → gM → Prop} {x0 x1 : Int} : C (d + 1) M_X7_sieveFloors [(2, x0), (0, x1)] w m K = R d M_X7_sieveFloors 0 [(2, x0), (0, x1), (3, 0), (3, 0), (3, 0)] [] w m K := rfl
theorem e_X7_within {d : Nat} {w : gW} {m : gM} {K : Option gV → gW → gM → Prop} {x0 x1 x2 : Int} : C (d + 1) M_X7_within [(0, x0), (0, x1), (0, x2)] w m K = R d M_X7_within 0 [(0, x0), (0, x1), (0, x2)] [] w m K := rfl
theorem e_X7_isGround {d : Nat} {w : gW} {m : gM} {K : Option gV → gW → gM → Prop} {x0 : Int} : C (d + 1) M_X7_isGround [(0, x0)] w m K = R d M_X7_isGround 0 [(0, x0)] [] w m K := rfl
theorem e_X7_isTape {d : Nat} {w : gW} {m : gM} {K : Option gV → gW → gM → Prop} {x0 : Int} : C (d + 1) M_X7_isTape [(0, x0)] w m K = R d M_X7_isTape 0 [(0, x0)] [] w m K := rfl
theorem e_X7_isMoveOrNow {d : Nat} {w : gW} {m : gM} {K : Option gV → gW → gM → Prop} {x0 x1 : Int} : C (d + 1) M_X7_isMoveOrNow [(2, x0), (0, x1)] w m K = R d M_X7_isMoveOrNow 0 [(2, x0), (0, x1)] [] w m K := rfl
theorem e_X7_isUnder {d : Nat} {w : gW} {m : gM} {K : Option gV → gW → gM → Prop} {x0 x1 : Int} : C (d + 1) M_X7_isUnder [(0, x0), (0, x1)] w m K = R d M_X7_isUnder 0 [(0, x0), (0, x1)] [] w m K := rfl
theorem e_X7_refusedInstrument {d : Nat} {w : gW} {m : gM} {K : Option gV → gW → gM → Prop} {x0 x1 x2 x3 : Int} : C (d + 1) M_X7_refusedInstrument [(0, x0), (0, x1), (0, x2), (0, x3)] w m K = R d M_X7_refusedInstrument 0 [(0, x0), (0, x1), (0, x2), (0, x3)] [] w m K := rfl
theorem e_X7_commonDivisor {d : Nat} {w : gW} {m : gM} {K : Option gV → gW → gM → Prop} {x0 x1 : Int} : C (d + 1) M_X7_commonDivisor [(1, x0), (1, x1)] w m K = R d M_X7_commonDivisor 0 [(1, x0), (3, 0), (1, x1), (3, 0), (3, 0), (3, 0), (3, 0)] [] w m K := rfl
theorem e_X8_init {d : Nat} {w : gW} {m : gM} {K : Option gV → gW → gM → Prop} {x0 : Int} : C (d + 1) M_X8_init [(2, x0)] w m K = R d M_X8_init 0 [(2, x0), (3, 0)] [] w m K := rfl
theorem e_X8_isIn {d : Nat} {w : gW} {m : gM} {K : Option gV → gW → gM → Prop} {x0 x1 x2 : Int} : C (d + 1) M_X8_isIn [(1, x0), (1, x1), (1, x2)] w m K = R d M_X8_isIn 0 [(1, x0), (3, 0), (1, x1), (3, 0), (1, x2), (3, 0)] [] w m K := rfl
theorem e_X8_isGround {d : Nat} {w : gW} {m : gM} {K : Option gV → gW → gM → Prop} {x0 : Int} : C (d + 1) M_X8_isGround [(0, x0)] w m K = R d M_X8_isGround 0 [(0, x0)] [] w m K := rfl
theorem e_X8_isLeg {d : Nat} {w : gW} {m : gM} {K : Option gV → gW → gM → Prop} {x0 x1 : Int} : C (d + 1) M_X8_isLeg [(2, x0), (0, x1)] w m K = R d M_X8_isLeg 0 [(2, x0), (0, x1)] [] w m K := rfl
theorem e_X8_isMove {d : Nat} {w : gW} {m : gM} {K : Option gV → gW → gM → Prop} {x0 x1 : Int} : C (d + 1) M_X8_isMove [(2, x0), (0, x1)] w m K = R d M_X8_isMove 0 [(2, x0), (0, x1)] [] w m K := rfl
theorem e_X8_isOffset {d : Nat} {w : gW} {m : gM} {K : Option gV → gW → gM → Prop} {x0 x1 : Int} : C (d + 1) M_X8_isOffset [(2, x0), (0, x1)] w m K = R d M_X8_isOffset 0 [(2, x0), (0, x1)] [] w m K := rfl
theorem e_X8_of {d : Nat} {w : gW} {m : gM} {K : Option gV → gW → gM → Prop} {x0 x1 x2 : Int} : C (d + 1) M_X8_of [(2, x0), (0, x1), (0, x2)] w m K = R d M_X8_of 0 [(2, x0), (0, x1), (0, x2)] [] w m K := rfl
theorem e_X8_leg {d : Nat} {w : gW} {m : gM} {K : Option gV → gW → gM → Prop} {x0 x1 x2 : Int} : C (d + 1) M_X8_leg [(2, x0), (0, x1), (0, x2)] w m K = R d M_X8_leg 0 [(2, x0), (0, x1), (0, x2)] [] w m K := rfl
theorem e_X8_legAs {d : Nat} {w : gW} {m : gM} {K : Option gV → gW → gM → Prop} {x0 x1 x2 : Int} : C (d + 1) M_X8_legAs [(2, x0), (0, x1), (0, x2)] w m K = R d M_X8_legAs 0 [(2, x0), (0, x1), (0, x2)] [] w m K := rfl
theorem e_X8_offsetAt {d : Nat} {w : gW} {m : gM} {K : Option gV → gW → gM → Prop} {x0 x1 x2 : Int} : C (d + 1) M_X8_offsetAt [(2, x0), (0, x1), (0, x2)] w m K = R d M_X8_offsetAt 0 [(2, x0), (0, x1), (0, x2)] [] w m K := rfl
theorem e_X8_copies {d : Nat} {w : gW} {m : gM} {K : Option gV → gW → gM → Prop} {x0 x1 : Int} : C (d + 1) M_X8_copies [(2, x0), (2, x1)] w m K = R d M_X8_copies 0 [(2, x0), (2, x1), (3, 0)] [] w m K := rfl
theorem e_X8_is {d : Nat} {w : gW} {m : gM} {K : Option gV → gW → gM → Prop} {x0 x1 : Int} : C (d + 1) M_X8_is [(2, x0), (1, x1)] w m K = R d M_X8_is 0 [(2, x0), (1, x1), (3, 0)] [] w m K := rfl
theorem e_X8_above {d : Nat} {w : gW} {m : gM} {K : Option gV → gW → gM → Prop} {x0 x1 : Int} : C (d + 1) M_X8_above [(0, x0), (0, x1)] w m K = R d M_X8_above 0 [(0, x0), (0, x1)] [] w m K := rfl
theorem e_X8_money {d : Nat} {w : gW} {m : gM} {K : Option gV → gW → gM → Prop} {x0 x1 x2 : Int} : C (d + 1) M_X8_money [(0, x0), (0, x1), (0, x2)] w m K = R d M_X8_money 0 [(0, x0), (0, x1), (0, x2)] [] w m K := rfl
theorem e_X8_value {d : Nat} {w : gW} {m : gM} {K : Option gV → gW → gM → Prop} {x0 x1 x2 x3 : Int} : C (d + 1) M_X8_value [(2, x0), (0, x1), (0, x2), (0, x3)] w m K = R d M_X8_value 0 [(2, x0), (0, x1), (0, x2), (0, x3), (3, 0), (3, 0)] [] w m K := rfl
theorem e_X8_price {d : Nat} {w : gW} {m : gM} {K : Option gV → gW → gM → Prop} {x0 x1 x2 : Int} : C (d + 1) M_X8_price [(2, x0), (0, x1), (0, x2)] w m K = R d M_X8_price 0 [(2, x0), (0, x1), (0, x2)] [] w m K := rfl
theorem e_X8_unrest {d : Nat} {w : gW} {m : gM} {K : Option gV → gW → gM → Prop} {x0 x1 x2 : Int} : C (d + 1) M_X8_unrest [(2, x0), (0, x1), (0, x2)] w m K = R d M_X8_unrest 0 [(2, x0), (0, x1), (0, x2)] [] w m K := rfl
theorem e_X8_valueBy {d : Nat} {w : gW} {m : gM} {K : Option gV → gW → gM → Prop} {x0 x1 x2 : Int} : C (d + 1) M_X8_valueBy [(2, x0), (0, x1), (0, x2)] w m K = R d M_X8_valueBy 0 [(2, x0), (0, x1), (0, x2), (3, 0)] [] w m K := rfl
theorem e_X8_legs {d : Nat} {w : gW} {m : gM} {K : Option gV → gW → gM → Prop} {x0 : Int} : C (d + 1) M_X8_legs [(2, x0)] w m K = R d M_X8_legs 0 [(2, x0), (3, 0), (3, 0), (3, 0), (3, 0), (3, 0), (3, 0), (3, 0)] [] w m K := rfl
theorem e_X8_charges {d : Nat} {w : gW} {m : gM} {K : Option gV → gW → gM → Prop} {x0 x1 : Int} : C (d + 1) M_X8_charges [(2, x0), (0, x1)] w m K = R d M_X8_charges 0 [(2, x0), (0, x1), (3, 0), (3, 0), (3, 0), (3, 0), (3, 0), (3, 0), (3, 0)] [] w m K := rfl
theorem e_X8_grounds {d : Nat} {w : gW} {m : gM} {K : Option gV → gW → gM → Prop} {x0 : Int} : C (d + 1) M_X8_grounds [(2, x0)] w m K = R d M_X8_grounds 0 [(2, x0), (3, 0), (3, 0), (3, 0), (3, 0)] [] w m K := rfl
theorem e_X8_mayUse {d : Nat} {w : gW} {m : gM} {K : Option gV → gW → gM → Prop} {x0 x1 : Int} : C (d + 1) M_X8_mayUse [(2, x0), (0, x1)] w m K = R d M_X8_mayUse 0 [(2, x0), (0, x1), (3, 0)] [] w m K := rfl
theorem e_X8_uses {d : Nat} {w : gW} {m : gM} {K : Option gV → gW → gM → Prop} {x0 x1 : Int} : C (d + 1) M_X8_uses [(2, x0), (0, x1)] w m K = R d M_X8_uses 0 [(2, x0), (0, x1), (3, 0), (3, 0), (3, 0), (3, 0), (3, 0), (3, 0), (3, 0), (3, 0)] [] w m K := rfl
theorem e_X8_orders {d : Nat} {w : gW} {m : gM} {K : Option gV → gW → gM → Prop} {x0 x1 x2 : Int} : C (d + 1) M_X8_orders [(2, x0), (0, x1), (1, x2)] w m K = R d M_X8_orders 0 [(2, x0), (0, x1), (1, x2), (3, 0), (3, 0), (3, 0), (3, 0), (3, 0), (3, 0), (3, 0), (3, 0)] [] w m K := rfl
theorem e_X8_works {d : Nat} {w : gW} {m : gM} {K : Option gV → gW → gM → Prop} {x0 : Int} : C (d + 1) M_X8_works [(2, x0)] w m K = R d M_X8_works 0 [(2, x0), (3, 0)] [] w m K := rfl
theorem e_X8_stays {d : Nat} {w : gW} {m : gM} {K : Option gV → gW → gM → Prop} {x0 : Int} : C (d + 1) M_X8_stays [(2, x0)] w m K = R d M_X8_stays 0 [(2, x0)] [] w m K := rfl
theorem e_X8_laysAside {d : Nat} {w : gW} {m : gM} {K : Option gV → gW → gM → Prop} {x0 : Int} : C (d + 1) M_X8_laysAside [(2, x0)] w m K = R d M_X8_laysAside 0 [(2, x0)] [] w m K := rfl
theorem e_X8_mayBe {d : Nat} {w : gW} {m : gM} {K : Option gV → gW → gM → Prop} {x0 x1 : Int} : C (d + 1) M_X8_mayBe [(0, x0), (0, x1)] w m K = R d M_X8_mayBe 0 [(0, x0), (0, x1)] [] w m K := rfl
theorem e_X8_ground {d : Nat} {w : gW} {m : gM} {K : Option gV → gW → gM → Prop} {x0 x1 x2 x3 : Int} : C (d + 1) M_X8_ground [(2, x0), (0, x1), (0, x2), (0, x3)] w m K = R d M_X8_ground 0 [(2, x0), (0, x1), (0, x2), (0, x3), (3, 0)] [] w m K := rfl
theorem e_X8_groundOf {d : Nat} {w : gW} {m : gM} {K : Option gV → gW → gM → Prop} {x0 x1 x2 : Int} : C (d + 1) M_X8_groundOf [(2, x0), (0, x1), (0, x2)] w m K = R d M_X8_groundOf 0 [(2, x0), (0, x1), (0, x2)] [] w m K := rfl
theorem e_X8_move {d : Nat} {w : gW} {m : gM} {K : Option gV → gW → gM → Prop} {x0 x1 x2 x3 : Int} : C (d + 1) M_X8_move [(2, x0), (0, x1), (0, x2), (0, x3)] w m K = R d M_X8_move 0 [(2, x0), (0, x1), (0, x2), (0, x3), (3, 0)] [] w m K := rfl
theorem e_X8_leaves {d : Nat} {w : gW} {m : gM} {K : Option gV → gW → gM → Prop} {x0 x1 x2 x3 x4 : Int} : C (d + 1) M_X8_leaves [(2, x0), (0, x1), (0, x2), (0, x3), (0, x4)] w m K = R d M_X8_leaves 0 [(2, x0), (0, x1), (0, x2), (0, x3), (0, x4), (3, 0)] [] w m K := rfl
theorem e_X8_still {d : Nat} {w : gW} {m : gM} {K : Option gV → gW → gM → Prop} {x0 x1 : Int} : C (d + 1) M_X8_still [(2, x0), (0, x1)] w m K = R d M_X8_still 0 [(2, x0), (0, x1)] [] w m K := rfl
theorem e_X8_moved {d : Nat} {w : gW} {m : gM} {K : Option gV → gW → gM → Prop} {x0 x1 x2 x3 : Int} : C (d + 1) M_X8_moved [(2, x0), (0, x1), (0, x2), (0, x3)] w m K = R d M_X8_moved 0 [(2, x0), (0, x1), (0, x2), (0, x3)] [] w m K := rfl
theorem e_X8_offset {d : Nat} {w : gW} {m : gM} {K : Option gV → gW → gM → Prop} {x0 x1 x2 x3 x4 x5 x6 : Int} : C (d + 1) M_X8_offset [(2, x0), (0, x1), (0, x2), (0, x3), (0, x4), (0, x5), (0, x6)] w m K = R d M_X8_offset 0 [(2, x0), (0, x1), (0, x2), (0, x3), (0, x4), (0, x5), (0, x6), (3, 0)] [] w m K := rfl
theorem e_X8_unset {d : Nat} {w : gW} {m : gM} {K : Option gV → gW → gM → Prop} {x0 x1 : Int} : C (d + 1) M_X8_unset [(2, x0), (0, x1)] w m K = R d M_X8_unset 0 [(2, x0), (0, x1)] [] w m K := rfl
theorem e_X8_legOf {d : Nat} {w : gW} {m : gM} {K : Option gV → gW → gM → Prop} {x0 x1 x2 x3 x4 : Int} : C (d + 1) M_X8_legOf [(2, x0), (0, x1), (0, x2), (0, x3), (0, x4)] w m K = R d M_X8_legOf 0 [(2, x0), (0, x1), (0, x2), (0, x3), (0, x4), (3, 0)] [] w m K := rfl
theorem e_X8_bars {d : Nat} {w : gW} {m : gM} {K : Option gV → gW → gM → Prop} {x0 x1 x2 x3 x4 : Int} : C (d + 1) M_X8_bars [(0, x0), (0, x1), (0, x2), (0, x3), (0, x4)] w m K = R d M_X8_bars 0 [(0, x0), (0, x1), (0, x2), (0, x3), (0, x4)] [] w m K := rfl
theorem e_X8_trades {d : Nat} {w : gW} {m : gM} {K : Option gV → gW → gM → Prop} {x0 x1 x2 x3 x4 x5 : Int} : C (d + 1) M_X8_trades [(2, x0), (0, x1), (0, x2), (0, x3), (0, x4), (0, x5)] w m K = R d M_X8_trades 0 [(2, x0), (0, x1), (0, x2), (0, x3), (0, x4), (0, x5), (3, 0), (3, 0)] [] w m K := rfl
theorem e_X8_trade {d : Nat} {w : gW} {m : gM} {K : Option gV → gW → gM → Prop} {x0 x1 x2 x3 x4 x5 : Int} : C (d + 1) M_X8_trade [(2, x0), (0, x1), (0, x2), (0, x3), (0, x4), (0, x5)] w m K = R d M_X8_trade 0 [(2, x0), (0, x1), (0, x2), (0, x3), (0, x4), (0, x5), (3, 0), (3, 0)] [] w m K := rfl
theorem e_X8_find {d : Nat} {w : gW} {m : gM} {K : Option gV → gW → gM → Prop} {x0 x1 x2 x3 x4 : Int} : C (d + 1) M_X8_find [(2, x0), (0, x1), (0, x2), (0, x3), (0, x4)] w m K = R d M_X8_find 0 [(2, x0), (0, x1), (0, x2), (0, x3), (0, x4), (3, 0)] [] w m K := rfl
theorem e_X8_legOf_ {d : Nat} {w : gW} {m : gM} {K : Option gV → gW → gM → Prop} {x0 x1 x2 : Int} : C (d + 1) M_X8_legOf_ [(2, x0), (0, x1), (0, x2)] w m K = R d M_X8_legOf_ 0 [(2, x0), (0, x1), (0, x2)] [] w m K := rfl
theorem e_X8_value_ {d : Nat} {w : gW} {m : gM} {K : Option gV → gW → gM → Prop} {x0 x1 x2 : Int} : C (d + 1) M_X8_value_ [(2, x0), (0, x1), (0, x2)] w m K = R d M_X8_value_ 0 [(2, x0), (0, x1), (0, x2)] [] w m K := rfl
theorem e_X8_taken {d : Nat} {w : gW} {m : gM} {K : Option gV → gW → gM → Prop} {x0 x1 x2 : Int} : C (d + 1) M_X8_taken [(2, x0), (0, x1), (0, x2)] w m K = R d M_X8_taken 0 [(2, x0), (0, x1), (0, x2), (3, 0), (3, 0)] [] w m K := rfl
theorem e_X8_loss {d : Nat} {w : gW} {m : gM} {K : Option gV → gW → gM → Prop} {x0 x1 x2 : Int} : C (d + 1) M_X8_loss [(2, x0), (0, x1), (0, x2)] w m K = R d M_X8_loss 0 [(2, x0), (0, x1), (0, x2)] [] w m K := rfl
theorem e_X8_row {d : Nat} {w : gW} {m : gM} {K : Option gV → gW → gM → Prop} {x0 x1 x2 : Int} : C (d + 1) M_X8_row [(2, x0), (0, x1), (0, x2)] w m K = R d M_X8_row 0 [(2, x0), (0, x1), (0, x2)] [] w m K := rfl
theorem e_X8_risk {d : Nat} {w : gW} {m : gM} {K : Option gV → gW → gM → Prop} {x0 x1 x2 : Int} : C (d + 1) M_X8_risk [(2, x0), (0, x1), (0, x2)] w m K = R d M_X8_risk 0 [(2, x0), (0, x1), (0, x2)] [] w m K := rfl
theorem e_X8_told {d : Nat} {w : gW} {m : gM} {K : Option gV → gW → gM → Prop} {x0 x1 : Int} : C (d + 1) M_X8_told [(2, x0), (0, x1)] w m K = R d M_X8_told 0 [(2, x0), (0, x1)] [] w m K := rfl
theorem e_X8_order {d : Nat} {w : gW} {m : gM} {K : Option gV → gW → gM → Prop} {x0 x1 : Int} : C (d + 1) M_X8_order [(2, x0), (0, x1)] w m K = R d M_X8_order 0 [(2, x0), (0, x1)] [] w m K := rfl
theorem e_X8_used {d : Nat} {w : gW} {m : gM} {K : Option gV → gW → gM → Prop} {x0 x1 x2 : Int} : C (d + 1) M_X8_used [(2, x0), (0, x1), (0, x2)] w m K = R d M_X8_used 0 [(2, x0), (0, x1), (0, x2)] [] w m K := rfl
theorem e_X8_ordered {d : Nat} {w : gW} {m : gM} {K : Option gV → gW → gM → Prop} {x0 x1 : Int} : C (d + 1) M_X8_ordered [(2, x0), (0, x1)] w m K = R d M_X8_ordered 0 [(2, x0), (0, x1)] [] w m K := rfl
theorem e_X8_thinks {d : Nat} {w : gW} {m : gM} {K : Option gV → gW → gM → Prop} {x0 : Int} : C (d + 1) M_X8_thinks [(2, x0)] w m K = R d M_X8_thinks 0 [(2, x0)] [] w m K := rfl
theorem e_X8_forgets {d : Nat} {w : gW} {m : gM} {K : Option gV → gW → gM → Prop} {x0 : Int} : C (d + 1) M_X8_forgets [(2, x0)] w m K = R d M_X8_forgets 0 [(2, x0)] [] w m K := rfl
theorem e_X8_would {d : Nat} {w : gW} {m : gM} {K : Option gV → gW → gM → Prop} {x0 x1 x2 x3 x4 x5 : Int} : C (d + 1) M_X8_would [(2, x0), (0, x1), (0, x2), (0, x3), (0, x4), (0, x5)] w m K = R d M_X8_would 0 [(2, x0), (0, x1), (0, x2), (0, x3), (0, x4), (0, x5), (3, 0), (3, 0), (3, 0)] [] w m K := rfl
theorem e_X8_hedge {d : Nat} {w : gW} {m : gM} {K : Option gV → gW → gM → Prop} {x0 x1 x2 : Int} : C (d + 1) M_X8_hedge [(2, x0), (0, x1), (0, x2)] w m K = R d M_X8_hedge 0 [(2, x0), (0, x1), (0, x2), (3, 0), (3, 0), (3, 0), (3, 0), (3, 0), (3, 0), (3, 0)] [] w m K := rfl
theorem e_X8_common {d : Nat} {w : gW} {m : gM} {K : Option gV → gW → gM → Prop} {x0 x1 : Int} : C (d + 1) M_X8_common [(1, x0), (1, x1)] w m K = R d M_X8_common 0 [(1, x0), (3, 0), (1, x1), (3, 0)] [] w m K := rfl
theorem e_X8_share {d : Nat} {w : gW} {m : gM} {K : Option gV → gW → gM → Prop} {x0 x1 x2 : Int} : C (d + 1) M_X8_share [(2, x0), (0, x1), (0, x2)] w m K = R d M_X8_share 0 [(2, x0), (0, x1), (0, x2)] [] w m K := rfl
theorem e_X8_see {d : Nat} {w : gW} {m : gM} {K : Option gV → gW → gM → Prop} {x0 x1 x2 : Int} : C (d + 1) M_X8_see [(2, x0), (0, x1), (0, x2)] w m K = R d M_X8_see 0 [(2, x0), (0, x1), (0, x2)] [] w m K := rfl
theorem e_X8_weighs {d : Nat} {w : gW} {m : gM} {K : Option gV → gW → gM → Prop} {x0 x1 : Int} : C (d + 1) M_X8_weighs [(2, x0), (1, x1)] w m K = R d M_X8_weighs 0 [(2, x0), (1, x1), (3, 0), (3, 0)] [] w m K := rfl
theorem e_X8_isAsSeen {d : Nat} {w : gW} {m : gM} {K : Option gV → gW → gM → Prop} {x0 x1 : Int} : C (d + 1) M_X8_isAsSeen [(2, x0), (0, x1)] w m K = R d M_X8_isAsSeen 0 [(2, x0), (0, x1), (3, 0), (3, 0)] [] w m K := rfl
theorem e_X8_fits {d : Nat} {w : gW} {m : gM} {K : Option gV → gW → gM → Prop} {x0 x1 : Int} : C (d + 1) M_X8_fits [(2, x0), (0, x1)] w m K = R d M_X8_fits 0 [(2, x0), (0, x1), (3, 0), (3, 0), (3, 0)] [] w m K := rfl
theorem e_X8_plan {d : Nat} {w : gW} {m : gM} {K : Option gV → gW → gM → Prop} {x0 x1 x2 : Int} : C (d + 1) M_X8_plan [(2, x0), (0, x1), (0, x2)] w m K = R d M_X8_plan 0 [(2, x0), (0, x1), (0, x2)] [] w m K := rfl
theorem e_X8_shifts {d : Nat} {w : gW} {m : gM} {K : Option gV → gW → gM → Prop} {x0 x1 x2 x3 x4 : Int} : C (d + 1) M_X8_shifts [(2, x0), (0, x1), (1, x2), (1, x3), (1, x4)] w m K = R d M_X8_shifts 0 [(2, x0), (0, x1), (1, x2), (3, 0), (1, x3), (3, 0), (1, x4), (3, 0), (3, 0)] [] w m K := rfl
theorem e_X8_ends {d : Nat} {w : gW} {m : gM} {K : Option gV → gW → gM → Prop} {x0 : Int} : C (d + 1) M_X8_ends [(2, x0)] w m K = R d M_X8_ends 0 [(2, x0), (3, 0), (3, 0), (3, 0), (3, 0), (3, 0)] [] w m K := rfl
theorem e_X8_feed {d : Nat} {w : gW} {m : gM} {K : Option gV → gW → gM → Prop} {x0 x1 : Int} : C (d + 1) M_X8_feed [(2, x0), (0, x1)] w m K = R d M_X8_feed 0 [(2, x0), (0, x1)] [] w m K := rfl
theorem e_X8_fails {d : Nat} {w : gW} {m : gM} {K : Option gV → gW → gM → Prop} {x0 x1 : Int} : C (d + 1) M_X8_fails [(2, x0), (0, x1)] w m K = R d M_X8_fails 0 [(2, x0), (0, x1)] [] w m K := rfl
theorem e_X8_takes {d : Nat} {w : gW} {m : gM} {K : Option gV → gW → gM → Prop} {x0 x1 : Int} : C (d + 1) M_X8_takes [(2, x0), (0, x1)] w m K = R d M_X8_takes 0 [(2, x0), (0, x1), (3, 0)] [] w m K := rfl
theorem e_X8_needs {d : Nat} {w : gW} {m : gM} {K : Option gV → gW → gM → Prop} {x0 x1 : Int} : C (d + 1) M_X8_needs [(2, x0), (0, x1)] w m K = R d M_X8_needs 0 [(2, x0), (0, x1)] [] w m K := rfl
theorem e_X8_number {d : Nat} {w : gW} {m : gM} {K : Option gV → gW → gM → Prop} {x0 x1 : Int} : C (d + 1) M_X8_number [(2, x0), (0, x1)] w m K = R d M_X8_number 0 [(2, x0), (0, x1), (3, 0), (3, 0)] [] w m K := rfl
theorem e_X8_signed {d : Nat} {w : gW} {m : gM} {K : Option gV → gW → gM → Prop} {x0 x1 : Int} : C (d + 1) M_X8_signed [(2, x0), (0, x1)] w m K = R d M_X8_signed 0 [(2, x0), (0, x1)] [] w m K := rfl
theorem e_X8_clause {d : Nat} {w : gW} {m : gM} {K : Option gV → gW → gM → Prop} {x0 x1 : Int} : C (d + 1) M_X8_clause [(2, x0), (0, x1)] w m K = R d M_X8_clause 0 [(2, x0), (0, x1), (3, 0), (3, 0), (3, 0)] [] w m K := rfl
theorem e_X8_does {d : Nat} {w : gW} {m : gM} {K : Option gV → gW → gM → Prop} {x0 x1 : Int} : C (d + 1) M_X8_does [(2, x0), (0, x1)] w m K = R d M_X8_does 0 [(2, x0), (0, x1)] [] w m K := rfl
theorem e_X8_isDone {d : Nat} {w : gW} {m : gM} {K : Option gV → gW → gM → Prop} {x0 x1 : Int} : C (d + 1) M_X8_isDone [(2, x0), (0, x1)] w m K = R d M_X8_isDone 0 [(2, x0), (0, x1)] [] w m K := rfl
theorem e_X8_read {d : Nat} {w : gW} {m : gM} {K : Option gV → gW → gM → Prop} {x0 : Int} : C (d + 1) M_X8_read [(2, x0)] w m K = R d M_X8_read 0 [(2, x0), (3, 0), (3, 0), (3, 0)] [] w m K := rfl
theorem e_X8_isTape {d : Nat} {w : gW} {m : gM} {K : Option gV → gW → gM → Prop} {x0 : Int} : C (d + 1) M_X8_isTape [(0, x0)] w m K = R d M_X8_isTape 0 [(0, x0)] [] w m K := rfl
theorem e_X8_judge {d : Nat} {w : gW} {m : gM} {K : Option gV → gW → gM → Prop} {x0 x1 x2 x3 : Int} : C (d + 1) M_X8_judge [(2, x0), (0, x1), (0, x2), (0, x3)] w m K = R d M_X8_judge 0 [(2, x0), (0, x1), (0, x2), (0, x3), (3, 0)] [] w m K := rfl
theorem e_X8_image {d : Nat} {w : gW} {m : gM} {K : Option gV → gW → gM → Prop} {x0 : Int} : C (d + 1) M_X8_image [(2, x0)] w m K = R d M_X8_image 0 [(2, x0)] [] w m K := rfl
theorem e_X8_undo {d : Nat} {w : gW} {m : gM} {K : Option gV → gW → gM → Prop} {x0 : Int} : C (d + 1) M_X8_undo [(2, x0)] w m K = R d M_X8_undo 0 [(2, x0)] [] w m K := rfl
theorem e_X8_spots {d : Nat} {w : gW} {m : gM} {K : Option gV → gW → gM → Prop} {x0 : Int} : C (d + 1) M_X8_spots [(2, x0)] w m K = R d M_X8_spots 0 [(2, x0), (3, 0), (3, 0), (3, 0), (3, 0)] [] w m K := rfl
theorem e_X8_count {d : Nat} {w : gW} {m : gM} {K : Option gV → gW → gM → Prop} {x0 x1 : Int} : C (d + 1) M_X8_count [(2, x0), (0, x1)] w m K = R d M_X8_count 0 [(2, x0), (0, x1)] [] w m K := rfl
theorem e_X8_tape {d : Nat} {w : gW} {m : gM} {K : Option gV → gW → gM → Prop} {x0 x1 x2 x3 : Int} : C (d + 1) M_X8_tape [(2, x0), (0, x1), (0, x2), (0, x3)] w m K = R d M_X8_tape 0 [(2, x0), (0, x1), (0, x2), (0, x3), (3, 0)] [] w m K := rfl
theorem e_X8_item {d : Nat} {w : gW} {m : gM} {K : Option gV → gW → gM → Prop} {x0 x1 x2 x3 : Int} : C (d + 1) M_X8_item [(2, x0), (0, x1), (0, x2), (1, x3)] w m K = R d M_X8_item 0 [(2, x0), (0, x1), (0, x2), (1, x3), (3, 0)] [] w m K := rfl
theorem e_X8_peek {d : Nat} {w : gW} {m : gM} {K : Option gV → gW → gM → Prop} {x0 x1 x2 : Int} : C (d + 1) M_X8_peek [(2, x0), (0, x1), (0, x2)] w m K = R d M_X8_peek 0 [(2, x0), (0, x1), (0, x2)] [] w m K := rfl
theorem e_X8_shift {d : Nat} {w : gW} {m : gM} {K : Option gV → gW → gM → Prop} {x0 x1 x2 x3 x4 x5 : Int} : C (d + 1) M_X8_shift [(2, x0), (0, x1), (0, x2), (0, x3), (0, x4), (0, x5)] w m K = R d M_X8_shift 0 [(2, x0), (0, x1), (0, x2), (0, x3), (0, x4), (0, x5), (3, 0)] [] w m K := rfl
theorem e_J0_length_8abf5 {d : Nat} {w : gW} {m : gM} {K : Option gV → gW → gM → Prop} {x0 : Int} : C (d + 1) M_J0_length_8abf5 [(2, x0)] w m K = R d M_J0_length_8abf5 0 [(2, x0)] [] w m K := rfl
theorem e_J0_isEmpty_aae02 {d : Nat} {w : gW} {m : gM} {K : Option gV → gW → gM → Prop} {x0 : Int} : C (d + 1) M_J0_isEmpty_aae02 [(2, x0)] w m K = R d M_J0_isEmpty_aae02 0 [(2, x0)] [] w m K := rfl
theorem e_J0_charAt_5068e {d : Nat} {w : gW} {m : gM} {K : Option gV → gW → gM → Prop} {x0 x1 : Int} : C (d + 1) M_J0_charAt_5068e [(2, x0), (0, x1)] w m K = R d M_J0_charAt_5068e 0 [(2, x0), (0, x1)] [] w m K := rfl
theorem e_J0_coder_7d493 {d : Nat} {w : gW} {m : gM} {K : Option gV → gW → gM → Prop} {x0 : Int} : C (d + 1) M_J0_coder_7d493 [(2, x0)] w m K = R d M_J0_coder_7d493 0 [(2, x0)] [] w m K := rfl
theorem e_J0_isLatin1_aae02 {d : Nat} {w : gW} {m : gM} {K : Option gV → gW → gM → Prop} {x0 : Int} : C (d + 1) M_J0_isLatin1_aae02 [(2, x0)] w m K = R d M_J0_isLatin1_aae02 0 [(2, x0)] [] w m K := rfl
theorem e_J0_checkIndex_df160 {d : Nat} {w : gW} {m : gM} {K : Option gV → gW → gM → Prop} {x0 x1 : Int} : C (d + 1) M_J0_checkIndex_df160 [(0, x0), (0, x1)] w m K = R d M_J0_checkIndex_df160 0 [(0, x0), (0, x1)] [] w m K := rfl
theorem e_J1_charAt_3b067 {d : Nat} {w : gW} {m : gM} {K : Option gV → gW → gM → Prop} {x0 x1 : Int} : C (d + 1) M_J1_charAt_3b067 [(2, x0), (0, x1)] w m K = R d M_J1_charAt_3b067 0 [(2, x0), (0, x1)] [] w m K := rfl
theorem e_J3_checkIndex_8e157 {d : Nat} {w : gW} {m : gM} {K : Option gV → gW → gM → Prop} {x0 x1 x2 : Int} : C (d + 1) M_J3_checkIndex_8e157 [(0, x0), (0, x1), (2, x2)] w m K = R d M_J3_checkIndex_8e157 0 [(0, x0), (0, x1), (2, x2)] [] w m K := rfl
theorem e_L_law {d : Nat} {w : gW} {m : gM} {K : Option gV → gW → gM → Prop} {x0 : Int} : C (d + 1) M_L_law [(2, x0)] w m K = R d M_L_law 0 [(2, x0), (3, 0), (3, 0), (3, 0)] [] w m K := rfl
