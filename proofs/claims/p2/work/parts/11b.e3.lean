/-! THE ENGINE, 3: what is where; values, facts, states -/
def sShL : List (List (Option (Nat × Nat × Nat))) := [[some (0, 11, 0), some (1, 57, 0), some (2, 1, 0), some (2, 2, 0), some (1, 58, 0), some (0, 0, 0), some (1, 0, 5), some (0, 7, 0), some (1, 30, 7), some (0, 8, 0), some (1, 31, 9), some (1, 32, 9), some (1, 33, 9), some (1, 34, 9), some (1, 35, 9), some (1, 36, 9), some (1, 1, 5), some (1, 2, 5), some (1, 3, 5), some (0, 1, 0), some (0, 7, 0), some (1, 30, 20), some (0, 10, 0), some (1, 45, 22)], [some (1, 46, 22), some (1, 47, 22), some (1, 48, 22), some (1, 49, 22), some (1, 50, 22), some (1, 51, 22), some (1, 52, 22), some (1, 53, 22), some (1, 54, 22), some (1, 55, 22), some (1, 56, 22), some (0, 2, 0), some (1, 4, 35), some (1, 5, 35), some (0, 9, 0), some (1, 44, 38), some (1, 38, 38), some (1, 39, 38), some (1, 40, 38), some (1, 41, 38), some (1, 42, 38), some (1, 43, 38), some (0, 5, 0), some (1, 18, 46)], [some (1, 19, 46), some (1, 20, 46), some (1, 21, 46), some (1, 22, 46), some (1, 23, 46), some (1, 24, 46), some (1, 25, 46), some (1, 26, 46), some (0, 4, 0), some (1, 10, 56), some (1, 11, 56), some (1, 12, 56), some (1, 13, 56), some (1, 14, 56), some (1, 15, 56), some (1, 16, 56), some (1, 17, 56), some (0, 6, 0), some (1, 27, 65), some (1, 28, 65), some (1, 29, 65), some (0, 3, 0), some (1, 6, 69), some (1, 7, 69)], [some (1, 8, 69), some (1, 9, 69), some (0, 8, 0), some (1, 31, 74), some (1, 32, 74), some (1, 33, 74), some (1, 34, 74), some (1, 35, 74), some (1, 36, 74), some (2, 0, 19), some (0, 8, 0), some (1, 31, 82), some (1, 32, 82), some (1, 33, 82), some (1, 34, 82), some (1, 35, 82), some (1, 36, 82), some (0, 8, 0), some (1, 31, 89), some (1, 32, 89), some (1, 33, 89), some (1, 34, 89), some (1, 35, 89), some (1, 36, 89)], [some (0, 8, 0), some (1, 31, 96), some (1, 32, 96), some (1, 33, 96), some (1, 34, 96), some (1, 35, 96), some (1, 36, 96), some (0, 8, 0), some (1, 31, 103), some (1, 32, 103), some (1, 33, 103), some (1, 34, 103), some (1, 35, 103), some (1, 36, 103), some (0, 1, 0), some (0, 7, 0), some (1, 30, 111), some (0, 10, 0), some (1, 45, 113), some (1, 46, 113), some (1, 47, 113), some (1, 48, 113), some (1, 49, 113), some (1, 50, 113)], [some (1, 51, 113), some (1, 52, 113), some (1, 53, 113), some (1, 54, 113), some (1, 55, 113), some (1, 56, 113), some (0, 2, 0), some (1, 4, 126), some (1, 5, 126), some (0, 9, 0), some (1, 44, 129), some (1, 38, 129), some (1, 39, 129), some (1, 40, 129), some (1, 41, 129), some (1, 42, 129), some (1, 43, 129), some (0, 5, 0), some (1, 18, 137), some (1, 19, 137), some (1, 20, 137), some (1, 21, 137), some (1, 22, 137), some (1, 23, 137)], [some (1, 24, 137), some (1, 25, 137), some (1, 26, 137), some (0, 4, 0), some (1, 10, 147), some (1, 11, 147), some (1, 12, 147), some (1, 13, 147), some (1, 14, 147), some (1, 15, 147), some (1, 16, 147), some (1, 17, 147), some (0, 6, 0), some (1, 27, 156), some (1, 28, 156), some (1, 29, 156), some (0, 3, 0), some (1, 6, 160), some (1, 7, 160), some (1, 8, 160), some (1, 9, 160), some (0, 8, 0), some (1, 31, 165), some (1, 32, 165)], [some (1, 33, 165), some (1, 34, 165), some (1, 35, 165), some (1, 36, 165), some (2, 0, 110), some (0, 8, 0), some (1, 31, 173), some (1, 32, 173), some (1, 33, 173), some (1, 34, 173), some (1, 35, 173), some (1, 36, 173), some (0, 8, 0), some (1, 31, 180), some (1, 32, 180), some (1, 33, 180), some (1, 34, 180), some (1, 35, 180), some (1, 36, 180), some (0, 8, 0), some (1, 31, 187), some (1, 32, 187), some (1, 33, 187), some (1, 34, 187)], [some (1, 35, 187), some (1, 36, 187), some (0, 8, 0), some (1, 31, 194), some (1, 32, 194), some (1, 33, 194), some (1, 34, 194), some (1, 35, 194), some (1, 36, 194), some (0, 1, 0), some (0, 7, 0), some (1, 30, 202), some (0, 10, 0), some (1, 45, 204), some (1, 46, 204), some (1, 47, 204), some (1, 48, 204), some (1, 49, 204), some (1, 50, 204), some (1, 51, 204), some (1, 52, 204), some (1, 53, 204), some (1, 54, 204), some (1, 55, 204)], [some (1, 56, 204), some (0, 2, 0), some (1, 4, 217), some (1, 5, 217), some (0, 9, 0), some (1, 44, 220), some (1, 38, 220), some (1, 39, 220), some (1, 40, 220), some (1, 41, 220), some (1, 42, 220), some (1, 43, 220), some (0, 5, 0), some (1, 18, 228), some (1, 19, 228), some (1, 20, 228), some (1, 21, 228), some (1, 22, 228), some (1, 23, 228), some (1, 24, 228), some (1, 25, 228), some (1, 26, 228), some (0, 4, 0), some (1, 10, 238)], [some (1, 11, 238), some (1, 12, 238), some (1, 13, 238), some (1, 14, 238), some (1, 15, 238), some (1, 16, 238), some (1, 17, 238), some (0, 6, 0), some (1, 27, 247), some (1, 28, 247), some (1, 29, 247), some (0, 3, 0), some (1, 6, 251), some (1, 7, 251), some (1, 8, 251), some (1, 9, 251), some (0, 8, 0), some (1, 31, 256), some (1, 32, 256), some (1, 33, 256), some (1, 34, 256), some (1, 35, 256), some (1, 36, 256), some (2, 0, 201)], [some (0, 8, 0), some (1, 31, 264), some (1, 32, 264), some (1, 33, 264), some (1, 34, 264), some (1, 35, 264), some (1, 36, 264), some (0, 8, 0), some (1, 31, 271), some (1, 32, 271), some (1, 33, 271), some (1, 34, 271), some (1, 35, 271), some (1, 36, 271), some (0, 8, 0), some (1, 31, 278), some (1, 32, 278), some (1, 33, 278), some (1, 34, 278), some (1, 35, 278), some (1, 36, 278), some (0, 8, 0), some (1, 31, 285), some (1, 32, 285)], [some (1, 33, 285), some (1, 34, 285), some (1, 35, 285), some (1, 36, 285), some (0, 1, 0), some (0, 7, 0), some (1, 30, 293), some (0, 10, 0), some (1, 45, 295), some (1, 46, 295), some (1, 47, 295), some (1, 48, 295), some (1, 49, 295), some (1, 50, 295), some (1, 51, 295), some (1, 52, 295), some (1, 53, 295), some (1, 54, 295), some (1, 55, 295), some (1, 56, 295), some (0, 2, 0), some (1, 4, 308), some (1, 5, 308), some (0, 9, 0)], [some (1, 44, 311), some (1, 38, 311), some (1, 39, 311), some (1, 40, 311), some (1, 41, 311), some (1, 42, 311), some (1, 43, 311), some (0, 5, 0), some (1, 18, 319), some (1, 19, 319), some (1, 20, 319), some (1, 21, 319), some (1, 22, 319), some (1, 23, 319), some (1, 24, 319), some (1, 25, 319), some (1, 26, 319), some (0, 4, 0), some (1, 10, 329), some (1, 11, 329), some (1, 12, 329), some (1, 13, 329), some (1, 14, 329), some (1, 15, 329)], [some (1, 16, 329), some (1, 17, 329), some (0, 6, 0), some (1, 27, 338), some (1, 28, 338), some (1, 29, 338), some (0, 3, 0), some (1, 6, 342), some (1, 7, 342), some (1, 8, 342), some (1, 9, 342), some (0, 8, 0), some (1, 31, 347), some (1, 32, 347), some (1, 33, 347), some (1, 34, 347), some (1, 35, 347), some (1, 36, 347), some (2, 0, 292), some (0, 8, 0), some (1, 31, 355), some (1, 32, 355), some (1, 33, 355), some (1, 34, 355)], [some (1, 35, 355), some (1, 36, 355), some (0, 8, 0), some (1, 31, 362), some (1, 32, 362), some (1, 33, 362), some (1, 34, 362), some (1, 35, 362), some (1, 36, 362), some (0, 8, 0), some (1, 31, 369), some (1, 32, 369), some (1, 33, 369), some (1, 34, 369), some (1, 35, 369), some (1, 36, 369), some (0, 8, 0), some (1, 31, 376), some (1, 32, 376), some (1, 33, 376), some (1, 34, 376), some (1, 35, 376), some (1, 36, 376), some (0, 1, 0)], [some (0, 7, 0), some (1, 30, 384), some (0, 10, 0), some (1, 45, 386), some (1, 46, 386), some (1, 47, 386), some (1, 48, 386), some (1, 49, 386), some (1, 50, 386), some (1, 51, 386), some (1, 52, 386), some (1, 53, 386), some (1, 54, 386), some (1, 55, 386), some (1, 56, 386), some (0, 2, 0), some (1, 4, 399), some (1, 5, 399), some (0, 9, 0), some (1, 44, 402), some (1, 38, 402), some (1, 39, 402), some (1, 40, 402), some (1, 41, 402)], [some (1, 42, 402), some (1, 43, 402), some (0, 5, 0), some (1, 18, 410), some (1, 19, 410), some (1, 20, 410), some (1, 21, 410), some (1, 22, 410), some (1, 23, 410), some (1, 24, 410), some (1, 25, 410), some (1, 26, 410), some (0, 4, 0), some (1, 10, 420), some (1, 11, 420), some (1, 12, 420), some (1, 13, 420), some (1, 14, 420), some (1, 15, 420), some (1, 16, 420), some (1, 17, 420), some (0, 6, 0), some (1, 27, 429), some (1, 28, 429)], [some (1, 29, 429), some (0, 3, 0), some (1, 6, 433), some (1, 7, 433), some (1, 8, 433), some (1, 9, 433), some (0, 8, 0), some (1, 31, 438), some (1, 32, 438), some (1, 33, 438), some (1, 34, 438), some (1, 35, 438), some (1, 36, 438), some (2, 0, 383), some (0, 8, 0), some (1, 31, 446), some (1, 32, 446), some (1, 33, 446), some (1, 34, 446), some (1, 35, 446), some (1, 36, 446), some (0, 8, 0), some (1, 31, 453), some (1, 32, 453)], [some (1, 33, 453), some (1, 34, 453), some (1, 35, 453), some (1, 36, 453), some (0, 8, 0), some (1, 31, 460), some (1, 32, 460), some (1, 33, 460), some (1, 34, 460), some (1, 35, 460), some (1, 36, 460), some (0, 8, 0), some (1, 31, 467), some (1, 32, 467), some (1, 33, 467), some (1, 34, 467), some (1, 35, 467), some (1, 36, 467), some (0, 12, 0), some (1, 59, 474), some (1, 60, 474), some (1, 61, 474), some (1, 62, 474), some (1, 63, 474)], [some (1, 64, 474), some (1, 65, 474), some (1, 66, 474), some (1, 67, 474), some (1, 68, 474), some (1, 69, 474)]]
def sRoL : List (Nat × Nat × Nat × Nat × Nat) := [(0, 0, 1, 0, 2000), (0, 7, 11, 0, 4000), (0, 8, 12, 0, 360), (0, 9, 13, 0, 360), (2, 0, 1, 1, 4000), (2, 1, 2, 0, 4000), (3, 3, 1, 0, 4000), (3, 4, 2, 0, 4000), (3, 5, 3, 0, 4000), (3, 6, 4, 1, 4000), (4, 0, 1, 0, 8), (4, 5, 2, 0, 32), (4, 6, 3, 0, 32), (4, 7, 4, 0, 32), (4, 8, 5, 0, 32), (4, 9, 6, 0, 32), (4, 10, 7, 0, 32), (4, 11, 8, 0, 256), (5, 5, 1, 0, 5), (5, 6, 2, 0, 5), (5, 7, 3, 0, 5), (5, 8, 4, 0, 5), (5, 9, 5, 0, 5), (5, 10, 6, 1, 40), (5, 11, 7, 1, 960), (5, 13, 8, 0, 32), (5, 14, 9, 0, 32), (6, 0, 1, 1, 3000), (6, 2, 2, 1, 64), (6, 4, 3, 0, 64), (7, 0, 1, 1, 4096), (8, 1, 1, 0, 64), (8, 2, 2, 0, 64), (8, 3, 3, 0, 32), (8, 4, 4, 0, 64), (8, 5, 5, 0, 320), (8, 6, 6, 0, 4), (9, 1, 1, 1, 1024), (9, 2, 2, 1, 4096), (9, 3, 3, 0, 5), (9, 4, 4, 0, 5), (9, 5, 5, 0, 5), (9, 6, 6, 0, 5), (9, 7, 7, 1, 4096), (9, 12, 1, 1, 1024), (10, 0, 1, 1, 360), (10, 1, 2, 1, 360), (10, 2, 3, 1, 360), (10, 3, 4, 0, 360), (10, 4, 5, 0, 360), (10, 5, 6, 0, 360), (10, 6, 7, 1, 360), (10, 7, 8, 1, 8640), (10, 8, 9, 1, 360), (10, 9, 10, 0, 360), (10, 10, 11, 0, 360), (10, 11, 12, 0, 360), (11, 0, 1, 1, 1024), (11, 5, 4, 2, 2), (12, 0, 1, 0, 238220), (12, 1, 2, 1, 1024), (12, 7, 3, 0, 4000), (12, 8, 4, 0, 172), (12, 9, 5, 0, 4100), (12, 15, 6, 0, 12000), (12, 16, 7, 0, 4000), (12, 25, 8, 2, 4001), (12, 26, 9, 0, 2002), (12, 32, 10, 0, 360), (12, 33, 11, 0, 360)]
def sRrL : List (Nat × Nat × Nat × Nat × Nat × Nat × Nat × Nat) := [(1, 8, 62, 3, 4, 63, 7, 8), (11, 2, 2, 3, 3, 19, 91, 1), (11, 4, 3, 3, 2, 292, 91, 1)]
def sFkL : List (List (Nat × Int × Int)) := [[(3, 0, 1), (0, 0, 2000), (2, 7, 2), (2, 8, 4), (0, 0, 3), (0, (-2147483648), 2147483647), (0, (-2147483648), 2147483647), (3, 1, 11), (3, 2, 12), (3, 3, 13), (0, 0, 360)],
  [(2, 7, 1), (2, 10, 3), (2, 2, 16), (2, 9, 19), (2, 5, 27), (2, 4, 37), (2, 6, 46), (2, 3, 50), (4, 0, 62), (0, 0, 3), (0, (-2147483648), 2147483647), (0, (-2147483648), 2147483647), (0, (-2147483648), 2147483647), (0, 0, 5), (0, (-2147483648), 2147483647), (0, 0, 1), (0, (-2147483648), 2147483647), (0, 0, 1)],
  [(3, 4, 1), (3, 5, 2), (0, 0, 4000)],
  [(2, 10, (-47)), (2, 2, (-34)), (2, 8, 5), (3, 6, 1), (3, 7, 2), (3, 8, 3), (3, 9, 4), (0, (-2147483648), 2147483647), (0, 0, 2147483647), (0, 0, 4000), (0, 0, 4000), (0, (-2147483648), 2147483647), (0, (-2147483648), 2147483647), (0, (-2147483648), 2147483647), (0, (-2147483648), 2147483647), (0, 0, 1), (0, 0, 1), (0, 0, 1), (0, (-2147483648), 2147483647), (0, (-2147483648), 2147483647)],
  [(3, 10, 1), (0, 0, 8), (0, 1, 8), (0, (-2147483648), 2147483647), (0, 0, 32), (3, 11, 2), (3, 12, 3), (3, 13, 4), (3, 14, 5), (3, 15, 6), (3, 16, 7), (3, 17, 8)],
  [(2, 2, (-11)), (0, 0, 1), (0, 0, 1), (0, (-1), 359), (0, 0, 5), (3, 18, 1), (3, 19, 2), (3, 20, 3), (3, 21, 4), (3, 22, 5), (3, 23, 6), (3, 24, 7), (0, 0, 32), (3, 25, 8), (3, 26, 9)],
  [(3, 27, 1), (0, 0, 2147483647), (3, 28, 2), (0, 0, 64), (3, 29, 3), (0, 0, 64), (0, (-2147483648), 2147483647), (0, (-2147483648), 2147483647)],
  [(3, 30, 1), (0, 0, 4), (0, (-2147483648), 2147483647), (0, 256, 4096), (0, 16, 128)],
  [(5, 7, 0), (3, 31, 1), (3, 32, 2), (3, 33, 3), (3, 34, 4), (3, 35, 5), (3, 36, 6), (0, 0, 64), (0, 0, 64), (0, 0, 16), (0, 0, 64), (0, 0, 40), (0, 0, 4), (0, (-2147483648), 2147483647), (0, 0, 3), (0, (-2147483648), 2147483647), (0, (-2147483648), 2147483647), (0, 0, 1)],
  [(2, 7, (-18)), (3, 37, 1), (3, 38, 2), (3, 39, 3), (3, 40, 4), (3, 41, 5), (3, 42, 6), (3, 43, 7), (0, 0, 4096), (0, 0, 1024), (0, 0, 5), (0, 0, 1), (6, 0, 0), (0, 0, 4096), (0, 0, 4096)],
  [(3, 45, 1), (3, 46, 2), (3, 47, 3), (3, 48, 4), (3, 49, 5), (3, 50, 6), (3, 51, 7), (3, 52, 8), (3, 53, 9), (3, 54, 10), (3, 55, 11), (3, 56, 12), (0, 0, 360), (0, (-1), 359)],
  [(3, 57, 1), (0, 0, 1024), (4, 1, 2), (0, 0, 3), (4, 2, 3), (3, 58, 4), (2, 0, 5)],
  [(3, 59, 1), (3, 60, 2), (0, (-2147483648), 2147483647), (0, (-2147483648), 2147483647), (0, (-2147483648), 2147483647), (0, (-2147483648), 2147483647), (0, (-2147483648), 2147483647), (3, 61, 3), (3, 62, 4), (3, 63, 5), (0, (-2147483648), 2147483647), (0, 0, 1), (1, 0, 0), (1, 0, 0), (0, 0, 1), (3, 64, 6), (3, 65, 7), (0, (-2147483648), 2147483647), (0, (-2147483648), 2147483647), (0, (-2147483648), 2147483647), (0, (-2147483648), 2147483647), (0, (-2147483648), 2147483647), (0, (-2147483648), 2147483647), (0, 0, 1), (0, 0, 1), (3, 66, 8), (3, 67, 9), (0, (-2147483648), 2147483647), (0, (-2147483648), 2147483647), (0, (-2147483648), 2147483647), (0, (-2147483648), 2147483647), (0, 0, 1), (3, 68, 10), (3, 69, 11), (0, (-2147483648), 2147483647)]]
def sEtL : List (List (Int × Int)) := [[((-2147483648), 2147483647)],
  [((-2147483648), 2147483647)],
  [((-1), 2000)],
  [(0, 359)],
  [((-128), 127)],
  [((-2147483648), 2147483647)],
  [((-2147483648), 2147483647)],
  [((-2147483648), 2147483647)],
  [((-2147483648), 2147483647)],
  [((-128), 127)],
  [((-2147483648), 2147483647)],
  [(0, 4000)],
  [(1, 8)],
  [(256, 4096)],
  [((-1), 359)],
  [((-2147483648), 2147483647)],
  [(0, 8)],
  [((-2147483648), 2147483647)],
  [((-1), 359)],
  [(0, 32)],
  [((-2147483648), 2147483647)],
  [((-2147483648), 2147483647)],
  [(0, 8)],
  [(0, 24)],
  [((-128), 127)],
  [((-2147483648), 2147483647)],
  [((-2147483648), 2147483647)],
  [((-128), 127)],
  [((-128), 127)],
  [((-2147483648), 2147483647)],
  [((-128), 127)],
  [((-2147483648), 2147483647)],
  [((-2147483648), 2147483647)],
  [((-2147483648), 2147483647)],
  [((-2147483648), 2147483647)],
  [(0, 3), ((-2147483648), 2147483647), (0, 64), (0, 16), (0, 64), (0, 64), ((-2147483648), 2147483647), (0, 5)],
  [((-2147483648), 2147483647)],
  [((-128), 127)],
  [((-128), 127)],
  [((-2147483648), 2147483647)],
  [((-2147483648), 2147483647)],
  [((-2147483648), 2147483647)],
  [((-2147483648), 2147483647)],
  [((-128), 127)],
  [((-128), 127)],
  [((-128), 127)],
  [((-128), 127)],
  [((-128), 127)],
  [((-2147483648), 2147483647)],
  [(0, 4000)],
  [((-2147483648), 2147483647)],
  [(0, 24)],
  [((-128), 127)],
  [((-128), 127)],
  [((-2147483648), 2147483647)],
  [((-2147483648), 2147483647)],
  [((-2147483648), 2147483647)],
  [((-128), 127)],
  [(0, 1)],
  [((-2147483648), 2147483647)],
  [((-128), 127)],
  [((-2147483648), 2147483647)],
  [((-2147483648), 2147483647)],
  [((-2147483648), 2147483647)],
  [((-2147483648), 2147483647)],
  [((-2147483648), 2147483647)],
  [(0, 1)],
  [((-2147483648), 2147483647)],
  [((-2147483648), 2147483647)],
  [((-2147483648), 2147483647)]]
def sSh (k : Nat) : Option (Nat × Nat × Nat) := cond (Nat.blt k 486) (zlook 24 sShL k) none
def sRo (r : Nat) : Nat × Nat × Nat × Nat × Nat := sRoL.getD r (0, 0, 0, 0, 0)
def soff (r : Nat) : Nat := (sRo r).2.2.1
def srty (r : Nat) : Nat := (sRo r).2.2.2.1
def srln (r : Nat) : Nat := (sRo r).2.2.2.2
def sRr (t : Nat) : Nat × Nat × Nat × Nat × Nat × Nat × Nat × Nat := sRrL.getD t (0, 0, 0, 0, 0, 0, 0, 0)
def sFk (c : Nat) : List (Nat × Int × Int) := sFkL.getD c []
def setb (r i : Nat) : Int × Int := let l := sEtL.getD r []; l.getD (i % l.length) (0, 0)
/-- rows that are only read: type and length -/
def sAr (k : Nat) : Option (Nat × Nat) := match sSh k with
  | some (1, r, _) => some (srty r, srln r)
  | some _ => none
  | none => cond (Nat.beq k 1000013 || (Nat.beq k 1000014 || Nat.beq k 1000015)) (some (1, 172)) none
/-- what a field may hold -/
def sFldOk (k : Nat) (t : Nat × Int × Int) (v : Value) : Prop := match t with
  | (0, lo, hi) => ∃ x : Int32, v = .int x ∧ lo ≤ x.toInt ∧ x.toInt ≤ hi
  | (1, _, _) => ∃ x : Int64, v = .long x
  | (2, c, d) => ∃ q : Nat, v = .ref q ∧ (q : Int) = k + d ∧ sSh q = some (0, c.toNat, 0)
  | (3, r, d) => ∃ q : Nat, v = .ref q ∧ (q : Int) = k + d ∧ sSh q = some (1, r.toNat, k)
  | (4, t, d) => ∃ q : Nat, v = .ref q ∧ (q : Int) = k + d ∧ sSh q = some (2, t.toNat, k)
  | (5, c, _) => ∃ q : Nat, v = .ref q ∧ sSh q = some (0, c.toNat, 0)
  | (6, _, _) => ∃ q n : Nat, v = .ref q ∧ sAr q = some (1, n)
  | _ => False
def sRowOk (r : Nat) (f : Nat → Int32) : Prop := ∀ i, i < srln r → (setb r i).1 ≤ (f i).toInt ∧ (f i).toInt ≤ (setb r i).2
def sMem (M : zM) : Prop := M.1 = 486 ∧
  (∀ k c, sSh k = some (0, c, 0) → ∃ fs, M.2.2 k = .inr (c, fs) ∧ fs.length = (sFk c).length ∧ ∀ j, j < (sFk c).length → sFldOk k ((sFk c).getD j (9, 0, 0)) (fs.getD j .null)) ∧
  (∀ k r o, sSh k = some (1, r, o) → ∃ f, M.2.2 k = .inl (srty r, srln r, .inl f) ∧ sRowOk r f) ∧
  (∀ k t o, sSh k = some (2, t, o) → ∃ f, M.2.2 k = .inl ((sRr t).2.2.2.1, (sRr t).2.2.2.2.1, .inr (.inr (.inr (.inr f)))) ∧ ∀ i, i < (sRr t).2.2.2.2.1 → f i = some (o + (sRr t).2.2.2.2.2.1 + (sRr t).2.2.2.2.2.2.1 * i))
theorem sSh_lt {k : Nat} {x : Nat × Nat × Nat} (h : sSh k = some x) : k < 486 := by
  unfold sSh at h
  cases hq : Nat.blt k 486 with
  | true => exact Nat.le_of_ble_eq_true hq
  | false => rw [hq] at h; cases h
/-- a fact of the shape, by going through all numbers -/
theorem sSh_all {p : Nat → Nat × Nat × Nat → Bool} (h : ((List.range 486).all fun k => match sSh k with
    | some x => p k x
    | none => true) = true) {k : Nat} {x : Nat × Nat × Nat} (hk : sSh k = some x) : p k x = true := by
  have := List.all_eq_true.mp h k (List.mem_range.mpr (sSh_lt hk))
  rw [hk] at this
  exact this
theorem sSh_row {k r o : Nat} (h : sSh k = some (1, r, o)) : k = o + soff r ∧ sSh o = some (0, (sRo r).1, 0) ∧ r < 70 := by
  have e := sSh_all (p := fun k x => match x with
    | (1, r, o) => Nat.beq k (o + soff r) && (Nat.blt r 70 && (match sSh o with
      | some (0, c, 0) => Nat.beq c (sRo r).1
      | _ => false))
    | _ => true) (by decide +kernel) h
  simp only [Bool.and_eq_true] at e
  obtain ⟨e1, e2, e3⟩ := e
  refine ⟨Nat.eq_of_beq_eq_true e1, ?_, Nat.le_of_ble_eq_true e2⟩
  split at e3
  · rename_i c hc
    rw [hc, Nat.eq_of_beq_eq_true e3]
  · cases e3
theorem sSh_rr {k t o : Nat} (h : sSh k = some (2, t, o)) : (∀ i, i < (sRr t).2.2.2.2.1 → sSh (o + (sRr t).2.2.2.2.2.1 + (sRr t).2.2.2.2.2.2.1 * i) = some (0, (sRr t).2.2.2.2.2.2.2, 0)) ∧ 3 ≤ (sRr t).2.2.2.1 := by
  have e := sSh_all (p := fun k x => match x with
    | (2, t, o) => ((List.range (sRr t).2.2.2.2.1).all fun i => match sSh (o + (sRr t).2.2.2.2.2.1 + (sRr t).2.2.2.2.2.2.1 * i) with
      | some (0, c, 0) => Nat.beq c (sRr t).2.2.2.2.2.2.2
      | _ => false) && Nat.ble 3 (sRr t).2.2.2.1
    | _ => true) (by decide +kernel) h
  simp only [Bool.and_eq_true] at e
  refine ⟨fun i hi => ?_, Nat.le_of_ble_eq_true e.2⟩
  have e2 := List.all_eq_true.mp e.1 i (List.mem_range.mpr hi)
  split at e2
  · rename_i c hc
    rw [hc, Nat.eq_of_beq_eq_true e2]
  · cases e2
/-- a field of an object; a number of a row, by its role and owner -/
def sgf (M : zM) (k j : Nat) : Value := match M.2.2 k with
  | .inr (_, fs) => fs.getD j .null
  | _ => .null
def sgr (M : zM) (r o i : Nat) : Int32 := match M.2.2 (o + soff r) with
  | .inl (_, _, .inl f) => f i
  | _ => 0
/-! values: (tag, what, expression): 0 int, 1 long, 2 null, 3 object (sort, number), 4 row (role, owner), 5 row that is only read (type, length), 6 text constant, 7 what lcmp left, 8 row of references (kind, owner), 9 anything -/
abbrev sV : Type := Nat × Nat × sE
def sValE (z : Int) (v : Value) (t q : Nat) : Prop := match t with
  | 0 => ∃ x : Int32, v = .int x ∧ x.toInt = z
  | 1 => ∃ x : Int64, v = .long x ∧ x.toInt = z
  | 2 => v = .null
  | 3 => ∃ k : Nat, v = .ref k ∧ (k : Int) = z ∧ sSh k = some (0, q, 0)
  | 4 => ∃ k o : Nat, v = .ref k ∧ (o : Int) = z ∧ sSh k = some (1, q, o)
  | 5 => ∃ k n : Nat, v = .ref k ∧ (n : Int) = z ∧ sAr k = some (q, n)
  | 6 => v = .ref (1000000 + q) ∧ q < 13
  | 7 => ∃ x : Int32, v = .int x ∧ ((x.toInt = -1 ∧ z < 0) ∨ (x.toInt = 0 ∧ z = 0) ∨ (x.toInt = 1 ∧ 0 < z))
  | 8 => ∃ k o : Nat, v = .ref k ∧ (o : Int) = z ∧ sSh k = some (2, q, o)
  | _ => True
def sVal (ρ : Nat → Int) (v : Value) (a : sV) : Prop := sValE (se ρ a.2.2) v a.1 a.2.1
/-- facts: (kind, sort or role, field, owner, index, value) -/
abbrev sF : Type := Nat × Nat × Nat × sE × sE × sV
def sFacE (zo zi zv : Int) (M : zM) (d c j t q : Nat) : Prop := match d with
  | 0 => ∀ k : Nat, (k : Int) = zo → sSh k = some (0, c, 0) → sValE zv (sgf M k j) t q
  | _ => ∀ k i : Nat, (k : Int) = zo → (i : Int) = zi → sSh (k + soff c) = some (1, c, k) → i < srln c → sValE zv (.int (sgr M c k i)) t q
def sFac (ρ : Nat → Int) (M : zM) (f : sF) : Prop := sFacE (se ρ f.2.2.2.1) (se ρ f.2.2.2.2.1) (se ρ f.2.2.2.2.2.2.2) M f.1 f.2.1 f.2.2.1 f.2.2.2.2.2.1 f.2.2.2.2.2.2.1
/-- definitions: an operation, what it was given, the symbol of what it answered -/
abbrev sD : Type := Instr × sE × sE × Nat
def sDokE (za zb zr : Int) (i : Instr) : Prop :=
  (∀ f, zbI i = some f → ∃ r : Int32, f (Int32.ofInt za) (Int32.ofInt zb) = some r ∧ r.toInt = zr) ∧
  (∀ f, zbL i = some f → ∃ r : Int64, f (Int64.ofInt za) (Int64.ofInt zb) = some r ∧ r.toInt = zr) ∧
  (∀ f, zsL i = some f → (f (Int64.ofInt za) (Int32.ofInt zb)).toInt = zr)
def sDok (ρ : Nat → Int) (d : sD) : Prop := sDokE (se ρ d.2.1) (se ρ d.2.2.1) (ρ d.2.2.2) d.1
/-- opaque predicates: number, expressions -/
abbrev sQ : Type := Nat × List sE
/-- a state: bounds and assumptions, definitions, facts, predicates, locals, stack -/
abbrev sA : Type := sK × List sD × List sF × List sQ × List (Nat × sV) × List sV
def sStk (ρ : Nat → Int) : List Value → List sV → Prop
  | [], [] => True
  | v :: st, a :: T => sVal ρ v a ∧ sStk ρ st T
  | _, _ => False
def sgl (L : List (Nat × sV)) (i : Nat) : Option sV := match L with
  | [] => none
  | p :: l => cond (Nat.beq p.1 i) (some p.2) (sgl l i)
def sLoc (ρ : Nat → Int) (ls : zL) (L : List (Nat × sV)) : Prop := ∀ p ∈ L, ∃ v, zget ls p.1 = some v ∧ sVal ρ v p.2
/-! well formed: only symbols that there are -/
def swE (n : Nat) (e : sE) : Prop := swf n e.2
def swV (n : Nat) (a : sV) : Prop := swE n a.2.2
def swF (n : Nat) (f : sF) : Prop := swE n f.2.2.2.1 ∧ swE n f.2.2.2.2.1 ∧ swV n f.2.2.2.2.2
def swD (n : Nat) (d : sD) : Prop := swE n d.2.1 ∧ swE n d.2.2.1 ∧ d.2.2.2 < n
def swA (A : sA) : Prop := (∀ p ∈ A.1.2, swE A.1.1.length p) ∧ (∀ d ∈ A.2.1, swD A.1.1.length d) ∧ (∀ f ∈ A.2.2.1, swF A.1.1.length f) ∧ (∀ q ∈ A.2.2.2.1, ∀ e ∈ q.2, swE A.1.1.length e) ∧ (∀ p ∈ A.2.2.2.2.1, swV A.1.1.length p.2) ∧ (∀ a ∈ A.2.2.2.2.2, swV A.1.1.length a)
/-- Qs: what the opaque predicates say -/
def sR (Qs : Nat → List Int → zM → Prop) (ρ : Nat → Int) (A : sA) (ls : zL) (st : List Value) (M : zM) : Prop :=
  skok ρ A.1 ∧ (∀ d ∈ A.2.1, sDok ρ d) ∧ (∀ f ∈ A.2.2.1, sFac ρ M f) ∧ (∀ q ∈ A.2.2.2.1, Qs q.1 (q.2.map (se ρ)) M) ∧ sLoc ρ ls A.2.2.2.2.1 ∧ sStk ρ st A.2.2.2.2.2 ∧ sMem M ∧ swA A
