/-! ===== the world behind the constructors ===== -/
def kd0 : List (Nat × Nat) := [(10, 10), (1, 5), (13, 4), (13, 4), (13, 4), (13, 4), (3, 5), (16, 5), (13, 20), (13, 20), (13, 20), (2, 9), (2, 9), (2, 9), (2, 9), (2, 9), (6, 13), (13, 6), (13, 6), (13, 6), (13, 24), (13, 24), (13, 24), (15, 24), (15, 192), (13, 192), (13, 768), (13, 768), (13, 768), (13, 768), (7, 2), (13, 200), (9, 8), (13, 20), (13, 20), (13, 20), (13, 20), (13, 20), (13, 120), (13, 120), (4, 8), (13, 5), (0, 10), (13, 192), (13, 192), (13, 192), (13, 192), (13, 192), (13, 192), (13, 192), (5, 12), (13, 192), (13, 192), (13, 192), (13, 5), (8, 6), (13, 3500), (11, 62), (13, 5), (13, 5), (13, 5), (13, 5), (13, 5), (13, 5), (13, 5), (13, 5), (13, 20), (13, 20), (13, 20), (13, 6), (13, 6), (13, 6), (13, 24), (13, 24), (13, 24), (15, 24), (15, 192), (13, 768), (13, 768), (13, 768), (13, 768), (13, 192), (13, 4), (13, 4), (13, 4), (13, 4), (12, 200), (13, 20), (13, 20), (13, 20), (13, 120), (13, 120), (14, 20), (13, 5), (13, 192), (13, 192), (15, 3840), (13, 192), (13, 192), (13, 192), (13, 192), (13, 192), (13, 192), (13, 1536), (13, 60000)]
def rhoL : List (List (Option Nat)) := [[some 1, some 6, some 16, some 30, some 32, some 40, some 42, some 50, some 55], [some 2, some 3, some 4, some 5], [], [], [], [], [some 7, none, some 8, some 9, some 10], [some 11, some 12, some 13, some 14, some 15], [], [], [], [], [], [], [], [], [some 17, some 18, some 19, some 20, some 21, some 22, some 23, some 24, some 25, some 26, some 27, some 28, some 29], [], [], [], [], [], [], [], [], [], [], [], [], [], [some 31], [], [some 33, some 34, some 35, some 36, some 37, some 38, some 39], [], [], [], [], [], [], [], [some 32, some 16, some 41], [], [some 43, some 44, some 45, some 46, some 47, none, none, some 48, some 49], [], [], [], [], [], [], [], [some 51, none, some 1, some 6, some 16, some 32, some 42, some 52, some 53, none, some 54], [], [], [], [], [some 56, none, some 16, some 32, some 51], [], [none, none, some 58, some 59, some 60, some 61, some 62, some 63, some 64, some 65, none, some 66, some 67, some 68, some 69, some 70, some 71, some 72, some 73, some 74, some 75, some 76, some 77, some 78, some 79, some 80, some 81, some 82, some 83, some 84, some 85, some 86, none, none, none, none, some 87, some 88, some 89, some 90, some 91, some 92, some 93, none, some 94, some 95, some 96, none, some 97, none, none, none, some 98, some 99, some 100, some 101, some 102, some 103, none, none, none, some 104], [], [], [], [], [], [], [], [], [], [], [], [], [], [], [], [], [], [], [], [], [], [], [], [], [], [], [], [], [], [], [], [], [], [], [], [], [], [], [], [], [], [], [], [], [], [], []]
def rho0 (k i : Nat) : Option Nat := (rhoL.getD k []).getD i none
abbrev stt (σ : Nat → Nat → Int32) (τ : Nat → Nat → Int64) : Sto := (kd0, σ, τ, rho0)
theorem rh_each {j : Nat} (h : j < 5) : rho0 7 j = some (11 + j) := by
  rcases (show j = 0 ∨ j = 1 ∨ j = 2 ∨ j = 3 ∨ j = 4 by omega) with rfl | rfl | rfl | rfl | rfl <;> rfl
theorem kd_help {j : Nat} (h : j < 5) : kd0[11 + j]? = some (2, 9) := by
  rcases (show j = 0 ∨ j = 1 ∨ j = 2 ∨ j = 3 ∨ j = 4 by omega) with rfl | rfl | rfl | rfl | rfl <;> rfl
theorem nl_0 : (0 : Int32) = nI 0 := rfl
theorem nl_1 : (1 : Int32) = nI 1 := rfl
theorem nl_2 : (2 : Int32) = nI 2 := rfl
theorem nl_3 : (3 : Int32) = nI 3 := rfl
theorem nl_4 : (4 : Int32) = nI 4 := rfl
theorem nl_5 : (5 : Int32) = nI 5 := rfl
theorem nl_6 : (6 : Int32) = nI 6 := rfl
theorem nl_8 : (8 : Int32) = nI 8 := rfl
theorem nl_10 : (10 : Int32) = nI 10 := rfl
theorem nl_20 : (20 : Int32) = nI 20 := rfl
theorem nl_31 : (31 : Int32) = nI 31 := rfl
theorem nl_32 : (32 : Int32) = nI 32 := rfl
theorem nl_192 : (192 : Int32) = nI 192 := rfl
