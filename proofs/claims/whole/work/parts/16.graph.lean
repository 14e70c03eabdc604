/-! THE CELLS BEHIND BOTH CONSTRUCTORS, and how they are read -/
def zG : List ZG := [
  .inl (10, [some (some 1), some (some 26), some (some 51), some (some 53), some (some 67), some (some 70), some (some 74), some (some 77), some (some 78), none]),
  .inl (6, [some (some 2), some (some 10), some (some 14), some (some 18), some (some 22), some (some 24), none]),
  .inl (2, [some (some 3), some (some 4), some (some 5), some (some 6), some (some 7), some (some 8), some (some 9), none, none, none]),
  .inr (.inl 64),
  .inr (.inl 64),
  .inr (.inl 2),
  .inr (.inl 2),
  .inr (.inl 2),
  .inr (.inl 2),
  .inr (.inl 20),
  .inl (0, [some (some 11), some (some 12), some (some 13), none]),
  .inr (.inl 8),
  .inr (.inl 8),
  .inr (.inl 8),
  .inl (3, [some (some 15), some (some 17)]),
  .inl (5, [some (some 16), none]),
  .inr (.inl 50),
  .inr (.inl 50),
  .inl (3, [some (some 19), some (some 21)]),
  .inl (5, [some (some 20), none]),
  .inr (.inl 50),
  .inr (.inl 50),
  .inl (5, [some (some 23), none]),
  .inr (.inl 50),
  .inl (5, [some (some 25), none]),
  .inr (.inl 20),
  .inl (6, [some (some 27), some (some 35), some (some 39), some (some 43), some (some 47), some (some 49), none]),
  .inl (2, [some (some 28), some (some 29), some (some 30), some (some 31), some (some 32), some (some 33), some (some 34), none, none, none]),
  .inr (.inl 64),
  .inr (.inl 64),
  .inr (.inl 2),
  .inr (.inl 2),
  .inr (.inl 2),
  .inr (.inl 2),
  .inr (.inl 20),
  .inl (0, [some (some 36), some (some 37), some (some 38), none]),
  .inr (.inl 8),
  .inr (.inl 8),
  .inr (.inl 8),
  .inl (3, [some (some 40), some (some 42)]),
  .inl (5, [some (some 41), none]),
  .inr (.inl 50),
  .inr (.inl 50),
  .inl (3, [some (some 44), some (some 46)]),
  .inl (5, [some (some 45), none]),
  .inr (.inl 50),
  .inr (.inl 50),
  .inl (5, [some (some 48), none]),
  .inr (.inl 50),
  .inl (5, [some (some 50), none]),
  .inr (.inl 20),
  .inl (1, [some (some 2), some (some 10), some (some 14), some (some 18), some (some 52), none, none, none, none, none]),
  .inr (.inl 4),
  .inl (1, [some (some 54), some (some 62), some (some 14), some (some 18), some (some 66), none, none, none, none, none]),
  .inl (2, [some (some 55), some (some 56), some (some 57), some (some 58), some (some 59), some (some 60), some (some 61), none, none, none]),
  .inr (.inl 64),
  .inr (.inl 64),
  .inr (.inl 2),
  .inr (.inl 2),
  .inr (.inl 2),
  .inr (.inl 2),
  .inr (.inl 20),
  .inl (0, [some (some 63), some (some 64), some (some 65), none]),
  .inr (.inl 8),
  .inr (.inl 8),
  .inr (.inl 8),
  .inr (.inl 4),
  .inl (4, [some (some 68), some (some 22), none, none, none]),
  .inl (5, [some (some 69), none]),
  .inr (.inl 50),
  .inl (9, [some (some 2), some (some 71), some (some 72), some (some 73)]),
  .inr (.inl 64),
  .inr (.inl 64),
  .inr (.inl 64),
  .inl (8, [some (some 75), none, none, none]),
  .inl (5, [some (some 76), none]),
  .inr (.inl 40),
  .inr (.inr (4, (va_up (va_up (va_up (va_up (fun _ => none) 0 (some 79)) 1 (some 81)) 2 (some 83)) 3 (some 85)))),
  .inr (.inl 6),
  .inl (7, [some (some 80), none, none]),
  .inr (.inl 40),
  .inl (7, [some (some 82), none, none]),
  .inr (.inl 40),
  .inl (7, [some (some 84), none, none]),
  .inr (.inl 40),
  .inl (7, [some (some 86), none, none]),
  .inr (.inl 40),
  .inl (11, [some (some 88), some (some 89), some (some 90), none, some (some 91), none, none, none, none, none, none, some (some 92), some (some 93), none, some (some 94), none, some (some 95), some (some 96), some (some 97), none, none, some (some 98), some (some 99), some (some 100), some (some 101)]),
  .inr (.inl 358),
  .inr (.inl 358),
  .inr (.inl 186),
  .inr (.inl 6),
  .inr (.inl 3),
  .inr (.inl 60),
  .inr (.inl 60),
  .inr (.inl 64),
  .inr (.inl 64),
  .inr (.inl 40),
  .inr (.inl 4),
  .inr (.inl 4),
  .inr (.inl 160),
  .inr (.inl 40)]
section
variable {E : ZE} {M : Nat → Nat → Int} {r : List ZV} {kk : List ZV → Prop} {kh : List ZV → ZH → Prop} {i z : Int}
theorem v_0 : zrecv (zG, M) (.inr (.inr (.inl 0)) :: r) 10 = True := by show (10 = 10) = True; simp
theorem g_0_0 : zgf (zG, M) 10 0 (.inr (.inr (.inl 0)) :: r) kk = kk (.inr (.inr (.inl 1)) :: r) := by show (10 = 10 ∧ _) = _; simp
theorem g_0_1 : zgf (zG, M) 10 1 (.inr (.inr (.inl 0)) :: r) kk = kk (.inr (.inr (.inl 26)) :: r) := by show (10 = 10 ∧ _) = _; simp
theorem g_0_2 : zgf (zG, M) 10 2 (.inr (.inr (.inl 0)) :: r) kk = kk (.inr (.inr (.inl 51)) :: r) := by show (10 = 10 ∧ _) = _; simp
theorem g_0_3 : zgf (zG, M) 10 3 (.inr (.inr (.inl 0)) :: r) kk = kk (.inr (.inr (.inl 53)) :: r) := by show (10 = 10 ∧ _) = _; simp
theorem g_0_4 : zgf (zG, M) 10 4 (.inr (.inr (.inl 0)) :: r) kk = kk (.inr (.inr (.inl 67)) :: r) := by show (10 = 10 ∧ _) = _; simp
theorem g_0_5 : zgf (zG, M) 10 5 (.inr (.inr (.inl 0)) :: r) kk = kk (.inr (.inr (.inl 70)) :: r) := by show (10 = 10 ∧ _) = _; simp
theorem g_0_6 : zgf (zG, M) 10 6 (.inr (.inr (.inl 0)) :: r) kk = kk (.inr (.inr (.inl 74)) :: r) := by show (10 = 10 ∧ _) = _; simp
theorem g_0_7 : zgf (zG, M) 10 7 (.inr (.inr (.inl 0)) :: r) kk = kk (.inr (.inr (.inl 77)) :: r) := by show (10 = 10 ∧ _) = _; simp
theorem g_0_8 : zgf (zG, M) 10 8 (.inr (.inr (.inl 0)) :: r) kk = kk (.inr (.inr (.inl 78)) :: r) := by show (10 = 10 ∧ _) = _; simp
theorem g_0_9 : zgf (zG, M) 10 9 (.inr (.inr (.inl 0)) :: r) kk = kk (.inl (M 0 9) :: r) := by show (10 = 10 ∧ _) = _; simp
theorem p_0_9 : zpf (zG, M) 10 9 0 (.inl z :: .inr (.inr (.inl 0)) :: r) kh = kh r (zG, zup M 0 9 z) := by show (10 = 10 ∧ ((0 : Int) = 0 ∨ _) ∧ _) = _; simp
theorem v_1 : zrecv (zG, M) (.inr (.inr (.inl 1)) :: r) 6 = True := by show (6 = 6) = True; simp
theorem g_1_0 : zgf (zG, M) 6 0 (.inr (.inr (.inl 1)) :: r) kk = kk (.inr (.inr (.inl 2)) :: r) := by show (6 = 6 ∧ _) = _; simp
theorem g_1_1 : zgf (zG, M) 6 1 (.inr (.inr (.inl 1)) :: r) kk = kk (.inr (.inr (.inl 10)) :: r) := by show (6 = 6 ∧ _) = _; simp
theorem g_1_2 : zgf (zG, M) 6 2 (.inr (.inr (.inl 1)) :: r) kk = kk (.inr (.inr (.inl 14)) :: r) := by show (6 = 6 ∧ _) = _; simp
theorem g_1_3 : zgf (zG, M) 6 3 (.inr (.inr (.inl 1)) :: r) kk = kk (.inr (.inr (.inl 18)) :: r) := by show (6 = 6 ∧ _) = _; simp
theorem g_1_4 : zgf (zG, M) 6 4 (.inr (.inr (.inl 1)) :: r) kk = kk (.inr (.inr (.inl 22)) :: r) := by show (6 = 6 ∧ _) = _; simp
theorem g_1_5 : zgf (zG, M) 6 5 (.inr (.inr (.inl 1)) :: r) kk = kk (.inr (.inr (.inl 24)) :: r) := by show (6 = 6 ∧ _) = _; simp
theorem g_1_6 : zgf (zG, M) 6 6 (.inr (.inr (.inl 1)) :: r) kk = kk (.inl (M 1 6) :: r) := by show (6 = 6 ∧ _) = _; simp
theorem p_1_6 : zpf (zG, M) 6 6 0 (.inl z :: .inr (.inr (.inl 1)) :: r) kh = kh r (zG, zup M 1 6 z) := by show (6 = 6 ∧ ((0 : Int) = 0 ∨ _) ∧ _) = _; simp
theorem v_2 : zrecv (zG, M) (.inr (.inr (.inl 2)) :: r) 2 = True := by show (2 = 2) = True; simp
theorem g_2_0 : zgf (zG, M) 2 0 (.inr (.inr (.inl 2)) :: r) kk = kk (.inr (.inr (.inl 3)) :: r) := by show (2 = 2 ∧ _) = _; simp
theorem g_2_1 : zgf (zG, M) 2 1 (.inr (.inr (.inl 2)) :: r) kk = kk (.inr (.inr (.inl 4)) :: r) := by show (2 = 2 ∧ _) = _; simp
theorem g_2_2 : zgf (zG, M) 2 2 (.inr (.inr (.inl 2)) :: r) kk = kk (.inr (.inr (.inl 5)) :: r) := by show (2 = 2 ∧ _) = _; simp
theorem g_2_3 : zgf (zG, M) 2 3 (.inr (.inr (.inl 2)) :: r) kk = kk (.inr (.inr (.inl 6)) :: r) := by show (2 = 2 ∧ _) = _; simp
theorem g_2_4 : zgf (zG, M) 2 4 (.inr (.inr (.inl 2)) :: r) kk = kk (.inr (.inr (.inl 7)) :: r) := by show (2 = 2 ∧ _) = _; simp
theorem g_2_5 : zgf (zG, M) 2 5 (.inr (.inr (.inl 2)) :: r) kk = kk (.inr (.inr (.inl 8)) :: r) := by show (2 = 2 ∧ _) = _; simp
theorem g_2_6 : zgf (zG, M) 2 6 (.inr (.inr (.inl 2)) :: r) kk = kk (.inr (.inr (.inl 9)) :: r) := by show (2 = 2 ∧ _) = _; simp
theorem g_2_7 : zgf (zG, M) 2 7 (.inr (.inr (.inl 2)) :: r) kk = kk (.inl (M 2 7) :: r) := by show (2 = 2 ∧ _) = _; simp
theorem p_2_7 : zpf (zG, M) 2 7 0 (.inl z :: .inr (.inr (.inl 2)) :: r) kh = kh r (zG, zup M 2 7 z) := by show (2 = 2 ∧ ((0 : Int) = 0 ∨ _) ∧ _) = _; simp
theorem g_2_8 : zgf (zG, M) 2 8 (.inr (.inr (.inl 2)) :: r) kk = kk (.inl (M 2 8) :: r) := by show (2 = 2 ∧ _) = _; simp
theorem p_2_8 : zpf (zG, M) 2 8 0 (.inl z :: .inr (.inr (.inl 2)) :: r) kh = kh r (zG, zup M 2 8 z) := by show (2 = 2 ∧ ((0 : Int) = 0 ∨ _) ∧ _) = _; simp
theorem g_2_9 : zgf (zG, M) 2 9 (.inr (.inr (.inl 2)) :: r) kk = kk (.inl (M 2 9) :: r) := by show (2 = 2 ∧ _) = _; simp
theorem p_2_9 : zpf (zG, M) 2 9 0 (.inl z :: .inr (.inr (.inl 2)) :: r) kh = kh r (zG, zup M 2 9 z) := by show (2 = 2 ∧ ((0 : Int) = 0 ∨ _) ∧ _) = _; simp
theorem l_3 : zal E (zG, M) false (.inl i :: .inr (.inr (.inl 3)) :: r) kk = (0 ≤ zr i ∧ zr i < 64 ∧ kk (.inl (M 3 (zr i).toNat) :: r)) := by show (false = false ∧ _) = _; simp only [true_and]; rfl
theorem s_3 : zas (zG, M) (.inl z :: .inl i :: .inr (.inr (.inl 3)) :: r) kh = (0 ≤ zr i ∧ zr i < 64 ∧ kh r (zG, zup M 3 (zr i).toNat z)) := rfl
theorem n_3 : zlen E (zG, M) (.inr (.inr (.inl 3)) :: r) kk = kk (.inl 64 :: r) := rfl
theorem l_4 : zal E (zG, M) false (.inl i :: .inr (.inr (.inl 4)) :: r) kk = (0 ≤ zr i ∧ zr i < 64 ∧ kk (.inl (M 4 (zr i).toNat) :: r)) := by show (false = false ∧ _) = _; simp only [true_and]; rfl
theorem s_4 : zas (zG, M) (.inl z :: .inl i :: .inr (.inr (.inl 4)) :: r) kh = (0 ≤ zr i ∧ zr i < 64 ∧ kh r (zG, zup M 4 (zr i).toNat z)) := rfl
theorem n_4 : zlen E (zG, M) (.inr (.inr (.inl 4)) :: r) kk = kk (.inl 64 :: r) := rfl
theorem l_5 : zal E (zG, M) false (.inl i :: .inr (.inr (.inl 5)) :: r) kk = (0 ≤ zr i ∧ zr i < 2 ∧ kk (.inl (M 5 (zr i).toNat) :: r)) := by show (false = false ∧ _) = _; simp only [true_and]; rfl
theorem s_5 : zas (zG, M) (.inl z :: .inl i :: .inr (.inr (.inl 5)) :: r) kh = (0 ≤ zr i ∧ zr i < 2 ∧ kh r (zG, zup M 5 (zr i).toNat z)) := rfl
theorem n_5 : zlen E (zG, M) (.inr (.inr (.inl 5)) :: r) kk = kk (.inl 2 :: r) := rfl
theorem l_6 : zal E (zG, M) false (.inl i :: .inr (.inr (.inl 6)) :: r) kk = (0 ≤ zr i ∧ zr i < 2 ∧ kk (.inl (M 6 (zr i).toNat) :: r)) := by show (false = false ∧ _) = _; simp only [true_and]; rfl
theorem s_6 : zas (zG, M) (.inl z :: .inl i :: .inr (.inr (.inl 6)) :: r) kh = (0 ≤ zr i ∧ zr i < 2 ∧ kh r (zG, zup M 6 (zr i).toNat z)) := rfl
theorem n_6 : zlen E (zG, M) (.inr (.inr (.inl 6)) :: r) kk = kk (.inl 2 :: r) := rfl
theorem l_7 : zal E (zG, M) false (.inl i :: .inr (.inr (.inl 7)) :: r) kk = (0 ≤ zr i ∧ zr i < 2 ∧ kk (.inl (M 7 (zr i).toNat) :: r)) := by show (false = false ∧ _) = _; simp only [true_and]; rfl
theorem s_7 : zas (zG, M) (.inl z :: .inl i :: .inr (.inr (.inl 7)) :: r) kh = (0 ≤ zr i ∧ zr i < 2 ∧ kh r (zG, zup M 7 (zr i).toNat z)) := rfl
theorem n_7 : zlen E (zG, M) (.inr (.inr (.inl 7)) :: r) kk = kk (.inl 2 :: r) := rfl
theorem l_8 : zal E (zG, M) false (.inl i :: .inr (.inr (.inl 8)) :: r) kk = (0 ≤ zr i ∧ zr i < 2 ∧ kk (.inl (M 8 (zr i).toNat) :: r)) := by show (false = false ∧ _) = _; simp only [true_and]; rfl
theorem s_8 : zas (zG, M) (.inl z :: .inl i :: .inr (.inr (.inl 8)) :: r) kh = (0 ≤ zr i ∧ zr i < 2 ∧ kh r (zG, zup M 8 (zr i).toNat z)) := rfl
theorem n_8 : zlen E (zG, M) (.inr (.inr (.inl 8)) :: r) kk = kk (.inl 2 :: r) := rfl
theorem l_9 : zal E (zG, M) false (.inl i :: .inr (.inr (.inl 9)) :: r) kk = (0 ≤ zr i ∧ zr i < 20 ∧ kk (.inl (M 9 (zr i).toNat) :: r)) := by show (false = false ∧ _) = _; simp only [true_and]; rfl
theorem s_9 : zas (zG, M) (.inl z :: .inl i :: .inr (.inr (.inl 9)) :: r) kh = (0 ≤ zr i ∧ zr i < 20 ∧ kh r (zG, zup M 9 (zr i).toNat z)) := rfl
theorem n_9 : zlen E (zG, M) (.inr (.inr (.inl 9)) :: r) kk = kk (.inl 20 :: r) := rfl
theorem v_10 : zrecv (zG, M) (.inr (.inr (.inl 10)) :: r) 0 = True := by show (0 = 0) = True; simp
theorem g_10_0 : zgf (zG, M) 0 0 (.inr (.inr (.inl 10)) :: r) kk = kk (.inr (.inr (.inl 11)) :: r) := by show (0 = 0 ∧ _) = _; simp
theorem g_10_1 : zgf (zG, M) 0 1 (.inr (.inr (.inl 10)) :: r) kk = kk (.inr (.inr (.inl 12)) :: r) := by show (0 = 0 ∧ _) = _; simp
theorem g_10_2 : zgf (zG, M) 0 2 (.inr (.inr (.inl 10)) :: r) kk = kk (.inr (.inr (.inl 13)) :: r) := by show (0 = 0 ∧ _) = _; simp
theorem g_10_3 : zgf (zG, M) 0 3 (.inr (.inr (.inl 10)) :: r) kk = kk (.inl (M 10 3) :: r) := by show (0 = 0 ∧ _) = _; simp
theorem p_10_3 : zpf (zG, M) 0 3 0 (.inl z :: .inr (.inr (.inl 10)) :: r) kh = kh r (zG, zup M 10 3 z) := by show (0 = 0 ∧ ((0 : Int) = 0 ∨ _) ∧ _) = _; simp
theorem l_11 : zal E (zG, M) false (.inl i :: .inr (.inr (.inl 11)) :: r) kk = (0 ≤ zr i ∧ zr i < 8 ∧ kk (.inl (M 11 (zr i).toNat) :: r)) := by show (false = false ∧ _) = _; simp only [true_and]; rfl
theorem s_11 : zas (zG, M) (.inl z :: .inl i :: .inr (.inr (.inl 11)) :: r) kh = (0 ≤ zr i ∧ zr i < 8 ∧ kh r (zG, zup M 11 (zr i).toNat z)) := rfl
theorem n_11 : zlen E (zG, M) (.inr (.inr (.inl 11)) :: r) kk = kk (.inl 8 :: r) := rfl
theorem l_12 : zal E (zG, M) false (.inl i :: .inr (.inr (.inl 12)) :: r) kk = (0 ≤ zr i ∧ zr i < 8 ∧ kk (.inl (M 12 (zr i).toNat) :: r)) := by show (false = false ∧ _) = _; simp only [true_and]; rfl
theorem s_12 : zas (zG, M) (.inl z :: .inl i :: .inr (.inr (.inl 12)) :: r) kh = (0 ≤ zr i ∧ zr i < 8 ∧ kh r (zG, zup M 12 (zr i).toNat z)) := rfl
theorem n_12 : zlen E (zG, M) (.inr (.inr (.inl 12)) :: r) kk = kk (.inl 8 :: r) := rfl
theorem l_13 : zal E (zG, M) false (.inl i :: .inr (.inr (.inl 13)) :: r) kk = (0 ≤ zr i ∧ zr i < 8 ∧ kk (.inl (M 13 (zr i).toNat) :: r)) := by show (false = false ∧ _) = _; simp only [true_and]; rfl
theorem s_13 : zas (zG, M) (.inl z :: .inl i :: .inr (.inr (.inl 13)) :: r) kh = (0 ≤ zr i ∧ zr i < 8 ∧ kh r (zG, zup M 13 (zr i).toNat z)) := rfl
theorem n_13 : zlen E (zG, M) (.inr (.inr (.inl 13)) :: r) kk = kk (.inl 8 :: r) := rfl
theorem v_14 : zrecv (zG, M) (.inr (.inr (.inl 14)) :: r) 3 = True := by show (3 = 3) = True; simp
theorem g_14_0 : zgf (zG, M) 3 0 (.inr (.inr (.inl 14)) :: r) kk = kk (.inr (.inr (.inl 15)) :: r) := by show (3 = 3 ∧ _) = _; simp
theorem g_14_1 : zgf (zG, M) 3 1 (.inr (.inr (.inl 14)) :: r) kk = kk (.inr (.inr (.inl 17)) :: r) := by show (3 = 3 ∧ _) = _; simp
theorem v_15 : zrecv (zG, M) (.inr (.inr (.inl 15)) :: r) 5 = True := by show (5 = 5) = True; simp
theorem g_15_0 : zgf (zG, M) 5 0 (.inr (.inr (.inl 15)) :: r) kk = kk (.inr (.inr (.inl 16)) :: r) := by show (5 = 5 ∧ _) = _; simp
theorem g_15_1 : zgf (zG, M) 5 1 (.inr (.inr (.inl 15)) :: r) kk = kk (.inl (M 15 1) :: r) := by show (5 = 5 ∧ _) = _; simp
theorem p_15_1 : zpf (zG, M) 5 1 0 (.inl z :: .inr (.inr (.inl 15)) :: r) kh = kh r (zG, zup M 15 1 z) := by show (5 = 5 ∧ ((0 : Int) = 0 ∨ _) ∧ _) = _; simp
theorem l_16 : zal E (zG, M) false (.inl i :: .inr (.inr (.inl 16)) :: r) kk = (0 ≤ zr i ∧ zr i < 50 ∧ kk (.inl (M 16 (zr i).toNat) :: r)) := by show (false = false ∧ _) = _; simp only [true_and]; rfl
theorem s_16 : zas (zG, M) (.inl z :: .inl i :: .inr (.inr (.inl 16)) :: r) kh = (0 ≤ zr i ∧ zr i < 50 ∧ kh r (zG, zup M 16 (zr i).toNat z)) := rfl
theorem n_16 : zlen E (zG, M) (.inr (.inr (.inl 16)) :: r) kk = kk (.inl 50 :: r) := rfl
theorem l_17 : zal E (zG, M) false (.inl i :: .inr (.inr (.inl 17)) :: r) kk = (0 ≤ zr i ∧ zr i < 50 ∧ kk (.inl (M 17 (zr i).toNat) :: r)) := by show (false = false ∧ _) = _; simp only [true_and]; rfl
theorem s_17 : zas (zG, M) (.inl z :: .inl i :: .inr (.inr (.inl 17)) :: r) kh = (0 ≤ zr i ∧ zr i < 50 ∧ kh r (zG, zup M 17 (zr i).toNat z)) := rfl
theorem n_17 : zlen E (zG, M) (.inr (.inr (.inl 17)) :: r) kk = kk (.inl 50 :: r) := rfl
theorem v_18 : zrecv (zG, M) (.inr (.inr (.inl 18)) :: r) 3 = True := by show (3 = 3) = True; simp
theorem g_18_0 : zgf (zG, M) 3 0 (.inr (.inr (.inl 18)) :: r) kk = kk (.inr (.inr (.inl 19)) :: r) := by show (3 = 3 ∧ _) = _; simp
theorem g_18_1 : zgf (zG, M) 3 1 (.inr (.inr (.inl 18)) :: r) kk = kk (.inr (.inr (.inl 21)) :: r) := by show (3 = 3 ∧ _) = _; simp
theorem v_19 : zrecv (zG, M) (.inr (.inr (.inl 19)) :: r) 5 = True := by show (5 = 5) = True; simp
theorem g_19_0 : zgf (zG, M) 5 0 (.inr (.inr (.inl 19)) :: r) kk = kk (.inr (.inr (.inl 20)) :: r) := by show (5 = 5 ∧ _) = _; simp
theorem g_19_1 : zgf (zG, M) 5 1 (.inr (.inr (.inl 19)) :: r) kk = kk (.inl (M 19 1) :: r) := by show (5 = 5 ∧ _) = _; simp
theorem p_19_1 : zpf (zG, M) 5 1 0 (.inl z :: .inr (.inr (.inl 19)) :: r) kh = kh r (zG, zup M 19 1 z) := by show (5 = 5 ∧ ((0 : Int) = 0 ∨ _) ∧ _) = _; simp
theorem l_20 : zal E (zG, M) false (.inl i :: .inr (.inr (.inl 20)) :: r) kk = (0 ≤ zr i ∧ zr i < 50 ∧ kk (.inl (M 20 (zr i).toNat) :: r)) := by show (false = false ∧ _) = _; simp only [true_and]; rfl
theorem s_20 : zas (zG, M) (.inl z :: .inl i :: .inr (.inr (.inl 20)) :: r) kh = (0 ≤ zr i ∧ zr i < 50 ∧ kh r (zG, zup M 20 (zr i).toNat z)) := rfl
theorem n_20 : zlen E (zG, M) (.inr (.inr (.inl 20)) :: r) kk = kk (.inl 50 :: r) := rfl
theorem l_21 : zal E (zG, M) false (.inl i :: .inr (.inr (.inl 21)) :: r) kk = (0 ≤ zr i ∧ zr i < 50 ∧ kk (.inl (M 21 (zr i).toNat) :: r)) := by show (false = false ∧ _) = _; simp only [true_and]; rfl
theorem s_21 : zas (zG, M) (.inl z :: .inl i :: .inr (.inr (.inl 21)) :: r) kh = (0 ≤ zr i ∧ zr i < 50 ∧ kh r (zG, zup M 21 (zr i).toNat z)) := rfl
theorem n_21 : zlen E (zG, M) (.inr (.inr (.inl 21)) :: r) kk = kk (.inl 50 :: r) := rfl
theorem v_22 : zrecv (zG, M) (.inr (.inr (.inl 22)) :: r) 5 = True := by show (5 = 5) = True; simp
theorem g_22_0 : zgf (zG, M) 5 0 (.inr (.inr (.inl 22)) :: r) kk = kk (.inr (.inr (.inl 23)) :: r) := by show (5 = 5 ∧ _) = _; simp
theorem g_22_1 : zgf (zG, M) 5 1 (.inr (.inr (.inl 22)) :: r) kk = kk (.inl (M 22 1) :: r) := by show (5 = 5 ∧ _) = _; simp
theorem p_22_1 : zpf (zG, M) 5 1 0 (.inl z :: .inr (.inr (.inl 22)) :: r) kh = kh r (zG, zup M 22 1 z) := by show (5 = 5 ∧ ((0 : Int) = 0 ∨ _) ∧ _) = _; simp
theorem l_23 : zal E (zG, M) false (.inl i :: .inr (.inr (.inl 23)) :: r) kk = (0 ≤ zr i ∧ zr i < 50 ∧ kk (.inl (M 23 (zr i).toNat) :: r)) := by show (false = false ∧ _) = _; simp only [true_and]; rfl
theorem s_23 : zas (zG, M) (.inl z :: .inl i :: .inr (.inr (.inl 23)) :: r) kh = (0 ≤ zr i ∧ zr i < 50 ∧ kh r (zG, zup M 23 (zr i).toNat z)) := rfl
theorem n_23 : zlen E (zG, M) (.inr (.inr (.inl 23)) :: r) kk = kk (.inl 50 :: r) := rfl
theorem v_24 : zrecv (zG, M) (.inr (.inr (.inl 24)) :: r) 5 = True := by show (5 = 5) = True; simp
theorem g_24_0 : zgf (zG, M) 5 0 (.inr (.inr (.inl 24)) :: r) kk = kk (.inr (.inr (.inl 25)) :: r) := by show (5 = 5 ∧ _) = _; simp
theorem g_24_1 : zgf (zG, M) 5 1 (.inr (.inr (.inl 24)) :: r) kk = kk (.inl (M 24 1) :: r) := by show (5 = 5 ∧ _) = _; simp
theorem p_24_1 : zpf (zG, M) 5 1 0 (.inl z :: .inr (.inr (.inl 24)) :: r) kh = kh r (zG, zup M 24 1 z) := by show (5 = 5 ∧ ((0 : Int) = 0 ∨ _) ∧ _) = _; simp
theorem l_25 : zal E (zG, M) false (.inl i :: .inr (.inr (.inl 25)) :: r) kk = (0 ≤ zr i ∧ zr i < 20 ∧ kk (.inl (M 25 (zr i).toNat) :: r)) := by show (false = false ∧ _) = _; simp only [true_and]; rfl
theorem s_25 : zas (zG, M) (.inl z :: .inl i :: .inr (.inr (.inl 25)) :: r) kh = (0 ≤ zr i ∧ zr i < 20 ∧ kh r (zG, zup M 25 (zr i).toNat z)) := rfl
theorem n_25 : zlen E (zG, M) (.inr (.inr (.inl 25)) :: r) kk = kk (.inl 20 :: r) := rfl
theorem v_26 : zrecv (zG, M) (.inr (.inr (.inl 26)) :: r) 6 = True := by show (6 = 6) = True; simp
theorem g_26_0 : zgf (zG, M) 6 0 (.inr (.inr (.inl 26)) :: r) kk = kk (.inr (.inr (.inl 27)) :: r) := by show (6 = 6 ∧ _) = _; simp
theorem g_26_1 : zgf (zG, M) 6 1 (.inr (.inr (.inl 26)) :: r) kk = kk (.inr (.inr (.inl 35)) :: r) := by show (6 = 6 ∧ _) = _; simp
theorem g_26_2 : zgf (zG, M) 6 2 (.inr (.inr (.inl 26)) :: r) kk = kk (.inr (.inr (.inl 39)) :: r) := by show (6 = 6 ∧ _) = _; simp
theorem g_26_3 : zgf (zG, M) 6 3 (.inr (.inr (.inl 26)) :: r) kk = kk (.inr (.inr (.inl 43)) :: r) := by show (6 = 6 ∧ _) = _; simp
theorem g_26_4 : zgf (zG, M) 6 4 (.inr (.inr (.inl 26)) :: r) kk = kk (.inr (.inr (.inl 47)) :: r) := by show (6 = 6 ∧ _) = _; simp
theorem g_26_5 : zgf (zG, M) 6 5 (.inr (.inr (.inl 26)) :: r) kk = kk (.inr (.inr (.inl 49)) :: r) := by show (6 = 6 ∧ _) = _; simp
theorem g_26_6 : zgf (zG, M) 6 6 (.inr (.inr (.inl 26)) :: r) kk = kk (.inl (M 26 6) :: r) := by show (6 = 6 ∧ _) = _; simp
theorem p_26_6 : zpf (zG, M) 6 6 0 (.inl z :: .inr (.inr (.inl 26)) :: r) kh = kh r (zG, zup M 26 6 z) := by show (6 = 6 ∧ ((0 : Int) = 0 ∨ _) ∧ _) = _; simp
theorem v_27 : zrecv (zG, M) (.inr (.inr (.inl 27)) :: r) 2 = True := by show (2 = 2) = True; simp
theorem g_27_0 : zgf (zG, M) 2 0 (.inr (.inr (.inl 27)) :: r) kk = kk (.inr (.inr (.inl 28)) :: r) := by show (2 = 2 ∧ _) = _; simp
theorem g_27_1 : zgf (zG, M) 2 1 (.inr (.inr (.inl 27)) :: r) kk = kk (.inr (.inr (.inl 29)) :: r) := by show (2 = 2 ∧ _) = _; simp
theorem g_27_2 : zgf (zG, M) 2 2 (.inr (.inr (.inl 27)) :: r) kk = kk (.inr (.inr (.inl 30)) :: r) := by show (2 = 2 ∧ _) = _; simp
theorem g_27_3 : zgf (zG, M) 2 3 (.inr (.inr (.inl 27)) :: r) kk = kk (.inr (.inr (.inl 31)) :: r) := by show (2 = 2 ∧ _) = _; simp
theorem g_27_4 : zgf (zG, M) 2 4 (.inr (.inr (.inl 27)) :: r) kk = kk (.inr (.inr (.inl 32)) :: r) := by show (2 = 2 ∧ _) = _; simp
theorem g_27_5 : zgf (zG, M) 2 5 (.inr (.inr (.inl 27)) :: r) kk = kk (.inr (.inr (.inl 33)) :: r) := by show (2 = 2 ∧ _) = _; simp
theorem g_27_6 : zgf (zG, M) 2 6 (.inr (.inr (.inl 27)) :: r) kk = kk (.inr (.inr (.inl 34)) :: r) := by show (2 = 2 ∧ _) = _; simp
theorem g_27_7 : zgf (zG, M) 2 7 (.inr (.inr (.inl 27)) :: r) kk = kk (.inl (M 27 7) :: r) := by show (2 = 2 ∧ _) = _; simp
theorem p_27_7 : zpf (zG, M) 2 7 0 (.inl z :: .inr (.inr (.inl 27)) :: r) kh = kh r (zG, zup M 27 7 z) := by show (2 = 2 ∧ ((0 : Int) = 0 ∨ _) ∧ _) = _; simp
theorem g_27_8 : zgf (zG, M) 2 8 (.inr (.inr (.inl 27)) :: r) kk = kk (.inl (M 27 8) :: r) := by show (2 = 2 ∧ _) = _; simp
theorem p_27_8 : zpf (zG, M) 2 8 0 (.inl z :: .inr (.inr (.inl 27)) :: r) kh = kh r (zG, zup M 27 8 z) := by show (2 = 2 ∧ ((0 : Int) = 0 ∨ _) ∧ _) = _; simp
theorem g_27_9 : zgf (zG, M) 2 9 (.inr (.inr (.inl 27)) :: r) kk = kk (.inl (M 27 9) :: r) := by show (2 = 2 ∧ _) = _; simp
theorem p_27_9 : zpf (zG, M) 2 9 0 (.inl z :: .inr (.inr (.inl 27)) :: r) kh = kh r (zG, zup M 27 9 z) := by show (2 = 2 ∧ ((0 : Int) = 0 ∨ _) ∧ _) = _; simp
theorem l_28 : zal E (zG, M) false (.inl i :: .inr (.inr (.inl 28)) :: r) kk = (0 ≤ zr i ∧ zr i < 64 ∧ kk (.inl (M 28 (zr i).toNat) :: r)) := by show (false = false ∧ _) = _; simp only [true_and]; rfl
theorem s_28 : zas (zG, M) (.inl z :: .inl i :: .inr (.inr (.inl 28)) :: r) kh = (0 ≤ zr i ∧ zr i < 64 ∧ kh r (zG, zup M 28 (zr i).toNat z)) := rfl
theorem n_28 : zlen E (zG, M) (.inr (.inr (.inl 28)) :: r) kk = kk (.inl 64 :: r) := rfl
theorem l_29 : zal E (zG, M) false (.inl i :: .inr (.inr (.inl 29)) :: r) kk = (0 ≤ zr i ∧ zr i < 64 ∧ kk (.inl (M 29 (zr i).toNat) :: r)) := by show (false = false ∧ _) = _; simp only [true_and]; rfl
theorem s_29 : zas (zG, M) (.inl z :: .inl i :: .inr (.inr (.inl 29)) :: r) kh = (0 ≤ zr i ∧ zr i < 64 ∧ kh r (zG, zup M 29 (zr i).toNat z)) := rfl
theorem n_29 : zlen E (zG, M) (.inr (.inr (.inl 29)) :: r) kk = kk (.inl 64 :: r) := rfl
theorem l_30 : zal E (zG, M) false (.inl i :: .inr (.inr (.inl 30)) :: r) kk = (0 ≤ zr i ∧ zr i < 2 ∧ kk (.inl (M 30 (zr i).toNat) :: r)) := by show (false = false ∧ _) = _; simp only [true_and]; rfl
theorem s_30 : zas (zG, M) (.inl z :: .inl i :: .inr (.inr (.inl 30)) :: r) kh = (0 ≤ zr i ∧ zr i < 2 ∧ kh r (zG, zup M 30 (zr i).toNat z)) := rfl
theorem n_30 : zlen E (zG, M) (.inr (.inr (.inl 30)) :: r) kk = kk (.inl 2 :: r) := rfl
theorem l_31 : zal E (zG, M) false (.inl i :: .inr (.inr (.inl 31)) :: r) kk = (0 ≤ zr i ∧ zr i < 2 ∧ kk (.inl (M 31 (zr i).toNat) :: r)) := by show (false = false ∧ _) = _; simp only [true_and]; rfl
theorem s_31 : zas (zG, M) (.inl z :: .inl i :: .inr (.inr (.inl 31)) :: r) kh = (0 ≤ zr i ∧ zr i < 2 ∧ kh r (zG, zup M 31 (zr i).toNat z)) := rfl
theorem n_31 : zlen E (zG, M) (.inr (.inr (.inl 31)) :: r) kk = kk (.inl 2 :: r) := rfl
theorem l_32 : zal E (zG, M) false (.inl i :: .inr (.inr (.inl 32)) :: r) kk = (0 ≤ zr i ∧ zr i < 2 ∧ kk (.inl (M 32 (zr i).toNat) :: r)) := by show (false = false ∧ _) = _; simp only [true_and]; rfl
theorem s_32 : zas (zG, M) (.inl z :: .inl i :: .inr (.inr (.inl 32)) :: r) kh = (0 ≤ zr i ∧ zr i < 2 ∧ kh r (zG, zup M 32 (zr i).toNat z)) := rfl
theorem n_32 : zlen E (zG, M) (.inr (.inr (.inl 32)) :: r) kk = kk (.inl 2 :: r) := rfl
theorem l_33 : zal E (zG, M) false (.inl i :: .inr (.inr (.inl 33)) :: r) kk = (0 ≤ zr i ∧ zr i < 2 ∧ kk (.inl (M 33 (zr i).toNat) :: r)) := by show (false = false ∧ _) = _; simp only [true_and]; rfl
theorem s_33 : zas (zG, M) (.inl z :: .inl i :: .inr (.inr (.inl 33)) :: r) kh = (0 ≤ zr i ∧ zr i < 2 ∧ kh r (zG, zup M 33 (zr i).toNat z)) := rfl
theorem n_33 : zlen E (zG, M) (.inr (.inr (.inl 33)) :: r) kk = kk (.inl 2 :: r) := rfl
theorem l_34 : zal E (zG, M) false (.inl i :: .inr (.inr (.inl 34)) :: r) kk = (0 ≤ zr i ∧ zr i < 20 ∧ kk (.inl (M 34 (zr i).toNat) :: r)) := by show (false = false ∧ _) = _; simp only [true_and]; rfl
theorem s_34 : zas (zG, M) (.inl z :: .inl i :: .inr (.inr (.inl 34)) :: r) kh = (0 ≤ zr i ∧ zr i < 20 ∧ kh r (zG, zup M 34 (zr i).toNat z)) := rfl
theorem n_34 : zlen E (zG, M) (.inr (.inr (.inl 34)) :: r) kk = kk (.inl 20 :: r) := rfl
theorem v_35 : zrecv (zG, M) (.inr (.inr (.inl 35)) :: r) 0 = True := by show (0 = 0) = True; simp
theorem g_35_0 : zgf (zG, M) 0 0 (.inr (.inr (.inl 35)) :: r) kk = kk (.inr (.inr (.inl 36)) :: r) := by show (0 = 0 ∧ _) = _; simp
theorem g_35_1 : zgf (zG, M) 0 1 (.inr (.inr (.inl 35)) :: r) kk = kk (.inr (.inr (.inl 37)) :: r) := by show (0 = 0 ∧ _) = _; simp
theorem g_35_2 : zgf (zG, M) 0 2 (.inr (.inr (.inl 35)) :: r) kk = kk (.inr (.inr (.inl 38)) :: r) := by show (0 = 0 ∧ _) = _; simp
theorem g_35_3 : zgf (zG, M) 0 3 (.inr (.inr (.inl 35)) :: r) kk = kk (.inl (M 35 3) :: r) := by show (0 = 0 ∧ _) = _; simp
theorem p_35_3 : zpf (zG, M) 0 3 0 (.inl z :: .inr (.inr (.inl 35)) :: r) kh = kh r (zG, zup M 35 3 z) := by show (0 = 0 ∧ ((0 : Int) = 0 ∨ _) ∧ _) = _; simp
theorem l_36 : zal E (zG, M) false (.inl i :: .inr (.inr (.inl 36)) :: r) kk = (0 ≤ zr i ∧ zr i < 8 ∧ kk (.inl (M 36 (zr i).toNat) :: r)) := by show (false = false ∧ _) = _; simp only [true_and]; rfl
theorem s_36 : zas (zG, M) (.inl z :: .inl i :: .inr (.inr (.inl 36)) :: r) kh = (0 ≤ zr i ∧ zr i < 8 ∧ kh r (zG, zup M 36 (zr i).toNat z)) := rfl
theorem n_36 : zlen E (zG, M) (.inr (.inr (.inl 36)) :: r) kk = kk (.inl 8 :: r) := rfl
theorem l_37 : zal E (zG, M) false (.inl i :: .inr (.inr (.inl 37)) :: r) kk = (0 ≤ zr i ∧ zr i < 8 ∧ kk (.inl (M 37 (zr i).toNat) :: r)) := by show (false = false ∧ _) = _; simp only [true_and]; rfl
theorem s_37 : zas (zG, M) (.inl z :: .inl i :: .inr (.inr (.inl 37)) :: r) kh = (0 ≤ zr i ∧ zr i < 8 ∧ kh r (zG, zup M 37 (zr i).toNat z)) := rfl
theorem n_37 : zlen E (zG, M) (.inr (.inr (.inl 37)) :: r) kk = kk (.inl 8 :: r) := rfl
theorem l_38 : zal E (zG, M) false (.inl i :: .inr (.inr (.inl 38)) :: r) kk = (0 ≤ zr i ∧ zr i < 8 ∧ kk (.inl (M 38 (zr i).toNat) :: r)) := by show (false = false ∧ _) = _; simp only [true_and]; rfl
theorem s_38 : zas (zG, M) (.inl z :: .inl i :: .inr (.inr (.inl 38)) :: r) kh = (0 ≤ zr i ∧ zr i < 8 ∧ kh r (zG, zup M 38 (zr i).toNat z)) := rfl
theorem n_38 : zlen E (zG, M) (.inr (.inr (.inl 38)) :: r) kk = kk (.inl 8 :: r) := rfl
theorem v_39 : zrecv (zG, M) (.inr (.inr (.inl 39)) :: r) 3 = True := by show (3 = 3) = True; simp
theorem g_39_0 : zgf (zG, M) 3 0 (.inr (.inr (.inl 39)) :: r) kk = kk (.inr (.inr (.inl 40)) :: r) := by show (3 = 3 ∧ _) = _; simp
theorem g_39_1 : zgf (zG, M) 3 1 (.inr (.inr (.inl 39)) :: r) kk = kk (.inr (.inr (.inl 42)) :: r) := by show (3 = 3 ∧ _) = _; simp
theorem v_40 : zrecv (zG, M) (.inr (.inr (.inl 40)) :: r) 5 = True := by show (5 = 5) = True; simp
theorem g_40_0 : zgf (zG, M) 5 0 (.inr (.inr (.inl 40)) :: r) kk = kk (.inr (.inr (.inl 41)) :: r) := by show (5 = 5 ∧ _) = _; simp
theorem g_40_1 : zgf (zG, M) 5 1 (.inr (.inr (.inl 40)) :: r) kk = kk (.inl (M 40 1) :: r) := by show (5 = 5 ∧ _) = _; simp
theorem p_40_1 : zpf (zG, M) 5 1 0 (.inl z :: .inr (.inr (.inl 40)) :: r) kh = kh r (zG, zup M 40 1 z) := by show (5 = 5 ∧ ((0 : Int) = 0 ∨ _) ∧ _) = _; simp
theorem l_41 : zal E (zG, M) false (.inl i :: .inr (.inr (.inl 41)) :: r) kk = (0 ≤ zr i ∧ zr i < 50 ∧ kk (.inl (M 41 (zr i).toNat) :: r)) := by show (false = false ∧ _) = _; simp only [true_and]; rfl
theorem s_41 : zas (zG, M) (.inl z :: .inl i :: .inr (.inr (.inl 41)) :: r) kh = (0 ≤ zr i ∧ zr i < 50 ∧ kh r (zG, zup M 41 (zr i).toNat z)) := rfl
theorem n_41 : zlen E (zG, M) (.inr (.inr (.inl 41)) :: r) kk = kk (.inl 50 :: r) := rfl
theorem l_42 : zal E (zG, M) false (.inl i :: .inr (.inr (.inl 42)) :: r) kk = (0 ≤ zr i ∧ zr i < 50 ∧ kk (.inl (M 42 (zr i).toNat) :: r)) := by show (false = false ∧ _) = _; simp only [true_and]; rfl
theorem s_42 : zas (zG, M) (.inl z :: .inl i :: .inr (.inr (.inl 42)) :: r) kh = (0 ≤ zr i ∧ zr i < 50 ∧ kh r (zG, zup M 42 (zr i).toNat z)) := rfl
theorem n_42 : zlen E (zG, M) (.inr (.inr (.inl 42)) :: r) kk = kk (.inl 50 :: r) := rfl
theorem v_43 : zrecv (zG, M) (.inr (.inr (.inl 43)) :: r) 3 = True := by show (3 = 3) = True; simp
theorem g_43_0 : zgf (zG, M) 3 0 (.inr (.inr (.inl 43)) :: r) kk = kk (.inr (.inr (.inl 44)) :: r) := by show (3 = 3 ∧ _) = _; simp
theorem g_43_1 : zgf (zG, M) 3 1 (.inr (.inr (.inl 43)) :: r) kk = kk (.inr (.inr (.inl 46)) :: r) := by show (3 = 3 ∧ _) = _; simp
theorem v_44 : zrecv (zG, M) (.inr (.inr (.inl 44)) :: r) 5 = True := by show (5 = 5) = True; simp
theorem g_44_0 : zgf (zG, M) 5 0 (.inr (.inr (.inl 44)) :: r) kk = kk (.inr (.inr (.inl 45)) :: r) := by show (5 = 5 ∧ _) = _; simp
theorem g_44_1 : zgf (zG, M) 5 1 (.inr (.inr (.inl 44)) :: r) kk = kk (.inl (M 44 1) :: r) := by show (5 = 5 ∧ _) = _; simp
theorem p_44_1 : zpf (zG, M) 5 1 0 (.inl z :: .inr (.inr (.inl 44)) :: r) kh = kh r (zG, zup M 44 1 z) := by show (5 = 5 ∧ ((0 : Int) = 0 ∨ _) ∧ _) = _; simp
theorem l_45 : zal E (zG, M) false (.inl i :: .inr (.inr (.inl 45)) :: r) kk = (0 ≤ zr i ∧ zr i < 50 ∧ kk (.inl (M 45 (zr i).toNat) :: r)) := by show (false = false ∧ _) = _; simp only [true_and]; rfl
theorem s_45 : zas (zG, M) (.inl z :: .inl i :: .inr (.inr (.inl 45)) :: r) kh = (0 ≤ zr i ∧ zr i < 50 ∧ kh r (zG, zup M 45 (zr i).toNat z)) := rfl
theorem n_45 : zlen E (zG, M) (.inr (.inr (.inl 45)) :: r) kk = kk (.inl 50 :: r) := rfl
theorem l_46 : zal E (zG, M) false (.inl i :: .inr (.inr (.inl 46)) :: r) kk = (0 ≤ zr i ∧ zr i < 50 ∧ kk (.inl (M 46 (zr i).toNat) :: r)) := by show (false = false ∧ _) = _; simp only [true_and]; rfl
theorem s_46 : zas (zG, M) (.inl z :: .inl i :: .inr (.inr (.inl 46)) :: r) kh = (0 ≤ zr i ∧ zr i < 50 ∧ kh r (zG, zup M 46 (zr i).toNat z)) := rfl
theorem n_46 : zlen E (zG, M) (.inr (.inr (.inl 46)) :: r) kk = kk (.inl 50 :: r) := rfl
theorem v_47 : zrecv (zG, M) (.inr (.inr (.inl 47)) :: r) 5 = True := by show (5 = 5) = True; simp
theorem g_47_0 : zgf (zG, M) 5 0 (.inr (.inr (.inl 47)) :: r) kk = kk (.inr (.inr (.inl 48)) :: r) := by show (5 = 5 ∧ _) = _; simp
theorem g_47_1 : zgf (zG, M) 5 1 (.inr (.inr (.inl 47)) :: r) kk = kk (.inl (M 47 1) :: r) := by show (5 = 5 ∧ _) = _; simp
theorem p_47_1 : zpf (zG, M) 5 1 0 (.inl z :: .inr (.inr (.inl 47)) :: r) kh = kh r (zG, zup M 47 1 z) := by show (5 = 5 ∧ ((0 : Int) = 0 ∨ _) ∧ _) = _; simp
theorem l_48 : zal E (zG, M) false (.inl i :: .inr (.inr (.inl 48)) :: r) kk = (0 ≤ zr i ∧ zr i < 50 ∧ kk (.inl (M 48 (zr i).toNat) :: r)) := by show (false = false ∧ _) = _; simp only [true_and]; rfl
theorem s_48 : zas (zG, M) (.inl z :: .inl i :: .inr (.inr (.inl 48)) :: r) kh = (0 ≤ zr i ∧ zr i < 50 ∧ kh r (zG, zup M 48 (zr i).toNat z)) := rfl
theorem n_48 : zlen E (zG, M) (.inr (.inr (.inl 48)) :: r) kk = kk (.inl 50 :: r) := rfl
theorem v_49 : zrecv (zG, M) (.inr (.inr (.inl 49)) :: r) 5 = True := by show (5 = 5) = True; simp
theorem g_49_0 : zgf (zG, M) 5 0 (.inr (.inr (.inl 49)) :: r) kk = kk (.inr (.inr (.inl 50)) :: r) := by show (5 = 5 ∧ _) = _; simp
theorem g_49_1 : zgf (zG, M) 5 1 (.inr (.inr (.inl 49)) :: r) kk = kk (.inl (M 49 1) :: r) := by show (5 = 5 ∧ _) = _; simp
theorem p_49_1 : zpf (zG, M) 5 1 0 (.inl z :: .inr (.inr (.inl 49)) :: r) kh = kh r (zG, zup M 49 1 z) := by show (5 = 5 ∧ ((0 : Int) = 0 ∨ _) ∧ _) = _; simp
theorem l_50 : zal E (zG, M) false (.inl i :: .inr (.inr (.inl 50)) :: r) kk = (0 ≤ zr i ∧ zr i < 20 ∧ kk (.inl (M 50 (zr i).toNat) :: r)) := by show (false = false ∧ _) = _; simp only [true_and]; rfl
theorem s_50 : zas (zG, M) (.inl z :: .inl i :: .inr (.inr (.inl 50)) :: r) kh = (0 ≤ zr i ∧ zr i < 20 ∧ kh r (zG, zup M 50 (zr i).toNat z)) := rfl
theorem n_50 : zlen E (zG, M) (.inr (.inr (.inl 50)) :: r) kk = kk (.inl 20 :: r) := rfl
theorem v_51 : zrecv (zG, M) (.inr (.inr (.inl 51)) :: r) 1 = True := by show (1 = 1) = True; simp
theorem g_51_0 : zgf (zG, M) 1 0 (.inr (.inr (.inl 51)) :: r) kk = kk (.inr (.inr (.inl 2)) :: r) := by show (1 = 1 ∧ _) = _; simp
theorem g_51_1 : zgf (zG, M) 1 1 (.inr (.inr (.inl 51)) :: r) kk = kk (.inr (.inr (.inl 10)) :: r) := by show (1 = 1 ∧ _) = _; simp
theorem g_51_2 : zgf (zG, M) 1 2 (.inr (.inr (.inl 51)) :: r) kk = kk (.inr (.inr (.inl 14)) :: r) := by show (1 = 1 ∧ _) = _; simp
theorem g_51_3 : zgf (zG, M) 1 3 (.inr (.inr (.inl 51)) :: r) kk = kk (.inr (.inr (.inl 18)) :: r) := by show (1 = 1 ∧ _) = _; simp
theorem g_51_4 : zgf (zG, M) 1 4 (.inr (.inr (.inl 51)) :: r) kk = kk (.inr (.inr (.inl 52)) :: r) := by show (1 = 1 ∧ _) = _; simp
theorem g_51_5 : zgf (zG, M) 1 5 (.inr (.inr (.inl 51)) :: r) kk = kk (.inl (M 51 5) :: r) := by show (1 = 1 ∧ _) = _; simp
theorem p_51_5 : zpf (zG, M) 1 5 0 (.inl z :: .inr (.inr (.inl 51)) :: r) kh = kh r (zG, zup M 51 5 z) := by show (1 = 1 ∧ ((0 : Int) = 0 ∨ _) ∧ _) = _; simp
theorem g_51_6 : zgf (zG, M) 1 6 (.inr (.inr (.inl 51)) :: r) kk = kk (.inl (M 51 6) :: r) := by show (1 = 1 ∧ _) = _; simp
theorem p_51_6 : zpf (zG, M) 1 6 0 (.inl z :: .inr (.inr (.inl 51)) :: r) kh = kh r (zG, zup M 51 6 z) := by show (1 = 1 ∧ ((0 : Int) = 0 ∨ _) ∧ _) = _; simp
theorem g_51_7 : zgf (zG, M) 1 7 (.inr (.inr (.inl 51)) :: r) kk = kk (.inl (M 51 7) :: r) := by show (1 = 1 ∧ _) = _; simp
theorem p_51_7 : zpf (zG, M) 1 7 0 (.inl z :: .inr (.inr (.inl 51)) :: r) kh = kh r (zG, zup M 51 7 z) := by show (1 = 1 ∧ ((0 : Int) = 0 ∨ _) ∧ _) = _; simp
theorem g_51_8 : zgf (zG, M) 1 8 (.inr (.inr (.inl 51)) :: r) kk = kk (.inl (M 51 8) :: r) := by show (1 = 1 ∧ _) = _; simp
theorem p_51_8 : zpf (zG, M) 1 8 0 (.inl z :: .inr (.inr (.inl 51)) :: r) kh = kh r (zG, zup M 51 8 z) := by show (1 = 1 ∧ ((0 : Int) = 0 ∨ _) ∧ _) = _; simp
theorem g_51_9 : zgf (zG, M) 1 9 (.inr (.inr (.inl 51)) :: r) kk = kk (.inl (M 51 9) :: r) := by show (1 = 1 ∧ _) = _; simp
theorem p_51_9 : zpf (zG, M) 1 9 1 (.inl z :: .inr (.inr (.inl 51)) :: r) kh = ((zr z = 0 ∨ zr z = 1) ∧ kh r (zG, zup M 51 9 z)) := by show (1 = 1 ∧ ((1 : Int) = 0 ∨ (1 : Int) = 1 ∧ _) ∧ _) = _; simp
theorem l_52 : zal E (zG, M) false (.inl i :: .inr (.inr (.inl 52)) :: r) kk = (0 ≤ zr i ∧ zr i < 4 ∧ kk (.inl (M 52 (zr i).toNat) :: r)) := by show (false = false ∧ _) = _; simp only [true_and]; rfl
theorem s_52 : zas (zG, M) (.inl z :: .inl i :: .inr (.inr (.inl 52)) :: r) kh = (0 ≤ zr i ∧ zr i < 4 ∧ kh r (zG, zup M 52 (zr i).toNat z)) := rfl
theorem n_52 : zlen E (zG, M) (.inr (.inr (.inl 52)) :: r) kk = kk (.inl 4 :: r) := rfl
theorem v_53 : zrecv (zG, M) (.inr (.inr (.inl 53)) :: r) 1 = True := by show (1 = 1) = True; simp
theorem g_53_0 : zgf (zG, M) 1 0 (.inr (.inr (.inl 53)) :: r) kk = kk (.inr (.inr (.inl 54)) :: r) := by show (1 = 1 ∧ _) = _; simp
theorem g_53_1 : zgf (zG, M) 1 1 (.inr (.inr (.inl 53)) :: r) kk = kk (.inr (.inr (.inl 62)) :: r) := by show (1 = 1 ∧ _) = _; simp
theorem g_53_2 : zgf (zG, M) 1 2 (.inr (.inr (.inl 53)) :: r) kk = kk (.inr (.inr (.inl 14)) :: r) := by show (1 = 1 ∧ _) = _; simp
theorem g_53_3 : zgf (zG, M) 1 3 (.inr (.inr (.inl 53)) :: r) kk = kk (.inr (.inr (.inl 18)) :: r) := by show (1 = 1 ∧ _) = _; simp
theorem g_53_4 : zgf (zG, M) 1 4 (.inr (.inr (.inl 53)) :: r) kk = kk (.inr (.inr (.inl 66)) :: r) := by show (1 = 1 ∧ _) = _; simp
theorem g_53_5 : zgf (zG, M) 1 5 (.inr (.inr (.inl 53)) :: r) kk = kk (.inl (M 53 5) :: r) := by show (1 = 1 ∧ _) = _; simp
theorem p_53_5 : zpf (zG, M) 1 5 0 (.inl z :: .inr (.inr (.inl 53)) :: r) kh = kh r (zG, zup M 53 5 z) := by show (1 = 1 ∧ ((0 : Int) = 0 ∨ _) ∧ _) = _; simp
theorem g_53_6 : zgf (zG, M) 1 6 (.inr (.inr (.inl 53)) :: r) kk = kk (.inl (M 53 6) :: r) := by show (1 = 1 ∧ _) = _; simp
theorem p_53_6 : zpf (zG, M) 1 6 0 (.inl z :: .inr (.inr (.inl 53)) :: r) kh = kh r (zG, zup M 53 6 z) := by show (1 = 1 ∧ ((0 : Int) = 0 ∨ _) ∧ _) = _; simp
theorem g_53_7 : zgf (zG, M) 1 7 (.inr (.inr (.inl 53)) :: r) kk = kk (.inl (M 53 7) :: r) := by show (1 = 1 ∧ _) = _; simp
theorem p_53_7 : zpf (zG, M) 1 7 0 (.inl z :: .inr (.inr (.inl 53)) :: r) kh = kh r (zG, zup M 53 7 z) := by show (1 = 1 ∧ ((0 : Int) = 0 ∨ _) ∧ _) = _; simp
theorem g_53_8 : zgf (zG, M) 1 8 (.inr (.inr (.inl 53)) :: r) kk = kk (.inl (M 53 8) :: r) := by show (1 = 1 ∧ _) = _; simp
theorem p_53_8 : zpf (zG, M) 1 8 0 (.inl z :: .inr (.inr (.inl 53)) :: r) kh = kh r (zG, zup M 53 8 z) := by show (1 = 1 ∧ ((0 : Int) = 0 ∨ _) ∧ _) = _; simp
theorem g_53_9 : zgf (zG, M) 1 9 (.inr (.inr (.inl 53)) :: r) kk = kk (.inl (M 53 9) :: r) := by show (1 = 1 ∧ _) = _; simp
theorem p_53_9 : zpf (zG, M) 1 9 1 (.inl z :: .inr (.inr (.inl 53)) :: r) kh = ((zr z = 0 ∨ zr z = 1) ∧ kh r (zG, zup M 53 9 z)) := by show (1 = 1 ∧ ((1 : Int) = 0 ∨ (1 : Int) = 1 ∧ _) ∧ _) = _; simp
theorem v_54 : zrecv (zG, M) (.inr (.inr (.inl 54)) :: r) 2 = True := by show (2 = 2) = True; simp
theorem g_54_0 : zgf (zG, M) 2 0 (.inr (.inr (.inl 54)) :: r) kk = kk (.inr (.inr (.inl 55)) :: r) := by show (2 = 2 ∧ _) = _; simp
theorem g_54_1 : zgf (zG, M) 2 1 (.inr (.inr (.inl 54)) :: r) kk = kk (.inr (.inr (.inl 56)) :: r) := by show (2 = 2 ∧ _) = _; simp
theorem g_54_2 : zgf (zG, M) 2 2 (.inr (.inr (.inl 54)) :: r) kk = kk (.inr (.inr (.inl 57)) :: r) := by show (2 = 2 ∧ _) = _; simp
theorem g_54_3 : zgf (zG, M) 2 3 (.inr (.inr (.inl 54)) :: r) kk = kk (.inr (.inr (.inl 58)) :: r) := by show (2 = 2 ∧ _) = _; simp
theorem g_54_4 : zgf (zG, M) 2 4 (.inr (.inr (.inl 54)) :: r) kk = kk (.inr (.inr (.inl 59)) :: r) := by show (2 = 2 ∧ _) = _; simp
theorem g_54_5 : zgf (zG, M) 2 5 (.inr (.inr (.inl 54)) :: r) kk = kk (.inr (.inr (.inl 60)) :: r) := by show (2 = 2 ∧ _) = _; simp
theorem g_54_6 : zgf (zG, M) 2 6 (.inr (.inr (.inl 54)) :: r) kk = kk (.inr (.inr (.inl 61)) :: r) := by show (2 = 2 ∧ _) = _; simp
theorem g_54_7 : zgf (zG, M) 2 7 (.inr (.inr (.inl 54)) :: r) kk = kk (.inl (M 54 7) :: r) := by show (2 = 2 ∧ _) = _; simp
theorem p_54_7 : zpf (zG, M) 2 7 0 (.inl z :: .inr (.inr (.inl 54)) :: r) kh = kh r (zG, zup M 54 7 z) := by show (2 = 2 ∧ ((0 : Int) = 0 ∨ _) ∧ _) = _; simp
theorem g_54_8 : zgf (zG, M) 2 8 (.inr (.inr (.inl 54)) :: r) kk = kk (.inl (M 54 8) :: r) := by show (2 = 2 ∧ _) = _; simp
theorem p_54_8 : zpf (zG, M) 2 8 0 (.inl z :: .inr (.inr (.inl 54)) :: r) kh = kh r (zG, zup M 54 8 z) := by show (2 = 2 ∧ ((0 : Int) = 0 ∨ _) ∧ _) = _; simp
theorem g_54_9 : zgf (zG, M) 2 9 (.inr (.inr (.inl 54)) :: r) kk = kk (.inl (M 54 9) :: r) := by show (2 = 2 ∧ _) = _; simp
theorem p_54_9 : zpf (zG, M) 2 9 0 (.inl z :: .inr (.inr (.inl 54)) :: r) kh = kh r (zG, zup M 54 9 z) := by show (2 = 2 ∧ ((0 : Int) = 0 ∨ _) ∧ _) = _; simp
theorem l_55 : zal E (zG, M) false (.inl i :: .inr (.inr (.inl 55)) :: r) kk = (0 ≤ zr i ∧ zr i < 64 ∧ kk (.inl (M 55 (zr i).toNat) :: r)) := by show (false = false ∧ _) = _; simp only [true_and]; rfl
theorem s_55 : zas (zG, M) (.inl z :: .inl i :: .inr (.inr (.inl 55)) :: r) kh = (0 ≤ zr i ∧ zr i < 64 ∧ kh r (zG, zup M 55 (zr i).toNat z)) := rfl
theorem n_55 : zlen E (zG, M) (.inr (.inr (.inl 55)) :: r) kk = kk (.inl 64 :: r) := rfl
theorem l_56 : zal E (zG, M) false (.inl i :: .inr (.inr (.inl 56)) :: r) kk = (0 ≤ zr i ∧ zr i < 64 ∧ kk (.inl (M 56 (zr i).toNat) :: r)) := by show (false = false ∧ _) = _; simp only [true_and]; rfl
theorem s_56 : zas (zG, M) (.inl z :: .inl i :: .inr (.inr (.inl 56)) :: r) kh = (0 ≤ zr i ∧ zr i < 64 ∧ kh r (zG, zup M 56 (zr i).toNat z)) := rfl
theorem n_56 : zlen E (zG, M) (.inr (.inr (.inl 56)) :: r) kk = kk (.inl 64 :: r) := rfl
theorem l_57 : zal E (zG, M) false (.inl i :: .inr (.inr (.inl 57)) :: r) kk = (0 ≤ zr i ∧ zr i < 2 ∧ kk (.inl (M 57 (zr i).toNat) :: r)) := by show (false = false ∧ _) = _; simp only [true_and]; rfl
theorem s_57 : zas (zG, M) (.inl z :: .inl i :: .inr (.inr (.inl 57)) :: r) kh = (0 ≤ zr i ∧ zr i < 2 ∧ kh r (zG, zup M 57 (zr i).toNat z)) := rfl
theorem n_57 : zlen E (zG, M) (.inr (.inr (.inl 57)) :: r) kk = kk (.inl 2 :: r) := rfl
theorem l_58 : zal E (zG, M) false (.inl i :: .inr (.inr (.inl 58)) :: r) kk = (0 ≤ zr i ∧ zr i < 2 ∧ kk (.inl (M 58 (zr i).toNat) :: r)) := by show (false = false ∧ _) = _; simp only [true_and]; rfl
theorem s_58 : zas (zG, M) (.inl z :: .inl i :: .inr (.inr (.inl 58)) :: r) kh = (0 ≤ zr i ∧ zr i < 2 ∧ kh r (zG, zup M 58 (zr i).toNat z)) := rfl
theorem n_58 : zlen E (zG, M) (.inr (.inr (.inl 58)) :: r) kk = kk (.inl 2 :: r) := rfl
theorem l_59 : zal E (zG, M) false (.inl i :: .inr (.inr (.inl 59)) :: r) kk = (0 ≤ zr i ∧ zr i < 2 ∧ kk (.inl (M 59 (zr i).toNat) :: r)) := by show (false = false ∧ _) = _; simp only [true_and]; rfl
theorem s_59 : zas (zG, M) (.inl z :: .inl i :: .inr (.inr (.inl 59)) :: r) kh = (0 ≤ zr i ∧ zr i < 2 ∧ kh r (zG, zup M 59 (zr i).toNat z)) := rfl
theorem n_59 : zlen E (zG, M) (.inr (.inr (.inl 59)) :: r) kk = kk (.inl 2 :: r) := rfl
theorem l_60 : zal E (zG, M) false (.inl i :: .inr (.inr (.inl 60)) :: r) kk = (0 ≤ zr i ∧ zr i < 2 ∧ kk (.inl (M 60 (zr i).toNat) :: r)) := by show (false = false ∧ _) = _; simp only [true_and]; rfl
theorem s_60 : zas (zG, M) (.inl z :: .inl i :: .inr (.inr (.inl 60)) :: r) kh = (0 ≤ zr i ∧ zr i < 2 ∧ kh r (zG, zup M 60 (zr i).toNat z)) := rfl
theorem n_60 : zlen E (zG, M) (.inr (.inr (.inl 60)) :: r) kk = kk (.inl 2 :: r) := rfl
theorem l_61 : zal E (zG, M) false (.inl i :: .inr (.inr (.inl 61)) :: r) kk = (0 ≤ zr i ∧ zr i < 20 ∧ kk (.inl (M 61 (zr i).toNat) :: r)) := by show (false = false ∧ _) = _; simp only [true_and]; rfl
theorem s_61 : zas (zG, M) (.inl z :: .inl i :: .inr (.inr (.inl 61)) :: r) kh = (0 ≤ zr i ∧ zr i < 20 ∧ kh r (zG, zup M 61 (zr i).toNat z)) := rfl
theorem n_61 : zlen E (zG, M) (.inr (.inr (.inl 61)) :: r) kk = kk (.inl 20 :: r) := rfl
theorem v_62 : zrecv (zG, M) (.inr (.inr (.inl 62)) :: r) 0 = True := by show (0 = 0) = True; simp
theorem g_62_0 : zgf (zG, M) 0 0 (.inr (.inr (.inl 62)) :: r) kk = kk (.inr (.inr (.inl 63)) :: r) := by show (0 = 0 ∧ _) = _; simp
theorem g_62_1 : zgf (zG, M) 0 1 (.inr (.inr (.inl 62)) :: r) kk = kk (.inr (.inr (.inl 64)) :: r) := by show (0 = 0 ∧ _) = _; simp
theorem g_62_2 : zgf (zG, M) 0 2 (.inr (.inr (.inl 62)) :: r) kk = kk (.inr (.inr (.inl 65)) :: r) := by show (0 = 0 ∧ _) = _; simp
theorem g_62_3 : zgf (zG, M) 0 3 (.inr (.inr (.inl 62)) :: r) kk = kk (.inl (M 62 3) :: r) := by show (0 = 0 ∧ _) = _; simp
theorem p_62_3 : zpf (zG, M) 0 3 0 (.inl z :: .inr (.inr (.inl 62)) :: r) kh = kh r (zG, zup M 62 3 z) := by show (0 = 0 ∧ ((0 : Int) = 0 ∨ _) ∧ _) = _; simp
theorem l_63 : zal E (zG, M) false (.inl i :: .inr (.inr (.inl 63)) :: r) kk = (0 ≤ zr i ∧ zr i < 8 ∧ kk (.inl (M 63 (zr i).toNat) :: r)) := by show (false = false ∧ _) = _; simp only [true_and]; rfl
theorem s_63 : zas (zG, M) (.inl z :: .inl i :: .inr (.inr (.inl 63)) :: r) kh = (0 ≤ zr i ∧ zr i < 8 ∧ kh r (zG, zup M 63 (zr i).toNat z)) := rfl
theorem n_63 : zlen E (zG, M) (.inr (.inr (.inl 63)) :: r) kk = kk (.inl 8 :: r) := rfl
theorem l_64 : zal E (zG, M) false (.inl i :: .inr (.inr (.inl 64)) :: r) kk = (0 ≤ zr i ∧ zr i < 8 ∧ kk (.inl (M 64 (zr i).toNat) :: r)) := by show (false = false ∧ _) = _; simp only [true_and]; rfl
theorem s_64 : zas (zG, M) (.inl z :: .inl i :: .inr (.inr (.inl 64)) :: r) kh = (0 ≤ zr i ∧ zr i < 8 ∧ kh r (zG, zup M 64 (zr i).toNat z)) := rfl
theorem n_64 : zlen E (zG, M) (.inr (.inr (.inl 64)) :: r) kk = kk (.inl 8 :: r) := rfl
theorem l_65 : zal E (zG, M) false (.inl i :: .inr (.inr (.inl 65)) :: r) kk = (0 ≤ zr i ∧ zr i < 8 ∧ kk (.inl (M 65 (zr i).toNat) :: r)) := by show (false = false ∧ _) = _; simp only [true_and]; rfl
theorem s_65 : zas (zG, M) (.inl z :: .inl i :: .inr (.inr (.inl 65)) :: r) kh = (0 ≤ zr i ∧ zr i < 8 ∧ kh r (zG, zup M 65 (zr i).toNat z)) := rfl
theorem n_65 : zlen E (zG, M) (.inr (.inr (.inl 65)) :: r) kk = kk (.inl 8 :: r) := rfl
theorem l_66 : zal E (zG, M) false (.inl i :: .inr (.inr (.inl 66)) :: r) kk = (0 ≤ zr i ∧ zr i < 4 ∧ kk (.inl (M 66 (zr i).toNat) :: r)) := by show (false = false ∧ _) = _; simp only [true_and]; rfl
theorem s_66 : zas (zG, M) (.inl z :: .inl i :: .inr (.inr (.inl 66)) :: r) kh = (0 ≤ zr i ∧ zr i < 4 ∧ kh r (zG, zup M 66 (zr i).toNat z)) := rfl
theorem n_66 : zlen E (zG, M) (.inr (.inr (.inl 66)) :: r) kk = kk (.inl 4 :: r) := rfl
theorem v_67 : zrecv (zG, M) (.inr (.inr (.inl 67)) :: r) 4 = True := by show (4 = 4) = True; simp
theorem g_67_0 : zgf (zG, M) 4 0 (.inr (.inr (.inl 67)) :: r) kk = kk (.inr (.inr (.inl 68)) :: r) := by show (4 = 4 ∧ _) = _; simp
theorem g_67_1 : zgf (zG, M) 4 1 (.inr (.inr (.inl 67)) :: r) kk = kk (.inr (.inr (.inl 22)) :: r) := by show (4 = 4 ∧ _) = _; simp
theorem g_67_2 : zgf (zG, M) 4 2 (.inr (.inr (.inl 67)) :: r) kk = kk (.inl (M 67 2) :: r) := by show (4 = 4 ∧ _) = _; simp
theorem p_67_2 : zpf (zG, M) 4 2 0 (.inl z :: .inr (.inr (.inl 67)) :: r) kh = kh r (zG, zup M 67 2 z) := by show (4 = 4 ∧ ((0 : Int) = 0 ∨ _) ∧ _) = _; simp
theorem g_67_3 : zgf (zG, M) 4 3 (.inr (.inr (.inl 67)) :: r) kk = kk (.inl (M 67 3) :: r) := by show (4 = 4 ∧ _) = _; simp
theorem p_67_3 : zpf (zG, M) 4 3 0 (.inl z :: .inr (.inr (.inl 67)) :: r) kh = kh r (zG, zup M 67 3 z) := by show (4 = 4 ∧ ((0 : Int) = 0 ∨ _) ∧ _) = _; simp
theorem g_67_4 : zgf (zG, M) 4 4 (.inr (.inr (.inl 67)) :: r) kk = kk (.inl (M 67 4) :: r) := by show (4 = 4 ∧ _) = _; simp
theorem p_67_4 : zpf (zG, M) 4 4 0 (.inl z :: .inr (.inr (.inl 67)) :: r) kh = kh r (zG, zup M 67 4 z) := by show (4 = 4 ∧ ((0 : Int) = 0 ∨ _) ∧ _) = _; simp
theorem v_68 : zrecv (zG, M) (.inr (.inr (.inl 68)) :: r) 5 = True := by show (5 = 5) = True; simp
theorem g_68_0 : zgf (zG, M) 5 0 (.inr (.inr (.inl 68)) :: r) kk = kk (.inr (.inr (.inl 69)) :: r) := by show (5 = 5 ∧ _) = _; simp
theorem g_68_1 : zgf (zG, M) 5 1 (.inr (.inr (.inl 68)) :: r) kk = kk (.inl (M 68 1) :: r) := by show (5 = 5 ∧ _) = _; simp
theorem p_68_1 : zpf (zG, M) 5 1 0 (.inl z :: .inr (.inr (.inl 68)) :: r) kh = kh r (zG, zup M 68 1 z) := by show (5 = 5 ∧ ((0 : Int) = 0 ∨ _) ∧ _) = _; simp
theorem l_69 : zal E (zG, M) false (.inl i :: .inr (.inr (.inl 69)) :: r) kk = (0 ≤ zr i ∧ zr i < 50 ∧ kk (.inl (M 69 (zr i).toNat) :: r)) := by show (false = false ∧ _) = _; simp only [true_and]; rfl
theorem s_69 : zas (zG, M) (.inl z :: .inl i :: .inr (.inr (.inl 69)) :: r) kh = (0 ≤ zr i ∧ zr i < 50 ∧ kh r (zG, zup M 69 (zr i).toNat z)) := rfl
theorem n_69 : zlen E (zG, M) (.inr (.inr (.inl 69)) :: r) kk = kk (.inl 50 :: r) := rfl
theorem v_70 : zrecv (zG, M) (.inr (.inr (.inl 70)) :: r) 9 = True := by show (9 = 9) = True; simp
theorem g_70_0 : zgf (zG, M) 9 0 (.inr (.inr (.inl 70)) :: r) kk = kk (.inr (.inr (.inl 2)) :: r) := by show (9 = 9 ∧ _) = _; simp
theorem g_70_1 : zgf (zG, M) 9 1 (.inr (.inr (.inl 70)) :: r) kk = kk (.inr (.inr (.inl 71)) :: r) := by show (9 = 9 ∧ _) = _; simp
theorem g_70_2 : zgf (zG, M) 9 2 (.inr (.inr (.inl 70)) :: r) kk = kk (.inr (.inr (.inl 72)) :: r) := by show (9 = 9 ∧ _) = _; simp
theorem g_70_3 : zgf (zG, M) 9 3 (.inr (.inr (.inl 70)) :: r) kk = kk (.inr (.inr (.inl 73)) :: r) := by show (9 = 9 ∧ _) = _; simp
theorem l_71 : zal E (zG, M) false (.inl i :: .inr (.inr (.inl 71)) :: r) kk = (0 ≤ zr i ∧ zr i < 64 ∧ kk (.inl (M 71 (zr i).toNat) :: r)) := by show (false = false ∧ _) = _; simp only [true_and]; rfl
theorem s_71 : zas (zG, M) (.inl z :: .inl i :: .inr (.inr (.inl 71)) :: r) kh = (0 ≤ zr i ∧ zr i < 64 ∧ kh r (zG, zup M 71 (zr i).toNat z)) := rfl
theorem n_71 : zlen E (zG, M) (.inr (.inr (.inl 71)) :: r) kk = kk (.inl 64 :: r) := rfl
theorem l_72 : zal E (zG, M) false (.inl i :: .inr (.inr (.inl 72)) :: r) kk = (0 ≤ zr i ∧ zr i < 64 ∧ kk (.inl (M 72 (zr i).toNat) :: r)) := by show (false = false ∧ _) = _; simp only [true_and]; rfl
theorem s_72 : zas (zG, M) (.inl z :: .inl i :: .inr (.inr (.inl 72)) :: r) kh = (0 ≤ zr i ∧ zr i < 64 ∧ kh r (zG, zup M 72 (zr i).toNat z)) := rfl
theorem n_72 : zlen E (zG, M) (.inr (.inr (.inl 72)) :: r) kk = kk (.inl 64 :: r) := rfl
theorem l_73 : zal E (zG, M) false (.inl i :: .inr (.inr (.inl 73)) :: r) kk = (0 ≤ zr i ∧ zr i < 64 ∧ kk (.inl (M 73 (zr i).toNat) :: r)) := by show (false = false ∧ _) = _; simp only [true_and]; rfl
theorem s_73 : zas (zG, M) (.inl z :: .inl i :: .inr (.inr (.inl 73)) :: r) kh = (0 ≤ zr i ∧ zr i < 64 ∧ kh r (zG, zup M 73 (zr i).toNat z)) := rfl
theorem n_73 : zlen E (zG, M) (.inr (.inr (.inl 73)) :: r) kk = kk (.inl 64 :: r) := rfl
theorem v_74 : zrecv (zG, M) (.inr (.inr (.inl 74)) :: r) 8 = True := by show (8 = 8) = True; simp
theorem g_74_0 : zgf (zG, M) 8 0 (.inr (.inr (.inl 74)) :: r) kk = kk (.inr (.inr (.inl 75)) :: r) := by show (8 = 8 ∧ _) = _; simp
theorem g_74_1 : zgf (zG, M) 8 1 (.inr (.inr (.inl 74)) :: r) kk = kk (.inl (M 74 1) :: r) := by show (8 = 8 ∧ _) = _; simp
theorem p_74_1 : zpf (zG, M) 8 1 0 (.inl z :: .inr (.inr (.inl 74)) :: r) kh = kh r (zG, zup M 74 1 z) := by show (8 = 8 ∧ ((0 : Int) = 0 ∨ _) ∧ _) = _; simp
theorem g_74_2 : zgf (zG, M) 8 2 (.inr (.inr (.inl 74)) :: r) kk = kk (.inl (M 74 2) :: r) := by show (8 = 8 ∧ _) = _; simp
theorem p_74_2 : zpf (zG, M) 8 2 0 (.inl z :: .inr (.inr (.inl 74)) :: r) kh = kh r (zG, zup M 74 2 z) := by show (8 = 8 ∧ ((0 : Int) = 0 ∨ _) ∧ _) = _; simp
theorem g_74_3 : zgf (zG, M) 8 3 (.inr (.inr (.inl 74)) :: r) kk = kk (.inl (M 74 3) :: r) := by show (8 = 8 ∧ _) = _; simp
theorem p_74_3 : zpf (zG, M) 8 3 0 (.inl z :: .inr (.inr (.inl 74)) :: r) kh = kh r (zG, zup M 74 3 z) := by show (8 = 8 ∧ ((0 : Int) = 0 ∨ _) ∧ _) = _; simp
theorem v_75 : zrecv (zG, M) (.inr (.inr (.inl 75)) :: r) 5 = True := by show (5 = 5) = True; simp
theorem g_75_0 : zgf (zG, M) 5 0 (.inr (.inr (.inl 75)) :: r) kk = kk (.inr (.inr (.inl 76)) :: r) := by show (5 = 5 ∧ _) = _; simp
theorem g_75_1 : zgf (zG, M) 5 1 (.inr (.inr (.inl 75)) :: r) kk = kk (.inl (M 75 1) :: r) := by show (5 = 5 ∧ _) = _; simp
theorem p_75_1 : zpf (zG, M) 5 1 0 (.inl z :: .inr (.inr (.inl 75)) :: r) kh = kh r (zG, zup M 75 1 z) := by show (5 = 5 ∧ ((0 : Int) = 0 ∨ _) ∧ _) = _; simp
theorem l_76 : zal E (zG, M) false (.inl i :: .inr (.inr (.inl 76)) :: r) kk = (0 ≤ zr i ∧ zr i < 40 ∧ kk (.inl (M 76 (zr i).toNat) :: r)) := by show (false = false ∧ _) = _; simp only [true_and]; rfl
theorem s_76 : zas (zG, M) (.inl z :: .inl i :: .inr (.inr (.inl 76)) :: r) kh = (0 ≤ zr i ∧ zr i < 40 ∧ kh r (zG, zup M 76 (zr i).toNat z)) := rfl
theorem n_76 : zlen E (zG, M) (.inr (.inr (.inl 76)) :: r) kk = kk (.inl 40 :: r) := rfl
theorem l_78 : zal E (zG, M) false (.inl i :: .inr (.inr (.inl 78)) :: r) kk = (0 ≤ zr i ∧ zr i < 6 ∧ kk (.inl (M 78 (zr i).toNat) :: r)) := by show (false = false ∧ _) = _; simp only [true_and]; rfl
theorem s_78 : zas (zG, M) (.inl z :: .inl i :: .inr (.inr (.inl 78)) :: r) kh = (0 ≤ zr i ∧ zr i < 6 ∧ kh r (zG, zup M 78 (zr i).toNat z)) := rfl
theorem n_78 : zlen E (zG, M) (.inr (.inr (.inl 78)) :: r) kk = kk (.inl 6 :: r) := rfl
theorem v_79 : zrecv (zG, M) (.inr (.inr (.inl 79)) :: r) 7 = True := by show (7 = 7) = True; simp
theorem g_79_0 : zgf (zG, M) 7 0 (.inr (.inr (.inl 79)) :: r) kk = kk (.inr (.inr (.inl 80)) :: r) := by show (7 = 7 ∧ _) = _; simp
theorem g_79_1 : zgf (zG, M) 7 1 (.inr (.inr (.inl 79)) :: r) kk = kk (.inl (M 79 1) :: r) := by show (7 = 7 ∧ _) = _; simp
theorem p_79_1 : zpf (zG, M) 7 1 0 (.inl z :: .inr (.inr (.inl 79)) :: r) kh = kh r (zG, zup M 79 1 z) := by show (7 = 7 ∧ ((0 : Int) = 0 ∨ _) ∧ _) = _; simp
theorem g_79_2 : zgf (zG, M) 7 2 (.inr (.inr (.inl 79)) :: r) kk = kk (.inl (M 79 2) :: r) := by show (7 = 7 ∧ _) = _; simp
theorem p_79_2 : zpf (zG, M) 7 2 0 (.inl z :: .inr (.inr (.inl 79)) :: r) kh = kh r (zG, zup M 79 2 z) := by show (7 = 7 ∧ ((0 : Int) = 0 ∨ _) ∧ _) = _; simp
theorem l_80 : zal E (zG, M) false (.inl i :: .inr (.inr (.inl 80)) :: r) kk = (0 ≤ zr i ∧ zr i < 40 ∧ kk (.inl (M 80 (zr i).toNat) :: r)) := by show (false = false ∧ _) = _; simp only [true_and]; rfl
theorem s_80 : zas (zG, M) (.inl z :: .inl i :: .inr (.inr (.inl 80)) :: r) kh = (0 ≤ zr i ∧ zr i < 40 ∧ kh r (zG, zup M 80 (zr i).toNat z)) := rfl
theorem n_80 : zlen E (zG, M) (.inr (.inr (.inl 80)) :: r) kk = kk (.inl 40 :: r) := rfl
theorem v_81 : zrecv (zG, M) (.inr (.inr (.inl 81)) :: r) 7 = True := by show (7 = 7) = True; simp
theorem g_81_0 : zgf (zG, M) 7 0 (.inr (.inr (.inl 81)) :: r) kk = kk (.inr (.inr (.inl 82)) :: r) := by show (7 = 7 ∧ _) = _; simp
theorem g_81_1 : zgf (zG, M) 7 1 (.inr (.inr (.inl 81)) :: r) kk = kk (.inl (M 81 1) :: r) := by show (7 = 7 ∧ _) = _; simp
theorem p_81_1 : zpf (zG, M) 7 1 0 (.inl z :: .inr (.inr (.inl 81)) :: r) kh = kh r (zG, zup M 81 1 z) := by show (7 = 7 ∧ ((0 : Int) = 0 ∨ _) ∧ _) = _; simp
theorem g_81_2 : zgf (zG, M) 7 2 (.inr (.inr (.inl 81)) :: r) kk = kk (.inl (M 81 2) :: r) := by show (7 = 7 ∧ _) = _; simp
theorem p_81_2 : zpf (zG, M) 7 2 0 (.inl z :: .inr (.inr (.inl 81)) :: r) kh = kh r (zG, zup M 81 2 z) := by show (7 = 7 ∧ ((0 : Int) = 0 ∨ _) ∧ _) = _; simp
theorem l_82 : zal E (zG, M) false (.inl i :: .inr (.inr (.inl 82)) :: r) kk = (0 ≤ zr i ∧ zr i < 40 ∧ kk (.inl (M 82 (zr i).toNat) :: r)) := by show (false = false ∧ _) = _; simp only [true_and]; rfl
theorem s_82 : zas (zG, M) (.inl z :: .inl i :: .inr (.inr (.inl 82)) :: r) kh = (0 ≤ zr i ∧ zr i < 40 ∧ kh r (zG, zup M 82 (zr i).toNat z)) := rfl
theorem n_82 : zlen E (zG, M) (.inr (.inr (.inl 82)) :: r) kk = kk (.inl 40 :: r) := rfl
theorem v_83 : zrecv (zG, M) (.inr (.inr (.inl 83)) :: r) 7 = True := by show (7 = 7) = True; simp
theorem g_83_0 : zgf (zG, M) 7 0 (.inr (.inr (.inl 83)) :: r) kk = kk (.inr (.inr (.inl 84)) :: r) := by show (7 = 7 ∧ _) = _; simp
theorem g_83_1 : zgf (zG, M) 7 1 (.inr (.inr (.inl 83)) :: r) kk = kk (.inl (M 83 1) :: r) := by show (7 = 7 ∧ _) = _; simp
theorem p_83_1 : zpf (zG, M) 7 1 0 (.inl z :: .inr (.inr (.inl 83)) :: r) kh = kh r (zG, zup M 83 1 z) := by show (7 = 7 ∧ ((0 : Int) = 0 ∨ _) ∧ _) = _; simp
theorem g_83_2 : zgf (zG, M) 7 2 (.inr (.inr (.inl 83)) :: r) kk = kk (.inl (M 83 2) :: r) := by show (7 = 7 ∧ _) = _; simp
theorem p_83_2 : zpf (zG, M) 7 2 0 (.inl z :: .inr (.inr (.inl 83)) :: r) kh = kh r (zG, zup M 83 2 z) := by show (7 = 7 ∧ ((0 : Int) = 0 ∨ _) ∧ _) = _; simp
theorem l_84 : zal E (zG, M) false (.inl i :: .inr (.inr (.inl 84)) :: r) kk = (0 ≤ zr i ∧ zr i < 40 ∧ kk (.inl (M 84 (zr i).toNat) :: r)) := by show (false = false ∧ _) = _; simp only [true_and]; rfl
theorem s_84 : zas (zG, M) (.inl z :: .inl i :: .inr (.inr (.inl 84)) :: r) kh = (0 ≤ zr i ∧ zr i < 40 ∧ kh r (zG, zup M 84 (zr i).toNat z)) := rfl
theorem n_84 : zlen E (zG, M) (.inr (.inr (.inl 84)) :: r) kk = kk (.inl 40 :: r) := rfl
theorem v_85 : zrecv (zG, M) (.inr (.inr (.inl 85)) :: r) 7 = True := by show (7 = 7) = True; simp
theorem g_85_0 : zgf (zG, M) 7 0 (.inr (.inr (.inl 85)) :: r) kk = kk (.inr (.inr (.inl 86)) :: r) := by show (7 = 7 ∧ _) = _; simp
theorem g_85_1 : zgf (zG, M) 7 1 (.inr (.inr (.inl 85)) :: r) kk = kk (.inl (M 85 1) :: r) := by show (7 = 7 ∧ _) = _; simp
theorem p_85_1 : zpf (zG, M) 7 1 0 (.inl z :: .inr (.inr (.inl 85)) :: r) kh = kh r (zG, zup M 85 1 z) := by show (7 = 7 ∧ ((0 : Int) = 0 ∨ _) ∧ _) = _; simp
theorem g_85_2 : zgf (zG, M) 7 2 (.inr (.inr (.inl 85)) :: r) kk = kk (.inl (M 85 2) :: r) := by show (7 = 7 ∧ _) = _; simp
theorem p_85_2 : zpf (zG, M) 7 2 0 (.inl z :: .inr (.inr (.inl 85)) :: r) kh = kh r (zG, zup M 85 2 z) := by show (7 = 7 ∧ ((0 : Int) = 0 ∨ _) ∧ _) = _; simp
theorem l_86 : zal E (zG, M) false (.inl i :: .inr (.inr (.inl 86)) :: r) kk = (0 ≤ zr i ∧ zr i < 40 ∧ kk (.inl (M 86 (zr i).toNat) :: r)) := by show (false = false ∧ _) = _; simp only [true_and]; rfl
theorem s_86 : zas (zG, M) (.inl z :: .inl i :: .inr (.inr (.inl 86)) :: r) kh = (0 ≤ zr i ∧ zr i < 40 ∧ kh r (zG, zup M 86 (zr i).toNat z)) := rfl
theorem n_86 : zlen E (zG, M) (.inr (.inr (.inl 86)) :: r) kk = kk (.inl 40 :: r) := rfl
theorem v_87 : zrecv (zG, M) (.inr (.inr (.inl 87)) :: r) 11 = True := by show (11 = 11) = True; simp
theorem g_87_0 : zgf (zG, M) 11 0 (.inr (.inr (.inl 87)) :: r) kk = kk (.inr (.inr (.inl 88)) :: r) := by show (11 = 11 ∧ _) = _; simp
theorem g_87_1 : zgf (zG, M) 11 1 (.inr (.inr (.inl 87)) :: r) kk = kk (.inr (.inr (.inl 89)) :: r) := by show (11 = 11 ∧ _) = _; simp
theorem g_87_2 : zgf (zG, M) 11 2 (.inr (.inr (.inl 87)) :: r) kk = kk (.inr (.inr (.inl 90)) :: r) := by show (11 = 11 ∧ _) = _; simp
theorem g_87_3 : zgf (zG, M) 11 3 (.inr (.inr (.inl 87)) :: r) kk = kk (.inl (M 87 3) :: r) := by show (11 = 11 ∧ _) = _; simp
theorem p_87_3 : zpf (zG, M) 11 3 0 (.inl z :: .inr (.inr (.inl 87)) :: r) kh = kh r (zG, zup M 87 3 z) := by show (11 = 11 ∧ ((0 : Int) = 0 ∨ _) ∧ _) = _; simp
theorem g_87_4 : zgf (zG, M) 11 4 (.inr (.inr (.inl 87)) :: r) kk = kk (.inr (.inr (.inl 91)) :: r) := by show (11 = 11 ∧ _) = _; simp
theorem g_87_5 : zgf (zG, M) 11 5 (.inr (.inr (.inl 87)) :: r) kk = kk (.inl (M 87 5) :: r) := by show (11 = 11 ∧ _) = _; simp
theorem p_87_5 : zpf (zG, M) 11 5 0 (.inl z :: .inr (.inr (.inl 87)) :: r) kh = kh r (zG, zup M 87 5 z) := by show (11 = 11 ∧ ((0 : Int) = 0 ∨ _) ∧ _) = _; simp
theorem g_87_6 : zgf (zG, M) 11 6 (.inr (.inr (.inl 87)) :: r) kk = kk (.inl (M 87 6) :: r) := by show (11 = 11 ∧ _) = _; simp
theorem p_87_6 : zpf (zG, M) 11 6 0 (.inl z :: .inr (.inr (.inl 87)) :: r) kh = kh r (zG, zup M 87 6 z) := by show (11 = 11 ∧ ((0 : Int) = 0 ∨ _) ∧ _) = _; simp
theorem g_87_7 : zgf (zG, M) 11 7 (.inr (.inr (.inl 87)) :: r) kk = kk (.inl (M 87 7) :: r) := by show (11 = 11 ∧ _) = _; simp
theorem p_87_7 : zpf (zG, M) 11 7 0 (.inl z :: .inr (.inr (.inl 87)) :: r) kh = kh r (zG, zup M 87 7 z) := by show (11 = 11 ∧ ((0 : Int) = 0 ∨ _) ∧ _) = _; simp
theorem g_87_8 : zgf (zG, M) 11 8 (.inr (.inr (.inl 87)) :: r) kk = kk (.inl (M 87 8) :: r) := by show (11 = 11 ∧ _) = _; simp
theorem p_87_8 : zpf (zG, M) 11 8 0 (.inl z :: .inr (.inr (.inl 87)) :: r) kh = kh r (zG, zup M 87 8 z) := by show (11 = 11 ∧ ((0 : Int) = 0 ∨ _) ∧ _) = _; simp
theorem g_87_9 : zgf (zG, M) 11 9 (.inr (.inr (.inl 87)) :: r) kk = kk (.inl (M 87 9) :: r) := by show (11 = 11 ∧ _) = _; simp
theorem p_87_9 : zpf (zG, M) 11 9 0 (.inl z :: .inr (.inr (.inl 87)) :: r) kh = kh r (zG, zup M 87 9 z) := by show (11 = 11 ∧ ((0 : Int) = 0 ∨ _) ∧ _) = _; simp
theorem g_87_10 : zgf (zG, M) 11 10 (.inr (.inr (.inl 87)) :: r) kk = kk (.inl (M 87 10) :: r) := by show (11 = 11 ∧ _) = _; simp
theorem p_87_10 : zpf (zG, M) 11 10 1 (.inl z :: .inr (.inr (.inl 87)) :: r) kh = ((zr z = 0 ∨ zr z = 1) ∧ kh r (zG, zup M 87 10 z)) := by show (11 = 11 ∧ ((1 : Int) = 0 ∨ (1 : Int) = 1 ∧ _) ∧ _) = _; simp
theorem g_87_11 : zgf (zG, M) 11 11 (.inr (.inr (.inl 87)) :: r) kk = kk (.inr (.inr (.inl 92)) :: r) := by show (11 = 11 ∧ _) = _; simp
theorem g_87_12 : zgf (zG, M) 11 12 (.inr (.inr (.inl 87)) :: r) kk = kk (.inr (.inr (.inl 93)) :: r) := by show (11 = 11 ∧ _) = _; simp
theorem g_87_13 : zgf (zG, M) 11 13 (.inr (.inr (.inl 87)) :: r) kk = kk (.inl (M 87 13) :: r) := by show (11 = 11 ∧ _) = _; simp
theorem p_87_13 : zpf (zG, M) 11 13 0 (.inl z :: .inr (.inr (.inl 87)) :: r) kh = kh r (zG, zup M 87 13 z) := by show (11 = 11 ∧ ((0 : Int) = 0 ∨ _) ∧ _) = _; simp
theorem g_87_14 : zgf (zG, M) 11 14 (.inr (.inr (.inl 87)) :: r) kk = kk (.inr (.inr (.inl 94)) :: r) := by show (11 = 11 ∧ _) = _; simp
theorem g_87_15 : zgf (zG, M) 11 15 (.inr (.inr (.inl 87)) :: r) kk = kk (.inl (M 87 15) :: r) := by show (11 = 11 ∧ _) = _; simp
theorem p_87_15 : zpf (zG, M) 11 15 0 (.inl z :: .inr (.inr (.inl 87)) :: r) kh = kh r (zG, zup M 87 15 z) := by show (11 = 11 ∧ ((0 : Int) = 0 ∨ _) ∧ _) = _; simp
theorem g_87_16 : zgf (zG, M) 11 16 (.inr (.inr (.inl 87)) :: r) kk = kk (.inr (.inr (.inl 95)) :: r) := by show (11 = 11 ∧ _) = _; simp
theorem g_87_17 : zgf (zG, M) 11 17 (.inr (.inr (.inl 87)) :: r) kk = kk (.inr (.inr (.inl 96)) :: r) := by show (11 = 11 ∧ _) = _; simp
theorem g_87_18 : zgf (zG, M) 11 18 (.inr (.inr (.inl 87)) :: r) kk = kk (.inr (.inr (.inl 97)) :: r) := by show (11 = 11 ∧ _) = _; simp
theorem g_87_19 : zgf (zG, M) 11 19 (.inr (.inr (.inl 87)) :: r) kk = kk (.inl (M 87 19) :: r) := by show (11 = 11 ∧ _) = _; simp
theorem p_87_19 : zpf (zG, M) 11 19 0 (.inl z :: .inr (.inr (.inl 87)) :: r) kh = kh r (zG, zup M 87 19 z) := by show (11 = 11 ∧ ((0 : Int) = 0 ∨ _) ∧ _) = _; simp
theorem g_87_20 : zgf (zG, M) 11 20 (.inr (.inr (.inl 87)) :: r) kk = kk (.inl (M 87 20) :: r) := by show (11 = 11 ∧ _) = _; simp
theorem p_87_20 : zpf (zG, M) 11 20 0 (.inl z :: .inr (.inr (.inl 87)) :: r) kh = kh r (zG, zup M 87 20 z) := by show (11 = 11 ∧ ((0 : Int) = 0 ∨ _) ∧ _) = _; simp
theorem g_87_21 : zgf (zG, M) 11 21 (.inr (.inr (.inl 87)) :: r) kk = kk (.inr (.inr (.inl 98)) :: r) := by show (11 = 11 ∧ _) = _; simp
theorem g_87_22 : zgf (zG, M) 11 22 (.inr (.inr (.inl 87)) :: r) kk = kk (.inr (.inr (.inl 99)) :: r) := by show (11 = 11 ∧ _) = _; simp
theorem g_87_23 : zgf (zG, M) 11 23 (.inr (.inr (.inl 87)) :: r) kk = kk (.inr (.inr (.inl 100)) :: r) := by show (11 = 11 ∧ _) = _; simp
theorem g_87_24 : zgf (zG, M) 11 24 (.inr (.inr (.inl 87)) :: r) kk = kk (.inr (.inr (.inl 101)) :: r) := by show (11 = 11 ∧ _) = _; simp
theorem l_88 : zal E (zG, M) false (.inl i :: .inr (.inr (.inl 88)) :: r) kk = (0 ≤ zr i ∧ zr i < 358 ∧ kk (.inl (M 88 (zr i).toNat) :: r)) := by show (false = false ∧ _) = _; simp only [true_and]; rfl
theorem s_88 : zas (zG, M) (.inl z :: .inl i :: .inr (.inr (.inl 88)) :: r) kh = (0 ≤ zr i ∧ zr i < 358 ∧ kh r (zG, zup M 88 (zr i).toNat z)) := rfl
theorem n_88 : zlen E (zG, M) (.inr (.inr (.inl 88)) :: r) kk = kk (.inl 358 :: r) := rfl
theorem l_89 : zal E (zG, M) false (.inl i :: .inr (.inr (.inl 89)) :: r) kk = (0 ≤ zr i ∧ zr i < 358 ∧ kk (.inl (M 89 (zr i).toNat) :: r)) := by show (false = false ∧ _) = _; simp only [true_and]; rfl
theorem s_89 : zas (zG, M) (.inl z :: .inl i :: .inr (.inr (.inl 89)) :: r) kh = (0 ≤ zr i ∧ zr i < 358 ∧ kh r (zG, zup M 89 (zr i).toNat z)) := rfl
theorem n_89 : zlen E (zG, M) (.inr (.inr (.inl 89)) :: r) kk = kk (.inl 358 :: r) := rfl
theorem l_90 : zal E (zG, M) false (.inl i :: .inr (.inr (.inl 90)) :: r) kk = (0 ≤ zr i ∧ zr i < 186 ∧ kk (.inl (M 90 (zr i).toNat) :: r)) := by show (false = false ∧ _) = _; simp only [true_and]; rfl
theorem s_90 : zas (zG, M) (.inl z :: .inl i :: .inr (.inr (.inl 90)) :: r) kh = (0 ≤ zr i ∧ zr i < 186 ∧ kh r (zG, zup M 90 (zr i).toNat z)) := rfl
theorem n_90 : zlen E (zG, M) (.inr (.inr (.inl 90)) :: r) kk = kk (.inl 186 :: r) := rfl
theorem l_91 : zal E (zG, M) false (.inl i :: .inr (.inr (.inl 91)) :: r) kk = (0 ≤ zr i ∧ zr i < 6 ∧ kk (.inl (M 91 (zr i).toNat) :: r)) := by show (false = false ∧ _) = _; simp only [true_and]; rfl
theorem s_91 : zas (zG, M) (.inl z :: .inl i :: .inr (.inr (.inl 91)) :: r) kh = (0 ≤ zr i ∧ zr i < 6 ∧ kh r (zG, zup M 91 (zr i).toNat z)) := rfl
theorem n_91 : zlen E (zG, M) (.inr (.inr (.inl 91)) :: r) kk = kk (.inl 6 :: r) := rfl
theorem l_92 : zal E (zG, M) false (.inl i :: .inr (.inr (.inl 92)) :: r) kk = (0 ≤ zr i ∧ zr i < 3 ∧ kk (.inl (M 92 (zr i).toNat) :: r)) := by show (false = false ∧ _) = _; simp only [true_and]; rfl
theorem s_92 : zas (zG, M) (.inl z :: .inl i :: .inr (.inr (.inl 92)) :: r) kh = (0 ≤ zr i ∧ zr i < 3 ∧ kh r (zG, zup M 92 (zr i).toNat z)) := rfl
theorem n_92 : zlen E (zG, M) (.inr (.inr (.inl 92)) :: r) kk = kk (.inl 3 :: r) := rfl
theorem l_93 : zal E (zG, M) false (.inl i :: .inr (.inr (.inl 93)) :: r) kk = (0 ≤ zr i ∧ zr i < 60 ∧ kk (.inl (M 93 (zr i).toNat) :: r)) := by show (false = false ∧ _) = _; simp only [true_and]; rfl
theorem s_93 : zas (zG, M) (.inl z :: .inl i :: .inr (.inr (.inl 93)) :: r) kh = (0 ≤ zr i ∧ zr i < 60 ∧ kh r (zG, zup M 93 (zr i).toNat z)) := rfl
theorem n_93 : zlen E (zG, M) (.inr (.inr (.inl 93)) :: r) kk = kk (.inl 60 :: r) := rfl
theorem l_94 : zal E (zG, M) false (.inl i :: .inr (.inr (.inl 94)) :: r) kk = (0 ≤ zr i ∧ zr i < 60 ∧ kk (.inl (M 94 (zr i).toNat) :: r)) := by show (false = false ∧ _) = _; simp only [true_and]; rfl
theorem s_94 : zas (zG, M) (.inl z :: .inl i :: .inr (.inr (.inl 94)) :: r) kh = (0 ≤ zr i ∧ zr i < 60 ∧ kh r (zG, zup M 94 (zr i).toNat z)) := rfl
theorem n_94 : zlen E (zG, M) (.inr (.inr (.inl 94)) :: r) kk = kk (.inl 60 :: r) := rfl
theorem l_95 : zal E (zG, M) false (.inl i :: .inr (.inr (.inl 95)) :: r) kk = (0 ≤ zr i ∧ zr i < 64 ∧ kk (.inl (M 95 (zr i).toNat) :: r)) := by show (false = false ∧ _) = _; simp only [true_and]; rfl
theorem s_95 : zas (zG, M) (.inl z :: .inl i :: .inr (.inr (.inl 95)) :: r) kh = (0 ≤ zr i ∧ zr i < 64 ∧ kh r (zG, zup M 95 (zr i).toNat z)) := rfl
theorem n_95 : zlen E (zG, M) (.inr (.inr (.inl 95)) :: r) kk = kk (.inl 64 :: r) := rfl
theorem l_96 : zal E (zG, M) false (.inl i :: .inr (.inr (.inl 96)) :: r) kk = (0 ≤ zr i ∧ zr i < 64 ∧ kk (.inl (M 96 (zr i).toNat) :: r)) := by show (false = false ∧ _) = _; simp only [true_and]; rfl
theorem s_96 : zas (zG, M) (.inl z :: .inl i :: .inr (.inr (.inl 96)) :: r) kh = (0 ≤ zr i ∧ zr i < 64 ∧ kh r (zG, zup M 96 (zr i).toNat z)) := rfl
theorem n_96 : zlen E (zG, M) (.inr (.inr (.inl 96)) :: r) kk = kk (.inl 64 :: r) := rfl
theorem l_97 : zal E (zG, M) false (.inl i :: .inr (.inr (.inl 97)) :: r) kk = (0 ≤ zr i ∧ zr i < 40 ∧ kk (.inl (M 97 (zr i).toNat) :: r)) := by show (false = false ∧ _) = _; simp only [true_and]; rfl
theorem s_97 : zas (zG, M) (.inl z :: .inl i :: .inr (.inr (.inl 97)) :: r) kh = (0 ≤ zr i ∧ zr i < 40 ∧ kh r (zG, zup M 97 (zr i).toNat z)) := rfl
theorem n_97 : zlen E (zG, M) (.inr (.inr (.inl 97)) :: r) kk = kk (.inl 40 :: r) := rfl
theorem l_98 : zal E (zG, M) false (.inl i :: .inr (.inr (.inl 98)) :: r) kk = (0 ≤ zr i ∧ zr i < 4 ∧ kk (.inl (M 98 (zr i).toNat) :: r)) := by show (false = false ∧ _) = _; simp only [true_and]; rfl
theorem s_98 : zas (zG, M) (.inl z :: .inl i :: .inr (.inr (.inl 98)) :: r) kh = (0 ≤ zr i ∧ zr i < 4 ∧ kh r (zG, zup M 98 (zr i).toNat z)) := rfl
theorem n_98 : zlen E (zG, M) (.inr (.inr (.inl 98)) :: r) kk = kk (.inl 4 :: r) := rfl
theorem l_99 : zal E (zG, M) false (.inl i :: .inr (.inr (.inl 99)) :: r) kk = (0 ≤ zr i ∧ zr i < 4 ∧ kk (.inl (M 99 (zr i).toNat) :: r)) := by show (false = false ∧ _) = _; simp only [true_and]; rfl
theorem s_99 : zas (zG, M) (.inl z :: .inl i :: .inr (.inr (.inl 99)) :: r) kh = (0 ≤ zr i ∧ zr i < 4 ∧ kh r (zG, zup M 99 (zr i).toNat z)) := rfl
theorem n_99 : zlen E (zG, M) (.inr (.inr (.inl 99)) :: r) kk = kk (.inl 4 :: r) := rfl
theorem l_100 : zal E (zG, M) false (.inl i :: .inr (.inr (.inl 100)) :: r) kk = (0 ≤ zr i ∧ zr i < 160 ∧ kk (.inl (M 100 (zr i).toNat) :: r)) := by show (false = false ∧ _) = _; simp only [true_and]; rfl
theorem s_100 : zas (zG, M) (.inl z :: .inl i :: .inr (.inr (.inl 100)) :: r) kh = (0 ≤ zr i ∧ zr i < 160 ∧ kh r (zG, zup M 100 (zr i).toNat z)) := rfl
theorem n_100 : zlen E (zG, M) (.inr (.inr (.inl 100)) :: r) kk = kk (.inl 160 :: r) := rfl
theorem l_101 : zal E (zG, M) false (.inl i :: .inr (.inr (.inl 101)) :: r) kk = (0 ≤ zr i ∧ zr i < 40 ∧ kk (.inl (M 101 (zr i).toNat) :: r)) := by show (false = false ∧ _) = _; simp only [true_and]; rfl
theorem s_101 : zas (zG, M) (.inl z :: .inl i :: .inr (.inr (.inl 101)) :: r) kh = (0 ≤ zr i ∧ zr i < 40 ∧ kh r (zG, zup M 101 (zr i).toNat z)) := rfl
theorem n_101 : zlen E (zG, M) (.inr (.inr (.inl 101)) :: r) kk = kk (.inl 40 :: r) := rfl
end
