/-! THE CLASS: objects of one kind, whichever of them -/
section
variable {E : ZE} {M : Nat → Nat → Int} {r : List ZV} {kk : List ZV → Prop} {kh : List ZV → ZH → Prop} {i z : Int}
def hillb (h : Nat) : Prop := h = 2 ∨ h = 27 ∨ h = 54
theorem vH {h : Nat} (hb : hillb h) : zrecv (zG, M) (.inr (.inr (.inl h)) :: r) 2 = True := by
  rcases hb with e | e | e <;> subst e
  · exact v_2
  · exact v_27
  · exact v_54
theorem gH_0 {h : Nat} (hb : hillb h) : zgf (zG, M) 2 0 (.inr (.inr (.inl h)) :: r) kk = kk (.inr (.inr (.inl (h + 1))) :: r) := by
  rcases hb with e | e | e <;> subst e
  · exact g_2_0
  · exact g_27_0
  · exact g_54_0
theorem gH_1 {h : Nat} (hb : hillb h) : zgf (zG, M) 2 1 (.inr (.inr (.inl h)) :: r) kk = kk (.inr (.inr (.inl (h + 2))) :: r) := by
  rcases hb with e | e | e <;> subst e
  · exact g_2_1
  · exact g_27_1
  · exact g_54_1
theorem gH_2 {h : Nat} (hb : hillb h) : zgf (zG, M) 2 2 (.inr (.inr (.inl h)) :: r) kk = kk (.inr (.inr (.inl (h + 3))) :: r) := by
  rcases hb with e | e | e <;> subst e
  · exact g_2_2
  · exact g_27_2
  · exact g_54_2
theorem gH_3 {h : Nat} (hb : hillb h) : zgf (zG, M) 2 3 (.inr (.inr (.inl h)) :: r) kk = kk (.inr (.inr (.inl (h + 4))) :: r) := by
  rcases hb with e | e | e <;> subst e
  · exact g_2_3
  · exact g_27_3
  · exact g_54_3
theorem gH_4 {h : Nat} (hb : hillb h) : zgf (zG, M) 2 4 (.inr (.inr (.inl h)) :: r) kk = kk (.inr (.inr (.inl (h + 5))) :: r) := by
  rcases hb with e | e | e <;> subst e
  · exact g_2_4
  · exact g_27_4
  · exact g_54_4
theorem gH_5 {h : Nat} (hb : hillb h) : zgf (zG, M) 2 5 (.inr (.inr (.inl h)) :: r) kk = kk (.inr (.inr (.inl (h + 6))) :: r) := by
  rcases hb with e | e | e <;> subst e
  · exact g_2_5
  · exact g_27_5
  · exact g_54_5
theorem gH_6 {h : Nat} (hb : hillb h) : zgf (zG, M) 2 6 (.inr (.inr (.inl h)) :: r) kk = kk (.inr (.inr (.inl (h + 7))) :: r) := by
  rcases hb with e | e | e <;> subst e
  · exact g_2_6
  · exact g_27_6
  · exact g_54_6
theorem gH_7 {h : Nat} (hb : hillb h) : zgf (zG, M) 2 7 (.inr (.inr (.inl h)) :: r) kk = kk (.inl (M h 7) :: r) := by
  rcases hb with e | e | e <;> subst e
  · exact g_2_7
  · exact g_27_7
  · exact g_54_7
theorem pH_7 {h : Nat} (hb : hillb h) : zpf (zG, M) 2 7 0 (.inl z :: .inr (.inr (.inl h)) :: r) kh = kh r (zG, zup M h 7 z) := by
  rcases hb with e | e | e <;> subst e
  · exact p_2_7
  · exact p_27_7
  · exact p_54_7
theorem gH_8 {h : Nat} (hb : hillb h) : zgf (zG, M) 2 8 (.inr (.inr (.inl h)) :: r) kk = kk (.inl (M h 8) :: r) := by
  rcases hb with e | e | e <;> subst e
  · exact g_2_8
  · exact g_27_8
  · exact g_54_8
theorem pH_8 {h : Nat} (hb : hillb h) : zpf (zG, M) 2 8 0 (.inl z :: .inr (.inr (.inl h)) :: r) kh = kh r (zG, zup M h 8 z) := by
  rcases hb with e | e | e <;> subst e
  · exact p_2_8
  · exact p_27_8
  · exact p_54_8
theorem gH_9 {h : Nat} (hb : hillb h) : zgf (zG, M) 2 9 (.inr (.inr (.inl h)) :: r) kk = kk (.inl (M h 9) :: r) := by
  rcases hb with e | e | e <;> subst e
  · exact g_2_9
  · exact g_27_9
  · exact g_54_9
theorem pH_9 {h : Nat} (hb : hillb h) : zpf (zG, M) 2 9 0 (.inl z :: .inr (.inr (.inl h)) :: r) kh = kh r (zG, zup M h 9 z) := by
  rcases hb with e | e | e <;> subst e
  · exact p_2_9
  · exact p_27_9
  · exact p_54_9
theorem lH_1 {h : Nat} (hb : hillb h) : zal E (zG, M) false (.inl i :: .inr (.inr (.inl (h + 1))) :: r) kk = (0 ≤ zr i ∧ zr i < 64 ∧ kk (.inl (M (h + 1) (zr i).toNat) :: r)) := by
  rcases hb with e | e | e <;> subst e
  · exact l_3
  · exact l_28
  · exact l_55
theorem sH_1 {h : Nat} (hb : hillb h) : zas (zG, M) (.inl z :: .inl i :: .inr (.inr (.inl (h + 1))) :: r) kh = (0 ≤ zr i ∧ zr i < 64 ∧ kh r (zG, zup M (h + 1) (zr i).toNat z)) := by
  rcases hb with e | e | e <;> subst e
  · exact s_3
  · exact s_28
  · exact s_55
theorem aH_1 {h : Nat} (hb : hillb h) : zG[h + 1]? = some (.inr (.inl 64)) := by
  rcases hb with e | e | e <;> subst e
  · exact rfl
  · exact rfl
  · exact rfl
theorem lH_2 {h : Nat} (hb : hillb h) : zal E (zG, M) false (.inl i :: .inr (.inr (.inl (h + 2))) :: r) kk = (0 ≤ zr i ∧ zr i < 64 ∧ kk (.inl (M (h + 2) (zr i).toNat) :: r)) := by
  rcases hb with e | e | e <;> subst e
  · exact l_4
  · exact l_29
  · exact l_56
theorem sH_2 {h : Nat} (hb : hillb h) : zas (zG, M) (.inl z :: .inl i :: .inr (.inr (.inl (h + 2))) :: r) kh = (0 ≤ zr i ∧ zr i < 64 ∧ kh r (zG, zup M (h + 2) (zr i).toNat z)) := by
  rcases hb with e | e | e <;> subst e
  · exact s_4
  · exact s_29
  · exact s_56
theorem aH_2 {h : Nat} (hb : hillb h) : zG[h + 2]? = some (.inr (.inl 64)) := by
  rcases hb with e | e | e <;> subst e
  · exact rfl
  · exact rfl
  · exact rfl
theorem lH_3 {h : Nat} (hb : hillb h) : zal E (zG, M) false (.inl i :: .inr (.inr (.inl (h + 3))) :: r) kk = (0 ≤ zr i ∧ zr i < 2 ∧ kk (.inl (M (h + 3) (zr i).toNat) :: r)) := by
  rcases hb with e | e | e <;> subst e
  · exact l_5
  · exact l_30
  · exact l_57
theorem sH_3 {h : Nat} (hb : hillb h) : zas (zG, M) (.inl z :: .inl i :: .inr (.inr (.inl (h + 3))) :: r) kh = (0 ≤ zr i ∧ zr i < 2 ∧ kh r (zG, zup M (h + 3) (zr i).toNat z)) := by
  rcases hb with e | e | e <;> subst e
  · exact s_5
  · exact s_30
  · exact s_57
theorem aH_3 {h : Nat} (hb : hillb h) : zG[h + 3]? = some (.inr (.inl 2)) := by
  rcases hb with e | e | e <;> subst e
  · exact rfl
  · exact rfl
  · exact rfl
theorem lH_4 {h : Nat} (hb : hillb h) : zal E (zG, M) false (.inl i :: .inr (.inr (.inl (h + 4))) :: r) kk = (0 ≤ zr i ∧ zr i < 2 ∧ kk (.inl (M (h + 4) (zr i).toNat) :: r)) := by
  rcases hb with e | e | e <;> subst e
  · exact l_6
  · exact l_31
  · exact l_58
theorem sH_4 {h : Nat} (hb : hillb h) : zas (zG, M) (.inl z :: .inl i :: .inr (.inr (.inl (h + 4))) :: r) kh = (0 ≤ zr i ∧ zr i < 2 ∧ kh r (zG, zup M (h + 4) (zr i).toNat z)) := by
  rcases hb with e | e | e <;> subst e
  · exact s_6
  · exact s_31
  · exact s_58
theorem aH_4 {h : Nat} (hb : hillb h) : zG[h + 4]? = some (.inr (.inl 2)) := by
  rcases hb with e | e | e <;> subst e
  · exact rfl
  · exact rfl
  · exact rfl
theorem lH_5 {h : Nat} (hb : hillb h) : zal E (zG, M) false (.inl i :: .inr (.inr (.inl (h + 5))) :: r) kk = (0 ≤ zr i ∧ zr i < 2 ∧ kk (.inl (M (h + 5) (zr i).toNat) :: r)) := by
  rcases hb with e | e | e <;> subst e
  · exact l_7
  · exact l_32
  · exact l_59
theorem sH_5 {h : Nat} (hb : hillb h) : zas (zG, M) (.inl z :: .inl i :: .inr (.inr (.inl (h + 5))) :: r) kh = (0 ≤ zr i ∧ zr i < 2 ∧ kh r (zG, zup M (h + 5) (zr i).toNat z)) := by
  rcases hb with e | e | e <;> subst e
  · exact s_7
  · exact s_32
  · exact s_59
theorem aH_5 {h : Nat} (hb : hillb h) : zG[h + 5]? = some (.inr (.inl 2)) := by
  rcases hb with e | e | e <;> subst e
  · exact rfl
  · exact rfl
  · exact rfl
theorem lH_6 {h : Nat} (hb : hillb h) : zal E (zG, M) false (.inl i :: .inr (.inr (.inl (h + 6))) :: r) kk = (0 ≤ zr i ∧ zr i < 2 ∧ kk (.inl (M (h + 6) (zr i).toNat) :: r)) := by
  rcases hb with e | e | e <;> subst e
  · exact l_8
  · exact l_33
  · exact l_60
theorem sH_6 {h : Nat} (hb : hillb h) : zas (zG, M) (.inl z :: .inl i :: .inr (.inr (.inl (h + 6))) :: r) kh = (0 ≤ zr i ∧ zr i < 2 ∧ kh r (zG, zup M (h + 6) (zr i).toNat z)) := by
  rcases hb with e | e | e <;> subst e
  · exact s_8
  · exact s_33
  · exact s_60
theorem aH_6 {h : Nat} (hb : hillb h) : zG[h + 6]? = some (.inr (.inl 2)) := by
  rcases hb with e | e | e <;> subst e
  · exact rfl
  · exact rfl
  · exact rfl
theorem lH_7 {h : Nat} (hb : hillb h) : zal E (zG, M) false (.inl i :: .inr (.inr (.inl (h + 7))) :: r) kk = (0 ≤ zr i ∧ zr i < 20 ∧ kk (.inl (M (h + 7) (zr i).toNat) :: r)) := by
  rcases hb with e | e | e <;> subst e
  · exact l_9
  · exact l_34
  · exact l_61
theorem sH_7 {h : Nat} (hb : hillb h) : zas (zG, M) (.inl z :: .inl i :: .inr (.inr (.inl (h + 7))) :: r) kh = (0 ≤ zr i ∧ zr i < 20 ∧ kh r (zG, zup M (h + 7) (zr i).toNat z)) := by
  rcases hb with e | e | e <;> subst e
  · exact s_9
  · exact s_34
  · exact s_61
theorem aH_7 {h : Nat} (hb : hillb h) : zG[h + 7]? = some (.inr (.inl 20)) := by
  rcases hb with e | e | e <;> subst e
  · exact rfl
  · exact rfl
  · exact rfl
def crewb (h : Nat) : Prop := h = 10 ∨ h = 35 ∨ h = 62
theorem vC {h : Nat} (hb : crewb h) : zrecv (zG, M) (.inr (.inr (.inl h)) :: r) 0 = True := by
  rcases hb with e | e | e <;> subst e
  · exact v_10
  · exact v_35
  · exact v_62
theorem gC_0 {h : Nat} (hb : crewb h) : zgf (zG, M) 0 0 (.inr (.inr (.inl h)) :: r) kk = kk (.inr (.inr (.inl (h + 1))) :: r) := by
  rcases hb with e | e | e <;> subst e
  · exact g_10_0
  · exact g_35_0
  · exact g_62_0
theorem gC_1 {h : Nat} (hb : crewb h) : zgf (zG, M) 0 1 (.inr (.inr (.inl h)) :: r) kk = kk (.inr (.inr (.inl (h + 2))) :: r) := by
  rcases hb with e | e | e <;> subst e
  · exact g_10_1
  · exact g_35_1
  · exact g_62_1
theorem gC_2 {h : Nat} (hb : crewb h) : zgf (zG, M) 0 2 (.inr (.inr (.inl h)) :: r) kk = kk (.inr (.inr (.inl (h + 3))) :: r) := by
  rcases hb with e | e | e <;> subst e
  · exact g_10_2
  · exact g_35_2
  · exact g_62_2
theorem gC_3 {h : Nat} (hb : crewb h) : zgf (zG, M) 0 3 (.inr (.inr (.inl h)) :: r) kk = kk (.inl (M h 3) :: r) := by
  rcases hb with e | e | e <;> subst e
  · exact g_10_3
  · exact g_35_3
  · exact g_62_3
theorem pC_3 {h : Nat} (hb : crewb h) : zpf (zG, M) 0 3 0 (.inl z :: .inr (.inr (.inl h)) :: r) kh = kh r (zG, zup M h 3 z) := by
  rcases hb with e | e | e <;> subst e
  · exact p_10_3
  · exact p_35_3
  · exact p_62_3
theorem lC_1 {h : Nat} (hb : crewb h) : zal E (zG, M) false (.inl i :: .inr (.inr (.inl (h + 1))) :: r) kk = (0 ≤ zr i ∧ zr i < 8 ∧ kk (.inl (M (h + 1) (zr i).toNat) :: r)) := by
  rcases hb with e | e | e <;> subst e
  · exact l_11
  · exact l_36
  · exact l_63
theorem sC_1 {h : Nat} (hb : crewb h) : zas (zG, M) (.inl z :: .inl i :: .inr (.inr (.inl (h + 1))) :: r) kh = (0 ≤ zr i ∧ zr i < 8 ∧ kh r (zG, zup M (h + 1) (zr i).toNat z)) := by
  rcases hb with e | e | e <;> subst e
  · exact s_11
  · exact s_36
  · exact s_63
theorem aC_1 {h : Nat} (hb : crewb h) : zG[h + 1]? = some (.inr (.inl 8)) := by
  rcases hb with e | e | e <;> subst e
  · exact rfl
  · exact rfl
  · exact rfl
theorem lC_2 {h : Nat} (hb : crewb h) : zal E (zG, M) false (.inl i :: .inr (.inr (.inl (h + 2))) :: r) kk = (0 ≤ zr i ∧ zr i < 8 ∧ kk (.inl (M (h + 2) (zr i).toNat) :: r)) := by
  rcases hb with e | e | e <;> subst e
  · exact l_12
  · exact l_37
  · exact l_64
theorem sC_2 {h : Nat} (hb : crewb h) : zas (zG, M) (.inl z :: .inl i :: .inr (.inr (.inl (h + 2))) :: r) kh = (0 ≤ zr i ∧ zr i < 8 ∧ kh r (zG, zup M (h + 2) (zr i).toNat z)) := by
  rcases hb with e | e | e <;> subst e
  · exact s_12
  · exact s_37
  · exact s_64
theorem aC_2 {h : Nat} (hb : crewb h) : zG[h + 2]? = some (.inr (.inl 8)) := by
  rcases hb with e | e | e <;> subst e
  · exact rfl
  · exact rfl
  · exact rfl
theorem lC_3 {h : Nat} (hb : crewb h) : zal E (zG, M) false (.inl i :: .inr (.inr (.inl (h + 3))) :: r) kk = (0 ≤ zr i ∧ zr i < 8 ∧ kk (.inl (M (h + 3) (zr i).toNat) :: r)) := by
  rcases hb with e | e | e <;> subst e
  · exact l_13
  · exact l_38
  · exact l_65
theorem sC_3 {h : Nat} (hb : crewb h) : zas (zG, M) (.inl z :: .inl i :: .inr (.inr (.inl (h + 3))) :: r) kh = (0 ≤ zr i ∧ zr i < 8 ∧ kh r (zG, zup M (h + 3) (zr i).toNat z)) := by
  rcases hb with e | e | e <;> subst e
  · exact s_13
  · exact s_38
  · exact s_65
theorem aC_3 {h : Nat} (hb : crewb h) : zG[h + 3]? = some (.inr (.inl 8)) := by
  rcases hb with e | e | e <;> subst e
  · exact rfl
  · exact rfl
  · exact rfl
def lawb (h : Nat) : Prop := h = 14 ∨ h = 18 ∨ h = 39 ∨ h = 43
theorem vL {h : Nat} (hb : lawb h) : zrecv (zG, M) (.inr (.inr (.inl h)) :: r) 3 = True := by
  rcases hb with e | e | e | e <;> subst e
  · exact v_14
  · exact v_18
  · exact v_39
  · exact v_43
theorem gL_0 {h : Nat} (hb : lawb h) : zgf (zG, M) 3 0 (.inr (.inr (.inl h)) :: r) kk = kk (.inr (.inr (.inl (h + 1))) :: r) := by
  rcases hb with e | e | e | e <;> subst e
  · exact g_14_0
  · exact g_18_0
  · exact g_39_0
  · exact g_43_0
theorem gL_1 {h : Nat} (hb : lawb h) : zgf (zG, M) 3 1 (.inr (.inr (.inl h)) :: r) kk = kk (.inr (.inr (.inl (h + 3))) :: r) := by
  rcases hb with e | e | e | e <;> subst e
  · exact g_14_1
  · exact g_18_1
  · exact g_39_1
  · exact g_43_1
theorem lL_3 {h : Nat} (hb : lawb h) : zal E (zG, M) false (.inl i :: .inr (.inr (.inl (h + 3))) :: r) kk = (0 ≤ zr i ∧ zr i < 50 ∧ kk (.inl (M (h + 3) (zr i).toNat) :: r)) := by
  rcases hb with e | e | e | e <;> subst e
  · exact l_17
  · exact l_21
  · exact l_42
  · exact l_46
theorem sL_3 {h : Nat} (hb : lawb h) : zas (zG, M) (.inl z :: .inl i :: .inr (.inr (.inl (h + 3))) :: r) kh = (0 ≤ zr i ∧ zr i < 50 ∧ kh r (zG, zup M (h + 3) (zr i).toNat z)) := by
  rcases hb with e | e | e | e <;> subst e
  · exact s_17
  · exact s_21
  · exact s_42
  · exact s_46
theorem aL_3 {h : Nat} (hb : lawb h) : zG[h + 3]? = some (.inr (.inl 50)) := by
  rcases hb with e | e | e | e <;> subst e
  · exact rfl
  · exact rfl
  · exact rfl
  · exact rfl
def shtb (h : Nat) : Prop := h = 79 ∨ h = 81 ∨ h = 83 ∨ h = 85
theorem vS {h : Nat} (hb : shtb h) : zrecv (zG, M) (.inr (.inr (.inl h)) :: r) 7 = True := by
  rcases hb with e | e | e | e <;> subst e
  · exact v_79
  · exact v_81
  · exact v_83
  · exact v_85
theorem gS_0 {h : Nat} (hb : shtb h) : zgf (zG, M) 7 0 (.inr (.inr (.inl h)) :: r) kk = kk (.inr (.inr (.inl (h + 1))) :: r) := by
  rcases hb with e | e | e | e <;> subst e
  · exact g_79_0
  · exact g_81_0
  · exact g_83_0
  · exact g_85_0
theorem gS_1 {h : Nat} (hb : shtb h) : zgf (zG, M) 7 1 (.inr (.inr (.inl h)) :: r) kk = kk (.inl (M h 1) :: r) := by
  rcases hb with e | e | e | e <;> subst e
  · exact g_79_1
  · exact g_81_1
  · exact g_83_1
  · exact g_85_1
theorem pS_1 {h : Nat} (hb : shtb h) : zpf (zG, M) 7 1 0 (.inl z :: .inr (.inr (.inl h)) :: r) kh = kh r (zG, zup M h 1 z) := by
  rcases hb with e | e | e | e <;> subst e
  · exact p_79_1
  · exact p_81_1
  · exact p_83_1
  · exact p_85_1
theorem gS_2 {h : Nat} (hb : shtb h) : zgf (zG, M) 7 2 (.inr (.inr (.inl h)) :: r) kk = kk (.inl (M h 2) :: r) := by
  rcases hb with e | e | e | e <;> subst e
  · exact g_79_2
  · exact g_81_2
  · exact g_83_2
  · exact g_85_2
theorem pS_2 {h : Nat} (hb : shtb h) : zpf (zG, M) 7 2 0 (.inl z :: .inr (.inr (.inl h)) :: r) kh = kh r (zG, zup M h 2 z) := by
  rcases hb with e | e | e | e <;> subst e
  · exact p_79_2
  · exact p_81_2
  · exact p_83_2
  · exact p_85_2
theorem lS_1 {h : Nat} (hb : shtb h) : zal E (zG, M) false (.inl i :: .inr (.inr (.inl (h + 1))) :: r) kk = (0 ≤ zr i ∧ zr i < 40 ∧ kk (.inl (M (h + 1) (zr i).toNat) :: r)) := by
  rcases hb with e | e | e | e <;> subst e
  · exact l_80
  · exact l_82
  · exact l_84
  · exact l_86
theorem sS_1 {h : Nat} (hb : shtb h) : zas (zG, M) (.inl z :: .inl i :: .inr (.inr (.inl (h + 1))) :: r) kh = (0 ≤ zr i ∧ zr i < 40 ∧ kh r (zG, zup M (h + 1) (zr i).toNat z)) := by
  rcases hb with e | e | e | e <;> subst e
  · exact s_80
  · exact s_82
  · exact s_84
  · exact s_86
theorem aS_1 {h : Nat} (hb : shtb h) : zG[h + 1]? = some (.inr (.inl 40)) := by
  rcases hb with e | e | e | e <;> subst e
  · exact rfl
  · exact rfl
  · exact rfl
  · exact rfl
def rowb (h n : Nat) : Prop := (h = 15 ∧ n = 50) ∨ (h = 19 ∧ n = 50) ∨ (h = 22 ∧ n = 50) ∨ (h = 24 ∧ n = 20) ∨ (h = 40 ∧ n = 50) ∨ (h = 44 ∧ n = 50) ∨ (h = 47 ∧ n = 50) ∨ (h = 49 ∧ n = 20) ∨ (h = 68 ∧ n = 50) ∨ (h = 75 ∧ n = 40)
theorem vR {h n : Nat} (hb : rowb h n) : zrecv (zG, M) (.inr (.inr (.inl h)) :: r) 5 = True := by
  rcases hb with ⟨e, e2⟩ | ⟨e, e2⟩ | ⟨e, e2⟩ | ⟨e, e2⟩ | ⟨e, e2⟩ | ⟨e, e2⟩ | ⟨e, e2⟩ | ⟨e, e2⟩ | ⟨e, e2⟩ | ⟨e, e2⟩ <;> subst e <;> subst e2
  · exact v_15
  · exact v_19
  · exact v_22
  · exact v_24
  · exact v_40
  · exact v_44
  · exact v_47
  · exact v_49
  · exact v_68
  · exact v_75
theorem gR_0 {h n : Nat} (hb : rowb h n) : zgf (zG, M) 5 0 (.inr (.inr (.inl h)) :: r) kk = kk (.inr (.inr (.inl (h + 1))) :: r) := by
  rcases hb with ⟨e, e2⟩ | ⟨e, e2⟩ | ⟨e, e2⟩ | ⟨e, e2⟩ | ⟨e, e2⟩ | ⟨e, e2⟩ | ⟨e, e2⟩ | ⟨e, e2⟩ | ⟨e, e2⟩ | ⟨e, e2⟩ <;> subst e <;> subst e2
  · exact g_15_0
  · exact g_19_0
  · exact g_22_0
  · exact g_24_0
  · exact g_40_0
  · exact g_44_0
  · exact g_47_0
  · exact g_49_0
  · exact g_68_0
  · exact g_75_0
theorem gR_1 {h n : Nat} (hb : rowb h n) : zgf (zG, M) 5 1 (.inr (.inr (.inl h)) :: r) kk = kk (.inl (M h 1) :: r) := by
  rcases hb with ⟨e, e2⟩ | ⟨e, e2⟩ | ⟨e, e2⟩ | ⟨e, e2⟩ | ⟨e, e2⟩ | ⟨e, e2⟩ | ⟨e, e2⟩ | ⟨e, e2⟩ | ⟨e, e2⟩ | ⟨e, e2⟩ <;> subst e <;> subst e2
  · exact g_15_1
  · exact g_19_1
  · exact g_22_1
  · exact g_24_1
  · exact g_40_1
  · exact g_44_1
  · exact g_47_1
  · exact g_49_1
  · exact g_68_1
  · exact g_75_1
theorem pR_1 {h n : Nat} (hb : rowb h n) : zpf (zG, M) 5 1 0 (.inl z :: .inr (.inr (.inl h)) :: r) kh = kh r (zG, zup M h 1 z) := by
  rcases hb with ⟨e, e2⟩ | ⟨e, e2⟩ | ⟨e, e2⟩ | ⟨e, e2⟩ | ⟨e, e2⟩ | ⟨e, e2⟩ | ⟨e, e2⟩ | ⟨e, e2⟩ | ⟨e, e2⟩ | ⟨e, e2⟩ <;> subst e <;> subst e2
  · exact p_15_1
  · exact p_19_1
  · exact p_22_1
  · exact p_24_1
  · exact p_40_1
  · exact p_44_1
  · exact p_47_1
  · exact p_49_1
  · exact p_68_1
  · exact p_75_1
theorem lR_1 {h n : Nat} (hb : rowb h n) : zal E (zG, M) false (.inl i :: .inr (.inr (.inl (h + 1))) :: r) kk = (0 ≤ zr i ∧ zr i < n ∧ kk (.inl (M (h + 1) (zr i).toNat) :: r)) := by
  rcases hb with ⟨e, e2⟩ | ⟨e, e2⟩ | ⟨e, e2⟩ | ⟨e, e2⟩ | ⟨e, e2⟩ | ⟨e, e2⟩ | ⟨e, e2⟩ | ⟨e, e2⟩ | ⟨e, e2⟩ | ⟨e, e2⟩ <;> subst e <;> subst e2
  · exact l_16
  · exact l_20
  · exact l_23
  · exact l_25
  · exact l_41
  · exact l_45
  · exact l_48
  · exact l_50
  · exact l_69
  · exact l_76
theorem sR_1 {h n : Nat} (hb : rowb h n) : zas (zG, M) (.inl z :: .inl i :: .inr (.inr (.inl (h + 1))) :: r) kh = (0 ≤ zr i ∧ zr i < n ∧ kh r (zG, zup M (h + 1) (zr i).toNat z)) := by
  rcases hb with ⟨e, e2⟩ | ⟨e, e2⟩ | ⟨e, e2⟩ | ⟨e, e2⟩ | ⟨e, e2⟩ | ⟨e, e2⟩ | ⟨e, e2⟩ | ⟨e, e2⟩ | ⟨e, e2⟩ | ⟨e, e2⟩ <;> subst e <;> subst e2
  · exact s_16
  · exact s_20
  · exact s_23
  · exact s_25
  · exact s_41
  · exact s_45
  · exact s_48
  · exact s_50
  · exact s_69
  · exact s_76
theorem nR_1 {h n : Nat} (hb : rowb h n) : zlen E (zG, M) (.inr (.inr (.inl (h + 1))) :: r) kk = kk (.inl (n : Int) :: r) := by
  rcases hb with ⟨e, e2⟩ | ⟨e, e2⟩ | ⟨e, e2⟩ | ⟨e, e2⟩ | ⟨e, e2⟩ | ⟨e, e2⟩ | ⟨e, e2⟩ | ⟨e, e2⟩ | ⟨e, e2⟩ | ⟨e, e2⟩ <;> subst e <;> subst e2
  · exact n_16
  · exact n_20
  · exact n_23
  · exact n_25
  · exact n_41
  · exact n_45
  · exact n_48
  · exact n_50
  · exact n_69
  · exact n_76
theorem aR_1 {h n : Nat} (hb : rowb h n) : zG[h + 1]? = some (.inr (.inl n)) := by
  rcases hb with ⟨e, e2⟩ | ⟨e, e2⟩ | ⟨e, e2⟩ | ⟨e, e2⟩ | ⟨e, e2⟩ | ⟨e, e2⟩ | ⟨e, e2⟩ | ⟨e, e2⟩ | ⟨e, e2⟩ | ⟨e, e2⟩ <;> subst e <;> subst e2
  · exact rfl
  · exact rfl
  · exact rfl
  · exact rfl
  · exact rfl
  · exact rfl
  · exact rfl
  · exact rfl
  · exact rfl
  · exact rfl
def digb (g h c v : Nat) : Prop := (g = 51 ∧ h = 2 ∧ c = 10 ∧ v = 52) ∨ (g = 53 ∧ h = 54 ∧ c = 62 ∧ v = 66)
theorem vD {g h c v : Nat} (hb : digb g h c v) : zrecv (zG, M) (.inr (.inr (.inl g)) :: r) 1 = True := by
  rcases hb with ⟨e, e2, e3, e4⟩ | ⟨e, e2, e3, e4⟩ <;> subst e <;> subst e2 <;> subst e3 <;> subst e4
  · exact v_51
  · exact v_53
theorem gD_0 {g h c v : Nat} (hb : digb g h c v) : zgf (zG, M) 1 0 (.inr (.inr (.inl g)) :: r) kk = kk (.inr (.inr (.inl h)) :: r) := by
  rcases hb with ⟨e, e2, e3, e4⟩ | ⟨e, e2, e3, e4⟩ <;> subst e <;> subst e2 <;> subst e3 <;> subst e4
  · exact g_51_0
  · exact g_53_0
theorem gD_1 {g h c v : Nat} (hb : digb g h c v) : zgf (zG, M) 1 1 (.inr (.inr (.inl g)) :: r) kk = kk (.inr (.inr (.inl c)) :: r) := by
  rcases hb with ⟨e, e2, e3, e4⟩ | ⟨e, e2, e3, e4⟩ <;> subst e <;> subst e2 <;> subst e3 <;> subst e4
  · exact g_51_1
  · exact g_53_1
theorem gD_2 {g h c v : Nat} (hb : digb g h c v) : zgf (zG, M) 1 2 (.inr (.inr (.inl g)) :: r) kk = kk (.inr (.inr (.inl 14)) :: r) := by
  rcases hb with ⟨e, e2, e3, e4⟩ | ⟨e, e2, e3, e4⟩ <;> subst e <;> subst e2 <;> subst e3 <;> subst e4
  · exact g_51_2
  · exact g_53_2
theorem gD_3 {g h c v : Nat} (hb : digb g h c v) : zgf (zG, M) 1 3 (.inr (.inr (.inl g)) :: r) kk = kk (.inr (.inr (.inl 18)) :: r) := by
  rcases hb with ⟨e, e2, e3, e4⟩ | ⟨e, e2, e3, e4⟩ <;> subst e <;> subst e2 <;> subst e3 <;> subst e4
  · exact g_51_3
  · exact g_53_3
theorem gD_4 {g h c v : Nat} (hb : digb g h c v) : zgf (zG, M) 1 4 (.inr (.inr (.inl g)) :: r) kk = kk (.inr (.inr (.inl v)) :: r) := by
  rcases hb with ⟨e, e2, e3, e4⟩ | ⟨e, e2, e3, e4⟩ <;> subst e <;> subst e2 <;> subst e3 <;> subst e4
  · exact g_51_4
  · exact g_53_4
theorem gD_5 {g h c v : Nat} (hb : digb g h c v) : zgf (zG, M) 1 5 (.inr (.inr (.inl g)) :: r) kk = kk (.inl (M g 5) :: r) := by
  rcases hb with ⟨e, e2, e3, e4⟩ | ⟨e, e2, e3, e4⟩ <;> subst e <;> subst e2 <;> subst e3 <;> subst e4
  · exact g_51_5
  · exact g_53_5
theorem gD_6 {g h c v : Nat} (hb : digb g h c v) : zgf (zG, M) 1 6 (.inr (.inr (.inl g)) :: r) kk = kk (.inl (M g 6) :: r) := by
  rcases hb with ⟨e, e2, e3, e4⟩ | ⟨e, e2, e3, e4⟩ <;> subst e <;> subst e2 <;> subst e3 <;> subst e4
  · exact g_51_6
  · exact g_53_6
theorem gD_7 {g h c v : Nat} (hb : digb g h c v) : zgf (zG, M) 1 7 (.inr (.inr (.inl g)) :: r) kk = kk (.inl (M g 7) :: r) := by
  rcases hb with ⟨e, e2, e3, e4⟩ | ⟨e, e2, e3, e4⟩ <;> subst e <;> subst e2 <;> subst e3 <;> subst e4
  · exact g_51_7
  · exact g_53_7
theorem gD_8 {g h c v : Nat} (hb : digb g h c v) : zgf (zG, M) 1 8 (.inr (.inr (.inl g)) :: r) kk = kk (.inl (M g 8) :: r) := by
  rcases hb with ⟨e, e2, e3, e4⟩ | ⟨e, e2, e3, e4⟩ <;> subst e <;> subst e2 <;> subst e3 <;> subst e4
  · exact g_51_8
  · exact g_53_8
theorem gD_9 {g h c v : Nat} (hb : digb g h c v) : zgf (zG, M) 1 9 (.inr (.inr (.inl g)) :: r) kk = kk (.inl (M g 9) :: r) := by
  rcases hb with ⟨e, e2, e3, e4⟩ | ⟨e, e2, e3, e4⟩ <;> subst e <;> subst e2 <;> subst e3 <;> subst e4
  · exact g_51_9
  · exact g_53_9
theorem pD_5 {g h c v : Nat} (hb : digb g h c v) : zpf (zG, M) 1 5 0 (.inl z :: .inr (.inr (.inl g)) :: r) kh = kh r (zG, zup M g 5 z) := by
  rcases hb with ⟨e, e2, e3, e4⟩ | ⟨e, e2, e3, e4⟩ <;> subst e <;> subst e2 <;> subst e3 <;> subst e4
  · exact p_51_5
  · exact p_53_5
theorem pD_6 {g h c v : Nat} (hb : digb g h c v) : zpf (zG, M) 1 6 0 (.inl z :: .inr (.inr (.inl g)) :: r) kh = kh r (zG, zup M g 6 z) := by
  rcases hb with ⟨e, e2, e3, e4⟩ | ⟨e, e2, e3, e4⟩ <;> subst e <;> subst e2 <;> subst e3 <;> subst e4
  · exact p_51_6
  · exact p_53_6
theorem pD_7 {g h c v : Nat} (hb : digb g h c v) : zpf (zG, M) 1 7 0 (.inl z :: .inr (.inr (.inl g)) :: r) kh = kh r (zG, zup M g 7 z) := by
  rcases hb with ⟨e, e2, e3, e4⟩ | ⟨e, e2, e3, e4⟩ <;> subst e <;> subst e2 <;> subst e3 <;> subst e4
  · exact p_51_7
  · exact p_53_7
theorem pD_8 {g h c v : Nat} (hb : digb g h c v) : zpf (zG, M) 1 8 0 (.inl z :: .inr (.inr (.inl g)) :: r) kh = kh r (zG, zup M g 8 z) := by
  rcases hb with ⟨e, e2, e3, e4⟩ | ⟨e, e2, e3, e4⟩ <;> subst e <;> subst e2 <;> subst e3 <;> subst e4
  · exact p_51_8
  · exact p_53_8
theorem pD_9 {g h c v : Nat} (hb : digb g h c v) : zpf (zG, M) 1 9 1 (.inl z :: .inr (.inr (.inl g)) :: r) kh = ((zr z = 0 ∨ zr z = 1) ∧ kh r (zG, zup M g 9 z)) := by
  rcases hb with ⟨e, e2, e3, e4⟩ | ⟨e, e2, e3, e4⟩ <;> subst e <;> subst e2 <;> subst e3 <;> subst e4
  · exact p_51_9
  · exact p_53_9
theorem lD_v {g h c v : Nat} (hb : digb g h c v) : zal E (zG, M) false (.inl i :: .inr (.inr (.inl v)) :: r) kk = (0 ≤ zr i ∧ zr i < 4 ∧ kk (.inl (M v (zr i).toNat) :: r)) := by
  rcases hb with ⟨e, e2, e3, e4⟩ | ⟨e, e2, e3, e4⟩ <;> subst e <;> subst e2 <;> subst e3 <;> subst e4
  · exact l_52
  · exact l_66
theorem sD_v {g h c v : Nat} (hb : digb g h c v) : zas (zG, M) (.inl z :: .inl i :: .inr (.inr (.inl v)) :: r) kh = (0 ≤ zr i ∧ zr i < 4 ∧ kh r (zG, zup M v (zr i).toNat z)) := by
  rcases hb with ⟨e, e2, e3, e4⟩ | ⟨e, e2, e3, e4⟩ <;> subst e <;> subst e2 <;> subst e3 <;> subst e4
  · exact s_52
  · exact s_66
theorem aD_v {g h c v : Nat} (hb : digb g h c v) : zG[v]? = some (.inr (.inl 4)) := by
  rcases hb with ⟨e, e2, e3, e4⟩ | ⟨e, e2, e3, e4⟩ <;> subst e <;> subst e2 <;> subst e3 <;> subst e4
  · exact rfl
  · exact rfl
theorem hD {g h c v : Nat} (hb : digb g h c v) : hillb h := by
  rcases hb with ⟨e, e2, e3, e4⟩ | ⟨e, e2, e3, e4⟩ <;> subst e <;> subst e2 <;> subst e3 <;> subst e4
  · exact Or.inl rfl
  · exact Or.inr (Or.inr rfl)
theorem cD {g h c v : Nat} (hb : digb g h c v) : crewb c := by
  rcases hb with ⟨e, e2, e3, e4⟩ | ⟨e, e2, e3, e4⟩ <;> subst e <;> subst e2 <;> subst e3 <;> subst e4
  · exact Or.inl rfl
  · exact Or.inr (Or.inr rfl)
theorem l_q0 : zal E (zG, M) false (.inl i :: .inr (.inr (.inr 0)) :: r) kk = (0 ≤ zr i ∧ zr i < 7 ∧ kk (.inl (zrF 0 E.2.2.2.2.2.2 (zr i).toNat) :: r)) := by
  show ((false = true ↔ 0 = 2) ∧ 0 < 4 ∧ 0 ≤ zr i ∧ zr i < ((7 : Nat) : Int) ∧ _) = _
  simp
theorem l_q1 : zal E (zG, M) false (.inl i :: .inr (.inr (.inr 1)) :: r) kk = (0 ≤ zr i ∧ zr i < 28 ∧ kk (.inl (zrF 1 E.2.2.2.2.2.2 (zr i).toNat) :: r)) := by
  show ((false = true ↔ 1 = 2) ∧ 1 < 4 ∧ 0 ≤ zr i ∧ zr i < ((28 : Nat) : Int) ∧ _) = _
  simp
theorem l_q2 : zal E (zG, M) true (.inl i :: .inr (.inr (.inr 2)) :: r) kk = (0 ≤ zr i ∧ zr i < 6 ∧ kk (.inl (zrF 2 E.2.2.2.2.2.2 (zr i).toNat) :: r)) := by
  show ((true = true ↔ 2 = 2) ∧ 2 < 4 ∧ 0 ≤ zr i ∧ zr i < ((6 : Nat) : Int) ∧ _) = _
  simp
theorem l_77 : zaal (zG, M) (.inl i :: .inr (.inr (.inl 77)) :: r) kk = (0 ≤ zr i ∧ zr i < 4 ∧ kk (.inr (.inr (.inl (79 + 2 * (zr i).toNat))) :: r)) := by
  apply propext
  have e : zaal (zG, M) (.inl i :: .inr (.inr (.inl 77)) :: r) kk ↔ (0 ≤ zr i ∧ zr i < 4 ∧ (match va_up (va_up (va_up (va_up (fun _ => none) 0 (some 79)) 1 (some 81)) 2 (some 83)) 3 (some 85) (zr i).toNat with
    | some t => kk (.inr (.inr (.inl t)) :: r)
    | none => False)) := Iff.rfl
  rw [e]
  generalize zr i = j
  refine ⟨fun ⟨a, b, c⟩ => ⟨a, b, ?_⟩, fun ⟨a, b, c⟩ => ⟨a, b, ?_⟩⟩
  · have : j = 0 ∨ j = 1 ∨ j = 2 ∨ j = 3 := by omega
    rcases this with q | q | q | q <;> subst q <;> exact c
  · have : j = 0 ∨ j = 1 ∨ j = 2 ∨ j = 3 := by omega
    rcases this with q | q | q | q <;> subst q <;> exact c
theorem cp_of {a0 a1 n0 n1 : Nat} {n dp sp : Int} (h0 : zG[a0]? = some (.inr (.inl n0))) (h1 : zG[a1]? = some (.inr (.inl n1))) : zcopy (zG, M) (.inl n :: .inl dp :: .inr (.inr (.inl a1)) :: .inl sp :: .inr (.inr (.inl a0)) :: r) kh = ((r.map zcat).sum ≤ 8 ∧ 0 ≤ zr sp ∧ 0 ≤ zr dp ∧ 0 ≤ zr n ∧ zr sp + zr n ≤ n0 ∧ zr dp + zr n ≤ n1 ∧ kh r (zG, zcp M a0 a1 (zr sp).toNat (zr dp).toNat (zr n).toNat)) := by
  show (_ ∧ (match zG[a0]?, zG[a1]? with
    | some (.inr (.inl n0)), some (.inr (.inl n1)) => 0 ≤ zr sp ∧ 0 ≤ zr dp ∧ 0 ≤ zr n ∧ zr sp + zr n ≤ n0 ∧ zr dp + zr n ≤ n1 ∧ kh r (zG, zcp M a0 a1 (zr sp).toNat (zr dp).toNat (zr n).toNat)
    | _, _ => False)) = _
  rw [h0, h1]
theorem lA_of {a n : Nat} (h0 : zG[a]? = some (.inr (.inl n))) : zal E (zG, M) false (.inl i :: .inr (.inr (.inl a)) :: r) kk = (0 ≤ zr i ∧ zr i < n ∧ kk (.inl (M a (zr i).toNat) :: r)) := by
  show (false = false ∧ (match zG[a]? with
    | some (.inr (.inl n)) => 0 ≤ zr i ∧ zr i < n ∧ kk (.inl (M a (zr i).toNat) :: r)
    | _ => False)) = _
  rw [h0]; simp
theorem sA_of {a n : Nat} (h0 : zG[a]? = some (.inr (.inl n))) : zas (zG, M) (.inl z :: .inl i :: .inr (.inr (.inl a)) :: r) kh = (0 ≤ zr i ∧ zr i < n ∧ kh r (zG, zup M a (zr i).toNat z)) := by
  show (match zG[a]? with
    | some (.inr (.inl n)) => 0 ≤ zr i ∧ zr i < n ∧ kh r (zG, zup M a (zr i).toNat z)
    | _ => False) = _
  rw [h0]
theorem nA_of {a n : Nat} (h0 : zG[a]? = some (.inr (.inl n))) : zlen E (zG, M) (.inr (.inr (.inl a)) :: r) kk = kk (.inl (n : Int) :: r) := by
  show (match zG[a]? with
    | some (.inr (.inl n)) => kk (.inl (n : Int) :: r)
    | some (.inr (.inr o)) => kk (.inl (o.1 : Int) :: r)
    | _ => False) = _
  rw [h0]
end
def k_J7_fill_53178_0 : List ZI := [(.iconst 0, 1, (0, [], [])), (.istore_n 2, 1, (0, [2], [])), (.aload_n 0, 1, (0, [0], [])), (.arraylength, 1, (0, [], [])), (.istore_n 3, 1, (0, [3], []))]
theorem ok_J7_fill_53178_0 : zOK cJ7_fill_53178 12 false 4 k_J7_fill_53178_0 0 = true := zOK_by (by decide +kernel)
def k_J7_fill_53178_5 : List ZI := [(.iload_n 2, 1, (0, [2], [])), (.iload_n 3, 1, (0, [3], [])), (.if_icmp .ge 13, 3, (0, [20], [])), (.aload_n 0, 1, (0, [0], [])), (.iload_n 2, 1, (0, [2], [])), (.iload_n 1, 1, (0, [1], [])), (.iastore, 1, (0, [], [])), (.iinc 2 1, 3, (0, [2], [])), (.goto (-12), 3, (0, [5], []))]
theorem ok_J7_fill_53178_5 : zOK cJ7_fill_53178 12 false 4 k_J7_fill_53178_5 5 = true := zOK_by (by decide +kernel)
def k_J7_fill_53178_20 : List ZI := [(.return_, 1, (0, [], []))]
theorem ok_J7_fill_53178_20 : zOK cJ7_fill_53178 12 false 4 k_J7_fill_53178_20 20 = true := zOK_by (by decide +kernel)
theorem rt_J7_fill_53178 {g : Nat} {post : Option ZV → ZH → Prop} {h : ZH} {b : ZB2} : zRt mJ7_fill_53178 g post none h b = (post none h ∧ h.1.length = g) := by show (_ ∧ _ ∧ True) = _; simp
def bk_J7_fill_53178_0 (E : ZE) (CT : Nat → ZC) (X : ZK) (Rt : ZR) (ls : ZL) (st : List ZV) (h : ZH) (b : ZB2) : Prop := zB E CT k_J7_fill_53178_0 0 ls st h b (fun t ls st h b => X t ls st h b) Rt
theorem bs_J7_fill_53178_0 {E : ZE} {CT : Nat → ZC} {X : ZK} {Rt : ZR} {ls : ZL} {st : List ZV} {h : ZH} {b : ZB2} (hX : zCl E mJ7_fill_53178 12 false CT Rt X) (q : bk_J7_fill_53178_0 E CT X Rt ls st h b) : X 0 ls st h b := by
  refine hX k_J7_fill_53178_0 0 ok_J7_fill_53178_0 _ ?_ ls st h b q
  exact fun t ls st h b q => q
def bk_J7_fill_53178_20 (E : ZE) (CT : Nat → ZC) (X : ZK) (Rt : ZR) (ls : ZL) (st : List ZV) (h : ZH) (b : ZB2) : Prop := zB E CT k_J7_fill_53178_20 20 ls st h b (fun t ls st h b => X t ls st h b) Rt
theorem bs_J7_fill_53178_20 {E : ZE} {CT : Nat → ZC} {X : ZK} {Rt : ZR} {ls : ZL} {st : List ZV} {h : ZH} {b : ZB2} (hX : zCl E mJ7_fill_53178 12 false CT Rt X) (q : bk_J7_fill_53178_20 E CT X Rt ls st h b) : X 20 ls st h b := by
  refine hX k_J7_fill_53178_20 20 ok_J7_fill_53178_20 _ ?_ ls st h b q
  exact fun t ls st h b q => q
def bk_J7_fill_53178_5 (E : ZE) (CT : Nat → ZC) (X : ZK) (Rt : ZR) (ls : ZL) (st : List ZV) (h : ZH) (b : ZB2) : Prop := zB E CT k_J7_fill_53178_5 5 ls st h b (fun t ls st h b => if t = 20 then bk_J7_fill_53178_20 E CT X Rt ls st h b else X t ls st h b) Rt
theorem bs_J7_fill_53178_5 {E : ZE} {CT : Nat → ZC} {X : ZK} {Rt : ZR} {ls : ZL} {st : List ZV} {h : ZH} {b : ZB2} (hX : zCl E mJ7_fill_53178 12 false CT Rt X) (q : bk_J7_fill_53178_5 E CT X Rt ls st h b) : X 5 ls st h b := by
  refine hX k_J7_fill_53178_5 5 ok_J7_fill_53178_5 _ ?_ ls st h b q
  exact by
    intro t ls st h b q
    by_cases c : t = 20
    · subst c; rw [if_pos rfl] at q; exact bs_J7_fill_53178_20 hX q
    rw [if_neg c] at q
    exact q
-- J7_fill_53178: cuts [5]
def B_fill (a : Nat) (v : Int) (M : Nat → Nat → Int) (post : Option ZV → (Nat → Nat → Int) → Prop) : Prop := ∃ n : Nat, zG[a]? = some (.inr (.inl n)) ∧ n ≤ 1000 ∧ ∀ M2 : ZMm, M2 a = (fun k => if k < n then v else M a k) → (∀ x, ¬ x = a → M2 x = M x) → post none M2
def C_fill : ZC := fun as h post => match as with
  | [.inr (.inr (.inl a)), .inl v] => h.1 = zG ∧ B_fill a v h.2 (fun v M => post v (zG, M))
  | _ => False
theorem r_fill {a : Nat} {v : Int} {M : Nat → Nat → Int} {post : Option ZV → ZH → Prop} : C_fill [.inr (.inr (.inl a)), .inl v] (zG, M) post = B_fill a v M (fun v M => post v (zG, M)) := by show (zG = zG ∧ _) = _; simp
def ct_fill : Nat → ZC := fun n => fun _ _ _ => False
theorem c_fill {E : ZE} {d : Nat} (hd : 1 ≤ d) : zMet E d mJ7_fill_53178 C_fill := by
  refine zmet_of (o := 12) (ini := false) (CT := ct_fill) gd_J7_fill_53178 rfl (fun h => by cases h) (by omega) ?_ ?_
  · intro n as h post hh
    unfold ct_fill at hh
    exact hh.elim
  intro as h post hC
  match as, hC with
  | [.inr (.inr (.inl a)), .inl v], hC =>
    refine ⟨Nat.le_of_ble_eq_true rfl, fun X hX => bs_J7_fill_53178_0 hX ?_⟩
    obtain ⟨G, M⟩ := h
    obtain ⟨hG, hC⟩ := hC
    dsimp only at hG
    subst hG
    simp only [B_fill] at hC
    show bk_J7_fill_53178_0 E ct_fill X _ [some (.inr (.inr (.inl a))), some (.inl v), none, none] [] (zG, M) (0, 0)
    obtain ⟨n, ha, hn, hC⟩ := hC
    have zn : zr (n : Int) = n := zr_of (by omega) (by omega)
    have lp : ∀ (j k : Nat) (M' : ZMm), j + k = n → M' a = (fun i => if i < k then v else M a i) → (∀ x, ¬ x = a → M' x = M x) → X 5 [some (.inr (.inr (.inl a))), some (.inl v), some (.inl ((k : Int))), some (.inl ((n : Int)))] [] (zG, M') (0, 0) := by
      intro j
      induction j with
      | zero =>
        intro k M' hk hd hM
        refine bs_J7_fill_53178_5 hX ?_
        have zk : zr (k : Int) = k := zr_of (by omega) (by omega)
        have lk : ((k : Int) < n) = False := eq_false (by omega)
        simp only [bk_J7_fill_53178_0, k_J7_fill_53178_0, bk_J7_fill_53178_5, k_J7_fill_53178_5, bk_J7_fill_53178_20, k_J7_fill_53178_20, ↓e_rk1, ↓e_rk0, ↓e_sk0, ↓e_sks, ↓e_ldi0, ↓e_ldis, ↓e_ldl0, ↓e_ldls, ↓e_lda0, ↓e_ldas, ↓e_ok0, ↓e_okss, ↓e_ok1i, ↓e_ok1r, ↓e_ok1n, ↓e_sti, ↓e_sta, ↓e_1, ↓e_2, ↓e_l1, ↓e_l2, ↓e_li, ↓e_sw0, ↓e_sws, ↓e_ceq, ↓e_cne, ↓e_clt, ↓e_cge, ↓e_cgt, ↓e_cle, ↓e_nil, ↓e_cons, ↓e_iconst, ↓e_bipush, ↓e_sipush, ↓e_ldc, ↓e_ldcw, ↓e_ldc2, ↓e_lconst, ↓e_iloadn, ↓e_iload, ↓e_lloadn, ↓e_lload, ↓e_aloadn, ↓e_aload, ↓e_istoren, ↓e_istore, ↓e_astoren, ↓e_astore, ↓e_add, ↓e_iinc, ↓e_iadd, ↓e_isub, ↓e_imul, ↓e_iand, ↓e_ior, ↓e_ixor, ↓e_ishl, ↓e_iushr, ↓e_idiv, ↓e_irem, ↓e_ineg, ↓e_i2l, ↓e_i2b, ↓e_i2s, ↓e_l2i, ↓e_land, ↓e_lor, ↓e_lshl, ↓e_lshr, ↓e_lushr, ↓e_lcmp, ↓e_dupi, ↓e_dupr, ↓e_popi, ↓e_dup2, ↓e_goto, ↓e_if, ↓e_icmp, ↓e_tsw, ↓e_lsw, ↓e_getf, ↓e_putf, ↓e_gets, ↓e_iald, ↓e_cald, ↓e_iast, ↓e_aald, ↓e_aast, ↓e_len, ↓e_copy, ↓e_abs, ↓e_max, ↓e_min, ↓e_iret, ↓e_aret, ↓e_vret, ↓e_is0, ↓e_is1, ↓e_is2, ↓e_is3, ↓e_is4, ↓e_iv1, ↓e_iv2, ↓e_iv3, ↓e_iv4, ↓e_iv5, ↓e_iv6, ↓rt_J7_fill_53178, ↓reduceIte, Nat.reduceAdd, Nat.reduceEqDiff, ↓zcl0, ↓zclv, List.map_nil, List.sum_nil, List.map_cons, List.sum_cons, zcat, true_and, and_true, Nat.reduceLeDiff, Nat.reduceAdd, eq_self, forall_const, e_ok0, e_okss, e_ok1i, e_ok1r, e_ok1n, zl_0, Int.reduceToNat, Int.reduceAdd, Int.reduceMul, Int.reduceSub, Int.reduceNeg, Int.reduceLT, Int.reduceLE, Int.reduceEq, not_false_eq_true, not_true_eq_false, false_implies, true_implies, implies_true, Int.reduceDiv, Int.reduceMod, zr8_zr, zr_zbo, z01_zbo, z01_0, z01_1, zbo_eq0, zup_eq, zup_o, zup_k, ne_eq, ↓nA_of ha, ↓sA_of ha, zk, zn, lk]
        refine hC M' ?_ hM
        rw [hd, show k = n by omega]
      | succ j ih =>
        intro k M' hk hd hM
        refine bs_J7_fill_53178_5 hX ?_
        have zk : zr (k : Int) = k := zr_of (by omega) (by omega)
        have lk : ((k : Int) < n) = True := eq_true (by omega)
        simp only [bk_J7_fill_53178_0, k_J7_fill_53178_0, bk_J7_fill_53178_5, k_J7_fill_53178_5, bk_J7_fill_53178_20, k_J7_fill_53178_20, ↓e_rk1, ↓e_rk0, ↓e_sk0, ↓e_sks, ↓e_ldi0, ↓e_ldis, ↓e_ldl0, ↓e_ldls, ↓e_lda0, ↓e_ldas, ↓e_ok0, ↓e_okss, ↓e_ok1i, ↓e_ok1r, ↓e_ok1n, ↓e_sti, ↓e_sta, ↓e_1, ↓e_2, ↓e_l1, ↓e_l2, ↓e_li, ↓e_sw0, ↓e_sws, ↓e_ceq, ↓e_cne, ↓e_clt, ↓e_cge, ↓e_cgt, ↓e_cle, ↓e_nil, ↓e_cons, ↓e_iconst, ↓e_bipush, ↓e_sipush, ↓e_ldc, ↓e_ldcw, ↓e_ldc2, ↓e_lconst, ↓e_iloadn, ↓e_iload, ↓e_lloadn, ↓e_lload, ↓e_aloadn, ↓e_aload, ↓e_istoren, ↓e_istore, ↓e_astoren, ↓e_astore, ↓e_add, ↓e_iinc, ↓e_iadd, ↓e_isub, ↓e_imul, ↓e_iand, ↓e_ior, ↓e_ixor, ↓e_ishl, ↓e_iushr, ↓e_idiv, ↓e_irem, ↓e_ineg, ↓e_i2l, ↓e_i2b, ↓e_i2s, ↓e_l2i, ↓e_land, ↓e_lor, ↓e_lshl, ↓e_lshr, ↓e_lushr, ↓e_lcmp, ↓e_dupi, ↓e_dupr, ↓e_popi, ↓e_dup2, ↓e_goto, ↓e_if, ↓e_icmp, ↓e_tsw, ↓e_lsw, ↓e_getf, ↓e_putf, ↓e_gets, ↓e_iald, ↓e_cald, ↓e_iast, ↓e_aald, ↓e_aast, ↓e_len, ↓e_copy, ↓e_abs, ↓e_max, ↓e_min, ↓e_iret, ↓e_aret, ↓e_vret, ↓e_is0, ↓e_is1, ↓e_is2, ↓e_is3, ↓e_is4, ↓e_iv1, ↓e_iv2, ↓e_iv3, ↓e_iv4, ↓e_iv5, ↓e_iv6, ↓rt_J7_fill_53178, ↓reduceIte, Nat.reduceAdd, Nat.reduceEqDiff, ↓zcl0, ↓zclv, List.map_nil, List.sum_nil, List.map_cons, List.sum_cons, zcat, true_and, and_true, Nat.reduceLeDiff, Nat.reduceAdd, eq_self, forall_const, e_ok0, e_okss, e_ok1i, e_ok1r, e_ok1n, zl_0, Int.reduceToNat, Int.reduceAdd, Int.reduceMul, Int.reduceSub, Int.reduceNeg, Int.reduceLT, Int.reduceLE, Int.reduceEq, not_false_eq_true, not_true_eq_false, false_implies, true_implies, implies_true, Int.reduceDiv, Int.reduceMod, zr8_zr, zr_zbo, z01_zbo, z01_0, z01_1, zbo_eq0, zup_eq, zup_o, zup_k, ne_eq, ↓nA_of ha, ↓sA_of ha, zk, zn, lk, Int.toNat_natCast]
        repeat (refine And.intro (by omega) ?_)
        refine ih (k + 1) _ (by omega) ?_ (fun x q => by rw [zup_ne _ q]; exact hM x q)
        rw [zup_up, hd]
        funext i
        unfold up1
        by_cases q : i = k
        · subst q
          rw [if_pos rfl, if_pos (by omega)]
        · rw [if_neg q]; dsimp only
          by_cases q2 : i < k
          · rw [if_pos q2, if_pos (by omega)]
          · rw [if_neg q2, if_neg (by omega)]
    simp only [bk_J7_fill_53178_0, k_J7_fill_53178_0, bk_J7_fill_53178_5, k_J7_fill_53178_5, bk_J7_fill_53178_20, k_J7_fill_53178_20, ↓e_rk1, ↓e_rk0, ↓e_sk0, ↓e_sks, ↓e_ldi0, ↓e_ldis, ↓e_ldl0, ↓e_ldls, ↓e_lda0, ↓e_ldas, ↓e_ok0, ↓e_okss, ↓e_ok1i, ↓e_ok1r, ↓e_ok1n, ↓e_sti, ↓e_sta, ↓e_1, ↓e_2, ↓e_l1, ↓e_l2, ↓e_li, ↓e_sw0, ↓e_sws, ↓e_ceq, ↓e_cne, ↓e_clt, ↓e_cge, ↓e_cgt, ↓e_cle, ↓e_nil, ↓e_cons, ↓e_iconst, ↓e_bipush, ↓e_sipush, ↓e_ldc, ↓e_ldcw, ↓e_ldc2, ↓e_lconst, ↓e_iloadn, ↓e_iload, ↓e_lloadn, ↓e_lload, ↓e_aloadn, ↓e_aload, ↓e_istoren, ↓e_istore, ↓e_astoren, ↓e_astore, ↓e_add, ↓e_iinc, ↓e_iadd, ↓e_isub, ↓e_imul, ↓e_iand, ↓e_ior, ↓e_ixor, ↓e_ishl, ↓e_iushr, ↓e_idiv, ↓e_irem, ↓e_ineg, ↓e_i2l, ↓e_i2b, ↓e_i2s, ↓e_l2i, ↓e_land, ↓e_lor, ↓e_lshl, ↓e_lshr, ↓e_lushr, ↓e_lcmp, ↓e_dupi, ↓e_dupr, ↓e_popi, ↓e_dup2, ↓e_goto, ↓e_if, ↓e_icmp, ↓e_tsw, ↓e_lsw, ↓e_getf, ↓e_putf, ↓e_gets, ↓e_iald, ↓e_cald, ↓e_iast, ↓e_aald, ↓e_aast, ↓e_len, ↓e_copy, ↓e_abs, ↓e_max, ↓e_min, ↓e_iret, ↓e_aret, ↓e_vret, ↓e_is0, ↓e_is1, ↓e_is2, ↓e_is3, ↓e_is4, ↓e_iv1, ↓e_iv2, ↓e_iv3, ↓e_iv4, ↓e_iv5, ↓e_iv6, ↓rt_J7_fill_53178, ↓reduceIte, Nat.reduceAdd, Nat.reduceEqDiff, ↓zcl0, ↓zclv, List.map_nil, List.sum_nil, List.map_cons, List.sum_cons, zcat, true_and, and_true, Nat.reduceLeDiff, Nat.reduceAdd, eq_self, forall_const, e_ok0, e_okss, e_ok1i, e_ok1r, e_ok1n, zl_0, Int.reduceToNat, Int.reduceAdd, Int.reduceMul, Int.reduceSub, Int.reduceNeg, Int.reduceLT, Int.reduceLE, Int.reduceEq, not_false_eq_true, not_true_eq_false, false_implies, true_implies, implies_true, Int.reduceDiv, Int.reduceMod, zr8_zr, zr_zbo, z01_zbo, z01_0, z01_1, zbo_eq0, zup_eq, zup_o, zup_k, ne_eq, ↓nA_of ha, ↓sA_of ha]
    exact lp n 0 M (by omega) (by funext i; rw [if_neg (by omega)]) (fun _ _ => rfl)
