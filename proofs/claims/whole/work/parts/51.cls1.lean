/-! THE CLASS: the hill -/
def k_X2_beside_0 : List ZI := [(.iload_n 0, 1, (0, [0], [])), (.bipush 8, 2, (0, [], [])), (.irem, 1, (0, [], [])), (.istore_n 2, 1, (0, [2], [])), (.iload_n 0, 1, (0, [0], [])), (.bipush 8, 2, (0, [], [])), (.idiv, 1, (0, [], [])), (.istore_n 3, 1, (0, [3], [])), (.iload_n 1, 1, (0, [1], [])), (.tableswitch 83 0 3 #[29, 42, 56, 71], 29, (0, [94], [(0, 40), (1, 53), (2, 67), (3, 82)]))]
theorem ok_X2_beside_0 : zOK cX2_beside 2 false 4 k_X2_beside_0 0 = true := zOK_by (by decide +kernel)
def k_X2_beside_40 : List ZI := [(.iload_n 3, 1, (0, [3], [])), (.ifCond .le 10, 3, (0, [51], [])), (.iload_n 0, 1, (0, [0], [])), (.bipush 8, 2, (0, [], [])), (.isub, 1, (0, [], [])), (.goto 4, 3, (0, [52], []))]
theorem ok_X2_beside_40 : zOK cX2_beside 2 false 4 k_X2_beside_40 40 = true := zOK_by (by decide +kernel)
def k_X2_beside_51 : List ZI := [(.iconst (-1), 1, (0, [], []))]
theorem ok_X2_beside_51 : zOK cX2_beside 2 false 4 k_X2_beside_51 51 = true := zOK_by (by decide +kernel)
def k_X2_beside_52 : List ZI := [(.ireturn, 1, (0, [], []))]
theorem ok_X2_beside_52 : zOK cX2_beside 2 false 4 k_X2_beside_52 52 = true := zOK_by (by decide +kernel)
def k_X2_beside_53 : List ZI := [(.iload_n 2, 1, (0, [2], [])), (.bipush 7, 2, (0, [], [])), (.if_icmp .ge 9, 3, (0, [65], [])), (.iload_n 0, 1, (0, [0], [])), (.iconst 1, 1, (0, [], [])), (.iadd, 1, (0, [], [])), (.goto 4, 3, (0, [66], []))]
theorem ok_X2_beside_53 : zOK cX2_beside 2 false 4 k_X2_beside_53 53 = true := zOK_by (by decide +kernel)
def k_X2_beside_65 : List ZI := [(.iconst (-1), 1, (0, [], []))]
theorem ok_X2_beside_65 : zOK cX2_beside 2 false 4 k_X2_beside_65 65 = true := zOK_by (by decide +kernel)
def k_X2_beside_66 : List ZI := [(.ireturn, 1, (0, [], []))]
theorem ok_X2_beside_66 : zOK cX2_beside 2 false 4 k_X2_beside_66 66 = true := zOK_by (by decide +kernel)
def k_X2_beside_67 : List ZI := [(.iload_n 3, 1, (0, [3], [])), (.bipush 7, 2, (0, [], [])), (.if_icmp .ge 10, 3, (0, [80], [])), (.iload_n 0, 1, (0, [0], [])), (.bipush 8, 2, (0, [], [])), (.iadd, 1, (0, [], [])), (.goto 4, 3, (0, [81], []))]
theorem ok_X2_beside_67 : zOK cX2_beside 2 false 4 k_X2_beside_67 67 = true := zOK_by (by decide +kernel)
def k_X2_beside_80 : List ZI := [(.iconst (-1), 1, (0, [], []))]
theorem ok_X2_beside_80 : zOK cX2_beside 2 false 4 k_X2_beside_80 80 = true := zOK_by (by decide +kernel)
def k_X2_beside_81 : List ZI := [(.ireturn, 1, (0, [], []))]
theorem ok_X2_beside_81 : zOK cX2_beside 2 false 4 k_X2_beside_81 81 = true := zOK_by (by decide +kernel)
def k_X2_beside_82 : List ZI := [(.iload_n 2, 1, (0, [2], [])), (.ifCond .le 9, 3, (0, [92], [])), (.iload_n 0, 1, (0, [0], [])), (.iconst 1, 1, (0, [], [])), (.isub, 1, (0, [], [])), (.goto 4, 3, (0, [93], []))]
theorem ok_X2_beside_82 : zOK cX2_beside 2 false 4 k_X2_beside_82 82 = true := zOK_by (by decide +kernel)
def k_X2_beside_92 : List ZI := [(.iconst (-1), 1, (0, [], []))]
theorem ok_X2_beside_92 : zOK cX2_beside 2 false 4 k_X2_beside_92 92 = true := zOK_by (by decide +kernel)
def k_X2_beside_93 : List ZI := [(.ireturn, 1, (0, [], []))]
theorem ok_X2_beside_93 : zOK cX2_beside 2 false 4 k_X2_beside_93 93 = true := zOK_by (by decide +kernel)
def k_X2_beside_94 : List ZI := [(.iconst (-1), 1, (0, [], [])), (.ireturn, 1, (0, [], []))]
theorem ok_X2_beside_94 : zOK cX2_beside 2 false 4 k_X2_beside_94 94 = true := zOK_by (by decide +kernel)
theorem rt_X2_beside {g : Nat} {post : Option ZV → ZH → Prop} {h : ZH} {b : ZB2} {z : Int} : zRt mX2_beside g post (some (.inl z)) h b = (post (some (.inl z)) h ∧ h.1.length = g) := by show (_ ∧ _ ∧ True) = _; simp
def bk_X2_beside_0 (E : ZE) (CT : Nat → ZC) (X : ZK) (Rt : ZR) (ls : ZL) (st : List ZV) (h : ZH) (b : ZB2) : Prop := zB E CT k_X2_beside_0 0 ls st h b (fun t ls st h b => X t ls st h b) Rt
theorem bs_X2_beside_0 {E : ZE} {CT : Nat → ZC} {X : ZK} {Rt : ZR} {ls : ZL} {st : List ZV} {h : ZH} {b : ZB2} (hX : zCl E mX2_beside 2 false CT Rt X) (q : bk_X2_beside_0 E CT X Rt ls st h b) : X 0 ls st h b := by
  refine hX k_X2_beside_0 0 ok_X2_beside_0 _ ?_ ls st h b q
  exact fun t ls st h b q => q
def bk_X2_beside_52 (E : ZE) (CT : Nat → ZC) (X : ZK) (Rt : ZR) (ls : ZL) (st : List ZV) (h : ZH) (b : ZB2) : Prop := zB E CT k_X2_beside_52 52 ls st h b (fun t ls st h b => X t ls st h b) Rt
theorem bs_X2_beside_52 {E : ZE} {CT : Nat → ZC} {X : ZK} {Rt : ZR} {ls : ZL} {st : List ZV} {h : ZH} {b : ZB2} (hX : zCl E mX2_beside 2 false CT Rt X) (q : bk_X2_beside_52 E CT X Rt ls st h b) : X 52 ls st h b := by
  refine hX k_X2_beside_52 52 ok_X2_beside_52 _ ?_ ls st h b q
  exact fun t ls st h b q => q
def bk_X2_beside_51 (E : ZE) (CT : Nat → ZC) (X : ZK) (Rt : ZR) (ls : ZL) (st : List ZV) (h : ZH) (b : ZB2) : Prop := zB E CT k_X2_beside_51 51 ls st h b (fun t ls st h b => if t = 52 then bk_X2_beside_52 E CT X Rt ls st h b else X t ls st h b) Rt
theorem bs_X2_beside_51 {E : ZE} {CT : Nat → ZC} {X : ZK} {Rt : ZR} {ls : ZL} {st : List ZV} {h : ZH} {b : ZB2} (hX : zCl E mX2_beside 2 false CT Rt X) (q : bk_X2_beside_51 E CT X Rt ls st h b) : X 51 ls st h b := by
  refine hX k_X2_beside_51 51 ok_X2_beside_51 _ ?_ ls st h b q
  exact by
    intro t ls st h b q
    by_cases c : t = 52
    · subst c; rw [if_pos rfl] at q; exact bs_X2_beside_52 hX q
    rw [if_neg c] at q
    exact q
def bk_X2_beside_40 (E : ZE) (CT : Nat → ZC) (X : ZK) (Rt : ZR) (ls : ZL) (st : List ZV) (h : ZH) (b : ZB2) : Prop := zB E CT k_X2_beside_40 40 ls st h b (fun t ls st h b => if t = 51 then bk_X2_beside_51 E CT X Rt ls st h b else if t = 52 then bk_X2_beside_52 E CT X Rt ls st h b else X t ls st h b) Rt
theorem bs_X2_beside_40 {E : ZE} {CT : Nat → ZC} {X : ZK} {Rt : ZR} {ls : ZL} {st : List ZV} {h : ZH} {b : ZB2} (hX : zCl E mX2_beside 2 false CT Rt X) (q : bk_X2_beside_40 E CT X Rt ls st h b) : X 40 ls st h b := by
  refine hX k_X2_beside_40 40 ok_X2_beside_40 _ ?_ ls st h b q
  exact by
    intro t ls st h b q
    by_cases c : t = 51
    · subst c; rw [if_pos rfl] at q; exact bs_X2_beside_51 hX q
    rw [if_neg c] at q
    by_cases c : t = 52
    · subst c; rw [if_pos rfl] at q; exact bs_X2_beside_52 hX q
    rw [if_neg c] at q
    exact q
def bk_X2_beside_66 (E : ZE) (CT : Nat → ZC) (X : ZK) (Rt : ZR) (ls : ZL) (st : List ZV) (h : ZH) (b : ZB2) : Prop := zB E CT k_X2_beside_66 66 ls st h b (fun t ls st h b => X t ls st h b) Rt
theorem bs_X2_beside_66 {E : ZE} {CT : Nat → ZC} {X : ZK} {Rt : ZR} {ls : ZL} {st : List ZV} {h : ZH} {b : ZB2} (hX : zCl E mX2_beside 2 false CT Rt X) (q : bk_X2_beside_66 E CT X Rt ls st h b) : X 66 ls st h b := by
  refine hX k_X2_beside_66 66 ok_X2_beside_66 _ ?_ ls st h b q
  exact fun t ls st h b q => q
def bk_X2_beside_65 (E : ZE) (CT : Nat → ZC) (X : ZK) (Rt : ZR) (ls : ZL) (st : List ZV) (h : ZH) (b : ZB2) : Prop := zB E CT k_X2_beside_65 65 ls st h b (fun t ls st h b => if t = 66 then bk_X2_beside_66 E CT X Rt ls st h b else X t ls st h b) Rt
theorem bs_X2_beside_65 {E : ZE} {CT : Nat → ZC} {X : ZK} {Rt : ZR} {ls : ZL} {st : List ZV} {h : ZH} {b : ZB2} (hX : zCl E mX2_beside 2 false CT Rt X) (q : bk_X2_beside_65 E CT X Rt ls st h b) : X 65 ls st h b := by
  refine hX k_X2_beside_65 65 ok_X2_beside_65 _ ?_ ls st h b q
  exact by
    intro t ls st h b q
    by_cases c : t = 66
    · subst c; rw [if_pos rfl] at q; exact bs_X2_beside_66 hX q
    rw [if_neg c] at q
    exact q
def bk_X2_beside_53 (E : ZE) (CT : Nat → ZC) (X : ZK) (Rt : ZR) (ls : ZL) (st : List ZV) (h : ZH) (b : ZB2) : Prop := zB E CT k_X2_beside_53 53 ls st h b (fun t ls st h b => if t = 65 then bk_X2_beside_65 E CT X Rt ls st h b else if t = 66 then bk_X2_beside_66 E CT X Rt ls st h b else X t ls st h b) Rt
theorem bs_X2_beside_53 {E : ZE} {CT : Nat → ZC} {X : ZK} {Rt : ZR} {ls : ZL} {st : List ZV} {h : ZH} {b : ZB2} (hX : zCl E mX2_beside 2 false CT Rt X) (q : bk_X2_beside_53 E CT X Rt ls st h b) : X 53 ls st h b := by
  refine hX k_X2_beside_53 53 ok_X2_beside_53 _ ?_ ls st h b q
  exact by
    intro t ls st h b q
    by_cases c : t = 65
    · subst c; rw [if_pos rfl] at q; exact bs_X2_beside_65 hX q
    rw [if_neg c] at q
    by_cases c : t = 66
    · subst c; rw [if_pos rfl] at q; exact bs_X2_beside_66 hX q
    rw [if_neg c] at q
    exact q
def bk_X2_beside_81 (E : ZE) (CT : Nat → ZC) (X : ZK) (Rt : ZR) (ls : ZL) (st : List ZV) (h : ZH) (b : ZB2) : Prop := zB E CT k_X2_beside_81 81 ls st h b (fun t ls st h b => X t ls st h b) Rt
theorem bs_X2_beside_81 {E : ZE} {CT : Nat → ZC} {X : ZK} {Rt : ZR} {ls : ZL} {st : List ZV} {h : ZH} {b : ZB2} (hX : zCl E mX2_beside 2 false CT Rt X) (q : bk_X2_beside_81 E CT X Rt ls st h b) : X 81 ls st h b := by
  refine hX k_X2_beside_81 81 ok_X2_beside_81 _ ?_ ls st h b q
  exact fun t ls st h b q => q
def bk_X2_beside_80 (E : ZE) (CT : Nat → ZC) (X : ZK) (Rt : ZR) (ls : ZL) (st : List ZV) (h : ZH) (b : ZB2) : Prop := zB E CT k_X2_beside_80 80 ls st h b (fun t ls st h b => if t = 81 then bk_X2_beside_81 E CT X Rt ls st h b else X t ls st h b) Rt
theorem bs_X2_beside_80 {E : ZE} {CT : Nat → ZC} {X : ZK} {Rt : ZR} {ls : ZL} {st : List ZV} {h : ZH} {b : ZB2} (hX : zCl E mX2_beside 2 false CT Rt X) (q : bk_X2_beside_80 E CT X Rt ls st h b) : X 80 ls st h b := by
  refine hX k_X2_beside_80 80 ok_X2_beside_80 _ ?_ ls st h b q
  exact by
    intro t ls st h b q
    by_cases c : t = 81
    · subst c; rw [if_pos rfl] at q; exact bs_X2_beside_81 hX q
    rw [if_neg c] at q
    exact q
def bk_X2_beside_67 (E : ZE) (CT : Nat → ZC) (X : ZK) (Rt : ZR) (ls : ZL) (st : List ZV) (h : ZH) (b : ZB2) : Prop := zB E CT k_X2_beside_67 67 ls st h b (fun t ls st h b => if t = 80 then bk_X2_beside_80 E CT X Rt ls st h b else if t = 81 then bk_X2_beside_81 E CT X Rt ls st h b else X t ls st h b) Rt
theorem bs_X2_beside_67 {E : ZE} {CT : Nat → ZC} {X : ZK} {Rt : ZR} {ls : ZL} {st : List ZV} {h : ZH} {b : ZB2} (hX : zCl E mX2_beside 2 false CT Rt X) (q : bk_X2_beside_67 E CT X Rt ls st h b) : X 67 ls st h b := by
  refine hX k_X2_beside_67 67 ok_X2_beside_67 _ ?_ ls st h b q
  exact by
    intro t ls st h b q
    by_cases c : t = 80
    · subst c; rw [if_pos rfl] at q; exact bs_X2_beside_80 hX q
    rw [if_neg c] at q
    by_cases c : t = 81
    · subst c; rw [if_pos rfl] at q; exact bs_X2_beside_81 hX q
    rw [if_neg c] at q
    exact q
def bk_X2_beside_93 (E : ZE) (CT : Nat → ZC) (X : ZK) (Rt : ZR) (ls : ZL) (st : List ZV) (h : ZH) (b : ZB2) : Prop := zB E CT k_X2_beside_93 93 ls st h b (fun t ls st h b => X t ls st h b) Rt
theorem bs_X2_beside_93 {E : ZE} {CT : Nat → ZC} {X : ZK} {Rt : ZR} {ls : ZL} {st : List ZV} {h : ZH} {b : ZB2} (hX : zCl E mX2_beside 2 false CT Rt X) (q : bk_X2_beside_93 E CT X Rt ls st h b) : X 93 ls st h b := by
  refine hX k_X2_beside_93 93 ok_X2_beside_93 _ ?_ ls st h b q
  exact fun t ls st h b q => q
def bk_X2_beside_92 (E : ZE) (CT : Nat → ZC) (X : ZK) (Rt : ZR) (ls : ZL) (st : List ZV) (h : ZH) (b : ZB2) : Prop := zB E CT k_X2_beside_92 92 ls st h b (fun t ls st h b => if t = 93 then bk_X2_beside_93 E CT X Rt ls st h b else X t ls st h b) Rt
theorem bs_X2_beside_92 {E : ZE} {CT : Nat → ZC} {X : ZK} {Rt : ZR} {ls : ZL} {st : List ZV} {h : ZH} {b : ZB2} (hX : zCl E mX2_beside 2 false CT Rt X) (q : bk_X2_beside_92 E CT X Rt ls st h b) : X 92 ls st h b := by
  refine hX k_X2_beside_92 92 ok_X2_beside_92 _ ?_ ls st h b q
  exact by
    intro t ls st h b q
    by_cases c : t = 93
    · subst c; rw [if_pos rfl] at q; exact bs_X2_beside_93 hX q
    rw [if_neg c] at q
    exact q
def bk_X2_beside_82 (E : ZE) (CT : Nat → ZC) (X : ZK) (Rt : ZR) (ls : ZL) (st : List ZV) (h : ZH) (b : ZB2) : Prop := zB E CT k_X2_beside_82 82 ls st h b (fun t ls st h b => if t = 92 then bk_X2_beside_92 E CT X Rt ls st h b else if t = 93 then bk_X2_beside_93 E CT X Rt ls st h b else X t ls st h b) Rt
theorem bs_X2_beside_82 {E : ZE} {CT : Nat → ZC} {X : ZK} {Rt : ZR} {ls : ZL} {st : List ZV} {h : ZH} {b : ZB2} (hX : zCl E mX2_beside 2 false CT Rt X) (q : bk_X2_beside_82 E CT X Rt ls st h b) : X 82 ls st h b := by
  refine hX k_X2_beside_82 82 ok_X2_beside_82 _ ?_ ls st h b q
  exact by
    intro t ls st h b q
    by_cases c : t = 92
    · subst c; rw [if_pos rfl] at q; exact bs_X2_beside_92 hX q
    rw [if_neg c] at q
    by_cases c : t = 93
    · subst c; rw [if_pos rfl] at q; exact bs_X2_beside_93 hX q
    rw [if_neg c] at q
    exact q
def bk_X2_beside_94 (E : ZE) (CT : Nat → ZC) (X : ZK) (Rt : ZR) (ls : ZL) (st : List ZV) (h : ZH) (b : ZB2) : Prop := zB E CT k_X2_beside_94 94 ls st h b (fun t ls st h b => X t ls st h b) Rt
theorem bs_X2_beside_94 {E : ZE} {CT : Nat → ZC} {X : ZK} {Rt : ZR} {ls : ZL} {st : List ZV} {h : ZH} {b : ZB2} (hX : zCl E mX2_beside 2 false CT Rt X) (q : bk_X2_beside_94 E CT X Rt ls st h b) : X 94 ls st h b := by
  refine hX k_X2_beside_94 94 ok_X2_beside_94 _ ?_ ls st h b q
  exact fun t ls st h b q => q
-- X2_beside: cuts [40, 53, 67, 82, 94]
def k_X2_far_0 : List ZI := [(.iload_n 0, 1, (0, [0], [])), (.bipush 8, 2, (0, [], [])), (.irem, 1, (0, [], [])), (.iload_n 1, 1, (0, [1], [])), (.bipush 8, 2, (0, [], [])), (.irem, 1, (0, [], [])), (.isub, 1, (0, [], [])), (.invokestatic 41, 3, (0, [0], [])), (.iload_n 0, 1, (0, [0], [])), (.bipush 8, 2, (0, [], [])), (.idiv, 1, (0, [], [])), (.iload_n 1, 1, (0, [1], [])), (.bipush 8, 2, (0, [], [])), (.idiv, 1, (0, [], [])), (.isub, 1, (0, [], [])), (.invokestatic 41, 3, (0, [0], [])), (.iadd, 1, (0, [], [])), (.ireturn, 1, (0, [], []))]
theorem ok_X2_far_0 : zOK cX2_far 2 false 2 k_X2_far_0 0 = true := zOK_by (by decide +kernel)
theorem rt_X2_far {g : Nat} {post : Option ZV → ZH → Prop} {h : ZH} {b : ZB2} {z : Int} : zRt mX2_far g post (some (.inl z)) h b = (post (some (.inl z)) h ∧ h.1.length = g) := by show (_ ∧ _ ∧ True) = _; simp
def bk_X2_far_0 (E : ZE) (CT : Nat → ZC) (X : ZK) (Rt : ZR) (ls : ZL) (st : List ZV) (h : ZH) (b : ZB2) : Prop := zB E CT k_X2_far_0 0 ls st h b (fun t ls st h b => X t ls st h b) Rt
theorem bs_X2_far_0 {E : ZE} {CT : Nat → ZC} {X : ZK} {Rt : ZR} {ls : ZL} {st : List ZV} {h : ZH} {b : ZB2} (hX : zCl E mX2_far 2 false CT Rt X) (q : bk_X2_far_0 E CT X Rt ls st h b) : X 0 ls st h b := by
  refine hX k_X2_far_0 0 ok_X2_far_0 _ ?_ ls st h b q
  exact fun t ls st h b q => q
-- X2_far: cuts []
def k_X2_gap_0 : List ZI := [(.aload_n 0, 1, (0, [0], [])), (.getfield 18, 3, (0, [2, 2], [])), (.iconst 0, 1, (0, [], [])), (.iaload, 1, (0, [], [])), (.aload_n 0, 1, (0, [0], [])), (.getfield 18, 3, (0, [2, 2], [])), (.iconst 1, 1, (0, [], [])), (.iaload, 1, (0, [], [])), (.invokestatic 47, 3, (0, [17, 2, 0, 2], [])), (.ireturn, 1, (0, [], []))]
theorem ok_X2_gap_0 : zOK cX2_gap 2 false 1 k_X2_gap_0 0 = true := zOK_by (by decide +kernel)
theorem rt_X2_gap {g : Nat} {post : Option ZV → ZH → Prop} {h : ZH} {b : ZB2} {z : Int} : zRt mX2_gap g post (some (.inl z)) h b = (post (some (.inl z)) h ∧ h.1.length = g) := by show (_ ∧ _ ∧ True) = _; simp
def bk_X2_gap_0 (E : ZE) (CT : Nat → ZC) (X : ZK) (Rt : ZR) (ls : ZL) (st : List ZV) (h : ZH) (b : ZB2) : Prop := zB E CT k_X2_gap_0 0 ls st h b (fun t ls st h b => X t ls st h b) Rt
theorem bs_X2_gap_0 {E : ZE} {CT : Nat → ZC} {X : ZK} {Rt : ZR} {ls : ZL} {st : List ZV} {h : ZH} {b : ZB2} (hX : zCl E mX2_gap 2 false CT Rt X) (q : bk_X2_gap_0 E CT X Rt ls st h b) : X 0 ls st h b := by
  refine hX k_X2_gap_0 0 ok_X2_gap_0 _ ?_ ls st h b q
  exact fun t ls st h b q => q
-- X2_gap: cuts []
def k_X2_headsAt_0 : List ZI := [(.aload_n 0, 1, (0, [0], [])), (.getfield 18, 3, (0, [2, 2], [])), (.iconst 0, 1, (0, [], [])), (.iaload, 1, (0, [], [])), (.iload_n 1, 1, (0, [1], [])), (.if_icmp .ne 7, 3, (0, [14], [])), (.iconst 1, 1, (0, [], [])), (.goto 4, 3, (0, [15], []))]
theorem ok_X2_headsAt_0 : zOK cX2_headsAt 2 false 2 k_X2_headsAt_0 0 = true := zOK_by (by decide +kernel)
def k_X2_headsAt_14 : List ZI := [(.iconst 0, 1, (0, [], []))]
theorem ok_X2_headsAt_14 : zOK cX2_headsAt 2 false 2 k_X2_headsAt_14 14 = true := zOK_by (by decide +kernel)
def k_X2_headsAt_15 : List ZI := [(.aload_n 0, 1, (0, [0], [])), (.getfield 18, 3, (0, [2, 2], [])), (.iconst 1, 1, (0, [], [])), (.iaload, 1, (0, [], [])), (.iload_n 1, 1, (0, [1], [])), (.if_icmp .ne 7, 3, (0, [29], [])), (.iconst 2, 1, (0, [], [])), (.goto 4, 3, (0, [30], []))]
theorem ok_X2_headsAt_15 : zOK cX2_headsAt 2 false 2 k_X2_headsAt_15 15 = true := zOK_by (by decide +kernel)
def k_X2_headsAt_29 : List ZI := [(.iconst 0, 1, (0, [], []))]
theorem ok_X2_headsAt_29 : zOK cX2_headsAt 2 false 2 k_X2_headsAt_29 29 = true := zOK_by (by decide +kernel)
def k_X2_headsAt_30 : List ZI := [(.ior, 1, (0, [], [])), (.ireturn, 1, (0, [], []))]
theorem ok_X2_headsAt_30 : zOK cX2_headsAt 2 false 2 k_X2_headsAt_30 30 = true := zOK_by (by decide +kernel)
theorem rt_X2_headsAt {g : Nat} {post : Option ZV → ZH → Prop} {h : ZH} {b : ZB2} {z : Int} : zRt mX2_headsAt g post (some (.inl z)) h b = (post (some (.inl z)) h ∧ h.1.length = g) := by show (_ ∧ _ ∧ True) = _; simp
def bk_X2_headsAt_30 (E : ZE) (CT : Nat → ZC) (X : ZK) (Rt : ZR) (ls : ZL) (st : List ZV) (h : ZH) (b : ZB2) : Prop := zB E CT k_X2_headsAt_30 30 ls st h b (fun t ls st h b => X t ls st h b) Rt
theorem bs_X2_headsAt_30 {E : ZE} {CT : Nat → ZC} {X : ZK} {Rt : ZR} {ls : ZL} {st : List ZV} {h : ZH} {b : ZB2} (hX : zCl E mX2_headsAt 2 false CT Rt X) (q : bk_X2_headsAt_30 E CT X Rt ls st h b) : X 30 ls st h b := by
  refine hX k_X2_headsAt_30 30 ok_X2_headsAt_30 _ ?_ ls st h b q
  exact fun t ls st h b q => q
def bk_X2_headsAt_29 (E : ZE) (CT : Nat → ZC) (X : ZK) (Rt : ZR) (ls : ZL) (st : List ZV) (h : ZH) (b : ZB2) : Prop := zB E CT k_X2_headsAt_29 29 ls st h b (fun t ls st h b => if t = 30 then bk_X2_headsAt_30 E CT X Rt ls st h b else X t ls st h b) Rt
theorem bs_X2_headsAt_29 {E : ZE} {CT : Nat → ZC} {X : ZK} {Rt : ZR} {ls : ZL} {st : List ZV} {h : ZH} {b : ZB2} (hX : zCl E mX2_headsAt 2 false CT Rt X) (q : bk_X2_headsAt_29 E CT X Rt ls st h b) : X 29 ls st h b := by
  refine hX k_X2_headsAt_29 29 ok_X2_headsAt_29 _ ?_ ls st h b q
  exact by
    intro t ls st h b q
    by_cases c : t = 30
    · subst c; rw [if_pos rfl] at q; exact bs_X2_headsAt_30 hX q
    rw [if_neg c] at q
    exact q
def bk_X2_headsAt_15 (E : ZE) (CT : Nat → ZC) (X : ZK) (Rt : ZR) (ls : ZL) (st : List ZV) (h : ZH) (b : ZB2) : Prop := zB E CT k_X2_headsAt_15 15 ls st h b (fun t ls st h b => if t = 29 then bk_X2_headsAt_29 E CT X Rt ls st h b else if t = 30 then bk_X2_headsAt_30 E CT X Rt ls st h b else X t ls st h b) Rt
theorem bs_X2_headsAt_15 {E : ZE} {CT : Nat → ZC} {X : ZK} {Rt : ZR} {ls : ZL} {st : List ZV} {h : ZH} {b : ZB2} (hX : zCl E mX2_headsAt 2 false CT Rt X) (q : bk_X2_headsAt_15 E CT X Rt ls st h b) : X 15 ls st h b := by
  refine hX k_X2_headsAt_15 15 ok_X2_headsAt_15 _ ?_ ls st h b q
  exact by
    intro t ls st h b q
    by_cases c : t = 29
    · subst c; rw [if_pos rfl] at q; exact bs_X2_headsAt_29 hX q
    rw [if_neg c] at q
    by_cases c : t = 30
    · subst c; rw [if_pos rfl] at q; exact bs_X2_headsAt_30 hX q
    rw [if_neg c] at q
    exact q
def bk_X2_headsAt_14 (E : ZE) (CT : Nat → ZC) (X : ZK) (Rt : ZR) (ls : ZL) (st : List ZV) (h : ZH) (b : ZB2) : Prop := zB E CT k_X2_headsAt_14 14 ls st h b (fun t ls st h b => if t = 15 then bk_X2_headsAt_15 E CT X Rt ls st h b else X t ls st h b) Rt
theorem bs_X2_headsAt_14 {E : ZE} {CT : Nat → ZC} {X : ZK} {Rt : ZR} {ls : ZL} {st : List ZV} {h : ZH} {b : ZB2} (hX : zCl E mX2_headsAt 2 false CT Rt X) (q : bk_X2_headsAt_14 E CT X Rt ls st h b) : X 14 ls st h b := by
  refine hX k_X2_headsAt_14 14 ok_X2_headsAt_14 _ ?_ ls st h b q
  exact by
    intro t ls st h b q
    by_cases c : t = 15
    · subst c; rw [if_pos rfl] at q; exact bs_X2_headsAt_15 hX q
    rw [if_neg c] at q
    exact q
def bk_X2_headsAt_0 (E : ZE) (CT : Nat → ZC) (X : ZK) (Rt : ZR) (ls : ZL) (st : List ZV) (h : ZH) (b : ZB2) : Prop := zB E CT k_X2_headsAt_0 0 ls st h b (fun t ls st h b => if t = 14 then bk_X2_headsAt_14 E CT X Rt ls st h b else if t = 15 then bk_X2_headsAt_15 E CT X Rt ls st h b else X t ls st h b) Rt
theorem bs_X2_headsAt_0 {E : ZE} {CT : Nat → ZC} {X : ZK} {Rt : ZR} {ls : ZL} {st : List ZV} {h : ZH} {b : ZB2} (hX : zCl E mX2_headsAt 2 false CT Rt X) (q : bk_X2_headsAt_0 E CT X Rt ls st h b) : X 0 ls st h b := by
  refine hX k_X2_headsAt_0 0 ok_X2_headsAt_0 _ ?_ ls st h b q
  exact by
    intro t ls st h b q
    by_cases c : t = 14
    · subst c; rw [if_pos rfl] at q; exact bs_X2_headsAt_14 hX q
    rw [if_neg c] at q
    by_cases c : t = 15
    · subst c; rw [if_pos rfl] at q; exact bs_X2_headsAt_15 hX q
    rw [if_neg c] at q
    exact q
-- X2_headsAt: cuts []
def k_X2_settle_0 : List ZI := [(.aload_n 0, 1, (0, [0], [])), (.getfield 18, 3, (0, [2, 2], [])), (.iload_n 1, 1, (0, [1], [])), (.iload_n 2, 1, (0, [2], [])), (.iastore, 1, (0, [], [])), (.aload_n 0, 1, (0, [0], [])), (.getfield 15, 3, (0, [2, 1], [])), (.iload_n 2, 1, (0, [2], [])), (.iconst 1, 1, (0, [], [])), (.iastore, 1, (0, [], [])), (.iconst 0, 1, (0, [], [])), (.istore_n 3, 1, (0, [3], []))]
theorem ok_X2_settle_0 : zOK cX2_settle 2 false 4 k_X2_settle_0 0 = true := zOK_by (by decide +kernel)
def k_X2_settle_16 : List ZI := [(.iload_n 3, 1, (0, [3], [])), (.bipush 10, 2, (0, [], [])), (.if_icmp .ge 21, 3, (0, [40], [])), (.aload_n 0, 1, (0, [0], [])), (.getfield 30, 3, (0, [2, 6], [])), (.iload_n 1, 1, (0, [1], [])), (.bipush 10, 2, (0, [], [])), (.imul, 1, (0, [], [])), (.iload_n 3, 1, (0, [3], [])), (.iadd, 1, (0, [], [])), (.iload_n 2, 1, (0, [2], [])), (.iastore, 1, (0, [], [])), (.iinc 3 1, 3, (0, [3], [])), (.goto (-21), 3, (0, [16], []))]
theorem ok_X2_settle_16 : zOK cX2_settle 2 false 4 k_X2_settle_16 16 = true := zOK_by (by decide +kernel)
def k_X2_settle_40 : List ZI := [(.return_, 1, (0, [], []))]
theorem ok_X2_settle_40 : zOK cX2_settle 2 false 4 k_X2_settle_40 40 = true := zOK_by (by decide +kernel)
theorem rt_X2_settle {g : Nat} {post : Option ZV → ZH → Prop} {h : ZH} {b : ZB2} : zRt mX2_settle g post none h b = (post none h ∧ h.1.length = g) := by show (_ ∧ _ ∧ True) = _; simp
def bk_X2_settle_0 (E : ZE) (CT : Nat → ZC) (X : ZK) (Rt : ZR) (ls : ZL) (st : List ZV) (h : ZH) (b : ZB2) : Prop := zB E CT k_X2_settle_0 0 ls st h b (fun t ls st h b => X t ls st h b) Rt
theorem bs_X2_settle_0 {E : ZE} {CT : Nat → ZC} {X : ZK} {Rt : ZR} {ls : ZL} {st : List ZV} {h : ZH} {b : ZB2} (hX : zCl E mX2_settle 2 false CT Rt X) (q : bk_X2_settle_0 E CT X Rt ls st h b) : X 0 ls st h b := by
  refine hX k_X2_settle_0 0 ok_X2_settle_0 _ ?_ ls st h b q
  exact fun t ls st h b q => q
def bk_X2_settle_40 (E : ZE) (CT : Nat → ZC) (X : ZK) (Rt : ZR) (ls : ZL) (st : List ZV) (h : ZH) (b : ZB2) : Prop := zB E CT k_X2_settle_40 40 ls st h b (fun t ls st h b => X t ls st h b) Rt
theorem bs_X2_settle_40 {E : ZE} {CT : Nat → ZC} {X : ZK} {Rt : ZR} {ls : ZL} {st : List ZV} {h : ZH} {b : ZB2} (hX : zCl E mX2_settle 2 false CT Rt X) (q : bk_X2_settle_40 E CT X Rt ls st h b) : X 40 ls st h b := by
  refine hX k_X2_settle_40 40 ok_X2_settle_40 _ ?_ ls st h b q
  exact fun t ls st h b q => q
def bk_X2_settle_16 (E : ZE) (CT : Nat → ZC) (X : ZK) (Rt : ZR) (ls : ZL) (st : List ZV) (h : ZH) (b : ZB2) : Prop := zB E CT k_X2_settle_16 16 ls st h b (fun t ls st h b => if t = 40 then bk_X2_settle_40 E CT X Rt ls st h b else X t ls st h b) Rt
theorem bs_X2_settle_16 {E : ZE} {CT : Nat → ZC} {X : ZK} {Rt : ZR} {ls : ZL} {st : List ZV} {h : ZH} {b : ZB2} (hX : zCl E mX2_settle 2 false CT Rt X) (q : bk_X2_settle_16 E CT X Rt ls st h b) : X 16 ls st h b := by
  refine hX k_X2_settle_16 16 ok_X2_settle_16 _ ?_ ls st h b q
  exact by
    intro t ls st h b q
    by_cases c : t = 40
    · subst c; rw [if_pos rfl] at q; exact bs_X2_settle_40 hX q
    rw [if_neg c] at q
    exact q
-- X2_settle: cuts [16]
def k_X2_hears_0 : List ZI := [(.aload_n 0, 1, (0, [0], [])), (.getfield 30, 3, (0, [2, 6], [])), (.iconst 1, 1, (0, [], [])), (.iload_n 1, 1, (0, [1], [])), (.isub, 1, (0, [], [])), (.bipush 10, 2, (0, [], [])), (.imul, 1, (0, [], [])), (.aload_n 0, 1, (0, [0], [])), (.getfield 51, 3, (0, [2, 7], [])), (.bipush 10, 2, (0, [], [])), (.iadd, 1, (0, [], [])), (.aload_n 0, 1, (0, [0], [])), (.getfield 33, 3, (0, [2, 8], [])), (.isub, 1, (0, [], [])), (.bipush 10, 2, (0, [], [])), (.irem, 1, (0, [], [])), (.iadd, 1, (0, [], [])), (.iaload, 1, (0, [], [])), (.ireturn, 1, (0, [], []))]
theorem ok_X2_hears_0 : zOK cX2_hears 2 false 2 k_X2_hears_0 0 = true := zOK_by (by decide +kernel)
theorem rt_X2_hears {g : Nat} {post : Option ZV → ZH → Prop} {h : ZH} {b : ZB2} {z : Int} : zRt mX2_hears g post (some (.inl z)) h b = (post (some (.inl z)) h ∧ h.1.length = g) := by show (_ ∧ _ ∧ True) = _; simp
def bk_X2_hears_0 (E : ZE) (CT : Nat → ZC) (X : ZK) (Rt : ZR) (ls : ZL) (st : List ZV) (h : ZH) (b : ZB2) : Prop := zB E CT k_X2_hears_0 0 ls st h b (fun t ls st h b => X t ls st h b) Rt
theorem bs_X2_hears_0 {E : ZE} {CT : Nat → ZC} {X : ZK} {Rt : ZR} {ls : ZL} {st : List ZV} {h : ZH} {b : ZB2} (hX : zCl E mX2_hears 2 false CT Rt X) (q : bk_X2_hears_0 E CT X Rt ls st h b) : X 0 ls st h b := by
  refine hX k_X2_hears_0 0 ok_X2_hears_0 _ ?_ ls st h b q
  exact fun t ls st h b q => q
-- X2_hears: cuts []
def k_X2_endYear_0 : List ZI := [(.aload_n 0, 1, (0, [0], [])), (.dup, 1, (0, [], [])), (.getfield 66, 3, (0, [2, 9], [])), (.iconst 1, 1, (0, [], [])), (.iadd, 1, (0, [], [])), (.putfield 66, 3, (0, [2, 9], [])), (.aload_n 0, 1, (0, [0], [])), (.aload_n 0, 1, (0, [0], [])), (.getfield 51, 3, (0, [2, 7], [])), (.iconst 1, 1, (0, [], [])), (.iadd, 1, (0, [], [])), (.bipush 10, 2, (0, [], [])), (.irem, 1, (0, [], [])), (.putfield 51, 3, (0, [2, 7], [])), (.iconst 0, 1, (0, [], [])), (.istore_n 1, 1, (0, [1], []))]
theorem ok_X2_endYear_0 : zOK cX2_endYear 2 false 2 k_X2_endYear_0 0 = true := zOK_by (by decide +kernel)
def k_X2_endYear_25 : List ZI := [(.iload_n 1, 1, (0, [1], [])), (.iconst 2, 1, (0, [], [])), (.if_icmp .ge 29, 3, (0, [56], [])), (.aload_n 0, 1, (0, [0], [])), (.getfield 30, 3, (0, [2, 6], [])), (.iload_n 1, 1, (0, [1], [])), (.bipush 10, 2, (0, [], [])), (.imul, 1, (0, [], [])), (.aload_n 0, 1, (0, [0], [])), (.getfield 51, 3, (0, [2, 7], [])), (.iadd, 1, (0, [], [])), (.aload_n 0, 1, (0, [0], [])), (.getfield 18, 3, (0, [2, 2], [])), (.iload_n 1, 1, (0, [1], [])), (.iaload, 1, (0, [], [])), (.iastore, 1, (0, [], [])), (.iinc 1 1, 3, (0, [1], [])), (.goto (-28), 3, (0, [25], []))]
theorem ok_X2_endYear_25 : zOK cX2_endYear 2 false 2 k_X2_endYear_25 25 = true := zOK_by (by decide +kernel)
def k_X2_endYear_56 : List ZI := [(.return_, 1, (0, [], []))]
theorem ok_X2_endYear_56 : zOK cX2_endYear 2 false 2 k_X2_endYear_56 56 = true := zOK_by (by decide +kernel)
theorem rt_X2_endYear {g : Nat} {post : Option ZV → ZH → Prop} {h : ZH} {b : ZB2} : zRt mX2_endYear g post none h b = (post none h ∧ h.1.length = g) := by show (_ ∧ _ ∧ True) = _; simp
def bk_X2_endYear_0 (E : ZE) (CT : Nat → ZC) (X : ZK) (Rt : ZR) (ls : ZL) (st : List ZV) (h : ZH) (b : ZB2) : Prop := zB E CT k_X2_endYear_0 0 ls st h b (fun t ls st h b => X t ls st h b) Rt
theorem bs_X2_endYear_0 {E : ZE} {CT : Nat → ZC} {X : ZK} {Rt : ZR} {ls : ZL} {st : List ZV} {h : ZH} {b : ZB2} (hX : zCl E mX2_endYear 2 false CT Rt X) (q : bk_X2_endYear_0 E CT X Rt ls st h b) : X 0 ls st h b := by
  refine hX k_X2_endYear_0 0 ok_X2_endYear_0 _ ?_ ls st h b q
  exact fun t ls st h b q => q
def bk_X2_endYear_56 (E : ZE) (CT : Nat → ZC) (X : ZK) (Rt : ZR) (ls : ZL) (st : List ZV) (h : ZH) (b : ZB2) : Prop := zB E CT k_X2_endYear_56 56 ls st h b (fun t ls st h b => X t ls st h b) Rt
theorem bs_X2_endYear_56 {E : ZE} {CT : Nat → ZC} {X : ZK} {Rt : ZR} {ls : ZL} {st : List ZV} {h : ZH} {b : ZB2} (hX : zCl E mX2_endYear 2 false CT Rt X) (q : bk_X2_endYear_56 E CT X Rt ls st h b) : X 56 ls st h b := by
  refine hX k_X2_endYear_56 56 ok_X2_endYear_56 _ ?_ ls st h b q
  exact fun t ls st h b q => q
def bk_X2_endYear_25 (E : ZE) (CT : Nat → ZC) (X : ZK) (Rt : ZR) (ls : ZL) (st : List ZV) (h : ZH) (b : ZB2) : Prop := zB E CT k_X2_endYear_25 25 ls st h b (fun t ls st h b => if t = 56 then bk_X2_endYear_56 E CT X Rt ls st h b else X t ls st h b) Rt
theorem bs_X2_endYear_25 {E : ZE} {CT : Nat → ZC} {X : ZK} {Rt : ZR} {ls : ZL} {st : List ZV} {h : ZH} {b : ZB2} (hX : zCl E mX2_endYear 2 false CT Rt X) (q : bk_X2_endYear_25 E CT X Rt ls st h b) : X 25 ls st h b := by
  refine hX k_X2_endYear_25 25 ok_X2_endYear_25 _ ?_ ls st h b q
  exact by
    intro t ls st h b q
    by_cases c : t = 56
    · subst c; rw [if_pos rfl] at q; exact bs_X2_endYear_56 hX q
    rw [if_neg c] at q
    exact q
-- X2_endYear: cuts [25]
def k_X2_copyFrom_0 : List ZI := [(.aload_n 1, 1, (0, [1], [])), (.getfield 9, 3, (0, [2, 0], [])), (.iconst 0, 1, (0, [], [])), (.aload_n 0, 1, (0, [0], [])), (.getfield 9, 3, (0, [2, 0], [])), (.iconst 0, 1, (0, [], [])), (.bipush 64, 2, (0, [], [])), (.invokestatic 69, 3, (0, [], [])), (.aload_n 1, 1, (0, [1], [])), (.getfield 15, 3, (0, [2, 1], [])), (.iconst 0, 1, (0, [], [])), (.aload_n 0, 1, (0, [0], [])), (.getfield 15, 3, (0, [2, 1], [])), (.iconst 0, 1, (0, [], [])), (.bipush 64, 2, (0, [], [])), (.invokestatic 69, 3, (0, [], []))]
theorem ok_X2_copyFrom_0 : zOK cX2_copyFrom 2 false 2 k_X2_copyFrom_0 0 = true := zOK_by (by decide +kernel)
def k_X2_copyFrom_30 : List ZI := [(.aload_n 1, 1, (0, [1], [])), (.getfield 18, 3, (0, [2, 2], [])), (.iconst 0, 1, (0, [], [])), (.aload_n 0, 1, (0, [0], [])), (.getfield 18, 3, (0, [2, 2], [])), (.iconst 0, 1, (0, [], [])), (.iconst 2, 1, (0, [], [])), (.invokestatic 69, 3, (0, [], [])), (.aload_n 1, 1, (0, [1], [])), (.getfield 21, 3, (0, [2, 3], [])), (.iconst 0, 1, (0, [], [])), (.aload_n 0, 1, (0, [0], [])), (.getfield 21, 3, (0, [2, 3], [])), (.iconst 0, 1, (0, [], [])), (.iconst 2, 1, (0, [], [])), (.invokestatic 69, 3, (0, [], []))]
theorem ok_X2_copyFrom_30 : zOK cX2_copyFrom 2 false 2 k_X2_copyFrom_30 30 = true := zOK_by (by decide +kernel)
def k_X2_copyFrom_58 : List ZI := [(.aload_n 1, 1, (0, [1], [])), (.getfield 24, 3, (0, [2, 4], [])), (.iconst 0, 1, (0, [], [])), (.aload_n 0, 1, (0, [0], [])), (.getfield 24, 3, (0, [2, 4], [])), (.iconst 0, 1, (0, [], [])), (.iconst 2, 1, (0, [], [])), (.invokestatic 69, 3, (0, [], [])), (.aload_n 1, 1, (0, [1], [])), (.getfield 27, 3, (0, [2, 5], [])), (.iconst 0, 1, (0, [], [])), (.aload_n 0, 1, (0, [0], [])), (.getfield 27, 3, (0, [2, 5], [])), (.iconst 0, 1, (0, [], [])), (.iconst 2, 1, (0, [], [])), (.invokestatic 69, 3, (0, [], []))]
theorem ok_X2_copyFrom_58 : zOK cX2_copyFrom 2 false 2 k_X2_copyFrom_58 58 = true := zOK_by (by decide +kernel)
def k_X2_copyFrom_86 : List ZI := [(.aload_n 1, 1, (0, [1], [])), (.getfield 30, 3, (0, [2, 6], [])), (.iconst 0, 1, (0, [], [])), (.aload_n 0, 1, (0, [0], [])), (.getfield 30, 3, (0, [2, 6], [])), (.iconst 0, 1, (0, [], [])), (.bipush 20, 2, (0, [], [])), (.invokestatic 69, 3, (0, [], [])), (.aload_n 0, 1, (0, [0], [])), (.aload_n 1, 1, (0, [1], [])), (.getfield 51, 3, (0, [2, 7], [])), (.putfield 51, 3, (0, [2, 7], [])), (.aload_n 0, 1, (0, [0], [])), (.aload_n 1, 1, (0, [1], [])), (.getfield 33, 3, (0, [2, 8], [])), (.putfield 33, 3, (0, [2, 8], [])), (.aload_n 0, 1, (0, [0], [])), (.aload_n 1, 1, (0, [1], [])), (.getfield 66, 3, (0, [2, 9], [])), (.putfield 66, 3, (0, [2, 9], [])), (.return_, 1, (0, [], []))]
theorem ok_X2_copyFrom_86 : zOK cX2_copyFrom 2 false 2 k_X2_copyFrom_86 86 = true := zOK_by (by decide +kernel)
theorem rt_X2_copyFrom {g : Nat} {post : Option ZV → ZH → Prop} {h : ZH} {b : ZB2} : zRt mX2_copyFrom g post none h b = (post none h ∧ h.1.length = g) := by show (_ ∧ _ ∧ True) = _; simp
def bk_X2_copyFrom_0 (E : ZE) (CT : Nat → ZC) (X : ZK) (Rt : ZR) (ls : ZL) (st : List ZV) (h : ZH) (b : ZB2) : Prop := zB E CT k_X2_copyFrom_0 0 ls st h b (fun t ls st h b => X t ls st h b) Rt
theorem bs_X2_copyFrom_0 {E : ZE} {CT : Nat → ZC} {X : ZK} {Rt : ZR} {ls : ZL} {st : List ZV} {h : ZH} {b : ZB2} (hX : zCl E mX2_copyFrom 2 false CT Rt X) (q : bk_X2_copyFrom_0 E CT X Rt ls st h b) : X 0 ls st h b := by
  refine hX k_X2_copyFrom_0 0 ok_X2_copyFrom_0 _ ?_ ls st h b q
  exact fun t ls st h b q => q
def bk_X2_copyFrom_30 (E : ZE) (CT : Nat → ZC) (X : ZK) (Rt : ZR) (ls : ZL) (st : List ZV) (h : ZH) (b : ZB2) : Prop := zB E CT k_X2_copyFrom_30 30 ls st h b (fun t ls st h b => X t ls st h b) Rt
theorem bs_X2_copyFrom_30 {E : ZE} {CT : Nat → ZC} {X : ZK} {Rt : ZR} {ls : ZL} {st : List ZV} {h : ZH} {b : ZB2} (hX : zCl E mX2_copyFrom 2 false CT Rt X) (q : bk_X2_copyFrom_30 E CT X Rt ls st h b) : X 30 ls st h b := by
  refine hX k_X2_copyFrom_30 30 ok_X2_copyFrom_30 _ ?_ ls st h b q
  exact fun t ls st h b q => q
def bk_X2_copyFrom_58 (E : ZE) (CT : Nat → ZC) (X : ZK) (Rt : ZR) (ls : ZL) (st : List ZV) (h : ZH) (b : ZB2) : Prop := zB E CT k_X2_copyFrom_58 58 ls st h b (fun t ls st h b => X t ls st h b) Rt
theorem bs_X2_copyFrom_58 {E : ZE} {CT : Nat → ZC} {X : ZK} {Rt : ZR} {ls : ZL} {st : List ZV} {h : ZH} {b : ZB2} (hX : zCl E mX2_copyFrom 2 false CT Rt X) (q : bk_X2_copyFrom_58 E CT X Rt ls st h b) : X 58 ls st h b := by
  refine hX k_X2_copyFrom_58 58 ok_X2_copyFrom_58 _ ?_ ls st h b q
  exact fun t ls st h b q => q
def bk_X2_copyFrom_86 (E : ZE) (CT : Nat → ZC) (X : ZK) (Rt : ZR) (ls : ZL) (st : List ZV) (h : ZH) (b : ZB2) : Prop := zB E CT k_X2_copyFrom_86 86 ls st h b (fun t ls st h b => X t ls st h b) Rt
theorem bs_X2_copyFrom_86 {E : ZE} {CT : Nat → ZC} {X : ZK} {Rt : ZR} {ls : ZL} {st : List ZV} {h : ZH} {b : ZB2} (hX : zCl E mX2_copyFrom 2 false CT Rt X) (q : bk_X2_copyFrom_86 E CT X Rt ls st h b) : X 86 ls st h b := by
  refine hX k_X2_copyFrom_86 86 ok_X2_copyFrom_86 _ ?_ ls st h b q
  exact fun t ls st h b q => q
-- X2_copyFrom: cuts [30, 58, 86]
def B_hbeside (c : Int) (w : Int) (post : Option ZV → Prop) : Prop := 0 ≤ c ∧ c ≤ 63 ∧ rg w ∧ post (some (.inl (bsd c w)))
def C_hbeside : ZC := fun as h post => match as with
  | [.inl c, .inl w] => B_hbeside c w (fun v => post v h)
  | _ => False
theorem r_hbeside {c : Int} {w : Int} {h : ZH} {post : Option ZV → ZH → Prop} : C_hbeside [.inl c, .inl w] h post = B_hbeside c w (fun v => post v h) := rfl
def ct_hbeside : Nat → ZC := fun n => fun _ _ _ => False
theorem c_hbeside {E : ZE} {d : Nat} (hd : 1 ≤ d) : zMet E d mX2_beside C_hbeside := by
  refine zmet_of (o := 2) (ini := false) (CT := ct_hbeside) gd_X2_beside rfl (fun h => by cases h) (by omega) ?_ ?_
  · intro n as h post hh
    unfold ct_hbeside at hh
    exact hh.elim
  intro as h post hC
  match as, hC with
  | [.inl c, .inl w], hC =>
    refine ⟨Nat.le_of_ble_eq_true rfl, fun X hX => bs_X2_beside_0 hX ?_⟩
    have hC : B_hbeside c w (fun v => post v h) := hC
    simp only [B_hbeside] at hC
    show bk_X2_beside_0 E ct_hbeside X _ [some (.inl c), some (.inl w), none, none] [] h (0, 0)
    obtain ⟨h1, h2, h3, hC⟩ := hC
    have ha : zr c = c := zr_of (by omega) (by omega)
    have hm : zr (c % 8) = c % 8 := zr_of (by omega) (by omega)
    have hv : zr (c / 8) = c / 8 := zr_of (by omega) (by omega)
    simp only [bk_X2_beside_0, k_X2_beside_0, bk_X2_beside_40, k_X2_beside_40, bk_X2_beside_51, k_X2_beside_51, bk_X2_beside_52, k_X2_beside_52, bk_X2_beside_53, k_X2_beside_53, bk_X2_beside_65, k_X2_beside_65, bk_X2_beside_66, k_X2_beside_66, bk_X2_beside_67, k_X2_beside_67, bk_X2_beside_80, k_X2_beside_80, bk_X2_beside_81, k_X2_beside_81, bk_X2_beside_82, k_X2_beside_82, bk_X2_beside_92, k_X2_beside_92, bk_X2_beside_93, k_X2_beside_93, bk_X2_beside_94, k_X2_beside_94, ↓e_rk1, ↓e_rk0, ↓e_sk0, ↓e_sks, ↓e_ldi0, ↓e_ldis, ↓e_ldl0, ↓e_ldls, ↓e_lda0, ↓e_ldas, ↓e_ok0, ↓e_okss, ↓e_ok1i, ↓e_ok1r, ↓e_ok1n, ↓e_sti, ↓e_sta, ↓e_1, ↓e_2, ↓e_l1, ↓e_l2, ↓e_li, ↓e_sw0, ↓e_sws, ↓e_ceq, ↓e_cne, ↓e_clt, ↓e_cge, ↓e_cgt, ↓e_cle, ↓e_nil, ↓e_cons, ↓e_iconst, ↓e_bipush, ↓e_sipush, ↓e_ldc, ↓e_ldcw, ↓e_ldc2, ↓e_lconst, ↓e_iloadn, ↓e_iload, ↓e_lloadn, ↓e_lload, ↓e_aloadn, ↓e_aload, ↓e_istoren, ↓e_istore, ↓e_astoren, ↓e_astore, ↓e_add, ↓e_iinc, ↓e_iadd, ↓e_isub, ↓e_imul, ↓e_iand, ↓e_ior, ↓e_ixor, ↓e_ishl, ↓e_iushr, ↓e_idiv, ↓e_irem, ↓e_ineg, ↓e_i2l, ↓e_i2b, ↓e_i2s, ↓e_l2i, ↓e_land, ↓e_lor, ↓e_lshl, ↓e_lshr, ↓e_lushr, ↓e_lcmp, ↓e_dupi, ↓e_dupr, ↓e_popi, ↓e_dup2, ↓e_goto, ↓e_if, ↓e_icmp, ↓e_tsw, ↓e_lsw, ↓e_getf, ↓e_putf, ↓e_gets, ↓e_iald, ↓e_cald, ↓e_iast, ↓e_aald, ↓e_aast, ↓e_len, ↓e_copy, ↓e_abs, ↓e_max, ↓e_min, ↓e_iret, ↓e_aret, ↓e_vret, ↓e_is0, ↓e_is1, ↓e_is2, ↓e_is3, ↓e_is4, ↓e_iv1, ↓e_iv2, ↓e_iv3, ↓e_iv4, ↓e_iv5, ↓e_iv6, ↓rt_X2_beside, ↓reduceIte, Nat.reduceAdd, Nat.reduceEqDiff, ↓zcl0, ↓zclv, List.map_nil, List.sum_nil, List.map_cons, List.sum_cons, zcat, true_and, and_true, Nat.reduceLeDiff, Nat.reduceAdd, eq_self, forall_const, e_ok0, e_okss, e_ok1i, e_ok1r, e_ok1n, zl_m1, zl_1, zl_7, zl_8, Int.reduceToNat, Int.reduceAdd, Int.reduceMul, Int.reduceSub, Int.reduceNeg, Int.reduceLT, Int.reduceLE, Int.reduceEq, not_false_eq_true, not_true_eq_false, false_implies, true_implies, implies_true, Int.reduceDiv, Int.reduceMod, zr8_zr, zr_zbo, z01_zbo, z01_0, z01_1, zbo_eq0, zup_eq, zup_o, zup_k, ne_eq, ha, zr_rg, h3, td_of, h1, tm_of, h1]
    refine ⟨fun c1 => ?_, fun c1 => ⟨fun c2 => ?_, fun c2 => ⟨fun c3 => ?_, fun c3 => ⟨fun c4 => ?_, fun c4 => ?_⟩⟩⟩⟩
    · refine bs_X2_beside_40 hX ?_
      simp only [bk_X2_beside_0, k_X2_beside_0, bk_X2_beside_40, k_X2_beside_40, bk_X2_beside_51, k_X2_beside_51, bk_X2_beside_52, k_X2_beside_52, bk_X2_beside_53, k_X2_beside_53, bk_X2_beside_65, k_X2_beside_65, bk_X2_beside_66, k_X2_beside_66, bk_X2_beside_67, k_X2_beside_67, bk_X2_beside_80, k_X2_beside_80, bk_X2_beside_81, k_X2_beside_81, bk_X2_beside_82, k_X2_beside_82, bk_X2_beside_92, k_X2_beside_92, bk_X2_beside_93, k_X2_beside_93, bk_X2_beside_94, k_X2_beside_94, ↓e_rk1, ↓e_rk0, ↓e_sk0, ↓e_sks, ↓e_ldi0, ↓e_ldis, ↓e_ldl0, ↓e_ldls, ↓e_lda0, ↓e_ldas, ↓e_ok0, ↓e_okss, ↓e_ok1i, ↓e_ok1r, ↓e_ok1n, ↓e_sti, ↓e_sta, ↓e_1, ↓e_2, ↓e_l1, ↓e_l2, ↓e_li, ↓e_sw0, ↓e_sws, ↓e_ceq, ↓e_cne, ↓e_clt, ↓e_cge, ↓e_cgt, ↓e_cle, ↓e_nil, ↓e_cons, ↓e_iconst, ↓e_bipush, ↓e_sipush, ↓e_ldc, ↓e_ldcw, ↓e_ldc2, ↓e_lconst, ↓e_iloadn, ↓e_iload, ↓e_lloadn, ↓e_lload, ↓e_aloadn, ↓e_aload, ↓e_istoren, ↓e_istore, ↓e_astoren, ↓e_astore, ↓e_add, ↓e_iinc, ↓e_iadd, ↓e_isub, ↓e_imul, ↓e_iand, ↓e_ior, ↓e_ixor, ↓e_ishl, ↓e_iushr, ↓e_idiv, ↓e_irem, ↓e_ineg, ↓e_i2l, ↓e_i2b, ↓e_i2s, ↓e_l2i, ↓e_land, ↓e_lor, ↓e_lshl, ↓e_lshr, ↓e_lushr, ↓e_lcmp, ↓e_dupi, ↓e_dupr, ↓e_popi, ↓e_dup2, ↓e_goto, ↓e_if, ↓e_icmp, ↓e_tsw, ↓e_lsw, ↓e_getf, ↓e_putf, ↓e_gets, ↓e_iald, ↓e_cald, ↓e_iast, ↓e_aald, ↓e_aast, ↓e_len, ↓e_copy, ↓e_abs, ↓e_max, ↓e_min, ↓e_iret, ↓e_aret, ↓e_vret, ↓e_is0, ↓e_is1, ↓e_is2, ↓e_is3, ↓e_is4, ↓e_iv1, ↓e_iv2, ↓e_iv3, ↓e_iv4, ↓e_iv5, ↓e_iv6, ↓rt_X2_beside, ↓reduceIte, Nat.reduceAdd, Nat.reduceEqDiff, ↓zcl0, ↓zclv, List.map_nil, List.sum_nil, List.map_cons, List.sum_cons, zcat, true_and, and_true, Nat.reduceLeDiff, Nat.reduceAdd, eq_self, forall_const, e_ok0, e_okss, e_ok1i, e_ok1r, e_ok1n, zl_m1, zl_1, zl_7, zl_8, Int.reduceToNat, Int.reduceAdd, Int.reduceMul, Int.reduceSub, Int.reduceNeg, Int.reduceLT, Int.reduceLE, Int.reduceEq, not_false_eq_true, not_true_eq_false, false_implies, true_implies, implies_true, Int.reduceDiv, Int.reduceMod, zr8_zr, zr_zbo, z01_zbo, z01_0, z01_1, zbo_eq0, zup_eq, zup_o, zup_k, ne_eq, hm, hv]
      refine ⟨fun q => zpost hC ?_, fun q => zpost hC ?_⟩ <;> (unfold bsd; (repeat' split) <;> omega)
    · refine bs_X2_beside_53 hX ?_
      simp only [bk_X2_beside_0, k_X2_beside_0, bk_X2_beside_40, k_X2_beside_40, bk_X2_beside_51, k_X2_beside_51, bk_X2_beside_52, k_X2_beside_52, bk_X2_beside_53, k_X2_beside_53, bk_X2_beside_65, k_X2_beside_65, bk_X2_beside_66, k_X2_beside_66, bk_X2_beside_67, k_X2_beside_67, bk_X2_beside_80, k_X2_beside_80, bk_X2_beside_81, k_X2_beside_81, bk_X2_beside_82, k_X2_beside_82, bk_X2_beside_92, k_X2_beside_92, bk_X2_beside_93, k_X2_beside_93, bk_X2_beside_94, k_X2_beside_94, ↓e_rk1, ↓e_rk0, ↓e_sk0, ↓e_sks, ↓e_ldi0, ↓e_ldis, ↓e_ldl0, ↓e_ldls, ↓e_lda0, ↓e_ldas, ↓e_ok0, ↓e_okss, ↓e_ok1i, ↓e_ok1r, ↓e_ok1n, ↓e_sti, ↓e_sta, ↓e_1, ↓e_2, ↓e_l1, ↓e_l2, ↓e_li, ↓e_sw0, ↓e_sws, ↓e_ceq, ↓e_cne, ↓e_clt, ↓e_cge, ↓e_cgt, ↓e_cle, ↓e_nil, ↓e_cons, ↓e_iconst, ↓e_bipush, ↓e_sipush, ↓e_ldc, ↓e_ldcw, ↓e_ldc2, ↓e_lconst, ↓e_iloadn, ↓e_iload, ↓e_lloadn, ↓e_lload, ↓e_aloadn, ↓e_aload, ↓e_istoren, ↓e_istore, ↓e_astoren, ↓e_astore, ↓e_add, ↓e_iinc, ↓e_iadd, ↓e_isub, ↓e_imul, ↓e_iand, ↓e_ior, ↓e_ixor, ↓e_ishl, ↓e_iushr, ↓e_idiv, ↓e_irem, ↓e_ineg, ↓e_i2l, ↓e_i2b, ↓e_i2s, ↓e_l2i, ↓e_land, ↓e_lor, ↓e_lshl, ↓e_lshr, ↓e_lushr, ↓e_lcmp, ↓e_dupi, ↓e_dupr, ↓e_popi, ↓e_dup2, ↓e_goto, ↓e_if, ↓e_icmp, ↓e_tsw, ↓e_lsw, ↓e_getf, ↓e_putf, ↓e_gets, ↓e_iald, ↓e_cald, ↓e_iast, ↓e_aald, ↓e_aast, ↓e_len, ↓e_copy, ↓e_abs, ↓e_max, ↓e_min, ↓e_iret, ↓e_aret, ↓e_vret, ↓e_is0, ↓e_is1, ↓e_is2, ↓e_is3, ↓e_is4, ↓e_iv1, ↓e_iv2, ↓e_iv3, ↓e_iv4, ↓e_iv5, ↓e_iv6, ↓rt_X2_beside, ↓reduceIte, Nat.reduceAdd, Nat.reduceEqDiff, ↓zcl0, ↓zclv, List.map_nil, List.sum_nil, List.map_cons, List.sum_cons, zcat, true_and, and_true, Nat.reduceLeDiff, Nat.reduceAdd, eq_self, forall_const, e_ok0, e_okss, e_ok1i, e_ok1r, e_ok1n, zl_m1, zl_1, zl_7, zl_8, Int.reduceToNat, Int.reduceAdd, Int.reduceMul, Int.reduceSub, Int.reduceNeg, Int.reduceLT, Int.reduceLE, Int.reduceEq, not_false_eq_true, not_true_eq_false, false_implies, true_implies, implies_true, Int.reduceDiv, Int.reduceMod, zr8_zr, zr_zbo, z01_zbo, z01_0, z01_1, zbo_eq0, zup_eq, zup_o, zup_k, ne_eq, hm, hv]
      refine ⟨fun q => zpost hC ?_, fun q => zpost hC ?_⟩ <;> (unfold bsd; (repeat' split) <;> omega)
    · refine bs_X2_beside_67 hX ?_
      simp only [bk_X2_beside_0, k_X2_beside_0, bk_X2_beside_40, k_X2_beside_40, bk_X2_beside_51, k_X2_beside_51, bk_X2_beside_52, k_X2_beside_52, bk_X2_beside_53, k_X2_beside_53, bk_X2_beside_65, k_X2_beside_65, bk_X2_beside_66, k_X2_beside_66, bk_X2_beside_67, k_X2_beside_67, bk_X2_beside_80, k_X2_beside_80, bk_X2_beside_81, k_X2_beside_81, bk_X2_beside_82, k_X2_beside_82, bk_X2_beside_92, k_X2_beside_92, bk_X2_beside_93, k_X2_beside_93, bk_X2_beside_94, k_X2_beside_94, ↓e_rk1, ↓e_rk0, ↓e_sk0, ↓e_sks, ↓e_ldi0, ↓e_ldis, ↓e_ldl0, ↓e_ldls, ↓e_lda0, ↓e_ldas, ↓e_ok0, ↓e_okss, ↓e_ok1i, ↓e_ok1r, ↓e_ok1n, ↓e_sti, ↓e_sta, ↓e_1, ↓e_2, ↓e_l1, ↓e_l2, ↓e_li, ↓e_sw0, ↓e_sws, ↓e_ceq, ↓e_cne, ↓e_clt, ↓e_cge, ↓e_cgt, ↓e_cle, ↓e_nil, ↓e_cons, ↓e_iconst, ↓e_bipush, ↓e_sipush, ↓e_ldc, ↓e_ldcw, ↓e_ldc2, ↓e_lconst, ↓e_iloadn, ↓e_iload, ↓e_lloadn, ↓e_lload, ↓e_aloadn, ↓e_aload, ↓e_istoren, ↓e_istore, ↓e_astoren, ↓e_astore, ↓e_add, ↓e_iinc, ↓e_iadd, ↓e_isub, ↓e_imul, ↓e_iand, ↓e_ior, ↓e_ixor, ↓e_ishl, ↓e_iushr, ↓e_idiv, ↓e_irem, ↓e_ineg, ↓e_i2l, ↓e_i2b, ↓e_i2s, ↓e_l2i, ↓e_land, ↓e_lor, ↓e_lshl, ↓e_lshr, ↓e_lushr, ↓e_lcmp, ↓e_dupi, ↓e_dupr, ↓e_popi, ↓e_dup2, ↓e_goto, ↓e_if, ↓e_icmp, ↓e_tsw, ↓e_lsw, ↓e_getf, ↓e_putf, ↓e_gets, ↓e_iald, ↓e_cald, ↓e_iast, ↓e_aald, ↓e_aast, ↓e_len, ↓e_copy, ↓e_abs, ↓e_max, ↓e_min, ↓e_iret, ↓e_aret, ↓e_vret, ↓e_is0, ↓e_is1, ↓e_is2, ↓e_is3, ↓e_is4, ↓e_iv1, ↓e_iv2, ↓e_iv3, ↓e_iv4, ↓e_iv5, ↓e_iv6, ↓rt_X2_beside, ↓reduceIte, Nat.reduceAdd, Nat.reduceEqDiff, ↓zcl0, ↓zclv, List.map_nil, List.sum_nil, List.map_cons, List.sum_cons, zcat, true_and, and_true, Nat.reduceLeDiff, Nat.reduceAdd, eq_self, forall_const, e_ok0, e_okss, e_ok1i, e_ok1r, e_ok1n, zl_m1, zl_1, zl_7, zl_8, Int.reduceToNat, Int.reduceAdd, Int.reduceMul, Int.reduceSub, Int.reduceNeg, Int.reduceLT, Int.reduceLE, Int.reduceEq, not_false_eq_true, not_true_eq_false, false_implies, true_implies, implies_true, Int.reduceDiv, Int.reduceMod, zr8_zr, zr_zbo, z01_zbo, z01_0, z01_1, zbo_eq0, zup_eq, zup_o, zup_k, ne_eq, hm, hv]
      refine ⟨fun q => zpost hC ?_, fun q => zpost hC ?_⟩ <;> (unfold bsd; (repeat' split) <;> omega)
    · refine bs_X2_beside_82 hX ?_
      simp only [bk_X2_beside_0, k_X2_beside_0, bk_X2_beside_40, k_X2_beside_40, bk_X2_beside_51, k_X2_beside_51, bk_X2_beside_52, k_X2_beside_52, bk_X2_beside_53, k_X2_beside_53, bk_X2_beside_65, k_X2_beside_65, bk_X2_beside_66, k_X2_beside_66, bk_X2_beside_67, k_X2_beside_67, bk_X2_beside_80, k_X2_beside_80, bk_X2_beside_81, k_X2_beside_81, bk_X2_beside_82, k_X2_beside_82, bk_X2_beside_92, k_X2_beside_92, bk_X2_beside_93, k_X2_beside_93, bk_X2_beside_94, k_X2_beside_94, ↓e_rk1, ↓e_rk0, ↓e_sk0, ↓e_sks, ↓e_ldi0, ↓e_ldis, ↓e_ldl0, ↓e_ldls, ↓e_lda0, ↓e_ldas, ↓e_ok0, ↓e_okss, ↓e_ok1i, ↓e_ok1r, ↓e_ok1n, ↓e_sti, ↓e_sta, ↓e_1, ↓e_2, ↓e_l1, ↓e_l2, ↓e_li, ↓e_sw0, ↓e_sws, ↓e_ceq, ↓e_cne, ↓e_clt, ↓e_cge, ↓e_cgt, ↓e_cle, ↓e_nil, ↓e_cons, ↓e_iconst, ↓e_bipush, ↓e_sipush, ↓e_ldc, ↓e_ldcw, ↓e_ldc2, ↓e_lconst, ↓e_iloadn, ↓e_iload, ↓e_lloadn, ↓e_lload, ↓e_aloadn, ↓e_aload, ↓e_istoren, ↓e_istore, ↓e_astoren, ↓e_astore, ↓e_add, ↓e_iinc, ↓e_iadd, ↓e_isub, ↓e_imul, ↓e_iand, ↓e_ior, ↓e_ixor, ↓e_ishl, ↓e_iushr, ↓e_idiv, ↓e_irem, ↓e_ineg, ↓e_i2l, ↓e_i2b, ↓e_i2s, ↓e_l2i, ↓e_land, ↓e_lor, ↓e_lshl, ↓e_lshr, ↓e_lushr, ↓e_lcmp, ↓e_dupi, ↓e_dupr, ↓e_popi, ↓e_dup2, ↓e_goto, ↓e_if, ↓e_icmp, ↓e_tsw, ↓e_lsw, ↓e_getf, ↓e_putf, ↓e_gets, ↓e_iald, ↓e_cald, ↓e_iast, ↓e_aald, ↓e_aast, ↓e_len, ↓e_copy, ↓e_abs, ↓e_max, ↓e_min, ↓e_iret, ↓e_aret, ↓e_vret, ↓e_is0, ↓e_is1, ↓e_is2, ↓e_is3, ↓e_is4, ↓e_iv1, ↓e_iv2, ↓e_iv3, ↓e_iv4, ↓e_iv5, ↓e_iv6, ↓rt_X2_beside, ↓reduceIte, Nat.reduceAdd, Nat.reduceEqDiff, ↓zcl0, ↓zclv, List.map_nil, List.sum_nil, List.map_cons, List.sum_cons, zcat, true_and, and_true, Nat.reduceLeDiff, Nat.reduceAdd, eq_self, forall_const, e_ok0, e_okss, e_ok1i, e_ok1r, e_ok1n, zl_m1, zl_1, zl_7, zl_8, Int.reduceToNat, Int.reduceAdd, Int.reduceMul, Int.reduceSub, Int.reduceNeg, Int.reduceLT, Int.reduceLE, Int.reduceEq, not_false_eq_true, not_true_eq_false, false_implies, true_implies, implies_true, Int.reduceDiv, Int.reduceMod, zr8_zr, zr_zbo, z01_zbo, z01_0, z01_1, zbo_eq0, zup_eq, zup_o, zup_k, ne_eq, hm, hv]
      refine ⟨fun q => zpost hC ?_, fun q => zpost hC ?_⟩ <;> (unfold bsd; (repeat' split) <;> omega)
    · refine bs_X2_beside_94 hX ?_
      simp only [bk_X2_beside_0, k_X2_beside_0, bk_X2_beside_40, k_X2_beside_40, bk_X2_beside_51, k_X2_beside_51, bk_X2_beside_52, k_X2_beside_52, bk_X2_beside_53, k_X2_beside_53, bk_X2_beside_65, k_X2_beside_65, bk_X2_beside_66, k_X2_beside_66, bk_X2_beside_67, k_X2_beside_67, bk_X2_beside_80, k_X2_beside_80, bk_X2_beside_81, k_X2_beside_81, bk_X2_beside_82, k_X2_beside_82, bk_X2_beside_92, k_X2_beside_92, bk_X2_beside_93, k_X2_beside_93, bk_X2_beside_94, k_X2_beside_94, ↓e_rk1, ↓e_rk0, ↓e_sk0, ↓e_sks, ↓e_ldi0, ↓e_ldis, ↓e_ldl0, ↓e_ldls, ↓e_lda0, ↓e_ldas, ↓e_ok0, ↓e_okss, ↓e_ok1i, ↓e_ok1r, ↓e_ok1n, ↓e_sti, ↓e_sta, ↓e_1, ↓e_2, ↓e_l1, ↓e_l2, ↓e_li, ↓e_sw0, ↓e_sws, ↓e_ceq, ↓e_cne, ↓e_clt, ↓e_cge, ↓e_cgt, ↓e_cle, ↓e_nil, ↓e_cons, ↓e_iconst, ↓e_bipush, ↓e_sipush, ↓e_ldc, ↓e_ldcw, ↓e_ldc2, ↓e_lconst, ↓e_iloadn, ↓e_iload, ↓e_lloadn, ↓e_lload, ↓e_aloadn, ↓e_aload, ↓e_istoren, ↓e_istore, ↓e_astoren, ↓e_astore, ↓e_add, ↓e_iinc, ↓e_iadd, ↓e_isub, ↓e_imul, ↓e_iand, ↓e_ior, ↓e_ixor, ↓e_ishl, ↓e_iushr, ↓e_idiv, ↓e_irem, ↓e_ineg, ↓e_i2l, ↓e_i2b, ↓e_i2s, ↓e_l2i, ↓e_land, ↓e_lor, ↓e_lshl, ↓e_lshr, ↓e_lushr, ↓e_lcmp, ↓e_dupi, ↓e_dupr, ↓e_popi, ↓e_dup2, ↓e_goto, ↓e_if, ↓e_icmp, ↓e_tsw, ↓e_lsw, ↓e_getf, ↓e_putf, ↓e_gets, ↓e_iald, ↓e_cald, ↓e_iast, ↓e_aald, ↓e_aast, ↓e_len, ↓e_copy, ↓e_abs, ↓e_max, ↓e_min, ↓e_iret, ↓e_aret, ↓e_vret, ↓e_is0, ↓e_is1, ↓e_is2, ↓e_is3, ↓e_is4, ↓e_iv1, ↓e_iv2, ↓e_iv3, ↓e_iv4, ↓e_iv5, ↓e_iv6, ↓rt_X2_beside, ↓reduceIte, Nat.reduceAdd, Nat.reduceEqDiff, ↓zcl0, ↓zclv, List.map_nil, List.sum_nil, List.map_cons, List.sum_cons, zcat, true_and, and_true, Nat.reduceLeDiff, Nat.reduceAdd, eq_self, forall_const, e_ok0, e_okss, e_ok1i, e_ok1r, e_ok1n, zl_m1, zl_1, zl_7, zl_8, Int.reduceToNat, Int.reduceAdd, Int.reduceMul, Int.reduceSub, Int.reduceNeg, Int.reduceLT, Int.reduceLE, Int.reduceEq, not_false_eq_true, not_true_eq_false, false_implies, true_implies, implies_true, Int.reduceDiv, Int.reduceMod, zr8_zr, zr_zbo, z01_zbo, z01_0, z01_1, zbo_eq0, zup_eq, zup_o, zup_k, ne_eq, hm, hv]
      exact zpost hC (by unfold bsd; (repeat' split) <;> omega)
def B_hfar (a : Int) (b : Int) (post : Option ZV → Prop) : Prop := 0 ≤ a ∧ a ≤ 63 ∧ 0 ≤ b ∧ b ≤ 63 ∧ post (some (.inl (fr a b)))
def C_hfar : ZC := fun as h post => match as with
  | [.inl a, .inl b] => B_hfar a b (fun v => post v h)
  | _ => False
theorem r_hfar {a : Int} {b : Int} {h : ZH} {post : Option ZV → ZH → Prop} : C_hfar [.inl a, .inl b] h post = B_hfar a b (fun v => post v h) := rfl
def ct_hfar : Nat → ZC := fun n => fun _ _ _ => False
theorem c_hfar {E : ZE} {d : Nat} (hd : 1 ≤ d) : zMet E d mX2_far C_hfar := by
  refine zmet_of (o := 2) (ini := false) (CT := ct_hfar) gd_X2_far rfl (fun h => by cases h) (by omega) ?_ ?_
  · intro n as h post hh
    unfold ct_hfar at hh
    exact hh.elim
  intro as h post hC
  match as, hC with
  | [.inl a, .inl b], hC =>
    refine ⟨Nat.le_of_ble_eq_true rfl, fun X hX => bs_X2_far_0 hX ?_⟩
    have hC : B_hfar a b (fun v => post v h) := hC
    simp only [B_hfar] at hC
    show bk_X2_far_0 E ct_hfar X _ [some (.inl a), some (.inl b)] [] h (0, 0)
    obtain ⟨h1, h2, h3, h4, hC⟩ := hC
    have ha : zr a = a := zr_of (by omega) (by omega)
    have hb : zr b = b := zr_of (by omega) (by omega)
    have z1 : zr (a % 8 - b % 8) = a % 8 - b % 8 := zr_of (by omega) (by omega)
    have z2 : zr (a / 8 - b / 8) = a / 8 - b / 8 := zr_of (by omega) (by omega)
    simp only [bk_X2_far_0, k_X2_far_0, ↓e_rk1, ↓e_rk0, ↓e_sk0, ↓e_sks, ↓e_ldi0, ↓e_ldis, ↓e_ldl0, ↓e_ldls, ↓e_lda0, ↓e_ldas, ↓e_ok0, ↓e_okss, ↓e_ok1i, ↓e_ok1r, ↓e_ok1n, ↓e_sti, ↓e_sta, ↓e_1, ↓e_2, ↓e_l1, ↓e_l2, ↓e_li, ↓e_sw0, ↓e_sws, ↓e_ceq, ↓e_cne, ↓e_clt, ↓e_cge, ↓e_cgt, ↓e_cle, ↓e_nil, ↓e_cons, ↓e_iconst, ↓e_bipush, ↓e_sipush, ↓e_ldc, ↓e_ldcw, ↓e_ldc2, ↓e_lconst, ↓e_iloadn, ↓e_iload, ↓e_lloadn, ↓e_lload, ↓e_aloadn, ↓e_aload, ↓e_istoren, ↓e_istore, ↓e_astoren, ↓e_astore, ↓e_add, ↓e_iinc, ↓e_iadd, ↓e_isub, ↓e_imul, ↓e_iand, ↓e_ior, ↓e_ixor, ↓e_ishl, ↓e_iushr, ↓e_idiv, ↓e_irem, ↓e_ineg, ↓e_i2l, ↓e_i2b, ↓e_i2s, ↓e_l2i, ↓e_land, ↓e_lor, ↓e_lshl, ↓e_lshr, ↓e_lushr, ↓e_lcmp, ↓e_dupi, ↓e_dupr, ↓e_popi, ↓e_dup2, ↓e_goto, ↓e_if, ↓e_icmp, ↓e_tsw, ↓e_lsw, ↓e_getf, ↓e_putf, ↓e_gets, ↓e_iald, ↓e_cald, ↓e_iast, ↓e_aald, ↓e_aast, ↓e_len, ↓e_copy, ↓e_abs, ↓e_max, ↓e_min, ↓e_iret, ↓e_aret, ↓e_vret, ↓e_is0, ↓e_is1, ↓e_is2, ↓e_is3, ↓e_is4, ↓e_iv1, ↓e_iv2, ↓e_iv3, ↓e_iv4, ↓e_iv5, ↓e_iv6, ↓rt_X2_far, ↓reduceIte, Nat.reduceAdd, Nat.reduceEqDiff, ↓zcl0, ↓zclv, List.map_nil, List.sum_nil, List.map_cons, List.sum_cons, zcat, true_and, and_true, Nat.reduceLeDiff, Nat.reduceAdd, eq_self, forall_const, e_ok0, e_okss, e_ok1i, e_ok1r, e_ok1n, zl_8, Int.reduceToNat, Int.reduceAdd, Int.reduceMul, Int.reduceSub, Int.reduceNeg, Int.reduceLT, Int.reduceLE, Int.reduceEq, not_false_eq_true, not_true_eq_false, false_implies, true_implies, implies_true, Int.reduceDiv, Int.reduceMod, zr8_zr, zr_zbo, z01_zbo, z01_0, z01_1, zbo_eq0, zup_eq, zup_o, zup_k, ne_eq, ha, hb, td_of, h1, td_of, h3, tm_of, h1, tm_of, h3, z1, z2]
    refine zpost hC ?_
    unfold fr sz
    (repeat' split) <;> omega
/-- a hill of the class says what the row d says -/
def HR (h : Nat) (M : ZMm) (d : Nat → Int) : Prop :=
  (∀ k, k < 64 → M (h + 1) k = d (6 + k)) ∧ (∀ k, k < 64 → M (h + 2) k = d (70 + k))
  ∧ (∀ g, g < 2 → M (h + 3) g = d (134 + 4 * g) ∧ M (h + 4) g = d (134 + 4 * g + 1) ∧ M (h + 5) g = d (134 + 4 * g + 2) ∧ M (h + 6) g = d (134 + 4 * g + 3))
  ∧ (0 ≤ M h 7 ∧ M h 7 < 10) ∧ M h 8 = d 2 ∧ M h 9 = d 1
  ∧ ∀ g k, g < 2 → k < 10 → M (h + 7) (10 * g + ((M h 7).toNat + 10 - k) % 10) = d (142 + 10 * g + k)
theorem HR_cg {h : Nat} {M M' : ZMm} {d d' : Nat → Int} (H : HR h M d) (e : ∀ x, h ≤ x → x ≤ h + 7 → M' x = M x) (e2 : ∀ k, (k < 162 ∧ ¬ k = 0 ∧ ¬ k = 3 ∧ ¬ k = 4 ∧ ¬ k = 5) → d' k = d k) : HR h M' d' := by
  obtain ⟨a, b, c, t, dl, yr, w⟩ := H
  refine ⟨fun k hk => ?_, fun k hk => ?_, fun g hg => ?_, ?_, ?_, ?_, fun g k hg hk => ?_⟩
  · rw [e (h + 1) (by omega) (by omega), e2 (6 + k) (by omega)]; exact a k hk
  · rw [e (h + 2) (by omega) (by omega), e2 (70 + k) (by omega)]; exact b k hk
  · rw [e (h + 3) (by omega) (by omega), e (h + 4) (by omega) (by omega), e (h + 5) (by omega) (by omega), e (h + 6) (by omega) (by omega), e2 _ (by omega), e2 _ (by omega), e2 _ (by omega), e2 _ (by omega)]; exact c g hg
  · rw [e h (by omega) (by omega)]; exact t
  · rw [e h (by omega) (by omega), e2 2 (by omega)]; exact dl
  · rw [e h (by omega) (by omega), e2 1 (by omega)]; exact yr
  · rw [e h (by omega) (by omega), e (h + 7) (by omega) (by omega), e2 _ (by omega)]; exact w g k hg hk
theorem HR_rock {h : Nat} {M : ZMm} {d : Nat → Int} (H : HR h M d) {c : Nat} {v : Int} (hc : c < 64) : HR h (zup M (h + 1) c v) (up1 d (6 + c) v) := by
  obtain ⟨a, b, cc, t, dl, yr, w⟩ := H
  refine ⟨fun k hk => ?_, fun k hk => ?_, fun g hg => ?_, ?_, ?_, ?_, fun g k hg hk => ?_⟩
  · by_cases q : k = c
    · subst q; rw [zup_eq, up1_eq]
    · rw [zup_k q, up1_ne (by omega)]; exact a k hk
  · rw [zup_o (by omega), up1_ne (by omega)]; exact b k hk
  · rw [zup_o (by omega), zup_o (by omega), zup_o (by omega), zup_o (by omega), up1_ne (by omega), up1_ne (by omega), up1_ne (by omega), up1_ne (by omega)]; exact cc g hg
  · rw [zup_o (by omega)]; exact t
  · rw [zup_o (by omega), up1_ne (by omega)]; exact dl
  · rw [zup_o (by omega), up1_ne (by omega)]; exact yr
  · rw [zup_o (by omega), zup_o (by omega), up1_ne (by omega)]; exact w g k hg hk
theorem HR_dug {h : Nat} {M : ZMm} {d : Nat → Int} (H : HR h M d) {c : Nat} {v : Int} (hc : c < 64) : HR h (zup M (h + 2) c v) (up1 d (70 + c) v) := by
  obtain ⟨a, b, cc, t, dl, yr, w⟩ := H
  refine ⟨fun k hk => ?_, fun k hk => ?_, fun g hg => ?_, ?_, ?_, ?_, fun g k hg hk => ?_⟩
  · rw [zup_o (by omega), up1_ne (by omega)]; exact a k hk
  · by_cases q : k = c
    · subst q; rw [zup_eq, up1_eq]
    · rw [zup_k q, up1_ne (by omega)]; exact b k hk
  · rw [zup_o (by omega), zup_o (by omega), zup_o (by omega), zup_o (by omega), up1_ne (by omega), up1_ne (by omega), up1_ne (by omega), up1_ne (by omega)]; exact cc g hg
  · rw [zup_o (by omega)]; exact t
  · rw [zup_o (by omega), up1_ne (by omega)]; exact dl
  · rw [zup_o (by omega), up1_ne (by omega)]; exact yr
  · rw [zup_o (by omega), zup_o (by omega), up1_ne (by omega)]; exact w g k hg hk
theorem HR_hd {h : Nat} {M : ZMm} {d : Nat → Int} (H : HR h M d) {q w9 : Nat} {v : Int} (hq : q < 2) (hw : w9 < 4) : HR h (zup M (h + 3 + w9) q v) (up1 d (134 + 4 * q + w9) v) := by
  obtain ⟨a, b, cc, t, dl, yr, w⟩ := H
  refine ⟨fun k hk => ?_, fun k hk => ?_, fun g hg => ?_, ?_, ?_, ?_, fun g k hg hk => ?_⟩
  · rw [zup_o (by omega), up1_ne (by omega)]; exact a k hk
  · rw [zup_o (by omega), up1_ne (by omega)]; exact b k hk
  · have := cc g hg
    have key : ∀ i, i < 4 → M (h + 3 + i) g = d (134 + 4 * g + i) → zup M (h + 3 + w9) q v (h + 3 + i) g = up1 d (134 + 4 * q + w9) v (134 + 4 * g + i) := by
      intro i hi e
      by_cases q1 : i = w9 ∧ g = q
      · obtain ⟨q2, q3⟩ := q1
        subst q2; subst q3
        rw [zup_eq, up1_eq]
      · rw [up1_ne (by omega), ← e]
        simp only [zup]
        rw [if_neg (by omega)]
    exact ⟨key 0 (by omega) this.1, key 1 (by omega) this.2.1, key 2 (by omega) this.2.2.1, key 3 (by omega) this.2.2.2⟩
  · rw [zup_o (by omega)]; exact t
  · rw [zup_o (by omega), up1_ne (by omega)]; exact dl
  · rw [zup_o (by omega), up1_ne (by omega)]; exact yr
  · rw [zup_o (by omega), zup_o (by omega), up1_ne (by omega)]; exact w g k hg hk
theorem HR_del {h : Nat} {M : ZMm} {d : Nat → Int} (H : HR h M d) {v : Int} : HR h (zup M h 8 v) (up1 d 2 v) := by
  obtain ⟨a, b, cc, t, dl, yr, w⟩ := H
  refine ⟨fun k hk => ?_, fun k hk => ?_, fun g hg => ?_, ?_, ?_, ?_, fun g k hg hk => ?_⟩
  · rw [zup_o (by omega), up1_ne (by omega)]; exact a k hk
  · rw [zup_o (by omega), up1_ne (by omega)]; exact b k hk
  · rw [zup_o (by omega), zup_o (by omega), zup_o (by omega), zup_o (by omega), up1_ne (by omega), up1_ne (by omega), up1_ne (by omega), up1_ne (by omega)]; exact cc g hg
  · rw [zup_k (by omega)]; exact t
  · rw [zup_eq, up1_eq]
  · rw [zup_k (by omega), up1_ne (by omega)]; exact yr
  · rw [zup_o (by omega), zup_k (by omega), up1_ne (by omega)]; exact w g k hg hk
theorem HR.at {h : Nat} {M : ZMm} {d : Nat → Int} (H : HR h M d) {g : Int} (h0 : 0 ≤ g) (h1 : g < 2) : M (h + 3) g.toNat = hi4 d g 0 ∧ M (h + 4) g.toNat = hi4 d g 1 ∧ M (h + 5) g.toNat = hi4 d g 2 ∧ M (h + 6) g.toNat = hi4 d g 3 := by
  have := H.2.2.1 g.toNat (by omega)
  unfold hi4
  rw [show (134 + 4 * g + 0).toNat = 134 + 4 * g.toNat by omega, show (134 + 4 * g + 1).toNat = 134 + 4 * g.toNat + 1 by omega, show (134 + 4 * g + 2).toNat = 134 + 4 * g.toNat + 2 by omega, show (134 + 4 * g + 3).toNat = 134 + 4 * g.toNat + 3 by omega]
  exact this
def B_hgap (o : Nat) (M : Nat → Nat → Int) (post : Option ZV → (Nat → Nat → Int) → Prop) : Prop := hillb o ∧ ∃ d : Nat → Int, HR o M d ∧ Vd d ∧ post (some (.inl (gap d))) M
def C_hgap : ZC := fun as h post => match as with
  | [.inr (.inr (.inl o))] => h.1 = zG ∧ B_hgap o h.2 (fun v M => post v (zG, M))
  | _ => False
theorem r_hgap {o : Nat} {M : Nat → Nat → Int} {post : Option ZV → ZH → Prop} : C_hgap [.inr (.inr (.inl o))] (zG, M) post = B_hgap o M (fun v M => post v (zG, M)) := by show (zG = zG ∧ _) = _; simp
def ct_hgap : Nat → ZC := fun n => if n = 17 then C_hfar else fun _ _ _ => False
theorem ct_hgap_hfar {as : List ZV} {h : ZH} {post : Option ZV → ZH → Prop} : ct_hgap 17 as h post = C_hfar as h post := rfl
theorem c_hgap {E : ZE} {d : Nat} (hd : 2 ≤ d) : zMet E d mX2_gap C_hgap := by
  refine zmet_of (o := 2) (ini := false) (CT := ct_hgap) gd_X2_gap rfl (fun h => by cases h) (by omega) ?_ ?_
  · intro n as h post hh
    unfold ct_hgap at hh
    by_cases c : n = 17
    · subst c; exact ⟨gd_X2_far, 1, by omega, c_hfar (by omega)⟩
    rw [if_neg c] at hh
    exact hh.elim
  intro as h post hC
  match as, hC with
  | [.inr (.inr (.inl o))], hC =>
    refine ⟨Nat.le_of_ble_eq_true rfl, fun X hX => bs_X2_gap_0 hX ?_⟩
    obtain ⟨G, M⟩ := h
    obtain ⟨hG, hC⟩ := hC
    dsimp only at hG
    subst hG
    simp only [B_hgap] at hC
    show bk_X2_gap_0 E ct_hgap X _ [some (.inr (.inr (.inl o)))] [] (zG, M) (0, 0)
    obtain ⟨hb, d9, H, vd, hC⟩ := hC
    have q0 := (Vd_hi vd (e := 0) (by omega) (by omega)).1
    have q1 := (Vd_hi vd (e := 1) (by omega) (by omega)).1
    have a0 : M (o + 3) 0 = hi4 d9 0 0 := (H.at (g := 0) (by omega) (by omega)).1
    have a1 : M (o + 3) 1 = hi4 d9 1 0 := (H.at (g := 1) (by omega) (by omega)).1
    simp only [bk_X2_gap_0, k_X2_gap_0, ↓e_rk1, ↓e_rk0, ↓e_sk0, ↓e_sks, ↓e_ldi0, ↓e_ldis, ↓e_ldl0, ↓e_ldls, ↓e_lda0, ↓e_ldas, ↓e_ok0, ↓e_okss, ↓e_ok1i, ↓e_ok1r, ↓e_ok1n, ↓e_sti, ↓e_sta, ↓e_1, ↓e_2, ↓e_l1, ↓e_l2, ↓e_li, ↓e_sw0, ↓e_sws, ↓e_ceq, ↓e_cne, ↓e_clt, ↓e_cge, ↓e_cgt, ↓e_cle, ↓e_nil, ↓e_cons, ↓e_iconst, ↓e_bipush, ↓e_sipush, ↓e_ldc, ↓e_ldcw, ↓e_ldc2, ↓e_lconst, ↓e_iloadn, ↓e_iload, ↓e_lloadn, ↓e_lload, ↓e_aloadn, ↓e_aload, ↓e_istoren, ↓e_istore, ↓e_astoren, ↓e_astore, ↓e_add, ↓e_iinc, ↓e_iadd, ↓e_isub, ↓e_imul, ↓e_iand, ↓e_ior, ↓e_ixor, ↓e_ishl, ↓e_iushr, ↓e_idiv, ↓e_irem, ↓e_ineg, ↓e_i2l, ↓e_i2b, ↓e_i2s, ↓e_l2i, ↓e_land, ↓e_lor, ↓e_lshl, ↓e_lshr, ↓e_lushr, ↓e_lcmp, ↓e_dupi, ↓e_dupr, ↓e_popi, ↓e_dup2, ↓e_goto, ↓e_if, ↓e_icmp, ↓e_tsw, ↓e_lsw, ↓e_getf, ↓e_putf, ↓e_gets, ↓e_iald, ↓e_cald, ↓e_iast, ↓e_aald, ↓e_aast, ↓e_len, ↓e_copy, ↓e_abs, ↓e_max, ↓e_min, ↓e_iret, ↓e_aret, ↓e_vret, ↓e_is0, ↓e_is1, ↓e_is2, ↓e_is3, ↓e_is4, ↓e_iv1, ↓e_iv2, ↓e_iv3, ↓e_iv4, ↓e_iv5, ↓e_iv6, ↓rt_X2_gap, ↓reduceIte, Nat.reduceAdd, Nat.reduceEqDiff, ↓zcl0, ↓zclv, List.map_nil, List.sum_nil, List.map_cons, List.sum_cons, zcat, true_and, and_true, Nat.reduceLeDiff, Nat.reduceAdd, eq_self, forall_const, e_ok0, e_okss, e_ok1i, e_ok1r, e_ok1n, zl_0, zl_1, Int.reduceToNat, Int.reduceAdd, Int.reduceMul, Int.reduceSub, Int.reduceNeg, Int.reduceLT, Int.reduceLE, Int.reduceEq, not_false_eq_true, not_true_eq_false, false_implies, true_implies, implies_true, Int.reduceDiv, Int.reduceMod, zr8_zr, zr_zbo, z01_zbo, z01_0, z01_1, zbo_eq0, zup_eq, zup_o, zup_k, ne_eq, ↓ct_hgap_hfar, ↓r_hfar, ↓B_hfar, ↓vH hb, ↓gH_0 hb, ↓gH_1 hb, ↓gH_2 hb, ↓gH_3 hb, ↓gH_4 hb, ↓gH_5 hb, ↓gH_6 hb, ↓gH_7 hb, ↓gH_8 hb, ↓gH_9 hb, ↓pH_7 hb, ↓pH_8 hb, ↓pH_9 hb, ↓lH_1 hb, ↓sH_1 hb, ↓lH_2 hb, ↓sH_2 hb, ↓lH_3 hb, ↓sH_3 hb, ↓lH_4 hb, ↓sH_4 hb, ↓lH_5 hb, ↓sH_5 hb, ↓lH_6 hb, ↓sH_6 hb, ↓lH_7 hb, ↓sH_7 hb, a0, a1]
    exact ⟨q0.1, q0.2, q1.1, q1.2, hC⟩
def B_hheadsAt (o : Nat) (c : Int) (M : Nat → Nat → Int) (post : Option ZV → (Nat → Nat → Int) → Prop) : Prop := hillb o ∧ rg c ∧ ∃ d : Nat → Int, HR o M d ∧ Vd d ∧ post (some (.inl ((if hi4 d 0 0 = c then 1 else 0) + (if hi4 d 1 0 = c then 2 else 0)))) M
def C_hheadsAt : ZC := fun as h post => match as with
  | [.inr (.inr (.inl o)), .inl c] => h.1 = zG ∧ B_hheadsAt o c h.2 (fun v M => post v (zG, M))
  | _ => False
theorem r_hheadsAt {o : Nat} {c : Int} {M : Nat → Nat → Int} {post : Option ZV → ZH → Prop} : C_hheadsAt [.inr (.inr (.inl o)), .inl c] (zG, M) post = B_hheadsAt o c M (fun v M => post v (zG, M)) := by show (zG = zG ∧ _) = _; simp
def ct_hheadsAt : Nat → ZC := fun n => fun _ _ _ => False
theorem c_hheadsAt {E : ZE} {d : Nat} (hd : 1 ≤ d) : zMet E d mX2_headsAt C_hheadsAt := by
  refine zmet_of (o := 2) (ini := false) (CT := ct_hheadsAt) gd_X2_headsAt rfl (fun h => by cases h) (by omega) ?_ ?_
  · intro n as h post hh
    unfold ct_hheadsAt at hh
    exact hh.elim
  intro as h post hC
  match as, hC with
  | [.inr (.inr (.inl o)), .inl c], hC =>
    refine ⟨Nat.le_of_ble_eq_true rfl, fun X hX => bs_X2_headsAt_0 hX ?_⟩
    obtain ⟨G, M⟩ := h
    obtain ⟨hG, hC⟩ := hC
    dsimp only at hG
    subst hG
    simp only [B_hheadsAt] at hC
    show bk_X2_headsAt_0 E ct_hheadsAt X _ [some (.inr (.inr (.inl o))), some (.inl c)] [] (zG, M) (0, 0)
    obtain ⟨hb, hc, d9, H, vd, hC⟩ := hC
    have q0 := (Vd_hi vd (e := 0) (by omega) (by omega)).1
    have q1 := (Vd_hi vd (e := 1) (by omega) (by omega)).1
    have a0 : M (o + 3) 0 = hi4 d9 0 0 := (H.at (g := 0) (by omega) (by omega)).1
    have a1 : M (o + 3) 1 = hi4 d9 1 0 := (H.at (g := 1) (by omega) (by omega)).1
    have z0 : zr (hi4 d9 0 0) = hi4 d9 0 0 := zr_of (by omega) (by omega)
    have z1 : zr (hi4 d9 1 0) = hi4 d9 1 0 := zr_of (by omega) (by omega)
    simp only [bk_X2_headsAt_0, k_X2_headsAt_0, bk_X2_headsAt_14, k_X2_headsAt_14, bk_X2_headsAt_15, k_X2_headsAt_15, bk_X2_headsAt_29, k_X2_headsAt_29, bk_X2_headsAt_30, k_X2_headsAt_30, ↓e_rk1, ↓e_rk0, ↓e_sk0, ↓e_sks, ↓e_ldi0, ↓e_ldis, ↓e_ldl0, ↓e_ldls, ↓e_lda0, ↓e_ldas, ↓e_ok0, ↓e_okss, ↓e_ok1i, ↓e_ok1r, ↓e_ok1n, ↓e_sti, ↓e_sta, ↓e_1, ↓e_2, ↓e_l1, ↓e_l2, ↓e_li, ↓e_sw0, ↓e_sws, ↓e_ceq, ↓e_cne, ↓e_clt, ↓e_cge, ↓e_cgt, ↓e_cle, ↓e_nil, ↓e_cons, ↓e_iconst, ↓e_bipush, ↓e_sipush, ↓e_ldc, ↓e_ldcw, ↓e_ldc2, ↓e_lconst, ↓e_iloadn, ↓e_iload, ↓e_lloadn, ↓e_lload, ↓e_aloadn, ↓e_aload, ↓e_istoren, ↓e_istore, ↓e_astoren, ↓e_astore, ↓e_add, ↓e_iinc, ↓e_iadd, ↓e_isub, ↓e_imul, ↓e_iand, ↓e_ior, ↓e_ixor, ↓e_ishl, ↓e_iushr, ↓e_idiv, ↓e_irem, ↓e_ineg, ↓e_i2l, ↓e_i2b, ↓e_i2s, ↓e_l2i, ↓e_land, ↓e_lor, ↓e_lshl, ↓e_lshr, ↓e_lushr, ↓e_lcmp, ↓e_dupi, ↓e_dupr, ↓e_popi, ↓e_dup2, ↓e_goto, ↓e_if, ↓e_icmp, ↓e_tsw, ↓e_lsw, ↓e_getf, ↓e_putf, ↓e_gets, ↓e_iald, ↓e_cald, ↓e_iast, ↓e_aald, ↓e_aast, ↓e_len, ↓e_copy, ↓e_abs, ↓e_max, ↓e_min, ↓e_iret, ↓e_aret, ↓e_vret, ↓e_is0, ↓e_is1, ↓e_is2, ↓e_is3, ↓e_is4, ↓e_iv1, ↓e_iv2, ↓e_iv3, ↓e_iv4, ↓e_iv5, ↓e_iv6, ↓rt_X2_headsAt, ↓reduceIte, Nat.reduceAdd, Nat.reduceEqDiff, ↓zcl0, ↓zclv, List.map_nil, List.sum_nil, List.map_cons, List.sum_cons, zcat, true_and, and_true, Nat.reduceLeDiff, Nat.reduceAdd, eq_self, forall_const, e_ok0, e_okss, e_ok1i, e_ok1r, e_ok1n, zl_0, zl_1, zl_2, Int.reduceToNat, Int.reduceAdd, Int.reduceMul, Int.reduceSub, Int.reduceNeg, Int.reduceLT, Int.reduceLE, Int.reduceEq, not_false_eq_true, not_true_eq_false, false_implies, true_implies, implies_true, Int.reduceDiv, Int.reduceMod, zr8_zr, zr_zbo, z01_zbo, z01_0, z01_1, zbo_eq0, zup_eq, zup_o, zup_k, ne_eq, ↓vH hb, ↓gH_0 hb, ↓gH_1 hb, ↓gH_2 hb, ↓gH_3 hb, ↓gH_4 hb, ↓gH_5 hb, ↓gH_6 hb, ↓gH_7 hb, ↓gH_8 hb, ↓gH_9 hb, ↓pH_7 hb, ↓pH_8 hb, ↓pH_9 hb, ↓lH_1 hb, ↓sH_1 hb, ↓lH_2 hb, ↓sH_2 hb, ↓lH_3 hb, ↓sH_3 hb, ↓lH_4 hb, ↓sH_4 hb, ↓lH_5 hb, ↓sH_5 hb, ↓lH_6 hb, ↓sH_6 hb, ↓lH_7 hb, ↓sH_7 hb, a0, a1, z0, z1, zr_rg, hc]
    repeat' (first | assumption | apply And.intro | intro _)
    all_goals (refine zpost hC ?_; (repeat' split) <;> first | contradiction | rfl)
def B_hsettle (o : Nat) (g : Int) (c : Int) (M : Nat → Nat → Int) (post : Option ZV → (Nat → Nat → Int) → Prop) : Prop := hillb o ∧ (0 ≤ g ∧ g < 2) ∧ (0 ≤ c ∧ c ≤ 63) ∧ ∃ d : Nat → Int, HR o M d ∧ ∀ M2 : ZMm, HR o M2 (ptd d g c) → (∀ x, x < o ∨ o + 7 < x → M2 x = M x) → post none M2
def C_hsettle : ZC := fun as h post => match as with
  | [.inr (.inr (.inl o)), .inl g, .inl c] => h.1 = zG ∧ B_hsettle o g c h.2 (fun v M => post v (zG, M))
  | _ => False
theorem r_hsettle {o : Nat} {g : Int} {c : Int} {M : Nat → Nat → Int} {post : Option ZV → ZH → Prop} : C_hsettle [.inr (.inr (.inl o)), .inl g, .inl c] (zG, M) post = B_hsettle o g c M (fun v M => post v (zG, M)) := by show (zG = zG ∧ _) = _; simp
def ct_hsettle : Nat → ZC := fun n => fun _ _ _ => False
theorem c_hsettle {E : ZE} {d : Nat} (hd : 1 ≤ d) : zMet E d mX2_settle C_hsettle := by
  refine zmet_of (o := 2) (ini := false) (CT := ct_hsettle) gd_X2_settle rfl (fun h => by cases h) (by omega) ?_ ?_
  · intro n as h post hh
    unfold ct_hsettle at hh
    exact hh.elim
  intro as h post hC
  match as, hC with
  | [.inr (.inr (.inl o)), .inl g, .inl c], hC =>
    refine ⟨Nat.le_of_ble_eq_true rfl, fun X hX => bs_X2_settle_0 hX ?_⟩
    obtain ⟨G, M⟩ := h
    obtain ⟨hG, hC⟩ := hC
    dsimp only at hG
    subst hG
    simp only [B_hsettle] at hC
    show bk_X2_settle_0 E ct_hsettle X _ [some (.inr (.inr (.inl o))), some (.inl g), some (.inl c), none] [] (zG, M) (0, 0)
    obtain ⟨hb, hg, hc, d9, H, hC⟩ := hC
    have zg : zr g = g := zr_of (by omega) (by omega)
    have zc9 : zr c = c := zr_of (by omega) (by omega)
    obtain ⟨n, hn⟩ : ∃ n : Nat, g = n := ⟨g.toNat, by omega⟩
    obtain ⟨m, hm⟩ : ∃ m : Nat, c = m := ⟨c.toNat, by omega⟩
    have e1 : up1 (up1 d9 (134 + 4 * g).toNat c) (70 + c).toNat 1 = up1 (up1 d9 (134 + 4 * n + 0) c) (70 + m) 1 := by
      rw [show (134 + 4 * g).toNat = 134 + 4 * n + 0 by omega, show (70 + c).toNat = 70 + m by omega]
    have H1 : HR o (zup (zup M (o + 3) g.toNat c) (o + 2) c.toNat 1) (up1 (up1 d9 (134 + 4 * n + 0) c) (70 + m) 1) := by
      have := HR_dug (HR_hd H (q := n) (w9 := 0) (v := c) (by omega) (by omega)) (c := m) (v := 1) (by omega)
      rw [show g.toNat = n by omega, show c.toNat = m by omega]
      exact this
    obtain ⟨M1, hM1⟩ : ∃ M1, zup (zup M (o + 3) g.toNat c) (o + 2) c.toNat 1 = M1 := ⟨_, rfl⟩
    have f1 : ∀ x, x < o ∨ o + 7 < x → M1 x = M x := fun x q => by rw [← hM1, zup_ne _ (by omega), zup_ne _ (by omega)]
    rw [hM1] at H1
    have lp : ∀ (j k : Nat) (M' : ZMm), j + k = 10 → M' (o + 7) = (fun i => if 10 * n ≤ i ∧ i < 10 * n + k then c else M1 (o + 7) i) → (∀ x, ¬ x = o + 7 → M' x = M1 x) → X 16 [some (.inr (.inr (.inl o))), some (.inl g), some (.inl c), some (.inl ((k : Int)))] [] (zG, M') (0, 0) := by
      intro j
      induction j with
      | zero =>
        intro k M' hk hd hM
        refine bs_X2_settle_16 hX ?_
        have zk : zr (k : Int) = k := zr_of (by omega) (by omega)
        have lk : ((k : Int) < 10) = False := eq_false (by omega)
        simp only [bk_X2_settle_0, k_X2_settle_0, bk_X2_settle_16, k_X2_settle_16, bk_X2_settle_40, k_X2_settle_40, ↓e_rk1, ↓e_rk0, ↓e_sk0, ↓e_sks, ↓e_ldi0, ↓e_ldis, ↓e_ldl0, ↓e_ldls, ↓e_lda0, ↓e_ldas, ↓e_ok0, ↓e_okss, ↓e_ok1i, ↓e_ok1r, ↓e_ok1n, ↓e_sti, ↓e_sta, ↓e_1, ↓e_2, ↓e_l1, ↓e_l2, ↓e_li, ↓e_sw0, ↓e_sws, ↓e_ceq, ↓e_cne, ↓e_clt, ↓e_cge, ↓e_cgt, ↓e_cle, ↓e_nil, ↓e_cons, ↓e_iconst, ↓e_bipush, ↓e_sipush, ↓e_ldc, ↓e_ldcw, ↓e_ldc2, ↓e_lconst, ↓e_iloadn, ↓e_iload, ↓e_lloadn, ↓e_lload, ↓e_aloadn, ↓e_aload, ↓e_istoren, ↓e_istore, ↓e_astoren, ↓e_astore, ↓e_add, ↓e_iinc, ↓e_iadd, ↓e_isub, ↓e_imul, ↓e_iand, ↓e_ior, ↓e_ixor, ↓e_ishl, ↓e_iushr, ↓e_idiv, ↓e_irem, ↓e_ineg, ↓e_i2l, ↓e_i2b, ↓e_i2s, ↓e_l2i, ↓e_land, ↓e_lor, ↓e_lshl, ↓e_lshr, ↓e_lushr, ↓e_lcmp, ↓e_dupi, ↓e_dupr, ↓e_popi, ↓e_dup2, ↓e_goto, ↓e_if, ↓e_icmp, ↓e_tsw, ↓e_lsw, ↓e_getf, ↓e_putf, ↓e_gets, ↓e_iald, ↓e_cald, ↓e_iast, ↓e_aald, ↓e_aast, ↓e_len, ↓e_copy, ↓e_abs, ↓e_max, ↓e_min, ↓e_iret, ↓e_aret, ↓e_vret, ↓e_is0, ↓e_is1, ↓e_is2, ↓e_is3, ↓e_is4, ↓e_iv1, ↓e_iv2, ↓e_iv3, ↓e_iv4, ↓e_iv5, ↓e_iv6, ↓rt_X2_settle, ↓reduceIte, Nat.reduceAdd, Nat.reduceEqDiff, ↓zcl0, ↓zclv, List.map_nil, List.sum_nil, List.map_cons, List.sum_cons, zcat, true_and, and_true, Nat.reduceLeDiff, Nat.reduceAdd, eq_self, forall_const, e_ok0, e_okss, e_ok1i, e_ok1r, e_ok1n, zl_0, zl_1, zl_10, Int.reduceToNat, Int.reduceAdd, Int.reduceMul, Int.reduceSub, Int.reduceNeg, Int.reduceLT, Int.reduceLE, Int.reduceEq, not_false_eq_true, not_true_eq_false, false_implies, true_implies, implies_true, Int.reduceDiv, Int.reduceMod, zr8_zr, zr_zbo, z01_zbo, z01_0, z01_1, zbo_eq0, zup_eq, zup_o, zup_k, ne_eq, ↓vH hb, ↓gH_0 hb, ↓gH_1 hb, ↓gH_2 hb, ↓gH_3 hb, ↓gH_4 hb, ↓gH_5 hb, ↓gH_6 hb, ↓gH_7 hb, ↓gH_8 hb, ↓gH_9 hb, ↓pH_7 hb, ↓pH_8 hb, ↓pH_9 hb, ↓lH_1 hb, ↓sH_1 hb, ↓lH_2 hb, ↓sH_2 hb, ↓lH_3 hb, ↓sH_3 hb, ↓lH_4 hb, ↓sH_4 hb, ↓lH_5 hb, ↓sH_5 hb, ↓lH_6 hb, ↓sH_6 hb, ↓lH_7 hb, ↓sH_7 hb, zk, lk]
        refine hC M' ?_ (fun x q => by rw [hM x (by omega)]; exact f1 x q)
        obtain ⟨a, b, cc, t, dl, yr, w⟩ := H1
        have lo : ∀ k : Nat, k < 142 ∨ 162 ≤ k → ptd d9 g c k = up1 (up1 d9 (134 + 4 * n + 0) c) (70 + m) 1 k := fun k q => by
          unfold ptd
          rw [if_neg (by omega), e1]
        have eo : ∀ i : Nat, i < 7 → M' (o + i) = M1 (o + i) := fun i q => hM _ (by omega)
        have e0 : M' o = M1 o := hM _ (by omega)
        refine ⟨fun k hk => ?_, fun k hk => ?_, fun g hg => ?_, ?_, ?_, ?_, fun g9 k9 hg hk => ?_⟩
        · rw [eo 1 (by omega), lo _ (by omega)]; exact a k hk
        · rw [eo 2 (by omega), lo _ (by omega)]; exact b k hk
        · rw [eo 3 (by omega), eo 4 (by omega), eo 5 (by omega), eo 6 (by omega), lo _ (by omega), lo _ (by omega), lo _ (by omega), lo _ (by omega)]; exact cc g hg
        · rw [e0]; exact t
        · rw [e0, lo _ (by omega)]; exact dl
        · rw [e0, lo _ (by omega)]; exact yr
        · rw [e0, hd]
          dsimp only
          unfold ptd
          by_cases q : g9 = n
          · subst q
            rw [if_pos (by omega), if_pos (by omega)]
          · rw [if_neg (by omega), if_neg (by omega), e1]
            exact w g9 k9 hg hk
      | succ j ih =>
        intro k M' hk hd hM
        refine bs_X2_settle_16 hX ?_
        have zk : zr (k : Int) = k := zr_of (by omega) (by omega)
        have lk : ((k : Int) < 10) = True := eq_true (by omega)
        have zi : zr (g * 10 + (k : Int)) = g * 10 + k := zr_of (by omega) (by omega)
        simp only [bk_X2_settle_0, k_X2_settle_0, bk_X2_settle_16, k_X2_settle_16, bk_X2_settle_40, k_X2_settle_40, ↓e_rk1, ↓e_rk0, ↓e_sk0, ↓e_sks, ↓e_ldi0, ↓e_ldis, ↓e_ldl0, ↓e_ldls, ↓e_lda0, ↓e_ldas, ↓e_ok0, ↓e_okss, ↓e_ok1i, ↓e_ok1r, ↓e_ok1n, ↓e_sti, ↓e_sta, ↓e_1, ↓e_2, ↓e_l1, ↓e_l2, ↓e_li, ↓e_sw0, ↓e_sws, ↓e_ceq, ↓e_cne, ↓e_clt, ↓e_cge, ↓e_cgt, ↓e_cle, ↓e_nil, ↓e_cons, ↓e_iconst, ↓e_bipush, ↓e_sipush, ↓e_ldc, ↓e_ldcw, ↓e_ldc2, ↓e_lconst, ↓e_iloadn, ↓e_iload, ↓e_lloadn, ↓e_lload, ↓e_aloadn, ↓e_aload, ↓e_istoren, ↓e_istore, ↓e_astoren, ↓e_astore, ↓e_add, ↓e_iinc, ↓e_iadd, ↓e_isub, ↓e_imul, ↓e_iand, ↓e_ior, ↓e_ixor, ↓e_ishl, ↓e_iushr, ↓e_idiv, ↓e_irem, ↓e_ineg, ↓e_i2l, ↓e_i2b, ↓e_i2s, ↓e_l2i, ↓e_land, ↓e_lor, ↓e_lshl, ↓e_lshr, ↓e_lushr, ↓e_lcmp, ↓e_dupi, ↓e_dupr, ↓e_popi, ↓e_dup2, ↓e_goto, ↓e_if, ↓e_icmp, ↓e_tsw, ↓e_lsw, ↓e_getf, ↓e_putf, ↓e_gets, ↓e_iald, ↓e_cald, ↓e_iast, ↓e_aald, ↓e_aast, ↓e_len, ↓e_copy, ↓e_abs, ↓e_max, ↓e_min, ↓e_iret, ↓e_aret, ↓e_vret, ↓e_is0, ↓e_is1, ↓e_is2, ↓e_is3, ↓e_is4, ↓e_iv1, ↓e_iv2, ↓e_iv3, ↓e_iv4, ↓e_iv5, ↓e_iv6, ↓rt_X2_settle, ↓reduceIte, Nat.reduceAdd, Nat.reduceEqDiff, ↓zcl0, ↓zclv, List.map_nil, List.sum_nil, List.map_cons, List.sum_cons, zcat, true_and, and_true, Nat.reduceLeDiff, Nat.reduceAdd, eq_self, forall_const, e_ok0, e_okss, e_ok1i, e_ok1r, e_ok1n, zl_0, zl_1, zl_10, Int.reduceToNat, Int.reduceAdd, Int.reduceMul, Int.reduceSub, Int.reduceNeg, Int.reduceLT, Int.reduceLE, Int.reduceEq, not_false_eq_true, not_true_eq_false, false_implies, true_implies, implies_true, Int.reduceDiv, Int.reduceMod, zr8_zr, zr_zbo, z01_zbo, z01_0, z01_1, zbo_eq0, zup_eq, zup_o, zup_k, ne_eq, ↓vH hb, ↓gH_0 hb, ↓gH_1 hb, ↓gH_2 hb, ↓gH_3 hb, ↓gH_4 hb, ↓gH_5 hb, ↓gH_6 hb, ↓gH_7 hb, ↓gH_8 hb, ↓gH_9 hb, ↓pH_7 hb, ↓pH_8 hb, ↓pH_9 hb, ↓lH_1 hb, ↓sH_1 hb, ↓lH_2 hb, ↓sH_2 hb, ↓lH_3 hb, ↓sH_3 hb, ↓lH_4 hb, ↓sH_4 hb, ↓lH_5 hb, ↓sH_5 hb, ↓lH_6 hb, ↓sH_6 hb, ↓lH_7 hb, ↓sH_7 hb, zk, lk, zi]
        repeat (refine And.intro (by omega) ?_)
        refine ih (k + 1) _ (by omega) ?_ (fun x q => by rw [zup_ne _ q]; exact hM x q)
        rw [zup_up, hd]
        funext i
        unfold up1
        by_cases q : i = (g * 10 + (k : Int)).toNat
        · rw [if_pos q, if_pos (by omega)]
        · rw [if_neg q]; dsimp only
          by_cases q2 : 10 * n ≤ i ∧ i < 10 * n + k
          · rw [if_pos q2, if_pos (by omega)]
          · rw [if_neg q2, if_neg (by omega)]
    simp only [bk_X2_settle_0, k_X2_settle_0, bk_X2_settle_16, k_X2_settle_16, bk_X2_settle_40, k_X2_settle_40, ↓e_rk1, ↓e_rk0, ↓e_sk0, ↓e_sks, ↓e_ldi0, ↓e_ldis, ↓e_ldl0, ↓e_ldls, ↓e_lda0, ↓e_ldas, ↓e_ok0, ↓e_okss, ↓e_ok1i, ↓e_ok1r, ↓e_ok1n, ↓e_sti, ↓e_sta, ↓e_1, ↓e_2, ↓e_l1, ↓e_l2, ↓e_li, ↓e_sw0, ↓e_sws, ↓e_ceq, ↓e_cne, ↓e_clt, ↓e_cge, ↓e_cgt, ↓e_cle, ↓e_nil, ↓e_cons, ↓e_iconst, ↓e_bipush, ↓e_sipush, ↓e_ldc, ↓e_ldcw, ↓e_ldc2, ↓e_lconst, ↓e_iloadn, ↓e_iload, ↓e_lloadn, ↓e_lload, ↓e_aloadn, ↓e_aload, ↓e_istoren, ↓e_istore, ↓e_astoren, ↓e_astore, ↓e_add, ↓e_iinc, ↓e_iadd, ↓e_isub, ↓e_imul, ↓e_iand, ↓e_ior, ↓e_ixor, ↓e_ishl, ↓e_iushr, ↓e_idiv, ↓e_irem, ↓e_ineg, ↓e_i2l, ↓e_i2b, ↓e_i2s, ↓e_l2i, ↓e_land, ↓e_lor, ↓e_lshl, ↓e_lshr, ↓e_lushr, ↓e_lcmp, ↓e_dupi, ↓e_dupr, ↓e_popi, ↓e_dup2, ↓e_goto, ↓e_if, ↓e_icmp, ↓e_tsw, ↓e_lsw, ↓e_getf, ↓e_putf, ↓e_gets, ↓e_iald, ↓e_cald, ↓e_iast, ↓e_aald, ↓e_aast, ↓e_len, ↓e_copy, ↓e_abs, ↓e_max, ↓e_min, ↓e_iret, ↓e_aret, ↓e_vret, ↓e_is0, ↓e_is1, ↓e_is2, ↓e_is3, ↓e_is4, ↓e_iv1, ↓e_iv2, ↓e_iv3, ↓e_iv4, ↓e_iv5, ↓e_iv6, ↓rt_X2_settle, ↓reduceIte, Nat.reduceAdd, Nat.reduceEqDiff, ↓zcl0, ↓zclv, List.map_nil, List.sum_nil, List.map_cons, List.sum_cons, zcat, true_and, and_true, Nat.reduceLeDiff, Nat.reduceAdd, eq_self, forall_const, e_ok0, e_okss, e_ok1i, e_ok1r, e_ok1n, zl_0, zl_1, zl_10, Int.reduceToNat, Int.reduceAdd, Int.reduceMul, Int.reduceSub, Int.reduceNeg, Int.reduceLT, Int.reduceLE, Int.reduceEq, not_false_eq_true, not_true_eq_false, false_implies, true_implies, implies_true, Int.reduceDiv, Int.reduceMod, zr8_zr, zr_zbo, z01_zbo, z01_0, z01_1, zbo_eq0, zup_eq, zup_o, zup_k, ne_eq, ↓vH hb, ↓gH_0 hb, ↓gH_1 hb, ↓gH_2 hb, ↓gH_3 hb, ↓gH_4 hb, ↓gH_5 hb, ↓gH_6 hb, ↓gH_7 hb, ↓gH_8 hb, ↓gH_9 hb, ↓pH_7 hb, ↓pH_8 hb, ↓pH_9 hb, ↓lH_1 hb, ↓sH_1 hb, ↓lH_2 hb, ↓sH_2 hb, ↓lH_3 hb, ↓sH_3 hb, ↓lH_4 hb, ↓sH_4 hb, ↓lH_5 hb, ↓sH_5 hb, ↓lH_6 hb, ↓sH_6 hb, ↓lH_7 hb, ↓sH_7 hb, zg, zc9, hM1]
    repeat (refine And.intro (by omega) ?_)
    exact lp 10 0 M1 (by omega) (by funext i; rw [if_neg (by omega)]) (fun _ _ => rfl)
def B_hhears (o : Nat) (g : Int) (M : Nat → Nat → Int) (post : Option ZV → (Nat → Nat → Int) → Prop) : Prop := hillb o ∧ (0 ≤ g ∧ g < 2) ∧ ∃ d : Nat → Int, HR o M d ∧ Vd d ∧ post (some (.inl (hb d g))) M
def C_hhears : ZC := fun as h post => match as with
  | [.inr (.inr (.inl o)), .inl g] => h.1 = zG ∧ B_hhears o g h.2 (fun v M => post v (zG, M))
  | _ => False
theorem r_hhears {o : Nat} {g : Int} {M : Nat → Nat → Int} {post : Option ZV → ZH → Prop} : C_hhears [.inr (.inr (.inl o)), .inl g] (zG, M) post = B_hhears o g M (fun v M => post v (zG, M)) := by show (zG = zG ∧ _) = _; simp
def ct_hhears : Nat → ZC := fun n => fun _ _ _ => False
theorem c_hhears {E : ZE} {d : Nat} (hd : 1 ≤ d) : zMet E d mX2_hears C_hhears := by
  refine zmet_of (o := 2) (ini := false) (CT := ct_hhears) gd_X2_hears rfl (fun h => by cases h) (by omega) ?_ ?_
  · intro n as h post hh
    unfold ct_hhears at hh
    exact hh.elim
  intro as h post hC
  match as, hC with
  | [.inr (.inr (.inl o)), .inl g], hC =>
    refine ⟨Nat.le_of_ble_eq_true rfl, fun X hX => bs_X2_hears_0 hX ?_⟩
    obtain ⟨G, M⟩ := h
    obtain ⟨hG, hC⟩ := hC
    dsimp only at hG
    subst hG
    simp only [B_hhears] at hC
    show bk_X2_hears_0 E ct_hhears X _ [some (.inr (.inr (.inl o))), some (.inl g)] [] (zG, M) (0, 0)
    obtain ⟨hbo, hg, d9, H, vd, hC⟩ := hC
    obtain ⟨a, b, cc, t, dl, yr, w⟩ := H
    have v2 := vd.2.2.1
    have zt : zr (M o 7 + 10 - M o 8) = M o 7 + 10 - M o 8 := zr_of (by omega) (by omega)
    have tm : (M o 7 + 10 - M o 8).tmod 10 = (M o 7 + 10 - M o 8) % 10 := tm_of (by omega)
    have zi : zr ((1 - g) * 10 + (M o 7 + 10 - M o 8) % 10) = (1 - g) * 10 + (M o 7 + 10 - M o 8) % 10 := zr_of (by omega) (by omega)
    simp only [bk_X2_hears_0, k_X2_hears_0, ↓e_rk1, ↓e_rk0, ↓e_sk0, ↓e_sks, ↓e_ldi0, ↓e_ldis, ↓e_ldl0, ↓e_ldls, ↓e_lda0, ↓e_ldas, ↓e_ok0, ↓e_okss, ↓e_ok1i, ↓e_ok1r, ↓e_ok1n, ↓e_sti, ↓e_sta, ↓e_1, ↓e_2, ↓e_l1, ↓e_l2, ↓e_li, ↓e_sw0, ↓e_sws, ↓e_ceq, ↓e_cne, ↓e_clt, ↓e_cge, ↓e_cgt, ↓e_cle, ↓e_nil, ↓e_cons, ↓e_iconst, ↓e_bipush, ↓e_sipush, ↓e_ldc, ↓e_ldcw, ↓e_ldc2, ↓e_lconst, ↓e_iloadn, ↓e_iload, ↓e_lloadn, ↓e_lload, ↓e_aloadn, ↓e_aload, ↓e_istoren, ↓e_istore, ↓e_astoren, ↓e_astore, ↓e_add, ↓e_iinc, ↓e_iadd, ↓e_isub, ↓e_imul, ↓e_iand, ↓e_ior, ↓e_ixor, ↓e_ishl, ↓e_iushr, ↓e_idiv, ↓e_irem, ↓e_ineg, ↓e_i2l, ↓e_i2b, ↓e_i2s, ↓e_l2i, ↓e_land, ↓e_lor, ↓e_lshl, ↓e_lshr, ↓e_lushr, ↓e_lcmp, ↓e_dupi, ↓e_dupr, ↓e_popi, ↓e_dup2, ↓e_goto, ↓e_if, ↓e_icmp, ↓e_tsw, ↓e_lsw, ↓e_getf, ↓e_putf, ↓e_gets, ↓e_iald, ↓e_cald, ↓e_iast, ↓e_aald, ↓e_aast, ↓e_len, ↓e_copy, ↓e_abs, ↓e_max, ↓e_min, ↓e_iret, ↓e_aret, ↓e_vret, ↓e_is0, ↓e_is1, ↓e_is2, ↓e_is3, ↓e_is4, ↓e_iv1, ↓e_iv2, ↓e_iv3, ↓e_iv4, ↓e_iv5, ↓e_iv6, ↓rt_X2_hears, ↓reduceIte, Nat.reduceAdd, Nat.reduceEqDiff, ↓zcl0, ↓zclv, List.map_nil, List.sum_nil, List.map_cons, List.sum_cons, zcat, true_and, and_true, Nat.reduceLeDiff, Nat.reduceAdd, eq_self, forall_const, e_ok0, e_okss, e_ok1i, e_ok1r, e_ok1n, zl_1, zl_10, Int.reduceToNat, Int.reduceAdd, Int.reduceMul, Int.reduceSub, Int.reduceNeg, Int.reduceLT, Int.reduceLE, Int.reduceEq, not_false_eq_true, not_true_eq_false, false_implies, true_implies, implies_true, Int.reduceDiv, Int.reduceMod, zr8_zr, zr_zbo, z01_zbo, z01_0, z01_1, zbo_eq0, zup_eq, zup_o, zup_k, ne_eq, ↓vH hbo, ↓gH_0 hbo, ↓gH_1 hbo, ↓gH_2 hbo, ↓gH_3 hbo, ↓gH_4 hbo, ↓gH_5 hbo, ↓gH_6 hbo, ↓gH_7 hbo, ↓gH_8 hbo, ↓gH_9 hbo, ↓pH_7 hbo, ↓pH_8 hbo, ↓pH_9 hbo, ↓lH_1 hbo, ↓sH_1 hbo, ↓lH_2 hbo, ↓sH_2 hbo, ↓lH_3 hbo, ↓sH_3 hbo, ↓lH_4 hbo, ↓sH_4 hbo, ↓lH_5 hbo, ↓sH_5 hbo, ↓lH_6 hbo, ↓sH_6 hbo, ↓lH_7 hbo, ↓sH_7 hbo, zt, tm, zi]
    refine ⟨by omega, by omega, zpost hC ?_⟩
    have := w (1 - g).toNat (d9 2).toNat (by omega) (by omega)
    unfold hb pa
    rw [show (142 + 10 * (1 - g) + d9 2).toNat = 142 + 10 * (1 - g).toNat + (d9 2).toNat by omega, ← this]
    congr 1
    omega
theorem shf_past {d : Nat → Int} {g k : Nat} (hg : g < 2) (hk : k < 10) : shf d (142 + 10 * g + k) = if k = 0 then d (134 + 4 * g) else d (142 + 10 * g + (k - 1)) := by
  unfold shf
  rw [if_neg (by omega), if_pos (by omega)]
  by_cases q : k = 0
  · rw [if_pos (by omega), if_pos q]
    congr 1
    omega
  · rw [if_neg (by omega), if_neg q]
    congr 1
    omega
def B_hend (o : Nat) (M : Nat → Nat → Int) (post : Option ZV → (Nat → Nat → Int) → Prop) : Prop := hillb o ∧ ∃ d : Nat → Int, HR o M d ∧ ∀ M2 : ZMm, HR o M2 (shf d) → (∀ x, x < o ∨ o + 7 < x → M2 x = M x) → post none M2
def C_hend : ZC := fun as h post => match as with
  | [.inr (.inr (.inl o))] => h.1 = zG ∧ B_hend o h.2 (fun v M => post v (zG, M))
  | _ => False
theorem r_hend {o : Nat} {M : Nat → Nat → Int} {post : Option ZV → ZH → Prop} : C_hend [.inr (.inr (.inl o))] (zG, M) post = B_hend o M (fun v M => post v (zG, M)) := by show (zG = zG ∧ _) = _; simp
def ct_hend : Nat → ZC := fun n => fun _ _ _ => False
theorem c_hend {E : ZE} {d : Nat} (hd : 1 ≤ d) : zMet E d mX2_endYear C_hend := by
  refine zmet_of (o := 2) (ini := false) (CT := ct_hend) gd_X2_endYear rfl (fun h => by cases h) (by omega) ?_ ?_
  · intro n as h post hh
    unfold ct_hend at hh
    exact hh.elim
  intro as h post hC
  match as, hC with
  | [.inr (.inr (.inl o))], hC =>
    refine ⟨Nat.le_of_ble_eq_true rfl, fun X hX => bs_X2_endYear_0 hX ?_⟩
    obtain ⟨G, M⟩ := h
    obtain ⟨hG, hC⟩ := hC
    dsimp only at hG
    subst hG
    simp only [B_hend] at hC
    show bk_X2_endYear_0 E ct_hend X _ [some (.inr (.inr (.inl o))), none] [] (zG, M) (0, 0)
    obtain ⟨hbo, d9, H, hC⟩ := hC
    obtain ⟨a, b, cc, t, dl, yr, w⟩ := H
    have zt : zr (M o 7 + 1) = M o 7 + 1 := zr_of (by omega) (by omega)
    have tm : (M o 7 + 1).tmod 10 = (M o 7 + 1) % 10 := tm_of (by omega)
    obtain ⟨M1, hM1⟩ : ∃ M1, zup (zup M o 9 (M o 9 + 1)) o 7 ((M o 7 + 1) % 10) = M1 := ⟨_, rfl⟩
    have f1 : ∀ x, ¬ x = o → M1 x = M x := fun x q => by rw [← hM1, zup_ne _ q, zup_ne _ q]
    have m7 : M1 o 7 = (M o 7 + 1) % 10 := by rw [← hM1, zup_eq]
    have m8 : M1 o 8 = M o 8 := by rw [← hM1, zup_k (by decide), zup_k (by decide)]
    have m9 : M1 o 9 = M o 9 + 1 := by rw [← hM1, zup_k (by decide), zup_eq]
    have lp : ∀ (j k : Nat) (M' : ZMm), j + k = 2 → M' (o + 7) = (fun i => if i % 10 = ((M o 7 + 1) % 10).toNat ∧ i < 10 * k then M (o + 3) (i / 10) else M (o + 7) i) → (∀ x, ¬ x = o + 7 → M' x = M1 x) → X 25 [some (.inr (.inr (.inl o))), some (.inl ((k : Int)))] [] (zG, M') (0, 0) := by
      intro j
      induction j with
      | zero =>
        intro k M' hk hd hM
        have ek : k = 2 := by omega
        subst ek
        refine bs_X2_endYear_25 hX ?_
        have zk : zr ((2 : Nat) : Int) = 2 := rfl
        simp only [bk_X2_endYear_0, k_X2_endYear_0, bk_X2_endYear_25, k_X2_endYear_25, bk_X2_endYear_56, k_X2_endYear_56, ↓e_rk1, ↓e_rk0, ↓e_sk0, ↓e_sks, ↓e_ldi0, ↓e_ldis, ↓e_ldl0, ↓e_ldls, ↓e_lda0, ↓e_ldas, ↓e_ok0, ↓e_okss, ↓e_ok1i, ↓e_ok1r, ↓e_ok1n, ↓e_sti, ↓e_sta, ↓e_1, ↓e_2, ↓e_l1, ↓e_l2, ↓e_li, ↓e_sw0, ↓e_sws, ↓e_ceq, ↓e_cne, ↓e_clt, ↓e_cge, ↓e_cgt, ↓e_cle, ↓e_nil, ↓e_cons, ↓e_iconst, ↓e_bipush, ↓e_sipush, ↓e_ldc, ↓e_ldcw, ↓e_ldc2, ↓e_lconst, ↓e_iloadn, ↓e_iload, ↓e_lloadn, ↓e_lload, ↓e_aloadn, ↓e_aload, ↓e_istoren, ↓e_istore, ↓e_astoren, ↓e_astore, ↓e_add, ↓e_iinc, ↓e_iadd, ↓e_isub, ↓e_imul, ↓e_iand, ↓e_ior, ↓e_ixor, ↓e_ishl, ↓e_iushr, ↓e_idiv, ↓e_irem, ↓e_ineg, ↓e_i2l, ↓e_i2b, ↓e_i2s, ↓e_l2i, ↓e_land, ↓e_lor, ↓e_lshl, ↓e_lshr, ↓e_lushr, ↓e_lcmp, ↓e_dupi, ↓e_dupr, ↓e_popi, ↓e_dup2, ↓e_goto, ↓e_if, ↓e_icmp, ↓e_tsw, ↓e_lsw, ↓e_getf, ↓e_putf, ↓e_gets, ↓e_iald, ↓e_cald, ↓e_iast, ↓e_aald, ↓e_aast, ↓e_len, ↓e_copy, ↓e_abs, ↓e_max, ↓e_min, ↓e_iret, ↓e_aret, ↓e_vret, ↓e_is0, ↓e_is1, ↓e_is2, ↓e_is3, ↓e_is4, ↓e_iv1, ↓e_iv2, ↓e_iv3, ↓e_iv4, ↓e_iv5, ↓e_iv6, ↓rt_X2_endYear, ↓reduceIte, Nat.reduceAdd, Nat.reduceEqDiff, ↓zcl0, ↓zclv, List.map_nil, List.sum_nil, List.map_cons, List.sum_cons, zcat, true_and, and_true, Nat.reduceLeDiff, Nat.reduceAdd, eq_self, forall_const, e_ok0, e_okss, e_ok1i, e_ok1r, e_ok1n, zl_0, zl_1, zl_2, zl_10, Int.reduceToNat, Int.reduceAdd, Int.reduceMul, Int.reduceSub, Int.reduceNeg, Int.reduceLT, Int.reduceLE, Int.reduceEq, not_false_eq_true, not_true_eq_false, false_implies, true_implies, implies_true, Int.reduceDiv, Int.reduceMod, zr8_zr, zr_zbo, z01_zbo, z01_0, z01_1, zbo_eq0, zup_eq, zup_o, zup_k, ne_eq, ↓vH hbo, ↓gH_0 hbo, ↓gH_1 hbo, ↓gH_2 hbo, ↓gH_3 hbo, ↓gH_4 hbo, ↓gH_5 hbo, ↓gH_6 hbo, ↓gH_7 hbo, ↓gH_8 hbo, ↓gH_9 hbo, ↓pH_7 hbo, ↓pH_8 hbo, ↓pH_9 hbo, ↓lH_1 hbo, ↓sH_1 hbo, ↓lH_2 hbo, ↓sH_2 hbo, ↓lH_3 hbo, ↓sH_3 hbo, ↓lH_4 hbo, ↓sH_4 hbo, ↓lH_5 hbo, ↓sH_5 hbo, ↓lH_6 hbo, ↓sH_6 hbo, ↓lH_7 hbo, ↓sH_7 hbo, zk]
        have lo : ∀ k : Nat, k < 142 ∨ 162 ≤ k → ¬ k = 1 → shf d9 k = d9 k := fun k q q1 => by
          unfold shf
          rw [if_neg q1, if_neg (by omega)]
        have eo : ∀ i : Nat, 1 ≤ i → i < 7 → M' (o + i) = M (o + i) := fun i q0 q => by rw [hM _ (by omega), f1 _ (by omega)]
        have e0 : M' o = M1 o := hM _ (by omega)
        refine hC M' ⟨fun k hk => ?_, fun k hk => ?_, fun g hg => ?_, ?_, ?_, ?_, fun g9 k9 hg hk => ?_⟩ (fun x q => by rw [hM x (by omega), f1 x (by omega)])
        · rw [eo 1 (by omega) (by omega), lo _ (by omega) (by omega)]; exact a k hk
        · rw [eo 2 (by omega) (by omega), lo _ (by omega) (by omega)]; exact b k hk
        · rw [eo 3 (by omega) (by omega), eo 4 (by omega) (by omega), eo 5 (by omega) (by omega), eo 6 (by omega) (by omega), lo _ (by omega) (by omega), lo _ (by omega) (by omega), lo _ (by omega) (by omega), lo _ (by omega) (by omega)]; exact cc g hg
        · rw [e0, m7]; omega
        · rw [e0, m8, lo _ (by omega) (by omega)]; exact dl
        · rw [e0, m9, yr]; rfl
        · rw [e0, hd, m7]
          dsimp only
          rw [shf_past (by omega) (by omega)]
          by_cases q : k9 = 0
          · subst q
            rw [if_pos (by omega), if_pos rfl]
            have := (cc g9 hg).1
            rw [show (10 * g9 + (((M o 7 + 1) % 10).toNat + 10 - 0) % 10) / 10 = g9 by omega, this]
          · rw [if_neg (by omega), if_neg q]
            have := w g9 (k9 - 1) hg (by omega)
            rw [← this]
            congr 1
            omega
      | succ j ih =>
        intro k M' hk hd hM
        refine bs_X2_endYear_25 hX ?_
        have zk : zr (k : Int) = k := zr_of (by omega) (by omega)
        have lk : ((k : Int) < 2) = True := eq_true (by omega)
        have e7 : M' o 7 = (M o 7 + 1) % 10 := by rw [hM o (by omega), m7]
        have zi : zr ((k : Int) * 10 + (M o 7 + 1) % 10) = k * 10 + (M o 7 + 1) % 10 := zr_of (by omega) (by omega)
        simp only [bk_X2_endYear_0, k_X2_endYear_0, bk_X2_endYear_25, k_X2_endYear_25, bk_X2_endYear_56, k_X2_endYear_56, ↓e_rk1, ↓e_rk0, ↓e_sk0, ↓e_sks, ↓e_ldi0, ↓e_ldis, ↓e_ldl0, ↓e_ldls, ↓e_lda0, ↓e_ldas, ↓e_ok0, ↓e_okss, ↓e_ok1i, ↓e_ok1r, ↓e_ok1n, ↓e_sti, ↓e_sta, ↓e_1, ↓e_2, ↓e_l1, ↓e_l2, ↓e_li, ↓e_sw0, ↓e_sws, ↓e_ceq, ↓e_cne, ↓e_clt, ↓e_cge, ↓e_cgt, ↓e_cle, ↓e_nil, ↓e_cons, ↓e_iconst, ↓e_bipush, ↓e_sipush, ↓e_ldc, ↓e_ldcw, ↓e_ldc2, ↓e_lconst, ↓e_iloadn, ↓e_iload, ↓e_lloadn, ↓e_lload, ↓e_aloadn, ↓e_aload, ↓e_istoren, ↓e_istore, ↓e_astoren, ↓e_astore, ↓e_add, ↓e_iinc, ↓e_iadd, ↓e_isub, ↓e_imul, ↓e_iand, ↓e_ior, ↓e_ixor, ↓e_ishl, ↓e_iushr, ↓e_idiv, ↓e_irem, ↓e_ineg, ↓e_i2l, ↓e_i2b, ↓e_i2s, ↓e_l2i, ↓e_land, ↓e_lor, ↓e_lshl, ↓e_lshr, ↓e_lushr, ↓e_lcmp, ↓e_dupi, ↓e_dupr, ↓e_popi, ↓e_dup2, ↓e_goto, ↓e_if, ↓e_icmp, ↓e_tsw, ↓e_lsw, ↓e_getf, ↓e_putf, ↓e_gets, ↓e_iald, ↓e_cald, ↓e_iast, ↓e_aald, ↓e_aast, ↓e_len, ↓e_copy, ↓e_abs, ↓e_max, ↓e_min, ↓e_iret, ↓e_aret, ↓e_vret, ↓e_is0, ↓e_is1, ↓e_is2, ↓e_is3, ↓e_is4, ↓e_iv1, ↓e_iv2, ↓e_iv3, ↓e_iv4, ↓e_iv5, ↓e_iv6, ↓rt_X2_endYear, ↓reduceIte, Nat.reduceAdd, Nat.reduceEqDiff, ↓zcl0, ↓zclv, List.map_nil, List.sum_nil, List.map_cons, List.sum_cons, zcat, true_and, and_true, Nat.reduceLeDiff, Nat.reduceAdd, eq_self, forall_const, e_ok0, e_okss, e_ok1i, e_ok1r, e_ok1n, zl_0, zl_1, zl_2, zl_10, Int.reduceToNat, Int.reduceAdd, Int.reduceMul, Int.reduceSub, Int.reduceNeg, Int.reduceLT, Int.reduceLE, Int.reduceEq, not_false_eq_true, not_true_eq_false, false_implies, true_implies, implies_true, Int.reduceDiv, Int.reduceMod, zr8_zr, zr_zbo, z01_zbo, z01_0, z01_1, zbo_eq0, zup_eq, zup_o, zup_k, ne_eq, ↓vH hbo, ↓gH_0 hbo, ↓gH_1 hbo, ↓gH_2 hbo, ↓gH_3 hbo, ↓gH_4 hbo, ↓gH_5 hbo, ↓gH_6 hbo, ↓gH_7 hbo, ↓gH_8 hbo, ↓gH_9 hbo, ↓pH_7 hbo, ↓pH_8 hbo, ↓pH_9 hbo, ↓lH_1 hbo, ↓sH_1 hbo, ↓lH_2 hbo, ↓sH_2 hbo, ↓lH_3 hbo, ↓sH_3 hbo, ↓lH_4 hbo, ↓sH_4 hbo, ↓lH_5 hbo, ↓sH_5 hbo, ↓lH_6 hbo, ↓sH_6 hbo, ↓lH_7 hbo, ↓sH_7 hbo, zk, lk, e7, zi, Int.toNat_natCast]
        repeat (refine And.intro (by omega) ?_)
        refine ih (k + 1) _ (by omega) ?_ (fun x q => by rw [zup_ne _ q]; exact hM x q)
        rw [zup_up, hd, hM (o + 3) (by omega), f1 (o + 3) (by omega)]
        funext i
        unfold up1
        by_cases q : i = ((k : Int) * 10 + (M o 7 + 1) % 10).toNat
        · rw [if_pos q, if_pos (by omega)]
          congr 1
          omega
        · rw [if_neg q]; dsimp only
          by_cases q2 : i % 10 = ((M o 7 + 1) % 10).toNat ∧ i < 10 * k
          · rw [if_pos q2, if_pos (by omega)]
          · rw [if_neg q2, if_neg (by omega)]
    simp only [bk_X2_endYear_0, k_X2_endYear_0, bk_X2_endYear_25, k_X2_endYear_25, bk_X2_endYear_56, k_X2_endYear_56, ↓e_rk1, ↓e_rk0, ↓e_sk0, ↓e_sks, ↓e_ldi0, ↓e_ldis, ↓e_ldl0, ↓e_ldls, ↓e_lda0, ↓e_ldas, ↓e_ok0, ↓e_okss, ↓e_ok1i, ↓e_ok1r, ↓e_ok1n, ↓e_sti, ↓e_sta, ↓e_1, ↓e_2, ↓e_l1, ↓e_l2, ↓e_li, ↓e_sw0, ↓e_sws, ↓e_ceq, ↓e_cne, ↓e_clt, ↓e_cge, ↓e_cgt, ↓e_cle, ↓e_nil, ↓e_cons, ↓e_iconst, ↓e_bipush, ↓e_sipush, ↓e_ldc, ↓e_ldcw, ↓e_ldc2, ↓e_lconst, ↓e_iloadn, ↓e_iload, ↓e_lloadn, ↓e_lload, ↓e_aloadn, ↓e_aload, ↓e_istoren, ↓e_istore, ↓e_astoren, ↓e_astore, ↓e_add, ↓e_iinc, ↓e_iadd, ↓e_isub, ↓e_imul, ↓e_iand, ↓e_ior, ↓e_ixor, ↓e_ishl, ↓e_iushr, ↓e_idiv, ↓e_irem, ↓e_ineg, ↓e_i2l, ↓e_i2b, ↓e_i2s, ↓e_l2i, ↓e_land, ↓e_lor, ↓e_lshl, ↓e_lshr, ↓e_lushr, ↓e_lcmp, ↓e_dupi, ↓e_dupr, ↓e_popi, ↓e_dup2, ↓e_goto, ↓e_if, ↓e_icmp, ↓e_tsw, ↓e_lsw, ↓e_getf, ↓e_putf, ↓e_gets, ↓e_iald, ↓e_cald, ↓e_iast, ↓e_aald, ↓e_aast, ↓e_len, ↓e_copy, ↓e_abs, ↓e_max, ↓e_min, ↓e_iret, ↓e_aret, ↓e_vret, ↓e_is0, ↓e_is1, ↓e_is2, ↓e_is3, ↓e_is4, ↓e_iv1, ↓e_iv2, ↓e_iv3, ↓e_iv4, ↓e_iv5, ↓e_iv6, ↓rt_X2_endYear, ↓reduceIte, Nat.reduceAdd, Nat.reduceEqDiff, ↓zcl0, ↓zclv, List.map_nil, List.sum_nil, List.map_cons, List.sum_cons, zcat, true_and, and_true, Nat.reduceLeDiff, Nat.reduceAdd, eq_self, forall_const, e_ok0, e_okss, e_ok1i, e_ok1r, e_ok1n, zl_0, zl_1, zl_2, zl_10, Int.reduceToNat, Int.reduceAdd, Int.reduceMul, Int.reduceSub, Int.reduceNeg, Int.reduceLT, Int.reduceLE, Int.reduceEq, not_false_eq_true, not_true_eq_false, false_implies, true_implies, implies_true, Int.reduceDiv, Int.reduceMod, zr8_zr, zr_zbo, z01_zbo, z01_0, z01_1, zbo_eq0, zup_eq, zup_o, zup_k, ne_eq, ↓vH hbo, ↓gH_0 hbo, ↓gH_1 hbo, ↓gH_2 hbo, ↓gH_3 hbo, ↓gH_4 hbo, ↓gH_5 hbo, ↓gH_6 hbo, ↓gH_7 hbo, ↓gH_8 hbo, ↓gH_9 hbo, ↓pH_7 hbo, ↓pH_8 hbo, ↓pH_9 hbo, ↓lH_1 hbo, ↓sH_1 hbo, ↓lH_2 hbo, ↓sH_2 hbo, ↓lH_3 hbo, ↓sH_3 hbo, ↓lH_4 hbo, ↓sH_4 hbo, ↓lH_5 hbo, ↓sH_5 hbo, ↓lH_6 hbo, ↓sH_6 hbo, ↓lH_7 hbo, ↓sH_7 hbo, zt, tm, hM1]
    exact lp 2 0 M1 (by omega) (by rw [f1 (o + 7) (by omega)]; funext i; rw [if_neg (by omega)]) (fun _ _ => rfl)
theorem zc_eq {M : ZMm} {a b n k : Nat} (h : k < n) : zcp M a b 0 0 n b k = M a k := by
  unfold zcp
  rw [if_pos ⟨rfl, by omega, by omega⟩]
  congr 1
  omega
theorem zc_ge {M : ZMm} {a b n k : Nat} (h : ¬ k < n) : zcp M a b 0 0 n b k = M b k := by
  unfold zcp
  rw [if_neg (by omega)]
theorem zc_o {M : ZMm} {a b s t n x : Nat} (h : ¬ x = b) : zcp M a b s t n x = M x := by
  funext k
  unfold zcp
  rw [if_neg (by omega)]
def B_hcopy (o : Nat) (q : Nat) (M : Nat → Nat → Int) (post : Option ZV → (Nat → Nat → Int) → Prop) : Prop := hillb o ∧ hillb q ∧ ¬ o = q ∧ ∃ d : Nat → Int, HR q M d ∧ ∀ M2 : ZMm, HR o M2 d → (∀ x, x < o ∨ o + 7 < x → M2 x = M x) → post none M2
def C_hcopy : ZC := fun as h post => match as with
  | [.inr (.inr (.inl o)), .inr (.inr (.inl q))] => h.1 = zG ∧ B_hcopy o q h.2 (fun v M => post v (zG, M))
  | _ => False
theorem r_hcopy {o : Nat} {q : Nat} {M : Nat → Nat → Int} {post : Option ZV → ZH → Prop} : C_hcopy [.inr (.inr (.inl o)), .inr (.inr (.inl q))] (zG, M) post = B_hcopy o q M (fun v M => post v (zG, M)) := by show (zG = zG ∧ _) = _; simp
def ct_hcopy : Nat → ZC := fun n => fun _ _ _ => False
theorem c_hcopy {E : ZE} {d : Nat} (hd : 1 ≤ d) : zMet E d mX2_copyFrom C_hcopy := by
  refine zmet_of (o := 2) (ini := false) (CT := ct_hcopy) gd_X2_copyFrom rfl (fun h => by cases h) (by omega) ?_ ?_
  · intro n as h post hh
    unfold ct_hcopy at hh
    exact hh.elim
  intro as h post hC
  match as, hC with
  | [.inr (.inr (.inl o)), .inr (.inr (.inl q))], hC =>
    refine ⟨Nat.le_of_ble_eq_true rfl, fun X hX => bs_X2_copyFrom_0 hX ?_⟩
    obtain ⟨G, M⟩ := h
    obtain ⟨hG, hC⟩ := hC
    dsimp only at hG
    subst hG
    simp only [B_hcopy] at hC
    show bk_X2_copyFrom_0 E ct_hcopy X _ [some (.inr (.inr (.inl o))), some (.inr (.inr (.inl q)))] [] (zG, M) (0, 0)
    obtain ⟨hbo, hbq, ne, d9, H, hC⟩ := hC
    have sep : q + 7 < o ∨ o + 7 < q := by
      rcases hbo with e | e | e <;> rcases hbq with e2 | e2 | e2 <;> omega
    have qo : (q = o) = False := eq_false (by omega)
    have c1 : ∀ {M : ZMm} {n dp sp : Int} {r : List ZV} {kh : List ZV → ZH → Prop}, _ := fun {M n dp sp r kh} => cp_of (M := M) (n := n) (dp := dp) (sp := sp) (r := r) (kh := kh) (aH_1 hbq) (aH_1 hbo)
    have c2 : ∀ {M : ZMm} {n dp sp : Int} {r : List ZV} {kh : List ZV → ZH → Prop}, _ := fun {M n dp sp r kh} => cp_of (M := M) (n := n) (dp := dp) (sp := sp) (r := r) (kh := kh) (aH_2 hbq) (aH_2 hbo)
    have c3 : ∀ {M : ZMm} {n dp sp : Int} {r : List ZV} {kh : List ZV → ZH → Prop}, _ := fun {M n dp sp r kh} => cp_of (M := M) (n := n) (dp := dp) (sp := sp) (r := r) (kh := kh) (aH_3 hbq) (aH_3 hbo)
    have c4 : ∀ {M : ZMm} {n dp sp : Int} {r : List ZV} {kh : List ZV → ZH → Prop}, _ := fun {M n dp sp r kh} => cp_of (M := M) (n := n) (dp := dp) (sp := sp) (r := r) (kh := kh) (aH_4 hbq) (aH_4 hbo)
    have c5 : ∀ {M : ZMm} {n dp sp : Int} {r : List ZV} {kh : List ZV → ZH → Prop}, _ := fun {M n dp sp r kh} => cp_of (M := M) (n := n) (dp := dp) (sp := sp) (r := r) (kh := kh) (aH_5 hbq) (aH_5 hbo)
    have c6 : ∀ {M : ZMm} {n dp sp : Int} {r : List ZV} {kh : List ZV → ZH → Prop}, _ := fun {M n dp sp r kh} => cp_of (M := M) (n := n) (dp := dp) (sp := sp) (r := r) (kh := kh) (aH_6 hbq) (aH_6 hbo)
    have c7 : ∀ {M : ZMm} {n dp sp : Int} {r : List ZV} {kh : List ZV → ZH → Prop}, _ := fun {M n dp sp r kh} => cp_of (M := M) (n := n) (dp := dp) (sp := sp) (r := r) (kh := kh) (aH_7 hbq) (aH_7 hbo)
    obtain ⟨a, b, cc, t, dl, yr, w⟩ := H
    have J86 : ∀ M1 : ZMm, (∀ x, x < o + 1 ∨ o + 6 < x → M1 x = M x) → (∀ k, k < 64 → M1 (o + 1) k = M (q + 1) k ∧ M1 (o + 2) k = M (q + 2) k) → (∀ k, k < 2 → M1 (o + 3) k = M (q + 3) k ∧ M1 (o + 4) k = M (q + 4) k ∧ M1 (o + 5) k = M (q + 5) k ∧ M1 (o + 6) k = M (q + 6) k) → X 86 [some (.inr (.inr (.inl o))), some (.inr (.inr (.inl q)))] [] (zG, M1) (0, 0) := by
      intro M1 f1 a1 a2
      refine bs_X2_copyFrom_86 hX ?_
      have zq : ∀ k, zcp M1 (q + 7) (o + 7) 0 0 20 q k = M q k := fun k => by rw [zc_o (by omega), f1 q (by omega)]
      simp only [bk_X2_copyFrom_0, k_X2_copyFrom_0, bk_X2_copyFrom_30, k_X2_copyFrom_30, bk_X2_copyFrom_58, k_X2_copyFrom_58, bk_X2_copyFrom_86, k_X2_copyFrom_86, ↓e_rk1, ↓e_rk0, ↓e_sk0, ↓e_sks, ↓e_ldi0, ↓e_ldis, ↓e_ldl0, ↓e_ldls, ↓e_lda0, ↓e_ldas, ↓e_ok0, ↓e_okss, ↓e_ok1i, ↓e_ok1r, ↓e_ok1n, ↓e_sti, ↓e_sta, ↓e_1, ↓e_2, ↓e_l1, ↓e_l2, ↓e_li, ↓e_sw0, ↓e_sws, ↓e_ceq, ↓e_cne, ↓e_clt, ↓e_cge, ↓e_cgt, ↓e_cle, ↓e_nil, ↓e_cons, ↓e_iconst, ↓e_bipush, ↓e_sipush, ↓e_ldc, ↓e_ldcw, ↓e_ldc2, ↓e_lconst, ↓e_iloadn, ↓e_iload, ↓e_lloadn, ↓e_lload, ↓e_aloadn, ↓e_aload, ↓e_istoren, ↓e_istore, ↓e_astoren, ↓e_astore, ↓e_add, ↓e_iinc, ↓e_iadd, ↓e_isub, ↓e_imul, ↓e_iand, ↓e_ior, ↓e_ixor, ↓e_ishl, ↓e_iushr, ↓e_idiv, ↓e_irem, ↓e_ineg, ↓e_i2l, ↓e_i2b, ↓e_i2s, ↓e_l2i, ↓e_land, ↓e_lor, ↓e_lshl, ↓e_lshr, ↓e_lushr, ↓e_lcmp, ↓e_dupi, ↓e_dupr, ↓e_popi, ↓e_dup2, ↓e_goto, ↓e_if, ↓e_icmp, ↓e_tsw, ↓e_lsw, ↓e_getf, ↓e_putf, ↓e_gets, ↓e_iald, ↓e_cald, ↓e_iast, ↓e_aald, ↓e_aast, ↓e_len, ↓e_copy, ↓e_abs, ↓e_max, ↓e_min, ↓e_iret, ↓e_aret, ↓e_vret, ↓e_is0, ↓e_is1, ↓e_is2, ↓e_is3, ↓e_is4, ↓e_iv1, ↓e_iv2, ↓e_iv3, ↓e_iv4, ↓e_iv5, ↓e_iv6, ↓rt_X2_copyFrom, ↓reduceIte, Nat.reduceAdd, Nat.reduceEqDiff, ↓zcl0, ↓zclv, List.map_nil, List.sum_nil, List.map_cons, List.sum_cons, zcat, true_and, and_true, Nat.reduceLeDiff, Nat.reduceAdd, eq_self, forall_const, e_ok0, e_okss, e_ok1i, e_ok1r, e_ok1n, zl_0, zl_2, zl_20, zl_64, Int.reduceToNat, Int.reduceAdd, Int.reduceMul, Int.reduceSub, Int.reduceNeg, Int.reduceLT, Int.reduceLE, Int.reduceEq, not_false_eq_true, not_true_eq_false, false_implies, true_implies, implies_true, Int.reduceDiv, Int.reduceMod, zr8_zr, zr_zbo, z01_zbo, z01_0, z01_1, zbo_eq0, zup_eq, zup_o, zup_k, ne_eq, ↓vH hbo, ↓gH_0 hbo, ↓gH_1 hbo, ↓gH_2 hbo, ↓gH_3 hbo, ↓gH_4 hbo, ↓gH_5 hbo, ↓gH_6 hbo, ↓gH_7 hbo, ↓gH_8 hbo, ↓gH_9 hbo, ↓pH_7 hbo, ↓pH_8 hbo, ↓pH_9 hbo, ↓lH_1 hbo, ↓sH_1 hbo, ↓lH_2 hbo, ↓sH_2 hbo, ↓lH_3 hbo, ↓sH_3 hbo, ↓lH_4 hbo, ↓sH_4 hbo, ↓lH_5 hbo, ↓sH_5 hbo, ↓lH_6 hbo, ↓sH_6 hbo, ↓lH_7 hbo, ↓sH_7 hbo, ↓vH hbq, ↓gH_0 hbq, ↓gH_1 hbq, ↓gH_2 hbq, ↓gH_3 hbq, ↓gH_4 hbq, ↓gH_5 hbq, ↓gH_6 hbq, ↓gH_7 hbq, ↓gH_8 hbq, ↓gH_9 hbq, ↓pH_7 hbq, ↓pH_8 hbq, ↓pH_9 hbq, ↓lH_1 hbq, ↓sH_1 hbq, ↓lH_2 hbq, ↓sH_2 hbq, ↓lH_3 hbq, ↓sH_3 hbq, ↓lH_4 hbq, ↓sH_4 hbq, ↓lH_5 hbq, ↓sH_5 hbq, ↓lH_6 hbq, ↓sH_6 hbq, ↓lH_7 hbq, ↓sH_7 hbq, ↓c7, zq, qo]
      refine ⟨by decide, by decide, ?_⟩
      have o7 : ∀ x, ¬ x = o → ¬ x = o + 7 → zup (zup (zup (zcp M1 (q + 7) (o + 7) 0 0 20) o 7 (M q 7)) o 8 (M q 8)) o 9 (M q 9) x = M1 x := fun x q1 q2 => by rw [zup_ne _ q1, zup_ne _ q1, zup_ne _ q1, zc_o q2]
      have o9 : ∀ k, k < 20 → zup (zup (zup (zcp M1 (q + 7) (o + 7) 0 0 20) o 7 (M q 7)) o 8 (M q 8)) o 9 (M q 9) (o + 7) k = M (q + 7) k := fun k q1 => by rw [zup_o (by omega), zup_o (by omega), zup_o (by omega), zc_eq q1, f1 _ (by omega)]
      refine hC _ ⟨fun k hk => ?_, fun k hk => ?_, fun g hg => ?_, ?_, ?_, ?_, fun g k hg hk => ?_⟩ (fun x qx => ?_)
      · rw [o7 _ (by omega) (by omega), (a1 k hk).1]; exact a k hk
      · rw [o7 _ (by omega) (by omega), (a1 k hk).2]; exact b k hk
      · rw [o7 _ (by omega) (by omega), o7 _ (by omega) (by omega), o7 _ (by omega) (by omega), o7 _ (by omega) (by omega), (a2 g hg).1, (a2 g hg).2.1, (a2 g hg).2.2.1, (a2 g hg).2.2.2]; exact cc g hg
      · rw [zup_k (by decide), zup_k (by decide), zup_eq]; exact t
      · rw [zup_k (by decide), zup_eq]; exact dl
      · rw [zup_eq]; exact yr
      · rw [o9 _ (by omega), zup_k (by decide), zup_k (by decide), zup_eq]; exact w g k hg hk
      · rw [o7 x (by omega) (by omega), f1 x (by omega)]
    have J58 : ∀ M1 : ZMm, (∀ x, x < o + 1 ∨ o + 4 < x → M1 x = M x) → (∀ k, k < 64 → M1 (o + 1) k = M (q + 1) k ∧ M1 (o + 2) k = M (q + 2) k) → (∀ k, k < 2 → M1 (o + 3) k = M (q + 3) k ∧ M1 (o + 4) k = M (q + 4) k) → X 58 [some (.inr (.inr (.inl o))), some (.inr (.inr (.inl q)))] [] (zG, M1) (0, 0) := by
      intro M1 f1 a1 a2
      refine bs_X2_copyFrom_58 hX ?_
      simp only [bk_X2_copyFrom_0, k_X2_copyFrom_0, bk_X2_copyFrom_30, k_X2_copyFrom_30, bk_X2_copyFrom_58, k_X2_copyFrom_58, bk_X2_copyFrom_86, k_X2_copyFrom_86, ↓e_rk1, ↓e_rk0, ↓e_sk0, ↓e_sks, ↓e_ldi0, ↓e_ldis, ↓e_ldl0, ↓e_ldls, ↓e_lda0, ↓e_ldas, ↓e_ok0, ↓e_okss, ↓e_ok1i, ↓e_ok1r, ↓e_ok1n, ↓e_sti, ↓e_sta, ↓e_1, ↓e_2, ↓e_l1, ↓e_l2, ↓e_li, ↓e_sw0, ↓e_sws, ↓e_ceq, ↓e_cne, ↓e_clt, ↓e_cge, ↓e_cgt, ↓e_cle, ↓e_nil, ↓e_cons, ↓e_iconst, ↓e_bipush, ↓e_sipush, ↓e_ldc, ↓e_ldcw, ↓e_ldc2, ↓e_lconst, ↓e_iloadn, ↓e_iload, ↓e_lloadn, ↓e_lload, ↓e_aloadn, ↓e_aload, ↓e_istoren, ↓e_istore, ↓e_astoren, ↓e_astore, ↓e_add, ↓e_iinc, ↓e_iadd, ↓e_isub, ↓e_imul, ↓e_iand, ↓e_ior, ↓e_ixor, ↓e_ishl, ↓e_iushr, ↓e_idiv, ↓e_irem, ↓e_ineg, ↓e_i2l, ↓e_i2b, ↓e_i2s, ↓e_l2i, ↓e_land, ↓e_lor, ↓e_lshl, ↓e_lshr, ↓e_lushr, ↓e_lcmp, ↓e_dupi, ↓e_dupr, ↓e_popi, ↓e_dup2, ↓e_goto, ↓e_if, ↓e_icmp, ↓e_tsw, ↓e_lsw, ↓e_getf, ↓e_putf, ↓e_gets, ↓e_iald, ↓e_cald, ↓e_iast, ↓e_aald, ↓e_aast, ↓e_len, ↓e_copy, ↓e_abs, ↓e_max, ↓e_min, ↓e_iret, ↓e_aret, ↓e_vret, ↓e_is0, ↓e_is1, ↓e_is2, ↓e_is3, ↓e_is4, ↓e_iv1, ↓e_iv2, ↓e_iv3, ↓e_iv4, ↓e_iv5, ↓e_iv6, ↓rt_X2_copyFrom, ↓reduceIte, Nat.reduceAdd, Nat.reduceEqDiff, ↓zcl0, ↓zclv, List.map_nil, List.sum_nil, List.map_cons, List.sum_cons, zcat, true_and, and_true, Nat.reduceLeDiff, Nat.reduceAdd, eq_self, forall_const, e_ok0, e_okss, e_ok1i, e_ok1r, e_ok1n, zl_0, zl_2, zl_20, zl_64, Int.reduceToNat, Int.reduceAdd, Int.reduceMul, Int.reduceSub, Int.reduceNeg, Int.reduceLT, Int.reduceLE, Int.reduceEq, not_false_eq_true, not_true_eq_false, false_implies, true_implies, implies_true, Int.reduceDiv, Int.reduceMod, zr8_zr, zr_zbo, z01_zbo, z01_0, z01_1, zbo_eq0, zup_eq, zup_o, zup_k, ne_eq, ↓vH hbo, ↓gH_0 hbo, ↓gH_1 hbo, ↓gH_2 hbo, ↓gH_3 hbo, ↓gH_4 hbo, ↓gH_5 hbo, ↓gH_6 hbo, ↓gH_7 hbo, ↓gH_8 hbo, ↓gH_9 hbo, ↓pH_7 hbo, ↓pH_8 hbo, ↓pH_9 hbo, ↓lH_1 hbo, ↓sH_1 hbo, ↓lH_2 hbo, ↓sH_2 hbo, ↓lH_3 hbo, ↓sH_3 hbo, ↓lH_4 hbo, ↓sH_4 hbo, ↓lH_5 hbo, ↓sH_5 hbo, ↓lH_6 hbo, ↓sH_6 hbo, ↓lH_7 hbo, ↓sH_7 hbo, ↓vH hbq, ↓gH_0 hbq, ↓gH_1 hbq, ↓gH_2 hbq, ↓gH_3 hbq, ↓gH_4 hbq, ↓gH_5 hbq, ↓gH_6 hbq, ↓gH_7 hbq, ↓gH_8 hbq, ↓gH_9 hbq, ↓pH_7 hbq, ↓pH_8 hbq, ↓pH_9 hbq, ↓lH_1 hbq, ↓sH_1 hbq, ↓lH_2 hbq, ↓sH_2 hbq, ↓lH_3 hbq, ↓sH_3 hbq, ↓lH_4 hbq, ↓sH_4 hbq, ↓lH_5 hbq, ↓sH_5 hbq, ↓lH_6 hbq, ↓sH_6 hbq, ↓lH_7 hbq, ↓sH_7 hbq, ↓c5, ↓c6]
      repeat (refine And.intro (by decide) ?_)
      refine J86 _ (fun x qx => ?_) (fun k hk => ⟨?_, ?_⟩) (fun k hk => ⟨?_, ?_, ?_, ?_⟩)
      · rw [zc_o (by omega), zc_o (by omega), f1 x (by omega)]
      · rw [zc_o (by omega), zc_o (by omega)]; exact (a1 k hk).1
      · rw [zc_o (by omega), zc_o (by omega)]; exact (a1 k hk).2
      · rw [zc_o (by omega), zc_o (by omega)]; exact (a2 k hk).1
      · rw [zc_o (by omega), zc_o (by omega)]; exact (a2 k hk).2
      · rw [zc_o (by omega), zc_eq hk, f1 _ (by omega)]
      · rw [zc_eq hk, zc_o (by omega), f1 _ (by omega)]
    have J30 : ∀ M1 : ZMm, (∀ x, x < o + 1 ∨ o + 2 < x → M1 x = M x) → (∀ k, k < 64 → M1 (o + 1) k = M (q + 1) k ∧ M1 (o + 2) k = M (q + 2) k) → X 30 [some (.inr (.inr (.inl o))), some (.inr (.inr (.inl q)))] [] (zG, M1) (0, 0) := by
      intro M1 f1 a1
      refine bs_X2_copyFrom_30 hX ?_
      simp only [bk_X2_copyFrom_0, k_X2_copyFrom_0, bk_X2_copyFrom_30, k_X2_copyFrom_30, bk_X2_copyFrom_58, k_X2_copyFrom_58, bk_X2_copyFrom_86, k_X2_copyFrom_86, ↓e_rk1, ↓e_rk0, ↓e_sk0, ↓e_sks, ↓e_ldi0, ↓e_ldis, ↓e_ldl0, ↓e_ldls, ↓e_lda0, ↓e_ldas, ↓e_ok0, ↓e_okss, ↓e_ok1i, ↓e_ok1r, ↓e_ok1n, ↓e_sti, ↓e_sta, ↓e_1, ↓e_2, ↓e_l1, ↓e_l2, ↓e_li, ↓e_sw0, ↓e_sws, ↓e_ceq, ↓e_cne, ↓e_clt, ↓e_cge, ↓e_cgt, ↓e_cle, ↓e_nil, ↓e_cons, ↓e_iconst, ↓e_bipush, ↓e_sipush, ↓e_ldc, ↓e_ldcw, ↓e_ldc2, ↓e_lconst, ↓e_iloadn, ↓e_iload, ↓e_lloadn, ↓e_lload, ↓e_aloadn, ↓e_aload, ↓e_istoren, ↓e_istore, ↓e_astoren, ↓e_astore, ↓e_add, ↓e_iinc, ↓e_iadd, ↓e_isub, ↓e_imul, ↓e_iand, ↓e_ior, ↓e_ixor, ↓e_ishl, ↓e_iushr, ↓e_idiv, ↓e_irem, ↓e_ineg, ↓e_i2l, ↓e_i2b, ↓e_i2s, ↓e_l2i, ↓e_land, ↓e_lor, ↓e_lshl, ↓e_lshr, ↓e_lushr, ↓e_lcmp, ↓e_dupi, ↓e_dupr, ↓e_popi, ↓e_dup2, ↓e_goto, ↓e_if, ↓e_icmp, ↓e_tsw, ↓e_lsw, ↓e_getf, ↓e_putf, ↓e_gets, ↓e_iald, ↓e_cald, ↓e_iast, ↓e_aald, ↓e_aast, ↓e_len, ↓e_copy, ↓e_abs, ↓e_max, ↓e_min, ↓e_iret, ↓e_aret, ↓e_vret, ↓e_is0, ↓e_is1, ↓e_is2, ↓e_is3, ↓e_is4, ↓e_iv1, ↓e_iv2, ↓e_iv3, ↓e_iv4, ↓e_iv5, ↓e_iv6, ↓rt_X2_copyFrom, ↓reduceIte, Nat.reduceAdd, Nat.reduceEqDiff, ↓zcl0, ↓zclv, List.map_nil, List.sum_nil, List.map_cons, List.sum_cons, zcat, true_and, and_true, Nat.reduceLeDiff, Nat.reduceAdd, eq_self, forall_const, e_ok0, e_okss, e_ok1i, e_ok1r, e_ok1n, zl_0, zl_2, zl_20, zl_64, Int.reduceToNat, Int.reduceAdd, Int.reduceMul, Int.reduceSub, Int.reduceNeg, Int.reduceLT, Int.reduceLE, Int.reduceEq, not_false_eq_true, not_true_eq_false, false_implies, true_implies, implies_true, Int.reduceDiv, Int.reduceMod, zr8_zr, zr_zbo, z01_zbo, z01_0, z01_1, zbo_eq0, zup_eq, zup_o, zup_k, ne_eq, ↓vH hbo, ↓gH_0 hbo, ↓gH_1 hbo, ↓gH_2 hbo, ↓gH_3 hbo, ↓gH_4 hbo, ↓gH_5 hbo, ↓gH_6 hbo, ↓gH_7 hbo, ↓gH_8 hbo, ↓gH_9 hbo, ↓pH_7 hbo, ↓pH_8 hbo, ↓pH_9 hbo, ↓lH_1 hbo, ↓sH_1 hbo, ↓lH_2 hbo, ↓sH_2 hbo, ↓lH_3 hbo, ↓sH_3 hbo, ↓lH_4 hbo, ↓sH_4 hbo, ↓lH_5 hbo, ↓sH_5 hbo, ↓lH_6 hbo, ↓sH_6 hbo, ↓lH_7 hbo, ↓sH_7 hbo, ↓vH hbq, ↓gH_0 hbq, ↓gH_1 hbq, ↓gH_2 hbq, ↓gH_3 hbq, ↓gH_4 hbq, ↓gH_5 hbq, ↓gH_6 hbq, ↓gH_7 hbq, ↓gH_8 hbq, ↓gH_9 hbq, ↓pH_7 hbq, ↓pH_8 hbq, ↓pH_9 hbq, ↓lH_1 hbq, ↓sH_1 hbq, ↓lH_2 hbq, ↓sH_2 hbq, ↓lH_3 hbq, ↓sH_3 hbq, ↓lH_4 hbq, ↓sH_4 hbq, ↓lH_5 hbq, ↓sH_5 hbq, ↓lH_6 hbq, ↓sH_6 hbq, ↓lH_7 hbq, ↓sH_7 hbq, ↓c3, ↓c4]
      repeat (refine And.intro (by decide) ?_)
      refine J58 _ (fun x qx => ?_) (fun k hk => ⟨?_, ?_⟩) (fun k hk => ⟨?_, ?_⟩)
      · rw [zc_o (by omega), zc_o (by omega), f1 x (by omega)]
      · rw [zc_o (by omega), zc_o (by omega)]; exact (a1 k hk).1
      · rw [zc_o (by omega), zc_o (by omega)]; exact (a1 k hk).2
      · rw [zc_o (by omega), zc_eq hk, f1 _ (by omega)]
      · rw [zc_eq hk, zc_o (by omega), f1 _ (by omega)]
    simp only [bk_X2_copyFrom_0, k_X2_copyFrom_0, bk_X2_copyFrom_30, k_X2_copyFrom_30, bk_X2_copyFrom_58, k_X2_copyFrom_58, bk_X2_copyFrom_86, k_X2_copyFrom_86, ↓e_rk1, ↓e_rk0, ↓e_sk0, ↓e_sks, ↓e_ldi0, ↓e_ldis, ↓e_ldl0, ↓e_ldls, ↓e_lda0, ↓e_ldas, ↓e_ok0, ↓e_okss, ↓e_ok1i, ↓e_ok1r, ↓e_ok1n, ↓e_sti, ↓e_sta, ↓e_1, ↓e_2, ↓e_l1, ↓e_l2, ↓e_li, ↓e_sw0, ↓e_sws, ↓e_ceq, ↓e_cne, ↓e_clt, ↓e_cge, ↓e_cgt, ↓e_cle, ↓e_nil, ↓e_cons, ↓e_iconst, ↓e_bipush, ↓e_sipush, ↓e_ldc, ↓e_ldcw, ↓e_ldc2, ↓e_lconst, ↓e_iloadn, ↓e_iload, ↓e_lloadn, ↓e_lload, ↓e_aloadn, ↓e_aload, ↓e_istoren, ↓e_istore, ↓e_astoren, ↓e_astore, ↓e_add, ↓e_iinc, ↓e_iadd, ↓e_isub, ↓e_imul, ↓e_iand, ↓e_ior, ↓e_ixor, ↓e_ishl, ↓e_iushr, ↓e_idiv, ↓e_irem, ↓e_ineg, ↓e_i2l, ↓e_i2b, ↓e_i2s, ↓e_l2i, ↓e_land, ↓e_lor, ↓e_lshl, ↓e_lshr, ↓e_lushr, ↓e_lcmp, ↓e_dupi, ↓e_dupr, ↓e_popi, ↓e_dup2, ↓e_goto, ↓e_if, ↓e_icmp, ↓e_tsw, ↓e_lsw, ↓e_getf, ↓e_putf, ↓e_gets, ↓e_iald, ↓e_cald, ↓e_iast, ↓e_aald, ↓e_aast, ↓e_len, ↓e_copy, ↓e_abs, ↓e_max, ↓e_min, ↓e_iret, ↓e_aret, ↓e_vret, ↓e_is0, ↓e_is1, ↓e_is2, ↓e_is3, ↓e_is4, ↓e_iv1, ↓e_iv2, ↓e_iv3, ↓e_iv4, ↓e_iv5, ↓e_iv6, ↓rt_X2_copyFrom, ↓reduceIte, Nat.reduceAdd, Nat.reduceEqDiff, ↓zcl0, ↓zclv, List.map_nil, List.sum_nil, List.map_cons, List.sum_cons, zcat, true_and, and_true, Nat.reduceLeDiff, Nat.reduceAdd, eq_self, forall_const, e_ok0, e_okss, e_ok1i, e_ok1r, e_ok1n, zl_0, zl_2, zl_20, zl_64, Int.reduceToNat, Int.reduceAdd, Int.reduceMul, Int.reduceSub, Int.reduceNeg, Int.reduceLT, Int.reduceLE, Int.reduceEq, not_false_eq_true, not_true_eq_false, false_implies, true_implies, implies_true, Int.reduceDiv, Int.reduceMod, zr8_zr, zr_zbo, z01_zbo, z01_0, z01_1, zbo_eq0, zup_eq, zup_o, zup_k, ne_eq, ↓vH hbo, ↓gH_0 hbo, ↓gH_1 hbo, ↓gH_2 hbo, ↓gH_3 hbo, ↓gH_4 hbo, ↓gH_5 hbo, ↓gH_6 hbo, ↓gH_7 hbo, ↓gH_8 hbo, ↓gH_9 hbo, ↓pH_7 hbo, ↓pH_8 hbo, ↓pH_9 hbo, ↓lH_1 hbo, ↓sH_1 hbo, ↓lH_2 hbo, ↓sH_2 hbo, ↓lH_3 hbo, ↓sH_3 hbo, ↓lH_4 hbo, ↓sH_4 hbo, ↓lH_5 hbo, ↓sH_5 hbo, ↓lH_6 hbo, ↓sH_6 hbo, ↓lH_7 hbo, ↓sH_7 hbo, ↓vH hbq, ↓gH_0 hbq, ↓gH_1 hbq, ↓gH_2 hbq, ↓gH_3 hbq, ↓gH_4 hbq, ↓gH_5 hbq, ↓gH_6 hbq, ↓gH_7 hbq, ↓gH_8 hbq, ↓gH_9 hbq, ↓pH_7 hbq, ↓pH_8 hbq, ↓pH_9 hbq, ↓lH_1 hbq, ↓sH_1 hbq, ↓lH_2 hbq, ↓sH_2 hbq, ↓lH_3 hbq, ↓sH_3 hbq, ↓lH_4 hbq, ↓sH_4 hbq, ↓lH_5 hbq, ↓sH_5 hbq, ↓lH_6 hbq, ↓sH_6 hbq, ↓lH_7 hbq, ↓sH_7 hbq, ↓c1, ↓c2]
    repeat (refine And.intro (by decide) ?_)
    refine J30 _ (fun x qx => ?_) (fun k hk => ⟨?_, ?_⟩)
    · rw [zc_o (by omega), zc_o (by omega)]
    · rw [zc_o (by omega), zc_eq hk]
    · rw [zc_eq hk, zc_o (by omega)]
