/-! THE CLASS: texts read, level by level; r': how many may still be opened, j: how many levels are below -/
def k_X4_readLevel_0 : List ZI := [(.iload_n 1, 1, (0, [1], [])), (.iconst 5, 1, (0, [], [])), (.if_icmp .lt 9, 3, (0, [11], []))]
theorem ok_X4_readLevel_0 : zOK cX4_readLevel 4 false 6 k_X4_readLevel_0 0 = true := zOK_by (by decide +kernel)
def k_X4_readLevel_5 : List ZI := [(.aload_n 0, 1, (0, [0], [])), (.iload_n 2, 1, (0, [2], [])), (.invokevirtual 43, 3, (0, [32, 2, 0, 4], [])), (.return_, 1, (0, [], []))]
theorem ok_X4_readLevel_5 : zOK cX4_readLevel 4 false 6 k_X4_readLevel_5 5 = true := zOK_by (by decide +kernel)
def k_X4_readLevel_11 : List ZI := [(.aload_n 0, 1, (0, [0], [])), (.iload_n 1, 1, (0, [1], [])), (.iconst 1, 1, (0, [], [])), (.iadd, 1, (0, [], [])), (.iload_n 2, 1, (0, [2], [])), (.invokevirtual 36, 3, (0, [31, 3, 0, 4], []))]
theorem ok_X4_readLevel_11 : zOK cX4_readLevel 4 false 6 k_X4_readLevel_11 11 = true := zOK_by (by decide +kernel)
def k_X4_readLevel_19 : List ZI := [(.iload_n 1, 1, (0, [1], [])), (.iconst 2, 1, (0, [], [])), (.if_icmp .ne 7, 3, (0, [28], [])), (.iconst 1, 1, (0, [], [])), (.goto 5, 3, (0, [30], []))]
theorem ok_X4_readLevel_19 : zOK cX4_readLevel 4 false 6 k_X4_readLevel_19 19 = true := zOK_by (by decide +kernel)
def k_X4_readLevel_28 : List ZI := [(.bipush 50, 2, (0, [], []))]
theorem ok_X4_readLevel_28 : zOK cX4_readLevel 4 false 6 k_X4_readLevel_28 28 = true := zOK_by (by decide +kernel)
def k_X4_readLevel_30 : List ZI := [(.istore_n 3, 1, (0, [3], [])), (.iconst 0, 1, (0, [], [])), (.istore 4, 2, (0, [4], []))]
theorem ok_X4_readLevel_30 : zOK cX4_readLevel 4 false 6 k_X4_readLevel_30 30 = true := zOK_by (by decide +kernel)
def k_X4_readLevel_34 : List ZI := [(.iload 4, 2, (0, [4], [])), (.iload_n 3, 1, (0, [3], [])), (.if_icmp .ge 58, 3, (0, [95], []))]
theorem ok_X4_readLevel_34 : zOK cX4_readLevel 4 false 6 k_X4_readLevel_34 34 = true := zOK_by (by decide +kernel)
def k_X4_readLevel_40 : List ZI := [(.aload_n 0, 1, (0, [0], [])), (.invokevirtual 46, 3, (0, [35, 1, 0, 4], [])), (.invokestatic 50, 3, (0, [39, 1, 0, 4], [])), (.iload_n 1, 1, (0, [1], [])), (.if_icmp .ne 47, 3, (0, [95], []))]
theorem ok_X4_readLevel_40 : zOK cX4_readLevel 4 false 6 k_X4_readLevel_40 40 = true := zOK_by (by decide +kernel)
def k_X4_readLevel_51 : List ZI := [(.aload_n 0, 1, (0, [0], [])), (.invokevirtual 46, 3, (0, [35, 1, 0, 4], [])), (.istore 5, 2, (0, [5], [])), (.aload_n 0, 1, (0, [0], [])), (.dup, 1, (0, [], [])), (.getfield 27, 3, (0, [4, 3], [])), (.iconst 1, 1, (0, [], [])), (.iadd, 1, (0, [], [])), (.putfield 27, 3, (0, [4, 3], [])), (.aload_n 0, 1, (0, [0], [])), (.iload_n 1, 1, (0, [1], [])), (.iconst 1, 1, (0, [], [])), (.iadd, 1, (0, [], [])), (.iload_n 2, 1, (0, [2], [])), (.invokevirtual 36, 3, (0, [31, 3, 0, 4], []))]
theorem ok_X4_readLevel_51 : zOK cX4_readLevel 4 false 6 k_X4_readLevel_51 51 = true := zOK_by (by decide +kernel)
def k_X4_readLevel_75 : List ZI := [(.aload_n 0, 1, (0, [0], [])), (.getfield 14, 3, (0, [4, 0], [])), (.sipush 20000, 3, (0, [], [])), (.iload 5, 2, (0, [5], [])), (.iadd, 1, (0, [], [])), (.invokevirtual 56, 3, (0, [41, 2, 0, 5], [])), (.pop, 1, (0, [], [])), (.iinc 4 1, 3, (0, [4], [])), (.goto (-58), 3, (0, [34], []))]
theorem ok_X4_readLevel_75 : zOK cX4_readLevel 4 false 6 k_X4_readLevel_75 75 = true := zOK_by (by decide +kernel)
def k_X4_readLevel_95 : List ZI := [(.return_, 1, (0, [], []))]
theorem ok_X4_readLevel_95 : zOK cX4_readLevel 4 false 6 k_X4_readLevel_95 95 = true := zOK_by (by decide +kernel)
theorem rt_X4_readLevel {g : Nat} {post : Option ZV → ZH → Prop} {h : ZH} {b : ZB2} : zRt mX4_readLevel g post none h b = (post none h ∧ h.1.length = g) := by show (_ ∧ _ ∧ True) = _; simp
def bk_X4_readLevel_0 (E : ZE) (CT : Nat → ZC) (X : ZK) (Rt : ZR) (ls : ZL) (st : List ZV) (h : ZH) (b : ZB2) : Prop := zB E CT k_X4_readLevel_0 0 ls st h b (fun t ls st h b => X t ls st h b) Rt
theorem bs_X4_readLevel_0 {E : ZE} {CT : Nat → ZC} {X : ZK} {Rt : ZR} {ls : ZL} {st : List ZV} {h : ZH} {b : ZB2} (hX : zCl E mX4_readLevel 4 false CT Rt X) (q : bk_X4_readLevel_0 E CT X Rt ls st h b) : X 0 ls st h b := by
  refine hX k_X4_readLevel_0 0 ok_X4_readLevel_0 _ ?_ ls st h b q
  exact fun t ls st h b q => q
def bk_X4_readLevel_5 (E : ZE) (CT : Nat → ZC) (X : ZK) (Rt : ZR) (ls : ZL) (st : List ZV) (h : ZH) (b : ZB2) : Prop := zB E CT k_X4_readLevel_5 5 ls st h b (fun t ls st h b => X t ls st h b) Rt
theorem bs_X4_readLevel_5 {E : ZE} {CT : Nat → ZC} {X : ZK} {Rt : ZR} {ls : ZL} {st : List ZV} {h : ZH} {b : ZB2} (hX : zCl E mX4_readLevel 4 false CT Rt X) (q : bk_X4_readLevel_5 E CT X Rt ls st h b) : X 5 ls st h b := by
  refine hX k_X4_readLevel_5 5 ok_X4_readLevel_5 _ ?_ ls st h b q
  exact fun t ls st h b q => q
def bk_X4_readLevel_11 (E : ZE) (CT : Nat → ZC) (X : ZK) (Rt : ZR) (ls : ZL) (st : List ZV) (h : ZH) (b : ZB2) : Prop := zB E CT k_X4_readLevel_11 11 ls st h b (fun t ls st h b => X t ls st h b) Rt
theorem bs_X4_readLevel_11 {E : ZE} {CT : Nat → ZC} {X : ZK} {Rt : ZR} {ls : ZL} {st : List ZV} {h : ZH} {b : ZB2} (hX : zCl E mX4_readLevel 4 false CT Rt X) (q : bk_X4_readLevel_11 E CT X Rt ls st h b) : X 11 ls st h b := by
  refine hX k_X4_readLevel_11 11 ok_X4_readLevel_11 _ ?_ ls st h b q
  exact fun t ls st h b q => q
def bk_X4_readLevel_30 (E : ZE) (CT : Nat → ZC) (X : ZK) (Rt : ZR) (ls : ZL) (st : List ZV) (h : ZH) (b : ZB2) : Prop := zB E CT k_X4_readLevel_30 30 ls st h b (fun t ls st h b => X t ls st h b) Rt
theorem bs_X4_readLevel_30 {E : ZE} {CT : Nat → ZC} {X : ZK} {Rt : ZR} {ls : ZL} {st : List ZV} {h : ZH} {b : ZB2} (hX : zCl E mX4_readLevel 4 false CT Rt X) (q : bk_X4_readLevel_30 E CT X Rt ls st h b) : X 30 ls st h b := by
  refine hX k_X4_readLevel_30 30 ok_X4_readLevel_30 _ ?_ ls st h b q
  exact fun t ls st h b q => q
def bk_X4_readLevel_28 (E : ZE) (CT : Nat → ZC) (X : ZK) (Rt : ZR) (ls : ZL) (st : List ZV) (h : ZH) (b : ZB2) : Prop := zB E CT k_X4_readLevel_28 28 ls st h b (fun t ls st h b => if t = 30 then bk_X4_readLevel_30 E CT X Rt ls st h b else X t ls st h b) Rt
theorem bs_X4_readLevel_28 {E : ZE} {CT : Nat → ZC} {X : ZK} {Rt : ZR} {ls : ZL} {st : List ZV} {h : ZH} {b : ZB2} (hX : zCl E mX4_readLevel 4 false CT Rt X) (q : bk_X4_readLevel_28 E CT X Rt ls st h b) : X 28 ls st h b := by
  refine hX k_X4_readLevel_28 28 ok_X4_readLevel_28 _ ?_ ls st h b q
  exact by
    intro t ls st h b q
    by_cases c : t = 30
    · subst c; rw [if_pos rfl] at q; exact bs_X4_readLevel_30 hX q
    rw [if_neg c] at q
    exact q
def bk_X4_readLevel_19 (E : ZE) (CT : Nat → ZC) (X : ZK) (Rt : ZR) (ls : ZL) (st : List ZV) (h : ZH) (b : ZB2) : Prop := zB E CT k_X4_readLevel_19 19 ls st h b (fun t ls st h b => if t = 28 then bk_X4_readLevel_28 E CT X Rt ls st h b else if t = 30 then bk_X4_readLevel_30 E CT X Rt ls st h b else X t ls st h b) Rt
theorem bs_X4_readLevel_19 {E : ZE} {CT : Nat → ZC} {X : ZK} {Rt : ZR} {ls : ZL} {st : List ZV} {h : ZH} {b : ZB2} (hX : zCl E mX4_readLevel 4 false CT Rt X) (q : bk_X4_readLevel_19 E CT X Rt ls st h b) : X 19 ls st h b := by
  refine hX k_X4_readLevel_19 19 ok_X4_readLevel_19 _ ?_ ls st h b q
  exact by
    intro t ls st h b q
    by_cases c : t = 28
    · subst c; rw [if_pos rfl] at q; exact bs_X4_readLevel_28 hX q
    rw [if_neg c] at q
    by_cases c : t = 30
    · subst c; rw [if_pos rfl] at q; exact bs_X4_readLevel_30 hX q
    rw [if_neg c] at q
    exact q
def bk_X4_readLevel_34 (E : ZE) (CT : Nat → ZC) (X : ZK) (Rt : ZR) (ls : ZL) (st : List ZV) (h : ZH) (b : ZB2) : Prop := zB E CT k_X4_readLevel_34 34 ls st h b (fun t ls st h b => X t ls st h b) Rt
theorem bs_X4_readLevel_34 {E : ZE} {CT : Nat → ZC} {X : ZK} {Rt : ZR} {ls : ZL} {st : List ZV} {h : ZH} {b : ZB2} (hX : zCl E mX4_readLevel 4 false CT Rt X) (q : bk_X4_readLevel_34 E CT X Rt ls st h b) : X 34 ls st h b := by
  refine hX k_X4_readLevel_34 34 ok_X4_readLevel_34 _ ?_ ls st h b q
  exact fun t ls st h b q => q
def bk_X4_readLevel_40 (E : ZE) (CT : Nat → ZC) (X : ZK) (Rt : ZR) (ls : ZL) (st : List ZV) (h : ZH) (b : ZB2) : Prop := zB E CT k_X4_readLevel_40 40 ls st h b (fun t ls st h b => X t ls st h b) Rt
theorem bs_X4_readLevel_40 {E : ZE} {CT : Nat → ZC} {X : ZK} {Rt : ZR} {ls : ZL} {st : List ZV} {h : ZH} {b : ZB2} (hX : zCl E mX4_readLevel 4 false CT Rt X) (q : bk_X4_readLevel_40 E CT X Rt ls st h b) : X 40 ls st h b := by
  refine hX k_X4_readLevel_40 40 ok_X4_readLevel_40 _ ?_ ls st h b q
  exact fun t ls st h b q => q
def bk_X4_readLevel_51 (E : ZE) (CT : Nat → ZC) (X : ZK) (Rt : ZR) (ls : ZL) (st : List ZV) (h : ZH) (b : ZB2) : Prop := zB E CT k_X4_readLevel_51 51 ls st h b (fun t ls st h b => X t ls st h b) Rt
theorem bs_X4_readLevel_51 {E : ZE} {CT : Nat → ZC} {X : ZK} {Rt : ZR} {ls : ZL} {st : List ZV} {h : ZH} {b : ZB2} (hX : zCl E mX4_readLevel 4 false CT Rt X) (q : bk_X4_readLevel_51 E CT X Rt ls st h b) : X 51 ls st h b := by
  refine hX k_X4_readLevel_51 51 ok_X4_readLevel_51 _ ?_ ls st h b q
  exact fun t ls st h b q => q
def bk_X4_readLevel_75 (E : ZE) (CT : Nat → ZC) (X : ZK) (Rt : ZR) (ls : ZL) (st : List ZV) (h : ZH) (b : ZB2) : Prop := zB E CT k_X4_readLevel_75 75 ls st h b (fun t ls st h b => X t ls st h b) Rt
theorem bs_X4_readLevel_75 {E : ZE} {CT : Nat → ZC} {X : ZK} {Rt : ZR} {ls : ZL} {st : List ZV} {h : ZH} {b : ZB2} (hX : zCl E mX4_readLevel 4 false CT Rt X) (q : bk_X4_readLevel_75 E CT X Rt ls st h b) : X 75 ls st h b := by
  refine hX k_X4_readLevel_75 75 ok_X4_readLevel_75 _ ?_ ls st h b q
  exact fun t ls st h b q => q
def bk_X4_readLevel_95 (E : ZE) (CT : Nat → ZC) (X : ZK) (Rt : ZR) (ls : ZL) (st : List ZV) (h : ZH) (b : ZB2) : Prop := zB E CT k_X4_readLevel_95 95 ls st h b (fun t ls st h b => X t ls st h b) Rt
theorem bs_X4_readLevel_95 {E : ZE} {CT : Nat → ZC} {X : ZK} {Rt : ZR} {ls : ZL} {st : List ZV} {h : ZH} {b : ZB2} (hX : zCl E mX4_readLevel 4 false CT Rt X) (q : bk_X4_readLevel_95 E CT X Rt ls st h b) : X 95 ls st h b := by
  refine hX k_X4_readLevel_95 95 ok_X4_readLevel_95 _ ?_ ls st h b q
  exact fun t ls st h b q => q
-- X4_readLevel: cuts [5, 11, 19, 34, 40, 51, 75, 95]
def k_X4_readUnit_0 : List ZI := [(.aload_n 0, 1, (0, [0], [])), (.invokevirtual 46, 3, (0, [35, 1, 0, 4], [])), (.istore_n 2, 1, (0, [2], [])), (.iload_n 2, 1, (0, [2], [])), (.invokestatic 60, 3, (0, [37, 1, 0, 4], [])), (.ifCond .eq 10, 3, (0, [19], []))]
theorem ok_X4_readUnit_0 : zOK cX4_readUnit 4 false 3 k_X4_readUnit_0 0 = true := zOK_by (by decide +kernel)
def k_X4_readUnit_12 : List ZI := [(.aload_n 0, 1, (0, [0], [])), (.invokevirtual 63, 3, (0, [33, 1, 0, 4], [])), (.goto 125, 3, (0, [141], []))]
theorem ok_X4_readUnit_12 : zOK cX4_readUnit 4 false 3 k_X4_readUnit_12 12 = true := zOK_by (by decide +kernel)
def k_X4_readUnit_19 : List ZI := [(.aload_n 0, 1, (0, [0], [])), (.iload_n 2, 1, (0, [2], [])), (.invokevirtual 66, 3, (0, [38, 2, 0, 4], [])), (.ifCond .lt 33, 3, (0, [57], []))]
theorem ok_X4_readUnit_19 : zOK cX4_readUnit 4 false 3 k_X4_readUnit_19 19 = true := zOK_by (by decide +kernel)
def k_X4_readUnit_27 : List ZI := [(.aload_n 0, 1, (0, [0], [])), (.dup, 1, (0, [], [])), (.getfield 27, 3, (0, [4, 3], [])), (.iconst 1, 1, (0, [], [])), (.iadd, 1, (0, [], [])), (.putfield 27, 3, (0, [4, 3], [])), (.aload_n 0, 1, (0, [0], [])), (.getfield 14, 3, (0, [4, 0], [])), (.sipush 10000, 3, (0, [], [])), (.aload_n 0, 1, (0, [0], [])), (.iload_n 2, 1, (0, [2], [])), (.invokevirtual 66, 3, (0, [38, 2, 0, 4], [])), (.iadd, 1, (0, [], [])), (.invokevirtual 56, 3, (0, [41, 2, 0, 5], [])), (.pop, 1, (0, [], [])), (.goto 87, 3, (0, [141], []))]
theorem ok_X4_readUnit_27 : zOK cX4_readUnit 4 false 3 k_X4_readUnit_27 27 = true := zOK_by (by decide +kernel)
def k_X4_readUnit_57 : List ZI := [(.iload_n 2, 1, (0, [2], [])), (.bipush 33, 2, (0, [], [])), (.if_icmp .ne 41, 3, (0, [101], []))]
theorem ok_X4_readUnit_57 : zOK cX4_readUnit 4 false 3 k_X4_readUnit_57 57 = true := zOK_by (by decide +kernel)
def k_X4_readUnit_63 : List ZI := [(.iload_n 1, 1, (0, [1], [])), (.iconst 5, 1, (0, [], [])), (.if_icmp .ge 36, 3, (0, [101], []))]
theorem ok_X4_readUnit_63 : zOK cX4_readUnit 4 false 3 k_X4_readUnit_63 63 = true := zOK_by (by decide +kernel)
def k_X4_readUnit_68 : List ZI := [(.aload_n 0, 1, (0, [0], [])), (.dup, 1, (0, [], [])), (.getfield 27, 3, (0, [4, 3], [])), (.iconst 1, 1, (0, [], [])), (.iadd, 1, (0, [], [])), (.putfield 27, 3, (0, [4, 3], [])), (.aload_n 0, 1, (0, [0], [])), (.iload_n 1, 1, (0, [1], [])), (.iconst 1, 1, (0, [], [])), (.iadd, 1, (0, [], [])), (.invokevirtual 43, 3, (0, [32, 2, 0, 4], []))]
theorem ok_X4_readUnit_68 : zOK cX4_readUnit 4 false 3 k_X4_readUnit_68 68 = true := zOK_by (by decide +kernel)
def k_X4_readUnit_85 : List ZI := [(.aload_n 0, 1, (0, [0], [])), (.getfield 14, 3, (0, [4, 0], [])), (.sipush 20000, 3, (0, [], [])), (.iload_n 2, 1, (0, [2], [])), (.iadd, 1, (0, [], [])), (.invokevirtual 56, 3, (0, [41, 2, 0, 5], [])), (.pop, 1, (0, [], [])), (.goto 43, 3, (0, [141], []))]
theorem ok_X4_readUnit_85 : zOK cX4_readUnit 4 false 3 k_X4_readUnit_85 85 = true := zOK_by (by decide +kernel)
def k_X4_readUnit_101 : List ZI := [(.iload_n 2, 1, (0, [2], [])), (.bipush 40, 2, (0, [], [])), (.if_icmp .ne 33, 3, (0, [137], []))]
theorem ok_X4_readUnit_101 : zOK cX4_readUnit 4 false 3 k_X4_readUnit_101 101 = true := zOK_by (by decide +kernel)
def k_X4_readUnit_107 : List ZI := [(.iload_n 1, 1, (0, [1], [])), (.iconst 5, 1, (0, [], [])), (.if_icmp .ge 28, 3, (0, [137], []))]
theorem ok_X4_readUnit_107 : zOK cX4_readUnit 4 false 3 k_X4_readUnit_107 107 = true := zOK_by (by decide +kernel)
def k_X4_readUnit_112 : List ZI := [(.aload_n 0, 1, (0, [0], [])), (.dup, 1, (0, [], [])), (.getfield 27, 3, (0, [4, 3], [])), (.iconst 1, 1, (0, [], [])), (.iadd, 1, (0, [], [])), (.putfield 27, 3, (0, [4, 3], [])), (.aload_n 0, 1, (0, [0], [])), (.iconst 0, 1, (0, [], [])), (.iload_n 1, 1, (0, [1], [])), (.iconst 1, 1, (0, [], [])), (.iadd, 1, (0, [], [])), (.invokevirtual 36, 3, (0, [31, 3, 0, 4], []))]
theorem ok_X4_readUnit_112 : zOK cX4_readUnit 4 false 3 k_X4_readUnit_112 112 = true := zOK_by (by decide +kernel)
def k_X4_readUnit_130 : List ZI := [(.aload_n 0, 1, (0, [0], [])), (.invokevirtual 69, 3, (0, [34, 1, 0, 4], [])), (.goto 7, 3, (0, [141], []))]
theorem ok_X4_readUnit_130 : zOK cX4_readUnit 4 false 3 k_X4_readUnit_130 130 = true := zOK_by (by decide +kernel)
def k_X4_readUnit_137 : List ZI := [(.aload_n 0, 1, (0, [0], [])), (.invokevirtual 40, 3, (0, [36, 1, 0, 4], []))]
theorem ok_X4_readUnit_137 : zOK cX4_readUnit 4 false 3 k_X4_readUnit_137 137 = true := zOK_by (by decide +kernel)
def k_X4_readUnit_141 : List ZI := [(.return_, 1, (0, [], []))]
theorem ok_X4_readUnit_141 : zOK cX4_readUnit 4 false 3 k_X4_readUnit_141 141 = true := zOK_by (by decide +kernel)
theorem rt_X4_readUnit {g : Nat} {post : Option ZV → ZH → Prop} {h : ZH} {b : ZB2} : zRt mX4_readUnit g post none h b = (post none h ∧ h.1.length = g) := by show (_ ∧ _ ∧ True) = _; simp
def bk_X4_readUnit_0 (E : ZE) (CT : Nat → ZC) (X : ZK) (Rt : ZR) (ls : ZL) (st : List ZV) (h : ZH) (b : ZB2) : Prop := zB E CT k_X4_readUnit_0 0 ls st h b (fun t ls st h b => X t ls st h b) Rt
theorem bs_X4_readUnit_0 {E : ZE} {CT : Nat → ZC} {X : ZK} {Rt : ZR} {ls : ZL} {st : List ZV} {h : ZH} {b : ZB2} (hX : zCl E mX4_readUnit 4 false CT Rt X) (q : bk_X4_readUnit_0 E CT X Rt ls st h b) : X 0 ls st h b := by
  refine hX k_X4_readUnit_0 0 ok_X4_readUnit_0 _ ?_ ls st h b q
  exact fun t ls st h b q => q
def bk_X4_readUnit_12 (E : ZE) (CT : Nat → ZC) (X : ZK) (Rt : ZR) (ls : ZL) (st : List ZV) (h : ZH) (b : ZB2) : Prop := zB E CT k_X4_readUnit_12 12 ls st h b (fun t ls st h b => X t ls st h b) Rt
theorem bs_X4_readUnit_12 {E : ZE} {CT : Nat → ZC} {X : ZK} {Rt : ZR} {ls : ZL} {st : List ZV} {h : ZH} {b : ZB2} (hX : zCl E mX4_readUnit 4 false CT Rt X) (q : bk_X4_readUnit_12 E CT X Rt ls st h b) : X 12 ls st h b := by
  refine hX k_X4_readUnit_12 12 ok_X4_readUnit_12 _ ?_ ls st h b q
  exact fun t ls st h b q => q
def bk_X4_readUnit_19 (E : ZE) (CT : Nat → ZC) (X : ZK) (Rt : ZR) (ls : ZL) (st : List ZV) (h : ZH) (b : ZB2) : Prop := zB E CT k_X4_readUnit_19 19 ls st h b (fun t ls st h b => X t ls st h b) Rt
theorem bs_X4_readUnit_19 {E : ZE} {CT : Nat → ZC} {X : ZK} {Rt : ZR} {ls : ZL} {st : List ZV} {h : ZH} {b : ZB2} (hX : zCl E mX4_readUnit 4 false CT Rt X) (q : bk_X4_readUnit_19 E CT X Rt ls st h b) : X 19 ls st h b := by
  refine hX k_X4_readUnit_19 19 ok_X4_readUnit_19 _ ?_ ls st h b q
  exact fun t ls st h b q => q
def bk_X4_readUnit_27 (E : ZE) (CT : Nat → ZC) (X : ZK) (Rt : ZR) (ls : ZL) (st : List ZV) (h : ZH) (b : ZB2) : Prop := zB E CT k_X4_readUnit_27 27 ls st h b (fun t ls st h b => X t ls st h b) Rt
theorem bs_X4_readUnit_27 {E : ZE} {CT : Nat → ZC} {X : ZK} {Rt : ZR} {ls : ZL} {st : List ZV} {h : ZH} {b : ZB2} (hX : zCl E mX4_readUnit 4 false CT Rt X) (q : bk_X4_readUnit_27 E CT X Rt ls st h b) : X 27 ls st h b := by
  refine hX k_X4_readUnit_27 27 ok_X4_readUnit_27 _ ?_ ls st h b q
  exact fun t ls st h b q => q
def bk_X4_readUnit_57 (E : ZE) (CT : Nat → ZC) (X : ZK) (Rt : ZR) (ls : ZL) (st : List ZV) (h : ZH) (b : ZB2) : Prop := zB E CT k_X4_readUnit_57 57 ls st h b (fun t ls st h b => X t ls st h b) Rt
theorem bs_X4_readUnit_57 {E : ZE} {CT : Nat → ZC} {X : ZK} {Rt : ZR} {ls : ZL} {st : List ZV} {h : ZH} {b : ZB2} (hX : zCl E mX4_readUnit 4 false CT Rt X) (q : bk_X4_readUnit_57 E CT X Rt ls st h b) : X 57 ls st h b := by
  refine hX k_X4_readUnit_57 57 ok_X4_readUnit_57 _ ?_ ls st h b q
  exact fun t ls st h b q => q
def bk_X4_readUnit_63 (E : ZE) (CT : Nat → ZC) (X : ZK) (Rt : ZR) (ls : ZL) (st : List ZV) (h : ZH) (b : ZB2) : Prop := zB E CT k_X4_readUnit_63 63 ls st h b (fun t ls st h b => X t ls st h b) Rt
theorem bs_X4_readUnit_63 {E : ZE} {CT : Nat → ZC} {X : ZK} {Rt : ZR} {ls : ZL} {st : List ZV} {h : ZH} {b : ZB2} (hX : zCl E mX4_readUnit 4 false CT Rt X) (q : bk_X4_readUnit_63 E CT X Rt ls st h b) : X 63 ls st h b := by
  refine hX k_X4_readUnit_63 63 ok_X4_readUnit_63 _ ?_ ls st h b q
  exact fun t ls st h b q => q
def bk_X4_readUnit_68 (E : ZE) (CT : Nat → ZC) (X : ZK) (Rt : ZR) (ls : ZL) (st : List ZV) (h : ZH) (b : ZB2) : Prop := zB E CT k_X4_readUnit_68 68 ls st h b (fun t ls st h b => X t ls st h b) Rt
theorem bs_X4_readUnit_68 {E : ZE} {CT : Nat → ZC} {X : ZK} {Rt : ZR} {ls : ZL} {st : List ZV} {h : ZH} {b : ZB2} (hX : zCl E mX4_readUnit 4 false CT Rt X) (q : bk_X4_readUnit_68 E CT X Rt ls st h b) : X 68 ls st h b := by
  refine hX k_X4_readUnit_68 68 ok_X4_readUnit_68 _ ?_ ls st h b q
  exact fun t ls st h b q => q
def bk_X4_readUnit_85 (E : ZE) (CT : Nat → ZC) (X : ZK) (Rt : ZR) (ls : ZL) (st : List ZV) (h : ZH) (b : ZB2) : Prop := zB E CT k_X4_readUnit_85 85 ls st h b (fun t ls st h b => X t ls st h b) Rt
theorem bs_X4_readUnit_85 {E : ZE} {CT : Nat → ZC} {X : ZK} {Rt : ZR} {ls : ZL} {st : List ZV} {h : ZH} {b : ZB2} (hX : zCl E mX4_readUnit 4 false CT Rt X) (q : bk_X4_readUnit_85 E CT X Rt ls st h b) : X 85 ls st h b := by
  refine hX k_X4_readUnit_85 85 ok_X4_readUnit_85 _ ?_ ls st h b q
  exact fun t ls st h b q => q
def bk_X4_readUnit_101 (E : ZE) (CT : Nat → ZC) (X : ZK) (Rt : ZR) (ls : ZL) (st : List ZV) (h : ZH) (b : ZB2) : Prop := zB E CT k_X4_readUnit_101 101 ls st h b (fun t ls st h b => X t ls st h b) Rt
theorem bs_X4_readUnit_101 {E : ZE} {CT : Nat → ZC} {X : ZK} {Rt : ZR} {ls : ZL} {st : List ZV} {h : ZH} {b : ZB2} (hX : zCl E mX4_readUnit 4 false CT Rt X) (q : bk_X4_readUnit_101 E CT X Rt ls st h b) : X 101 ls st h b := by
  refine hX k_X4_readUnit_101 101 ok_X4_readUnit_101 _ ?_ ls st h b q
  exact fun t ls st h b q => q
def bk_X4_readUnit_107 (E : ZE) (CT : Nat → ZC) (X : ZK) (Rt : ZR) (ls : ZL) (st : List ZV) (h : ZH) (b : ZB2) : Prop := zB E CT k_X4_readUnit_107 107 ls st h b (fun t ls st h b => X t ls st h b) Rt
theorem bs_X4_readUnit_107 {E : ZE} {CT : Nat → ZC} {X : ZK} {Rt : ZR} {ls : ZL} {st : List ZV} {h : ZH} {b : ZB2} (hX : zCl E mX4_readUnit 4 false CT Rt X) (q : bk_X4_readUnit_107 E CT X Rt ls st h b) : X 107 ls st h b := by
  refine hX k_X4_readUnit_107 107 ok_X4_readUnit_107 _ ?_ ls st h b q
  exact fun t ls st h b q => q
def bk_X4_readUnit_112 (E : ZE) (CT : Nat → ZC) (X : ZK) (Rt : ZR) (ls : ZL) (st : List ZV) (h : ZH) (b : ZB2) : Prop := zB E CT k_X4_readUnit_112 112 ls st h b (fun t ls st h b => X t ls st h b) Rt
theorem bs_X4_readUnit_112 {E : ZE} {CT : Nat → ZC} {X : ZK} {Rt : ZR} {ls : ZL} {st : List ZV} {h : ZH} {b : ZB2} (hX : zCl E mX4_readUnit 4 false CT Rt X) (q : bk_X4_readUnit_112 E CT X Rt ls st h b) : X 112 ls st h b := by
  refine hX k_X4_readUnit_112 112 ok_X4_readUnit_112 _ ?_ ls st h b q
  exact fun t ls st h b q => q
def bk_X4_readUnit_130 (E : ZE) (CT : Nat → ZC) (X : ZK) (Rt : ZR) (ls : ZL) (st : List ZV) (h : ZH) (b : ZB2) : Prop := zB E CT k_X4_readUnit_130 130 ls st h b (fun t ls st h b => X t ls st h b) Rt
theorem bs_X4_readUnit_130 {E : ZE} {CT : Nat → ZC} {X : ZK} {Rt : ZR} {ls : ZL} {st : List ZV} {h : ZH} {b : ZB2} (hX : zCl E mX4_readUnit 4 false CT Rt X) (q : bk_X4_readUnit_130 E CT X Rt ls st h b) : X 130 ls st h b := by
  refine hX k_X4_readUnit_130 130 ok_X4_readUnit_130 _ ?_ ls st h b q
  exact fun t ls st h b q => q
def bk_X4_readUnit_137 (E : ZE) (CT : Nat → ZC) (X : ZK) (Rt : ZR) (ls : ZL) (st : List ZV) (h : ZH) (b : ZB2) : Prop := zB E CT k_X4_readUnit_137 137 ls st h b (fun t ls st h b => X t ls st h b) Rt
theorem bs_X4_readUnit_137 {E : ZE} {CT : Nat → ZC} {X : ZK} {Rt : ZR} {ls : ZL} {st : List ZV} {h : ZH} {b : ZB2} (hX : zCl E mX4_readUnit 4 false CT Rt X) (q : bk_X4_readUnit_137 E CT X Rt ls st h b) : X 137 ls st h b := by
  refine hX k_X4_readUnit_137 137 ok_X4_readUnit_137 _ ?_ ls st h b q
  exact fun t ls st h b q => q
def bk_X4_readUnit_141 (E : ZE) (CT : Nat → ZC) (X : ZK) (Rt : ZR) (ls : ZL) (st : List ZV) (h : ZH) (b : ZB2) : Prop := zB E CT k_X4_readUnit_141 141 ls st h b (fun t ls st h b => X t ls st h b) Rt
theorem bs_X4_readUnit_141 {E : ZE} {CT : Nat → ZC} {X : ZK} {Rt : ZR} {ls : ZL} {st : List ZV} {h : ZH} {b : ZB2} (hX : zCl E mX4_readUnit 4 false CT Rt X) (q : bk_X4_readUnit_141 E CT X Rt ls st h b) : X 141 ls st h b := by
  refine hX k_X4_readUnit_141 141 ok_X4_readUnit_141 _ ?_ ls st h b q
  exact fun t ls st h b q => q
-- X4_readUnit: cuts [12, 19, 27, 57, 63, 68, 85, 101, 107, 112, 130, 137, 141]
def pll (T : Nat → Int) (n : Nat) (u : Int) (r : Nat) : Nat → PS → PS
  | 0 => pnt T n u r
  | j + 1 => plw T n (pll T n u r j) (4 - j) (if j = 2 then 1 else 50)
theorem pll_5 (T : Nat → Int) (n : Nat) (u : Int) (r : Nat) : pll T n u r 5 = pvT T n (pnt T n u r) := rfl
abbrev rdQ (f : (Nat → Int) → Nat → Int → PS → PS) (M : ZMm) (post : Option ZV → ZMm → Prop) : Prop := ∃ (T : Nat → Int) (n : Nat) (u : Int) (s : PS), Rd T n u M s ∧ ∀ M2 : ZMm, Rd T n u M2 (f T n u s) → Fdq M M2 → M2 68 1 + s.1 ≤ M 68 1 + (f T n u s).1 → post none M2
def B_uni (r : Nat) (q : Int) (M : Nat → Nat → Int) (post : Option ZV → (Nat → Nat → Int) → Prop) : Prop := ∃ r9 : Nat, (q = 5 - (r9 : Int) ∧ r9 ≤ 5 ∧ 7 * r9 + 1 ≤ r) ∧ rdQ (fun T n u => pnt T n u r9) M post
def C_uni (r : Nat) : ZC := fun as h post => match as with
  | [.inr (.inr (.inl 67)), .inl q] => h.1 = zG ∧ B_uni r q h.2 (fun v M => post v (zG, M))
  | _ => False
theorem r_uni {r : Nat} {q : Int} {M : Nat → Nat → Int} {post : Option ZV → ZH → Prop} : C_uni r [.inr (.inr (.inl 67)), .inl q] (zG, M) post = B_uni r q M (fun v M => post v (zG, M)) := by show (zG = zG ∧ _) = _; simp
def B_lev (r : Nat) (l : Int) (q : Int) (M : Nat → Nat → Int) (post : Option ZV → (Nat → Nat → Int) → Prop) : Prop := ∃ r9 j : Nat, (q = 5 - (r9 : Int) ∧ r9 ≤ 5 ∧ l = 5 - (j : Int) ∧ j ≤ 5 ∧ 7 * r9 + j + 2 ≤ r) ∧ rdQ (fun T n u => pll T n u r9 j) M post
def C_lev (r : Nat) : ZC := fun as h post => match as with
  | [.inr (.inr (.inl 67)), .inl l, .inl q] => h.1 = zG ∧ B_lev r l q h.2 (fun v M => post v (zG, M))
  | _ => False
theorem r_lev {r : Nat} {l : Int} {q : Int} {M : Nat → Nat → Int} {post : Option ZV → ZH → Prop} : C_lev r [.inr (.inr (.inl 67)), .inl l, .inl q] (zG, M) post = B_lev r l q M (fun v M => post v (zG, M)) := by show (zG = zG ∧ _) = _; simp
theorem lvj_rg (c : Int) : -1 ≤ lvj c ∧ lvj c ≤ 4 := by
  unfold lvj
  (repeat' split) <;> omega
def ct_levS (r : Nat) : Nat → ZC := fun n => if n = 35 then C_rnx else if n = 39 then C_rlv else if n = 41 then C_radd else if n = 32 then C_uni (r) else if n = 31 then C_lev (r) else fun _ _ _ => False
theorem ct_levS_rnx {r : Nat} {as : List ZV} {h : ZH} {post : Option ZV → ZH → Prop} : ct_levS r 35 as h post = C_rnx as h post := rfl
theorem ct_levS_rlv {r : Nat} {as : List ZV} {h : ZH} {post : Option ZV → ZH → Prop} : ct_levS r 39 as h post = C_rlv as h post := rfl
theorem ct_levS_radd {r : Nat} {as : List ZV} {h : ZH} {post : Option ZV → ZH → Prop} : ct_levS r 41 as h post = C_radd as h post := rfl
theorem ct_levS_uni {r : Nat} {as : List ZV} {h : ZH} {post : Option ZV → ZH → Prop} : ct_levS r 32 as h post = C_uni (r) as h post := rfl
theorem ct_levS_lev {r : Nat} {as : List ZV} {h : ZH} {post : Option ZV → ZH → Prop} : ct_levS r 31 as h post = C_lev (r) as h post := rfl
theorem c_levS {E : ZE} {d : Nat} {r : Nat} (hd : 2 ≤ d) (i_uni : ∃ d', d' < d ∧ zMet E d' mX4_readUnit (C_uni (r))) (i_lev : ∃ d', d' < d ∧ zMet E d' mX4_readLevel (C_lev (r))) : zMet E d mX4_readLevel (C_lev (r+1)) := by
  refine zmet_of (o := 4) (ini := false) (CT := ct_levS r) gd_X4_readLevel rfl (fun h => by cases h) (by omega) ?_ ?_
  · intro n as h post hh
    unfold ct_levS at hh
    by_cases c : n = 35
    · subst c; exact ⟨gd_X4_next, 1, by omega, c_rnx (by omega)⟩
    rw [if_neg c] at hh
    by_cases c : n = 39
    · subst c; exact ⟨gd_X4_levelOf, 1, by omega, c_rlv (by omega)⟩
    rw [if_neg c] at hh
    by_cases c : n = 41
    · subst c; exact ⟨gd_X5_add, 1, by omega, c_radd (by omega)⟩
    rw [if_neg c] at hh
    by_cases c : n = 32
    · subst c; exact ⟨gd_X4_readUnit, i_uni⟩
    rw [if_neg c] at hh
    by_cases c : n = 31
    · subst c; exact ⟨gd_X4_readLevel, i_lev⟩
    rw [if_neg c] at hh
    exact hh.elim
  intro as h post hC
  match as, hC with
  | [.inr (.inr (.inl 67)), .inl l, .inl q], hC =>
    refine ⟨Nat.le_of_ble_eq_true rfl, fun X hX => bs_X4_readLevel_0 hX ?_⟩
    obtain ⟨G, M⟩ := h
    obtain ⟨hG, hC⟩ := hC
    dsimp only at hG
    subst hG
    simp only [B_lev] at hC
    show bk_X4_readLevel_0 E (ct_levS r) X _ [some (.inr (.inr (.inl 67))), some (.inl l), some (.inl q), none, none, none] [] (zG, M) (0, 0)
    obtain ⟨r9, j, ⟨hq, hr9, hl, hj, hi⟩, T, n, u, s, ho, hC⟩ := hC
    have zl : zr l = l := zr_of (by omega) (by omega)
    match j, hl, hj, hi, hC with
    | 0, hl, hj, hi, hC =>
      have l5 : (l < 5) = False := eq_false (by omega)
      simp only [bk_X4_readLevel_0, k_X4_readLevel_0, bk_X4_readLevel_5, k_X4_readLevel_5, bk_X4_readLevel_11, k_X4_readLevel_11, bk_X4_readLevel_19, k_X4_readLevel_19, bk_X4_readLevel_28, k_X4_readLevel_28, bk_X4_readLevel_30, k_X4_readLevel_30, bk_X4_readLevel_34, k_X4_readLevel_34, bk_X4_readLevel_40, k_X4_readLevel_40, bk_X4_readLevel_51, k_X4_readLevel_51, bk_X4_readLevel_75, k_X4_readLevel_75, bk_X4_readLevel_95, k_X4_readLevel_95, ↓e_rk1, ↓e_rk0, ↓e_sk0, ↓e_sks, ↓e_ldi0, ↓e_ldis, ↓e_ldl0, ↓e_ldls, ↓e_lda0, ↓e_ldas, ↓e_ok0, ↓e_okss, ↓e_ok1i, ↓e_ok1r, ↓e_ok1n, ↓e_sti, ↓e_sta, ↓e_1, ↓e_2, ↓e_l1, ↓e_l2, ↓e_li, ↓e_sw0, ↓e_sws, ↓e_ceq, ↓e_cne, ↓e_clt, ↓e_cge, ↓e_cgt, ↓e_cle, ↓e_nil, ↓e_cons, ↓e_iconst, ↓e_bipush, ↓e_sipush, ↓e_ldc, ↓e_ldcw, ↓e_ldc2, ↓e_lconst, ↓e_iloadn, ↓e_iload, ↓e_lloadn, ↓e_lload, ↓e_aloadn, ↓e_aload, ↓e_istoren, ↓e_istore, ↓e_astoren, ↓e_astore, ↓e_add, ↓e_iinc, ↓e_iadd, ↓e_isub, ↓e_imul, ↓e_iand, ↓e_ior, ↓e_ixor, ↓e_ishl, ↓e_iushr, ↓e_idiv, ↓e_irem, ↓e_ineg, ↓e_i2l, ↓e_i2b, ↓e_i2s, ↓e_l2i, ↓e_land, ↓e_lor, ↓e_lshl, ↓e_lshr, ↓e_lushr, ↓e_lcmp, ↓e_dupi, ↓e_dupr, ↓e_popi, ↓e_dup2, ↓e_goto, ↓e_if, ↓e_icmp, ↓e_tsw, ↓e_lsw, ↓e_getf, ↓e_putf, ↓e_gets, ↓e_iald, ↓e_cald, ↓e_iast, ↓e_aald, ↓e_aast, ↓e_len, ↓e_copy, ↓e_abs, ↓e_max, ↓e_min, ↓e_iret, ↓e_aret, ↓e_vret, ↓e_is0, ↓e_is1, ↓e_is2, ↓e_is3, ↓e_is4, ↓e_iv1, ↓e_iv2, ↓e_iv3, ↓e_iv4, ↓e_iv5, ↓e_iv6, ↓rt_X4_readLevel, ↓reduceIte, Nat.reduceAdd, Nat.reduceEqDiff, ↓zcl0, ↓zclv, List.map_nil, List.sum_nil, List.map_cons, List.sum_cons, zcat, true_and, and_true, Nat.reduceLeDiff, Nat.reduceAdd, eq_self, forall_const, e_ok0, e_okss, e_ok1i, e_ok1r, e_ok1n, zl_0, zl_1, zl_2, zl_5, zl_50, zl_20000, Int.reduceToNat, Int.reduceAdd, Int.reduceMul, Int.reduceSub, Int.reduceNeg, Int.reduceLT, Int.reduceLE, Int.reduceEq, not_false_eq_true, not_true_eq_false, false_implies, true_implies, implies_true, Int.reduceDiv, Int.reduceMod, zr8_zr, zr_zbo, z01_zbo, z01_0, z01_1, zbo_eq0, zup_eq, zup_o, zup_k, ne_eq, ↓ct_levS_rnx, ↓r_rnx, ↓B_rnx, ↓ct_levS_rlv, ↓r_rlv, ↓B_rlv, ↓ct_levS_radd, ↓r_radd, ↓B_radd, ↓ct_levS_uni, ↓r_uni, ↓B_uni, ↓ct_levS_lev, ↓r_lev, ↓B_lev, ↓v_67, ↓g_67_0, ↓g_67_1, ↓g_67_2, ↓p_67_2, ↓g_67_3, ↓p_67_3, ↓g_67_4, ↓p_67_4, zl, l5]
      refine bs_X4_readLevel_5 hX ?_
      simp only [bk_X4_readLevel_0, k_X4_readLevel_0, bk_X4_readLevel_5, k_X4_readLevel_5, bk_X4_readLevel_11, k_X4_readLevel_11, bk_X4_readLevel_19, k_X4_readLevel_19, bk_X4_readLevel_28, k_X4_readLevel_28, bk_X4_readLevel_30, k_X4_readLevel_30, bk_X4_readLevel_34, k_X4_readLevel_34, bk_X4_readLevel_40, k_X4_readLevel_40, bk_X4_readLevel_51, k_X4_readLevel_51, bk_X4_readLevel_75, k_X4_readLevel_75, bk_X4_readLevel_95, k_X4_readLevel_95, ↓e_rk1, ↓e_rk0, ↓e_sk0, ↓e_sks, ↓e_ldi0, ↓e_ldis, ↓e_ldl0, ↓e_ldls, ↓e_lda0, ↓e_ldas, ↓e_ok0, ↓e_okss, ↓e_ok1i, ↓e_ok1r, ↓e_ok1n, ↓e_sti, ↓e_sta, ↓e_1, ↓e_2, ↓e_l1, ↓e_l2, ↓e_li, ↓e_sw0, ↓e_sws, ↓e_ceq, ↓e_cne, ↓e_clt, ↓e_cge, ↓e_cgt, ↓e_cle, ↓e_nil, ↓e_cons, ↓e_iconst, ↓e_bipush, ↓e_sipush, ↓e_ldc, ↓e_ldcw, ↓e_ldc2, ↓e_lconst, ↓e_iloadn, ↓e_iload, ↓e_lloadn, ↓e_lload, ↓e_aloadn, ↓e_aload, ↓e_istoren, ↓e_istore, ↓e_astoren, ↓e_astore, ↓e_add, ↓e_iinc, ↓e_iadd, ↓e_isub, ↓e_imul, ↓e_iand, ↓e_ior, ↓e_ixor, ↓e_ishl, ↓e_iushr, ↓e_idiv, ↓e_irem, ↓e_ineg, ↓e_i2l, ↓e_i2b, ↓e_i2s, ↓e_l2i, ↓e_land, ↓e_lor, ↓e_lshl, ↓e_lshr, ↓e_lushr, ↓e_lcmp, ↓e_dupi, ↓e_dupr, ↓e_popi, ↓e_dup2, ↓e_goto, ↓e_if, ↓e_icmp, ↓e_tsw, ↓e_lsw, ↓e_getf, ↓e_putf, ↓e_gets, ↓e_iald, ↓e_cald, ↓e_iast, ↓e_aald, ↓e_aast, ↓e_len, ↓e_copy, ↓e_abs, ↓e_max, ↓e_min, ↓e_iret, ↓e_aret, ↓e_vret, ↓e_is0, ↓e_is1, ↓e_is2, ↓e_is3, ↓e_is4, ↓e_iv1, ↓e_iv2, ↓e_iv3, ↓e_iv4, ↓e_iv5, ↓e_iv6, ↓rt_X4_readLevel, ↓reduceIte, Nat.reduceAdd, Nat.reduceEqDiff, ↓zcl0, ↓zclv, List.map_nil, List.sum_nil, List.map_cons, List.sum_cons, zcat, true_and, and_true, Nat.reduceLeDiff, Nat.reduceAdd, eq_self, forall_const, e_ok0, e_okss, e_ok1i, e_ok1r, e_ok1n, zl_0, zl_1, zl_2, zl_5, zl_50, zl_20000, Int.reduceToNat, Int.reduceAdd, Int.reduceMul, Int.reduceSub, Int.reduceNeg, Int.reduceLT, Int.reduceLE, Int.reduceEq, not_false_eq_true, not_true_eq_false, false_implies, true_implies, implies_true, Int.reduceDiv, Int.reduceMod, zr8_zr, zr_zbo, z01_zbo, z01_0, z01_1, zbo_eq0, zup_eq, zup_o, zup_k, ne_eq, ↓ct_levS_rnx, ↓r_rnx, ↓B_rnx, ↓ct_levS_rlv, ↓r_rlv, ↓B_rlv, ↓ct_levS_radd, ↓r_radd, ↓B_radd, ↓ct_levS_uni, ↓r_uni, ↓B_uni, ↓ct_levS_lev, ↓r_lev, ↓B_lev, ↓v_67, ↓g_67_0, ↓g_67_1, ↓g_67_2, ↓p_67_2, ↓g_67_3, ↓p_67_3, ↓g_67_4, ↓p_67_4, ↓rdQ]
      refine ⟨r9, ⟨hq, hr9, by omega⟩, T, n, u, s, ho, fun M2 k1 k2 k3 => ?_⟩
      exact hC M2 k1 k2 k3
    | j + 1, hl, hj, hi, hC =>
      have l5 : (l < 5) = True := eq_true (by omega)
      obtain ⟨f, hf⟩ : ∃ f, pll T n u r9 j = f := ⟨_, rfl⟩
      obtain ⟨mo, hmo⟩ : ∃ mo : Nat, (if j = 2 then 1 else 50) = mo := ⟨_, rfl⟩
      have mr : mo ≤ 50 := by rw [← hmo]; split <;> omega
      have zm : zr (mo : Int) = mo := zr_of (by omega) (by omega)
      have ep : ∀ s0, pll T n u r9 (j + 1) s0 = plp T n f (4 - j) mo (f s0) := fun s0 => by rw [← hf, ← hmo]; rfl
      have n5 := ho.1.2.1
      have z0 := ho.2.2.2.2.1
      have lp : ∀ (k i : Nat) (M' : ZMm) (s' : PS) (x5 : Option ZV), k + i = mo → Rd T n u M' s' → Fdq M M' → M' 68 1 + s.1 ≤ M 68 1 + s'.1 → pll T n u r9 (j + 1) s = plp T n f (4 - j) k s' → X 34 [some (.inr (.inr (.inl 67))), some (.inl l), some (.inl q), some (.inl ((mo : Int))), some (.inl ((i : Int))), x5] [] (zG, M') (0, 0) := by
        intro k
        induction k with
        | zero =>
          intro i M' s' x5 hk h1 h2 h3 h4
          have ei : i = mo := by omega
          subst ei
          have li : ((i : Int) < i) = False := eq_false (by omega)
          refine bs_X4_readLevel_34 hX ?_
          simp only [bk_X4_readLevel_0, k_X4_readLevel_0, bk_X4_readLevel_5, k_X4_readLevel_5, bk_X4_readLevel_11, k_X4_readLevel_11, bk_X4_readLevel_19, k_X4_readLevel_19, bk_X4_readLevel_28, k_X4_readLevel_28, bk_X4_readLevel_30, k_X4_readLevel_30, bk_X4_readLevel_34, k_X4_readLevel_34, bk_X4_readLevel_40, k_X4_readLevel_40, bk_X4_readLevel_51, k_X4_readLevel_51, bk_X4_readLevel_75, k_X4_readLevel_75, bk_X4_readLevel_95, k_X4_readLevel_95, ↓e_rk1, ↓e_rk0, ↓e_sk0, ↓e_sks, ↓e_ldi0, ↓e_ldis, ↓e_ldl0, ↓e_ldls, ↓e_lda0, ↓e_ldas, ↓e_ok0, ↓e_okss, ↓e_ok1i, ↓e_ok1r, ↓e_ok1n, ↓e_sti, ↓e_sta, ↓e_1, ↓e_2, ↓e_l1, ↓e_l2, ↓e_li, ↓e_sw0, ↓e_sws, ↓e_ceq, ↓e_cne, ↓e_clt, ↓e_cge, ↓e_cgt, ↓e_cle, ↓e_nil, ↓e_cons, ↓e_iconst, ↓e_bipush, ↓e_sipush, ↓e_ldc, ↓e_ldcw, ↓e_ldc2, ↓e_lconst, ↓e_iloadn, ↓e_iload, ↓e_lloadn, ↓e_lload, ↓e_aloadn, ↓e_aload, ↓e_istoren, ↓e_istore, ↓e_astoren, ↓e_astore, ↓e_add, ↓e_iinc, ↓e_iadd, ↓e_isub, ↓e_imul, ↓e_iand, ↓e_ior, ↓e_ixor, ↓e_ishl, ↓e_iushr, ↓e_idiv, ↓e_irem, ↓e_ineg, ↓e_i2l, ↓e_i2b, ↓e_i2s, ↓e_l2i, ↓e_land, ↓e_lor, ↓e_lshl, ↓e_lshr, ↓e_lushr, ↓e_lcmp, ↓e_dupi, ↓e_dupr, ↓e_popi, ↓e_dup2, ↓e_goto, ↓e_if, ↓e_icmp, ↓e_tsw, ↓e_lsw, ↓e_getf, ↓e_putf, ↓e_gets, ↓e_iald, ↓e_cald, ↓e_iast, ↓e_aald, ↓e_aast, ↓e_len, ↓e_copy, ↓e_abs, ↓e_max, ↓e_min, ↓e_iret, ↓e_aret, ↓e_vret, ↓e_is0, ↓e_is1, ↓e_is2, ↓e_is3, ↓e_is4, ↓e_iv1, ↓e_iv2, ↓e_iv3, ↓e_iv4, ↓e_iv5, ↓e_iv6, ↓rt_X4_readLevel, ↓reduceIte, Nat.reduceAdd, Nat.reduceEqDiff, ↓zcl0, ↓zclv, List.map_nil, List.sum_nil, List.map_cons, List.sum_cons, zcat, true_and, and_true, Nat.reduceLeDiff, Nat.reduceAdd, eq_self, forall_const, e_ok0, e_okss, e_ok1i, e_ok1r, e_ok1n, zl_0, zl_1, zl_2, zl_5, zl_50, zl_20000, Int.reduceToNat, Int.reduceAdd, Int.reduceMul, Int.reduceSub, Int.reduceNeg, Int.reduceLT, Int.reduceLE, Int.reduceEq, not_false_eq_true, not_true_eq_false, false_implies, true_implies, implies_true, Int.reduceDiv, Int.reduceMod, zr8_zr, zr_zbo, z01_zbo, z01_0, z01_1, zbo_eq0, zup_eq, zup_o, zup_k, ne_eq, ↓ct_levS_rnx, ↓r_rnx, ↓B_rnx, ↓ct_levS_rlv, ↓r_rlv, ↓B_rlv, ↓ct_levS_radd, ↓r_radd, ↓B_radd, ↓ct_levS_uni, ↓r_uni, ↓B_uni, ↓ct_levS_lev, ↓r_lev, ↓B_lev, ↓v_67, ↓g_67_0, ↓g_67_1, ↓g_67_2, ↓p_67_2, ↓g_67_3, ↓p_67_3, ↓g_67_4, ↓p_67_4, zm, li]
          refine bs_X4_readLevel_95 hX ?_
          simp only [bk_X4_readLevel_0, k_X4_readLevel_0, bk_X4_readLevel_5, k_X4_readLevel_5, bk_X4_readLevel_11, k_X4_readLevel_11, bk_X4_readLevel_19, k_X4_readLevel_19, bk_X4_readLevel_28, k_X4_readLevel_28, bk_X4_readLevel_30, k_X4_readLevel_30, bk_X4_readLevel_34, k_X4_readLevel_34, bk_X4_readLevel_40, k_X4_readLevel_40, bk_X4_readLevel_51, k_X4_readLevel_51, bk_X4_readLevel_75, k_X4_readLevel_75, bk_X4_readLevel_95, k_X4_readLevel_95, ↓e_rk1, ↓e_rk0, ↓e_sk0, ↓e_sks, ↓e_ldi0, ↓e_ldis, ↓e_ldl0, ↓e_ldls, ↓e_lda0, ↓e_ldas, ↓e_ok0, ↓e_okss, ↓e_ok1i, ↓e_ok1r, ↓e_ok1n, ↓e_sti, ↓e_sta, ↓e_1, ↓e_2, ↓e_l1, ↓e_l2, ↓e_li, ↓e_sw0, ↓e_sws, ↓e_ceq, ↓e_cne, ↓e_clt, ↓e_cge, ↓e_cgt, ↓e_cle, ↓e_nil, ↓e_cons, ↓e_iconst, ↓e_bipush, ↓e_sipush, ↓e_ldc, ↓e_ldcw, ↓e_ldc2, ↓e_lconst, ↓e_iloadn, ↓e_iload, ↓e_lloadn, ↓e_lload, ↓e_aloadn, ↓e_aload, ↓e_istoren, ↓e_istore, ↓e_astoren, ↓e_astore, ↓e_add, ↓e_iinc, ↓e_iadd, ↓e_isub, ↓e_imul, ↓e_iand, ↓e_ior, ↓e_ixor, ↓e_ishl, ↓e_iushr, ↓e_idiv, ↓e_irem, ↓e_ineg, ↓e_i2l, ↓e_i2b, ↓e_i2s, ↓e_l2i, ↓e_land, ↓e_lor, ↓e_lshl, ↓e_lshr, ↓e_lushr, ↓e_lcmp, ↓e_dupi, ↓e_dupr, ↓e_popi, ↓e_dup2, ↓e_goto, ↓e_if, ↓e_icmp, ↓e_tsw, ↓e_lsw, ↓e_getf, ↓e_putf, ↓e_gets, ↓e_iald, ↓e_cald, ↓e_iast, ↓e_aald, ↓e_aast, ↓e_len, ↓e_copy, ↓e_abs, ↓e_max, ↓e_min, ↓e_iret, ↓e_aret, ↓e_vret, ↓e_is0, ↓e_is1, ↓e_is2, ↓e_is3, ↓e_is4, ↓e_iv1, ↓e_iv2, ↓e_iv3, ↓e_iv4, ↓e_iv5, ↓e_iv6, ↓rt_X4_readLevel, ↓reduceIte, Nat.reduceAdd, Nat.reduceEqDiff, ↓zcl0, ↓zclv, List.map_nil, List.sum_nil, List.map_cons, List.sum_cons, zcat, true_and, and_true, Nat.reduceLeDiff, Nat.reduceAdd, eq_self, forall_const, e_ok0, e_okss, e_ok1i, e_ok1r, e_ok1n, zl_0, zl_1, zl_2, zl_5, zl_50, zl_20000, Int.reduceToNat, Int.reduceAdd, Int.reduceMul, Int.reduceSub, Int.reduceNeg, Int.reduceLT, Int.reduceLE, Int.reduceEq, not_false_eq_true, not_true_eq_false, false_implies, true_implies, implies_true, Int.reduceDiv, Int.reduceMod, zr8_zr, zr_zbo, z01_zbo, z01_0, z01_1, zbo_eq0, zup_eq, zup_o, zup_k, ne_eq, ↓ct_levS_rnx, ↓r_rnx, ↓B_rnx, ↓ct_levS_rlv, ↓r_rlv, ↓B_rlv, ↓ct_levS_radd, ↓r_radd, ↓B_radd, ↓ct_levS_uni, ↓r_uni, ↓B_uni, ↓ct_levS_lev, ↓r_lev, ↓B_lev, ↓v_67, ↓g_67_0, ↓g_67_1, ↓g_67_2, ↓p_67_2, ↓g_67_3, ↓p_67_3, ↓g_67_4, ↓p_67_4]
          have e4 : pll T n u r9 (j + 1) s = s' := h4
          exact hC M' (by show Rd T n u M' (pll T n u r9 (j + 1) s); rw [e4]; exact h1) h2 (by show _ ≤ M 68 1 + ((pll T n u r9 (j + 1) s).1 : Int); rw [e4]; exact h3)
        | succ k ih =>
          intro i M' s' x5 hk h1 h2 h3 h4
          have zi : zr (i : Int) = i := zr_of (by omega) (by omega)
          have li : ((i : Int) < mo) = True := eq_true (by omega)
          have hr := Rd_rg h1
          have lr := lvj_rg (hre T n s')
          have zj : zr (lvj (hre T n s')) = lvj (hre T n s') := zr_of (by omega) (by omega)
          have iff9 : lvj (hre T n s') = l ↔ lvl (hre T n s') = 4 - j := by
            have := lvj_lvl (c := hre T n s') (l := 4 - j) (by omega)
            rw [show l = ((4 - j : Nat) : Int) by omega]
            exact this
          have J95 : ¬ lvj (hre T n s') = l → X 95 [some (.inr (.inr (.inl 67))), some (.inl l), some (.inl q), some (.inl ((mo : Int))), some (.inl ((i : Int))), x5] [] (zG, M') (0, 0) := by
            intro e
            have e4 : pll T n u r9 (j + 1) s = s' := by rw [h4]; exact if_neg (fun h => e (iff9.mpr h))
            refine bs_X4_readLevel_95 hX ?_
            simp only [bk_X4_readLevel_0, k_X4_readLevel_0, bk_X4_readLevel_5, k_X4_readLevel_5, bk_X4_readLevel_11, k_X4_readLevel_11, bk_X4_readLevel_19, k_X4_readLevel_19, bk_X4_readLevel_28, k_X4_readLevel_28, bk_X4_readLevel_30, k_X4_readLevel_30, bk_X4_readLevel_34, k_X4_readLevel_34, bk_X4_readLevel_40, k_X4_readLevel_40, bk_X4_readLevel_51, k_X4_readLevel_51, bk_X4_readLevel_75, k_X4_readLevel_75, bk_X4_readLevel_95, k_X4_readLevel_95, ↓e_rk1, ↓e_rk0, ↓e_sk0, ↓e_sks, ↓e_ldi0, ↓e_ldis, ↓e_ldl0, ↓e_ldls, ↓e_lda0, ↓e_ldas, ↓e_ok0, ↓e_okss, ↓e_ok1i, ↓e_ok1r, ↓e_ok1n, ↓e_sti, ↓e_sta, ↓e_1, ↓e_2, ↓e_l1, ↓e_l2, ↓e_li, ↓e_sw0, ↓e_sws, ↓e_ceq, ↓e_cne, ↓e_clt, ↓e_cge, ↓e_cgt, ↓e_cle, ↓e_nil, ↓e_cons, ↓e_iconst, ↓e_bipush, ↓e_sipush, ↓e_ldc, ↓e_ldcw, ↓e_ldc2, ↓e_lconst, ↓e_iloadn, ↓e_iload, ↓e_lloadn, ↓e_lload, ↓e_aloadn, ↓e_aload, ↓e_istoren, ↓e_istore, ↓e_astoren, ↓e_astore, ↓e_add, ↓e_iinc, ↓e_iadd, ↓e_isub, ↓e_imul, ↓e_iand, ↓e_ior, ↓e_ixor, ↓e_ishl, ↓e_iushr, ↓e_idiv, ↓e_irem, ↓e_ineg, ↓e_i2l, ↓e_i2b, ↓e_i2s, ↓e_l2i, ↓e_land, ↓e_lor, ↓e_lshl, ↓e_lshr, ↓e_lushr, ↓e_lcmp, ↓e_dupi, ↓e_dupr, ↓e_popi, ↓e_dup2, ↓e_goto, ↓e_if, ↓e_icmp, ↓e_tsw, ↓e_lsw, ↓e_getf, ↓e_putf, ↓e_gets, ↓e_iald, ↓e_cald, ↓e_iast, ↓e_aald, ↓e_aast, ↓e_len, ↓e_copy, ↓e_abs, ↓e_max, ↓e_min, ↓e_iret, ↓e_aret, ↓e_vret, ↓e_is0, ↓e_is1, ↓e_is2, ↓e_is3, ↓e_is4, ↓e_iv1, ↓e_iv2, ↓e_iv3, ↓e_iv4, ↓e_iv5, ↓e_iv6, ↓rt_X4_readLevel, ↓reduceIte, Nat.reduceAdd, Nat.reduceEqDiff, ↓zcl0, ↓zclv, List.map_nil, List.sum_nil, List.map_cons, List.sum_cons, zcat, true_and, and_true, Nat.reduceLeDiff, Nat.reduceAdd, eq_self, forall_const, e_ok0, e_okss, e_ok1i, e_ok1r, e_ok1n, zl_0, zl_1, zl_2, zl_5, zl_50, zl_20000, Int.reduceToNat, Int.reduceAdd, Int.reduceMul, Int.reduceSub, Int.reduceNeg, Int.reduceLT, Int.reduceLE, Int.reduceEq, not_false_eq_true, not_true_eq_false, false_implies, true_implies, implies_true, Int.reduceDiv, Int.reduceMod, zr8_zr, zr_zbo, z01_zbo, z01_0, z01_1, zbo_eq0, zup_eq, zup_o, zup_k, ne_eq, ↓ct_levS_rnx, ↓r_rnx, ↓B_rnx, ↓ct_levS_rlv, ↓r_rlv, ↓B_rlv, ↓ct_levS_radd, ↓r_radd, ↓B_radd, ↓ct_levS_uni, ↓r_uni, ↓B_uni, ↓ct_levS_lev, ↓r_lev, ↓B_lev, ↓v_67, ↓g_67_0, ↓g_67_1, ↓g_67_2, ↓p_67_2, ↓g_67_3, ↓p_67_3, ↓g_67_4, ↓p_67_4]
            exact hC M' (by show Rd T n u M' (pll T n u r9 (j + 1) s); rw [e4]; exact h1) h2 (by show _ ≤ M 68 1 + ((pll T n u r9 (j + 1) s).1 : Int); rw [e4]; exact h3)
          have J51 : lvj (hre T n s') = l → X 51 [some (.inr (.inr (.inl 67))), some (.inl l), some (.inl q), some (.inl ((mo : Int))), some (.inl ((i : Int))), x5] [] (zG, M') (0, 0) := by
            intro e
            have e4 : pll T n u r9 (j + 1) s = plp T n f (4 - j) k (lyy (20000 + hre T n s') (f (adv s'))) := by rw [h4]; exact if_pos (iff9.mp e)
            have nn : ¬ hre T n s' = -1 := fun h => by
              rw [h] at e
              have : lvj (-1) = -1 := by decide
              omega
            have hn := hre_nn (T := T) (n := n) (s := s') nn
            obtain ⟨g1, g2⟩ := Rd_adv h1 hn.1
            have a9 : (adv s').1 = s'.1 + 1 := rfl
            have z1 := h1.2.2.2.2.1
            refine bs_X4_readLevel_51 hX ?_
            simp only [bk_X4_readLevel_0, k_X4_readLevel_0, bk_X4_readLevel_5, k_X4_readLevel_5, bk_X4_readLevel_11, k_X4_readLevel_11, bk_X4_readLevel_19, k_X4_readLevel_19, bk_X4_readLevel_28, k_X4_readLevel_28, bk_X4_readLevel_30, k_X4_readLevel_30, bk_X4_readLevel_34, k_X4_readLevel_34, bk_X4_readLevel_40, k_X4_readLevel_40, bk_X4_readLevel_51, k_X4_readLevel_51, bk_X4_readLevel_75, k_X4_readLevel_75, bk_X4_readLevel_95, k_X4_readLevel_95, ↓e_rk1, ↓e_rk0, ↓e_sk0, ↓e_sks, ↓e_ldi0, ↓e_ldis, ↓e_ldl0, ↓e_ldls, ↓e_lda0, ↓e_ldas, ↓e_ok0, ↓e_okss, ↓e_ok1i, ↓e_ok1r, ↓e_ok1n, ↓e_sti, ↓e_sta, ↓e_1, ↓e_2, ↓e_l1, ↓e_l2, ↓e_li, ↓e_sw0, ↓e_sws, ↓e_ceq, ↓e_cne, ↓e_clt, ↓e_cge, ↓e_cgt, ↓e_cle, ↓e_nil, ↓e_cons, ↓e_iconst, ↓e_bipush, ↓e_sipush, ↓e_ldc, ↓e_ldcw, ↓e_ldc2, ↓e_lconst, ↓e_iloadn, ↓e_iload, ↓e_lloadn, ↓e_lload, ↓e_aloadn, ↓e_aload, ↓e_istoren, ↓e_istore, ↓e_astoren, ↓e_astore, ↓e_add, ↓e_iinc, ↓e_iadd, ↓e_isub, ↓e_imul, ↓e_iand, ↓e_ior, ↓e_ixor, ↓e_ishl, ↓e_iushr, ↓e_idiv, ↓e_irem, ↓e_ineg, ↓e_i2l, ↓e_i2b, ↓e_i2s, ↓e_l2i, ↓e_land, ↓e_lor, ↓e_lshl, ↓e_lshr, ↓e_lushr, ↓e_lcmp, ↓e_dupi, ↓e_dupr, ↓e_popi, ↓e_dup2, ↓e_goto, ↓e_if, ↓e_icmp, ↓e_tsw, ↓e_lsw, ↓e_getf, ↓e_putf, ↓e_gets, ↓e_iald, ↓e_cald, ↓e_iast, ↓e_aald, ↓e_aast, ↓e_len, ↓e_copy, ↓e_abs, ↓e_max, ↓e_min, ↓e_iret, ↓e_aret, ↓e_vret, ↓e_is0, ↓e_is1, ↓e_is2, ↓e_is3, ↓e_is4, ↓e_iv1, ↓e_iv2, ↓e_iv3, ↓e_iv4, ↓e_iv5, ↓e_iv6, ↓rt_X4_readLevel, ↓reduceIte, Nat.reduceAdd, Nat.reduceEqDiff, ↓zcl0, ↓zclv, List.map_nil, List.sum_nil, List.map_cons, List.sum_cons, zcat, true_and, and_true, Nat.reduceLeDiff, Nat.reduceAdd, eq_self, forall_const, e_ok0, e_okss, e_ok1i, e_ok1r, e_ok1n, zl_0, zl_1, zl_2, zl_5, zl_50, zl_20000, Int.reduceToNat, Int.reduceAdd, Int.reduceMul, Int.reduceSub, Int.reduceNeg, Int.reduceLT, Int.reduceLE, Int.reduceEq, not_false_eq_true, not_true_eq_false, false_implies, true_implies, implies_true, Int.reduceDiv, Int.reduceMod, zr8_zr, zr_zbo, z01_zbo, z01_0, z01_1, zbo_eq0, zup_eq, zup_o, zup_k, ne_eq, ↓ct_levS_rnx, ↓r_rnx, ↓B_rnx, ↓ct_levS_rlv, ↓r_rlv, ↓B_rlv, ↓ct_levS_radd, ↓r_radd, ↓B_radd, ↓ct_levS_uni, ↓r_uni, ↓B_uni, ↓ct_levS_lev, ↓r_lev, ↓B_lev, ↓v_67, ↓g_67_0, ↓g_67_1, ↓g_67_2, ↓p_67_2, ↓g_67_3, ↓p_67_3, ↓g_67_4, ↓p_67_4, ↓rdQ]
            refine ⟨T, n, u, s', h1, r9, j, ⟨hq, hr9, by omega, by omega, by omega⟩, T, n, u, adv s', g1, fun M2 k1 k2 k3 => ?_⟩
            rw [hf] at k1 k3
            rw [a9] at k3
            obtain ⟨y1, y2⟩ := Rd_lay (20000 + hre T n s') k1 (by omega)
            have o1 := k1.2.2.2.1.1
            have z2 := k1.2.2.2.2.1
            refine bs_X4_readLevel_75 hX ?_
            simp only [bk_X4_readLevel_0, k_X4_readLevel_0, bk_X4_readLevel_5, k_X4_readLevel_5, bk_X4_readLevel_11, k_X4_readLevel_11, bk_X4_readLevel_19, k_X4_readLevel_19, bk_X4_readLevel_28, k_X4_readLevel_28, bk_X4_readLevel_30, k_X4_readLevel_30, bk_X4_readLevel_34, k_X4_readLevel_34, bk_X4_readLevel_40, k_X4_readLevel_40, bk_X4_readLevel_51, k_X4_readLevel_51, bk_X4_readLevel_75, k_X4_readLevel_75, bk_X4_readLevel_95, k_X4_readLevel_95, ↓e_rk1, ↓e_rk0, ↓e_sk0, ↓e_sks, ↓e_ldi0, ↓e_ldis, ↓e_ldl0, ↓e_ldls, ↓e_lda0, ↓e_ldas, ↓e_ok0, ↓e_okss, ↓e_ok1i, ↓e_ok1r, ↓e_ok1n, ↓e_sti, ↓e_sta, ↓e_1, ↓e_2, ↓e_l1, ↓e_l2, ↓e_li, ↓e_sw0, ↓e_sws, ↓e_ceq, ↓e_cne, ↓e_clt, ↓e_cge, ↓e_cgt, ↓e_cle, ↓e_nil, ↓e_cons, ↓e_iconst, ↓e_bipush, ↓e_sipush, ↓e_ldc, ↓e_ldcw, ↓e_ldc2, ↓e_lconst, ↓e_iloadn, ↓e_iload, ↓e_lloadn, ↓e_lload, ↓e_aloadn, ↓e_aload, ↓e_istoren, ↓e_istore, ↓e_astoren, ↓e_astore, ↓e_add, ↓e_iinc, ↓e_iadd, ↓e_isub, ↓e_imul, ↓e_iand, ↓e_ior, ↓e_ixor, ↓e_ishl, ↓e_iushr, ↓e_idiv, ↓e_irem, ↓e_ineg, ↓e_i2l, ↓e_i2b, ↓e_i2s, ↓e_l2i, ↓e_land, ↓e_lor, ↓e_lshl, ↓e_lshr, ↓e_lushr, ↓e_lcmp, ↓e_dupi, ↓e_dupr, ↓e_popi, ↓e_dup2, ↓e_goto, ↓e_if, ↓e_icmp, ↓e_tsw, ↓e_lsw, ↓e_getf, ↓e_putf, ↓e_gets, ↓e_iald, ↓e_cald, ↓e_iast, ↓e_aald, ↓e_aast, ↓e_len, ↓e_copy, ↓e_abs, ↓e_max, ↓e_min, ↓e_iret, ↓e_aret, ↓e_vret, ↓e_is0, ↓e_is1, ↓e_is2, ↓e_is3, ↓e_is4, ↓e_iv1, ↓e_iv2, ↓e_iv3, ↓e_iv4, ↓e_iv5, ↓e_iv6, ↓rt_X4_readLevel, ↓reduceIte, Nat.reduceAdd, Nat.reduceEqDiff, ↓zcl0, ↓zclv, List.map_nil, List.sum_nil, List.map_cons, List.sum_cons, zcat, true_and, and_true, Nat.reduceLeDiff, Nat.reduceAdd, eq_self, forall_const, e_ok0, e_okss, e_ok1i, e_ok1r, e_ok1n, zl_0, zl_1, zl_2, zl_5, zl_50, zl_20000, Int.reduceToNat, Int.reduceAdd, Int.reduceMul, Int.reduceSub, Int.reduceNeg, Int.reduceLT, Int.reduceLE, Int.reduceEq, not_false_eq_true, not_true_eq_false, false_implies, true_implies, implies_true, Int.reduceDiv, Int.reduceMod, zr8_zr, zr_zbo, z01_zbo, z01_0, z01_1, zbo_eq0, zup_eq, zup_o, zup_k, ne_eq, ↓ct_levS_rnx, ↓r_rnx, ↓B_rnx, ↓ct_levS_rlv, ↓r_rlv, ↓B_rlv, ↓ct_levS_radd, ↓r_radd, ↓B_radd, ↓ct_levS_uni, ↓r_uni, ↓B_uni, ↓ct_levS_lev, ↓r_lev, ↓B_lev, ↓v_67, ↓g_67_0, ↓g_67_1, ↓g_67_2, ↓p_67_2, ↓g_67_3, ↓p_67_3, ↓g_67_4, ↓p_67_4, ↓v_68, ↓g_68_0, ↓l_69, ↓s_69, ↓n_69, ↓g_68_1, ↓p_68_1]
            refine ⟨50, r68, by omega, by omega, fun _ => ?_, fun h => absurd h (by omega)⟩
            refine ih (i + 1) _ _ _ (by omega) y1 (h2.trans (g2.trans (k2.trans y2))) ?_ e4
            rw [zup_eq, lyy_1.1]
            omega
          refine bs_X4_readLevel_34 hX ?_
          simp only [bk_X4_readLevel_0, k_X4_readLevel_0, bk_X4_readLevel_5, k_X4_readLevel_5, bk_X4_readLevel_11, k_X4_readLevel_11, bk_X4_readLevel_19, k_X4_readLevel_19, bk_X4_readLevel_28, k_X4_readLevel_28, bk_X4_readLevel_30, k_X4_readLevel_30, bk_X4_readLevel_34, k_X4_readLevel_34, bk_X4_readLevel_40, k_X4_readLevel_40, bk_X4_readLevel_51, k_X4_readLevel_51, bk_X4_readLevel_75, k_X4_readLevel_75, bk_X4_readLevel_95, k_X4_readLevel_95, ↓e_rk1, ↓e_rk0, ↓e_sk0, ↓e_sks, ↓e_ldi0, ↓e_ldis, ↓e_ldl0, ↓e_ldls, ↓e_lda0, ↓e_ldas, ↓e_ok0, ↓e_okss, ↓e_ok1i, ↓e_ok1r, ↓e_ok1n, ↓e_sti, ↓e_sta, ↓e_1, ↓e_2, ↓e_l1, ↓e_l2, ↓e_li, ↓e_sw0, ↓e_sws, ↓e_ceq, ↓e_cne, ↓e_clt, ↓e_cge, ↓e_cgt, ↓e_cle, ↓e_nil, ↓e_cons, ↓e_iconst, ↓e_bipush, ↓e_sipush, ↓e_ldc, ↓e_ldcw, ↓e_ldc2, ↓e_lconst, ↓e_iloadn, ↓e_iload, ↓e_lloadn, ↓e_lload, ↓e_aloadn, ↓e_aload, ↓e_istoren, ↓e_istore, ↓e_astoren, ↓e_astore, ↓e_add, ↓e_iinc, ↓e_iadd, ↓e_isub, ↓e_imul, ↓e_iand, ↓e_ior, ↓e_ixor, ↓e_ishl, ↓e_iushr, ↓e_idiv, ↓e_irem, ↓e_ineg, ↓e_i2l, ↓e_i2b, ↓e_i2s, ↓e_l2i, ↓e_land, ↓e_lor, ↓e_lshl, ↓e_lshr, ↓e_lushr, ↓e_lcmp, ↓e_dupi, ↓e_dupr, ↓e_popi, ↓e_dup2, ↓e_goto, ↓e_if, ↓e_icmp, ↓e_tsw, ↓e_lsw, ↓e_getf, ↓e_putf, ↓e_gets, ↓e_iald, ↓e_cald, ↓e_iast, ↓e_aald, ↓e_aast, ↓e_len, ↓e_copy, ↓e_abs, ↓e_max, ↓e_min, ↓e_iret, ↓e_aret, ↓e_vret, ↓e_is0, ↓e_is1, ↓e_is2, ↓e_is3, ↓e_is4, ↓e_iv1, ↓e_iv2, ↓e_iv3, ↓e_iv4, ↓e_iv5, ↓e_iv6, ↓rt_X4_readLevel, ↓reduceIte, Nat.reduceAdd, Nat.reduceEqDiff, ↓zcl0, ↓zclv, List.map_nil, List.sum_nil, List.map_cons, List.sum_cons, zcat, true_and, and_true, Nat.reduceLeDiff, Nat.reduceAdd, eq_self, forall_const, e_ok0, e_okss, e_ok1i, e_ok1r, e_ok1n, zl_0, zl_1, zl_2, zl_5, zl_50, zl_20000, Int.reduceToNat, Int.reduceAdd, Int.reduceMul, Int.reduceSub, Int.reduceNeg, Int.reduceLT, Int.reduceLE, Int.reduceEq, not_false_eq_true, not_true_eq_false, false_implies, true_implies, implies_true, Int.reduceDiv, Int.reduceMod, zr8_zr, zr_zbo, z01_zbo, z01_0, z01_1, zbo_eq0, zup_eq, zup_o, zup_k, ne_eq, ↓ct_levS_rnx, ↓r_rnx, ↓B_rnx, ↓ct_levS_rlv, ↓r_rlv, ↓B_rlv, ↓ct_levS_radd, ↓r_radd, ↓B_radd, ↓ct_levS_uni, ↓r_uni, ↓B_uni, ↓ct_levS_lev, ↓r_lev, ↓B_lev, ↓v_67, ↓g_67_0, ↓g_67_1, ↓g_67_2, ↓p_67_2, ↓g_67_3, ↓p_67_3, ↓g_67_4, ↓p_67_4, zm, zi, li]
          refine bs_X4_readLevel_40 hX ?_
          simp only [bk_X4_readLevel_0, k_X4_readLevel_0, bk_X4_readLevel_5, k_X4_readLevel_5, bk_X4_readLevel_11, k_X4_readLevel_11, bk_X4_readLevel_19, k_X4_readLevel_19, bk_X4_readLevel_28, k_X4_readLevel_28, bk_X4_readLevel_30, k_X4_readLevel_30, bk_X4_readLevel_34, k_X4_readLevel_34, bk_X4_readLevel_40, k_X4_readLevel_40, bk_X4_readLevel_51, k_X4_readLevel_51, bk_X4_readLevel_75, k_X4_readLevel_75, bk_X4_readLevel_95, k_X4_readLevel_95, ↓e_rk1, ↓e_rk0, ↓e_sk0, ↓e_sks, ↓e_ldi0, ↓e_ldis, ↓e_ldl0, ↓e_ldls, ↓e_lda0, ↓e_ldas, ↓e_ok0, ↓e_okss, ↓e_ok1i, ↓e_ok1r, ↓e_ok1n, ↓e_sti, ↓e_sta, ↓e_1, ↓e_2, ↓e_l1, ↓e_l2, ↓e_li, ↓e_sw0, ↓e_sws, ↓e_ceq, ↓e_cne, ↓e_clt, ↓e_cge, ↓e_cgt, ↓e_cle, ↓e_nil, ↓e_cons, ↓e_iconst, ↓e_bipush, ↓e_sipush, ↓e_ldc, ↓e_ldcw, ↓e_ldc2, ↓e_lconst, ↓e_iloadn, ↓e_iload, ↓e_lloadn, ↓e_lload, ↓e_aloadn, ↓e_aload, ↓e_istoren, ↓e_istore, ↓e_astoren, ↓e_astore, ↓e_add, ↓e_iinc, ↓e_iadd, ↓e_isub, ↓e_imul, ↓e_iand, ↓e_ior, ↓e_ixor, ↓e_ishl, ↓e_iushr, ↓e_idiv, ↓e_irem, ↓e_ineg, ↓e_i2l, ↓e_i2b, ↓e_i2s, ↓e_l2i, ↓e_land, ↓e_lor, ↓e_lshl, ↓e_lshr, ↓e_lushr, ↓e_lcmp, ↓e_dupi, ↓e_dupr, ↓e_popi, ↓e_dup2, ↓e_goto, ↓e_if, ↓e_icmp, ↓e_tsw, ↓e_lsw, ↓e_getf, ↓e_putf, ↓e_gets, ↓e_iald, ↓e_cald, ↓e_iast, ↓e_aald, ↓e_aast, ↓e_len, ↓e_copy, ↓e_abs, ↓e_max, ↓e_min, ↓e_iret, ↓e_aret, ↓e_vret, ↓e_is0, ↓e_is1, ↓e_is2, ↓e_is3, ↓e_is4, ↓e_iv1, ↓e_iv2, ↓e_iv3, ↓e_iv4, ↓e_iv5, ↓e_iv6, ↓rt_X4_readLevel, ↓reduceIte, Nat.reduceAdd, Nat.reduceEqDiff, ↓zcl0, ↓zclv, List.map_nil, List.sum_nil, List.map_cons, List.sum_cons, zcat, true_and, and_true, Nat.reduceLeDiff, Nat.reduceAdd, eq_self, forall_const, e_ok0, e_okss, e_ok1i, e_ok1r, e_ok1n, zl_0, zl_1, zl_2, zl_5, zl_50, zl_20000, Int.reduceToNat, Int.reduceAdd, Int.reduceMul, Int.reduceSub, Int.reduceNeg, Int.reduceLT, Int.reduceLE, Int.reduceEq, not_false_eq_true, not_true_eq_false, false_implies, true_implies, implies_true, Int.reduceDiv, Int.reduceMod, zr8_zr, zr_zbo, z01_zbo, z01_0, z01_1, zbo_eq0, zup_eq, zup_o, zup_k, ne_eq, ↓ct_levS_rnx, ↓r_rnx, ↓B_rnx, ↓ct_levS_rlv, ↓r_rlv, ↓B_rlv, ↓ct_levS_radd, ↓r_radd, ↓B_radd, ↓ct_levS_uni, ↓r_uni, ↓B_uni, ↓ct_levS_lev, ↓r_lev, ↓B_lev, ↓v_67, ↓g_67_0, ↓g_67_1, ↓g_67_2, ↓p_67_2, ↓g_67_3, ↓p_67_3, ↓g_67_4, ↓p_67_4]
          refine ⟨T, n, u, s', h1, hr, ?_⟩
          rw [zj, zl]
          refine ⟨fun e => ?_, fun e => ?_⟩
          · first | exact J51 e | exact J95 e
          · first | exact J51 e | exact J95 e
      simp only [bk_X4_readLevel_0, k_X4_readLevel_0, bk_X4_readLevel_5, k_X4_readLevel_5, bk_X4_readLevel_11, k_X4_readLevel_11, bk_X4_readLevel_19, k_X4_readLevel_19, bk_X4_readLevel_28, k_X4_readLevel_28, bk_X4_readLevel_30, k_X4_readLevel_30, bk_X4_readLevel_34, k_X4_readLevel_34, bk_X4_readLevel_40, k_X4_readLevel_40, bk_X4_readLevel_51, k_X4_readLevel_51, bk_X4_readLevel_75, k_X4_readLevel_75, bk_X4_readLevel_95, k_X4_readLevel_95, ↓e_rk1, ↓e_rk0, ↓e_sk0, ↓e_sks, ↓e_ldi0, ↓e_ldis, ↓e_ldl0, ↓e_ldls, ↓e_lda0, ↓e_ldas, ↓e_ok0, ↓e_okss, ↓e_ok1i, ↓e_ok1r, ↓e_ok1n, ↓e_sti, ↓e_sta, ↓e_1, ↓e_2, ↓e_l1, ↓e_l2, ↓e_li, ↓e_sw0, ↓e_sws, ↓e_ceq, ↓e_cne, ↓e_clt, ↓e_cge, ↓e_cgt, ↓e_cle, ↓e_nil, ↓e_cons, ↓e_iconst, ↓e_bipush, ↓e_sipush, ↓e_ldc, ↓e_ldcw, ↓e_ldc2, ↓e_lconst, ↓e_iloadn, ↓e_iload, ↓e_lloadn, ↓e_lload, ↓e_aloadn, ↓e_aload, ↓e_istoren, ↓e_istore, ↓e_astoren, ↓e_astore, ↓e_add, ↓e_iinc, ↓e_iadd, ↓e_isub, ↓e_imul, ↓e_iand, ↓e_ior, ↓e_ixor, ↓e_ishl, ↓e_iushr, ↓e_idiv, ↓e_irem, ↓e_ineg, ↓e_i2l, ↓e_i2b, ↓e_i2s, ↓e_l2i, ↓e_land, ↓e_lor, ↓e_lshl, ↓e_lshr, ↓e_lushr, ↓e_lcmp, ↓e_dupi, ↓e_dupr, ↓e_popi, ↓e_dup2, ↓e_goto, ↓e_if, ↓e_icmp, ↓e_tsw, ↓e_lsw, ↓e_getf, ↓e_putf, ↓e_gets, ↓e_iald, ↓e_cald, ↓e_iast, ↓e_aald, ↓e_aast, ↓e_len, ↓e_copy, ↓e_abs, ↓e_max, ↓e_min, ↓e_iret, ↓e_aret, ↓e_vret, ↓e_is0, ↓e_is1, ↓e_is2, ↓e_is3, ↓e_is4, ↓e_iv1, ↓e_iv2, ↓e_iv3, ↓e_iv4, ↓e_iv5, ↓e_iv6, ↓rt_X4_readLevel, ↓reduceIte, Nat.reduceAdd, Nat.reduceEqDiff, ↓zcl0, ↓zclv, List.map_nil, List.sum_nil, List.map_cons, List.sum_cons, zcat, true_and, and_true, Nat.reduceLeDiff, Nat.reduceAdd, eq_self, forall_const, e_ok0, e_okss, e_ok1i, e_ok1r, e_ok1n, zl_0, zl_1, zl_2, zl_5, zl_50, zl_20000, Int.reduceToNat, Int.reduceAdd, Int.reduceMul, Int.reduceSub, Int.reduceNeg, Int.reduceLT, Int.reduceLE, Int.reduceEq, not_false_eq_true, not_true_eq_false, false_implies, true_implies, implies_true, Int.reduceDiv, Int.reduceMod, zr8_zr, zr_zbo, z01_zbo, z01_0, z01_1, zbo_eq0, zup_eq, zup_o, zup_k, ne_eq, ↓ct_levS_rnx, ↓r_rnx, ↓B_rnx, ↓ct_levS_rlv, ↓r_rlv, ↓B_rlv, ↓ct_levS_radd, ↓r_radd, ↓B_radd, ↓ct_levS_uni, ↓r_uni, ↓B_uni, ↓ct_levS_lev, ↓r_lev, ↓B_lev, ↓v_67, ↓g_67_0, ↓g_67_1, ↓g_67_2, ↓p_67_2, ↓g_67_3, ↓p_67_3, ↓g_67_4, ↓p_67_4, zl, l5]
      refine bs_X4_readLevel_11 hX ?_
      simp only [bk_X4_readLevel_0, k_X4_readLevel_0, bk_X4_readLevel_5, k_X4_readLevel_5, bk_X4_readLevel_11, k_X4_readLevel_11, bk_X4_readLevel_19, k_X4_readLevel_19, bk_X4_readLevel_28, k_X4_readLevel_28, bk_X4_readLevel_30, k_X4_readLevel_30, bk_X4_readLevel_34, k_X4_readLevel_34, bk_X4_readLevel_40, k_X4_readLevel_40, bk_X4_readLevel_51, k_X4_readLevel_51, bk_X4_readLevel_75, k_X4_readLevel_75, bk_X4_readLevel_95, k_X4_readLevel_95, ↓e_rk1, ↓e_rk0, ↓e_sk0, ↓e_sks, ↓e_ldi0, ↓e_ldis, ↓e_ldl0, ↓e_ldls, ↓e_lda0, ↓e_ldas, ↓e_ok0, ↓e_okss, ↓e_ok1i, ↓e_ok1r, ↓e_ok1n, ↓e_sti, ↓e_sta, ↓e_1, ↓e_2, ↓e_l1, ↓e_l2, ↓e_li, ↓e_sw0, ↓e_sws, ↓e_ceq, ↓e_cne, ↓e_clt, ↓e_cge, ↓e_cgt, ↓e_cle, ↓e_nil, ↓e_cons, ↓e_iconst, ↓e_bipush, ↓e_sipush, ↓e_ldc, ↓e_ldcw, ↓e_ldc2, ↓e_lconst, ↓e_iloadn, ↓e_iload, ↓e_lloadn, ↓e_lload, ↓e_aloadn, ↓e_aload, ↓e_istoren, ↓e_istore, ↓e_astoren, ↓e_astore, ↓e_add, ↓e_iinc, ↓e_iadd, ↓e_isub, ↓e_imul, ↓e_iand, ↓e_ior, ↓e_ixor, ↓e_ishl, ↓e_iushr, ↓e_idiv, ↓e_irem, ↓e_ineg, ↓e_i2l, ↓e_i2b, ↓e_i2s, ↓e_l2i, ↓e_land, ↓e_lor, ↓e_lshl, ↓e_lshr, ↓e_lushr, ↓e_lcmp, ↓e_dupi, ↓e_dupr, ↓e_popi, ↓e_dup2, ↓e_goto, ↓e_if, ↓e_icmp, ↓e_tsw, ↓e_lsw, ↓e_getf, ↓e_putf, ↓e_gets, ↓e_iald, ↓e_cald, ↓e_iast, ↓e_aald, ↓e_aast, ↓e_len, ↓e_copy, ↓e_abs, ↓e_max, ↓e_min, ↓e_iret, ↓e_aret, ↓e_vret, ↓e_is0, ↓e_is1, ↓e_is2, ↓e_is3, ↓e_is4, ↓e_iv1, ↓e_iv2, ↓e_iv3, ↓e_iv4, ↓e_iv5, ↓e_iv6, ↓rt_X4_readLevel, ↓reduceIte, Nat.reduceAdd, Nat.reduceEqDiff, ↓zcl0, ↓zclv, List.map_nil, List.sum_nil, List.map_cons, List.sum_cons, zcat, true_and, and_true, Nat.reduceLeDiff, Nat.reduceAdd, eq_self, forall_const, e_ok0, e_okss, e_ok1i, e_ok1r, e_ok1n, zl_0, zl_1, zl_2, zl_5, zl_50, zl_20000, Int.reduceToNat, Int.reduceAdd, Int.reduceMul, Int.reduceSub, Int.reduceNeg, Int.reduceLT, Int.reduceLE, Int.reduceEq, not_false_eq_true, not_true_eq_false, false_implies, true_implies, implies_true, Int.reduceDiv, Int.reduceMod, zr8_zr, zr_zbo, z01_zbo, z01_0, z01_1, zbo_eq0, zup_eq, zup_o, zup_k, ne_eq, ↓ct_levS_rnx, ↓r_rnx, ↓B_rnx, ↓ct_levS_rlv, ↓r_rlv, ↓B_rlv, ↓ct_levS_radd, ↓r_radd, ↓B_radd, ↓ct_levS_uni, ↓r_uni, ↓B_uni, ↓ct_levS_lev, ↓r_lev, ↓B_lev, ↓v_67, ↓g_67_0, ↓g_67_1, ↓g_67_2, ↓p_67_2, ↓g_67_3, ↓p_67_3, ↓g_67_4, ↓p_67_4, ↓rdQ]
      refine ⟨r9, j, ⟨hq, hr9, by omega, by omega, by omega⟩, T, n, u, s, ho, fun M2 k1 k2 k3 => ?_⟩
      rw [hf] at k1 k3
      refine bs_X4_readLevel_19 hX ?_
      simp only [bk_X4_readLevel_0, k_X4_readLevel_0, bk_X4_readLevel_5, k_X4_readLevel_5, bk_X4_readLevel_11, k_X4_readLevel_11, bk_X4_readLevel_19, k_X4_readLevel_19, bk_X4_readLevel_28, k_X4_readLevel_28, bk_X4_readLevel_30, k_X4_readLevel_30, bk_X4_readLevel_34, k_X4_readLevel_34, bk_X4_readLevel_40, k_X4_readLevel_40, bk_X4_readLevel_51, k_X4_readLevel_51, bk_X4_readLevel_75, k_X4_readLevel_75, bk_X4_readLevel_95, k_X4_readLevel_95, ↓e_rk1, ↓e_rk0, ↓e_sk0, ↓e_sks, ↓e_ldi0, ↓e_ldis, ↓e_ldl0, ↓e_ldls, ↓e_lda0, ↓e_ldas, ↓e_ok0, ↓e_okss, ↓e_ok1i, ↓e_ok1r, ↓e_ok1n, ↓e_sti, ↓e_sta, ↓e_1, ↓e_2, ↓e_l1, ↓e_l2, ↓e_li, ↓e_sw0, ↓e_sws, ↓e_ceq, ↓e_cne, ↓e_clt, ↓e_cge, ↓e_cgt, ↓e_cle, ↓e_nil, ↓e_cons, ↓e_iconst, ↓e_bipush, ↓e_sipush, ↓e_ldc, ↓e_ldcw, ↓e_ldc2, ↓e_lconst, ↓e_iloadn, ↓e_iload, ↓e_lloadn, ↓e_lload, ↓e_aloadn, ↓e_aload, ↓e_istoren, ↓e_istore, ↓e_astoren, ↓e_astore, ↓e_add, ↓e_iinc, ↓e_iadd, ↓e_isub, ↓e_imul, ↓e_iand, ↓e_ior, ↓e_ixor, ↓e_ishl, ↓e_iushr, ↓e_idiv, ↓e_irem, ↓e_ineg, ↓e_i2l, ↓e_i2b, ↓e_i2s, ↓e_l2i, ↓e_land, ↓e_lor, ↓e_lshl, ↓e_lshr, ↓e_lushr, ↓e_lcmp, ↓e_dupi, ↓e_dupr, ↓e_popi, ↓e_dup2, ↓e_goto, ↓e_if, ↓e_icmp, ↓e_tsw, ↓e_lsw, ↓e_getf, ↓e_putf, ↓e_gets, ↓e_iald, ↓e_cald, ↓e_iast, ↓e_aald, ↓e_aast, ↓e_len, ↓e_copy, ↓e_abs, ↓e_max, ↓e_min, ↓e_iret, ↓e_aret, ↓e_vret, ↓e_is0, ↓e_is1, ↓e_is2, ↓e_is3, ↓e_is4, ↓e_iv1, ↓e_iv2, ↓e_iv3, ↓e_iv4, ↓e_iv5, ↓e_iv6, ↓rt_X4_readLevel, ↓reduceIte, Nat.reduceAdd, Nat.reduceEqDiff, ↓zcl0, ↓zclv, List.map_nil, List.sum_nil, List.map_cons, List.sum_cons, zcat, true_and, and_true, Nat.reduceLeDiff, Nat.reduceAdd, eq_self, forall_const, e_ok0, e_okss, e_ok1i, e_ok1r, e_ok1n, zl_0, zl_1, zl_2, zl_5, zl_50, zl_20000, Int.reduceToNat, Int.reduceAdd, Int.reduceMul, Int.reduceSub, Int.reduceNeg, Int.reduceLT, Int.reduceLE, Int.reduceEq, not_false_eq_true, not_true_eq_false, false_implies, true_implies, implies_true, Int.reduceDiv, Int.reduceMod, zr8_zr, zr_zbo, z01_zbo, z01_0, z01_1, zbo_eq0, zup_eq, zup_o, zup_k, ne_eq, ↓ct_levS_rnx, ↓r_rnx, ↓B_rnx, ↓ct_levS_rlv, ↓r_rlv, ↓B_rlv, ↓ct_levS_radd, ↓r_radd, ↓B_radd, ↓ct_levS_uni, ↓r_uni, ↓B_uni, ↓ct_levS_lev, ↓r_lev, ↓B_lev, ↓v_67, ↓g_67_0, ↓g_67_1, ↓g_67_2, ↓p_67_2, ↓g_67_3, ↓p_67_3, ↓g_67_4, ↓p_67_4, zl]
      have fin := lp mo 0 M2 (f s) none (by omega) k1 k2 k3 (ep s)
      by_cases q2 : j = 2
      · have em : mo = 1 := by rw [← hmo, if_pos q2]
        subst em
        refine ⟨fun e => ?_, fun e => ?_⟩
        · first | exact fin | omega
        · first | exact fin | omega
      · have em : mo = 50 := by rw [← hmo, if_neg q2]
        subst em
        refine ⟨fun e => ?_, fun e => ?_⟩
        · first | omega | exact fin
        · first | omega | exact fin
