/-! THE CLASS: its public methods: years, what would be -/
def k_X10_years_0 : List ZI := [(.iload_n 1, 1, (0, [1], [])), (.iconst 1, 1, (0, [], [])), (.if_icmp .lt 9, 3, (0, [11], [])), (.iload_n 1, 1, (0, [1], [])), (.bipush 60, 2, (0, [], [])), (.if_icmp .le 10, 3, (0, [18], []))]
theorem ok_X10_years_0 : zOK cX10_years 10 false 3 k_X10_years_0 0 = true := zOK_by (by decide +kernel)
def k_X10_years_11 : List ZI := [(.aload_n 0, 1, (0, [0], [])), (.ldc 96, 2, ((-1000000001), [], [])), (.invokevirtual 97, 3, (0, [110, 2, 0, 10], [])), (.ireturn, 1, (0, [], []))]
theorem ok_X10_years_11 : zOK cX10_years 10 false 3 k_X10_years_11 11 = true := zOK_by (by decide +kernel)
def k_X10_years_18 : List ZI := [(.aload_n 0, 1, (0, [0], [])), (.getfield 12, 3, (0, [10, 0], [])), (.getfield 21, 3, (0, [6, 0], [])), (.getfield 197, 3, (0, [2, 9], [])), (.iload_n 1, 1, (0, [1], [])), (.iadd, 1, (0, [], [])), (.sipush 9999, 3, (0, [], [])), (.if_icmp .le 10, 3, (0, [43], []))]
theorem ok_X10_years_18 : zOK cX10_years 10 false 3 k_X10_years_18 18 = true := zOK_by (by decide +kernel)
def k_X10_years_36 : List ZI := [(.aload_n 0, 1, (0, [0], [])), (.ldc 107, 2, ((-1000000003), [], [])), (.invokevirtual 97, 3, (0, [110, 2, 0, 10], [])), (.ireturn, 1, (0, [], []))]
theorem ok_X10_years_36 : zOK cX10_years 10 false 3 k_X10_years_36 36 = true := zOK_by (by decide +kernel)
def k_X10_years_43 : List ZI := [(.iconst 0, 1, (0, [], [])), (.istore_n 2, 1, (0, [2], []))]
theorem ok_X10_years_43 : zOK cX10_years 10 false 3 k_X10_years_43 43 = true := zOK_by (by decide +kernel)
def k_X10_years_45 : List ZI := [(.iload_n 2, 1, (0, [2], [])), (.iload_n 1, 1, (0, [1], [])), (.if_icmp .ge 16, 3, (0, [63], [])), (.aload_n 0, 1, (0, [0], [])), (.getfield 39, 3, (0, [10, 2], [])), (.invokevirtual 200, 3, (0, [4, 1, 0, 1], [])), (.iinc 2 1, 3, (0, [2], [])), (.goto (-15), 3, (0, [45], []))]
theorem ok_X10_years_45 : zOK cX10_years 10 false 3 k_X10_years_45 45 = true := zOK_by (by decide +kernel)
def k_X10_years_63 : List ZI := [(.aload_n 0, 1, (0, [0], [])), (.getfield 12, 3, (0, [10, 0], [])), (.getfield 21, 3, (0, [6, 0], [])), (.invokevirtual 203, 3, (0, [18, 1, 0, 2], [])), (.ireturn, 1, (0, [], []))]
theorem ok_X10_years_63 : zOK cX10_years 10 false 3 k_X10_years_63 63 = true := zOK_by (by decide +kernel)
theorem rt_X10_years {g : Nat} {post : Option ZV → ZH → Prop} {h : ZH} {b : ZB2} {z : Int} : zRt mX10_years g post (some (.inl z)) h b = (post (some (.inl z)) h ∧ h.1.length = g) := by show (_ ∧ _ ∧ True) = _; simp
def bk_X10_years_0 (E : ZE) (CT : Nat → ZC) (X : ZK) (Rt : ZR) (ls : ZL) (st : List ZV) (h : ZH) (b : ZB2) : Prop := zB E CT k_X10_years_0 0 ls st h b (fun t ls st h b => X t ls st h b) Rt
theorem bs_X10_years_0 {E : ZE} {CT : Nat → ZC} {X : ZK} {Rt : ZR} {ls : ZL} {st : List ZV} {h : ZH} {b : ZB2} (hX : zCl E mX10_years 10 false CT Rt X) (q : bk_X10_years_0 E CT X Rt ls st h b) : X 0 ls st h b := by
  refine hX k_X10_years_0 0 ok_X10_years_0 _ ?_ ls st h b q
  exact fun t ls st h b q => q
def bk_X10_years_11 (E : ZE) (CT : Nat → ZC) (X : ZK) (Rt : ZR) (ls : ZL) (st : List ZV) (h : ZH) (b : ZB2) : Prop := zB E CT k_X10_years_11 11 ls st h b (fun t ls st h b => X t ls st h b) Rt
theorem bs_X10_years_11 {E : ZE} {CT : Nat → ZC} {X : ZK} {Rt : ZR} {ls : ZL} {st : List ZV} {h : ZH} {b : ZB2} (hX : zCl E mX10_years 10 false CT Rt X) (q : bk_X10_years_11 E CT X Rt ls st h b) : X 11 ls st h b := by
  refine hX k_X10_years_11 11 ok_X10_years_11 _ ?_ ls st h b q
  exact fun t ls st h b q => q
def bk_X10_years_18 (E : ZE) (CT : Nat → ZC) (X : ZK) (Rt : ZR) (ls : ZL) (st : List ZV) (h : ZH) (b : ZB2) : Prop := zB E CT k_X10_years_18 18 ls st h b (fun t ls st h b => X t ls st h b) Rt
theorem bs_X10_years_18 {E : ZE} {CT : Nat → ZC} {X : ZK} {Rt : ZR} {ls : ZL} {st : List ZV} {h : ZH} {b : ZB2} (hX : zCl E mX10_years 10 false CT Rt X) (q : bk_X10_years_18 E CT X Rt ls st h b) : X 18 ls st h b := by
  refine hX k_X10_years_18 18 ok_X10_years_18 _ ?_ ls st h b q
  exact fun t ls st h b q => q
def bk_X10_years_36 (E : ZE) (CT : Nat → ZC) (X : ZK) (Rt : ZR) (ls : ZL) (st : List ZV) (h : ZH) (b : ZB2) : Prop := zB E CT k_X10_years_36 36 ls st h b (fun t ls st h b => X t ls st h b) Rt
theorem bs_X10_years_36 {E : ZE} {CT : Nat → ZC} {X : ZK} {Rt : ZR} {ls : ZL} {st : List ZV} {h : ZH} {b : ZB2} (hX : zCl E mX10_years 10 false CT Rt X) (q : bk_X10_years_36 E CT X Rt ls st h b) : X 36 ls st h b := by
  refine hX k_X10_years_36 36 ok_X10_years_36 _ ?_ ls st h b q
  exact fun t ls st h b q => q
def bk_X10_years_43 (E : ZE) (CT : Nat → ZC) (X : ZK) (Rt : ZR) (ls : ZL) (st : List ZV) (h : ZH) (b : ZB2) : Prop := zB E CT k_X10_years_43 43 ls st h b (fun t ls st h b => X t ls st h b) Rt
theorem bs_X10_years_43 {E : ZE} {CT : Nat → ZC} {X : ZK} {Rt : ZR} {ls : ZL} {st : List ZV} {h : ZH} {b : ZB2} (hX : zCl E mX10_years 10 false CT Rt X) (q : bk_X10_years_43 E CT X Rt ls st h b) : X 43 ls st h b := by
  refine hX k_X10_years_43 43 ok_X10_years_43 _ ?_ ls st h b q
  exact fun t ls st h b q => q
def bk_X10_years_45 (E : ZE) (CT : Nat → ZC) (X : ZK) (Rt : ZR) (ls : ZL) (st : List ZV) (h : ZH) (b : ZB2) : Prop := zB E CT k_X10_years_45 45 ls st h b (fun t ls st h b => X t ls st h b) Rt
theorem bs_X10_years_45 {E : ZE} {CT : Nat → ZC} {X : ZK} {Rt : ZR} {ls : ZL} {st : List ZV} {h : ZH} {b : ZB2} (hX : zCl E mX10_years 10 false CT Rt X) (q : bk_X10_years_45 E CT X Rt ls st h b) : X 45 ls st h b := by
  refine hX k_X10_years_45 45 ok_X10_years_45 _ ?_ ls st h b q
  exact fun t ls st h b q => q
def bk_X10_years_63 (E : ZE) (CT : Nat → ZC) (X : ZK) (Rt : ZR) (ls : ZL) (st : List ZV) (h : ZH) (b : ZB2) : Prop := zB E CT k_X10_years_63 63 ls st h b (fun t ls st h b => X t ls st h b) Rt
theorem bs_X10_years_63 {E : ZE} {CT : Nat → ZC} {X : ZK} {Rt : ZR} {ls : ZL} {st : List ZV} {h : ZH} {b : ZB2} (hX : zCl E mX10_years 10 false CT Rt X) (q : bk_X10_years_63 E CT X Rt ls st h b) : X 63 ls st h b := by
  refine hX k_X10_years_63 63 ok_X10_years_63 _ ?_ ls st h b q
  exact fun t ls st h b q => q
-- X10_years: cuts [11, 18, 36, 43, 45, 63]
def k_X10_then_0 : List ZI := [(.iload_n 1, 1, (0, [1], [])), (.bipush 60, 2, (0, [], [])), (.invokestatic 92, 3, (0, [111, 2, 0, 10], [])), (.ifCond .ne 19, 3, (0, [25], []))]
theorem ok_X10_then_0 : zOK cX10_then 10 false 4 k_X10_then_0 0 = true := zOK_by (by decide +kernel)
def k_X10_then_9 : List ZI := [(.iload_n 2, 1, (0, [2], [])), (.iconst 1, 1, (0, [], [])), (.invokestatic 92, 3, (0, [111, 2, 0, 10], [])), (.ifCond .ne 11, 3, (0, [25], []))]
theorem ok_X10_then_9 : zOK cX10_then 10 false 4 k_X10_then_9 9 = true := zOK_by (by decide +kernel)
def k_X10_then_17 : List ZI := [(.iload_n 3, 1, (0, [3], [])), (.iconst 1, 1, (0, [], [])), (.invokestatic 92, 3, (0, [111, 2, 0, 10], [])), (.ifCond .eq 10, 3, (0, [32], []))]
theorem ok_X10_then_17 : zOK cX10_then 10 false 4 k_X10_then_17 17 = true := zOK_by (by decide +kernel)
def k_X10_then_25 : List ZI := [(.aload_n 0, 1, (0, [0], [])), (.ldc 96, 2, ((-1000000001), [], [])), (.invokevirtual 97, 3, (0, [110, 2, 0, 10], [])), (.ireturn, 1, (0, [], []))]
theorem ok_X10_then_25 : zOK cX10_then 10 false 4 k_X10_then_25 25 = true := zOK_by (by decide +kernel)
def k_X10_then_32 : List ZI := [(.aload_n 0, 1, (0, [0], [])), (.invokevirtual 210, 3, (0, [113, 1, 0, 10], [])), (.aload_n 0, 1, (0, [0], [])), (.iload_n 1, 1, (0, [1], [])), (.invokevirtual 213, 3, (0, [114, 2, 0, 10], [])), (.pop, 1, (0, [], []))]
theorem ok_X10_then_32 : zOK cX10_then 10 false 4 k_X10_then_32 32 = true := zOK_by (by decide +kernel)
def k_X10_then_42 : List ZI := [(.iload_n 3, 1, (0, [3], [])), (.ifCond .ne 18, 3, (0, [61], [])), (.aload_n 0, 1, (0, [0], [])), (.getfield 49, 3, (0, [10, 3], [])), (.getfield 216, 3, (0, [1, 0], [])), (.getfield 114, 3, (0, [2, 2], [])), (.iload_n 2, 1, (0, [2], [])), (.iaload, 1, (0, [], [])), (.goto 15, 3, (0, [73], []))]
theorem ok_X10_then_42 : zOK cX10_then 10 false 4 k_X10_then_42 42 = true := zOK_by (by decide +kernel)
def k_X10_then_61 : List ZI := [(.aload_n 0, 1, (0, [0], [])), (.getfield 49, 3, (0, [10, 3], [])), (.getfield 216, 3, (0, [1, 0], [])), (.getfield 124, 3, (0, [2, 4], [])), (.iload_n 2, 1, (0, [2], [])), (.iaload, 1, (0, [], []))]
theorem ok_X10_then_61 : zOK cX10_then 10 false 4 k_X10_then_61 61 = true := zOK_by (by decide +kernel)
def k_X10_then_73 : List ZI := [(.ireturn, 1, (0, [], []))]
theorem ok_X10_then_73 : zOK cX10_then 10 false 4 k_X10_then_73 73 = true := zOK_by (by decide +kernel)
theorem rt_X10_then {g : Nat} {post : Option ZV → ZH → Prop} {h : ZH} {b : ZB2} {z : Int} : zRt mX10_then g post (some (.inl z)) h b = (post (some (.inl z)) h ∧ h.1.length = g) := by show (_ ∧ _ ∧ True) = _; simp
def bk_X10_then_0 (E : ZE) (CT : Nat → ZC) (X : ZK) (Rt : ZR) (ls : ZL) (st : List ZV) (h : ZH) (b : ZB2) : Prop := zB E CT k_X10_then_0 0 ls st h b (fun t ls st h b => X t ls st h b) Rt
theorem bs_X10_then_0 {E : ZE} {CT : Nat → ZC} {X : ZK} {Rt : ZR} {ls : ZL} {st : List ZV} {h : ZH} {b : ZB2} (hX : zCl E mX10_then 10 false CT Rt X) (q : bk_X10_then_0 E CT X Rt ls st h b) : X 0 ls st h b := by
  refine hX k_X10_then_0 0 ok_X10_then_0 _ ?_ ls st h b q
  exact fun t ls st h b q => q
def bk_X10_then_9 (E : ZE) (CT : Nat → ZC) (X : ZK) (Rt : ZR) (ls : ZL) (st : List ZV) (h : ZH) (b : ZB2) : Prop := zB E CT k_X10_then_9 9 ls st h b (fun t ls st h b => X t ls st h b) Rt
theorem bs_X10_then_9 {E : ZE} {CT : Nat → ZC} {X : ZK} {Rt : ZR} {ls : ZL} {st : List ZV} {h : ZH} {b : ZB2} (hX : zCl E mX10_then 10 false CT Rt X) (q : bk_X10_then_9 E CT X Rt ls st h b) : X 9 ls st h b := by
  refine hX k_X10_then_9 9 ok_X10_then_9 _ ?_ ls st h b q
  exact fun t ls st h b q => q
def bk_X10_then_17 (E : ZE) (CT : Nat → ZC) (X : ZK) (Rt : ZR) (ls : ZL) (st : List ZV) (h : ZH) (b : ZB2) : Prop := zB E CT k_X10_then_17 17 ls st h b (fun t ls st h b => X t ls st h b) Rt
theorem bs_X10_then_17 {E : ZE} {CT : Nat → ZC} {X : ZK} {Rt : ZR} {ls : ZL} {st : List ZV} {h : ZH} {b : ZB2} (hX : zCl E mX10_then 10 false CT Rt X) (q : bk_X10_then_17 E CT X Rt ls st h b) : X 17 ls st h b := by
  refine hX k_X10_then_17 17 ok_X10_then_17 _ ?_ ls st h b q
  exact fun t ls st h b q => q
def bk_X10_then_25 (E : ZE) (CT : Nat → ZC) (X : ZK) (Rt : ZR) (ls : ZL) (st : List ZV) (h : ZH) (b : ZB2) : Prop := zB E CT k_X10_then_25 25 ls st h b (fun t ls st h b => X t ls st h b) Rt
theorem bs_X10_then_25 {E : ZE} {CT : Nat → ZC} {X : ZK} {Rt : ZR} {ls : ZL} {st : List ZV} {h : ZH} {b : ZB2} (hX : zCl E mX10_then 10 false CT Rt X) (q : bk_X10_then_25 E CT X Rt ls st h b) : X 25 ls st h b := by
  refine hX k_X10_then_25 25 ok_X10_then_25 _ ?_ ls st h b q
  exact fun t ls st h b q => q
def bk_X10_then_32 (E : ZE) (CT : Nat → ZC) (X : ZK) (Rt : ZR) (ls : ZL) (st : List ZV) (h : ZH) (b : ZB2) : Prop := zB E CT k_X10_then_32 32 ls st h b (fun t ls st h b => X t ls st h b) Rt
theorem bs_X10_then_32 {E : ZE} {CT : Nat → ZC} {X : ZK} {Rt : ZR} {ls : ZL} {st : List ZV} {h : ZH} {b : ZB2} (hX : zCl E mX10_then 10 false CT Rt X) (q : bk_X10_then_32 E CT X Rt ls st h b) : X 32 ls st h b := by
  refine hX k_X10_then_32 32 ok_X10_then_32 _ ?_ ls st h b q
  exact fun t ls st h b q => q
def bk_X10_then_73 (E : ZE) (CT : Nat → ZC) (X : ZK) (Rt : ZR) (ls : ZL) (st : List ZV) (h : ZH) (b : ZB2) : Prop := zB E CT k_X10_then_73 73 ls st h b (fun t ls st h b => X t ls st h b) Rt
theorem bs_X10_then_73 {E : ZE} {CT : Nat → ZC} {X : ZK} {Rt : ZR} {ls : ZL} {st : List ZV} {h : ZH} {b : ZB2} (hX : zCl E mX10_then 10 false CT Rt X) (q : bk_X10_then_73 E CT X Rt ls st h b) : X 73 ls st h b := by
  refine hX k_X10_then_73 73 ok_X10_then_73 _ ?_ ls st h b q
  exact fun t ls st h b q => q
def bk_X10_then_42 (E : ZE) (CT : Nat → ZC) (X : ZK) (Rt : ZR) (ls : ZL) (st : List ZV) (h : ZH) (b : ZB2) : Prop := zB E CT k_X10_then_42 42 ls st h b (fun t ls st h b => if t = 73 then bk_X10_then_73 E CT X Rt ls st h b else X t ls st h b) Rt
theorem bs_X10_then_42 {E : ZE} {CT : Nat → ZC} {X : ZK} {Rt : ZR} {ls : ZL} {st : List ZV} {h : ZH} {b : ZB2} (hX : zCl E mX10_then 10 false CT Rt X) (q : bk_X10_then_42 E CT X Rt ls st h b) : X 42 ls st h b := by
  refine hX k_X10_then_42 42 ok_X10_then_42 _ ?_ ls st h b q
  exact by
    intro t ls st h b q
    by_cases c : t = 73
    · subst c; rw [if_pos rfl] at q; exact bs_X10_then_73 hX q
    rw [if_neg c] at q
    exact q
def bk_X10_then_61 (E : ZE) (CT : Nat → ZC) (X : ZK) (Rt : ZR) (ls : ZL) (st : List ZV) (h : ZH) (b : ZB2) : Prop := zB E CT k_X10_then_61 61 ls st h b (fun t ls st h b => if t = 73 then bk_X10_then_73 E CT X Rt ls st h b else X t ls st h b) Rt
theorem bs_X10_then_61 {E : ZE} {CT : Nat → ZC} {X : ZK} {Rt : ZR} {ls : ZL} {st : List ZV} {h : ZH} {b : ZB2} (hX : zCl E mX10_then 10 false CT Rt X) (q : bk_X10_then_61 E CT X Rt ls st h b) : X 61 ls st h b := by
  refine hX k_X10_then_61 61 ok_X10_then_61 _ ?_ ls st h b q
  exact by
    intro t ls st h b q
    by_cases c : t = 73
    · subst c; rw [if_pos rfl] at q; exact bs_X10_then_73 hX q
    rw [if_neg c] at q
    exact q
-- X10_then: cuts [9, 17, 25, 32, 42, 61]
def k_X10_meets_0 : List ZI := [(.aload_n 0, 1, (0, [0], [])), (.invokevirtual 210, 3, (0, [113, 1, 0, 10], [])), (.iconst 0, 1, (0, [], [])), (.istore_n 1, 1, (0, [1], []))]
theorem ok_X10_meets_0 : zOK cX10_meets 10 false 2 k_X10_meets_0 0 = true := zOK_by (by decide +kernel)
def k_X10_meets_6 : List ZI := [(.iload_n 1, 1, (0, [1], [])), (.bipush 60, 2, (0, [], [])), (.if_icmp .gt 31, 3, (0, [40], [])), (.aload_n 0, 1, (0, [0], [])), (.getfield 49, 3, (0, [10, 3], [])), (.getfield 216, 3, (0, [1, 0], [])), (.invokevirtual 203, 3, (0, [18, 1, 0, 2], [])), (.ifCond .ne 5, 3, (0, [27], [])), (.iload_n 1, 1, (0, [1], [])), (.ireturn, 1, (0, [], []))]
theorem ok_X10_meets_6 : zOK cX10_meets 10 false 2 k_X10_meets_6 6 = true := zOK_by (by decide +kernel)
def k_X10_meets_27 : List ZI := [(.aload_n 0, 1, (0, [0], [])), (.getfield 49, 3, (0, [10, 3], [])), (.invokevirtual 200, 3, (0, [4, 1, 0, 1], [])), (.iinc 1 1, 3, (0, [1], [])), (.goto (-31), 3, (0, [6], []))]
theorem ok_X10_meets_27 : zOK cX10_meets 10 false 2 k_X10_meets_27 27 = true := zOK_by (by decide +kernel)
def k_X10_meets_40 : List ZI := [(.aload_n 0, 1, (0, [0], [])), (.ldc 217, 2, ((-1000000002), [], [])), (.invokevirtual 97, 3, (0, [110, 2, 0, 10], [])), (.ireturn, 1, (0, [], []))]
theorem ok_X10_meets_40 : zOK cX10_meets 10 false 2 k_X10_meets_40 40 = true := zOK_by (by decide +kernel)
theorem rt_X10_meets {g : Nat} {post : Option ZV → ZH → Prop} {h : ZH} {b : ZB2} {z : Int} : zRt mX10_meets g post (some (.inl z)) h b = (post (some (.inl z)) h ∧ h.1.length = g) := by show (_ ∧ _ ∧ True) = _; simp
def bk_X10_meets_0 (E : ZE) (CT : Nat → ZC) (X : ZK) (Rt : ZR) (ls : ZL) (st : List ZV) (h : ZH) (b : ZB2) : Prop := zB E CT k_X10_meets_0 0 ls st h b (fun t ls st h b => X t ls st h b) Rt
theorem bs_X10_meets_0 {E : ZE} {CT : Nat → ZC} {X : ZK} {Rt : ZR} {ls : ZL} {st : List ZV} {h : ZH} {b : ZB2} (hX : zCl E mX10_meets 10 false CT Rt X) (q : bk_X10_meets_0 E CT X Rt ls st h b) : X 0 ls st h b := by
  refine hX k_X10_meets_0 0 ok_X10_meets_0 _ ?_ ls st h b q
  exact fun t ls st h b q => q
def bk_X10_meets_6 (E : ZE) (CT : Nat → ZC) (X : ZK) (Rt : ZR) (ls : ZL) (st : List ZV) (h : ZH) (b : ZB2) : Prop := zB E CT k_X10_meets_6 6 ls st h b (fun t ls st h b => X t ls st h b) Rt
theorem bs_X10_meets_6 {E : ZE} {CT : Nat → ZC} {X : ZK} {Rt : ZR} {ls : ZL} {st : List ZV} {h : ZH} {b : ZB2} (hX : zCl E mX10_meets 10 false CT Rt X) (q : bk_X10_meets_6 E CT X Rt ls st h b) : X 6 ls st h b := by
  refine hX k_X10_meets_6 6 ok_X10_meets_6 _ ?_ ls st h b q
  exact fun t ls st h b q => q
def bk_X10_meets_27 (E : ZE) (CT : Nat → ZC) (X : ZK) (Rt : ZR) (ls : ZL) (st : List ZV) (h : ZH) (b : ZB2) : Prop := zB E CT k_X10_meets_27 27 ls st h b (fun t ls st h b => X t ls st h b) Rt
theorem bs_X10_meets_27 {E : ZE} {CT : Nat → ZC} {X : ZK} {Rt : ZR} {ls : ZL} {st : List ZV} {h : ZH} {b : ZB2} (hX : zCl E mX10_meets 10 false CT Rt X) (q : bk_X10_meets_27 E CT X Rt ls st h b) : X 27 ls st h b := by
  refine hX k_X10_meets_27 27 ok_X10_meets_27 _ ?_ ls st h b q
  exact fun t ls st h b q => q
def bk_X10_meets_40 (E : ZE) (CT : Nat → ZC) (X : ZK) (Rt : ZR) (ls : ZL) (st : List ZV) (h : ZH) (b : ZB2) : Prop := zB E CT k_X10_meets_40 40 ls st h b (fun t ls st h b => X t ls st h b) Rt
theorem bs_X10_meets_40 {E : ZE} {CT : Nat → ZC} {X : ZK} {Rt : ZR} {ls : ZL} {st : List ZV} {h : ZH} {b : ZB2} (hX : zCl E mX10_meets 10 false CT Rt X) (q : bk_X10_meets_40 E CT X Rt ls st h b) : X 40 ls st h b := by
  refine hX k_X10_meets_40 40 ok_X10_meets_40 _ ?_ ls st h b q
  exact fun t ls st h b q => q
-- X10_meets: cuts [6, 27, 40]
def k_X10_apart_0 : List ZI := [(.iload_n 1, 1, (0, [1], [])), (.bipush 60, 2, (0, [], [])), (.invokestatic 92, 3, (0, [111, 2, 0, 10], [])), (.ifCond .eq 10, 3, (0, [16], []))]
theorem ok_X10_apart_0 : zOK cX10_apart 10 false 2 k_X10_apart_0 0 = true := zOK_by (by decide +kernel)
def k_X10_apart_9 : List ZI := [(.aload_n 0, 1, (0, [0], [])), (.ldc 96, 2, ((-1000000001), [], [])), (.invokevirtual 97, 3, (0, [110, 2, 0, 10], [])), (.ireturn, 1, (0, [], []))]
theorem ok_X10_apart_9 : zOK cX10_apart 10 false 2 k_X10_apart_9 9 = true := zOK_by (by decide +kernel)
def k_X10_apart_16 : List ZI := [(.aload_n 0, 1, (0, [0], [])), (.invokevirtual 210, 3, (0, [113, 1, 0, 10], [])), (.aload_n 0, 1, (0, [0], [])), (.iload_n 1, 1, (0, [1], [])), (.invokevirtual 213, 3, (0, [114, 2, 0, 10], [])), (.ireturn, 1, (0, [], []))]
theorem ok_X10_apart_16 : zOK cX10_apart 10 false 2 k_X10_apart_16 16 = true := zOK_by (by decide +kernel)
theorem rt_X10_apart {g : Nat} {post : Option ZV → ZH → Prop} {h : ZH} {b : ZB2} {z : Int} : zRt mX10_apart g post (some (.inl z)) h b = (post (some (.inl z)) h ∧ h.1.length = g) := by show (_ ∧ _ ∧ True) = _; simp
def bk_X10_apart_0 (E : ZE) (CT : Nat → ZC) (X : ZK) (Rt : ZR) (ls : ZL) (st : List ZV) (h : ZH) (b : ZB2) : Prop := zB E CT k_X10_apart_0 0 ls st h b (fun t ls st h b => X t ls st h b) Rt
theorem bs_X10_apart_0 {E : ZE} {CT : Nat → ZC} {X : ZK} {Rt : ZR} {ls : ZL} {st : List ZV} {h : ZH} {b : ZB2} (hX : zCl E mX10_apart 10 false CT Rt X) (q : bk_X10_apart_0 E CT X Rt ls st h b) : X 0 ls st h b := by
  refine hX k_X10_apart_0 0 ok_X10_apart_0 _ ?_ ls st h b q
  exact fun t ls st h b q => q
def bk_X10_apart_9 (E : ZE) (CT : Nat → ZC) (X : ZK) (Rt : ZR) (ls : ZL) (st : List ZV) (h : ZH) (b : ZB2) : Prop := zB E CT k_X10_apart_9 9 ls st h b (fun t ls st h b => X t ls st h b) Rt
theorem bs_X10_apart_9 {E : ZE} {CT : Nat → ZC} {X : ZK} {Rt : ZR} {ls : ZL} {st : List ZV} {h : ZH} {b : ZB2} (hX : zCl E mX10_apart 10 false CT Rt X) (q : bk_X10_apart_9 E CT X Rt ls st h b) : X 9 ls st h b := by
  refine hX k_X10_apart_9 9 ok_X10_apart_9 _ ?_ ls st h b q
  exact fun t ls st h b q => q
def bk_X10_apart_16 (E : ZE) (CT : Nat → ZC) (X : ZK) (Rt : ZR) (ls : ZL) (st : List ZV) (h : ZH) (b : ZB2) : Prop := zB E CT k_X10_apart_16 16 ls st h b (fun t ls st h b => X t ls st h b) Rt
theorem bs_X10_apart_16 {E : ZE} {CT : Nat → ZC} {X : ZK} {Rt : ZR} {ls : ZL} {st : List ZV} {h : ZH} {b : ZB2} (hX : zCl E mX10_apart 10 false CT Rt X) (q : bk_X10_apart_16 E CT X Rt ls st h b) : X 16 ls st h b := by
  refine hX k_X10_apart_16 16 ok_X10_apart_16 _ ?_ ls st h b q
  exact fun t ls st h b q => q
-- X10_apart: cuts [9, 16]
def k_X10_delayFor_0 : List ZI := [(.iload_n 1, 1, (0, [1], [])), (.bipush 60, 2, (0, [], [])), (.invokestatic 92, 3, (0, [111, 2, 0, 10], [])), (.ifCond .eq 10, 3, (0, [16], []))]
theorem ok_X10_delayFor_0 : zOK cX10_delayFor 10 false 6 k_X10_delayFor_0 0 = true := zOK_by (by decide +kernel)
def k_X10_delayFor_9 : List ZI := [(.aload_n 0, 1, (0, [0], [])), (.ldc 96, 2, ((-1000000001), [], [])), (.invokevirtual 97, 3, (0, [110, 2, 0, 10], [])), (.ireturn, 1, (0, [], []))]
theorem ok_X10_delayFor_9 : zOK cX10_delayFor 10 false 6 k_X10_delayFor_9 9 = true := zOK_by (by decide +kernel)
def k_X10_delayFor_16 : List ZI := [(.iconst 0, 1, (0, [], [])), (.istore_n 2, 1, (0, [2], [])), (.bipush 15, 2, (0, [], [])), (.istore_n 3, 1, (0, [3], [])), (.iconst 0, 1, (0, [], [])), (.istore 4, 2, (0, [4], []))]
theorem ok_X10_delayFor_16 : zOK cX10_delayFor 10 false 6 k_X10_delayFor_16 16 = true := zOK_by (by decide +kernel)
def k_X10_delayFor_24 : List ZI := [(.iload 4, 2, (0, [4], [])), (.bipush 9, 2, (0, [], [])), (.if_icmp .gt 44, 3, (0, [72], [])), (.aload_n 0, 1, (0, [0], [])), (.invokevirtual 210, 3, (0, [113, 1, 0, 10], []))]
theorem ok_X10_delayFor_24 : zOK cX10_delayFor 10 false 6 k_X10_delayFor_24 24 = true := zOK_by (by decide +kernel)
def k_X10_delayFor_35 : List ZI := [(.aload_n 0, 1, (0, [0], [])), (.getfield 49, 3, (0, [10, 3], [])), (.getfield 216, 3, (0, [1, 0], [])), (.iload 4, 2, (0, [4], [])), (.putfield 136, 3, (0, [2, 8], [])), (.aload_n 0, 1, (0, [0], [])), (.iload_n 1, 1, (0, [1], [])), (.invokevirtual 213, 3, (0, [114, 2, 0, 10], [])), (.istore 5, 2, (0, [5], []))]
theorem ok_X10_delayFor_35 : zOK cX10_delayFor 10 false 6 k_X10_delayFor_35 35 = true := zOK_by (by decide +kernel)
def k_X10_delayFor_54 : List ZI := [(.iload 5, 2, (0, [5], [])), (.iload_n 3, 1, (0, [3], [])), (.if_icmp .ge 9, 3, (0, [66], [])), (.iload 5, 2, (0, [5], [])), (.istore_n 3, 1, (0, [3], [])), (.iload 4, 2, (0, [4], [])), (.istore_n 2, 1, (0, [2], []))]
theorem ok_X10_delayFor_54 : zOK cX10_delayFor 10 false 6 k_X10_delayFor_54 54 = true := zOK_by (by decide +kernel)
def k_X10_delayFor_66 : List ZI := [(.iinc 4 1, 3, (0, [4], [])), (.goto (-45), 3, (0, [24], []))]
theorem ok_X10_delayFor_66 : zOK cX10_delayFor 10 false 6 k_X10_delayFor_66 66 = true := zOK_by (by decide +kernel)
def k_X10_delayFor_72 : List ZI := [(.iload_n 2, 1, (0, [2], [])), (.ireturn, 1, (0, [], []))]
theorem ok_X10_delayFor_72 : zOK cX10_delayFor 10 false 6 k_X10_delayFor_72 72 = true := zOK_by (by decide +kernel)
theorem rt_X10_delayFor {g : Nat} {post : Option ZV → ZH → Prop} {h : ZH} {b : ZB2} {z : Int} : zRt mX10_delayFor g post (some (.inl z)) h b = (post (some (.inl z)) h ∧ h.1.length = g) := by show (_ ∧ _ ∧ True) = _; simp
def bk_X10_delayFor_0 (E : ZE) (CT : Nat → ZC) (X : ZK) (Rt : ZR) (ls : ZL) (st : List ZV) (h : ZH) (b : ZB2) : Prop := zB E CT k_X10_delayFor_0 0 ls st h b (fun t ls st h b => X t ls st h b) Rt
theorem bs_X10_delayFor_0 {E : ZE} {CT : Nat → ZC} {X : ZK} {Rt : ZR} {ls : ZL} {st : List ZV} {h : ZH} {b : ZB2} (hX : zCl E mX10_delayFor 10 false CT Rt X) (q : bk_X10_delayFor_0 E CT X Rt ls st h b) : X 0 ls st h b := by
  refine hX k_X10_delayFor_0 0 ok_X10_delayFor_0 _ ?_ ls st h b q
  exact fun t ls st h b q => q
def bk_X10_delayFor_9 (E : ZE) (CT : Nat → ZC) (X : ZK) (Rt : ZR) (ls : ZL) (st : List ZV) (h : ZH) (b : ZB2) : Prop := zB E CT k_X10_delayFor_9 9 ls st h b (fun t ls st h b => X t ls st h b) Rt
theorem bs_X10_delayFor_9 {E : ZE} {CT : Nat → ZC} {X : ZK} {Rt : ZR} {ls : ZL} {st : List ZV} {h : ZH} {b : ZB2} (hX : zCl E mX10_delayFor 10 false CT Rt X) (q : bk_X10_delayFor_9 E CT X Rt ls st h b) : X 9 ls st h b := by
  refine hX k_X10_delayFor_9 9 ok_X10_delayFor_9 _ ?_ ls st h b q
  exact fun t ls st h b q => q
def bk_X10_delayFor_16 (E : ZE) (CT : Nat → ZC) (X : ZK) (Rt : ZR) (ls : ZL) (st : List ZV) (h : ZH) (b : ZB2) : Prop := zB E CT k_X10_delayFor_16 16 ls st h b (fun t ls st h b => X t ls st h b) Rt
theorem bs_X10_delayFor_16 {E : ZE} {CT : Nat → ZC} {X : ZK} {Rt : ZR} {ls : ZL} {st : List ZV} {h : ZH} {b : ZB2} (hX : zCl E mX10_delayFor 10 false CT Rt X) (q : bk_X10_delayFor_16 E CT X Rt ls st h b) : X 16 ls st h b := by
  refine hX k_X10_delayFor_16 16 ok_X10_delayFor_16 _ ?_ ls st h b q
  exact fun t ls st h b q => q
def bk_X10_delayFor_24 (E : ZE) (CT : Nat → ZC) (X : ZK) (Rt : ZR) (ls : ZL) (st : List ZV) (h : ZH) (b : ZB2) : Prop := zB E CT k_X10_delayFor_24 24 ls st h b (fun t ls st h b => X t ls st h b) Rt
theorem bs_X10_delayFor_24 {E : ZE} {CT : Nat → ZC} {X : ZK} {Rt : ZR} {ls : ZL} {st : List ZV} {h : ZH} {b : ZB2} (hX : zCl E mX10_delayFor 10 false CT Rt X) (q : bk_X10_delayFor_24 E CT X Rt ls st h b) : X 24 ls st h b := by
  refine hX k_X10_delayFor_24 24 ok_X10_delayFor_24 _ ?_ ls st h b q
  exact fun t ls st h b q => q
def bk_X10_delayFor_35 (E : ZE) (CT : Nat → ZC) (X : ZK) (Rt : ZR) (ls : ZL) (st : List ZV) (h : ZH) (b : ZB2) : Prop := zB E CT k_X10_delayFor_35 35 ls st h b (fun t ls st h b => X t ls st h b) Rt
theorem bs_X10_delayFor_35 {E : ZE} {CT : Nat → ZC} {X : ZK} {Rt : ZR} {ls : ZL} {st : List ZV} {h : ZH} {b : ZB2} (hX : zCl E mX10_delayFor 10 false CT Rt X) (q : bk_X10_delayFor_35 E CT X Rt ls st h b) : X 35 ls st h b := by
  refine hX k_X10_delayFor_35 35 ok_X10_delayFor_35 _ ?_ ls st h b q
  exact fun t ls st h b q => q
def bk_X10_delayFor_54 (E : ZE) (CT : Nat → ZC) (X : ZK) (Rt : ZR) (ls : ZL) (st : List ZV) (h : ZH) (b : ZB2) : Prop := zB E CT k_X10_delayFor_54 54 ls st h b (fun t ls st h b => X t ls st h b) Rt
theorem bs_X10_delayFor_54 {E : ZE} {CT : Nat → ZC} {X : ZK} {Rt : ZR} {ls : ZL} {st : List ZV} {h : ZH} {b : ZB2} (hX : zCl E mX10_delayFor 10 false CT Rt X) (q : bk_X10_delayFor_54 E CT X Rt ls st h b) : X 54 ls st h b := by
  refine hX k_X10_delayFor_54 54 ok_X10_delayFor_54 _ ?_ ls st h b q
  exact fun t ls st h b q => q
def bk_X10_delayFor_66 (E : ZE) (CT : Nat → ZC) (X : ZK) (Rt : ZR) (ls : ZL) (st : List ZV) (h : ZH) (b : ZB2) : Prop := zB E CT k_X10_delayFor_66 66 ls st h b (fun t ls st h b => X t ls st h b) Rt
theorem bs_X10_delayFor_66 {E : ZE} {CT : Nat → ZC} {X : ZK} {Rt : ZR} {ls : ZL} {st : List ZV} {h : ZH} {b : ZB2} (hX : zCl E mX10_delayFor 10 false CT Rt X) (q : bk_X10_delayFor_66 E CT X Rt ls st h b) : X 66 ls st h b := by
  refine hX k_X10_delayFor_66 66 ok_X10_delayFor_66 _ ?_ ls st h b q
  exact fun t ls st h b q => q
def bk_X10_delayFor_72 (E : ZE) (CT : Nat → ZC) (X : ZK) (Rt : ZR) (ls : ZL) (st : List ZV) (h : ZH) (b : ZB2) : Prop := zB E CT k_X10_delayFor_72 72 ls st h b (fun t ls st h b => X t ls st h b) Rt
theorem bs_X10_delayFor_72 {E : ZE} {CT : Nat → ZC} {X : ZK} {Rt : ZR} {ls : ZL} {st : List ZV} {h : ZH} {b : ZB2} (hX : zCl E mX10_delayFor 10 false CT Rt X) (q : bk_X10_delayFor_72 E CT X Rt ls st h b) : X 72 ls st h b := by
  refine hX k_X10_delayFor_72 72 ok_X10_delayFor_72 _ ?_ ls st h b q
  exact fun t ls st h b q => q
-- X10_delayFor: cuts [9, 16, 24, 35, 54, 66, 72]
def k_X10_powerFor_0 : List ZI := [(.iload_n 1, 1, (0, [1], [])), (.iconst 1, 1, (0, [], [])), (.invokestatic 92, 3, (0, [111, 2, 0, 10], [])), (.ifCond .ne 21, 3, (0, [26], []))]
theorem ok_X10_powerFor_0 : zOK cX10_powerFor 10 false 5 k_X10_powerFor_0 0 = true := zOK_by (by decide +kernel)
def k_X10_powerFor_8 : List ZI := [(.iload_n 2, 1, (0, [2], [])), (.bipush 60, 2, (0, [], [])), (.invokestatic 92, 3, (0, [111, 2, 0, 10], [])), (.ifCond .ne 12, 3, (0, [26], []))]
theorem ok_X10_powerFor_8 : zOK cX10_powerFor 10 false 5 k_X10_powerFor_8 8 = true := zOK_by (by decide +kernel)
def k_X10_powerFor_17 : List ZI := [(.iload_n 3, 1, (0, [3], [])), (.bipush 14, 2, (0, [], [])), (.invokestatic 92, 3, (0, [111, 2, 0, 10], [])), (.ifCond .eq 10, 3, (0, [33], []))]
theorem ok_X10_powerFor_17 : zOK cX10_powerFor 10 false 5 k_X10_powerFor_17 17 = true := zOK_by (by decide +kernel)
def k_X10_powerFor_26 : List ZI := [(.aload_n 0, 1, (0, [0], [])), (.ldc 96, 2, ((-1000000001), [], [])), (.invokevirtual 97, 3, (0, [110, 2, 0, 10], [])), (.ireturn, 1, (0, [], []))]
theorem ok_X10_powerFor_26 : zOK cX10_powerFor 10 false 5 k_X10_powerFor_26 26 = true := zOK_by (by decide +kernel)
def k_X10_powerFor_33 : List ZI := [(.iconst 0, 1, (0, [], [])), (.istore 4, 2, (0, [4], []))]
theorem ok_X10_powerFor_33 : zOK cX10_powerFor 10 false 5 k_X10_powerFor_33 33 = true := zOK_by (by decide +kernel)
def k_X10_powerFor_36 : List ZI := [(.iload 4, 2, (0, [4], [])), (.bipush 20, 2, (0, [], [])), (.if_icmp .gt 39, 3, (0, [79], [])), (.aload_n 0, 1, (0, [0], [])), (.invokevirtual 210, 3, (0, [113, 1, 0, 10], []))]
theorem ok_X10_powerFor_36 : zOK cX10_powerFor 10 false 5 k_X10_powerFor_36 36 = true := zOK_by (by decide +kernel)
def k_X10_powerFor_47 : List ZI := [(.aload_n 0, 1, (0, [0], [])), (.getfield 49, 3, (0, [10, 3], [])), (.getfield 216, 3, (0, [1, 0], [])), (.getfield 121, 3, (0, [2, 3], [])), (.iload_n 1, 1, (0, [1], [])), (.iload 4, 2, (0, [4], [])), (.iastore, 1, (0, [], [])), (.aload_n 0, 1, (0, [0], [])), (.iload_n 2, 1, (0, [2], [])), (.invokevirtual 213, 3, (0, [114, 2, 0, 10], []))]
theorem ok_X10_powerFor_47 : zOK cX10_powerFor 10 false 5 k_X10_powerFor_47 47 = true := zOK_by (by decide +kernel)
def k_X10_powerFor_66 : List ZI := [(.iload_n 3, 1, (0, [3], [])), (.if_icmp .gt 6, 3, (0, [73], [])), (.iload 4, 2, (0, [4], [])), (.ireturn, 1, (0, [], []))]
theorem ok_X10_powerFor_66 : zOK cX10_powerFor 10 false 5 k_X10_powerFor_66 66 = true := zOK_by (by decide +kernel)
def k_X10_powerFor_73 : List ZI := [(.iinc 4 1, 3, (0, [4], [])), (.goto (-40), 3, (0, [36], []))]
theorem ok_X10_powerFor_73 : zOK cX10_powerFor 10 false 5 k_X10_powerFor_73 73 = true := zOK_by (by decide +kernel)
def k_X10_powerFor_79 : List ZI := [(.aload_n 0, 1, (0, [0], [])), (.ldc 217, 2, ((-1000000002), [], [])), (.invokevirtual 97, 3, (0, [110, 2, 0, 10], [])), (.ireturn, 1, (0, [], []))]
theorem ok_X10_powerFor_79 : zOK cX10_powerFor 10 false 5 k_X10_powerFor_79 79 = true := zOK_by (by decide +kernel)
theorem rt_X10_powerFor {g : Nat} {post : Option ZV → ZH → Prop} {h : ZH} {b : ZB2} {z : Int} : zRt mX10_powerFor g post (some (.inl z)) h b = (post (some (.inl z)) h ∧ h.1.length = g) := by show (_ ∧ _ ∧ True) = _; simp
def bk_X10_powerFor_0 (E : ZE) (CT : Nat → ZC) (X : ZK) (Rt : ZR) (ls : ZL) (st : List ZV) (h : ZH) (b : ZB2) : Prop := zB E CT k_X10_powerFor_0 0 ls st h b (fun t ls st h b => X t ls st h b) Rt
theorem bs_X10_powerFor_0 {E : ZE} {CT : Nat → ZC} {X : ZK} {Rt : ZR} {ls : ZL} {st : List ZV} {h : ZH} {b : ZB2} (hX : zCl E mX10_powerFor 10 false CT Rt X) (q : bk_X10_powerFor_0 E CT X Rt ls st h b) : X 0 ls st h b := by
  refine hX k_X10_powerFor_0 0 ok_X10_powerFor_0 _ ?_ ls st h b q
  exact fun t ls st h b q => q
def bk_X10_powerFor_8 (E : ZE) (CT : Nat → ZC) (X : ZK) (Rt : ZR) (ls : ZL) (st : List ZV) (h : ZH) (b : ZB2) : Prop := zB E CT k_X10_powerFor_8 8 ls st h b (fun t ls st h b => X t ls st h b) Rt
theorem bs_X10_powerFor_8 {E : ZE} {CT : Nat → ZC} {X : ZK} {Rt : ZR} {ls : ZL} {st : List ZV} {h : ZH} {b : ZB2} (hX : zCl E mX10_powerFor 10 false CT Rt X) (q : bk_X10_powerFor_8 E CT X Rt ls st h b) : X 8 ls st h b := by
  refine hX k_X10_powerFor_8 8 ok_X10_powerFor_8 _ ?_ ls st h b q
  exact fun t ls st h b q => q
def bk_X10_powerFor_17 (E : ZE) (CT : Nat → ZC) (X : ZK) (Rt : ZR) (ls : ZL) (st : List ZV) (h : ZH) (b : ZB2) : Prop := zB E CT k_X10_powerFor_17 17 ls st h b (fun t ls st h b => X t ls st h b) Rt
theorem bs_X10_powerFor_17 {E : ZE} {CT : Nat → ZC} {X : ZK} {Rt : ZR} {ls : ZL} {st : List ZV} {h : ZH} {b : ZB2} (hX : zCl E mX10_powerFor 10 false CT Rt X) (q : bk_X10_powerFor_17 E CT X Rt ls st h b) : X 17 ls st h b := by
  refine hX k_X10_powerFor_17 17 ok_X10_powerFor_17 _ ?_ ls st h b q
  exact fun t ls st h b q => q
def bk_X10_powerFor_26 (E : ZE) (CT : Nat → ZC) (X : ZK) (Rt : ZR) (ls : ZL) (st : List ZV) (h : ZH) (b : ZB2) : Prop := zB E CT k_X10_powerFor_26 26 ls st h b (fun t ls st h b => X t ls st h b) Rt
theorem bs_X10_powerFor_26 {E : ZE} {CT : Nat → ZC} {X : ZK} {Rt : ZR} {ls : ZL} {st : List ZV} {h : ZH} {b : ZB2} (hX : zCl E mX10_powerFor 10 false CT Rt X) (q : bk_X10_powerFor_26 E CT X Rt ls st h b) : X 26 ls st h b := by
  refine hX k_X10_powerFor_26 26 ok_X10_powerFor_26 _ ?_ ls st h b q
  exact fun t ls st h b q => q
def bk_X10_powerFor_33 (E : ZE) (CT : Nat → ZC) (X : ZK) (Rt : ZR) (ls : ZL) (st : List ZV) (h : ZH) (b : ZB2) : Prop := zB E CT k_X10_powerFor_33 33 ls st h b (fun t ls st h b => X t ls st h b) Rt
theorem bs_X10_powerFor_33 {E : ZE} {CT : Nat → ZC} {X : ZK} {Rt : ZR} {ls : ZL} {st : List ZV} {h : ZH} {b : ZB2} (hX : zCl E mX10_powerFor 10 false CT Rt X) (q : bk_X10_powerFor_33 E CT X Rt ls st h b) : X 33 ls st h b := by
  refine hX k_X10_powerFor_33 33 ok_X10_powerFor_33 _ ?_ ls st h b q
  exact fun t ls st h b q => q
def bk_X10_powerFor_36 (E : ZE) (CT : Nat → ZC) (X : ZK) (Rt : ZR) (ls : ZL) (st : List ZV) (h : ZH) (b : ZB2) : Prop := zB E CT k_X10_powerFor_36 36 ls st h b (fun t ls st h b => X t ls st h b) Rt
theorem bs_X10_powerFor_36 {E : ZE} {CT : Nat → ZC} {X : ZK} {Rt : ZR} {ls : ZL} {st : List ZV} {h : ZH} {b : ZB2} (hX : zCl E mX10_powerFor 10 false CT Rt X) (q : bk_X10_powerFor_36 E CT X Rt ls st h b) : X 36 ls st h b := by
  refine hX k_X10_powerFor_36 36 ok_X10_powerFor_36 _ ?_ ls st h b q
  exact fun t ls st h b q => q
def bk_X10_powerFor_47 (E : ZE) (CT : Nat → ZC) (X : ZK) (Rt : ZR) (ls : ZL) (st : List ZV) (h : ZH) (b : ZB2) : Prop := zB E CT k_X10_powerFor_47 47 ls st h b (fun t ls st h b => X t ls st h b) Rt
theorem bs_X10_powerFor_47 {E : ZE} {CT : Nat → ZC} {X : ZK} {Rt : ZR} {ls : ZL} {st : List ZV} {h : ZH} {b : ZB2} (hX : zCl E mX10_powerFor 10 false CT Rt X) (q : bk_X10_powerFor_47 E CT X Rt ls st h b) : X 47 ls st h b := by
  refine hX k_X10_powerFor_47 47 ok_X10_powerFor_47 _ ?_ ls st h b q
  exact fun t ls st h b q => q
def bk_X10_powerFor_66 (E : ZE) (CT : Nat → ZC) (X : ZK) (Rt : ZR) (ls : ZL) (st : List ZV) (h : ZH) (b : ZB2) : Prop := zB E CT k_X10_powerFor_66 66 ls st h b (fun t ls st h b => X t ls st h b) Rt
theorem bs_X10_powerFor_66 {E : ZE} {CT : Nat → ZC} {X : ZK} {Rt : ZR} {ls : ZL} {st : List ZV} {h : ZH} {b : ZB2} (hX : zCl E mX10_powerFor 10 false CT Rt X) (q : bk_X10_powerFor_66 E CT X Rt ls st h b) : X 66 ls st h b := by
  refine hX k_X10_powerFor_66 66 ok_X10_powerFor_66 _ ?_ ls st h b q
  exact fun t ls st h b q => q
def bk_X10_powerFor_73 (E : ZE) (CT : Nat → ZC) (X : ZK) (Rt : ZR) (ls : ZL) (st : List ZV) (h : ZH) (b : ZB2) : Prop := zB E CT k_X10_powerFor_73 73 ls st h b (fun t ls st h b => X t ls st h b) Rt
theorem bs_X10_powerFor_73 {E : ZE} {CT : Nat → ZC} {X : ZK} {Rt : ZR} {ls : ZL} {st : List ZV} {h : ZH} {b : ZB2} (hX : zCl E mX10_powerFor 10 false CT Rt X) (q : bk_X10_powerFor_73 E CT X Rt ls st h b) : X 73 ls st h b := by
  refine hX k_X10_powerFor_73 73 ok_X10_powerFor_73 _ ?_ ls st h b q
  exact fun t ls st h b q => q
def bk_X10_powerFor_79 (E : ZE) (CT : Nat → ZC) (X : ZK) (Rt : ZR) (ls : ZL) (st : List ZV) (h : ZH) (b : ZB2) : Prop := zB E CT k_X10_powerFor_79 79 ls st h b (fun t ls st h b => X t ls st h b) Rt
theorem bs_X10_powerFor_79 {E : ZE} {CT : Nat → ZC} {X : ZK} {Rt : ZR} {ls : ZL} {st : List ZV} {h : ZH} {b : ZB2} (hX : zCl E mX10_powerFor 10 false CT Rt X) (q : bk_X10_powerFor_79 E CT X Rt ls st h b) : X 79 ls st h b := by
  refine hX k_X10_powerFor_79 79 ok_X10_powerFor_79 _ ?_ ls st h b q
  exact fun t ls st h b q => q
-- X10_powerFor: cuts [8, 17, 26, 33, 36, 47, 66, 73, 79]
def k_X10_needless_0 : List ZI := [(.iload_n 1, 1, (0, [1], [])), (.bipush 60, 2, (0, [], [])), (.invokestatic 92, 3, (0, [111, 2, 0, 10], [])), (.ifCond .eq 10, 3, (0, [16], []))]
theorem ok_X10_needless_0 : zOK cX10_needless 10 false 5 k_X10_needless_0 0 = true := zOK_by (by decide +kernel)
def k_X10_needless_9 : List ZI := [(.aload_n 0, 1, (0, [0], [])), (.ldc 96, 2, ((-1000000001), [], [])), (.invokevirtual 97, 3, (0, [110, 2, 0, 10], [])), (.ireturn, 1, (0, [], []))]
theorem ok_X10_needless_9 : zOK cX10_needless 10 false 5 k_X10_needless_9 9 = true := zOK_by (by decide +kernel)
def k_X10_needless_16 : List ZI := [(.aload_n 0, 1, (0, [0], [])), (.invokevirtual 210, 3, (0, [113, 1, 0, 10], [])), (.aload_n 0, 1, (0, [0], [])), (.iload_n 1, 1, (0, [1], [])), (.invokevirtual 213, 3, (0, [114, 2, 0, 10], [])), (.istore_n 2, 1, (0, [2], []))]
theorem ok_X10_needless_16 : zOK cX10_needless 10 false 5 k_X10_needless_16 16 = true := zOK_by (by decide +kernel)
def k_X10_needless_26 : List ZI := [(.iconst 0, 1, (0, [], [])), (.istore_n 3, 1, (0, [3], [])), (.iconst 0, 1, (0, [], [])), (.istore 4, 2, (0, [4], []))]
theorem ok_X10_needless_26 : zOK cX10_needless 10 false 5 k_X10_needless_26 26 = true := zOK_by (by decide +kernel)
def k_X10_needless_31 : List ZI := [(.iload 4, 2, (0, [4], [])), (.aload_n 0, 1, (0, [0], [])), (.getfield 12, 3, (0, [10, 0], [])), (.getfield 25, 3, (0, [6, 1], [])), (.getfield 140, 3, (0, [0, 3], [])), (.if_icmp .ge 43, 3, (0, [86], []))]
theorem ok_X10_needless_31 : zOK cX10_needless 10 false 5 k_X10_needless_31 31 = true := zOK_by (by decide +kernel)
def k_X10_needless_46 : List ZI := [(.aload_n 0, 1, (0, [0], [])), (.invokevirtual 210, 3, (0, [113, 1, 0, 10], []))]
theorem ok_X10_needless_46 : zOK cX10_needless 10 false 5 k_X10_needless_46 46 = true := zOK_by (by decide +kernel)
def k_X10_needless_50 : List ZI := [(.aload_n 0, 1, (0, [0], [])), (.getfield 49, 3, (0, [10, 3], [])), (.getfield 218, 3, (0, [1, 1], [])), (.getfield 150, 3, (0, [0, 2], [])), (.iload 4, 2, (0, [4], [])), (.iconst 2, 1, (0, [], [])), (.iastore, 1, (0, [], [])), (.aload_n 0, 1, (0, [0], [])), (.iload_n 1, 1, (0, [1], [])), (.invokevirtual 213, 3, (0, [114, 2, 0, 10], []))]
theorem ok_X10_needless_50 : zOK cX10_needless 10 false 5 k_X10_needless_50 50 = true := zOK_by (by decide +kernel)
def k_X10_needless_69 : List ZI := [(.iload_n 2, 1, (0, [2], [])), (.if_icmp .gt 10, 3, (0, [80], [])), (.iload_n 3, 1, (0, [3], [])), (.iconst 1, 1, (0, [], [])), (.iload 4, 2, (0, [4], [])), (.ishl, 1, (0, [], [])), (.ior, 1, (0, [], [])), (.istore_n 3, 1, (0, [3], []))]
theorem ok_X10_needless_69 : zOK cX10_needless 10 false 5 k_X10_needless_69 69 = true := zOK_by (by decide +kernel)
def k_X10_needless_80 : List ZI := [(.iinc 4 1, 3, (0, [4], [])), (.goto (-52), 3, (0, [31], []))]
theorem ok_X10_needless_80 : zOK cX10_needless 10 false 5 k_X10_needless_80 80 = true := zOK_by (by decide +kernel)
def k_X10_needless_86 : List ZI := [(.iload_n 3, 1, (0, [3], [])), (.ireturn, 1, (0, [], []))]
theorem ok_X10_needless_86 : zOK cX10_needless 10 false 5 k_X10_needless_86 86 = true := zOK_by (by decide +kernel)
theorem rt_X10_needless {g : Nat} {post : Option ZV → ZH → Prop} {h : ZH} {b : ZB2} {z : Int} : zRt mX10_needless g post (some (.inl z)) h b = (post (some (.inl z)) h ∧ h.1.length = g) := by show (_ ∧ _ ∧ True) = _; simp
def bk_X10_needless_0 (E : ZE) (CT : Nat → ZC) (X : ZK) (Rt : ZR) (ls : ZL) (st : List ZV) (h : ZH) (b : ZB2) : Prop := zB E CT k_X10_needless_0 0 ls st h b (fun t ls st h b => X t ls st h b) Rt
theorem bs_X10_needless_0 {E : ZE} {CT : Nat → ZC} {X : ZK} {Rt : ZR} {ls : ZL} {st : List ZV} {h : ZH} {b : ZB2} (hX : zCl E mX10_needless 10 false CT Rt X) (q : bk_X10_needless_0 E CT X Rt ls st h b) : X 0 ls st h b := by
  refine hX k_X10_needless_0 0 ok_X10_needless_0 _ ?_ ls st h b q
  exact fun t ls st h b q => q
def bk_X10_needless_9 (E : ZE) (CT : Nat → ZC) (X : ZK) (Rt : ZR) (ls : ZL) (st : List ZV) (h : ZH) (b : ZB2) : Prop := zB E CT k_X10_needless_9 9 ls st h b (fun t ls st h b => X t ls st h b) Rt
theorem bs_X10_needless_9 {E : ZE} {CT : Nat → ZC} {X : ZK} {Rt : ZR} {ls : ZL} {st : List ZV} {h : ZH} {b : ZB2} (hX : zCl E mX10_needless 10 false CT Rt X) (q : bk_X10_needless_9 E CT X Rt ls st h b) : X 9 ls st h b := by
  refine hX k_X10_needless_9 9 ok_X10_needless_9 _ ?_ ls st h b q
  exact fun t ls st h b q => q
def bk_X10_needless_16 (E : ZE) (CT : Nat → ZC) (X : ZK) (Rt : ZR) (ls : ZL) (st : List ZV) (h : ZH) (b : ZB2) : Prop := zB E CT k_X10_needless_16 16 ls st h b (fun t ls st h b => X t ls st h b) Rt
theorem bs_X10_needless_16 {E : ZE} {CT : Nat → ZC} {X : ZK} {Rt : ZR} {ls : ZL} {st : List ZV} {h : ZH} {b : ZB2} (hX : zCl E mX10_needless 10 false CT Rt X) (q : bk_X10_needless_16 E CT X Rt ls st h b) : X 16 ls st h b := by
  refine hX k_X10_needless_16 16 ok_X10_needless_16 _ ?_ ls st h b q
  exact fun t ls st h b q => q
def bk_X10_needless_26 (E : ZE) (CT : Nat → ZC) (X : ZK) (Rt : ZR) (ls : ZL) (st : List ZV) (h : ZH) (b : ZB2) : Prop := zB E CT k_X10_needless_26 26 ls st h b (fun t ls st h b => X t ls st h b) Rt
theorem bs_X10_needless_26 {E : ZE} {CT : Nat → ZC} {X : ZK} {Rt : ZR} {ls : ZL} {st : List ZV} {h : ZH} {b : ZB2} (hX : zCl E mX10_needless 10 false CT Rt X) (q : bk_X10_needless_26 E CT X Rt ls st h b) : X 26 ls st h b := by
  refine hX k_X10_needless_26 26 ok_X10_needless_26 _ ?_ ls st h b q
  exact fun t ls st h b q => q
def bk_X10_needless_31 (E : ZE) (CT : Nat → ZC) (X : ZK) (Rt : ZR) (ls : ZL) (st : List ZV) (h : ZH) (b : ZB2) : Prop := zB E CT k_X10_needless_31 31 ls st h b (fun t ls st h b => X t ls st h b) Rt
theorem bs_X10_needless_31 {E : ZE} {CT : Nat → ZC} {X : ZK} {Rt : ZR} {ls : ZL} {st : List ZV} {h : ZH} {b : ZB2} (hX : zCl E mX10_needless 10 false CT Rt X) (q : bk_X10_needless_31 E CT X Rt ls st h b) : X 31 ls st h b := by
  refine hX k_X10_needless_31 31 ok_X10_needless_31 _ ?_ ls st h b q
  exact fun t ls st h b q => q
def bk_X10_needless_46 (E : ZE) (CT : Nat → ZC) (X : ZK) (Rt : ZR) (ls : ZL) (st : List ZV) (h : ZH) (b : ZB2) : Prop := zB E CT k_X10_needless_46 46 ls st h b (fun t ls st h b => X t ls st h b) Rt
theorem bs_X10_needless_46 {E : ZE} {CT : Nat → ZC} {X : ZK} {Rt : ZR} {ls : ZL} {st : List ZV} {h : ZH} {b : ZB2} (hX : zCl E mX10_needless 10 false CT Rt X) (q : bk_X10_needless_46 E CT X Rt ls st h b) : X 46 ls st h b := by
  refine hX k_X10_needless_46 46 ok_X10_needless_46 _ ?_ ls st h b q
  exact fun t ls st h b q => q
def bk_X10_needless_50 (E : ZE) (CT : Nat → ZC) (X : ZK) (Rt : ZR) (ls : ZL) (st : List ZV) (h : ZH) (b : ZB2) : Prop := zB E CT k_X10_needless_50 50 ls st h b (fun t ls st h b => X t ls st h b) Rt
theorem bs_X10_needless_50 {E : ZE} {CT : Nat → ZC} {X : ZK} {Rt : ZR} {ls : ZL} {st : List ZV} {h : ZH} {b : ZB2} (hX : zCl E mX10_needless 10 false CT Rt X) (q : bk_X10_needless_50 E CT X Rt ls st h b) : X 50 ls st h b := by
  refine hX k_X10_needless_50 50 ok_X10_needless_50 _ ?_ ls st h b q
  exact fun t ls st h b q => q
def bk_X10_needless_69 (E : ZE) (CT : Nat → ZC) (X : ZK) (Rt : ZR) (ls : ZL) (st : List ZV) (h : ZH) (b : ZB2) : Prop := zB E CT k_X10_needless_69 69 ls st h b (fun t ls st h b => X t ls st h b) Rt
theorem bs_X10_needless_69 {E : ZE} {CT : Nat → ZC} {X : ZK} {Rt : ZR} {ls : ZL} {st : List ZV} {h : ZH} {b : ZB2} (hX : zCl E mX10_needless 10 false CT Rt X) (q : bk_X10_needless_69 E CT X Rt ls st h b) : X 69 ls st h b := by
  refine hX k_X10_needless_69 69 ok_X10_needless_69 _ ?_ ls st h b q
  exact fun t ls st h b q => q
def bk_X10_needless_80 (E : ZE) (CT : Nat → ZC) (X : ZK) (Rt : ZR) (ls : ZL) (st : List ZV) (h : ZH) (b : ZB2) : Prop := zB E CT k_X10_needless_80 80 ls st h b (fun t ls st h b => X t ls st h b) Rt
theorem bs_X10_needless_80 {E : ZE} {CT : Nat → ZC} {X : ZK} {Rt : ZR} {ls : ZL} {st : List ZV} {h : ZH} {b : ZB2} (hX : zCl E mX10_needless 10 false CT Rt X) (q : bk_X10_needless_80 E CT X Rt ls st h b) : X 80 ls st h b := by
  refine hX k_X10_needless_80 80 ok_X10_needless_80 _ ?_ ls st h b q
  exact fun t ls st h b q => q
def bk_X10_needless_86 (E : ZE) (CT : Nat → ZC) (X : ZK) (Rt : ZR) (ls : ZL) (st : List ZV) (h : ZH) (b : ZB2) : Prop := zB E CT k_X10_needless_86 86 ls st h b (fun t ls st h b => X t ls st h b) Rt
theorem bs_X10_needless_86 {E : ZE} {CT : Nat → ZC} {X : ZK} {Rt : ZR} {ls : ZL} {st : List ZV} {h : ZH} {b : ZB2} (hX : zCl E mX10_needless 10 false CT Rt X) (q : bk_X10_needless_86 E CT X Rt ls st h b) : X 86 ls st h b := by
  refine hX k_X10_needless_86 86 ok_X10_needless_86 _ ?_ ls st h b q
  exact fun t ls st h b q => q
-- X10_needless: cuts [9, 16, 26, 31, 46, 50, 69, 80, 86]
def k_X10_odds_0 : List ZI := [(.iload_n 1, 1, (0, [1], [])), (.bipush 30, 2, (0, [], [])), (.invokestatic 92, 3, (0, [111, 2, 0, 10], [])), (.ifCond .ne 20, 3, (0, [26], []))]
theorem ok_X10_odds_0 : zOK cX10_odds 10 false 7 k_X10_odds_0 0 = true := zOK_by (by decide +kernel)
def k_X10_odds_9 : List ZI := [(.iload_n 2, 1, (0, [2], [])), (.bipush 14, 2, (0, [], [])), (.invokestatic 92, 3, (0, [111, 2, 0, 10], [])), (.ifCond .ne 11, 3, (0, [26], []))]
theorem ok_X10_odds_9 : zOK cX10_odds 10 false 7 k_X10_odds_9 9 = true := zOK_by (by decide +kernel)
def k_X10_odds_18 : List ZI := [(.iload_n 3, 1, (0, [3], [])), (.iconst 1, 1, (0, [], [])), (.invokestatic 92, 3, (0, [111, 2, 0, 10], [])), (.ifCond .eq 10, 3, (0, [33], []))]
theorem ok_X10_odds_18 : zOK cX10_odds 10 false 7 k_X10_odds_18 18 = true := zOK_by (by decide +kernel)
def k_X10_odds_26 : List ZI := [(.aload_n 0, 1, (0, [0], [])), (.ldc 96, 2, ((-1000000001), [], [])), (.invokevirtual 97, 3, (0, [110, 2, 0, 10], [])), (.ireturn, 1, (0, [], []))]
theorem ok_X10_odds_26 : zOK cX10_odds 10 false 7 k_X10_odds_26 26 = true := zOK_by (by decide +kernel)
def k_X10_odds_33 : List ZI := [(.iconst 0, 1, (0, [], [])), (.istore 4, 2, (0, [4], [])), (.iconst 0, 1, (0, [], [])), (.istore 5, 2, (0, [5], []))]
theorem ok_X10_odds_33 : zOK cX10_odds 10 false 7 k_X10_odds_33 33 = true := zOK_by (by decide +kernel)
def k_X10_odds_39 : List ZI := [(.iload 5, 2, (0, [5], [])), (.bipush 9, 2, (0, [], [])), (.if_icmp .gt 37, 3, (0, [80], [])), (.aload_n 0, 1, (0, [0], [])), (.invokevirtual 210, 3, (0, [113, 1, 0, 10], []))]
theorem ok_X10_odds_39 : zOK cX10_odds 10 false 7 k_X10_odds_39 39 = true := zOK_by (by decide +kernel)
def k_X10_odds_50 : List ZI := [(.aload_n 0, 1, (0, [0], [])), (.getfield 49, 3, (0, [10, 3], [])), (.getfield 216, 3, (0, [1, 0], [])), (.iload 5, 2, (0, [5], [])), (.putfield 136, 3, (0, [2, 8], [])), (.aload_n 0, 1, (0, [0], [])), (.iload_n 1, 1, (0, [1], [])), (.invokevirtual 213, 3, (0, [114, 2, 0, 10], []))]
theorem ok_X10_odds_50 : zOK cX10_odds 10 false 7 k_X10_odds_50 50 = true := zOK_by (by decide +kernel)
def k_X10_odds_67 : List ZI := [(.iload_n 2, 1, (0, [2], [])), (.if_icmp .gt 6, 3, (0, [74], [])), (.iinc 4 1, 3, (0, [4], []))]
theorem ok_X10_odds_67 : zOK cX10_odds 10 false 7 k_X10_odds_67 67 = true := zOK_by (by decide +kernel)
def k_X10_odds_74 : List ZI := [(.iinc 5 1, 3, (0, [5], [])), (.goto (-38), 3, (0, [39], []))]
theorem ok_X10_odds_74 : zOK cX10_odds 10 false 7 k_X10_odds_74 74 = true := zOK_by (by decide +kernel)
def k_X10_odds_80 : List ZI := [(.bipush 10, 2, (0, [], [])), (.istore 5, 2, (0, [5], [])), (.iload 4, 2, (0, [4], [])), (.iload 5, 2, (0, [5], [])), (.invokestatic 240, 3, (0, [116, 2, 0, 10], [])), (.istore 6, 2, (0, [6], [])), (.iload_n 3, 1, (0, [3], [])), (.ifCond .ne 11, 3, (0, [105], [])), (.iload 4, 2, (0, [4], [])), (.iload 6, 2, (0, [6], [])), (.idiv, 1, (0, [], [])), (.goto 8, 3, (0, [110], []))]
theorem ok_X10_odds_80 : zOK cX10_odds 10 false 7 k_X10_odds_80 80 = true := zOK_by (by decide +kernel)
def k_X10_odds_105 : List ZI := [(.iload 5, 2, (0, [5], [])), (.iload 6, 2, (0, [6], [])), (.idiv, 1, (0, [], []))]
theorem ok_X10_odds_105 : zOK cX10_odds 10 false 7 k_X10_odds_105 105 = true := zOK_by (by decide +kernel)
def k_X10_odds_110 : List ZI := [(.ireturn, 1, (0, [], []))]
theorem ok_X10_odds_110 : zOK cX10_odds 10 false 7 k_X10_odds_110 110 = true := zOK_by (by decide +kernel)
theorem rt_X10_odds {g : Nat} {post : Option ZV → ZH → Prop} {h : ZH} {b : ZB2} {z : Int} : zRt mX10_odds g post (some (.inl z)) h b = (post (some (.inl z)) h ∧ h.1.length = g) := by show (_ ∧ _ ∧ True) = _; simp
def bk_X10_odds_0 (E : ZE) (CT : Nat → ZC) (X : ZK) (Rt : ZR) (ls : ZL) (st : List ZV) (h : ZH) (b : ZB2) : Prop := zB E CT k_X10_odds_0 0 ls st h b (fun t ls st h b => X t ls st h b) Rt
theorem bs_X10_odds_0 {E : ZE} {CT : Nat → ZC} {X : ZK} {Rt : ZR} {ls : ZL} {st : List ZV} {h : ZH} {b : ZB2} (hX : zCl E mX10_odds 10 false CT Rt X) (q : bk_X10_odds_0 E CT X Rt ls st h b) : X 0 ls st h b := by
  refine hX k_X10_odds_0 0 ok_X10_odds_0 _ ?_ ls st h b q
  exact fun t ls st h b q => q
def bk_X10_odds_9 (E : ZE) (CT : Nat → ZC) (X : ZK) (Rt : ZR) (ls : ZL) (st : List ZV) (h : ZH) (b : ZB2) : Prop := zB E CT k_X10_odds_9 9 ls st h b (fun t ls st h b => X t ls st h b) Rt
theorem bs_X10_odds_9 {E : ZE} {CT : Nat → ZC} {X : ZK} {Rt : ZR} {ls : ZL} {st : List ZV} {h : ZH} {b : ZB2} (hX : zCl E mX10_odds 10 false CT Rt X) (q : bk_X10_odds_9 E CT X Rt ls st h b) : X 9 ls st h b := by
  refine hX k_X10_odds_9 9 ok_X10_odds_9 _ ?_ ls st h b q
  exact fun t ls st h b q => q
def bk_X10_odds_18 (E : ZE) (CT : Nat → ZC) (X : ZK) (Rt : ZR) (ls : ZL) (st : List ZV) (h : ZH) (b : ZB2) : Prop := zB E CT k_X10_odds_18 18 ls st h b (fun t ls st h b => X t ls st h b) Rt
theorem bs_X10_odds_18 {E : ZE} {CT : Nat → ZC} {X : ZK} {Rt : ZR} {ls : ZL} {st : List ZV} {h : ZH} {b : ZB2} (hX : zCl E mX10_odds 10 false CT Rt X) (q : bk_X10_odds_18 E CT X Rt ls st h b) : X 18 ls st h b := by
  refine hX k_X10_odds_18 18 ok_X10_odds_18 _ ?_ ls st h b q
  exact fun t ls st h b q => q
def bk_X10_odds_26 (E : ZE) (CT : Nat → ZC) (X : ZK) (Rt : ZR) (ls : ZL) (st : List ZV) (h : ZH) (b : ZB2) : Prop := zB E CT k_X10_odds_26 26 ls st h b (fun t ls st h b => X t ls st h b) Rt
theorem bs_X10_odds_26 {E : ZE} {CT : Nat → ZC} {X : ZK} {Rt : ZR} {ls : ZL} {st : List ZV} {h : ZH} {b : ZB2} (hX : zCl E mX10_odds 10 false CT Rt X) (q : bk_X10_odds_26 E CT X Rt ls st h b) : X 26 ls st h b := by
  refine hX k_X10_odds_26 26 ok_X10_odds_26 _ ?_ ls st h b q
  exact fun t ls st h b q => q
def bk_X10_odds_33 (E : ZE) (CT : Nat → ZC) (X : ZK) (Rt : ZR) (ls : ZL) (st : List ZV) (h : ZH) (b : ZB2) : Prop := zB E CT k_X10_odds_33 33 ls st h b (fun t ls st h b => X t ls st h b) Rt
theorem bs_X10_odds_33 {E : ZE} {CT : Nat → ZC} {X : ZK} {Rt : ZR} {ls : ZL} {st : List ZV} {h : ZH} {b : ZB2} (hX : zCl E mX10_odds 10 false CT Rt X) (q : bk_X10_odds_33 E CT X Rt ls st h b) : X 33 ls st h b := by
  refine hX k_X10_odds_33 33 ok_X10_odds_33 _ ?_ ls st h b q
  exact fun t ls st h b q => q
def bk_X10_odds_39 (E : ZE) (CT : Nat → ZC) (X : ZK) (Rt : ZR) (ls : ZL) (st : List ZV) (h : ZH) (b : ZB2) : Prop := zB E CT k_X10_odds_39 39 ls st h b (fun t ls st h b => X t ls st h b) Rt
theorem bs_X10_odds_39 {E : ZE} {CT : Nat → ZC} {X : ZK} {Rt : ZR} {ls : ZL} {st : List ZV} {h : ZH} {b : ZB2} (hX : zCl E mX10_odds 10 false CT Rt X) (q : bk_X10_odds_39 E CT X Rt ls st h b) : X 39 ls st h b := by
  refine hX k_X10_odds_39 39 ok_X10_odds_39 _ ?_ ls st h b q
  exact fun t ls st h b q => q
def bk_X10_odds_50 (E : ZE) (CT : Nat → ZC) (X : ZK) (Rt : ZR) (ls : ZL) (st : List ZV) (h : ZH) (b : ZB2) : Prop := zB E CT k_X10_odds_50 50 ls st h b (fun t ls st h b => X t ls st h b) Rt
theorem bs_X10_odds_50 {E : ZE} {CT : Nat → ZC} {X : ZK} {Rt : ZR} {ls : ZL} {st : List ZV} {h : ZH} {b : ZB2} (hX : zCl E mX10_odds 10 false CT Rt X) (q : bk_X10_odds_50 E CT X Rt ls st h b) : X 50 ls st h b := by
  refine hX k_X10_odds_50 50 ok_X10_odds_50 _ ?_ ls st h b q
  exact fun t ls st h b q => q
def bk_X10_odds_67 (E : ZE) (CT : Nat → ZC) (X : ZK) (Rt : ZR) (ls : ZL) (st : List ZV) (h : ZH) (b : ZB2) : Prop := zB E CT k_X10_odds_67 67 ls st h b (fun t ls st h b => X t ls st h b) Rt
theorem bs_X10_odds_67 {E : ZE} {CT : Nat → ZC} {X : ZK} {Rt : ZR} {ls : ZL} {st : List ZV} {h : ZH} {b : ZB2} (hX : zCl E mX10_odds 10 false CT Rt X) (q : bk_X10_odds_67 E CT X Rt ls st h b) : X 67 ls st h b := by
  refine hX k_X10_odds_67 67 ok_X10_odds_67 _ ?_ ls st h b q
  exact fun t ls st h b q => q
def bk_X10_odds_74 (E : ZE) (CT : Nat → ZC) (X : ZK) (Rt : ZR) (ls : ZL) (st : List ZV) (h : ZH) (b : ZB2) : Prop := zB E CT k_X10_odds_74 74 ls st h b (fun t ls st h b => X t ls st h b) Rt
theorem bs_X10_odds_74 {E : ZE} {CT : Nat → ZC} {X : ZK} {Rt : ZR} {ls : ZL} {st : List ZV} {h : ZH} {b : ZB2} (hX : zCl E mX10_odds 10 false CT Rt X) (q : bk_X10_odds_74 E CT X Rt ls st h b) : X 74 ls st h b := by
  refine hX k_X10_odds_74 74 ok_X10_odds_74 _ ?_ ls st h b q
  exact fun t ls st h b q => q
def bk_X10_odds_110 (E : ZE) (CT : Nat → ZC) (X : ZK) (Rt : ZR) (ls : ZL) (st : List ZV) (h : ZH) (b : ZB2) : Prop := zB E CT k_X10_odds_110 110 ls st h b (fun t ls st h b => X t ls st h b) Rt
theorem bs_X10_odds_110 {E : ZE} {CT : Nat → ZC} {X : ZK} {Rt : ZR} {ls : ZL} {st : List ZV} {h : ZH} {b : ZB2} (hX : zCl E mX10_odds 10 false CT Rt X) (q : bk_X10_odds_110 E CT X Rt ls st h b) : X 110 ls st h b := by
  refine hX k_X10_odds_110 110 ok_X10_odds_110 _ ?_ ls st h b q
  exact fun t ls st h b q => q
def bk_X10_odds_105 (E : ZE) (CT : Nat → ZC) (X : ZK) (Rt : ZR) (ls : ZL) (st : List ZV) (h : ZH) (b : ZB2) : Prop := zB E CT k_X10_odds_105 105 ls st h b (fun t ls st h b => if t = 110 then bk_X10_odds_110 E CT X Rt ls st h b else X t ls st h b) Rt
theorem bs_X10_odds_105 {E : ZE} {CT : Nat → ZC} {X : ZK} {Rt : ZR} {ls : ZL} {st : List ZV} {h : ZH} {b : ZB2} (hX : zCl E mX10_odds 10 false CT Rt X) (q : bk_X10_odds_105 E CT X Rt ls st h b) : X 105 ls st h b := by
  refine hX k_X10_odds_105 105 ok_X10_odds_105 _ ?_ ls st h b q
  exact by
    intro t ls st h b q
    by_cases c : t = 110
    · subst c; rw [if_pos rfl] at q; exact bs_X10_odds_110 hX q
    rw [if_neg c] at q
    exact q
def bk_X10_odds_80 (E : ZE) (CT : Nat → ZC) (X : ZK) (Rt : ZR) (ls : ZL) (st : List ZV) (h : ZH) (b : ZB2) : Prop := zB E CT k_X10_odds_80 80 ls st h b (fun t ls st h b => if t = 105 then bk_X10_odds_105 E CT X Rt ls st h b else if t = 110 then bk_X10_odds_110 E CT X Rt ls st h b else X t ls st h b) Rt
theorem bs_X10_odds_80 {E : ZE} {CT : Nat → ZC} {X : ZK} {Rt : ZR} {ls : ZL} {st : List ZV} {h : ZH} {b : ZB2} (hX : zCl E mX10_odds 10 false CT Rt X) (q : bk_X10_odds_80 E CT X Rt ls st h b) : X 80 ls st h b := by
  refine hX k_X10_odds_80 80 ok_X10_odds_80 _ ?_ ls st h b q
  exact by
    intro t ls st h b q
    by_cases c : t = 105
    · subst c; rw [if_pos rfl] at q; exact bs_X10_odds_105 hX q
    rw [if_neg c] at q
    by_cases c : t = 110
    · subst c; rw [if_pos rfl] at q; exact bs_X10_odds_110 hX q
    rw [if_neg c] at q
    exact q
-- X10_odds: cuts [9, 18, 26, 33, 39, 50, 67, 74, 80]
def k_X10_sharedFactor_0 : List ZI := [(.iload_n 1, 1, (0, [1], [])), (.istore_n 2, 1, (0, [2], []))]
theorem ok_X10_sharedFactor_0 : zOK cX10_sharedFactor 10 false 3 k_X10_sharedFactor_0 0 = true := zOK_by (by decide +kernel)
def k_X10_sharedFactor_2 : List ZI := [(.iload_n 2, 1, (0, [2], [])), (.iconst 1, 1, (0, [], [])), (.if_icmp .le 23, 3, (0, [27], []))]
theorem ok_X10_sharedFactor_2 : zOK cX10_sharedFactor 10 false 3 k_X10_sharedFactor_2 2 = true := zOK_by (by decide +kernel)
def k_X10_sharedFactor_7 : List ZI := [(.iload_n 0, 1, (0, [0], [])), (.iload_n 2, 1, (0, [2], [])), (.irem, 1, (0, [], [])), (.ifCond .ne 11, 3, (0, [21], [])), (.iload_n 1, 1, (0, [1], [])), (.iload_n 2, 1, (0, [2], [])), (.irem, 1, (0, [], [])), (.ifCond .ne 5, 3, (0, [21], [])), (.iload_n 2, 1, (0, [2], [])), (.ireturn, 1, (0, [], []))]
theorem ok_X10_sharedFactor_7 : zOK cX10_sharedFactor 10 false 3 k_X10_sharedFactor_7 7 = true := zOK_by (by decide +kernel)
def k_X10_sharedFactor_21 : List ZI := [(.iinc 2 (-1), 3, (0, [2], [])), (.goto (-22), 3, (0, [2], []))]
theorem ok_X10_sharedFactor_21 : zOK cX10_sharedFactor 10 false 3 k_X10_sharedFactor_21 21 = true := zOK_by (by decide +kernel)
def k_X10_sharedFactor_27 : List ZI := [(.iconst 1, 1, (0, [], [])), (.ireturn, 1, (0, [], []))]
theorem ok_X10_sharedFactor_27 : zOK cX10_sharedFactor 10 false 3 k_X10_sharedFactor_27 27 = true := zOK_by (by decide +kernel)
theorem rt_X10_sharedFactor {g : Nat} {post : Option ZV → ZH → Prop} {h : ZH} {b : ZB2} {z : Int} : zRt mX10_sharedFactor g post (some (.inl z)) h b = (post (some (.inl z)) h ∧ h.1.length = g) := by show (_ ∧ _ ∧ True) = _; simp
def bk_X10_sharedFactor_0 (E : ZE) (CT : Nat → ZC) (X : ZK) (Rt : ZR) (ls : ZL) (st : List ZV) (h : ZH) (b : ZB2) : Prop := zB E CT k_X10_sharedFactor_0 0 ls st h b (fun t ls st h b => X t ls st h b) Rt
theorem bs_X10_sharedFactor_0 {E : ZE} {CT : Nat → ZC} {X : ZK} {Rt : ZR} {ls : ZL} {st : List ZV} {h : ZH} {b : ZB2} (hX : zCl E mX10_sharedFactor 10 false CT Rt X) (q : bk_X10_sharedFactor_0 E CT X Rt ls st h b) : X 0 ls st h b := by
  refine hX k_X10_sharedFactor_0 0 ok_X10_sharedFactor_0 _ ?_ ls st h b q
  exact fun t ls st h b q => q
def bk_X10_sharedFactor_27 (E : ZE) (CT : Nat → ZC) (X : ZK) (Rt : ZR) (ls : ZL) (st : List ZV) (h : ZH) (b : ZB2) : Prop := zB E CT k_X10_sharedFactor_27 27 ls st h b (fun t ls st h b => X t ls st h b) Rt
theorem bs_X10_sharedFactor_27 {E : ZE} {CT : Nat → ZC} {X : ZK} {Rt : ZR} {ls : ZL} {st : List ZV} {h : ZH} {b : ZB2} (hX : zCl E mX10_sharedFactor 10 false CT Rt X) (q : bk_X10_sharedFactor_27 E CT X Rt ls st h b) : X 27 ls st h b := by
  refine hX k_X10_sharedFactor_27 27 ok_X10_sharedFactor_27 _ ?_ ls st h b q
  exact fun t ls st h b q => q
def bk_X10_sharedFactor_2 (E : ZE) (CT : Nat → ZC) (X : ZK) (Rt : ZR) (ls : ZL) (st : List ZV) (h : ZH) (b : ZB2) : Prop := zB E CT k_X10_sharedFactor_2 2 ls st h b (fun t ls st h b => if t = 27 then bk_X10_sharedFactor_27 E CT X Rt ls st h b else X t ls st h b) Rt
theorem bs_X10_sharedFactor_2 {E : ZE} {CT : Nat → ZC} {X : ZK} {Rt : ZR} {ls : ZL} {st : List ZV} {h : ZH} {b : ZB2} (hX : zCl E mX10_sharedFactor 10 false CT Rt X) (q : bk_X10_sharedFactor_2 E CT X Rt ls st h b) : X 2 ls st h b := by
  refine hX k_X10_sharedFactor_2 2 ok_X10_sharedFactor_2 _ ?_ ls st h b q
  exact by
    intro t ls st h b q
    by_cases c : t = 27
    · subst c; rw [if_pos rfl] at q; exact bs_X10_sharedFactor_27 hX q
    rw [if_neg c] at q
    exact q
def bk_X10_sharedFactor_7 (E : ZE) (CT : Nat → ZC) (X : ZK) (Rt : ZR) (ls : ZL) (st : List ZV) (h : ZH) (b : ZB2) : Prop := zB E CT k_X10_sharedFactor_7 7 ls st h b (fun t ls st h b => X t ls st h b) Rt
theorem bs_X10_sharedFactor_7 {E : ZE} {CT : Nat → ZC} {X : ZK} {Rt : ZR} {ls : ZL} {st : List ZV} {h : ZH} {b : ZB2} (hX : zCl E mX10_sharedFactor 10 false CT Rt X) (q : bk_X10_sharedFactor_7 E CT X Rt ls st h b) : X 7 ls st h b := by
  refine hX k_X10_sharedFactor_7 7 ok_X10_sharedFactor_7 _ ?_ ls st h b q
  exact fun t ls st h b q => q
def bk_X10_sharedFactor_21 (E : ZE) (CT : Nat → ZC) (X : ZK) (Rt : ZR) (ls : ZL) (st : List ZV) (h : ZH) (b : ZB2) : Prop := zB E CT k_X10_sharedFactor_21 21 ls st h b (fun t ls st h b => X t ls st h b) Rt
theorem bs_X10_sharedFactor_21 {E : ZE} {CT : Nat → ZC} {X : ZK} {Rt : ZR} {ls : ZL} {st : List ZV} {h : ZH} {b : ZB2} (hX : zCl E mX10_sharedFactor 10 false CT Rt X) (q : bk_X10_sharedFactor_21 E CT X Rt ls st h b) : X 21 ls st h b := by
  refine hX k_X10_sharedFactor_21 21 ok_X10_sharedFactor_21 _ ?_ ls st h b q
  exact fun t ls st h b q => q
-- X10_sharedFactor: cuts [2, 7, 21]
theorem DGt {S M M1 : ZMm} (H : Rc S M) (vd : Vd (S 88)) (t : Tf M M1) {d : Nat → Int} {wo : Int} (h : HR 54 M1 d) (c : CR 62 M1 d wo) (vd2 : Vd d) (et : ∀ k, (186 ≤ k ∧ k < 188) ∨ (208 ≤ k ∧ k < 308) → d k = S 88 k) : DG 53 54 62 66 M1 d wo := by
  have v := Vd_l vd
  exact ⟨Or.inr ⟨rfl, rfl, rfl, rfl⟩, h, c, LR_cg H.1.2.2.1 v.1.1 (by omega) (fun x p q => t x (by omega) (by omega) (by omega)) et, LR_cg H.1.2.2.2.1 v.1.2 (by omega) (fun x p q => t x (by omega) (by omega) (by omega)) et, vd2⟩
theorem yrs_SRn {M M' : ZMm} {d : Nat → Int} (n : SRn M d) (vd : Vd d) {k : Nat} (hk : d 1 + k ≤ 20000) (h : HR 2 M' (yrs d (-1) k)) (f : ∀ x, x = 1 ∨ ((10 ≤ x ∧ x ≤ 25) ∧ ¬ x = 17 ∧ ¬ x = 21) → M' x = M x) : SRn M' (yrs d (-1) k) := SRn_hill n vd h f (fun i p => yrs_hi vd (-1) (by omega) k hk)
theorem DGs {M : ZMm} {d : Nat → Int} (n : SRn M d) (vd : Vd d) : DG 51 2 10 52 M d (-1) := ⟨Or.inl ⟨rfl, rfl, rfl, rfl⟩, n.1, n.2.1, n.2.2.1, n.2.2.2.1, vd⟩
def B_x_years (n : Int) (M : Nat → Nat → Int) (post : Option ZV → (Nat → Nat → Int) → Prop) : Prop := rg n ∧ ∃ S : ZMm, Vs S ∧ Rc S M ∧ cp M (R_years S n) post
def C_x_years : ZC := fun as h post => match as with
  | [.inr (.inr (.inl 0)), .inl n] => h.1 = zG ∧ B_x_years n h.2 (fun v M => post v (zG, M))
  | _ => False
theorem r_x_years {n : Int} {M : Nat → Nat → Int} {post : Option ZV → ZH → Prop} : C_x_years [.inr (.inr (.inl 0)), .inl n] (zG, M) post = B_x_years n M (fun v M => post v (zG, M)) := by show (zG = zG ∧ _) = _; simp
def ct_x_years : Nat → ZC := fun n => if n = 110 then C_cfail else if n = 4 then C_dyear else if n = 18 then C_hgap else fun _ _ _ => False
theorem ct_x_years_cfail {as : List ZV} {h : ZH} {post : Option ZV → ZH → Prop} : ct_x_years 110 as h post = C_cfail as h post := rfl
theorem ct_x_years_dyear {as : List ZV} {h : ZH} {post : Option ZV → ZH → Prop} : ct_x_years 4 as h post = C_dyear as h post := rfl
theorem ct_x_years_hgap {as : List ZV} {h : ZH} {post : Option ZV → ZH → Prop} : ct_x_years 18 as h post = C_hgap as h post := rfl
theorem c_x_years {E : ZE} {d : Nat} (hd : 6 ≤ d) : zMet E d mX10_years C_x_years := by
  refine zmet_of (o := 10) (ini := false) (CT := ct_x_years) gd_X10_years rfl (fun h => by cases h) (by omega) ?_ ?_
  · intro n as h post hh
    unfold ct_x_years at hh
    by_cases c : n = 110
    · subst c; exact ⟨gd_X10_failed, 1, by omega, c_cfail (by omega)⟩
    rw [if_neg c] at hh
    by_cases c : n = 4
    · subst c; exact ⟨gd_X1_goYear, 5, by omega, c_dyear (by omega)⟩
    rw [if_neg c] at hh
    by_cases c : n = 18
    · subst c; exact ⟨gd_X2_gap, 2, by omega, c_hgap (by omega)⟩
    rw [if_neg c] at hh
    exact hh.elim
  intro as h post hC
  match as, hC with
  | [.inr (.inr (.inl 0)), .inl n], hC =>
    refine ⟨Nat.le_of_ble_eq_true rfl, fun X hX => bs_X10_years_0 hX ?_⟩
    obtain ⟨G, M⟩ := h
    obtain ⟨hG, hC⟩ := hC
    dsimp only at hG
    subst hG
    simp only [B_x_years] at hC
    show bk_X10_years_0 E ct_x_years X _ [some (.inr (.inr (.inl 0))), some (.inl n), none] [] (zG, M) (0, 0)
    obtain ⟨h1, S, vs9, H, hC⟩ := hC
    have vd : Vd (S 88) := vs9.1
    have n9 := H.1
    have J11 : ¬ (1 ≤ n ∧ n ≤ 60) → X 11 [some (.inr (.inr (.inl 0))), some (.inl n), none] [] (zG, M) (0, 0) := by
      intro q
      refine bs_X10_years_11 hX ?_
      simp only [bk_X10_years_0, k_X10_years_0, bk_X10_years_11, k_X10_years_11, bk_X10_years_18, k_X10_years_18, bk_X10_years_36, k_X10_years_36, bk_X10_years_43, k_X10_years_43, bk_X10_years_45, k_X10_years_45, bk_X10_years_63, k_X10_years_63, ↓e_rk1, ↓e_rk0, ↓e_sk0, ↓e_sks, ↓e_ldi0, ↓e_ldis, ↓e_ldl0, ↓e_ldls, ↓e_lda0, ↓e_ldas, ↓e_ok0, ↓e_okss, ↓e_ok1i, ↓e_ok1r, ↓e_ok1n, ↓e_sti, ↓e_sta, ↓e_1, ↓e_2, ↓e_l1, ↓e_l2, ↓e_li, ↓e_sw0, ↓e_sws, ↓e_ceq, ↓e_cne, ↓e_clt, ↓e_cge, ↓e_cgt, ↓e_cle, ↓e_nil, ↓e_cons, ↓e_iconst, ↓e_bipush, ↓e_sipush, ↓e_ldc, ↓e_ldcw, ↓e_ldc2, ↓e_lconst, ↓e_iloadn, ↓e_iload, ↓e_lloadn, ↓e_lload, ↓e_aloadn, ↓e_aload, ↓e_istoren, ↓e_istore, ↓e_astoren, ↓e_astore, ↓e_add, ↓e_iinc, ↓e_iadd, ↓e_isub, ↓e_imul, ↓e_iand, ↓e_ior, ↓e_ixor, ↓e_ishl, ↓e_iushr, ↓e_idiv, ↓e_irem, ↓e_ineg, ↓e_i2l, ↓e_i2b, ↓e_i2s, ↓e_l2i, ↓e_land, ↓e_lor, ↓e_lshl, ↓e_lshr, ↓e_lushr, ↓e_lcmp, ↓e_dupi, ↓e_dupr, ↓e_popi, ↓e_dup2, ↓e_goto, ↓e_if, ↓e_icmp, ↓e_tsw, ↓e_lsw, ↓e_getf, ↓e_putf, ↓e_gets, ↓e_iald, ↓e_cald, ↓e_iast, ↓e_aald, ↓e_aast, ↓e_len, ↓e_copy, ↓e_abs, ↓e_max, ↓e_min, ↓e_iret, ↓e_aret, ↓e_vret, ↓e_is0, ↓e_is1, ↓e_is2, ↓e_is3, ↓e_is4, ↓e_iv1, ↓e_iv2, ↓e_iv3, ↓e_iv4, ↓e_iv5, ↓e_iv6, ↓rt_X10_years, ↓reduceIte, Nat.reduceAdd, Nat.reduceEqDiff, ↓zcl0, ↓zclv, List.map_nil, List.sum_nil, List.map_cons, List.sum_cons, zcat, true_and, and_true, Nat.reduceLeDiff, Nat.reduceAdd, eq_self, forall_const, e_ok0, e_okss, e_ok1i, e_ok1r, e_ok1n, zl_m1000000003, zl_m1000000001, zl_0, zl_1, zl_60, zl_9999, Int.reduceToNat, Int.reduceAdd, Int.reduceMul, Int.reduceSub, Int.reduceNeg, Int.reduceLT, Int.reduceLE, Int.reduceEq, not_false_eq_true, not_true_eq_false, false_implies, true_implies, implies_true, Int.reduceDiv, Int.reduceMod, zr8_zr, zr_zbo, z01_zbo, z01_0, z01_1, zbo_eq0, zup_eq, zup_o, zup_k, ne_eq, ↓ct_x_years_cfail, ↓r_cfail, ↓B_cfail, ↓ct_x_years_dyear, ↓r_dyear, ↓B_dyear, ↓ct_x_years_hgap, ↓r_hgap, ↓B_hgap, ↓v_0, ↓g_0_0, ↓g_0_1, ↓g_0_2, ↓g_0_3, ↓g_0_4, ↓g_0_5, ↓g_0_6, ↓g_0_7, ↓g_0_8, ↓l_78, ↓s_78, ↓n_78, ↓g_0_9, ↓p_0_9]
      exact ⟨1, by omega, by omega, cp_no hC H vd (by omega) (by unfold R_years; rw [if_neg (by omega)]) rfl⟩
    have v1 := vd.2.1
    have y1 := vs9.2.1
    have y9 : M 2 9 = S 88 1 := n9.1.2.2.2.2.2.1
    have zn : zr n = n := zr_rg h1
    have J43 : (1 ≤ n ∧ n ≤ 60) → ¬ 9999 < S 88 1 + n → X 43 [some (.inr (.inr (.inl 0))), some (.inl n), none] [] (zG, M) (0, 0) := by
      intro q q2
      have lp : ∀ (j k : Nat) (M' : ZMm), j + k = n.toNat → SRn M' (yrs (S 88) (-1) k) → (∀ x, x = 0 ∨ (26 ≤ x ∧ x ≤ 50) ∨ 75 ≤ x → M' x = M x) → X 45 [some (.inr (.inr (.inl 0))), some (.inl n), some (.inl ((k : Int)))] [] (zG, M') (0, 0) := by
        intro j
        induction j with
        | zero =>
          intro k M' hk h f
          refine bs_X10_years_45 hX ?_
          have zk : zr (k : Int) = k := zr_of (by omega) (by omega)
          have lk : ((k : Int) < n) = False := eq_false (by omega)
          have ok := yrs_ok vd (-1) k (by omega)
          simp only [bk_X10_years_0, k_X10_years_0, bk_X10_years_11, k_X10_years_11, bk_X10_years_18, k_X10_years_18, bk_X10_years_36, k_X10_years_36, bk_X10_years_43, k_X10_years_43, bk_X10_years_45, k_X10_years_45, bk_X10_years_63, k_X10_years_63, ↓e_rk1, ↓e_rk0, ↓e_sk0, ↓e_sks, ↓e_ldi0, ↓e_ldis, ↓e_ldl0, ↓e_ldls, ↓e_lda0, ↓e_ldas, ↓e_ok0, ↓e_okss, ↓e_ok1i, ↓e_ok1r, ↓e_ok1n, ↓e_sti, ↓e_sta, ↓e_1, ↓e_2, ↓e_l1, ↓e_l2, ↓e_li, ↓e_sw0, ↓e_sws, ↓e_ceq, ↓e_cne, ↓e_clt, ↓e_cge, ↓e_cgt, ↓e_cle, ↓e_nil, ↓e_cons, ↓e_iconst, ↓e_bipush, ↓e_sipush, ↓e_ldc, ↓e_ldcw, ↓e_ldc2, ↓e_lconst, ↓e_iloadn, ↓e_iload, ↓e_lloadn, ↓e_lload, ↓e_aloadn, ↓e_aload, ↓e_istoren, ↓e_istore, ↓e_astoren, ↓e_astore, ↓e_add, ↓e_iinc, ↓e_iadd, ↓e_isub, ↓e_imul, ↓e_iand, ↓e_ior, ↓e_ixor, ↓e_ishl, ↓e_iushr, ↓e_idiv, ↓e_irem, ↓e_ineg, ↓e_i2l, ↓e_i2b, ↓e_i2s, ↓e_l2i, ↓e_land, ↓e_lor, ↓e_lshl, ↓e_lshr, ↓e_lushr, ↓e_lcmp, ↓e_dupi, ↓e_dupr, ↓e_popi, ↓e_dup2, ↓e_goto, ↓e_if, ↓e_icmp, ↓e_tsw, ↓e_lsw, ↓e_getf, ↓e_putf, ↓e_gets, ↓e_iald, ↓e_cald, ↓e_iast, ↓e_aald, ↓e_aast, ↓e_len, ↓e_copy, ↓e_abs, ↓e_max, ↓e_min, ↓e_iret, ↓e_aret, ↓e_vret, ↓e_is0, ↓e_is1, ↓e_is2, ↓e_is3, ↓e_is4, ↓e_iv1, ↓e_iv2, ↓e_iv3, ↓e_iv4, ↓e_iv5, ↓e_iv6, ↓rt_X10_years, ↓reduceIte, Nat.reduceAdd, Nat.reduceEqDiff, ↓zcl0, ↓zclv, List.map_nil, List.sum_nil, List.map_cons, List.sum_cons, zcat, true_and, and_true, Nat.reduceLeDiff, Nat.reduceAdd, eq_self, forall_const, e_ok0, e_okss, e_ok1i, e_ok1r, e_ok1n, zl_m1000000003, zl_m1000000001, zl_0, zl_1, zl_60, zl_9999, Int.reduceToNat, Int.reduceAdd, Int.reduceMul, Int.reduceSub, Int.reduceNeg, Int.reduceLT, Int.reduceLE, Int.reduceEq, not_false_eq_true, not_true_eq_false, false_implies, true_implies, implies_true, Int.reduceDiv, Int.reduceMod, zr8_zr, zr_zbo, z01_zbo, z01_0, z01_1, zbo_eq0, zup_eq, zup_o, zup_k, ne_eq, ↓ct_x_years_cfail, ↓r_cfail, ↓B_cfail, ↓ct_x_years_dyear, ↓r_dyear, ↓B_dyear, ↓ct_x_years_hgap, ↓r_hgap, ↓B_hgap, ↓v_0, ↓g_0_0, ↓g_0_1, ↓g_0_2, ↓g_0_3, ↓g_0_4, ↓g_0_5, ↓g_0_6, ↓g_0_7, ↓g_0_8, ↓l_78, ↓s_78, ↓n_78, ↓g_0_9, ↓p_0_9, zk, zn, lk]
          refine bs_X10_years_63 hX ?_
          simp only [bk_X10_years_0, k_X10_years_0, bk_X10_years_11, k_X10_years_11, bk_X10_years_18, k_X10_years_18, bk_X10_years_36, k_X10_years_36, bk_X10_years_43, k_X10_years_43, bk_X10_years_45, k_X10_years_45, bk_X10_years_63, k_X10_years_63, ↓e_rk1, ↓e_rk0, ↓e_sk0, ↓e_sks, ↓e_ldi0, ↓e_ldis, ↓e_ldl0, ↓e_ldls, ↓e_lda0, ↓e_ldas, ↓e_ok0, ↓e_okss, ↓e_ok1i, ↓e_ok1r, ↓e_ok1n, ↓e_sti, ↓e_sta, ↓e_1, ↓e_2, ↓e_l1, ↓e_l2, ↓e_li, ↓e_sw0, ↓e_sws, ↓e_ceq, ↓e_cne, ↓e_clt, ↓e_cge, ↓e_cgt, ↓e_cle, ↓e_nil, ↓e_cons, ↓e_iconst, ↓e_bipush, ↓e_sipush, ↓e_ldc, ↓e_ldcw, ↓e_ldc2, ↓e_lconst, ↓e_iloadn, ↓e_iload, ↓e_lloadn, ↓e_lload, ↓e_aloadn, ↓e_aload, ↓e_istoren, ↓e_istore, ↓e_astoren, ↓e_astore, ↓e_add, ↓e_iinc, ↓e_iadd, ↓e_isub, ↓e_imul, ↓e_iand, ↓e_ior, ↓e_ixor, ↓e_ishl, ↓e_iushr, ↓e_idiv, ↓e_irem, ↓e_ineg, ↓e_i2l, ↓e_i2b, ↓e_i2s, ↓e_l2i, ↓e_land, ↓e_lor, ↓e_lshl, ↓e_lshr, ↓e_lushr, ↓e_lcmp, ↓e_dupi, ↓e_dupr, ↓e_popi, ↓e_dup2, ↓e_goto, ↓e_if, ↓e_icmp, ↓e_tsw, ↓e_lsw, ↓e_getf, ↓e_putf, ↓e_gets, ↓e_iald, ↓e_cald, ↓e_iast, ↓e_aald, ↓e_aast, ↓e_len, ↓e_copy, ↓e_abs, ↓e_max, ↓e_min, ↓e_iret, ↓e_aret, ↓e_vret, ↓e_is0, ↓e_is1, ↓e_is2, ↓e_is3, ↓e_is4, ↓e_iv1, ↓e_iv2, ↓e_iv3, ↓e_iv4, ↓e_iv5, ↓e_iv6, ↓rt_X10_years, ↓reduceIte, Nat.reduceAdd, Nat.reduceEqDiff, ↓zcl0, ↓zclv, List.map_nil, List.sum_nil, List.map_cons, List.sum_cons, zcat, true_and, and_true, Nat.reduceLeDiff, Nat.reduceAdd, eq_self, forall_const, e_ok0, e_okss, e_ok1i, e_ok1r, e_ok1n, zl_m1000000003, zl_m1000000001, zl_0, zl_1, zl_60, zl_9999, Int.reduceToNat, Int.reduceAdd, Int.reduceMul, Int.reduceSub, Int.reduceNeg, Int.reduceLT, Int.reduceLE, Int.reduceEq, not_false_eq_true, not_true_eq_false, false_implies, true_implies, implies_true, Int.reduceDiv, Int.reduceMod, zr8_zr, zr_zbo, z01_zbo, z01_0, z01_1, zbo_eq0, zup_eq, zup_o, zup_k, ne_eq, ↓ct_x_years_cfail, ↓r_cfail, ↓B_cfail, ↓ct_x_years_dyear, ↓r_dyear, ↓B_dyear, ↓ct_x_years_hgap, ↓r_hgap, ↓B_hgap, ↓v_0, ↓g_0_0, ↓g_0_1, ↓g_0_2, ↓g_0_3, ↓g_0_4, ↓g_0_5, ↓g_0_6, ↓g_0_7, ↓g_0_8, ↓l_78, ↓s_78, ↓n_78, ↓g_0_9, ↓p_0_9, ↓v_1, ↓g_1_0, ↓g_1_1, ↓g_1_2, ↓g_1_3, ↓g_1_4, ↓g_1_5, ↓g_1_6, ↓p_1_6, ↓v_2, ↓g_2_0, ↓l_3, ↓s_3, ↓n_3, ↓g_2_1, ↓l_4, ↓s_4, ↓n_4, ↓g_2_2, ↓l_5, ↓s_5, ↓n_5, ↓g_2_3, ↓l_6, ↓s_6, ↓n_6, ↓g_2_4, ↓l_7, ↓s_7, ↓n_7, ↓g_2_5, ↓l_8, ↓s_8, ↓n_8, ↓g_2_6, ↓l_9, ↓s_9, ↓n_9, ↓g_2_7, ↓p_2_7, ↓g_2_8, ↓p_2_8, ↓g_2_9, ↓p_2_9]
          have ek : k = n.toNat := by omega
          subst ek
          refine ⟨Or.inl rfl, _, h.1, ok.1, cp_now hC H ?_ h f⟩
          unfold R_years
          rw [if_pos q, if_neg q2]
        | succ j ih =>
          intro k M' hk h f
          refine bs_X10_years_45 hX ?_
          have zk : zr (k : Int) = k := zr_of (by omega) (by omega)
          have lk : ((k : Int) < n) = True := eq_true (by omega)
          have ok := yrs_ok vd (-1) k (by omega)
          simp only [bk_X10_years_0, k_X10_years_0, bk_X10_years_11, k_X10_years_11, bk_X10_years_18, k_X10_years_18, bk_X10_years_36, k_X10_years_36, bk_X10_years_43, k_X10_years_43, bk_X10_years_45, k_X10_years_45, bk_X10_years_63, k_X10_years_63, ↓e_rk1, ↓e_rk0, ↓e_sk0, ↓e_sks, ↓e_ldi0, ↓e_ldis, ↓e_ldl0, ↓e_ldls, ↓e_lda0, ↓e_ldas, ↓e_ok0, ↓e_okss, ↓e_ok1i, ↓e_ok1r, ↓e_ok1n, ↓e_sti, ↓e_sta, ↓e_1, ↓e_2, ↓e_l1, ↓e_l2, ↓e_li, ↓e_sw0, ↓e_sws, ↓e_ceq, ↓e_cne, ↓e_clt, ↓e_cge, ↓e_cgt, ↓e_cle, ↓e_nil, ↓e_cons, ↓e_iconst, ↓e_bipush, ↓e_sipush, ↓e_ldc, ↓e_ldcw, ↓e_ldc2, ↓e_lconst, ↓e_iloadn, ↓e_iload, ↓e_lloadn, ↓e_lload, ↓e_aloadn, ↓e_aload, ↓e_istoren, ↓e_istore, ↓e_astoren, ↓e_astore, ↓e_add, ↓e_iinc, ↓e_iadd, ↓e_isub, ↓e_imul, ↓e_iand, ↓e_ior, ↓e_ixor, ↓e_ishl, ↓e_iushr, ↓e_idiv, ↓e_irem, ↓e_ineg, ↓e_i2l, ↓e_i2b, ↓e_i2s, ↓e_l2i, ↓e_land, ↓e_lor, ↓e_lshl, ↓e_lshr, ↓e_lushr, ↓e_lcmp, ↓e_dupi, ↓e_dupr, ↓e_popi, ↓e_dup2, ↓e_goto, ↓e_if, ↓e_icmp, ↓e_tsw, ↓e_lsw, ↓e_getf, ↓e_putf, ↓e_gets, ↓e_iald, ↓e_cald, ↓e_iast, ↓e_aald, ↓e_aast, ↓e_len, ↓e_copy, ↓e_abs, ↓e_max, ↓e_min, ↓e_iret, ↓e_aret, ↓e_vret, ↓e_is0, ↓e_is1, ↓e_is2, ↓e_is3, ↓e_is4, ↓e_iv1, ↓e_iv2, ↓e_iv3, ↓e_iv4, ↓e_iv5, ↓e_iv6, ↓rt_X10_years, ↓reduceIte, Nat.reduceAdd, Nat.reduceEqDiff, ↓zcl0, ↓zclv, List.map_nil, List.sum_nil, List.map_cons, List.sum_cons, zcat, true_and, and_true, Nat.reduceLeDiff, Nat.reduceAdd, eq_self, forall_const, e_ok0, e_okss, e_ok1i, e_ok1r, e_ok1n, zl_m1000000003, zl_m1000000001, zl_0, zl_1, zl_60, zl_9999, Int.reduceToNat, Int.reduceAdd, Int.reduceMul, Int.reduceSub, Int.reduceNeg, Int.reduceLT, Int.reduceLE, Int.reduceEq, not_false_eq_true, not_true_eq_false, false_implies, true_implies, implies_true, Int.reduceDiv, Int.reduceMod, zr8_zr, zr_zbo, z01_zbo, z01_0, z01_1, zbo_eq0, zup_eq, zup_o, zup_k, ne_eq, ↓ct_x_years_cfail, ↓r_cfail, ↓B_cfail, ↓ct_x_years_dyear, ↓r_dyear, ↓B_dyear, ↓ct_x_years_hgap, ↓r_hgap, ↓B_hgap, ↓v_0, ↓g_0_0, ↓g_0_1, ↓g_0_2, ↓g_0_3, ↓g_0_4, ↓g_0_5, ↓g_0_6, ↓g_0_7, ↓g_0_8, ↓l_78, ↓s_78, ↓n_78, ↓g_0_9, ↓p_0_9, ↓v_51, ↓g_51_0, ↓g_51_1, ↓g_51_2, ↓g_51_3, ↓g_51_4, ↓l_52, ↓s_52, ↓n_52, ↓g_51_5, ↓p_51_5, ↓g_51_6, ↓p_51_6, ↓g_51_7, ↓p_51_7, ↓g_51_8, ↓p_51_8, ↓g_51_9, ↓p_51_9, zk, zn, lk]
          refine ⟨2, 10, 52, _, -1, DGs h ok.1, fun M2 h2 f2 => ih (k + 1) M2 (by omega) ?_ (fun x p => by rw [f2 x (by omega) (by omega) (by omega) (by omega) (by omega), f x p])⟩
          refine SRn_hill h ok.1 h2 (fun x p => f2 x (by omega) (by omega) (by omega) (by omega) (by omega)) (fun i p => yr1_hi ok.1 (-1) (by omega))
      refine bs_X10_years_43 hX ?_
      simp only [bk_X10_years_0, k_X10_years_0, bk_X10_years_11, k_X10_years_11, bk_X10_years_18, k_X10_years_18, bk_X10_years_36, k_X10_years_36, bk_X10_years_43, k_X10_years_43, bk_X10_years_45, k_X10_years_45, bk_X10_years_63, k_X10_years_63, ↓e_rk1, ↓e_rk0, ↓e_sk0, ↓e_sks, ↓e_ldi0, ↓e_ldis, ↓e_ldl0, ↓e_ldls, ↓e_lda0, ↓e_ldas, ↓e_ok0, ↓e_okss, ↓e_ok1i, ↓e_ok1r, ↓e_ok1n, ↓e_sti, ↓e_sta, ↓e_1, ↓e_2, ↓e_l1, ↓e_l2, ↓e_li, ↓e_sw0, ↓e_sws, ↓e_ceq, ↓e_cne, ↓e_clt, ↓e_cge, ↓e_cgt, ↓e_cle, ↓e_nil, ↓e_cons, ↓e_iconst, ↓e_bipush, ↓e_sipush, ↓e_ldc, ↓e_ldcw, ↓e_ldc2, ↓e_lconst, ↓e_iloadn, ↓e_iload, ↓e_lloadn, ↓e_lload, ↓e_aloadn, ↓e_aload, ↓e_istoren, ↓e_istore, ↓e_astoren, ↓e_astore, ↓e_add, ↓e_iinc, ↓e_iadd, ↓e_isub, ↓e_imul, ↓e_iand, ↓e_ior, ↓e_ixor, ↓e_ishl, ↓e_iushr, ↓e_idiv, ↓e_irem, ↓e_ineg, ↓e_i2l, ↓e_i2b, ↓e_i2s, ↓e_l2i, ↓e_land, ↓e_lor, ↓e_lshl, ↓e_lshr, ↓e_lushr, ↓e_lcmp, ↓e_dupi, ↓e_dupr, ↓e_popi, ↓e_dup2, ↓e_goto, ↓e_if, ↓e_icmp, ↓e_tsw, ↓e_lsw, ↓e_getf, ↓e_putf, ↓e_gets, ↓e_iald, ↓e_cald, ↓e_iast, ↓e_aald, ↓e_aast, ↓e_len, ↓e_copy, ↓e_abs, ↓e_max, ↓e_min, ↓e_iret, ↓e_aret, ↓e_vret, ↓e_is0, ↓e_is1, ↓e_is2, ↓e_is3, ↓e_is4, ↓e_iv1, ↓e_iv2, ↓e_iv3, ↓e_iv4, ↓e_iv5, ↓e_iv6, ↓rt_X10_years, ↓reduceIte, Nat.reduceAdd, Nat.reduceEqDiff, ↓zcl0, ↓zclv, List.map_nil, List.sum_nil, List.map_cons, List.sum_cons, zcat, true_and, and_true, Nat.reduceLeDiff, Nat.reduceAdd, eq_self, forall_const, e_ok0, e_okss, e_ok1i, e_ok1r, e_ok1n, zl_m1000000003, zl_m1000000001, zl_0, zl_1, zl_60, zl_9999, Int.reduceToNat, Int.reduceAdd, Int.reduceMul, Int.reduceSub, Int.reduceNeg, Int.reduceLT, Int.reduceLE, Int.reduceEq, not_false_eq_true, not_true_eq_false, false_implies, true_implies, implies_true, Int.reduceDiv, Int.reduceMod, zr8_zr, zr_zbo, z01_zbo, z01_0, z01_1, zbo_eq0, zup_eq, zup_o, zup_k, ne_eq, ↓ct_x_years_cfail, ↓r_cfail, ↓B_cfail, ↓ct_x_years_dyear, ↓r_dyear, ↓B_dyear, ↓ct_x_years_hgap, ↓r_hgap, ↓B_hgap, ↓v_0, ↓g_0_0, ↓g_0_1, ↓g_0_2, ↓g_0_3, ↓g_0_4, ↓g_0_5, ↓g_0_6, ↓g_0_7, ↓g_0_8, ↓l_78, ↓s_78, ↓n_78, ↓g_0_9, ↓p_0_9]
      exact lp n.toNat 0 M (by omega) n9 (fun _ _ => rfl)
    have J36 : (1 ≤ n ∧ n ≤ 60) → 9999 < S 88 1 + n → X 36 [some (.inr (.inr (.inl 0))), some (.inl n), none] [] (zG, M) (0, 0) := by
      intro q q2
      refine bs_X10_years_36 hX ?_
      simp only [bk_X10_years_0, k_X10_years_0, bk_X10_years_11, k_X10_years_11, bk_X10_years_18, k_X10_years_18, bk_X10_years_36, k_X10_years_36, bk_X10_years_43, k_X10_years_43, bk_X10_years_45, k_X10_years_45, bk_X10_years_63, k_X10_years_63, ↓e_rk1, ↓e_rk0, ↓e_sk0, ↓e_sks, ↓e_ldi0, ↓e_ldis, ↓e_ldl0, ↓e_ldls, ↓e_lda0, ↓e_ldas, ↓e_ok0, ↓e_okss, ↓e_ok1i, ↓e_ok1r, ↓e_ok1n, ↓e_sti, ↓e_sta, ↓e_1, ↓e_2, ↓e_l1, ↓e_l2, ↓e_li, ↓e_sw0, ↓e_sws, ↓e_ceq, ↓e_cne, ↓e_clt, ↓e_cge, ↓e_cgt, ↓e_cle, ↓e_nil, ↓e_cons, ↓e_iconst, ↓e_bipush, ↓e_sipush, ↓e_ldc, ↓e_ldcw, ↓e_ldc2, ↓e_lconst, ↓e_iloadn, ↓e_iload, ↓e_lloadn, ↓e_lload, ↓e_aloadn, ↓e_aload, ↓e_istoren, ↓e_istore, ↓e_astoren, ↓e_astore, ↓e_add, ↓e_iinc, ↓e_iadd, ↓e_isub, ↓e_imul, ↓e_iand, ↓e_ior, ↓e_ixor, ↓e_ishl, ↓e_iushr, ↓e_idiv, ↓e_irem, ↓e_ineg, ↓e_i2l, ↓e_i2b, ↓e_i2s, ↓e_l2i, ↓e_land, ↓e_lor, ↓e_lshl, ↓e_lshr, ↓e_lushr, ↓e_lcmp, ↓e_dupi, ↓e_dupr, ↓e_popi, ↓e_dup2, ↓e_goto, ↓e_if, ↓e_icmp, ↓e_tsw, ↓e_lsw, ↓e_getf, ↓e_putf, ↓e_gets, ↓e_iald, ↓e_cald, ↓e_iast, ↓e_aald, ↓e_aast, ↓e_len, ↓e_copy, ↓e_abs, ↓e_max, ↓e_min, ↓e_iret, ↓e_aret, ↓e_vret, ↓e_is0, ↓e_is1, ↓e_is2, ↓e_is3, ↓e_is4, ↓e_iv1, ↓e_iv2, ↓e_iv3, ↓e_iv4, ↓e_iv5, ↓e_iv6, ↓rt_X10_years, ↓reduceIte, Nat.reduceAdd, Nat.reduceEqDiff, ↓zcl0, ↓zclv, List.map_nil, List.sum_nil, List.map_cons, List.sum_cons, zcat, true_and, and_true, Nat.reduceLeDiff, Nat.reduceAdd, eq_self, forall_const, e_ok0, e_okss, e_ok1i, e_ok1r, e_ok1n, zl_m1000000003, zl_m1000000001, zl_0, zl_1, zl_60, zl_9999, Int.reduceToNat, Int.reduceAdd, Int.reduceMul, Int.reduceSub, Int.reduceNeg, Int.reduceLT, Int.reduceLE, Int.reduceEq, not_false_eq_true, not_true_eq_false, false_implies, true_implies, implies_true, Int.reduceDiv, Int.reduceMod, zr8_zr, zr_zbo, z01_zbo, z01_0, z01_1, zbo_eq0, zup_eq, zup_o, zup_k, ne_eq, ↓ct_x_years_cfail, ↓r_cfail, ↓B_cfail, ↓ct_x_years_dyear, ↓r_dyear, ↓B_dyear, ↓ct_x_years_hgap, ↓r_hgap, ↓B_hgap, ↓v_0, ↓g_0_0, ↓g_0_1, ↓g_0_2, ↓g_0_3, ↓g_0_4, ↓g_0_5, ↓g_0_6, ↓g_0_7, ↓g_0_8, ↓l_78, ↓s_78, ↓n_78, ↓g_0_9, ↓p_0_9]
      exact ⟨3, by omega, by omega, cp_no hC H vd (by omega) (by unfold R_years; rw [if_pos q, if_pos q2]) rfl⟩
    have J18 : (1 ≤ n ∧ n ≤ 60) → X 18 [some (.inr (.inr (.inl 0))), some (.inl n), none] [] (zG, M) (0, 0) := by
      intro q
      refine bs_X10_years_18 hX ?_
      have zy : zr (S 88 1 + n) = S 88 1 + n := zr_of (by omega) (by omega)
      simp only [bk_X10_years_0, k_X10_years_0, bk_X10_years_11, k_X10_years_11, bk_X10_years_18, k_X10_years_18, bk_X10_years_36, k_X10_years_36, bk_X10_years_43, k_X10_years_43, bk_X10_years_45, k_X10_years_45, bk_X10_years_63, k_X10_years_63, ↓e_rk1, ↓e_rk0, ↓e_sk0, ↓e_sks, ↓e_ldi0, ↓e_ldis, ↓e_ldl0, ↓e_ldls, ↓e_lda0, ↓e_ldas, ↓e_ok0, ↓e_okss, ↓e_ok1i, ↓e_ok1r, ↓e_ok1n, ↓e_sti, ↓e_sta, ↓e_1, ↓e_2, ↓e_l1, ↓e_l2, ↓e_li, ↓e_sw0, ↓e_sws, ↓e_ceq, ↓e_cne, ↓e_clt, ↓e_cge, ↓e_cgt, ↓e_cle, ↓e_nil, ↓e_cons, ↓e_iconst, ↓e_bipush, ↓e_sipush, ↓e_ldc, ↓e_ldcw, ↓e_ldc2, ↓e_lconst, ↓e_iloadn, ↓e_iload, ↓e_lloadn, ↓e_lload, ↓e_aloadn, ↓e_aload, ↓e_istoren, ↓e_istore, ↓e_astoren, ↓e_astore, ↓e_add, ↓e_iinc, ↓e_iadd, ↓e_isub, ↓e_imul, ↓e_iand, ↓e_ior, ↓e_ixor, ↓e_ishl, ↓e_iushr, ↓e_idiv, ↓e_irem, ↓e_ineg, ↓e_i2l, ↓e_i2b, ↓e_i2s, ↓e_l2i, ↓e_land, ↓e_lor, ↓e_lshl, ↓e_lshr, ↓e_lushr, ↓e_lcmp, ↓e_dupi, ↓e_dupr, ↓e_popi, ↓e_dup2, ↓e_goto, ↓e_if, ↓e_icmp, ↓e_tsw, ↓e_lsw, ↓e_getf, ↓e_putf, ↓e_gets, ↓e_iald, ↓e_cald, ↓e_iast, ↓e_aald, ↓e_aast, ↓e_len, ↓e_copy, ↓e_abs, ↓e_max, ↓e_min, ↓e_iret, ↓e_aret, ↓e_vret, ↓e_is0, ↓e_is1, ↓e_is2, ↓e_is3, ↓e_is4, ↓e_iv1, ↓e_iv2, ↓e_iv3, ↓e_iv4, ↓e_iv5, ↓e_iv6, ↓rt_X10_years, ↓reduceIte, Nat.reduceAdd, Nat.reduceEqDiff, ↓zcl0, ↓zclv, List.map_nil, List.sum_nil, List.map_cons, List.sum_cons, zcat, true_and, and_true, Nat.reduceLeDiff, Nat.reduceAdd, eq_self, forall_const, e_ok0, e_okss, e_ok1i, e_ok1r, e_ok1n, zl_m1000000003, zl_m1000000001, zl_0, zl_1, zl_60, zl_9999, Int.reduceToNat, Int.reduceAdd, Int.reduceMul, Int.reduceSub, Int.reduceNeg, Int.reduceLT, Int.reduceLE, Int.reduceEq, not_false_eq_true, not_true_eq_false, false_implies, true_implies, implies_true, Int.reduceDiv, Int.reduceMod, zr8_zr, zr_zbo, z01_zbo, z01_0, z01_1, zbo_eq0, zup_eq, zup_o, zup_k, ne_eq, ↓ct_x_years_cfail, ↓r_cfail, ↓B_cfail, ↓ct_x_years_dyear, ↓r_dyear, ↓B_dyear, ↓ct_x_years_hgap, ↓r_hgap, ↓B_hgap, ↓v_0, ↓g_0_0, ↓g_0_1, ↓g_0_2, ↓g_0_3, ↓g_0_4, ↓g_0_5, ↓g_0_6, ↓g_0_7, ↓g_0_8, ↓l_78, ↓s_78, ↓n_78, ↓g_0_9, ↓p_0_9, ↓v_1, ↓g_1_0, ↓g_1_1, ↓g_1_2, ↓g_1_3, ↓g_1_4, ↓g_1_5, ↓g_1_6, ↓p_1_6, ↓v_2, ↓g_2_0, ↓l_3, ↓s_3, ↓n_3, ↓g_2_1, ↓l_4, ↓s_4, ↓n_4, ↓g_2_2, ↓l_5, ↓s_5, ↓n_5, ↓g_2_3, ↓l_6, ↓s_6, ↓n_6, ↓g_2_4, ↓l_7, ↓s_7, ↓n_7, ↓g_2_5, ↓l_8, ↓s_8, ↓n_8, ↓g_2_6, ↓l_9, ↓s_9, ↓n_9, ↓g_2_7, ↓p_2_7, ↓g_2_8, ↓p_2_8, ↓g_2_9, ↓p_2_9, y9, zy]
      repeat' (first | assumption | apply And.intro | intro _)
      all_goals first | (apply J43 q; omega) | (apply J36 q; omega)
    simp only [bk_X10_years_0, k_X10_years_0, bk_X10_years_11, k_X10_years_11, bk_X10_years_18, k_X10_years_18, bk_X10_years_36, k_X10_years_36, bk_X10_years_43, k_X10_years_43, bk_X10_years_45, k_X10_years_45, bk_X10_years_63, k_X10_years_63, ↓e_rk1, ↓e_rk0, ↓e_sk0, ↓e_sks, ↓e_ldi0, ↓e_ldis, ↓e_ldl0, ↓e_ldls, ↓e_lda0, ↓e_ldas, ↓e_ok0, ↓e_okss, ↓e_ok1i, ↓e_ok1r, ↓e_ok1n, ↓e_sti, ↓e_sta, ↓e_1, ↓e_2, ↓e_l1, ↓e_l2, ↓e_li, ↓e_sw0, ↓e_sws, ↓e_ceq, ↓e_cne, ↓e_clt, ↓e_cge, ↓e_cgt, ↓e_cle, ↓e_nil, ↓e_cons, ↓e_iconst, ↓e_bipush, ↓e_sipush, ↓e_ldc, ↓e_ldcw, ↓e_ldc2, ↓e_lconst, ↓e_iloadn, ↓e_iload, ↓e_lloadn, ↓e_lload, ↓e_aloadn, ↓e_aload, ↓e_istoren, ↓e_istore, ↓e_astoren, ↓e_astore, ↓e_add, ↓e_iinc, ↓e_iadd, ↓e_isub, ↓e_imul, ↓e_iand, ↓e_ior, ↓e_ixor, ↓e_ishl, ↓e_iushr, ↓e_idiv, ↓e_irem, ↓e_ineg, ↓e_i2l, ↓e_i2b, ↓e_i2s, ↓e_l2i, ↓e_land, ↓e_lor, ↓e_lshl, ↓e_lshr, ↓e_lushr, ↓e_lcmp, ↓e_dupi, ↓e_dupr, ↓e_popi, ↓e_dup2, ↓e_goto, ↓e_if, ↓e_icmp, ↓e_tsw, ↓e_lsw, ↓e_getf, ↓e_putf, ↓e_gets, ↓e_iald, ↓e_cald, ↓e_iast, ↓e_aald, ↓e_aast, ↓e_len, ↓e_copy, ↓e_abs, ↓e_max, ↓e_min, ↓e_iret, ↓e_aret, ↓e_vret, ↓e_is0, ↓e_is1, ↓e_is2, ↓e_is3, ↓e_is4, ↓e_iv1, ↓e_iv2, ↓e_iv3, ↓e_iv4, ↓e_iv5, ↓e_iv6, ↓rt_X10_years, ↓reduceIte, Nat.reduceAdd, Nat.reduceEqDiff, ↓zcl0, ↓zclv, List.map_nil, List.sum_nil, List.map_cons, List.sum_cons, zcat, true_and, and_true, Nat.reduceLeDiff, Nat.reduceAdd, eq_self, forall_const, e_ok0, e_okss, e_ok1i, e_ok1r, e_ok1n, zl_m1000000003, zl_m1000000001, zl_0, zl_1, zl_60, zl_9999, Int.reduceToNat, Int.reduceAdd, Int.reduceMul, Int.reduceSub, Int.reduceNeg, Int.reduceLT, Int.reduceLE, Int.reduceEq, not_false_eq_true, not_true_eq_false, false_implies, true_implies, implies_true, Int.reduceDiv, Int.reduceMod, zr8_zr, zr_zbo, z01_zbo, z01_0, z01_1, zbo_eq0, zup_eq, zup_o, zup_k, ne_eq, ↓ct_x_years_cfail, ↓r_cfail, ↓B_cfail, ↓ct_x_years_dyear, ↓r_dyear, ↓B_dyear, ↓ct_x_years_hgap, ↓r_hgap, ↓B_hgap, ↓v_0, ↓g_0_0, ↓g_0_1, ↓g_0_2, ↓g_0_3, ↓g_0_4, ↓g_0_5, ↓g_0_6, ↓g_0_7, ↓g_0_8, ↓l_78, ↓s_78, ↓n_78, ↓g_0_9, ↓p_0_9, zn]
    repeat' (first | assumption | apply And.intro | intro _)
    all_goals first | (apply J11; omega) | (apply J18; omega)
def B_x_apart (n : Int) (M : Nat → Nat → Int) (post : Option ZV → (Nat → Nat → Int) → Prop) : Prop := rg n ∧ ∃ S : ZMm, Vs S ∧ Rc S M ∧ cp M (R_apart S n) post
def C_x_apart : ZC := fun as h post => match as with
  | [.inr (.inr (.inl 0)), .inl n] => h.1 = zG ∧ B_x_apart n h.2 (fun v M => post v (zG, M))
  | _ => False
theorem r_x_apart {n : Int} {M : Nat → Nat → Int} {post : Option ZV → ZH → Prop} : C_x_apart [.inr (.inr (.inl 0)), .inl n] (zG, M) post = B_x_apart n M (fun v M => post v (zG, M)) := by show (zG = zG ∧ _) = _; simp
def ct_x_apart : Nat → ZC := fun n => if n = 111 then C_cbey else if n = 110 then C_cfail else if n = 113 then C_cthink else if n = 114 then C_cgapb else fun _ _ _ => False
theorem ct_x_apart_cbey {as : List ZV} {h : ZH} {post : Option ZV → ZH → Prop} : ct_x_apart 111 as h post = C_cbey as h post := rfl
theorem ct_x_apart_cfail {as : List ZV} {h : ZH} {post : Option ZV → ZH → Prop} : ct_x_apart 110 as h post = C_cfail as h post := rfl
theorem ct_x_apart_cthink {as : List ZV} {h : ZH} {post : Option ZV → ZH → Prop} : ct_x_apart 113 as h post = C_cthink as h post := rfl
theorem ct_x_apart_cgapb {as : List ZV} {h : ZH} {post : Option ZV → ZH → Prop} : ct_x_apart 114 as h post = C_cgapb as h post := rfl
theorem c_x_apart {E : ZE} {d : Nat} (hd : 7 ≤ d) : zMet E d mX10_apart C_x_apart := by
  refine zmet_of (o := 10) (ini := false) (CT := ct_x_apart) gd_X10_apart rfl (fun h => by cases h) (by omega) ?_ ?_
  · intro n as h post hh
    unfold ct_x_apart at hh
    by_cases c : n = 111
    · subst c; exact ⟨gd_X10_isBeyond, 1, by omega, c_cbey (by omega)⟩
    rw [if_neg c] at hh
    by_cases c : n = 110
    · subst c; exact ⟨gd_X10_failed, 1, by omega, c_cfail (by omega)⟩
    rw [if_neg c] at hh
    by_cases c : n = 113
    · subst c; exact ⟨gd_X10_think, 2, by omega, c_cthink (by omega)⟩
    rw [if_neg c] at hh
    by_cases c : n = 114
    · subst c; exact ⟨gd_X10_gapBehind, 6, by omega, c_cgapb (by omega)⟩
    rw [if_neg c] at hh
    exact hh.elim
  intro as h post hC
  match as, hC with
  | [.inr (.inr (.inl 0)), .inl n], hC =>
    refine ⟨Nat.le_of_ble_eq_true rfl, fun X hX => bs_X10_apart_0 hX ?_⟩
    obtain ⟨G, M⟩ := h
    obtain ⟨hG, hC⟩ := hC
    dsimp only at hG
    subst hG
    simp only [B_x_apart] at hC
    show bk_X10_apart_0 E ct_x_apart X _ [some (.inr (.inr (.inl 0))), some (.inl n)] [] (zG, M) (0, 0)
    obtain ⟨h1, S, vs9, H, hC⟩ := hC
    have vd : Vd (S 88) := vs9.1
    have n9 := H.1
    have J9 : ¬ (0 ≤ n ∧ n ≤ 60) → X 9 [some (.inr (.inr (.inl 0))), some (.inl n)] [] (zG, M) (0, 0) := by
      intro q
      refine bs_X10_apart_9 hX ?_
      simp only [bk_X10_apart_0, k_X10_apart_0, bk_X10_apart_9, k_X10_apart_9, bk_X10_apart_16, k_X10_apart_16, ↓e_rk1, ↓e_rk0, ↓e_sk0, ↓e_sks, ↓e_ldi0, ↓e_ldis, ↓e_ldl0, ↓e_ldls, ↓e_lda0, ↓e_ldas, ↓e_ok0, ↓e_okss, ↓e_ok1i, ↓e_ok1r, ↓e_ok1n, ↓e_sti, ↓e_sta, ↓e_1, ↓e_2, ↓e_l1, ↓e_l2, ↓e_li, ↓e_sw0, ↓e_sws, ↓e_ceq, ↓e_cne, ↓e_clt, ↓e_cge, ↓e_cgt, ↓e_cle, ↓e_nil, ↓e_cons, ↓e_iconst, ↓e_bipush, ↓e_sipush, ↓e_ldc, ↓e_ldcw, ↓e_ldc2, ↓e_lconst, ↓e_iloadn, ↓e_iload, ↓e_lloadn, ↓e_lload, ↓e_aloadn, ↓e_aload, ↓e_istoren, ↓e_istore, ↓e_astoren, ↓e_astore, ↓e_add, ↓e_iinc, ↓e_iadd, ↓e_isub, ↓e_imul, ↓e_iand, ↓e_ior, ↓e_ixor, ↓e_ishl, ↓e_iushr, ↓e_idiv, ↓e_irem, ↓e_ineg, ↓e_i2l, ↓e_i2b, ↓e_i2s, ↓e_l2i, ↓e_land, ↓e_lor, ↓e_lshl, ↓e_lshr, ↓e_lushr, ↓e_lcmp, ↓e_dupi, ↓e_dupr, ↓e_popi, ↓e_dup2, ↓e_goto, ↓e_if, ↓e_icmp, ↓e_tsw, ↓e_lsw, ↓e_getf, ↓e_putf, ↓e_gets, ↓e_iald, ↓e_cald, ↓e_iast, ↓e_aald, ↓e_aast, ↓e_len, ↓e_copy, ↓e_abs, ↓e_max, ↓e_min, ↓e_iret, ↓e_aret, ↓e_vret, ↓e_is0, ↓e_is1, ↓e_is2, ↓e_is3, ↓e_is4, ↓e_iv1, ↓e_iv2, ↓e_iv3, ↓e_iv4, ↓e_iv5, ↓e_iv6, ↓rt_X10_apart, ↓reduceIte, Nat.reduceAdd, Nat.reduceEqDiff, ↓zcl0, ↓zclv, List.map_nil, List.sum_nil, List.map_cons, List.sum_cons, zcat, true_and, and_true, Nat.reduceLeDiff, Nat.reduceAdd, eq_self, forall_const, e_ok0, e_okss, e_ok1i, e_ok1r, e_ok1n, zl_m1000000001, zl_60, Int.reduceToNat, Int.reduceAdd, Int.reduceMul, Int.reduceSub, Int.reduceNeg, Int.reduceLT, Int.reduceLE, Int.reduceEq, not_false_eq_true, not_true_eq_false, false_implies, true_implies, implies_true, Int.reduceDiv, Int.reduceMod, zr8_zr, zr_zbo, z01_zbo, z01_0, z01_1, zbo_eq0, zup_eq, zup_o, zup_k, ne_eq, ↓ct_x_apart_cbey, ↓r_cbey, ↓B_cbey, ↓ct_x_apart_cfail, ↓r_cfail, ↓B_cfail, ↓ct_x_apart_cthink, ↓r_cthink, ↓B_cthink, ↓ct_x_apart_cgapb, ↓r_cgapb, ↓B_cgapb, ↓v_0, ↓g_0_0, ↓g_0_1, ↓g_0_2, ↓g_0_3, ↓g_0_4, ↓g_0_5, ↓g_0_6, ↓g_0_7, ↓g_0_8, ↓l_78, ↓s_78, ↓n_78, ↓g_0_9, ↓p_0_9]
      exact ⟨1, by omega, by omega, cp_no hC H vd (by omega) (by unfold R_apart; rw [if_neg (by omega)]) rfl⟩
    have y1 := vs9.2.1
    have J16 : (0 ≤ n ∧ n ≤ 60) → X 16 [some (.inr (.inr (.inl 0))), some (.inl n)] [] (zG, M) (0, 0) := by
      intro q
      refine bs_X10_apart_16 hX ?_
      simp only [bk_X10_apart_0, k_X10_apart_0, bk_X10_apart_9, k_X10_apart_9, bk_X10_apart_16, k_X10_apart_16, ↓e_rk1, ↓e_rk0, ↓e_sk0, ↓e_sks, ↓e_ldi0, ↓e_ldis, ↓e_ldl0, ↓e_ldls, ↓e_lda0, ↓e_ldas, ↓e_ok0, ↓e_okss, ↓e_ok1i, ↓e_ok1r, ↓e_ok1n, ↓e_sti, ↓e_sta, ↓e_1, ↓e_2, ↓e_l1, ↓e_l2, ↓e_li, ↓e_sw0, ↓e_sws, ↓e_ceq, ↓e_cne, ↓e_clt, ↓e_cge, ↓e_cgt, ↓e_cle, ↓e_nil, ↓e_cons, ↓e_iconst, ↓e_bipush, ↓e_sipush, ↓e_ldc, ↓e_ldcw, ↓e_ldc2, ↓e_lconst, ↓e_iloadn, ↓e_iload, ↓e_lloadn, ↓e_lload, ↓e_aloadn, ↓e_aload, ↓e_istoren, ↓e_istore, ↓e_astoren, ↓e_astore, ↓e_add, ↓e_iinc, ↓e_iadd, ↓e_isub, ↓e_imul, ↓e_iand, ↓e_ior, ↓e_ixor, ↓e_ishl, ↓e_iushr, ↓e_idiv, ↓e_irem, ↓e_ineg, ↓e_i2l, ↓e_i2b, ↓e_i2s, ↓e_l2i, ↓e_land, ↓e_lor, ↓e_lshl, ↓e_lshr, ↓e_lushr, ↓e_lcmp, ↓e_dupi, ↓e_dupr, ↓e_popi, ↓e_dup2, ↓e_goto, ↓e_if, ↓e_icmp, ↓e_tsw, ↓e_lsw, ↓e_getf, ↓e_putf, ↓e_gets, ↓e_iald, ↓e_cald, ↓e_iast, ↓e_aald, ↓e_aast, ↓e_len, ↓e_copy, ↓e_abs, ↓e_max, ↓e_min, ↓e_iret, ↓e_aret, ↓e_vret, ↓e_is0, ↓e_is1, ↓e_is2, ↓e_is3, ↓e_is4, ↓e_iv1, ↓e_iv2, ↓e_iv3, ↓e_iv4, ↓e_iv5, ↓e_iv6, ↓rt_X10_apart, ↓reduceIte, Nat.reduceAdd, Nat.reduceEqDiff, ↓zcl0, ↓zclv, List.map_nil, List.sum_nil, List.map_cons, List.sum_cons, zcat, true_and, and_true, Nat.reduceLeDiff, Nat.reduceAdd, eq_self, forall_const, e_ok0, e_okss, e_ok1i, e_ok1r, e_ok1n, zl_m1000000001, zl_60, Int.reduceToNat, Int.reduceAdd, Int.reduceMul, Int.reduceSub, Int.reduceNeg, Int.reduceLT, Int.reduceLE, Int.reduceEq, not_false_eq_true, not_true_eq_false, false_implies, true_implies, implies_true, Int.reduceDiv, Int.reduceMod, zr8_zr, zr_zbo, z01_zbo, z01_0, z01_1, zbo_eq0, zup_eq, zup_o, zup_k, ne_eq, ↓ct_x_apart_cbey, ↓r_cbey, ↓B_cbey, ↓ct_x_apart_cfail, ↓r_cfail, ↓B_cfail, ↓ct_x_apart_cthink, ↓r_cthink, ↓B_cthink, ↓ct_x_apart_cgapb, ↓r_cgapb, ↓B_cgapb, ↓v_0, ↓g_0_0, ↓g_0_1, ↓g_0_2, ↓g_0_3, ↓g_0_4, ↓g_0_5, ↓g_0_6, ↓g_0_7, ↓g_0_8, ↓l_78, ↓s_78, ↓n_78, ↓g_0_9, ↓p_0_9]
      refine ⟨S 88, n9, fun M1 h1 c1 t1 => ⟨by omega, S 88, -1, DGt H vd t1 h1 c1 vd (fun _ _ => rfl), by omega, fun M2 h2 f2 => cp_T hC H vd (t1.trans (fun x a b c => f2 x a b (by omega) (by omega))) ?_⟩⟩
      unfold R_apart
      rw [if_pos q]
    simp only [bk_X10_apart_0, k_X10_apart_0, bk_X10_apart_9, k_X10_apart_9, bk_X10_apart_16, k_X10_apart_16, ↓e_rk1, ↓e_rk0, ↓e_sk0, ↓e_sks, ↓e_ldi0, ↓e_ldis, ↓e_ldl0, ↓e_ldls, ↓e_lda0, ↓e_ldas, ↓e_ok0, ↓e_okss, ↓e_ok1i, ↓e_ok1r, ↓e_ok1n, ↓e_sti, ↓e_sta, ↓e_1, ↓e_2, ↓e_l1, ↓e_l2, ↓e_li, ↓e_sw0, ↓e_sws, ↓e_ceq, ↓e_cne, ↓e_clt, ↓e_cge, ↓e_cgt, ↓e_cle, ↓e_nil, ↓e_cons, ↓e_iconst, ↓e_bipush, ↓e_sipush, ↓e_ldc, ↓e_ldcw, ↓e_ldc2, ↓e_lconst, ↓e_iloadn, ↓e_iload, ↓e_lloadn, ↓e_lload, ↓e_aloadn, ↓e_aload, ↓e_istoren, ↓e_istore, ↓e_astoren, ↓e_astore, ↓e_add, ↓e_iinc, ↓e_iadd, ↓e_isub, ↓e_imul, ↓e_iand, ↓e_ior, ↓e_ixor, ↓e_ishl, ↓e_iushr, ↓e_idiv, ↓e_irem, ↓e_ineg, ↓e_i2l, ↓e_i2b, ↓e_i2s, ↓e_l2i, ↓e_land, ↓e_lor, ↓e_lshl, ↓e_lshr, ↓e_lushr, ↓e_lcmp, ↓e_dupi, ↓e_dupr, ↓e_popi, ↓e_dup2, ↓e_goto, ↓e_if, ↓e_icmp, ↓e_tsw, ↓e_lsw, ↓e_getf, ↓e_putf, ↓e_gets, ↓e_iald, ↓e_cald, ↓e_iast, ↓e_aald, ↓e_aast, ↓e_len, ↓e_copy, ↓e_abs, ↓e_max, ↓e_min, ↓e_iret, ↓e_aret, ↓e_vret, ↓e_is0, ↓e_is1, ↓e_is2, ↓e_is3, ↓e_is4, ↓e_iv1, ↓e_iv2, ↓e_iv3, ↓e_iv4, ↓e_iv5, ↓e_iv6, ↓rt_X10_apart, ↓reduceIte, Nat.reduceAdd, Nat.reduceEqDiff, ↓zcl0, ↓zclv, List.map_nil, List.sum_nil, List.map_cons, List.sum_cons, zcat, true_and, and_true, Nat.reduceLeDiff, Nat.reduceAdd, eq_self, forall_const, e_ok0, e_okss, e_ok1i, e_ok1r, e_ok1n, zl_m1000000001, zl_60, Int.reduceToNat, Int.reduceAdd, Int.reduceMul, Int.reduceSub, Int.reduceNeg, Int.reduceLT, Int.reduceLE, Int.reduceEq, not_false_eq_true, not_true_eq_false, false_implies, true_implies, implies_true, Int.reduceDiv, Int.reduceMod, zr8_zr, zr_zbo, z01_zbo, z01_0, z01_1, zbo_eq0, zup_eq, zup_o, zup_k, ne_eq, ↓ct_x_apart_cbey, ↓r_cbey, ↓B_cbey, ↓ct_x_apart_cfail, ↓r_cfail, ↓B_cfail, ↓ct_x_apart_cthink, ↓r_cthink, ↓B_cthink, ↓ct_x_apart_cgapb, ↓r_cgapb, ↓B_cgapb, ↓v_0, ↓g_0_0, ↓g_0_1, ↓g_0_2, ↓g_0_3, ↓g_0_4, ↓g_0_5, ↓g_0_6, ↓g_0_7, ↓g_0_8, ↓l_78, ↓s_78, ↓n_78, ↓g_0_9, ↓p_0_9, zr_zbo, zbo_eq0]
    repeat' (first | assumption | apply And.intro | intro _)
    all_goals first | omega | (apply J9; omega) | (apply J16; omega)
def B_x_then (n : Int) (g : Int) (w : Int) (M : Nat → Nat → Int) (post : Option ZV → (Nat → Nat → Int) → Prop) : Prop := rg n ∧ rg g ∧ rg w ∧ ∃ S : ZMm, Vs S ∧ Rc S M ∧ cp M (R_then S n g w) post
def C_x_then : ZC := fun as h post => match as with
  | [.inr (.inr (.inl 0)), .inl n, .inl g, .inl w] => h.1 = zG ∧ B_x_then n g w h.2 (fun v M => post v (zG, M))
  | _ => False
theorem r_x_then {n : Int} {g : Int} {w : Int} {M : Nat → Nat → Int} {post : Option ZV → ZH → Prop} : C_x_then [.inr (.inr (.inl 0)), .inl n, .inl g, .inl w] (zG, M) post = B_x_then n g w M (fun v M => post v (zG, M)) := by show (zG = zG ∧ _) = _; simp
def ct_x_then : Nat → ZC := fun n => if n = 111 then C_cbey else if n = 110 then C_cfail else if n = 113 then C_cthink else if n = 114 then C_cgapb else fun _ _ _ => False
theorem ct_x_then_cbey {as : List ZV} {h : ZH} {post : Option ZV → ZH → Prop} : ct_x_then 111 as h post = C_cbey as h post := rfl
theorem ct_x_then_cfail {as : List ZV} {h : ZH} {post : Option ZV → ZH → Prop} : ct_x_then 110 as h post = C_cfail as h post := rfl
theorem ct_x_then_cthink {as : List ZV} {h : ZH} {post : Option ZV → ZH → Prop} : ct_x_then 113 as h post = C_cthink as h post := rfl
theorem ct_x_then_cgapb {as : List ZV} {h : ZH} {post : Option ZV → ZH → Prop} : ct_x_then 114 as h post = C_cgapb as h post := rfl
theorem c_x_then {E : ZE} {d : Nat} (hd : 7 ≤ d) : zMet E d mX10_then C_x_then := by
  refine zmet_of (o := 10) (ini := false) (CT := ct_x_then) gd_X10_then rfl (fun h => by cases h) (by omega) ?_ ?_
  · intro n as h post hh
    unfold ct_x_then at hh
    by_cases c : n = 111
    · subst c; exact ⟨gd_X10_isBeyond, 1, by omega, c_cbey (by omega)⟩
    rw [if_neg c] at hh
    by_cases c : n = 110
    · subst c; exact ⟨gd_X10_failed, 1, by omega, c_cfail (by omega)⟩
    rw [if_neg c] at hh
    by_cases c : n = 113
    · subst c; exact ⟨gd_X10_think, 2, by omega, c_cthink (by omega)⟩
    rw [if_neg c] at hh
    by_cases c : n = 114
    · subst c; exact ⟨gd_X10_gapBehind, 6, by omega, c_cgapb (by omega)⟩
    rw [if_neg c] at hh
    exact hh.elim
  intro as h post hC
  match as, hC with
  | [.inr (.inr (.inl 0)), .inl n, .inl g, .inl w], hC =>
    refine ⟨Nat.le_of_ble_eq_true rfl, fun X hX => bs_X10_then_0 hX ?_⟩
    obtain ⟨G, M⟩ := h
    obtain ⟨hG, hC⟩ := hC
    dsimp only at hG
    subst hG
    simp only [B_x_then] at hC
    show bk_X10_then_0 E ct_x_then X _ [some (.inr (.inr (.inl 0))), some (.inl n), some (.inl g), some (.inl w)] [] (zG, M) (0, 0)
    obtain ⟨h1, h2, h3, S, vs9, H, hC⟩ := hC
    have vd : Vd (S 88) := vs9.1
    have n9 := H.1
    have J25 : ¬ ((0 ≤ n ∧ n ≤ 60) ∧ (0 ≤ g ∧ g ≤ 1) ∧ 0 ≤ w ∧ w ≤ 1) → X 25 [some (.inr (.inr (.inl 0))), some (.inl n), some (.inl g), some (.inl w)] [] (zG, M) (0, 0) := by
      intro q
      refine bs_X10_then_25 hX ?_
      simp only [bk_X10_then_0, k_X10_then_0, bk_X10_then_9, k_X10_then_9, bk_X10_then_17, k_X10_then_17, bk_X10_then_25, k_X10_then_25, bk_X10_then_32, k_X10_then_32, bk_X10_then_42, k_X10_then_42, bk_X10_then_61, k_X10_then_61, bk_X10_then_73, k_X10_then_73, ↓e_rk1, ↓e_rk0, ↓e_sk0, ↓e_sks, ↓e_ldi0, ↓e_ldis, ↓e_ldl0, ↓e_ldls, ↓e_lda0, ↓e_ldas, ↓e_ok0, ↓e_okss, ↓e_ok1i, ↓e_ok1r, ↓e_ok1n, ↓e_sti, ↓e_sta, ↓e_1, ↓e_2, ↓e_l1, ↓e_l2, ↓e_li, ↓e_sw0, ↓e_sws, ↓e_ceq, ↓e_cne, ↓e_clt, ↓e_cge, ↓e_cgt, ↓e_cle, ↓e_nil, ↓e_cons, ↓e_iconst, ↓e_bipush, ↓e_sipush, ↓e_ldc, ↓e_ldcw, ↓e_ldc2, ↓e_lconst, ↓e_iloadn, ↓e_iload, ↓e_lloadn, ↓e_lload, ↓e_aloadn, ↓e_aload, ↓e_istoren, ↓e_istore, ↓e_astoren, ↓e_astore, ↓e_add, ↓e_iinc, ↓e_iadd, ↓e_isub, ↓e_imul, ↓e_iand, ↓e_ior, ↓e_ixor, ↓e_ishl, ↓e_iushr, ↓e_idiv, ↓e_irem, ↓e_ineg, ↓e_i2l, ↓e_i2b, ↓e_i2s, ↓e_l2i, ↓e_land, ↓e_lor, ↓e_lshl, ↓e_lshr, ↓e_lushr, ↓e_lcmp, ↓e_dupi, ↓e_dupr, ↓e_popi, ↓e_dup2, ↓e_goto, ↓e_if, ↓e_icmp, ↓e_tsw, ↓e_lsw, ↓e_getf, ↓e_putf, ↓e_gets, ↓e_iald, ↓e_cald, ↓e_iast, ↓e_aald, ↓e_aast, ↓e_len, ↓e_copy, ↓e_abs, ↓e_max, ↓e_min, ↓e_iret, ↓e_aret, ↓e_vret, ↓e_is0, ↓e_is1, ↓e_is2, ↓e_is3, ↓e_is4, ↓e_iv1, ↓e_iv2, ↓e_iv3, ↓e_iv4, ↓e_iv5, ↓e_iv6, ↓rt_X10_then, ↓reduceIte, Nat.reduceAdd, Nat.reduceEqDiff, ↓zcl0, ↓zclv, List.map_nil, List.sum_nil, List.map_cons, List.sum_cons, zcat, true_and, and_true, Nat.reduceLeDiff, Nat.reduceAdd, eq_self, forall_const, e_ok0, e_okss, e_ok1i, e_ok1r, e_ok1n, zl_m1000000001, zl_1, zl_60, Int.reduceToNat, Int.reduceAdd, Int.reduceMul, Int.reduceSub, Int.reduceNeg, Int.reduceLT, Int.reduceLE, Int.reduceEq, not_false_eq_true, not_true_eq_false, false_implies, true_implies, implies_true, Int.reduceDiv, Int.reduceMod, zr8_zr, zr_zbo, z01_zbo, z01_0, z01_1, zbo_eq0, zup_eq, zup_o, zup_k, ne_eq, ↓ct_x_then_cbey, ↓r_cbey, ↓B_cbey, ↓ct_x_then_cfail, ↓r_cfail, ↓B_cfail, ↓ct_x_then_cthink, ↓r_cthink, ↓B_cthink, ↓ct_x_then_cgapb, ↓r_cgapb, ↓B_cgapb, ↓v_0, ↓g_0_0, ↓g_0_1, ↓g_0_2, ↓g_0_3, ↓g_0_4, ↓g_0_5, ↓g_0_6, ↓g_0_7, ↓g_0_8, ↓l_78, ↓s_78, ↓n_78, ↓g_0_9, ↓p_0_9]
      exact ⟨1, by omega, by omega, cp_no hC H vd (by omega) (by unfold R_then; rw [if_neg (by omega)]) rfl⟩
    have y1 := vs9.2.1
    have J32 : ((0 ≤ n ∧ n ≤ 60) ∧ (0 ≤ g ∧ g ≤ 1) ∧ 0 ≤ w ∧ w ≤ 1) → X 32 [some (.inr (.inr (.inl 0))), some (.inl n), some (.inl g), some (.inl w)] [] (zG, M) (0, 0) := by
      intro q
      refine bs_X10_then_32 hX ?_
      simp only [bk_X10_then_0, k_X10_then_0, bk_X10_then_9, k_X10_then_9, bk_X10_then_17, k_X10_then_17, bk_X10_then_25, k_X10_then_25, bk_X10_then_32, k_X10_then_32, bk_X10_then_42, k_X10_then_42, bk_X10_then_61, k_X10_then_61, bk_X10_then_73, k_X10_then_73, ↓e_rk1, ↓e_rk0, ↓e_sk0, ↓e_sks, ↓e_ldi0, ↓e_ldis, ↓e_ldl0, ↓e_ldls, ↓e_lda0, ↓e_ldas, ↓e_ok0, ↓e_okss, ↓e_ok1i, ↓e_ok1r, ↓e_ok1n, ↓e_sti, ↓e_sta, ↓e_1, ↓e_2, ↓e_l1, ↓e_l2, ↓e_li, ↓e_sw0, ↓e_sws, ↓e_ceq, ↓e_cne, ↓e_clt, ↓e_cge, ↓e_cgt, ↓e_cle, ↓e_nil, ↓e_cons, ↓e_iconst, ↓e_bipush, ↓e_sipush, ↓e_ldc, ↓e_ldcw, ↓e_ldc2, ↓e_lconst, ↓e_iloadn, ↓e_iload, ↓e_lloadn, ↓e_lload, ↓e_aloadn, ↓e_aload, ↓e_istoren, ↓e_istore, ↓e_astoren, ↓e_astore, ↓e_add, ↓e_iinc, ↓e_iadd, ↓e_isub, ↓e_imul, ↓e_iand, ↓e_ior, ↓e_ixor, ↓e_ishl, ↓e_iushr, ↓e_idiv, ↓e_irem, ↓e_ineg, ↓e_i2l, ↓e_i2b, ↓e_i2s, ↓e_l2i, ↓e_land, ↓e_lor, ↓e_lshl, ↓e_lshr, ↓e_lushr, ↓e_lcmp, ↓e_dupi, ↓e_dupr, ↓e_popi, ↓e_dup2, ↓e_goto, ↓e_if, ↓e_icmp, ↓e_tsw, ↓e_lsw, ↓e_getf, ↓e_putf, ↓e_gets, ↓e_iald, ↓e_cald, ↓e_iast, ↓e_aald, ↓e_aast, ↓e_len, ↓e_copy, ↓e_abs, ↓e_max, ↓e_min, ↓e_iret, ↓e_aret, ↓e_vret, ↓e_is0, ↓e_is1, ↓e_is2, ↓e_is3, ↓e_is4, ↓e_iv1, ↓e_iv2, ↓e_iv3, ↓e_iv4, ↓e_iv5, ↓e_iv6, ↓rt_X10_then, ↓reduceIte, Nat.reduceAdd, Nat.reduceEqDiff, ↓zcl0, ↓zclv, List.map_nil, List.sum_nil, List.map_cons, List.sum_cons, zcat, true_and, and_true, Nat.reduceLeDiff, Nat.reduceAdd, eq_self, forall_const, e_ok0, e_okss, e_ok1i, e_ok1r, e_ok1n, zl_m1000000001, zl_1, zl_60, Int.reduceToNat, Int.reduceAdd, Int.reduceMul, Int.reduceSub, Int.reduceNeg, Int.reduceLT, Int.reduceLE, Int.reduceEq, not_false_eq_true, not_true_eq_false, false_implies, true_implies, implies_true, Int.reduceDiv, Int.reduceMod, zr8_zr, zr_zbo, z01_zbo, z01_0, z01_1, zbo_eq0, zup_eq, zup_o, zup_k, ne_eq, ↓ct_x_then_cbey, ↓r_cbey, ↓B_cbey, ↓ct_x_then_cfail, ↓r_cfail, ↓B_cfail, ↓ct_x_then_cthink, ↓r_cthink, ↓B_cthink, ↓ct_x_then_cgapb, ↓r_cgapb, ↓B_cgapb, ↓v_0, ↓g_0_0, ↓g_0_1, ↓g_0_2, ↓g_0_3, ↓g_0_4, ↓g_0_5, ↓g_0_6, ↓g_0_7, ↓g_0_8, ↓l_78, ↓s_78, ↓n_78, ↓g_0_9, ↓p_0_9]
      refine ⟨S 88, n9, fun M1 h1 c1 t1 => ⟨by omega, S 88, -1, DGt H vd t1 h1 c1 vd (fun _ _ => rfl), by omega, fun M2 h9 f2 => ?_⟩⟩
      have tt : Tf M M2 := t1.trans (fun x a b c => f2 x a b (by omega) (by omega))
      have zg : zr g = g := zr_rg h2
      have zw : zr w = w := zr_rg h3
      have ah := h9.at (g := g) (by omega) (by omega)
      have a0 : M2 57 g.toNat = hi4 (yrs (S 88) (-1) n.toNat) g 0 := ah.1
      have a2 : M2 59 g.toNat = hi4 (yrs (S 88) (-1) n.toNat) g 2 := ah.2.2.1
      have J61 : w = 1 → X 61 [some (.inr (.inr (.inl 0))), some (.inl n), some (.inl g), some (.inl w)] [] (zG, M2) (0, 0) := by
        intro e
        refine bs_X10_then_61 hX ?_
        simp only [bk_X10_then_0, k_X10_then_0, bk_X10_then_9, k_X10_then_9, bk_X10_then_17, k_X10_then_17, bk_X10_then_25, k_X10_then_25, bk_X10_then_32, k_X10_then_32, bk_X10_then_42, k_X10_then_42, bk_X10_then_61, k_X10_then_61, bk_X10_then_73, k_X10_then_73, ↓e_rk1, ↓e_rk0, ↓e_sk0, ↓e_sks, ↓e_ldi0, ↓e_ldis, ↓e_ldl0, ↓e_ldls, ↓e_lda0, ↓e_ldas, ↓e_ok0, ↓e_okss, ↓e_ok1i, ↓e_ok1r, ↓e_ok1n, ↓e_sti, ↓e_sta, ↓e_1, ↓e_2, ↓e_l1, ↓e_l2, ↓e_li, ↓e_sw0, ↓e_sws, ↓e_ceq, ↓e_cne, ↓e_clt, ↓e_cge, ↓e_cgt, ↓e_cle, ↓e_nil, ↓e_cons, ↓e_iconst, ↓e_bipush, ↓e_sipush, ↓e_ldc, ↓e_ldcw, ↓e_ldc2, ↓e_lconst, ↓e_iloadn, ↓e_iload, ↓e_lloadn, ↓e_lload, ↓e_aloadn, ↓e_aload, ↓e_istoren, ↓e_istore, ↓e_astoren, ↓e_astore, ↓e_add, ↓e_iinc, ↓e_iadd, ↓e_isub, ↓e_imul, ↓e_iand, ↓e_ior, ↓e_ixor, ↓e_ishl, ↓e_iushr, ↓e_idiv, ↓e_irem, ↓e_ineg, ↓e_i2l, ↓e_i2b, ↓e_i2s, ↓e_l2i, ↓e_land, ↓e_lor, ↓e_lshl, ↓e_lshr, ↓e_lushr, ↓e_lcmp, ↓e_dupi, ↓e_dupr, ↓e_popi, ↓e_dup2, ↓e_goto, ↓e_if, ↓e_icmp, ↓e_tsw, ↓e_lsw, ↓e_getf, ↓e_putf, ↓e_gets, ↓e_iald, ↓e_cald, ↓e_iast, ↓e_aald, ↓e_aast, ↓e_len, ↓e_copy, ↓e_abs, ↓e_max, ↓e_min, ↓e_iret, ↓e_aret, ↓e_vret, ↓e_is0, ↓e_is1, ↓e_is2, ↓e_is3, ↓e_is4, ↓e_iv1, ↓e_iv2, ↓e_iv3, ↓e_iv4, ↓e_iv5, ↓e_iv6, ↓rt_X10_then, ↓reduceIte, Nat.reduceAdd, Nat.reduceEqDiff, ↓zcl0, ↓zclv, List.map_nil, List.sum_nil, List.map_cons, List.sum_cons, zcat, true_and, and_true, Nat.reduceLeDiff, Nat.reduceAdd, eq_self, forall_const, e_ok0, e_okss, e_ok1i, e_ok1r, e_ok1n, zl_m1000000001, zl_1, zl_60, Int.reduceToNat, Int.reduceAdd, Int.reduceMul, Int.reduceSub, Int.reduceNeg, Int.reduceLT, Int.reduceLE, Int.reduceEq, not_false_eq_true, not_true_eq_false, false_implies, true_implies, implies_true, Int.reduceDiv, Int.reduceMod, zr8_zr, zr_zbo, z01_zbo, z01_0, z01_1, zbo_eq0, zup_eq, zup_o, zup_k, ne_eq, ↓ct_x_then_cbey, ↓r_cbey, ↓B_cbey, ↓ct_x_then_cfail, ↓r_cfail, ↓B_cfail, ↓ct_x_then_cthink, ↓r_cthink, ↓B_cthink, ↓ct_x_then_cgapb, ↓r_cgapb, ↓B_cgapb, ↓v_0, ↓g_0_0, ↓g_0_1, ↓g_0_2, ↓g_0_3, ↓g_0_4, ↓g_0_5, ↓g_0_6, ↓g_0_7, ↓g_0_8, ↓l_78, ↓s_78, ↓n_78, ↓g_0_9, ↓p_0_9, ↓v_53, ↓g_53_0, ↓g_53_1, ↓g_53_2, ↓g_53_3, ↓g_53_4, ↓l_66, ↓s_66, ↓n_66, ↓g_53_5, ↓p_53_5, ↓g_53_6, ↓p_53_6, ↓g_53_7, ↓p_53_7, ↓g_53_8, ↓p_53_8, ↓g_53_9, ↓p_53_9, ↓v_54, ↓g_54_0, ↓l_55, ↓s_55, ↓n_55, ↓g_54_1, ↓l_56, ↓s_56, ↓n_56, ↓g_54_2, ↓l_57, ↓s_57, ↓n_57, ↓g_54_3, ↓l_58, ↓s_58, ↓n_58, ↓g_54_4, ↓l_59, ↓s_59, ↓n_59, ↓g_54_5, ↓l_60, ↓s_60, ↓n_60, ↓g_54_6, ↓l_61, ↓s_61, ↓n_61, ↓g_54_7, ↓p_54_7, ↓g_54_8, ↓p_54_8, ↓g_54_9, ↓p_54_9, zg, a2]
        refine ⟨by omega, by omega, cp_T hC H vd tt ?_⟩
        unfold R_then
        rw [if_pos q, e]
        rfl
      refine bs_X10_then_42 hX ?_
      simp only [bk_X10_then_0, k_X10_then_0, bk_X10_then_9, k_X10_then_9, bk_X10_then_17, k_X10_then_17, bk_X10_then_25, k_X10_then_25, bk_X10_then_32, k_X10_then_32, bk_X10_then_42, k_X10_then_42, bk_X10_then_61, k_X10_then_61, bk_X10_then_73, k_X10_then_73, ↓e_rk1, ↓e_rk0, ↓e_sk0, ↓e_sks, ↓e_ldi0, ↓e_ldis, ↓e_ldl0, ↓e_ldls, ↓e_lda0, ↓e_ldas, ↓e_ok0, ↓e_okss, ↓e_ok1i, ↓e_ok1r, ↓e_ok1n, ↓e_sti, ↓e_sta, ↓e_1, ↓e_2, ↓e_l1, ↓e_l2, ↓e_li, ↓e_sw0, ↓e_sws, ↓e_ceq, ↓e_cne, ↓e_clt, ↓e_cge, ↓e_cgt, ↓e_cle, ↓e_nil, ↓e_cons, ↓e_iconst, ↓e_bipush, ↓e_sipush, ↓e_ldc, ↓e_ldcw, ↓e_ldc2, ↓e_lconst, ↓e_iloadn, ↓e_iload, ↓e_lloadn, ↓e_lload, ↓e_aloadn, ↓e_aload, ↓e_istoren, ↓e_istore, ↓e_astoren, ↓e_astore, ↓e_add, ↓e_iinc, ↓e_iadd, ↓e_isub, ↓e_imul, ↓e_iand, ↓e_ior, ↓e_ixor, ↓e_ishl, ↓e_iushr, ↓e_idiv, ↓e_irem, ↓e_ineg, ↓e_i2l, ↓e_i2b, ↓e_i2s, ↓e_l2i, ↓e_land, ↓e_lor, ↓e_lshl, ↓e_lshr, ↓e_lushr, ↓e_lcmp, ↓e_dupi, ↓e_dupr, ↓e_popi, ↓e_dup2, ↓e_goto, ↓e_if, ↓e_icmp, ↓e_tsw, ↓e_lsw, ↓e_getf, ↓e_putf, ↓e_gets, ↓e_iald, ↓e_cald, ↓e_iast, ↓e_aald, ↓e_aast, ↓e_len, ↓e_copy, ↓e_abs, ↓e_max, ↓e_min, ↓e_iret, ↓e_aret, ↓e_vret, ↓e_is0, ↓e_is1, ↓e_is2, ↓e_is3, ↓e_is4, ↓e_iv1, ↓e_iv2, ↓e_iv3, ↓e_iv4, ↓e_iv5, ↓e_iv6, ↓rt_X10_then, ↓reduceIte, Nat.reduceAdd, Nat.reduceEqDiff, ↓zcl0, ↓zclv, List.map_nil, List.sum_nil, List.map_cons, List.sum_cons, zcat, true_and, and_true, Nat.reduceLeDiff, Nat.reduceAdd, eq_self, forall_const, e_ok0, e_okss, e_ok1i, e_ok1r, e_ok1n, zl_m1000000001, zl_1, zl_60, Int.reduceToNat, Int.reduceAdd, Int.reduceMul, Int.reduceSub, Int.reduceNeg, Int.reduceLT, Int.reduceLE, Int.reduceEq, not_false_eq_true, not_true_eq_false, false_implies, true_implies, implies_true, Int.reduceDiv, Int.reduceMod, zr8_zr, zr_zbo, z01_zbo, z01_0, z01_1, zbo_eq0, zup_eq, zup_o, zup_k, ne_eq, ↓ct_x_then_cbey, ↓r_cbey, ↓B_cbey, ↓ct_x_then_cfail, ↓r_cfail, ↓B_cfail, ↓ct_x_then_cthink, ↓r_cthink, ↓B_cthink, ↓ct_x_then_cgapb, ↓r_cgapb, ↓B_cgapb, ↓v_0, ↓g_0_0, ↓g_0_1, ↓g_0_2, ↓g_0_3, ↓g_0_4, ↓g_0_5, ↓g_0_6, ↓g_0_7, ↓g_0_8, ↓l_78, ↓s_78, ↓n_78, ↓g_0_9, ↓p_0_9, ↓v_53, ↓g_53_0, ↓g_53_1, ↓g_53_2, ↓g_53_3, ↓g_53_4, ↓l_66, ↓s_66, ↓n_66, ↓g_53_5, ↓p_53_5, ↓g_53_6, ↓p_53_6, ↓g_53_7, ↓p_53_7, ↓g_53_8, ↓p_53_8, ↓g_53_9, ↓p_53_9, ↓v_54, ↓g_54_0, ↓l_55, ↓s_55, ↓n_55, ↓g_54_1, ↓l_56, ↓s_56, ↓n_56, ↓g_54_2, ↓l_57, ↓s_57, ↓n_57, ↓g_54_3, ↓l_58, ↓s_58, ↓n_58, ↓g_54_4, ↓l_59, ↓s_59, ↓n_59, ↓g_54_5, ↓l_60, ↓s_60, ↓n_60, ↓g_54_6, ↓l_61, ↓s_61, ↓n_61, ↓g_54_7, ↓p_54_7, ↓g_54_8, ↓p_54_8, ↓g_54_9, ↓p_54_9, zg, zw, a0]
      refine ⟨fun e => ?_, fun e => ?_⟩
      · first | exact J61 (by omega) | (refine ⟨by omega, by omega, cp_T hC H vd tt ?_⟩; unfold R_then; rw [if_pos q, show w = 0 by omega]; rfl)
      · first | exact J61 (by omega) | (refine ⟨by omega, by omega, cp_T hC H vd tt ?_⟩; unfold R_then; rw [if_pos q, show w = 0 by omega]; rfl)
    have J17 : (0 ≤ n ∧ n ≤ 60) ∧ (0 ≤ g ∧ g ≤ 1) → X 17 [some (.inr (.inr (.inl 0))), some (.inl n), some (.inl g), some (.inl w)] [] (zG, M) (0, 0) := by
      intro q
      refine bs_X10_then_17 hX ?_
      simp only [bk_X10_then_0, k_X10_then_0, bk_X10_then_9, k_X10_then_9, bk_X10_then_17, k_X10_then_17, bk_X10_then_25, k_X10_then_25, bk_X10_then_32, k_X10_then_32, bk_X10_then_42, k_X10_then_42, bk_X10_then_61, k_X10_then_61, bk_X10_then_73, k_X10_then_73, ↓e_rk1, ↓e_rk0, ↓e_sk0, ↓e_sks, ↓e_ldi0, ↓e_ldis, ↓e_ldl0, ↓e_ldls, ↓e_lda0, ↓e_ldas, ↓e_ok0, ↓e_okss, ↓e_ok1i, ↓e_ok1r, ↓e_ok1n, ↓e_sti, ↓e_sta, ↓e_1, ↓e_2, ↓e_l1, ↓e_l2, ↓e_li, ↓e_sw0, ↓e_sws, ↓e_ceq, ↓e_cne, ↓e_clt, ↓e_cge, ↓e_cgt, ↓e_cle, ↓e_nil, ↓e_cons, ↓e_iconst, ↓e_bipush, ↓e_sipush, ↓e_ldc, ↓e_ldcw, ↓e_ldc2, ↓e_lconst, ↓e_iloadn, ↓e_iload, ↓e_lloadn, ↓e_lload, ↓e_aloadn, ↓e_aload, ↓e_istoren, ↓e_istore, ↓e_astoren, ↓e_astore, ↓e_add, ↓e_iinc, ↓e_iadd, ↓e_isub, ↓e_imul, ↓e_iand, ↓e_ior, ↓e_ixor, ↓e_ishl, ↓e_iushr, ↓e_idiv, ↓e_irem, ↓e_ineg, ↓e_i2l, ↓e_i2b, ↓e_i2s, ↓e_l2i, ↓e_land, ↓e_lor, ↓e_lshl, ↓e_lshr, ↓e_lushr, ↓e_lcmp, ↓e_dupi, ↓e_dupr, ↓e_popi, ↓e_dup2, ↓e_goto, ↓e_if, ↓e_icmp, ↓e_tsw, ↓e_lsw, ↓e_getf, ↓e_putf, ↓e_gets, ↓e_iald, ↓e_cald, ↓e_iast, ↓e_aald, ↓e_aast, ↓e_len, ↓e_copy, ↓e_abs, ↓e_max, ↓e_min, ↓e_iret, ↓e_aret, ↓e_vret, ↓e_is0, ↓e_is1, ↓e_is2, ↓e_is3, ↓e_is4, ↓e_iv1, ↓e_iv2, ↓e_iv3, ↓e_iv4, ↓e_iv5, ↓e_iv6, ↓rt_X10_then, ↓reduceIte, Nat.reduceAdd, Nat.reduceEqDiff, ↓zcl0, ↓zclv, List.map_nil, List.sum_nil, List.map_cons, List.sum_cons, zcat, true_and, and_true, Nat.reduceLeDiff, Nat.reduceAdd, eq_self, forall_const, e_ok0, e_okss, e_ok1i, e_ok1r, e_ok1n, zl_m1000000001, zl_1, zl_60, Int.reduceToNat, Int.reduceAdd, Int.reduceMul, Int.reduceSub, Int.reduceNeg, Int.reduceLT, Int.reduceLE, Int.reduceEq, not_false_eq_true, not_true_eq_false, false_implies, true_implies, implies_true, Int.reduceDiv, Int.reduceMod, zr8_zr, zr_zbo, z01_zbo, z01_0, z01_1, zbo_eq0, zup_eq, zup_o, zup_k, ne_eq, ↓ct_x_then_cbey, ↓r_cbey, ↓B_cbey, ↓ct_x_then_cfail, ↓r_cfail, ↓B_cfail, ↓ct_x_then_cthink, ↓r_cthink, ↓B_cthink, ↓ct_x_then_cgapb, ↓r_cgapb, ↓B_cgapb, ↓v_0, ↓g_0_0, ↓g_0_1, ↓g_0_2, ↓g_0_3, ↓g_0_4, ↓g_0_5, ↓g_0_6, ↓g_0_7, ↓g_0_8, ↓l_78, ↓s_78, ↓n_78, ↓g_0_9, ↓p_0_9, zr_zbo, zbo_eq0]
      repeat' (first | assumption | apply And.intro | intro _)
      all_goals first | omega | (apply J25; omega) | (apply J32; omega)
    have J9 : (0 ≤ n ∧ n ≤ 60) → X 9 [some (.inr (.inr (.inl 0))), some (.inl n), some (.inl g), some (.inl w)] [] (zG, M) (0, 0) := by
      intro q
      refine bs_X10_then_9 hX ?_
      simp only [bk_X10_then_0, k_X10_then_0, bk_X10_then_9, k_X10_then_9, bk_X10_then_17, k_X10_then_17, bk_X10_then_25, k_X10_then_25, bk_X10_then_32, k_X10_then_32, bk_X10_then_42, k_X10_then_42, bk_X10_then_61, k_X10_then_61, bk_X10_then_73, k_X10_then_73, ↓e_rk1, ↓e_rk0, ↓e_sk0, ↓e_sks, ↓e_ldi0, ↓e_ldis, ↓e_ldl0, ↓e_ldls, ↓e_lda0, ↓e_ldas, ↓e_ok0, ↓e_okss, ↓e_ok1i, ↓e_ok1r, ↓e_ok1n, ↓e_sti, ↓e_sta, ↓e_1, ↓e_2, ↓e_l1, ↓e_l2, ↓e_li, ↓e_sw0, ↓e_sws, ↓e_ceq, ↓e_cne, ↓e_clt, ↓e_cge, ↓e_cgt, ↓e_cle, ↓e_nil, ↓e_cons, ↓e_iconst, ↓e_bipush, ↓e_sipush, ↓e_ldc, ↓e_ldcw, ↓e_ldc2, ↓e_lconst, ↓e_iloadn, ↓e_iload, ↓e_lloadn, ↓e_lload, ↓e_aloadn, ↓e_aload, ↓e_istoren, ↓e_istore, ↓e_astoren, ↓e_astore, ↓e_add, ↓e_iinc, ↓e_iadd, ↓e_isub, ↓e_imul, ↓e_iand, ↓e_ior, ↓e_ixor, ↓e_ishl, ↓e_iushr, ↓e_idiv, ↓e_irem, ↓e_ineg, ↓e_i2l, ↓e_i2b, ↓e_i2s, ↓e_l2i, ↓e_land, ↓e_lor, ↓e_lshl, ↓e_lshr, ↓e_lushr, ↓e_lcmp, ↓e_dupi, ↓e_dupr, ↓e_popi, ↓e_dup2, ↓e_goto, ↓e_if, ↓e_icmp, ↓e_tsw, ↓e_lsw, ↓e_getf, ↓e_putf, ↓e_gets, ↓e_iald, ↓e_cald, ↓e_iast, ↓e_aald, ↓e_aast, ↓e_len, ↓e_copy, ↓e_abs, ↓e_max, ↓e_min, ↓e_iret, ↓e_aret, ↓e_vret, ↓e_is0, ↓e_is1, ↓e_is2, ↓e_is3, ↓e_is4, ↓e_iv1, ↓e_iv2, ↓e_iv3, ↓e_iv4, ↓e_iv5, ↓e_iv6, ↓rt_X10_then, ↓reduceIte, Nat.reduceAdd, Nat.reduceEqDiff, ↓zcl0, ↓zclv, List.map_nil, List.sum_nil, List.map_cons, List.sum_cons, zcat, true_and, and_true, Nat.reduceLeDiff, Nat.reduceAdd, eq_self, forall_const, e_ok0, e_okss, e_ok1i, e_ok1r, e_ok1n, zl_m1000000001, zl_1, zl_60, Int.reduceToNat, Int.reduceAdd, Int.reduceMul, Int.reduceSub, Int.reduceNeg, Int.reduceLT, Int.reduceLE, Int.reduceEq, not_false_eq_true, not_true_eq_false, false_implies, true_implies, implies_true, Int.reduceDiv, Int.reduceMod, zr8_zr, zr_zbo, z01_zbo, z01_0, z01_1, zbo_eq0, zup_eq, zup_o, zup_k, ne_eq, ↓ct_x_then_cbey, ↓r_cbey, ↓B_cbey, ↓ct_x_then_cfail, ↓r_cfail, ↓B_cfail, ↓ct_x_then_cthink, ↓r_cthink, ↓B_cthink, ↓ct_x_then_cgapb, ↓r_cgapb, ↓B_cgapb, ↓v_0, ↓g_0_0, ↓g_0_1, ↓g_0_2, ↓g_0_3, ↓g_0_4, ↓g_0_5, ↓g_0_6, ↓g_0_7, ↓g_0_8, ↓l_78, ↓s_78, ↓n_78, ↓g_0_9, ↓p_0_9, zr_zbo, zbo_eq0]
      repeat' (first | assumption | apply And.intro | intro _)
      all_goals first | omega | (apply J25; omega) | (apply J17; omega)
    simp only [bk_X10_then_0, k_X10_then_0, bk_X10_then_9, k_X10_then_9, bk_X10_then_17, k_X10_then_17, bk_X10_then_25, k_X10_then_25, bk_X10_then_32, k_X10_then_32, bk_X10_then_42, k_X10_then_42, bk_X10_then_61, k_X10_then_61, bk_X10_then_73, k_X10_then_73, ↓e_rk1, ↓e_rk0, ↓e_sk0, ↓e_sks, ↓e_ldi0, ↓e_ldis, ↓e_ldl0, ↓e_ldls, ↓e_lda0, ↓e_ldas, ↓e_ok0, ↓e_okss, ↓e_ok1i, ↓e_ok1r, ↓e_ok1n, ↓e_sti, ↓e_sta, ↓e_1, ↓e_2, ↓e_l1, ↓e_l2, ↓e_li, ↓e_sw0, ↓e_sws, ↓e_ceq, ↓e_cne, ↓e_clt, ↓e_cge, ↓e_cgt, ↓e_cle, ↓e_nil, ↓e_cons, ↓e_iconst, ↓e_bipush, ↓e_sipush, ↓e_ldc, ↓e_ldcw, ↓e_ldc2, ↓e_lconst, ↓e_iloadn, ↓e_iload, ↓e_lloadn, ↓e_lload, ↓e_aloadn, ↓e_aload, ↓e_istoren, ↓e_istore, ↓e_astoren, ↓e_astore, ↓e_add, ↓e_iinc, ↓e_iadd, ↓e_isub, ↓e_imul, ↓e_iand, ↓e_ior, ↓e_ixor, ↓e_ishl, ↓e_iushr, ↓e_idiv, ↓e_irem, ↓e_ineg, ↓e_i2l, ↓e_i2b, ↓e_i2s, ↓e_l2i, ↓e_land, ↓e_lor, ↓e_lshl, ↓e_lshr, ↓e_lushr, ↓e_lcmp, ↓e_dupi, ↓e_dupr, ↓e_popi, ↓e_dup2, ↓e_goto, ↓e_if, ↓e_icmp, ↓e_tsw, ↓e_lsw, ↓e_getf, ↓e_putf, ↓e_gets, ↓e_iald, ↓e_cald, ↓e_iast, ↓e_aald, ↓e_aast, ↓e_len, ↓e_copy, ↓e_abs, ↓e_max, ↓e_min, ↓e_iret, ↓e_aret, ↓e_vret, ↓e_is0, ↓e_is1, ↓e_is2, ↓e_is3, ↓e_is4, ↓e_iv1, ↓e_iv2, ↓e_iv3, ↓e_iv4, ↓e_iv5, ↓e_iv6, ↓rt_X10_then, ↓reduceIte, Nat.reduceAdd, Nat.reduceEqDiff, ↓zcl0, ↓zclv, List.map_nil, List.sum_nil, List.map_cons, List.sum_cons, zcat, true_and, and_true, Nat.reduceLeDiff, Nat.reduceAdd, eq_self, forall_const, e_ok0, e_okss, e_ok1i, e_ok1r, e_ok1n, zl_m1000000001, zl_1, zl_60, Int.reduceToNat, Int.reduceAdd, Int.reduceMul, Int.reduceSub, Int.reduceNeg, Int.reduceLT, Int.reduceLE, Int.reduceEq, not_false_eq_true, not_true_eq_false, false_implies, true_implies, implies_true, Int.reduceDiv, Int.reduceMod, zr8_zr, zr_zbo, z01_zbo, z01_0, z01_1, zbo_eq0, zup_eq, zup_o, zup_k, ne_eq, ↓ct_x_then_cbey, ↓r_cbey, ↓B_cbey, ↓ct_x_then_cfail, ↓r_cfail, ↓B_cfail, ↓ct_x_then_cthink, ↓r_cthink, ↓B_cthink, ↓ct_x_then_cgapb, ↓r_cgapb, ↓B_cgapb, ↓v_0, ↓g_0_0, ↓g_0_1, ↓g_0_2, ↓g_0_3, ↓g_0_4, ↓g_0_5, ↓g_0_6, ↓g_0_7, ↓g_0_8, ↓l_78, ↓s_78, ↓n_78, ↓g_0_9, ↓p_0_9, zr_zbo, zbo_eq0]
    repeat' (first | assumption | apply And.intro | intro _)
    all_goals first | omega | (apply J25; omega) | (apply J9; omega)
theorem mtn_s {d : Nat → Int} {j k : Nat} : mtn d (j + 1) k = if 0 < gap (yrs d (-1) k) then mtn d j (k + 1) else k := rfl
def B_x_meets (M : Nat → Nat → Int) (post : Option ZV → (Nat → Nat → Int) → Prop) : Prop := ∃ S : ZMm, Vs S ∧ Rc S M ∧ cp M (R_meets S) post
def C_x_meets : ZC := fun as h post => match as with
  | [.inr (.inr (.inl 0))] => h.1 = zG ∧ B_x_meets h.2 (fun v M => post v (zG, M))
  | _ => False
theorem r_x_meets {M : Nat → Nat → Int} {post : Option ZV → ZH → Prop} : C_x_meets [.inr (.inr (.inl 0))] (zG, M) post = B_x_meets M (fun v M => post v (zG, M)) := by show (zG = zG ∧ _) = _; simp
def ct_x_meets : Nat → ZC := fun n => if n = 110 then C_cfail else if n = 113 then C_cthink else if n = 18 then C_hgap else if n = 4 then C_dyear else fun _ _ _ => False
theorem ct_x_meets_cfail {as : List ZV} {h : ZH} {post : Option ZV → ZH → Prop} : ct_x_meets 110 as h post = C_cfail as h post := rfl
theorem ct_x_meets_cthink {as : List ZV} {h : ZH} {post : Option ZV → ZH → Prop} : ct_x_meets 113 as h post = C_cthink as h post := rfl
theorem ct_x_meets_hgap {as : List ZV} {h : ZH} {post : Option ZV → ZH → Prop} : ct_x_meets 18 as h post = C_hgap as h post := rfl
theorem ct_x_meets_dyear {as : List ZV} {h : ZH} {post : Option ZV → ZH → Prop} : ct_x_meets 4 as h post = C_dyear as h post := rfl
theorem c_x_meets {E : ZE} {d : Nat} (hd : 6 ≤ d) : zMet E d mX10_meets C_x_meets := by
  refine zmet_of (o := 10) (ini := false) (CT := ct_x_meets) gd_X10_meets rfl (fun h => by cases h) (by omega) ?_ ?_
  · intro n as h post hh
    unfold ct_x_meets at hh
    by_cases c : n = 110
    · subst c; exact ⟨gd_X10_failed, 1, by omega, c_cfail (by omega)⟩
    rw [if_neg c] at hh
    by_cases c : n = 113
    · subst c; exact ⟨gd_X10_think, 2, by omega, c_cthink (by omega)⟩
    rw [if_neg c] at hh
    by_cases c : n = 18
    · subst c; exact ⟨gd_X2_gap, 2, by omega, c_hgap (by omega)⟩
    rw [if_neg c] at hh
    by_cases c : n = 4
    · subst c; exact ⟨gd_X1_goYear, 5, by omega, c_dyear (by omega)⟩
    rw [if_neg c] at hh
    exact hh.elim
  intro as h post hC
  match as, hC with
  | [.inr (.inr (.inl 0))], hC =>
    refine ⟨Nat.le_of_ble_eq_true rfl, fun X hX => bs_X10_meets_0 hX ?_⟩
    obtain ⟨G, M⟩ := h
    obtain ⟨hG, hC⟩ := hC
    dsimp only at hG
    subst hG
    simp only [B_x_meets] at hC
    show bk_X10_meets_0 E ct_x_meets X _ [some (.inr (.inr (.inl 0))), none] [] (zG, M) (0, 0)
    obtain ⟨S, vs9, H, hC⟩ := hC
    have vd : Vd (S 88) := vs9.1
    have n9 := H.1
    have y1 := vs9.2.1
    have v1 := vd.2.1
    have lp : ∀ (j k : Nat) (M' : ZMm), j + k = 60 → mtn (S 88) j k = mtn (S 88) 60 0 → HR 54 M' (yrs (S 88) (-1) k) → CR 62 M' (S 88) (-1) → Tf M M' → X 6 [some (.inr (.inr (.inl 0))), some (.inl ((k : Int)))] [] (zG, M') (0, 0) := by
      intro j
      induction j with
      | zero =>
        intro k M' hk hm h c t
        have ek : k = 60 := by omega
        subst ek
        have ok := yrs_ok vd (-1) 60 (by omega)
        have gr := gap_rng ok.1
        have zg : zr (gap (yrs (S 88) (-1) 60)) = gap (yrs (S 88) (-1) 60) := zr_of (by omega) (by omega)
        have hm9 : mtn (S 88) 60 0 = 60 := hm.symm
        refine bs_X10_meets_6 hX ?_
        have zk : zr ((60 : Nat) : Int) = 60 := rfl
        simp only [bk_X10_meets_0, k_X10_meets_0, bk_X10_meets_6, k_X10_meets_6, bk_X10_meets_27, k_X10_meets_27, bk_X10_meets_40, k_X10_meets_40, ↓e_rk1, ↓e_rk0, ↓e_sk0, ↓e_sks, ↓e_ldi0, ↓e_ldis, ↓e_ldl0, ↓e_ldls, ↓e_lda0, ↓e_ldas, ↓e_ok0, ↓e_okss, ↓e_ok1i, ↓e_ok1r, ↓e_ok1n, ↓e_sti, ↓e_sta, ↓e_1, ↓e_2, ↓e_l1, ↓e_l2, ↓e_li, ↓e_sw0, ↓e_sws, ↓e_ceq, ↓e_cne, ↓e_clt, ↓e_cge, ↓e_cgt, ↓e_cle, ↓e_nil, ↓e_cons, ↓e_iconst, ↓e_bipush, ↓e_sipush, ↓e_ldc, ↓e_ldcw, ↓e_ldc2, ↓e_lconst, ↓e_iloadn, ↓e_iload, ↓e_lloadn, ↓e_lload, ↓e_aloadn, ↓e_aload, ↓e_istoren, ↓e_istore, ↓e_astoren, ↓e_astore, ↓e_add, ↓e_iinc, ↓e_iadd, ↓e_isub, ↓e_imul, ↓e_iand, ↓e_ior, ↓e_ixor, ↓e_ishl, ↓e_iushr, ↓e_idiv, ↓e_irem, ↓e_ineg, ↓e_i2l, ↓e_i2b, ↓e_i2s, ↓e_l2i, ↓e_land, ↓e_lor, ↓e_lshl, ↓e_lshr, ↓e_lushr, ↓e_lcmp, ↓e_dupi, ↓e_dupr, ↓e_popi, ↓e_dup2, ↓e_goto, ↓e_if, ↓e_icmp, ↓e_tsw, ↓e_lsw, ↓e_getf, ↓e_putf, ↓e_gets, ↓e_iald, ↓e_cald, ↓e_iast, ↓e_aald, ↓e_aast, ↓e_len, ↓e_copy, ↓e_abs, ↓e_max, ↓e_min, ↓e_iret, ↓e_aret, ↓e_vret, ↓e_is0, ↓e_is1, ↓e_is2, ↓e_is3, ↓e_is4, ↓e_iv1, ↓e_iv2, ↓e_iv3, ↓e_iv4, ↓e_iv5, ↓e_iv6, ↓rt_X10_meets, ↓reduceIte, Nat.reduceAdd, Nat.reduceEqDiff, ↓zcl0, ↓zclv, List.map_nil, List.sum_nil, List.map_cons, List.sum_cons, zcat, true_and, and_true, Nat.reduceLeDiff, Nat.reduceAdd, eq_self, forall_const, e_ok0, e_okss, e_ok1i, e_ok1r, e_ok1n, zl_m1000000002, zl_0, zl_60, Int.reduceToNat, Int.reduceAdd, Int.reduceMul, Int.reduceSub, Int.reduceNeg, Int.reduceLT, Int.reduceLE, Int.reduceEq, not_false_eq_true, not_true_eq_false, false_implies, true_implies, implies_true, Int.reduceDiv, Int.reduceMod, zr8_zr, zr_zbo, z01_zbo, z01_0, z01_1, zbo_eq0, zup_eq, zup_o, zup_k, ne_eq, ↓ct_x_meets_cfail, ↓r_cfail, ↓B_cfail, ↓ct_x_meets_cthink, ↓r_cthink, ↓B_cthink, ↓ct_x_meets_hgap, ↓r_hgap, ↓B_hgap, ↓ct_x_meets_dyear, ↓r_dyear, ↓B_dyear, ↓v_0, ↓g_0_0, ↓g_0_1, ↓g_0_2, ↓g_0_3, ↓g_0_4, ↓g_0_5, ↓g_0_6, ↓g_0_7, ↓g_0_8, ↓l_78, ↓s_78, ↓n_78, ↓g_0_9, ↓p_0_9, ↓v_53, ↓g_53_0, ↓g_53_1, ↓g_53_2, ↓g_53_3, ↓g_53_4, ↓l_66, ↓s_66, ↓n_66, ↓g_53_5, ↓p_53_5, ↓g_53_6, ↓p_53_6, ↓g_53_7, ↓p_53_7, ↓g_53_8, ↓p_53_8, ↓g_53_9, ↓p_53_9, ↓v_54, ↓g_54_0, ↓l_55, ↓s_55, ↓n_55, ↓g_54_1, ↓l_56, ↓s_56, ↓n_56, ↓g_54_2, ↓l_57, ↓s_57, ↓n_57, ↓g_54_3, ↓l_58, ↓s_58, ↓n_58, ↓g_54_4, ↓l_59, ↓s_59, ↓n_59, ↓g_54_5, ↓l_60, ↓s_60, ↓n_60, ↓g_54_6, ↓l_61, ↓s_61, ↓n_61, ↓g_54_7, ↓p_54_7, ↓g_54_8, ↓p_54_8, ↓g_54_9, ↓p_54_9, zk]
        refine ⟨Or.inr (Or.inr rfl), _, h, ok.1, ?_⟩
        rw [zg]
        refine ⟨fun e => cp_T hC H vd t (by unfold R_meets; rw [hm9, if_pos e]), fun e => ?_⟩
        refine bs_X10_meets_27 hX ?_
        simp only [bk_X10_meets_0, k_X10_meets_0, bk_X10_meets_6, k_X10_meets_6, bk_X10_meets_27, k_X10_meets_27, bk_X10_meets_40, k_X10_meets_40, ↓e_rk1, ↓e_rk0, ↓e_sk0, ↓e_sks, ↓e_ldi0, ↓e_ldis, ↓e_ldl0, ↓e_ldls, ↓e_lda0, ↓e_ldas, ↓e_ok0, ↓e_okss, ↓e_ok1i, ↓e_ok1r, ↓e_ok1n, ↓e_sti, ↓e_sta, ↓e_1, ↓e_2, ↓e_l1, ↓e_l2, ↓e_li, ↓e_sw0, ↓e_sws, ↓e_ceq, ↓e_cne, ↓e_clt, ↓e_cge, ↓e_cgt, ↓e_cle, ↓e_nil, ↓e_cons, ↓e_iconst, ↓e_bipush, ↓e_sipush, ↓e_ldc, ↓e_ldcw, ↓e_ldc2, ↓e_lconst, ↓e_iloadn, ↓e_iload, ↓e_lloadn, ↓e_lload, ↓e_aloadn, ↓e_aload, ↓e_istoren, ↓e_istore, ↓e_astoren, ↓e_astore, ↓e_add, ↓e_iinc, ↓e_iadd, ↓e_isub, ↓e_imul, ↓e_iand, ↓e_ior, ↓e_ixor, ↓e_ishl, ↓e_iushr, ↓e_idiv, ↓e_irem, ↓e_ineg, ↓e_i2l, ↓e_i2b, ↓e_i2s, ↓e_l2i, ↓e_land, ↓e_lor, ↓e_lshl, ↓e_lshr, ↓e_lushr, ↓e_lcmp, ↓e_dupi, ↓e_dupr, ↓e_popi, ↓e_dup2, ↓e_goto, ↓e_if, ↓e_icmp, ↓e_tsw, ↓e_lsw, ↓e_getf, ↓e_putf, ↓e_gets, ↓e_iald, ↓e_cald, ↓e_iast, ↓e_aald, ↓e_aast, ↓e_len, ↓e_copy, ↓e_abs, ↓e_max, ↓e_min, ↓e_iret, ↓e_aret, ↓e_vret, ↓e_is0, ↓e_is1, ↓e_is2, ↓e_is3, ↓e_is4, ↓e_iv1, ↓e_iv2, ↓e_iv3, ↓e_iv4, ↓e_iv5, ↓e_iv6, ↓rt_X10_meets, ↓reduceIte, Nat.reduceAdd, Nat.reduceEqDiff, ↓zcl0, ↓zclv, List.map_nil, List.sum_nil, List.map_cons, List.sum_cons, zcat, true_and, and_true, Nat.reduceLeDiff, Nat.reduceAdd, eq_self, forall_const, e_ok0, e_okss, e_ok1i, e_ok1r, e_ok1n, zl_m1000000002, zl_0, zl_60, Int.reduceToNat, Int.reduceAdd, Int.reduceMul, Int.reduceSub, Int.reduceNeg, Int.reduceLT, Int.reduceLE, Int.reduceEq, not_false_eq_true, not_true_eq_false, false_implies, true_implies, implies_true, Int.reduceDiv, Int.reduceMod, zr8_zr, zr_zbo, z01_zbo, z01_0, z01_1, zbo_eq0, zup_eq, zup_o, zup_k, ne_eq, ↓ct_x_meets_cfail, ↓r_cfail, ↓B_cfail, ↓ct_x_meets_cthink, ↓r_cthink, ↓B_cthink, ↓ct_x_meets_hgap, ↓r_hgap, ↓B_hgap, ↓ct_x_meets_dyear, ↓r_dyear, ↓B_dyear, ↓v_0, ↓g_0_0, ↓g_0_1, ↓g_0_2, ↓g_0_3, ↓g_0_4, ↓g_0_5, ↓g_0_6, ↓g_0_7, ↓g_0_8, ↓l_78, ↓s_78, ↓n_78, ↓g_0_9, ↓p_0_9, ↓v_53, ↓g_53_0, ↓g_53_1, ↓g_53_2, ↓g_53_3, ↓g_53_4, ↓l_66, ↓s_66, ↓n_66, ↓g_53_5, ↓p_53_5, ↓g_53_6, ↓p_53_6, ↓g_53_7, ↓p_53_7, ↓g_53_8, ↓p_53_8, ↓g_53_9, ↓p_53_9]
        refine ⟨54, 62, 66, _, -1, DGt H vd t h (CR_cg c (fun _ _ _ => rfl) (fun i p => yrs_hi vd (-1) (by omega) 60 (by omega))) ok.1 (fun i p => yrs_hi vd (-1) (by omega) 60 (by omega)), fun M2 h2 f2 => ?_⟩
        refine bs_X10_meets_6 hX ?_
        have z61 : zr (((60 : Nat) : Int) + 1) = 61 := rfl
        simp only [bk_X10_meets_0, k_X10_meets_0, bk_X10_meets_6, k_X10_meets_6, bk_X10_meets_27, k_X10_meets_27, bk_X10_meets_40, k_X10_meets_40, ↓e_rk1, ↓e_rk0, ↓e_sk0, ↓e_sks, ↓e_ldi0, ↓e_ldis, ↓e_ldl0, ↓e_ldls, ↓e_lda0, ↓e_ldas, ↓e_ok0, ↓e_okss, ↓e_ok1i, ↓e_ok1r, ↓e_ok1n, ↓e_sti, ↓e_sta, ↓e_1, ↓e_2, ↓e_l1, ↓e_l2, ↓e_li, ↓e_sw0, ↓e_sws, ↓e_ceq, ↓e_cne, ↓e_clt, ↓e_cge, ↓e_cgt, ↓e_cle, ↓e_nil, ↓e_cons, ↓e_iconst, ↓e_bipush, ↓e_sipush, ↓e_ldc, ↓e_ldcw, ↓e_ldc2, ↓e_lconst, ↓e_iloadn, ↓e_iload, ↓e_lloadn, ↓e_lload, ↓e_aloadn, ↓e_aload, ↓e_istoren, ↓e_istore, ↓e_astoren, ↓e_astore, ↓e_add, ↓e_iinc, ↓e_iadd, ↓e_isub, ↓e_imul, ↓e_iand, ↓e_ior, ↓e_ixor, ↓e_ishl, ↓e_iushr, ↓e_idiv, ↓e_irem, ↓e_ineg, ↓e_i2l, ↓e_i2b, ↓e_i2s, ↓e_l2i, ↓e_land, ↓e_lor, ↓e_lshl, ↓e_lshr, ↓e_lushr, ↓e_lcmp, ↓e_dupi, ↓e_dupr, ↓e_popi, ↓e_dup2, ↓e_goto, ↓e_if, ↓e_icmp, ↓e_tsw, ↓e_lsw, ↓e_getf, ↓e_putf, ↓e_gets, ↓e_iald, ↓e_cald, ↓e_iast, ↓e_aald, ↓e_aast, ↓e_len, ↓e_copy, ↓e_abs, ↓e_max, ↓e_min, ↓e_iret, ↓e_aret, ↓e_vret, ↓e_is0, ↓e_is1, ↓e_is2, ↓e_is3, ↓e_is4, ↓e_iv1, ↓e_iv2, ↓e_iv3, ↓e_iv4, ↓e_iv5, ↓e_iv6, ↓rt_X10_meets, ↓reduceIte, Nat.reduceAdd, Nat.reduceEqDiff, ↓zcl0, ↓zclv, List.map_nil, List.sum_nil, List.map_cons, List.sum_cons, zcat, true_and, and_true, Nat.reduceLeDiff, Nat.reduceAdd, eq_self, forall_const, e_ok0, e_okss, e_ok1i, e_ok1r, e_ok1n, zl_m1000000002, zl_0, zl_60, Int.reduceToNat, Int.reduceAdd, Int.reduceMul, Int.reduceSub, Int.reduceNeg, Int.reduceLT, Int.reduceLE, Int.reduceEq, not_false_eq_true, not_true_eq_false, false_implies, true_implies, implies_true, Int.reduceDiv, Int.reduceMod, zr8_zr, zr_zbo, z01_zbo, z01_0, z01_1, zbo_eq0, zup_eq, zup_o, zup_k, ne_eq, ↓ct_x_meets_cfail, ↓r_cfail, ↓B_cfail, ↓ct_x_meets_cthink, ↓r_cthink, ↓B_cthink, ↓ct_x_meets_hgap, ↓r_hgap, ↓B_hgap, ↓ct_x_meets_dyear, ↓r_dyear, ↓B_dyear, ↓v_0, ↓g_0_0, ↓g_0_1, ↓g_0_2, ↓g_0_3, ↓g_0_4, ↓g_0_5, ↓g_0_6, ↓g_0_7, ↓g_0_8, ↓l_78, ↓s_78, ↓n_78, ↓g_0_9, ↓p_0_9, z61]
        refine bs_X10_meets_40 hX ?_
        simp only [bk_X10_meets_0, k_X10_meets_0, bk_X10_meets_6, k_X10_meets_6, bk_X10_meets_27, k_X10_meets_27, bk_X10_meets_40, k_X10_meets_40, ↓e_rk1, ↓e_rk0, ↓e_sk0, ↓e_sks, ↓e_ldi0, ↓e_ldis, ↓e_ldl0, ↓e_ldls, ↓e_lda0, ↓e_ldas, ↓e_ok0, ↓e_okss, ↓e_ok1i, ↓e_ok1r, ↓e_ok1n, ↓e_sti, ↓e_sta, ↓e_1, ↓e_2, ↓e_l1, ↓e_l2, ↓e_li, ↓e_sw0, ↓e_sws, ↓e_ceq, ↓e_cne, ↓e_clt, ↓e_cge, ↓e_cgt, ↓e_cle, ↓e_nil, ↓e_cons, ↓e_iconst, ↓e_bipush, ↓e_sipush, ↓e_ldc, ↓e_ldcw, ↓e_ldc2, ↓e_lconst, ↓e_iloadn, ↓e_iload, ↓e_lloadn, ↓e_lload, ↓e_aloadn, ↓e_aload, ↓e_istoren, ↓e_istore, ↓e_astoren, ↓e_astore, ↓e_add, ↓e_iinc, ↓e_iadd, ↓e_isub, ↓e_imul, ↓e_iand, ↓e_ior, ↓e_ixor, ↓e_ishl, ↓e_iushr, ↓e_idiv, ↓e_irem, ↓e_ineg, ↓e_i2l, ↓e_i2b, ↓e_i2s, ↓e_l2i, ↓e_land, ↓e_lor, ↓e_lshl, ↓e_lshr, ↓e_lushr, ↓e_lcmp, ↓e_dupi, ↓e_dupr, ↓e_popi, ↓e_dup2, ↓e_goto, ↓e_if, ↓e_icmp, ↓e_tsw, ↓e_lsw, ↓e_getf, ↓e_putf, ↓e_gets, ↓e_iald, ↓e_cald, ↓e_iast, ↓e_aald, ↓e_aast, ↓e_len, ↓e_copy, ↓e_abs, ↓e_max, ↓e_min, ↓e_iret, ↓e_aret, ↓e_vret, ↓e_is0, ↓e_is1, ↓e_is2, ↓e_is3, ↓e_is4, ↓e_iv1, ↓e_iv2, ↓e_iv3, ↓e_iv4, ↓e_iv5, ↓e_iv6, ↓rt_X10_meets, ↓reduceIte, Nat.reduceAdd, Nat.reduceEqDiff, ↓zcl0, ↓zclv, List.map_nil, List.sum_nil, List.map_cons, List.sum_cons, zcat, true_and, and_true, Nat.reduceLeDiff, Nat.reduceAdd, eq_self, forall_const, e_ok0, e_okss, e_ok1i, e_ok1r, e_ok1n, zl_m1000000002, zl_0, zl_60, Int.reduceToNat, Int.reduceAdd, Int.reduceMul, Int.reduceSub, Int.reduceNeg, Int.reduceLT, Int.reduceLE, Int.reduceEq, not_false_eq_true, not_true_eq_false, false_implies, true_implies, implies_true, Int.reduceDiv, Int.reduceMod, zr8_zr, zr_zbo, z01_zbo, z01_0, z01_1, zbo_eq0, zup_eq, zup_o, zup_k, ne_eq, ↓ct_x_meets_cfail, ↓r_cfail, ↓B_cfail, ↓ct_x_meets_cthink, ↓r_cthink, ↓B_cthink, ↓ct_x_meets_hgap, ↓r_hgap, ↓B_hgap, ↓ct_x_meets_dyear, ↓r_dyear, ↓B_dyear, ↓v_0, ↓g_0_0, ↓g_0_1, ↓g_0_2, ↓g_0_3, ↓g_0_4, ↓g_0_5, ↓g_0_6, ↓g_0_7, ↓g_0_8, ↓l_78, ↓s_78, ↓n_78, ↓g_0_9, ↓p_0_9]
        exact ⟨2, by omega, by omega, cp_nT hC H vd (t.trans (fun x a b c => f2 x (by omega) (by omega) (by omega) a b)) (by omega) (by unfold R_meets; rw [hm9, if_neg e]) rfl⟩
      | succ j ih =>
        intro k M' hk hm h c t
        have ok := yrs_ok vd (-1) k (by omega)
        have gr := gap_rng ok.1
        have zg : zr (gap (yrs (S 88) (-1) k)) = gap (yrs (S 88) (-1) k) := zr_of (by omega) (by omega)
        rw [mtn_s] at hm
        refine bs_X10_meets_6 hX ?_
        have zk : zr (k : Int) = k := zr_of (by omega) (by omega)
        have lk : (60 < (k : Int)) = False := eq_false (by omega)
        simp only [bk_X10_meets_0, k_X10_meets_0, bk_X10_meets_6, k_X10_meets_6, bk_X10_meets_27, k_X10_meets_27, bk_X10_meets_40, k_X10_meets_40, ↓e_rk1, ↓e_rk0, ↓e_sk0, ↓e_sks, ↓e_ldi0, ↓e_ldis, ↓e_ldl0, ↓e_ldls, ↓e_lda0, ↓e_ldas, ↓e_ok0, ↓e_okss, ↓e_ok1i, ↓e_ok1r, ↓e_ok1n, ↓e_sti, ↓e_sta, ↓e_1, ↓e_2, ↓e_l1, ↓e_l2, ↓e_li, ↓e_sw0, ↓e_sws, ↓e_ceq, ↓e_cne, ↓e_clt, ↓e_cge, ↓e_cgt, ↓e_cle, ↓e_nil, ↓e_cons, ↓e_iconst, ↓e_bipush, ↓e_sipush, ↓e_ldc, ↓e_ldcw, ↓e_ldc2, ↓e_lconst, ↓e_iloadn, ↓e_iload, ↓e_lloadn, ↓e_lload, ↓e_aloadn, ↓e_aload, ↓e_istoren, ↓e_istore, ↓e_astoren, ↓e_astore, ↓e_add, ↓e_iinc, ↓e_iadd, ↓e_isub, ↓e_imul, ↓e_iand, ↓e_ior, ↓e_ixor, ↓e_ishl, ↓e_iushr, ↓e_idiv, ↓e_irem, ↓e_ineg, ↓e_i2l, ↓e_i2b, ↓e_i2s, ↓e_l2i, ↓e_land, ↓e_lor, ↓e_lshl, ↓e_lshr, ↓e_lushr, ↓e_lcmp, ↓e_dupi, ↓e_dupr, ↓e_popi, ↓e_dup2, ↓e_goto, ↓e_if, ↓e_icmp, ↓e_tsw, ↓e_lsw, ↓e_getf, ↓e_putf, ↓e_gets, ↓e_iald, ↓e_cald, ↓e_iast, ↓e_aald, ↓e_aast, ↓e_len, ↓e_copy, ↓e_abs, ↓e_max, ↓e_min, ↓e_iret, ↓e_aret, ↓e_vret, ↓e_is0, ↓e_is1, ↓e_is2, ↓e_is3, ↓e_is4, ↓e_iv1, ↓e_iv2, ↓e_iv3, ↓e_iv4, ↓e_iv5, ↓e_iv6, ↓rt_X10_meets, ↓reduceIte, Nat.reduceAdd, Nat.reduceEqDiff, ↓zcl0, ↓zclv, List.map_nil, List.sum_nil, List.map_cons, List.sum_cons, zcat, true_and, and_true, Nat.reduceLeDiff, Nat.reduceAdd, eq_self, forall_const, e_ok0, e_okss, e_ok1i, e_ok1r, e_ok1n, zl_m1000000002, zl_0, zl_60, Int.reduceToNat, Int.reduceAdd, Int.reduceMul, Int.reduceSub, Int.reduceNeg, Int.reduceLT, Int.reduceLE, Int.reduceEq, not_false_eq_true, not_true_eq_false, false_implies, true_implies, implies_true, Int.reduceDiv, Int.reduceMod, zr8_zr, zr_zbo, z01_zbo, z01_0, z01_1, zbo_eq0, zup_eq, zup_o, zup_k, ne_eq, ↓ct_x_meets_cfail, ↓r_cfail, ↓B_cfail, ↓ct_x_meets_cthink, ↓r_cthink, ↓B_cthink, ↓ct_x_meets_hgap, ↓r_hgap, ↓B_hgap, ↓ct_x_meets_dyear, ↓r_dyear, ↓B_dyear, ↓v_0, ↓g_0_0, ↓g_0_1, ↓g_0_2, ↓g_0_3, ↓g_0_4, ↓g_0_5, ↓g_0_6, ↓g_0_7, ↓g_0_8, ↓l_78, ↓s_78, ↓n_78, ↓g_0_9, ↓p_0_9, ↓v_53, ↓g_53_0, ↓g_53_1, ↓g_53_2, ↓g_53_3, ↓g_53_4, ↓l_66, ↓s_66, ↓n_66, ↓g_53_5, ↓p_53_5, ↓g_53_6, ↓p_53_6, ↓g_53_7, ↓p_53_7, ↓g_53_8, ↓p_53_8, ↓g_53_9, ↓p_53_9, ↓v_54, ↓g_54_0, ↓l_55, ↓s_55, ↓n_55, ↓g_54_1, ↓l_56, ↓s_56, ↓n_56, ↓g_54_2, ↓l_57, ↓s_57, ↓n_57, ↓g_54_3, ↓l_58, ↓s_58, ↓n_58, ↓g_54_4, ↓l_59, ↓s_59, ↓n_59, ↓g_54_5, ↓l_60, ↓s_60, ↓n_60, ↓g_54_6, ↓l_61, ↓s_61, ↓n_61, ↓g_54_7, ↓p_54_7, ↓g_54_8, ↓p_54_8, ↓g_54_9, ↓p_54_9, zk, lk]
        refine ⟨Or.inr (Or.inr rfl), _, h, ok.1, ?_⟩
        rw [zg]
        refine ⟨fun e => cp_T hC H vd t ?_, fun e => ?_⟩
        · rw [if_neg (by omega)] at hm
          unfold R_meets
          rw [← hm, if_pos e]
        · rw [if_pos (by omega)] at hm
          refine bs_X10_meets_27 hX ?_
          simp only [bk_X10_meets_0, k_X10_meets_0, bk_X10_meets_6, k_X10_meets_6, bk_X10_meets_27, k_X10_meets_27, bk_X10_meets_40, k_X10_meets_40, ↓e_rk1, ↓e_rk0, ↓e_sk0, ↓e_sks, ↓e_ldi0, ↓e_ldis, ↓e_ldl0, ↓e_ldls, ↓e_lda0, ↓e_ldas, ↓e_ok0, ↓e_okss, ↓e_ok1i, ↓e_ok1r, ↓e_ok1n, ↓e_sti, ↓e_sta, ↓e_1, ↓e_2, ↓e_l1, ↓e_l2, ↓e_li, ↓e_sw0, ↓e_sws, ↓e_ceq, ↓e_cne, ↓e_clt, ↓e_cge, ↓e_cgt, ↓e_cle, ↓e_nil, ↓e_cons, ↓e_iconst, ↓e_bipush, ↓e_sipush, ↓e_ldc, ↓e_ldcw, ↓e_ldc2, ↓e_lconst, ↓e_iloadn, ↓e_iload, ↓e_lloadn, ↓e_lload, ↓e_aloadn, ↓e_aload, ↓e_istoren, ↓e_istore, ↓e_astoren, ↓e_astore, ↓e_add, ↓e_iinc, ↓e_iadd, ↓e_isub, ↓e_imul, ↓e_iand, ↓e_ior, ↓e_ixor, ↓e_ishl, ↓e_iushr, ↓e_idiv, ↓e_irem, ↓e_ineg, ↓e_i2l, ↓e_i2b, ↓e_i2s, ↓e_l2i, ↓e_land, ↓e_lor, ↓e_lshl, ↓e_lshr, ↓e_lushr, ↓e_lcmp, ↓e_dupi, ↓e_dupr, ↓e_popi, ↓e_dup2, ↓e_goto, ↓e_if, ↓e_icmp, ↓e_tsw, ↓e_lsw, ↓e_getf, ↓e_putf, ↓e_gets, ↓e_iald, ↓e_cald, ↓e_iast, ↓e_aald, ↓e_aast, ↓e_len, ↓e_copy, ↓e_abs, ↓e_max, ↓e_min, ↓e_iret, ↓e_aret, ↓e_vret, ↓e_is0, ↓e_is1, ↓e_is2, ↓e_is3, ↓e_is4, ↓e_iv1, ↓e_iv2, ↓e_iv3, ↓e_iv4, ↓e_iv5, ↓e_iv6, ↓rt_X10_meets, ↓reduceIte, Nat.reduceAdd, Nat.reduceEqDiff, ↓zcl0, ↓zclv, List.map_nil, List.sum_nil, List.map_cons, List.sum_cons, zcat, true_and, and_true, Nat.reduceLeDiff, Nat.reduceAdd, eq_self, forall_const, e_ok0, e_okss, e_ok1i, e_ok1r, e_ok1n, zl_m1000000002, zl_0, zl_60, Int.reduceToNat, Int.reduceAdd, Int.reduceMul, Int.reduceSub, Int.reduceNeg, Int.reduceLT, Int.reduceLE, Int.reduceEq, not_false_eq_true, not_true_eq_false, false_implies, true_implies, implies_true, Int.reduceDiv, Int.reduceMod, zr8_zr, zr_zbo, z01_zbo, z01_0, z01_1, zbo_eq0, zup_eq, zup_o, zup_k, ne_eq, ↓ct_x_meets_cfail, ↓r_cfail, ↓B_cfail, ↓ct_x_meets_cthink, ↓r_cthink, ↓B_cthink, ↓ct_x_meets_hgap, ↓r_hgap, ↓B_hgap, ↓ct_x_meets_dyear, ↓r_dyear, ↓B_dyear, ↓v_0, ↓g_0_0, ↓g_0_1, ↓g_0_2, ↓g_0_3, ↓g_0_4, ↓g_0_5, ↓g_0_6, ↓g_0_7, ↓g_0_8, ↓l_78, ↓s_78, ↓n_78, ↓g_0_9, ↓p_0_9, ↓v_53, ↓g_53_0, ↓g_53_1, ↓g_53_2, ↓g_53_3, ↓g_53_4, ↓l_66, ↓s_66, ↓n_66, ↓g_53_5, ↓p_53_5, ↓g_53_6, ↓p_53_6, ↓g_53_7, ↓p_53_7, ↓g_53_8, ↓p_53_8, ↓g_53_9, ↓p_53_9]
          refine ⟨54, 62, 66, _, -1, DGt H vd t h (CR_cg c (fun _ _ _ => rfl) (fun i p => yrs_hi vd (-1) (by omega) k (by omega))) ok.1 (fun i p => yrs_hi vd (-1) (by omega) k (by omega)), fun M2 h2 f2 => ?_⟩
          exact ih (k + 1) M2 (by omega) hm h2 (CR_cg c (fun x p q => f2 x (by omega) (by omega) (by omega) (by omega) (by omega)) (fun _ _ => rfl)) (t.trans (fun x a b c => f2 x (by omega) (by omega) (by omega) a b))
    simp only [bk_X10_meets_0, k_X10_meets_0, bk_X10_meets_6, k_X10_meets_6, bk_X10_meets_27, k_X10_meets_27, bk_X10_meets_40, k_X10_meets_40, ↓e_rk1, ↓e_rk0, ↓e_sk0, ↓e_sks, ↓e_ldi0, ↓e_ldis, ↓e_ldl0, ↓e_ldls, ↓e_lda0, ↓e_ldas, ↓e_ok0, ↓e_okss, ↓e_ok1i, ↓e_ok1r, ↓e_ok1n, ↓e_sti, ↓e_sta, ↓e_1, ↓e_2, ↓e_l1, ↓e_l2, ↓e_li, ↓e_sw0, ↓e_sws, ↓e_ceq, ↓e_cne, ↓e_clt, ↓e_cge, ↓e_cgt, ↓e_cle, ↓e_nil, ↓e_cons, ↓e_iconst, ↓e_bipush, ↓e_sipush, ↓e_ldc, ↓e_ldcw, ↓e_ldc2, ↓e_lconst, ↓e_iloadn, ↓e_iload, ↓e_lloadn, ↓e_lload, ↓e_aloadn, ↓e_aload, ↓e_istoren, ↓e_istore, ↓e_astoren, ↓e_astore, ↓e_add, ↓e_iinc, ↓e_iadd, ↓e_isub, ↓e_imul, ↓e_iand, ↓e_ior, ↓e_ixor, ↓e_ishl, ↓e_iushr, ↓e_idiv, ↓e_irem, ↓e_ineg, ↓e_i2l, ↓e_i2b, ↓e_i2s, ↓e_l2i, ↓e_land, ↓e_lor, ↓e_lshl, ↓e_lshr, ↓e_lushr, ↓e_lcmp, ↓e_dupi, ↓e_dupr, ↓e_popi, ↓e_dup2, ↓e_goto, ↓e_if, ↓e_icmp, ↓e_tsw, ↓e_lsw, ↓e_getf, ↓e_putf, ↓e_gets, ↓e_iald, ↓e_cald, ↓e_iast, ↓e_aald, ↓e_aast, ↓e_len, ↓e_copy, ↓e_abs, ↓e_max, ↓e_min, ↓e_iret, ↓e_aret, ↓e_vret, ↓e_is0, ↓e_is1, ↓e_is2, ↓e_is3, ↓e_is4, ↓e_iv1, ↓e_iv2, ↓e_iv3, ↓e_iv4, ↓e_iv5, ↓e_iv6, ↓rt_X10_meets, ↓reduceIte, Nat.reduceAdd, Nat.reduceEqDiff, ↓zcl0, ↓zclv, List.map_nil, List.sum_nil, List.map_cons, List.sum_cons, zcat, true_and, and_true, Nat.reduceLeDiff, Nat.reduceAdd, eq_self, forall_const, e_ok0, e_okss, e_ok1i, e_ok1r, e_ok1n, zl_m1000000002, zl_0, zl_60, Int.reduceToNat, Int.reduceAdd, Int.reduceMul, Int.reduceSub, Int.reduceNeg, Int.reduceLT, Int.reduceLE, Int.reduceEq, not_false_eq_true, not_true_eq_false, false_implies, true_implies, implies_true, Int.reduceDiv, Int.reduceMod, zr8_zr, zr_zbo, z01_zbo, z01_0, z01_1, zbo_eq0, zup_eq, zup_o, zup_k, ne_eq, ↓ct_x_meets_cfail, ↓r_cfail, ↓B_cfail, ↓ct_x_meets_cthink, ↓r_cthink, ↓B_cthink, ↓ct_x_meets_hgap, ↓r_hgap, ↓B_hgap, ↓ct_x_meets_dyear, ↓r_dyear, ↓B_dyear, ↓v_0, ↓g_0_0, ↓g_0_1, ↓g_0_2, ↓g_0_3, ↓g_0_4, ↓g_0_5, ↓g_0_6, ↓g_0_7, ↓g_0_8, ↓l_78, ↓s_78, ↓n_78, ↓g_0_9, ↓p_0_9]
    exact ⟨S 88, n9, fun M1 h1 c1 t1 => lp 60 0 M1 (by omega) rfl h1 c1 t1⟩
