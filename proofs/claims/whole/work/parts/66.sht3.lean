/-! THE CLASS: move, judge, goesAsTold, heard, which -/
def k_X10_goesAsTold_0 : List ZI := [(.iconst 0, 1, (0, [], [])), (.istore_n 3, 1, (0, [3], []))]
theorem ok_X10_goesAsTold_0 : zOK cX10_goesAsTold 10 false 4 k_X10_goesAsTold_0 0 = true := zOK_by (by decide +kernel)
def k_X10_goesAsTold_2 : List ZI := [(.iload_n 3, 1, (0, [3], [])), (.aload_n 1, 1, (0, [1], [])), (.getfield 259, 3, (0, [7, 2], [])), (.if_icmp .ge 39, 3, (0, [46], []))]
theorem ok_X10_goesAsTold_2 : zOK cX10_goesAsTold 10 false 4 k_X10_goesAsTold_2 2 = true := zOK_by (by decide +kernel)
def k_X10_goesAsTold_10 : List ZI := [(.aload_n 0, 1, (0, [0], [])), (.getfield 49, 3, (0, [10, 3], [])), (.invokevirtual 200, 3, (0, [4, 1, 0, 1], []))]
theorem ok_X10_goesAsTold_10 : zOK cX10_goesAsTold 10 false 4 k_X10_goesAsTold_10 10 = true := zOK_by (by decide +kernel)
def k_X10_goesAsTold_17 : List ZI := [(.aload_n 0, 1, (0, [0], [])), (.getfield 49, 3, (0, [10, 3], [])), (.getfield 216, 3, (0, [1, 0], [])), (.getfield 114, 3, (0, [2, 2], [])), (.iload_n 2, 1, (0, [2], [])), (.iaload, 1, (0, [], [])), (.aload_n 1, 1, (0, [1], [])), (.getfield 266, 3, (0, [7, 0], [])), (.iload_n 3, 1, (0, [3], [])), (.iaload, 1, (0, [], [])), (.if_icmp .eq 5, 3, (0, [40], [])), (.iconst 0, 1, (0, [], [])), (.ireturn, 1, (0, [], []))]
theorem ok_X10_goesAsTold_17 : zOK cX10_goesAsTold 10 false 4 k_X10_goesAsTold_17 17 = true := zOK_by (by decide +kernel)
def k_X10_goesAsTold_40 : List ZI := [(.iinc 3 1, 3, (0, [3], [])), (.goto (-41), 3, (0, [2], []))]
theorem ok_X10_goesAsTold_40 : zOK cX10_goesAsTold 10 false 4 k_X10_goesAsTold_40 40 = true := zOK_by (by decide +kernel)
def k_X10_goesAsTold_46 : List ZI := [(.iconst 1, 1, (0, [], [])), (.ireturn, 1, (0, [], []))]
theorem ok_X10_goesAsTold_46 : zOK cX10_goesAsTold 10 false 4 k_X10_goesAsTold_46 46 = true := zOK_by (by decide +kernel)
theorem rt_X10_goesAsTold {g : Nat} {post : Option ZV → ZH → Prop} {h : ZH} {b : ZB2} {z : Int} : zRt mX10_goesAsTold g post (some (.inl z)) h b = (post (some (.inl z)) h ∧ h.1.length = g ∧ z01 z) := rfl
def bk_X10_goesAsTold_0 (E : ZE) (CT : Nat → ZC) (X : ZK) (Rt : ZR) (ls : ZL) (st : List ZV) (h : ZH) (b : ZB2) : Prop := zB E CT k_X10_goesAsTold_0 0 ls st h b (fun t ls st h b => X t ls st h b) Rt
theorem bs_X10_goesAsTold_0 {E : ZE} {CT : Nat → ZC} {X : ZK} {Rt : ZR} {ls : ZL} {st : List ZV} {h : ZH} {b : ZB2} (hX : zCl E mX10_goesAsTold 10 false CT Rt X) (q : bk_X10_goesAsTold_0 E CT X Rt ls st h b) : X 0 ls st h b := by
  refine hX k_X10_goesAsTold_0 0 ok_X10_goesAsTold_0 _ ?_ ls st h b q
  exact fun t ls st h b q => q
def bk_X10_goesAsTold_2 (E : ZE) (CT : Nat → ZC) (X : ZK) (Rt : ZR) (ls : ZL) (st : List ZV) (h : ZH) (b : ZB2) : Prop := zB E CT k_X10_goesAsTold_2 2 ls st h b (fun t ls st h b => X t ls st h b) Rt
theorem bs_X10_goesAsTold_2 {E : ZE} {CT : Nat → ZC} {X : ZK} {Rt : ZR} {ls : ZL} {st : List ZV} {h : ZH} {b : ZB2} (hX : zCl E mX10_goesAsTold 10 false CT Rt X) (q : bk_X10_goesAsTold_2 E CT X Rt ls st h b) : X 2 ls st h b := by
  refine hX k_X10_goesAsTold_2 2 ok_X10_goesAsTold_2 _ ?_ ls st h b q
  exact fun t ls st h b q => q
def bk_X10_goesAsTold_10 (E : ZE) (CT : Nat → ZC) (X : ZK) (Rt : ZR) (ls : ZL) (st : List ZV) (h : ZH) (b : ZB2) : Prop := zB E CT k_X10_goesAsTold_10 10 ls st h b (fun t ls st h b => X t ls st h b) Rt
theorem bs_X10_goesAsTold_10 {E : ZE} {CT : Nat → ZC} {X : ZK} {Rt : ZR} {ls : ZL} {st : List ZV} {h : ZH} {b : ZB2} (hX : zCl E mX10_goesAsTold 10 false CT Rt X) (q : bk_X10_goesAsTold_10 E CT X Rt ls st h b) : X 10 ls st h b := by
  refine hX k_X10_goesAsTold_10 10 ok_X10_goesAsTold_10 _ ?_ ls st h b q
  exact fun t ls st h b q => q
def bk_X10_goesAsTold_17 (E : ZE) (CT : Nat → ZC) (X : ZK) (Rt : ZR) (ls : ZL) (st : List ZV) (h : ZH) (b : ZB2) : Prop := zB E CT k_X10_goesAsTold_17 17 ls st h b (fun t ls st h b => X t ls st h b) Rt
theorem bs_X10_goesAsTold_17 {E : ZE} {CT : Nat → ZC} {X : ZK} {Rt : ZR} {ls : ZL} {st : List ZV} {h : ZH} {b : ZB2} (hX : zCl E mX10_goesAsTold 10 false CT Rt X) (q : bk_X10_goesAsTold_17 E CT X Rt ls st h b) : X 17 ls st h b := by
  refine hX k_X10_goesAsTold_17 17 ok_X10_goesAsTold_17 _ ?_ ls st h b q
  exact fun t ls st h b q => q
def bk_X10_goesAsTold_40 (E : ZE) (CT : Nat → ZC) (X : ZK) (Rt : ZR) (ls : ZL) (st : List ZV) (h : ZH) (b : ZB2) : Prop := zB E CT k_X10_goesAsTold_40 40 ls st h b (fun t ls st h b => X t ls st h b) Rt
theorem bs_X10_goesAsTold_40 {E : ZE} {CT : Nat → ZC} {X : ZK} {Rt : ZR} {ls : ZL} {st : List ZV} {h : ZH} {b : ZB2} (hX : zCl E mX10_goesAsTold 10 false CT Rt X) (q : bk_X10_goesAsTold_40 E CT X Rt ls st h b) : X 40 ls st h b := by
  refine hX k_X10_goesAsTold_40 40 ok_X10_goesAsTold_40 _ ?_ ls st h b q
  exact fun t ls st h b q => q
def bk_X10_goesAsTold_46 (E : ZE) (CT : Nat → ZC) (X : ZK) (Rt : ZR) (ls : ZL) (st : List ZV) (h : ZH) (b : ZB2) : Prop := zB E CT k_X10_goesAsTold_46 46 ls st h b (fun t ls st h b => X t ls st h b) Rt
theorem bs_X10_goesAsTold_46 {E : ZE} {CT : Nat → ZC} {X : ZK} {Rt : ZR} {ls : ZL} {st : List ZV} {h : ZH} {b : ZB2} (hX : zCl E mX10_goesAsTold 10 false CT Rt X) (q : bk_X10_goesAsTold_46 E CT X Rt ls st h b) : X 46 ls st h b := by
  refine hX k_X10_goesAsTold_46 46 ok_X10_goesAsTold_46 _ ?_ ls st h b q
  exact fun t ls st h b q => q
-- X10_goesAsTold: cuts [2, 10, 17, 40, 46]
def k_X10_heard_0 : List ZI := [(.iload_n 1, 1, (0, [1], [])), (.iconst 3, 1, (0, [], [])), (.invokestatic 92, 3, (0, [111, 2, 0, 10], [])), (.ifCond .ne 19, 3, (0, [24], []))]
theorem ok_X10_heard_0 : zOK cX10_heard 10 false 7 k_X10_heard_0 0 = true := zOK_by (by decide +kernel)
def k_X10_heard_8 : List ZI := [(.iload_n 2, 1, (0, [2], [])), (.iconst 1, 1, (0, [], [])), (.invokestatic 92, 3, (0, [111, 2, 0, 10], [])), (.ifCond .ne 11, 3, (0, [24], []))]
theorem ok_X10_heard_8 : zOK cX10_heard 10 false 7 k_X10_heard_8 8 = true := zOK_by (by decide +kernel)
def k_X10_heard_16 : List ZI := [(.iload_n 3, 1, (0, [3], [])), (.iconst 1, 1, (0, [], [])), (.invokestatic 92, 3, (0, [111, 2, 0, 10], [])), (.ifCond .eq 10, 3, (0, [31], []))]
theorem ok_X10_heard_16 : zOK cX10_heard 10 false 7 k_X10_heard_16 16 = true := zOK_by (by decide +kernel)
def k_X10_heard_24 : List ZI := [(.aload_n 0, 1, (0, [0], [])), (.ldc 96, 2, ((-1000000001), [], [])), (.invokevirtual 97, 3, (0, [110, 2, 0, 10], [])), (.ireturn, 1, (0, [], []))]
theorem ok_X10_heard_24 : zOK cX10_heard 10 false 7 k_X10_heard_24 24 = true := zOK_by (by decide +kernel)
def k_X10_heard_31 : List ZI := [(.aload_n 0, 1, (0, [0], [])), (.getfield 83, 3, (0, [10, 7], [])), (.iload_n 1, 1, (0, [1], [])), (.aaload, 1, (0, [], [])), (.getfield 219, 3, (0, [7, 1], [])), (.ifCond .ne 10, 3, (0, [50], [])), (.aload_n 0, 1, (0, [0], [])), (.ldc 217, 2, ((-1000000002), [], [])), (.invokevirtual 97, 3, (0, [110, 2, 0, 10], [])), (.ireturn, 1, (0, [], []))]
theorem ok_X10_heard_31 : zOK cX10_heard 10 false 7 k_X10_heard_31 31 = true := zOK_by (by decide +kernel)
def k_X10_heard_50 : List ZI := [(.iconst 0, 1, (0, [], [])), (.istore 4, 2, (0, [4], [])), (.iconst (-1), 1, (0, [], [])), (.istore 5, 2, (0, [5], [])), (.bipush 63, 2, (0, [], [])), (.istore 6, 2, (0, [6], []))]
theorem ok_X10_heard_50 : zOK cX10_heard 10 false 7 k_X10_heard_50 50 = true := zOK_by (by decide +kernel)
def k_X10_heard_60 : List ZI := [(.iload 6, 2, (0, [6], [])), (.ifCond .lt 49, 3, (0, [111], [])), (.aload_n 0, 1, (0, [0], [])), (.invokevirtual 210, 3, (0, [113, 1, 0, 10], []))]
theorem ok_X10_heard_60 : zOK cX10_heard 10 false 7 k_X10_heard_60 60 = true := zOK_by (by decide +kernel)
def k_X10_heard_69 : List ZI := [(.aload_n 0, 1, (0, [0], [])), (.getfield 49, 3, (0, [10, 3], [])), (.getfield 216, 3, (0, [1, 0], [])), (.iconst 1, 1, (0, [], [])), (.iload_n 2, 1, (0, [2], [])), (.isub, 1, (0, [], [])), (.iload 6, 2, (0, [6], [])), (.invokevirtual 117, 3, (0, [20, 3, 0, 2], []))]
theorem ok_X10_heard_69 : zOK cX10_heard 10 false 7 k_X10_heard_69 69 = true := zOK_by (by decide +kernel)
def k_X10_heard_84 : List ZI := [(.aload_n 0, 1, (0, [0], [])), (.aload_n 0, 1, (0, [0], [])), (.getfield 83, 3, (0, [10, 7], [])), (.iload_n 1, 1, (0, [1], [])), (.aaload, 1, (0, [], [])), (.iload_n 2, 1, (0, [2], [])), (.invokevirtual 222, 3, (0, [115, 3, 0, 10], []))]
theorem ok_X10_heard_84 : zOK cX10_heard 10 false 7 k_X10_heard_84 84 = true := zOK_by (by decide +kernel)
def k_X10_heard_95 : List ZI := [(.ifCond .eq 10, 3, (0, [105], [])), (.iinc 4 1, 3, (0, [4], [])), (.iload 6, 2, (0, [6], [])), (.istore 5, 2, (0, [5], []))]
theorem ok_X10_heard_95 : zOK cX10_heard 10 false 7 k_X10_heard_95 95 = true := zOK_by (by decide +kernel)
def k_X10_heard_105 : List ZI := [(.iinc 6 (-1), 3, (0, [6], [])), (.goto (-48), 3, (0, [60], []))]
theorem ok_X10_heard_105 : zOK cX10_heard 10 false 7 k_X10_heard_105 105 = true := zOK_by (by decide +kernel)
def k_X10_heard_111 : List ZI := [(.iload_n 3, 1, (0, [3], [])), (.ifCond .ne 6, 3, (0, [118], [])), (.iload 4, 2, (0, [4], [])), (.ireturn, 1, (0, [], []))]
theorem ok_X10_heard_111 : zOK cX10_heard 10 false 7 k_X10_heard_111 111 = true := zOK_by (by decide +kernel)
def k_X10_heard_118 : List ZI := [(.iload 5, 2, (0, [5], [])), (.iconst (-1), 1, (0, [], [])), (.if_icmp .ne 12, 3, (0, [133], [])), (.aload_n 0, 1, (0, [0], [])), (.ldc 217, 2, ((-1000000002), [], [])), (.invokevirtual 97, 3, (0, [110, 2, 0, 10], [])), (.goto 5, 3, (0, [135], []))]
theorem ok_X10_heard_118 : zOK cX10_heard 10 false 7 k_X10_heard_118 118 = true := zOK_by (by decide +kernel)
def k_X10_heard_133 : List ZI := [(.iload 5, 2, (0, [5], []))]
theorem ok_X10_heard_133 : zOK cX10_heard 10 false 7 k_X10_heard_133 133 = true := zOK_by (by decide +kernel)
def k_X10_heard_135 : List ZI := [(.ireturn, 1, (0, [], []))]
theorem ok_X10_heard_135 : zOK cX10_heard 10 false 7 k_X10_heard_135 135 = true := zOK_by (by decide +kernel)
theorem rt_X10_heard {g : Nat} {post : Option ZV → ZH → Prop} {h : ZH} {b : ZB2} {z : Int} : zRt mX10_heard g post (some (.inl z)) h b = (post (some (.inl z)) h ∧ h.1.length = g) := by show (_ ∧ _ ∧ True) = _; simp
def bk_X10_heard_0 (E : ZE) (CT : Nat → ZC) (X : ZK) (Rt : ZR) (ls : ZL) (st : List ZV) (h : ZH) (b : ZB2) : Prop := zB E CT k_X10_heard_0 0 ls st h b (fun t ls st h b => X t ls st h b) Rt
theorem bs_X10_heard_0 {E : ZE} {CT : Nat → ZC} {X : ZK} {Rt : ZR} {ls : ZL} {st : List ZV} {h : ZH} {b : ZB2} (hX : zCl E mX10_heard 10 false CT Rt X) (q : bk_X10_heard_0 E CT X Rt ls st h b) : X 0 ls st h b := by
  refine hX k_X10_heard_0 0 ok_X10_heard_0 _ ?_ ls st h b q
  exact fun t ls st h b q => q
def bk_X10_heard_8 (E : ZE) (CT : Nat → ZC) (X : ZK) (Rt : ZR) (ls : ZL) (st : List ZV) (h : ZH) (b : ZB2) : Prop := zB E CT k_X10_heard_8 8 ls st h b (fun t ls st h b => X t ls st h b) Rt
theorem bs_X10_heard_8 {E : ZE} {CT : Nat → ZC} {X : ZK} {Rt : ZR} {ls : ZL} {st : List ZV} {h : ZH} {b : ZB2} (hX : zCl E mX10_heard 10 false CT Rt X) (q : bk_X10_heard_8 E CT X Rt ls st h b) : X 8 ls st h b := by
  refine hX k_X10_heard_8 8 ok_X10_heard_8 _ ?_ ls st h b q
  exact fun t ls st h b q => q
def bk_X10_heard_16 (E : ZE) (CT : Nat → ZC) (X : ZK) (Rt : ZR) (ls : ZL) (st : List ZV) (h : ZH) (b : ZB2) : Prop := zB E CT k_X10_heard_16 16 ls st h b (fun t ls st h b => X t ls st h b) Rt
theorem bs_X10_heard_16 {E : ZE} {CT : Nat → ZC} {X : ZK} {Rt : ZR} {ls : ZL} {st : List ZV} {h : ZH} {b : ZB2} (hX : zCl E mX10_heard 10 false CT Rt X) (q : bk_X10_heard_16 E CT X Rt ls st h b) : X 16 ls st h b := by
  refine hX k_X10_heard_16 16 ok_X10_heard_16 _ ?_ ls st h b q
  exact fun t ls st h b q => q
def bk_X10_heard_24 (E : ZE) (CT : Nat → ZC) (X : ZK) (Rt : ZR) (ls : ZL) (st : List ZV) (h : ZH) (b : ZB2) : Prop := zB E CT k_X10_heard_24 24 ls st h b (fun t ls st h b => X t ls st h b) Rt
theorem bs_X10_heard_24 {E : ZE} {CT : Nat → ZC} {X : ZK} {Rt : ZR} {ls : ZL} {st : List ZV} {h : ZH} {b : ZB2} (hX : zCl E mX10_heard 10 false CT Rt X) (q : bk_X10_heard_24 E CT X Rt ls st h b) : X 24 ls st h b := by
  refine hX k_X10_heard_24 24 ok_X10_heard_24 _ ?_ ls st h b q
  exact fun t ls st h b q => q
def bk_X10_heard_31 (E : ZE) (CT : Nat → ZC) (X : ZK) (Rt : ZR) (ls : ZL) (st : List ZV) (h : ZH) (b : ZB2) : Prop := zB E CT k_X10_heard_31 31 ls st h b (fun t ls st h b => X t ls st h b) Rt
theorem bs_X10_heard_31 {E : ZE} {CT : Nat → ZC} {X : ZK} {Rt : ZR} {ls : ZL} {st : List ZV} {h : ZH} {b : ZB2} (hX : zCl E mX10_heard 10 false CT Rt X) (q : bk_X10_heard_31 E CT X Rt ls st h b) : X 31 ls st h b := by
  refine hX k_X10_heard_31 31 ok_X10_heard_31 _ ?_ ls st h b q
  exact fun t ls st h b q => q
def bk_X10_heard_50 (E : ZE) (CT : Nat → ZC) (X : ZK) (Rt : ZR) (ls : ZL) (st : List ZV) (h : ZH) (b : ZB2) : Prop := zB E CT k_X10_heard_50 50 ls st h b (fun t ls st h b => X t ls st h b) Rt
theorem bs_X10_heard_50 {E : ZE} {CT : Nat → ZC} {X : ZK} {Rt : ZR} {ls : ZL} {st : List ZV} {h : ZH} {b : ZB2} (hX : zCl E mX10_heard 10 false CT Rt X) (q : bk_X10_heard_50 E CT X Rt ls st h b) : X 50 ls st h b := by
  refine hX k_X10_heard_50 50 ok_X10_heard_50 _ ?_ ls st h b q
  exact fun t ls st h b q => q
def bk_X10_heard_60 (E : ZE) (CT : Nat → ZC) (X : ZK) (Rt : ZR) (ls : ZL) (st : List ZV) (h : ZH) (b : ZB2) : Prop := zB E CT k_X10_heard_60 60 ls st h b (fun t ls st h b => X t ls st h b) Rt
theorem bs_X10_heard_60 {E : ZE} {CT : Nat → ZC} {X : ZK} {Rt : ZR} {ls : ZL} {st : List ZV} {h : ZH} {b : ZB2} (hX : zCl E mX10_heard 10 false CT Rt X) (q : bk_X10_heard_60 E CT X Rt ls st h b) : X 60 ls st h b := by
  refine hX k_X10_heard_60 60 ok_X10_heard_60 _ ?_ ls st h b q
  exact fun t ls st h b q => q
def bk_X10_heard_69 (E : ZE) (CT : Nat → ZC) (X : ZK) (Rt : ZR) (ls : ZL) (st : List ZV) (h : ZH) (b : ZB2) : Prop := zB E CT k_X10_heard_69 69 ls st h b (fun t ls st h b => X t ls st h b) Rt
theorem bs_X10_heard_69 {E : ZE} {CT : Nat → ZC} {X : ZK} {Rt : ZR} {ls : ZL} {st : List ZV} {h : ZH} {b : ZB2} (hX : zCl E mX10_heard 10 false CT Rt X) (q : bk_X10_heard_69 E CT X Rt ls st h b) : X 69 ls st h b := by
  refine hX k_X10_heard_69 69 ok_X10_heard_69 _ ?_ ls st h b q
  exact fun t ls st h b q => q
def bk_X10_heard_84 (E : ZE) (CT : Nat → ZC) (X : ZK) (Rt : ZR) (ls : ZL) (st : List ZV) (h : ZH) (b : ZB2) : Prop := zB E CT k_X10_heard_84 84 ls st h b (fun t ls st h b => X t ls st h b) Rt
theorem bs_X10_heard_84 {E : ZE} {CT : Nat → ZC} {X : ZK} {Rt : ZR} {ls : ZL} {st : List ZV} {h : ZH} {b : ZB2} (hX : zCl E mX10_heard 10 false CT Rt X) (q : bk_X10_heard_84 E CT X Rt ls st h b) : X 84 ls st h b := by
  refine hX k_X10_heard_84 84 ok_X10_heard_84 _ ?_ ls st h b q
  exact fun t ls st h b q => q
def bk_X10_heard_95 (E : ZE) (CT : Nat → ZC) (X : ZK) (Rt : ZR) (ls : ZL) (st : List ZV) (h : ZH) (b : ZB2) : Prop := zB E CT k_X10_heard_95 95 ls st h b (fun t ls st h b => X t ls st h b) Rt
theorem bs_X10_heard_95 {E : ZE} {CT : Nat → ZC} {X : ZK} {Rt : ZR} {ls : ZL} {st : List ZV} {h : ZH} {b : ZB2} (hX : zCl E mX10_heard 10 false CT Rt X) (q : bk_X10_heard_95 E CT X Rt ls st h b) : X 95 ls st h b := by
  refine hX k_X10_heard_95 95 ok_X10_heard_95 _ ?_ ls st h b q
  exact fun t ls st h b q => q
def bk_X10_heard_105 (E : ZE) (CT : Nat → ZC) (X : ZK) (Rt : ZR) (ls : ZL) (st : List ZV) (h : ZH) (b : ZB2) : Prop := zB E CT k_X10_heard_105 105 ls st h b (fun t ls st h b => X t ls st h b) Rt
theorem bs_X10_heard_105 {E : ZE} {CT : Nat → ZC} {X : ZK} {Rt : ZR} {ls : ZL} {st : List ZV} {h : ZH} {b : ZB2} (hX : zCl E mX10_heard 10 false CT Rt X) (q : bk_X10_heard_105 E CT X Rt ls st h b) : X 105 ls st h b := by
  refine hX k_X10_heard_105 105 ok_X10_heard_105 _ ?_ ls st h b q
  exact fun t ls st h b q => q
def bk_X10_heard_135 (E : ZE) (CT : Nat → ZC) (X : ZK) (Rt : ZR) (ls : ZL) (st : List ZV) (h : ZH) (b : ZB2) : Prop := zB E CT k_X10_heard_135 135 ls st h b (fun t ls st h b => X t ls st h b) Rt
theorem bs_X10_heard_135 {E : ZE} {CT : Nat → ZC} {X : ZK} {Rt : ZR} {ls : ZL} {st : List ZV} {h : ZH} {b : ZB2} (hX : zCl E mX10_heard 10 false CT Rt X) (q : bk_X10_heard_135 E CT X Rt ls st h b) : X 135 ls st h b := by
  refine hX k_X10_heard_135 135 ok_X10_heard_135 _ ?_ ls st h b q
  exact fun t ls st h b q => q
def bk_X10_heard_133 (E : ZE) (CT : Nat → ZC) (X : ZK) (Rt : ZR) (ls : ZL) (st : List ZV) (h : ZH) (b : ZB2) : Prop := zB E CT k_X10_heard_133 133 ls st h b (fun t ls st h b => if t = 135 then bk_X10_heard_135 E CT X Rt ls st h b else X t ls st h b) Rt
theorem bs_X10_heard_133 {E : ZE} {CT : Nat → ZC} {X : ZK} {Rt : ZR} {ls : ZL} {st : List ZV} {h : ZH} {b : ZB2} (hX : zCl E mX10_heard 10 false CT Rt X) (q : bk_X10_heard_133 E CT X Rt ls st h b) : X 133 ls st h b := by
  refine hX k_X10_heard_133 133 ok_X10_heard_133 _ ?_ ls st h b q
  exact by
    intro t ls st h b q
    by_cases c : t = 135
    · subst c; rw [if_pos rfl] at q; exact bs_X10_heard_135 hX q
    rw [if_neg c] at q
    exact q
def bk_X10_heard_118 (E : ZE) (CT : Nat → ZC) (X : ZK) (Rt : ZR) (ls : ZL) (st : List ZV) (h : ZH) (b : ZB2) : Prop := zB E CT k_X10_heard_118 118 ls st h b (fun t ls st h b => if t = 133 then bk_X10_heard_133 E CT X Rt ls st h b else if t = 135 then bk_X10_heard_135 E CT X Rt ls st h b else X t ls st h b) Rt
theorem bs_X10_heard_118 {E : ZE} {CT : Nat → ZC} {X : ZK} {Rt : ZR} {ls : ZL} {st : List ZV} {h : ZH} {b : ZB2} (hX : zCl E mX10_heard 10 false CT Rt X) (q : bk_X10_heard_118 E CT X Rt ls st h b) : X 118 ls st h b := by
  refine hX k_X10_heard_118 118 ok_X10_heard_118 _ ?_ ls st h b q
  exact by
    intro t ls st h b q
    by_cases c : t = 133
    · subst c; rw [if_pos rfl] at q; exact bs_X10_heard_133 hX q
    rw [if_neg c] at q
    by_cases c : t = 135
    · subst c; rw [if_pos rfl] at q; exact bs_X10_heard_135 hX q
    rw [if_neg c] at q
    exact q
def bk_X10_heard_111 (E : ZE) (CT : Nat → ZC) (X : ZK) (Rt : ZR) (ls : ZL) (st : List ZV) (h : ZH) (b : ZB2) : Prop := zB E CT k_X10_heard_111 111 ls st h b (fun t ls st h b => if t = 118 then bk_X10_heard_118 E CT X Rt ls st h b else X t ls st h b) Rt
theorem bs_X10_heard_111 {E : ZE} {CT : Nat → ZC} {X : ZK} {Rt : ZR} {ls : ZL} {st : List ZV} {h : ZH} {b : ZB2} (hX : zCl E mX10_heard 10 false CT Rt X) (q : bk_X10_heard_111 E CT X Rt ls st h b) : X 111 ls st h b := by
  refine hX k_X10_heard_111 111 ok_X10_heard_111 _ ?_ ls st h b q
  exact by
    intro t ls st h b q
    by_cases c : t = 118
    · subst c; rw [if_pos rfl] at q; exact bs_X10_heard_118 hX q
    rw [if_neg c] at q
    exact q
-- X10_heard: cuts [8, 16, 24, 31, 50, 60, 69, 84, 95, 105, 111]
def k_X10_which_0 : List ZI := [(.iload_n 1, 1, (0, [1], [])), (.iconst 3, 1, (0, [], [])), (.invokestatic 92, 3, (0, [111, 2, 0, 10], [])), (.ifCond .ne 11, 3, (0, [16], []))]
theorem ok_X10_which_0 : zOK cX10_which 10 false 5 k_X10_which_0 0 = true := zOK_by (by decide +kernel)
def k_X10_which_8 : List ZI := [(.aload_n 0, 1, (0, [0], [])), (.iload_n 2, 1, (0, [2], [])), (.invokevirtual 153, 3, (0, [112, 2, 0, 10], [])), (.ifCond .eq 10, 3, (0, [23], []))]
theorem ok_X10_which_8 : zOK cX10_which 10 false 5 k_X10_which_8 8 = true := zOK_by (by decide +kernel)
def k_X10_which_16 : List ZI := [(.aload_n 0, 1, (0, [0], [])), (.ldc 96, 2, ((-1000000001), [], [])), (.invokevirtual 97, 3, (0, [110, 2, 0, 10], [])), (.ireturn, 1, (0, [], []))]
theorem ok_X10_which_16 : zOK cX10_which 10 false 5 k_X10_which_16 16 = true := zOK_by (by decide +kernel)
def k_X10_which_23 : List ZI := [(.aload_n 0, 1, (0, [0], [])), (.getfield 83, 3, (0, [10, 7], [])), (.iload_n 1, 1, (0, [1], [])), (.aaload, 1, (0, [], [])), (.getfield 219, 3, (0, [7, 1], [])), (.ifCond .ne 10, 3, (0, [42], [])), (.aload_n 0, 1, (0, [0], [])), (.ldc 217, 2, ((-1000000002), [], [])), (.invokevirtual 97, 3, (0, [110, 2, 0, 10], [])), (.ireturn, 1, (0, [], []))]
theorem ok_X10_which_23 : zOK cX10_which 10 false 5 k_X10_which_23 23 = true := zOK_by (by decide +kernel)
def k_X10_which_42 : List ZI := [(.iconst 0, 1, (0, [], [])), (.istore_n 3, 1, (0, [3], [])), (.iconst 0, 1, (0, [], [])), (.istore 4, 2, (0, [4], []))]
theorem ok_X10_which_42 : zOK cX10_which 10 false 5 k_X10_which_42 42 = true := zOK_by (by decide +kernel)
def k_X10_which_47 : List ZI := [(.iload 4, 2, (0, [4], [])), (.bipush 7, 2, (0, [], [])), (.if_icmp .ge 59, 3, (0, [110], [])), (.aload_n 0, 1, (0, [0], [])), (.invokevirtual 210, 3, (0, [113, 1, 0, 10], []))]
theorem ok_X10_which_47 : zOK cX10_which 10 false 5 k_X10_which_47 47 = true := zOK_by (by decide +kernel)
def k_X10_which_58 : List ZI := [(.aload_n 0, 1, (0, [0], [])), (.getfield 49, 3, (0, [10, 3], [])), (.getfield 218, 3, (0, [1, 1], [])), (.getfield 144, 3, (0, [0, 0], [])), (.iload_n 2, 1, (0, [2], [])), (.iload 4, 2, (0, [4], [])), (.iastore, 1, (0, [], []))]
theorem ok_X10_which_58 : zOK cX10_which 10 false 5 k_X10_which_58 58 = true := zOK_by (by decide +kernel)
def k_X10_which_72 : List ZI := [(.aload_n 0, 1, (0, [0], [])), (.aload_n 0, 1, (0, [0], [])), (.getfield 83, 3, (0, [10, 7], [])), (.iload_n 1, 1, (0, [1], [])), (.aaload, 1, (0, [], [])), (.aload_n 0, 1, (0, [0], [])), (.getfield 12, 3, (0, [10, 0], [])), (.getfield 25, 3, (0, [6, 1], [])), (.getfield 150, 3, (0, [0, 2], [])), (.iload_n 2, 1, (0, [2], [])), (.iaload, 1, (0, [], [])), (.invokevirtual 222, 3, (0, [115, 3, 0, 10], []))]
theorem ok_X10_which_72 : zOK cX10_which 10 false 5 k_X10_which_72 72 = true := zOK_by (by decide +kernel)
def k_X10_which_94 : List ZI := [(.ifCond .eq 10, 3, (0, [104], [])), (.iload_n 3, 1, (0, [3], [])), (.iconst 1, 1, (0, [], [])), (.iload 4, 2, (0, [4], [])), (.ishl, 1, (0, [], [])), (.ior, 1, (0, [], [])), (.istore_n 3, 1, (0, [3], []))]
theorem ok_X10_which_94 : zOK cX10_which 10 false 5 k_X10_which_94 94 = true := zOK_by (by decide +kernel)
def k_X10_which_104 : List ZI := [(.iinc 4 1, 3, (0, [4], [])), (.goto (-60), 3, (0, [47], []))]
theorem ok_X10_which_104 : zOK cX10_which 10 false 5 k_X10_which_104 104 = true := zOK_by (by decide +kernel)
def k_X10_which_110 : List ZI := [(.iload_n 3, 1, (0, [3], [])), (.ireturn, 1, (0, [], []))]
theorem ok_X10_which_110 : zOK cX10_which 10 false 5 k_X10_which_110 110 = true := zOK_by (by decide +kernel)
theorem rt_X10_which {g : Nat} {post : Option ZV → ZH → Prop} {h : ZH} {b : ZB2} {z : Int} : zRt mX10_which g post (some (.inl z)) h b = (post (some (.inl z)) h ∧ h.1.length = g) := by show (_ ∧ _ ∧ True) = _; simp
def bk_X10_which_0 (E : ZE) (CT : Nat → ZC) (X : ZK) (Rt : ZR) (ls : ZL) (st : List ZV) (h : ZH) (b : ZB2) : Prop := zB E CT k_X10_which_0 0 ls st h b (fun t ls st h b => X t ls st h b) Rt
theorem bs_X10_which_0 {E : ZE} {CT : Nat → ZC} {X : ZK} {Rt : ZR} {ls : ZL} {st : List ZV} {h : ZH} {b : ZB2} (hX : zCl E mX10_which 10 false CT Rt X) (q : bk_X10_which_0 E CT X Rt ls st h b) : X 0 ls st h b := by
  refine hX k_X10_which_0 0 ok_X10_which_0 _ ?_ ls st h b q
  exact fun t ls st h b q => q
def bk_X10_which_8 (E : ZE) (CT : Nat → ZC) (X : ZK) (Rt : ZR) (ls : ZL) (st : List ZV) (h : ZH) (b : ZB2) : Prop := zB E CT k_X10_which_8 8 ls st h b (fun t ls st h b => X t ls st h b) Rt
theorem bs_X10_which_8 {E : ZE} {CT : Nat → ZC} {X : ZK} {Rt : ZR} {ls : ZL} {st : List ZV} {h : ZH} {b : ZB2} (hX : zCl E mX10_which 10 false CT Rt X) (q : bk_X10_which_8 E CT X Rt ls st h b) : X 8 ls st h b := by
  refine hX k_X10_which_8 8 ok_X10_which_8 _ ?_ ls st h b q
  exact fun t ls st h b q => q
def bk_X10_which_16 (E : ZE) (CT : Nat → ZC) (X : ZK) (Rt : ZR) (ls : ZL) (st : List ZV) (h : ZH) (b : ZB2) : Prop := zB E CT k_X10_which_16 16 ls st h b (fun t ls st h b => X t ls st h b) Rt
theorem bs_X10_which_16 {E : ZE} {CT : Nat → ZC} {X : ZK} {Rt : ZR} {ls : ZL} {st : List ZV} {h : ZH} {b : ZB2} (hX : zCl E mX10_which 10 false CT Rt X) (q : bk_X10_which_16 E CT X Rt ls st h b) : X 16 ls st h b := by
  refine hX k_X10_which_16 16 ok_X10_which_16 _ ?_ ls st h b q
  exact fun t ls st h b q => q
def bk_X10_which_23 (E : ZE) (CT : Nat → ZC) (X : ZK) (Rt : ZR) (ls : ZL) (st : List ZV) (h : ZH) (b : ZB2) : Prop := zB E CT k_X10_which_23 23 ls st h b (fun t ls st h b => X t ls st h b) Rt
theorem bs_X10_which_23 {E : ZE} {CT : Nat → ZC} {X : ZK} {Rt : ZR} {ls : ZL} {st : List ZV} {h : ZH} {b : ZB2} (hX : zCl E mX10_which 10 false CT Rt X) (q : bk_X10_which_23 E CT X Rt ls st h b) : X 23 ls st h b := by
  refine hX k_X10_which_23 23 ok_X10_which_23 _ ?_ ls st h b q
  exact fun t ls st h b q => q
def bk_X10_which_42 (E : ZE) (CT : Nat → ZC) (X : ZK) (Rt : ZR) (ls : ZL) (st : List ZV) (h : ZH) (b : ZB2) : Prop := zB E CT k_X10_which_42 42 ls st h b (fun t ls st h b => X t ls st h b) Rt
theorem bs_X10_which_42 {E : ZE} {CT : Nat → ZC} {X : ZK} {Rt : ZR} {ls : ZL} {st : List ZV} {h : ZH} {b : ZB2} (hX : zCl E mX10_which 10 false CT Rt X) (q : bk_X10_which_42 E CT X Rt ls st h b) : X 42 ls st h b := by
  refine hX k_X10_which_42 42 ok_X10_which_42 _ ?_ ls st h b q
  exact fun t ls st h b q => q
def bk_X10_which_47 (E : ZE) (CT : Nat → ZC) (X : ZK) (Rt : ZR) (ls : ZL) (st : List ZV) (h : ZH) (b : ZB2) : Prop := zB E CT k_X10_which_47 47 ls st h b (fun t ls st h b => X t ls st h b) Rt
theorem bs_X10_which_47 {E : ZE} {CT : Nat → ZC} {X : ZK} {Rt : ZR} {ls : ZL} {st : List ZV} {h : ZH} {b : ZB2} (hX : zCl E mX10_which 10 false CT Rt X) (q : bk_X10_which_47 E CT X Rt ls st h b) : X 47 ls st h b := by
  refine hX k_X10_which_47 47 ok_X10_which_47 _ ?_ ls st h b q
  exact fun t ls st h b q => q
def bk_X10_which_58 (E : ZE) (CT : Nat → ZC) (X : ZK) (Rt : ZR) (ls : ZL) (st : List ZV) (h : ZH) (b : ZB2) : Prop := zB E CT k_X10_which_58 58 ls st h b (fun t ls st h b => X t ls st h b) Rt
theorem bs_X10_which_58 {E : ZE} {CT : Nat → ZC} {X : ZK} {Rt : ZR} {ls : ZL} {st : List ZV} {h : ZH} {b : ZB2} (hX : zCl E mX10_which 10 false CT Rt X) (q : bk_X10_which_58 E CT X Rt ls st h b) : X 58 ls st h b := by
  refine hX k_X10_which_58 58 ok_X10_which_58 _ ?_ ls st h b q
  exact fun t ls st h b q => q
def bk_X10_which_72 (E : ZE) (CT : Nat → ZC) (X : ZK) (Rt : ZR) (ls : ZL) (st : List ZV) (h : ZH) (b : ZB2) : Prop := zB E CT k_X10_which_72 72 ls st h b (fun t ls st h b => X t ls st h b) Rt
theorem bs_X10_which_72 {E : ZE} {CT : Nat → ZC} {X : ZK} {Rt : ZR} {ls : ZL} {st : List ZV} {h : ZH} {b : ZB2} (hX : zCl E mX10_which 10 false CT Rt X) (q : bk_X10_which_72 E CT X Rt ls st h b) : X 72 ls st h b := by
  refine hX k_X10_which_72 72 ok_X10_which_72 _ ?_ ls st h b q
  exact fun t ls st h b q => q
def bk_X10_which_94 (E : ZE) (CT : Nat → ZC) (X : ZK) (Rt : ZR) (ls : ZL) (st : List ZV) (h : ZH) (b : ZB2) : Prop := zB E CT k_X10_which_94 94 ls st h b (fun t ls st h b => X t ls st h b) Rt
theorem bs_X10_which_94 {E : ZE} {CT : Nat → ZC} {X : ZK} {Rt : ZR} {ls : ZL} {st : List ZV} {h : ZH} {b : ZB2} (hX : zCl E mX10_which 10 false CT Rt X) (q : bk_X10_which_94 E CT X Rt ls st h b) : X 94 ls st h b := by
  refine hX k_X10_which_94 94 ok_X10_which_94 _ ?_ ls st h b q
  exact fun t ls st h b q => q
def bk_X10_which_104 (E : ZE) (CT : Nat → ZC) (X : ZK) (Rt : ZR) (ls : ZL) (st : List ZV) (h : ZH) (b : ZB2) : Prop := zB E CT k_X10_which_104 104 ls st h b (fun t ls st h b => X t ls st h b) Rt
theorem bs_X10_which_104 {E : ZE} {CT : Nat → ZC} {X : ZK} {Rt : ZR} {ls : ZL} {st : List ZV} {h : ZH} {b : ZB2} (hX : zCl E mX10_which 10 false CT Rt X) (q : bk_X10_which_104 E CT X Rt ls st h b) : X 104 ls st h b := by
  refine hX k_X10_which_104 104 ok_X10_which_104 _ ?_ ls st h b q
  exact fun t ls st h b q => q
def bk_X10_which_110 (E : ZE) (CT : Nat → ZC) (X : ZK) (Rt : ZR) (ls : ZL) (st : List ZV) (h : ZH) (b : ZB2) : Prop := zB E CT k_X10_which_110 110 ls st h b (fun t ls st h b => X t ls st h b) Rt
theorem bs_X10_which_110 {E : ZE} {CT : Nat → ZC} {X : ZK} {Rt : ZR} {ls : ZL} {st : List ZV} {h : ZH} {b : ZB2} (hX : zCl E mX10_which 10 false CT Rt X) (q : bk_X10_which_110 E CT X Rt ls st h b) : X 110 ls st h b := by
  refine hX k_X10_which_110 110 ok_X10_which_110 _ ?_ ls st h b q
  exact fun t ls st h b q => q
-- X10_which: cuts [8, 16, 23, 42, 47, 58, 72, 94, 104, 110]
def B_x_move (s : Int) (i : Int) (o : Int) (j : Int) (n : Int) (M : Nat → Nat → Int) (post : Option ZV → (Nat → Nat → Int) → Prop) : Prop := rg s ∧ rg i ∧ rg o ∧ rg j ∧ rg n ∧ ∃ S : ZMm, Vs S ∧ Rc S M ∧ cp M (R_move S s i o j n) post
def C_x_move : ZC := fun as h post => match as with
  | [.inr (.inr (.inl 0)), .inl s, .inl i, .inl o, .inl j, .inl n] => h.1 = zG ∧ B_x_move s i o j n h.2 (fun v M => post v (zG, M))
  | _ => False
theorem r_x_move {s : Int} {i : Int} {o : Int} {j : Int} {n : Int} {M : Nat → Nat → Int} {post : Option ZV → ZH → Prop} : C_x_move [.inr (.inr (.inl 0)), .inl s, .inl i, .inl o, .inl j, .inl n] (zG, M) post = B_x_move s i o j n M (fun v M => post v (zG, M)) := by show (zG = zG ∧ _) = _; simp
def ct_x_move : Nat → ZC := fun n => if n = 111 then C_cbey else if n = 110 then C_cfail else if n = 50 then C_sholds else fun _ _ _ => False
theorem ct_x_move_cbey {as : List ZV} {h : ZH} {post : Option ZV → ZH → Prop} : ct_x_move 111 as h post = C_cbey as h post := rfl
theorem ct_x_move_cfail {as : List ZV} {h : ZH} {post : Option ZV → ZH → Prop} : ct_x_move 110 as h post = C_cfail as h post := rfl
theorem ct_x_move_sholds {as : List ZV} {h : ZH} {post : Option ZV → ZH → Prop} : ct_x_move 50 as h post = C_sholds as h post := rfl
theorem c_x_move {E : ZE} {d : Nat} (hd : 2 ≤ d) : zMet E d mX10_move C_x_move := by
  refine zmet_of (o := 10) (ini := false) (CT := ct_x_move) gd_X10_move rfl (fun h => by cases h) (by omega) ?_ ?_
  · intro n as h post hh
    unfold ct_x_move at hh
    by_cases c : n = 111
    · subst c; exact ⟨gd_X10_isBeyond, 1, by omega, c_cbey (by omega)⟩
    rw [if_neg c] at hh
    by_cases c : n = 110
    · subst c; exact ⟨gd_X10_failed, 1, by omega, c_cfail (by omega)⟩
    rw [if_neg c] at hh
    by_cases c : n = 50
    · subst c; exact ⟨gd_X7_holds, 1, by omega, c_sholds (by omega)⟩
    rw [if_neg c] at hh
    exact hh.elim
  intro as h post hC
  match as, hC with
  | [.inr (.inr (.inl 0)), .inl s, .inl i, .inl o, .inl j, .inl n], hC =>
    refine ⟨Nat.le_of_ble_eq_true rfl, fun X hX => bs_X10_move_0 hX ?_⟩
    obtain ⟨G, M⟩ := h
    obtain ⟨hG, hC⟩ := hC
    dsimp only at hG
    subst hG
    simp only [B_x_move] at hC
    show bk_X10_move_0 E ct_x_move X _ [some (.inr (.inr (.inl 0))), some (.inl s), some (.inl i), some (.inl o), some (.inl j), some (.inl n), none, none] [] (zG, M) (0, 0)
    obtain ⟨h1, h2, h3, h4, h5, S, vs9, H, hC⟩ := hC
    have vd : Vd (S 88) := vs9.1
    have n9 := H.1
    have J16 : ¬ ((0 ≤ s ∧ s ≤ 3) ∧ 0 ≤ o ∧ o ≤ 3) → X 16 [some (.inr (.inr (.inl 0))), some (.inl s), some (.inl i), some (.inl o), some (.inl j), some (.inl n), none, none] [] (zG, M) (0, 0) := by
      intro q
      refine bs_X10_move_16 hX ?_
      simp only [bk_X10_move_0, k_X10_move_0, bk_X10_move_8, k_X10_move_8, bk_X10_move_16, k_X10_move_16, bk_X10_move_23, k_X10_move_23, bk_X10_move_39, k_X10_move_39, bk_X10_move_55, k_X10_move_55, bk_X10_move_62, k_X10_move_62, bk_X10_move_82, k_X10_move_82, bk_X10_move_93, k_X10_move_93, bk_X10_move_105, k_X10_move_105, bk_X10_move_112, k_X10_move_112, ↓e_rk1, ↓e_rk0, ↓e_sk0, ↓e_sks, ↓e_ldi0, ↓e_ldis, ↓e_ldl0, ↓e_ldls, ↓e_lda0, ↓e_ldas, ↓e_ok0, ↓e_okss, ↓e_ok1i, ↓e_ok1r, ↓e_ok1n, ↓e_sti, ↓e_sta, ↓e_1, ↓e_2, ↓e_l1, ↓e_l2, ↓e_li, ↓e_sw0, ↓e_sws, ↓e_ceq, ↓e_cne, ↓e_clt, ↓e_cge, ↓e_cgt, ↓e_cle, ↓e_nil, ↓e_cons, ↓e_iconst, ↓e_bipush, ↓e_sipush, ↓e_ldc, ↓e_ldcw, ↓e_ldc2, ↓e_lconst, ↓e_iloadn, ↓e_iload, ↓e_lloadn, ↓e_lload, ↓e_aloadn, ↓e_aload, ↓e_istoren, ↓e_istore, ↓e_astoren, ↓e_astore, ↓e_add, ↓e_iinc, ↓e_iadd, ↓e_isub, ↓e_imul, ↓e_iand, ↓e_ior, ↓e_ixor, ↓e_ishl, ↓e_iushr, ↓e_idiv, ↓e_irem, ↓e_ineg, ↓e_i2l, ↓e_i2b, ↓e_i2s, ↓e_l2i, ↓e_land, ↓e_lor, ↓e_lshl, ↓e_lshr, ↓e_lushr, ↓e_lcmp, ↓e_dupi, ↓e_dupr, ↓e_popi, ↓e_dup2, ↓e_goto, ↓e_if, ↓e_icmp, ↓e_tsw, ↓e_lsw, ↓e_getf, ↓e_putf, ↓e_gets, ↓e_iald, ↓e_cald, ↓e_iast, ↓e_aald, ↓e_aast, ↓e_len, ↓e_copy, ↓e_abs, ↓e_max, ↓e_min, ↓e_iret, ↓e_aret, ↓e_vret, ↓e_is0, ↓e_is1, ↓e_is2, ↓e_is3, ↓e_is4, ↓e_iv1, ↓e_iv2, ↓e_iv3, ↓e_iv4, ↓e_iv5, ↓e_iv6, ↓rt_X10_move, ↓reduceIte, Nat.reduceAdd, Nat.reduceEqDiff, ↓zcl0, ↓zclv, List.map_nil, List.sum_nil, List.map_cons, List.sum_cons, zcat, true_and, and_true, Nat.reduceLeDiff, Nat.reduceAdd, eq_self, forall_const, e_ok0, e_okss, e_ok1i, e_ok1r, e_ok1n, zl_m1000000005, zl_m1000000002, zl_m1000000001, zl_3, Int.reduceToNat, Int.reduceAdd, Int.reduceMul, Int.reduceSub, Int.reduceNeg, Int.reduceLT, Int.reduceLE, Int.reduceEq, not_false_eq_true, not_true_eq_false, false_implies, true_implies, implies_true, Int.reduceDiv, Int.reduceMod, zr8_zr, zr_zbo, z01_zbo, z01_0, z01_1, zbo_eq0, zup_eq, zup_o, zup_k, ne_eq, ↓ct_x_move_cbey, ↓r_cbey, ↓B_cbey, ↓ct_x_move_cfail, ↓r_cfail, ↓B_cfail, ↓ct_x_move_sholds, ↓r_sholds, ↓B_sholds, ↓v_0, ↓g_0_0, ↓g_0_1, ↓g_0_2, ↓g_0_3, ↓g_0_4, ↓g_0_5, ↓g_0_6, ↓g_0_7, ↓g_0_8, ↓l_78, ↓s_78, ↓n_78, ↓g_0_9, ↓p_0_9]
      exact ⟨1, by omega, by omega, cp_no hC H vd (by omega) (by unfold R_move; rw [if_neg (by omega)]) rfl⟩
    have sh := H.2.2.2.2.2
    have zs : zr s = s := zr_rg h1
    have zo : zr o = o := zr_rg h3
    have J23 : ((0 ≤ s ∧ s ≤ 3) ∧ 0 ≤ o ∧ o ≤ 3) → X 23 [some (.inr (.inr (.inl 0))), some (.inl s), some (.inl i), some (.inl o), some (.inl j), some (.inl n), none, none] [] (zG, M) (0, 0) := by
      intro q
      obtain ⟨qr, hq, hbq, qb, q1, q2, q3⟩ := shq sh q.1
      obtain ⟨pr, hp, hbp, pb, p1, p2, p3⟩ := shq sh q.2
      obtain ⟨bs, z1, z2⟩ := vs9.2.2.2.2.2.1 s.toNat (by omega)
      obtain ⟨bo, y1, y2⟩ := vs9.2.2.2.2.2.1 o.toNat (by omega)
      have zbs : zr (S 98 s.toNat) = S 98 s.toNat := zr_of (by omega) (by omega)
      have zbo9 : zr (S 98 o.toNat) = S 98 o.toNat := zr_of (by omega) (by omega)
      have J55 : (S 98 s.toNat = 0 ∨ S 98 o.toNat = 0) → X 55 [some (.inr (.inr (.inl 0))), some (.inl s), some (.inl i), some (.inl o), some (.inl j), some (.inl n), some (.inr (.inr (.inl qr))), some (.inr (.inr (.inl pr)))] [] (zG, M) (0, 0) := by
        intro c
        refine bs_X10_move_55 hX ?_
        simp only [bk_X10_move_0, k_X10_move_0, bk_X10_move_8, k_X10_move_8, bk_X10_move_16, k_X10_move_16, bk_X10_move_23, k_X10_move_23, bk_X10_move_39, k_X10_move_39, bk_X10_move_55, k_X10_move_55, bk_X10_move_62, k_X10_move_62, bk_X10_move_82, k_X10_move_82, bk_X10_move_93, k_X10_move_93, bk_X10_move_105, k_X10_move_105, bk_X10_move_112, k_X10_move_112, ↓e_rk1, ↓e_rk0, ↓e_sk0, ↓e_sks, ↓e_ldi0, ↓e_ldis, ↓e_ldl0, ↓e_ldls, ↓e_lda0, ↓e_ldas, ↓e_ok0, ↓e_okss, ↓e_ok1i, ↓e_ok1r, ↓e_ok1n, ↓e_sti, ↓e_sta, ↓e_1, ↓e_2, ↓e_l1, ↓e_l2, ↓e_li, ↓e_sw0, ↓e_sws, ↓e_ceq, ↓e_cne, ↓e_clt, ↓e_cge, ↓e_cgt, ↓e_cle, ↓e_nil, ↓e_cons, ↓e_iconst, ↓e_bipush, ↓e_sipush, ↓e_ldc, ↓e_ldcw, ↓e_ldc2, ↓e_lconst, ↓e_iloadn, ↓e_iload, ↓e_lloadn, ↓e_lload, ↓e_aloadn, ↓e_aload, ↓e_istoren, ↓e_istore, ↓e_astoren, ↓e_astore, ↓e_add, ↓e_iinc, ↓e_iadd, ↓e_isub, ↓e_imul, ↓e_iand, ↓e_ior, ↓e_ixor, ↓e_ishl, ↓e_iushr, ↓e_idiv, ↓e_irem, ↓e_ineg, ↓e_i2l, ↓e_i2b, ↓e_i2s, ↓e_l2i, ↓e_land, ↓e_lor, ↓e_lshl, ↓e_lshr, ↓e_lushr, ↓e_lcmp, ↓e_dupi, ↓e_dupr, ↓e_popi, ↓e_dup2, ↓e_goto, ↓e_if, ↓e_icmp, ↓e_tsw, ↓e_lsw, ↓e_getf, ↓e_putf, ↓e_gets, ↓e_iald, ↓e_cald, ↓e_iast, ↓e_aald, ↓e_aast, ↓e_len, ↓e_copy, ↓e_abs, ↓e_max, ↓e_min, ↓e_iret, ↓e_aret, ↓e_vret, ↓e_is0, ↓e_is1, ↓e_is2, ↓e_is3, ↓e_is4, ↓e_iv1, ↓e_iv2, ↓e_iv3, ↓e_iv4, ↓e_iv5, ↓e_iv6, ↓rt_X10_move, ↓reduceIte, Nat.reduceAdd, Nat.reduceEqDiff, ↓zcl0, ↓zclv, List.map_nil, List.sum_nil, List.map_cons, List.sum_cons, zcat, true_and, and_true, Nat.reduceLeDiff, Nat.reduceAdd, eq_self, forall_const, e_ok0, e_okss, e_ok1i, e_ok1r, e_ok1n, zl_m1000000005, zl_m1000000002, zl_m1000000001, zl_3, Int.reduceToNat, Int.reduceAdd, Int.reduceMul, Int.reduceSub, Int.reduceNeg, Int.reduceLT, Int.reduceLE, Int.reduceEq, not_false_eq_true, not_true_eq_false, false_implies, true_implies, implies_true, Int.reduceDiv, Int.reduceMod, zr8_zr, zr_zbo, z01_zbo, z01_0, z01_1, zbo_eq0, zup_eq, zup_o, zup_k, ne_eq, ↓ct_x_move_cbey, ↓r_cbey, ↓B_cbey, ↓ct_x_move_cfail, ↓r_cfail, ↓B_cfail, ↓ct_x_move_sholds, ↓r_sholds, ↓B_sholds, ↓v_0, ↓g_0_0, ↓g_0_1, ↓g_0_2, ↓g_0_3, ↓g_0_4, ↓g_0_5, ↓g_0_6, ↓g_0_7, ↓g_0_8, ↓l_78, ↓s_78, ↓n_78, ↓g_0_9, ↓p_0_9]
        exact ⟨2, by omega, by omega, cp_no hC H vd (by omega) (by unfold R_move; rw [if_pos q, if_pos c]) rfl⟩
      have J62 : ¬ (S 98 s.toNat = 0 ∨ S 98 o.toNat = 0) → X 62 [some (.inr (.inr (.inl 0))), some (.inl s), some (.inl i), some (.inl o), some (.inl j), some (.inl n), some (.inr (.inr (.inl qr))), some (.inr (.inr (.inl pr)))] [] (zG, M) (0, 0) := by
        intro c
        have J105 : S 98 s.toNat = S 98 o.toNat → ¬ ((0 ≤ n ∧ 0 ≤ i ∧ 0 ≤ j) ∧ n ≤ S 99 s.toNat - i ∧ n ≤ S 99 o.toNat - j) → X 105 [some (.inr (.inr (.inl 0))), some (.inl s), some (.inl i), some (.inl o), some (.inl j), some (.inl n), some (.inr (.inr (.inl qr))), some (.inr (.inr (.inl pr)))] [] (zG, M) (0, 0) := by
          intro c2 c3
          refine bs_X10_move_105 hX ?_
          simp only [bk_X10_move_0, k_X10_move_0, bk_X10_move_8, k_X10_move_8, bk_X10_move_16, k_X10_move_16, bk_X10_move_23, k_X10_move_23, bk_X10_move_39, k_X10_move_39, bk_X10_move_55, k_X10_move_55, bk_X10_move_62, k_X10_move_62, bk_X10_move_82, k_X10_move_82, bk_X10_move_93, k_X10_move_93, bk_X10_move_105, k_X10_move_105, bk_X10_move_112, k_X10_move_112, ↓e_rk1, ↓e_rk0, ↓e_sk0, ↓e_sks, ↓e_ldi0, ↓e_ldis, ↓e_ldl0, ↓e_ldls, ↓e_lda0, ↓e_ldas, ↓e_ok0, ↓e_okss, ↓e_ok1i, ↓e_ok1r, ↓e_ok1n, ↓e_sti, ↓e_sta, ↓e_1, ↓e_2, ↓e_l1, ↓e_l2, ↓e_li, ↓e_sw0, ↓e_sws, ↓e_ceq, ↓e_cne, ↓e_clt, ↓e_cge, ↓e_cgt, ↓e_cle, ↓e_nil, ↓e_cons, ↓e_iconst, ↓e_bipush, ↓e_sipush, ↓e_ldc, ↓e_ldcw, ↓e_ldc2, ↓e_lconst, ↓e_iloadn, ↓e_iload, ↓e_lloadn, ↓e_lload, ↓e_aloadn, ↓e_aload, ↓e_istoren, ↓e_istore, ↓e_astoren, ↓e_astore, ↓e_add, ↓e_iinc, ↓e_iadd, ↓e_isub, ↓e_imul, ↓e_iand, ↓e_ior, ↓e_ixor, ↓e_ishl, ↓e_iushr, ↓e_idiv, ↓e_irem, ↓e_ineg, ↓e_i2l, ↓e_i2b, ↓e_i2s, ↓e_l2i, ↓e_land, ↓e_lor, ↓e_lshl, ↓e_lshr, ↓e_lushr, ↓e_lcmp, ↓e_dupi, ↓e_dupr, ↓e_popi, ↓e_dup2, ↓e_goto, ↓e_if, ↓e_icmp, ↓e_tsw, ↓e_lsw, ↓e_getf, ↓e_putf, ↓e_gets, ↓e_iald, ↓e_cald, ↓e_iast, ↓e_aald, ↓e_aast, ↓e_len, ↓e_copy, ↓e_abs, ↓e_max, ↓e_min, ↓e_iret, ↓e_aret, ↓e_vret, ↓e_is0, ↓e_is1, ↓e_is2, ↓e_is3, ↓e_is4, ↓e_iv1, ↓e_iv2, ↓e_iv3, ↓e_iv4, ↓e_iv5, ↓e_iv6, ↓rt_X10_move, ↓reduceIte, Nat.reduceAdd, Nat.reduceEqDiff, ↓zcl0, ↓zclv, List.map_nil, List.sum_nil, List.map_cons, List.sum_cons, zcat, true_and, and_true, Nat.reduceLeDiff, Nat.reduceAdd, eq_self, forall_const, e_ok0, e_okss, e_ok1i, e_ok1r, e_ok1n, zl_m1000000005, zl_m1000000002, zl_m1000000001, zl_3, Int.reduceToNat, Int.reduceAdd, Int.reduceMul, Int.reduceSub, Int.reduceNeg, Int.reduceLT, Int.reduceLE, Int.reduceEq, not_false_eq_true, not_true_eq_false, false_implies, true_implies, implies_true, Int.reduceDiv, Int.reduceMod, zr8_zr, zr_zbo, z01_zbo, z01_0, z01_1, zbo_eq0, zup_eq, zup_o, zup_k, ne_eq, ↓ct_x_move_cbey, ↓r_cbey, ↓B_cbey, ↓ct_x_move_cfail, ↓r_cfail, ↓B_cfail, ↓ct_x_move_sholds, ↓r_sholds, ↓B_sholds, ↓v_0, ↓g_0_0, ↓g_0_1, ↓g_0_2, ↓g_0_3, ↓g_0_4, ↓g_0_5, ↓g_0_6, ↓g_0_7, ↓g_0_8, ↓l_78, ↓s_78, ↓n_78, ↓g_0_9, ↓p_0_9]
          exact ⟨1, by omega, by omega, cp_no hC H vd (by omega) (by unfold R_move; rw [if_pos q, if_neg c, if_neg (by omega), if_neg c3]) rfl⟩
        have J112 : S 98 s.toNat = S 98 o.toNat → ((0 ≤ n ∧ 0 ≤ i ∧ 0 ≤ j) ∧ n ≤ S 99 s.toNat - i ∧ n ≤ S 99 o.toNat - j) → X 112 [some (.inr (.inr (.inl 0))), some (.inl s), some (.inl i), some (.inl o), some (.inl j), some (.inl n), some (.inr (.inr (.inl qr))), some (.inr (.inr (.inl pr)))] [] (zG, M) (0, 0) := by
          intro c2 c3
          have zi : zr i = i := zr_rg h2
          have zj : zr j = j := zr_rg h4
          have zn : zr n = n := zr_rg h5
          have c1 : ∀ {M : ZMm} {n dp sp : Int} {r : List ZV} {kh : List ZV → ZH → Prop}, _ := fun {M n dp sp r kh} => cp_of (M := M) (n := n) (dp := dp) (sp := sp) (r := r) (kh := kh) (aS_1 hbq) (aS_1 hbp)
          refine bs_X10_move_112 hX ?_
          simp only [bk_X10_move_0, k_X10_move_0, bk_X10_move_8, k_X10_move_8, bk_X10_move_16, k_X10_move_16, bk_X10_move_23, k_X10_move_23, bk_X10_move_39, k_X10_move_39, bk_X10_move_55, k_X10_move_55, bk_X10_move_62, k_X10_move_62, bk_X10_move_82, k_X10_move_82, bk_X10_move_93, k_X10_move_93, bk_X10_move_105, k_X10_move_105, bk_X10_move_112, k_X10_move_112, ↓e_rk1, ↓e_rk0, ↓e_sk0, ↓e_sks, ↓e_ldi0, ↓e_ldis, ↓e_ldl0, ↓e_ldls, ↓e_lda0, ↓e_ldas, ↓e_ok0, ↓e_okss, ↓e_ok1i, ↓e_ok1r, ↓e_ok1n, ↓e_sti, ↓e_sta, ↓e_1, ↓e_2, ↓e_l1, ↓e_l2, ↓e_li, ↓e_sw0, ↓e_sws, ↓e_ceq, ↓e_cne, ↓e_clt, ↓e_cge, ↓e_cgt, ↓e_cle, ↓e_nil, ↓e_cons, ↓e_iconst, ↓e_bipush, ↓e_sipush, ↓e_ldc, ↓e_ldcw, ↓e_ldc2, ↓e_lconst, ↓e_iloadn, ↓e_iload, ↓e_lloadn, ↓e_lload, ↓e_aloadn, ↓e_aload, ↓e_istoren, ↓e_istore, ↓e_astoren, ↓e_astore, ↓e_add, ↓e_iinc, ↓e_iadd, ↓e_isub, ↓e_imul, ↓e_iand, ↓e_ior, ↓e_ixor, ↓e_ishl, ↓e_iushr, ↓e_idiv, ↓e_irem, ↓e_ineg, ↓e_i2l, ↓e_i2b, ↓e_i2s, ↓e_l2i, ↓e_land, ↓e_lor, ↓e_lshl, ↓e_lshr, ↓e_lushr, ↓e_lcmp, ↓e_dupi, ↓e_dupr, ↓e_popi, ↓e_dup2, ↓e_goto, ↓e_if, ↓e_icmp, ↓e_tsw, ↓e_lsw, ↓e_getf, ↓e_putf, ↓e_gets, ↓e_iald, ↓e_cald, ↓e_iast, ↓e_aald, ↓e_aast, ↓e_len, ↓e_copy, ↓e_abs, ↓e_max, ↓e_min, ↓e_iret, ↓e_aret, ↓e_vret, ↓e_is0, ↓e_is1, ↓e_is2, ↓e_is3, ↓e_is4, ↓e_iv1, ↓e_iv2, ↓e_iv3, ↓e_iv4, ↓e_iv5, ↓e_iv6, ↓rt_X10_move, ↓reduceIte, Nat.reduceAdd, Nat.reduceEqDiff, ↓zcl0, ↓zclv, List.map_nil, List.sum_nil, List.map_cons, List.sum_cons, zcat, true_and, and_true, Nat.reduceLeDiff, Nat.reduceAdd, eq_self, forall_const, e_ok0, e_okss, e_ok1i, e_ok1r, e_ok1n, zl_m1000000005, zl_m1000000002, zl_m1000000001, zl_3, Int.reduceToNat, Int.reduceAdd, Int.reduceMul, Int.reduceSub, Int.reduceNeg, Int.reduceLT, Int.reduceLE, Int.reduceEq, not_false_eq_true, not_true_eq_false, false_implies, true_implies, implies_true, Int.reduceDiv, Int.reduceMod, zr8_zr, zr_zbo, z01_zbo, z01_0, z01_1, zbo_eq0, zup_eq, zup_o, zup_k, ne_eq, ↓ct_x_move_cbey, ↓r_cbey, ↓B_cbey, ↓ct_x_move_cfail, ↓r_cfail, ↓B_cfail, ↓ct_x_move_sholds, ↓r_sholds, ↓B_sholds, ↓v_0, ↓g_0_0, ↓g_0_1, ↓g_0_2, ↓g_0_3, ↓g_0_4, ↓g_0_5, ↓g_0_6, ↓g_0_7, ↓g_0_8, ↓l_78, ↓s_78, ↓n_78, ↓g_0_9, ↓p_0_9, ↓vS hbq, ↓gS_0 hbq, ↓gS_1 hbq, ↓gS_2 hbq, ↓pS_1 hbq, ↓pS_2 hbq, ↓lS_1 hbq, ↓sS_1 hbq, ↓vS hbp, ↓gS_0 hbp, ↓gS_1 hbp, ↓gS_2 hbp, ↓pS_1 hbp, ↓pS_2 hbp, ↓lS_1 hbp, ↓sS_1 hbp, ↓c1, zi, zj, zn]
          repeat (refine And.intro (by omega) ?_)
          have er : R_move S s i o j n = (n, r100 S (mvr (S 100) (40 * s + i).toNat (40 * o + j).toNat n.toNat)) := by
            unfold R_move
            rw [if_pos q, if_neg c, if_neg (by omega), if_pos c3]
          have g : ∀ x, ¬ x = pr + 1 → zcp M (qr + 1) (pr + 1) i.toNat j.toNat n.toNat x = M x := fun x a => zc_o a
          have r1 : ∀ x, ¬ x = 100 → r100 S (mvr (S 100) (40 * s + i).toNat (40 * o + j).toNat n.toNat) x = S x := fun x a => by unfold r100; rw [if_neg a]
          refine cp_mk hC er (Rc_sh H vd (fun x a1 a2 a3 => r1 x a3) (fun x a => g x (by omega)) ?_) (fun x a => g x (by omega))
          refine ShR_one sh (sn := o.toNat) (by omega) (fun k qk => by rw [r1 98 (by decide)]) (fun k qk => by rw [r1 99 (by decide)]) (fun k l qk ql => ?_) (fun x a1 a2 => g x (by omega)) ⟨?_, ?_, fun k hk => ?_⟩
          · show mvr (S 100) _ _ _ _ = _
            unfold mvr
            rw [if_neg (by omega)]
          · rw [hp, g _ (by omega), r1 98 (by decide)]; exact p1
          · rw [hp, g _ (by omega), r1 99 (by decide)]; exact p2
          · rw [show 80 + 2 * o.toNat = pr + 1 by omega, r1 98 (by decide)]
            have em : r100 S (mvr (S 100) (40 * s + i).toNat (40 * o + j).toNat n.toNat) 100 (40 * o.toNat + k) = if j.toNat ≤ k ∧ k < j.toNat + n.toNat then S 100 (40 * s.toNat + (i.toNat + (k - j.toNat))) else S 100 (40 * o.toNat + k) := by
              show mvr (S 100) _ _ _ _ = _
              unfold mvr
              by_cases qq : j.toNat ≤ k ∧ k < j.toNat + n.toNat
              · rw [if_pos (by omega), if_pos qq]
                congr 1
                omega
              · rw [if_neg (by omega), if_neg qq]
            rw [em]
            unfold zcp
            by_cases qq : j.toNat ≤ k ∧ k < j.toNat + n.toNat
            · rw [if_pos ⟨rfl, qq.1, qq.2⟩, if_pos qq]
              have := q3 (i.toNat + (k - j.toNat)) (by omega)
              rw [c2] at this
              exact this
            · rw [if_neg (fun h9 => qq h9.2), if_neg qq]
              exact p3 k hk
        have J93 : S 98 s.toNat = S 98 o.toNat → ((0 ≤ n ∧ 0 ≤ i) ∧ n ≤ S 99 s.toNat - i) → X 93 [some (.inr (.inr (.inl 0))), some (.inl s), some (.inl i), some (.inl o), some (.inl j), some (.inl n), some (.inr (.inr (.inl qr))), some (.inr (.inr (.inl pr)))] [] (zG, M) (0, 0) := by
          intro c2 c3
          refine bs_X10_move_93 hX ?_
          simp only [bk_X10_move_0, k_X10_move_0, bk_X10_move_8, k_X10_move_8, bk_X10_move_16, k_X10_move_16, bk_X10_move_23, k_X10_move_23, bk_X10_move_39, k_X10_move_39, bk_X10_move_55, k_X10_move_55, bk_X10_move_62, k_X10_move_62, bk_X10_move_82, k_X10_move_82, bk_X10_move_93, k_X10_move_93, bk_X10_move_105, k_X10_move_105, bk_X10_move_112, k_X10_move_112, ↓e_rk1, ↓e_rk0, ↓e_sk0, ↓e_sks, ↓e_ldi0, ↓e_ldis, ↓e_ldl0, ↓e_ldls, ↓e_lda0, ↓e_ldas, ↓e_ok0, ↓e_okss, ↓e_ok1i, ↓e_ok1r, ↓e_ok1n, ↓e_sti, ↓e_sta, ↓e_1, ↓e_2, ↓e_l1, ↓e_l2, ↓e_li, ↓e_sw0, ↓e_sws, ↓e_ceq, ↓e_cne, ↓e_clt, ↓e_cge, ↓e_cgt, ↓e_cle, ↓e_nil, ↓e_cons, ↓e_iconst, ↓e_bipush, ↓e_sipush, ↓e_ldc, ↓e_ldcw, ↓e_ldc2, ↓e_lconst, ↓e_iloadn, ↓e_iload, ↓e_lloadn, ↓e_lload, ↓e_aloadn, ↓e_aload, ↓e_istoren, ↓e_istore, ↓e_astoren, ↓e_astore, ↓e_add, ↓e_iinc, ↓e_iadd, ↓e_isub, ↓e_imul, ↓e_iand, ↓e_ior, ↓e_ixor, ↓e_ishl, ↓e_iushr, ↓e_idiv, ↓e_irem, ↓e_ineg, ↓e_i2l, ↓e_i2b, ↓e_i2s, ↓e_l2i, ↓e_land, ↓e_lor, ↓e_lshl, ↓e_lshr, ↓e_lushr, ↓e_lcmp, ↓e_dupi, ↓e_dupr, ↓e_popi, ↓e_dup2, ↓e_goto, ↓e_if, ↓e_icmp, ↓e_tsw, ↓e_lsw, ↓e_getf, ↓e_putf, ↓e_gets, ↓e_iald, ↓e_cald, ↓e_iast, ↓e_aald, ↓e_aast, ↓e_len, ↓e_copy, ↓e_abs, ↓e_max, ↓e_min, ↓e_iret, ↓e_aret, ↓e_vret, ↓e_is0, ↓e_is1, ↓e_is2, ↓e_is3, ↓e_is4, ↓e_iv1, ↓e_iv2, ↓e_iv3, ↓e_iv4, ↓e_iv5, ↓e_iv6, ↓rt_X10_move, ↓reduceIte, Nat.reduceAdd, Nat.reduceEqDiff, ↓zcl0, ↓zclv, List.map_nil, List.sum_nil, List.map_cons, List.sum_cons, zcat, true_and, and_true, Nat.reduceLeDiff, Nat.reduceAdd, eq_self, forall_const, e_ok0, e_okss, e_ok1i, e_ok1r, e_ok1n, zl_m1000000005, zl_m1000000002, zl_m1000000001, zl_3, Int.reduceToNat, Int.reduceAdd, Int.reduceMul, Int.reduceSub, Int.reduceNeg, Int.reduceLT, Int.reduceLE, Int.reduceEq, not_false_eq_true, not_true_eq_false, false_implies, true_implies, implies_true, Int.reduceDiv, Int.reduceMod, zr8_zr, zr_zbo, z01_zbo, z01_0, z01_1, zbo_eq0, zup_eq, zup_o, zup_k, ne_eq, ↓ct_x_move_cbey, ↓r_cbey, ↓B_cbey, ↓ct_x_move_cfail, ↓r_cfail, ↓B_cfail, ↓ct_x_move_sholds, ↓r_sholds, ↓B_sholds, ↓v_0, ↓g_0_0, ↓g_0_1, ↓g_0_2, ↓g_0_3, ↓g_0_4, ↓g_0_5, ↓g_0_6, ↓g_0_7, ↓g_0_8, ↓l_78, ↓s_78, ↓n_78, ↓g_0_9, ↓p_0_9, ↓vS hbp, ↓gS_0 hbp, ↓gS_1 hbp, ↓gS_2 hbp, ↓pS_1 hbp, ↓pS_2 hbp, ↓lS_1 hbp, ↓sS_1 hbp, p2, zr_zbo, zbo_eq0]
          refine ⟨hbp, h4, h5, by omega, fun c4 => ?_, fun c4 => ?_⟩
          · first | exact J105 c2 (by omega) | exact J112 c2 (by omega)
          · first | exact J105 c2 (by omega) | exact J112 c2 (by omega)
        have J82 : S 98 s.toNat = S 98 o.toNat → X 82 [some (.inr (.inr (.inl 0))), some (.inl s), some (.inl i), some (.inl o), some (.inl j), some (.inl n), some (.inr (.inr (.inl qr))), some (.inr (.inr (.inl pr)))] [] (zG, M) (0, 0) := by
          intro c2
          refine bs_X10_move_82 hX ?_
          simp only [bk_X10_move_0, k_X10_move_0, bk_X10_move_8, k_X10_move_8, bk_X10_move_16, k_X10_move_16, bk_X10_move_23, k_X10_move_23, bk_X10_move_39, k_X10_move_39, bk_X10_move_55, k_X10_move_55, bk_X10_move_62, k_X10_move_62, bk_X10_move_82, k_X10_move_82, bk_X10_move_93, k_X10_move_93, bk_X10_move_105, k_X10_move_105, bk_X10_move_112, k_X10_move_112, ↓e_rk1, ↓e_rk0, ↓e_sk0, ↓e_sks, ↓e_ldi0, ↓e_ldis, ↓e_ldl0, ↓e_ldls, ↓e_lda0, ↓e_ldas, ↓e_ok0, ↓e_okss, ↓e_ok1i, ↓e_ok1r, ↓e_ok1n, ↓e_sti, ↓e_sta, ↓e_1, ↓e_2, ↓e_l1, ↓e_l2, ↓e_li, ↓e_sw0, ↓e_sws, ↓e_ceq, ↓e_cne, ↓e_clt, ↓e_cge, ↓e_cgt, ↓e_cle, ↓e_nil, ↓e_cons, ↓e_iconst, ↓e_bipush, ↓e_sipush, ↓e_ldc, ↓e_ldcw, ↓e_ldc2, ↓e_lconst, ↓e_iloadn, ↓e_iload, ↓e_lloadn, ↓e_lload, ↓e_aloadn, ↓e_aload, ↓e_istoren, ↓e_istore, ↓e_astoren, ↓e_astore, ↓e_add, ↓e_iinc, ↓e_iadd, ↓e_isub, ↓e_imul, ↓e_iand, ↓e_ior, ↓e_ixor, ↓e_ishl, ↓e_iushr, ↓e_idiv, ↓e_irem, ↓e_ineg, ↓e_i2l, ↓e_i2b, ↓e_i2s, ↓e_l2i, ↓e_land, ↓e_lor, ↓e_lshl, ↓e_lshr, ↓e_lushr, ↓e_lcmp, ↓e_dupi, ↓e_dupr, ↓e_popi, ↓e_dup2, ↓e_goto, ↓e_if, ↓e_icmp, ↓e_tsw, ↓e_lsw, ↓e_getf, ↓e_putf, ↓e_gets, ↓e_iald, ↓e_cald, ↓e_iast, ↓e_aald, ↓e_aast, ↓e_len, ↓e_copy, ↓e_abs, ↓e_max, ↓e_min, ↓e_iret, ↓e_aret, ↓e_vret, ↓e_is0, ↓e_is1, ↓e_is2, ↓e_is3, ↓e_is4, ↓e_iv1, ↓e_iv2, ↓e_iv3, ↓e_iv4, ↓e_iv5, ↓e_iv6, ↓rt_X10_move, ↓reduceIte, Nat.reduceAdd, Nat.reduceEqDiff, ↓zcl0, ↓zclv, List.map_nil, List.sum_nil, List.map_cons, List.sum_cons, zcat, true_and, and_true, Nat.reduceLeDiff, Nat.reduceAdd, eq_self, forall_const, e_ok0, e_okss, e_ok1i, e_ok1r, e_ok1n, zl_m1000000005, zl_m1000000002, zl_m1000000001, zl_3, Int.reduceToNat, Int.reduceAdd, Int.reduceMul, Int.reduceSub, Int.reduceNeg, Int.reduceLT, Int.reduceLE, Int.reduceEq, not_false_eq_true, not_true_eq_false, false_implies, true_implies, implies_true, Int.reduceDiv, Int.reduceMod, zr8_zr, zr_zbo, z01_zbo, z01_0, z01_1, zbo_eq0, zup_eq, zup_o, zup_k, ne_eq, ↓ct_x_move_cbey, ↓r_cbey, ↓B_cbey, ↓ct_x_move_cfail, ↓r_cfail, ↓B_cfail, ↓ct_x_move_sholds, ↓r_sholds, ↓B_sholds, ↓v_0, ↓g_0_0, ↓g_0_1, ↓g_0_2, ↓g_0_3, ↓g_0_4, ↓g_0_5, ↓g_0_6, ↓g_0_7, ↓g_0_8, ↓l_78, ↓s_78, ↓n_78, ↓g_0_9, ↓p_0_9, ↓vS hbq, ↓gS_0 hbq, ↓gS_1 hbq, ↓gS_2 hbq, ↓pS_1 hbq, ↓pS_2 hbq, ↓lS_1 hbq, ↓sS_1 hbq, q2, zr_zbo, zbo_eq0]
          refine ⟨hbq, h2, h5, by omega, fun c4 => ?_, fun c4 => ?_⟩
          · first | exact J105 c2 (by omega) | exact J93 c2 (by omega)
          · first | exact J105 c2 (by omega) | exact J93 c2 (by omega)
        refine bs_X10_move_62 hX ?_
        simp only [bk_X10_move_0, k_X10_move_0, bk_X10_move_8, k_X10_move_8, bk_X10_move_16, k_X10_move_16, bk_X10_move_23, k_X10_move_23, bk_X10_move_39, k_X10_move_39, bk_X10_move_55, k_X10_move_55, bk_X10_move_62, k_X10_move_62, bk_X10_move_82, k_X10_move_82, bk_X10_move_93, k_X10_move_93, bk_X10_move_105, k_X10_move_105, bk_X10_move_112, k_X10_move_112, ↓e_rk1, ↓e_rk0, ↓e_sk0, ↓e_sks, ↓e_ldi0, ↓e_ldis, ↓e_ldl0, ↓e_ldls, ↓e_lda0, ↓e_ldas, ↓e_ok0, ↓e_okss, ↓e_ok1i, ↓e_ok1r, ↓e_ok1n, ↓e_sti, ↓e_sta, ↓e_1, ↓e_2, ↓e_l1, ↓e_l2, ↓e_li, ↓e_sw0, ↓e_sws, ↓e_ceq, ↓e_cne, ↓e_clt, ↓e_cge, ↓e_cgt, ↓e_cle, ↓e_nil, ↓e_cons, ↓e_iconst, ↓e_bipush, ↓e_sipush, ↓e_ldc, ↓e_ldcw, ↓e_ldc2, ↓e_lconst, ↓e_iloadn, ↓e_iload, ↓e_lloadn, ↓e_lload, ↓e_aloadn, ↓e_aload, ↓e_istoren, ↓e_istore, ↓e_astoren, ↓e_astore, ↓e_add, ↓e_iinc, ↓e_iadd, ↓e_isub, ↓e_imul, ↓e_iand, ↓e_ior, ↓e_ixor, ↓e_ishl, ↓e_iushr, ↓e_idiv, ↓e_irem, ↓e_ineg, ↓e_i2l, ↓e_i2b, ↓e_i2s, ↓e_l2i, ↓e_land, ↓e_lor, ↓e_lshl, ↓e_lshr, ↓e_lushr, ↓e_lcmp, ↓e_dupi, ↓e_dupr, ↓e_popi, ↓e_dup2, ↓e_goto, ↓e_if, ↓e_icmp, ↓e_tsw, ↓e_lsw, ↓e_getf, ↓e_putf, ↓e_gets, ↓e_iald, ↓e_cald, ↓e_iast, ↓e_aald, ↓e_aast, ↓e_len, ↓e_copy, ↓e_abs, ↓e_max, ↓e_min, ↓e_iret, ↓e_aret, ↓e_vret, ↓e_is0, ↓e_is1, ↓e_is2, ↓e_is3, ↓e_is4, ↓e_iv1, ↓e_iv2, ↓e_iv3, ↓e_iv4, ↓e_iv5, ↓e_iv6, ↓rt_X10_move, ↓reduceIte, Nat.reduceAdd, Nat.reduceEqDiff, ↓zcl0, ↓zclv, List.map_nil, List.sum_nil, List.map_cons, List.sum_cons, zcat, true_and, and_true, Nat.reduceLeDiff, Nat.reduceAdd, eq_self, forall_const, e_ok0, e_okss, e_ok1i, e_ok1r, e_ok1n, zl_m1000000005, zl_m1000000002, zl_m1000000001, zl_3, Int.reduceToNat, Int.reduceAdd, Int.reduceMul, Int.reduceSub, Int.reduceNeg, Int.reduceLT, Int.reduceLE, Int.reduceEq, not_false_eq_true, not_true_eq_false, false_implies, true_implies, implies_true, Int.reduceDiv, Int.reduceMod, zr8_zr, zr_zbo, z01_zbo, z01_0, z01_1, zbo_eq0, zup_eq, zup_o, zup_k, ne_eq, ↓ct_x_move_cbey, ↓r_cbey, ↓B_cbey, ↓ct_x_move_cfail, ↓r_cfail, ↓B_cfail, ↓ct_x_move_sholds, ↓r_sholds, ↓B_sholds, ↓v_0, ↓g_0_0, ↓g_0_1, ↓g_0_2, ↓g_0_3, ↓g_0_4, ↓g_0_5, ↓g_0_6, ↓g_0_7, ↓g_0_8, ↓l_78, ↓s_78, ↓n_78, ↓g_0_9, ↓p_0_9, ↓vS hbq, ↓gS_0 hbq, ↓gS_1 hbq, ↓gS_2 hbq, ↓pS_1 hbq, ↓pS_2 hbq, ↓lS_1 hbq, ↓sS_1 hbq, ↓vS hbp, ↓gS_0 hbp, ↓gS_1 hbp, ↓gS_2 hbp, ↓pS_1 hbp, ↓pS_2 hbp, ↓lS_1 hbp, ↓sS_1 hbp, q1, p1, zbs, zbo9]
        refine ⟨fun c2 => ?_, fun c2 => ?_⟩
        · first | exact J82 c2 | exact ⟨5, by omega, by omega, cp_no hC H vd (by omega) (by unfold R_move; rw [if_pos q, if_neg c, if_pos c2]) rfl⟩
        · first | exact J82 c2 | exact ⟨5, by omega, by omega, cp_no hC H vd (by omega) (by unfold R_move; rw [if_pos q, if_neg c, if_pos c2]) rfl⟩
      refine bs_X10_move_23 hX ?_
      simp only [bk_X10_move_0, k_X10_move_0, bk_X10_move_8, k_X10_move_8, bk_X10_move_16, k_X10_move_16, bk_X10_move_23, k_X10_move_23, bk_X10_move_39, k_X10_move_39, bk_X10_move_55, k_X10_move_55, bk_X10_move_62, k_X10_move_62, bk_X10_move_82, k_X10_move_82, bk_X10_move_93, k_X10_move_93, bk_X10_move_105, k_X10_move_105, bk_X10_move_112, k_X10_move_112, ↓e_rk1, ↓e_rk0, ↓e_sk0, ↓e_sks, ↓e_ldi0, ↓e_ldis, ↓e_ldl0, ↓e_ldls, ↓e_lda0, ↓e_ldas, ↓e_ok0, ↓e_okss, ↓e_ok1i, ↓e_ok1r, ↓e_ok1n, ↓e_sti, ↓e_sta, ↓e_1, ↓e_2, ↓e_l1, ↓e_l2, ↓e_li, ↓e_sw0, ↓e_sws, ↓e_ceq, ↓e_cne, ↓e_clt, ↓e_cge, ↓e_cgt, ↓e_cle, ↓e_nil, ↓e_cons, ↓e_iconst, ↓e_bipush, ↓e_sipush, ↓e_ldc, ↓e_ldcw, ↓e_ldc2, ↓e_lconst, ↓e_iloadn, ↓e_iload, ↓e_lloadn, ↓e_lload, ↓e_aloadn, ↓e_aload, ↓e_istoren, ↓e_istore, ↓e_astoren, ↓e_astore, ↓e_add, ↓e_iinc, ↓e_iadd, ↓e_isub, ↓e_imul, ↓e_iand, ↓e_ior, ↓e_ixor, ↓e_ishl, ↓e_iushr, ↓e_idiv, ↓e_irem, ↓e_ineg, ↓e_i2l, ↓e_i2b, ↓e_i2s, ↓e_l2i, ↓e_land, ↓e_lor, ↓e_lshl, ↓e_lshr, ↓e_lushr, ↓e_lcmp, ↓e_dupi, ↓e_dupr, ↓e_popi, ↓e_dup2, ↓e_goto, ↓e_if, ↓e_icmp, ↓e_tsw, ↓e_lsw, ↓e_getf, ↓e_putf, ↓e_gets, ↓e_iald, ↓e_cald, ↓e_iast, ↓e_aald, ↓e_aast, ↓e_len, ↓e_copy, ↓e_abs, ↓e_max, ↓e_min, ↓e_iret, ↓e_aret, ↓e_vret, ↓e_is0, ↓e_is1, ↓e_is2, ↓e_is3, ↓e_is4, ↓e_iv1, ↓e_iv2, ↓e_iv3, ↓e_iv4, ↓e_iv5, ↓e_iv6, ↓rt_X10_move, ↓reduceIte, Nat.reduceAdd, Nat.reduceEqDiff, ↓zcl0, ↓zclv, List.map_nil, List.sum_nil, List.map_cons, List.sum_cons, zcat, true_and, and_true, Nat.reduceLeDiff, Nat.reduceAdd, eq_self, forall_const, e_ok0, e_okss, e_ok1i, e_ok1r, e_ok1n, zl_m1000000005, zl_m1000000002, zl_m1000000001, zl_3, Int.reduceToNat, Int.reduceAdd, Int.reduceMul, Int.reduceSub, Int.reduceNeg, Int.reduceLT, Int.reduceLE, Int.reduceEq, not_false_eq_true, not_true_eq_false, false_implies, true_implies, implies_true, Int.reduceDiv, Int.reduceMod, zr8_zr, zr_zbo, z01_zbo, z01_0, z01_1, zbo_eq0, zup_eq, zup_o, zup_k, ne_eq, ↓ct_x_move_cbey, ↓r_cbey, ↓B_cbey, ↓ct_x_move_cfail, ↓r_cfail, ↓B_cfail, ↓ct_x_move_sholds, ↓r_sholds, ↓B_sholds, ↓v_0, ↓g_0_0, ↓g_0_1, ↓g_0_2, ↓g_0_3, ↓g_0_4, ↓g_0_5, ↓g_0_6, ↓g_0_7, ↓g_0_8, ↓l_78, ↓s_78, ↓n_78, ↓g_0_9, ↓p_0_9, ↓l_77, zs, zo, hq, hp]
      repeat (refine And.intro (by omega) ?_)
      refine bs_X10_move_39 hX ?_
      simp only [bk_X10_move_0, k_X10_move_0, bk_X10_move_8, k_X10_move_8, bk_X10_move_16, k_X10_move_16, bk_X10_move_23, k_X10_move_23, bk_X10_move_39, k_X10_move_39, bk_X10_move_55, k_X10_move_55, bk_X10_move_62, k_X10_move_62, bk_X10_move_82, k_X10_move_82, bk_X10_move_93, k_X10_move_93, bk_X10_move_105, k_X10_move_105, bk_X10_move_112, k_X10_move_112, ↓e_rk1, ↓e_rk0, ↓e_sk0, ↓e_sks, ↓e_ldi0, ↓e_ldis, ↓e_ldl0, ↓e_ldls, ↓e_lda0, ↓e_ldas, ↓e_ok0, ↓e_okss, ↓e_ok1i, ↓e_ok1r, ↓e_ok1n, ↓e_sti, ↓e_sta, ↓e_1, ↓e_2, ↓e_l1, ↓e_l2, ↓e_li, ↓e_sw0, ↓e_sws, ↓e_ceq, ↓e_cne, ↓e_clt, ↓e_cge, ↓e_cgt, ↓e_cle, ↓e_nil, ↓e_cons, ↓e_iconst, ↓e_bipush, ↓e_sipush, ↓e_ldc, ↓e_ldcw, ↓e_ldc2, ↓e_lconst, ↓e_iloadn, ↓e_iload, ↓e_lloadn, ↓e_lload, ↓e_aloadn, ↓e_aload, ↓e_istoren, ↓e_istore, ↓e_astoren, ↓e_astore, ↓e_add, ↓e_iinc, ↓e_iadd, ↓e_isub, ↓e_imul, ↓e_iand, ↓e_ior, ↓e_ixor, ↓e_ishl, ↓e_iushr, ↓e_idiv, ↓e_irem, ↓e_ineg, ↓e_i2l, ↓e_i2b, ↓e_i2s, ↓e_l2i, ↓e_land, ↓e_lor, ↓e_lshl, ↓e_lshr, ↓e_lushr, ↓e_lcmp, ↓e_dupi, ↓e_dupr, ↓e_popi, ↓e_dup2, ↓e_goto, ↓e_if, ↓e_icmp, ↓e_tsw, ↓e_lsw, ↓e_getf, ↓e_putf, ↓e_gets, ↓e_iald, ↓e_cald, ↓e_iast, ↓e_aald, ↓e_aast, ↓e_len, ↓e_copy, ↓e_abs, ↓e_max, ↓e_min, ↓e_iret, ↓e_aret, ↓e_vret, ↓e_is0, ↓e_is1, ↓e_is2, ↓e_is3, ↓e_is4, ↓e_iv1, ↓e_iv2, ↓e_iv3, ↓e_iv4, ↓e_iv5, ↓e_iv6, ↓rt_X10_move, ↓reduceIte, Nat.reduceAdd, Nat.reduceEqDiff, ↓zcl0, ↓zclv, List.map_nil, List.sum_nil, List.map_cons, List.sum_cons, zcat, true_and, and_true, Nat.reduceLeDiff, Nat.reduceAdd, eq_self, forall_const, e_ok0, e_okss, e_ok1i, e_ok1r, e_ok1n, zl_m1000000005, zl_m1000000002, zl_m1000000001, zl_3, Int.reduceToNat, Int.reduceAdd, Int.reduceMul, Int.reduceSub, Int.reduceNeg, Int.reduceLT, Int.reduceLE, Int.reduceEq, not_false_eq_true, not_true_eq_false, false_implies, true_implies, implies_true, Int.reduceDiv, Int.reduceMod, zr8_zr, zr_zbo, z01_zbo, z01_0, z01_1, zbo_eq0, zup_eq, zup_o, zup_k, ne_eq, ↓ct_x_move_cbey, ↓r_cbey, ↓B_cbey, ↓ct_x_move_cfail, ↓r_cfail, ↓B_cfail, ↓ct_x_move_sholds, ↓r_sholds, ↓B_sholds, ↓v_0, ↓g_0_0, ↓g_0_1, ↓g_0_2, ↓g_0_3, ↓g_0_4, ↓g_0_5, ↓g_0_6, ↓g_0_7, ↓g_0_8, ↓l_78, ↓s_78, ↓n_78, ↓g_0_9, ↓p_0_9, ↓vS hbq, ↓gS_0 hbq, ↓gS_1 hbq, ↓gS_2 hbq, ↓pS_1 hbq, ↓pS_2 hbq, ↓lS_1 hbq, ↓sS_1 hbq, ↓vS hbp, ↓gS_0 hbp, ↓gS_1 hbp, ↓gS_2 hbp, ↓pS_1 hbp, ↓pS_2 hbp, ↓lS_1 hbp, ↓sS_1 hbp, q1, p1, zbs, zbo9]
      repeat' (first | assumption | apply And.intro | intro _)
      all_goals first | (apply J55; omega) | (apply J62; omega)
    have J8 : (0 ≤ s ∧ s ≤ 3) → X 8 [some (.inr (.inr (.inl 0))), some (.inl s), some (.inl i), some (.inl o), some (.inl j), some (.inl n), none, none] [] (zG, M) (0, 0) := by
      intro q
      refine bs_X10_move_8 hX ?_
      simp only [bk_X10_move_0, k_X10_move_0, bk_X10_move_8, k_X10_move_8, bk_X10_move_16, k_X10_move_16, bk_X10_move_23, k_X10_move_23, bk_X10_move_39, k_X10_move_39, bk_X10_move_55, k_X10_move_55, bk_X10_move_62, k_X10_move_62, bk_X10_move_82, k_X10_move_82, bk_X10_move_93, k_X10_move_93, bk_X10_move_105, k_X10_move_105, bk_X10_move_112, k_X10_move_112, ↓e_rk1, ↓e_rk0, ↓e_sk0, ↓e_sks, ↓e_ldi0, ↓e_ldis, ↓e_ldl0, ↓e_ldls, ↓e_lda0, ↓e_ldas, ↓e_ok0, ↓e_okss, ↓e_ok1i, ↓e_ok1r, ↓e_ok1n, ↓e_sti, ↓e_sta, ↓e_1, ↓e_2, ↓e_l1, ↓e_l2, ↓e_li, ↓e_sw0, ↓e_sws, ↓e_ceq, ↓e_cne, ↓e_clt, ↓e_cge, ↓e_cgt, ↓e_cle, ↓e_nil, ↓e_cons, ↓e_iconst, ↓e_bipush, ↓e_sipush, ↓e_ldc, ↓e_ldcw, ↓e_ldc2, ↓e_lconst, ↓e_iloadn, ↓e_iload, ↓e_lloadn, ↓e_lload, ↓e_aloadn, ↓e_aload, ↓e_istoren, ↓e_istore, ↓e_astoren, ↓e_astore, ↓e_add, ↓e_iinc, ↓e_iadd, ↓e_isub, ↓e_imul, ↓e_iand, ↓e_ior, ↓e_ixor, ↓e_ishl, ↓e_iushr, ↓e_idiv, ↓e_irem, ↓e_ineg, ↓e_i2l, ↓e_i2b, ↓e_i2s, ↓e_l2i, ↓e_land, ↓e_lor, ↓e_lshl, ↓e_lshr, ↓e_lushr, ↓e_lcmp, ↓e_dupi, ↓e_dupr, ↓e_popi, ↓e_dup2, ↓e_goto, ↓e_if, ↓e_icmp, ↓e_tsw, ↓e_lsw, ↓e_getf, ↓e_putf, ↓e_gets, ↓e_iald, ↓e_cald, ↓e_iast, ↓e_aald, ↓e_aast, ↓e_len, ↓e_copy, ↓e_abs, ↓e_max, ↓e_min, ↓e_iret, ↓e_aret, ↓e_vret, ↓e_is0, ↓e_is1, ↓e_is2, ↓e_is3, ↓e_is4, ↓e_iv1, ↓e_iv2, ↓e_iv3, ↓e_iv4, ↓e_iv5, ↓e_iv6, ↓rt_X10_move, ↓reduceIte, Nat.reduceAdd, Nat.reduceEqDiff, ↓zcl0, ↓zclv, List.map_nil, List.sum_nil, List.map_cons, List.sum_cons, zcat, true_and, and_true, Nat.reduceLeDiff, Nat.reduceAdd, eq_self, forall_const, e_ok0, e_okss, e_ok1i, e_ok1r, e_ok1n, zl_m1000000005, zl_m1000000002, zl_m1000000001, zl_3, Int.reduceToNat, Int.reduceAdd, Int.reduceMul, Int.reduceSub, Int.reduceNeg, Int.reduceLT, Int.reduceLE, Int.reduceEq, not_false_eq_true, not_true_eq_false, false_implies, true_implies, implies_true, Int.reduceDiv, Int.reduceMod, zr8_zr, zr_zbo, z01_zbo, z01_0, z01_1, zbo_eq0, zup_eq, zup_o, zup_k, ne_eq, ↓ct_x_move_cbey, ↓r_cbey, ↓B_cbey, ↓ct_x_move_cfail, ↓r_cfail, ↓B_cfail, ↓ct_x_move_sholds, ↓r_sholds, ↓B_sholds, ↓v_0, ↓g_0_0, ↓g_0_1, ↓g_0_2, ↓g_0_3, ↓g_0_4, ↓g_0_5, ↓g_0_6, ↓g_0_7, ↓g_0_8, ↓l_78, ↓s_78, ↓n_78, ↓g_0_9, ↓p_0_9, zr_zbo, zbo_eq0]
      repeat' (first | assumption | apply And.intro | intro _)
      all_goals first | omega | (apply J16; omega) | (apply J23; omega)
    simp only [bk_X10_move_0, k_X10_move_0, bk_X10_move_8, k_X10_move_8, bk_X10_move_16, k_X10_move_16, bk_X10_move_23, k_X10_move_23, bk_X10_move_39, k_X10_move_39, bk_X10_move_55, k_X10_move_55, bk_X10_move_62, k_X10_move_62, bk_X10_move_82, k_X10_move_82, bk_X10_move_93, k_X10_move_93, bk_X10_move_105, k_X10_move_105, bk_X10_move_112, k_X10_move_112, ↓e_rk1, ↓e_rk0, ↓e_sk0, ↓e_sks, ↓e_ldi0, ↓e_ldis, ↓e_ldl0, ↓e_ldls, ↓e_lda0, ↓e_ldas, ↓e_ok0, ↓e_okss, ↓e_ok1i, ↓e_ok1r, ↓e_ok1n, ↓e_sti, ↓e_sta, ↓e_1, ↓e_2, ↓e_l1, ↓e_l2, ↓e_li, ↓e_sw0, ↓e_sws, ↓e_ceq, ↓e_cne, ↓e_clt, ↓e_cge, ↓e_cgt, ↓e_cle, ↓e_nil, ↓e_cons, ↓e_iconst, ↓e_bipush, ↓e_sipush, ↓e_ldc, ↓e_ldcw, ↓e_ldc2, ↓e_lconst, ↓e_iloadn, ↓e_iload, ↓e_lloadn, ↓e_lload, ↓e_aloadn, ↓e_aload, ↓e_istoren, ↓e_istore, ↓e_astoren, ↓e_astore, ↓e_add, ↓e_iinc, ↓e_iadd, ↓e_isub, ↓e_imul, ↓e_iand, ↓e_ior, ↓e_ixor, ↓e_ishl, ↓e_iushr, ↓e_idiv, ↓e_irem, ↓e_ineg, ↓e_i2l, ↓e_i2b, ↓e_i2s, ↓e_l2i, ↓e_land, ↓e_lor, ↓e_lshl, ↓e_lshr, ↓e_lushr, ↓e_lcmp, ↓e_dupi, ↓e_dupr, ↓e_popi, ↓e_dup2, ↓e_goto, ↓e_if, ↓e_icmp, ↓e_tsw, ↓e_lsw, ↓e_getf, ↓e_putf, ↓e_gets, ↓e_iald, ↓e_cald, ↓e_iast, ↓e_aald, ↓e_aast, ↓e_len, ↓e_copy, ↓e_abs, ↓e_max, ↓e_min, ↓e_iret, ↓e_aret, ↓e_vret, ↓e_is0, ↓e_is1, ↓e_is2, ↓e_is3, ↓e_is4, ↓e_iv1, ↓e_iv2, ↓e_iv3, ↓e_iv4, ↓e_iv5, ↓e_iv6, ↓rt_X10_move, ↓reduceIte, Nat.reduceAdd, Nat.reduceEqDiff, ↓zcl0, ↓zclv, List.map_nil, List.sum_nil, List.map_cons, List.sum_cons, zcat, true_and, and_true, Nat.reduceLeDiff, Nat.reduceAdd, eq_self, forall_const, e_ok0, e_okss, e_ok1i, e_ok1r, e_ok1n, zl_m1000000005, zl_m1000000002, zl_m1000000001, zl_3, Int.reduceToNat, Int.reduceAdd, Int.reduceMul, Int.reduceSub, Int.reduceNeg, Int.reduceLT, Int.reduceLE, Int.reduceEq, not_false_eq_true, not_true_eq_false, false_implies, true_implies, implies_true, Int.reduceDiv, Int.reduceMod, zr8_zr, zr_zbo, z01_zbo, z01_0, z01_1, zbo_eq0, zup_eq, zup_o, zup_k, ne_eq, ↓ct_x_move_cbey, ↓r_cbey, ↓B_cbey, ↓ct_x_move_cfail, ↓r_cfail, ↓B_cfail, ↓ct_x_move_sholds, ↓r_sholds, ↓B_sholds, ↓v_0, ↓g_0_0, ↓g_0_1, ↓g_0_2, ↓g_0_3, ↓g_0_4, ↓g_0_5, ↓g_0_6, ↓g_0_7, ↓g_0_8, ↓l_78, ↓s_78, ↓n_78, ↓g_0_9, ↓p_0_9, zr_zbo, zbo_eq0]
    repeat' (first | assumption | apply And.intro | intro _)
    all_goals first | omega | (apply J16; omega) | (apply J8; omega)
theorem jdn_s {d f : Nat → Int} {r k : Nat} : jdn d f (r + 1) k = if (k : Int) < d 0 ∧ f k = ei d k 2 then jdn d f r (k + 1) else k := rfl
def B_x_judge (s : Int) (M : Nat → Nat → Int) (post : Option ZV → (Nat → Nat → Int) → Prop) : Prop := rg s ∧ ∃ S : ZMm, Vs S ∧ Rc S M ∧ cp M (R_judge S s) post
def C_x_judge : ZC := fun as h post => match as with
  | [.inr (.inr (.inl 0)), .inl s] => h.1 = zG ∧ B_x_judge s h.2 (fun v M => post v (zG, M))
  | _ => False
theorem r_x_judge {s : Int} {M : Nat → Nat → Int} {post : Option ZV → ZH → Prop} : C_x_judge [.inr (.inr (.inl 0)), .inl s] (zG, M) post = B_x_judge s M (fun v M => post v (zG, M)) := by show (zG = zG ∧ _) = _; simp
def ct_x_judge : Nat → ZC := fun n => if n = 111 then C_cbey else if n = 110 then C_cfail else fun _ _ _ => False
theorem ct_x_judge_cbey {as : List ZV} {h : ZH} {post : Option ZV → ZH → Prop} : ct_x_judge 111 as h post = C_cbey as h post := rfl
theorem ct_x_judge_cfail {as : List ZV} {h : ZH} {post : Option ZV → ZH → Prop} : ct_x_judge 110 as h post = C_cfail as h post := rfl
theorem c_x_judge {E : ZE} {d : Nat} (hd : 2 ≤ d) : zMet E d mX10_judge C_x_judge := by
  refine zmet_of (o := 10) (ini := false) (CT := ct_x_judge) gd_X10_judge rfl (fun h => by cases h) (by omega) ?_ ?_
  · intro n as h post hh
    unfold ct_x_judge at hh
    by_cases c : n = 111
    · subst c; exact ⟨gd_X10_isBeyond, 1, by omega, c_cbey (by omega)⟩
    rw [if_neg c] at hh
    by_cases c : n = 110
    · subst c; exact ⟨gd_X10_failed, 1, by omega, c_cfail (by omega)⟩
    rw [if_neg c] at hh
    exact hh.elim
  intro as h post hC
  match as, hC with
  | [.inr (.inr (.inl 0)), .inl s], hC =>
    refine ⟨Nat.le_of_ble_eq_true rfl, fun X hX => bs_X10_judge_0 hX ?_⟩
    obtain ⟨G, M⟩ := h
    obtain ⟨hG, hC⟩ := hC
    dsimp only at hG
    subst hG
    simp only [B_x_judge] at hC
    show bk_X10_judge_0 E ct_x_judge X _ [some (.inr (.inr (.inl 0))), some (.inl s), none, none, none] [] (zG, M) (0, 0)
    obtain ⟨h1, S, vs9, H, hC⟩ := hC
    have vd : Vd (S 88) := vs9.1
    have n9 := H.1
    have J8 : ¬ (0 ≤ s ∧ s ≤ 3) → X 8 [some (.inr (.inr (.inl 0))), some (.inl s), none, none, none] [] (zG, M) (0, 0) := by
      intro q
      refine bs_X10_judge_8 hX ?_
      simp only [bk_X10_judge_0, k_X10_judge_0, bk_X10_judge_8, k_X10_judge_8, bk_X10_judge_15, k_X10_judge_15, bk_X10_judge_22, k_X10_judge_22, bk_X10_judge_36, k_X10_judge_36, bk_X10_judge_54, k_X10_judge_54, bk_X10_judge_57, k_X10_judge_57, bk_X10_judge_63, k_X10_judge_63, bk_X10_judge_89, k_X10_judge_89, bk_X10_judge_95, k_X10_judge_95, bk_X10_judge_116, k_X10_judge_116, bk_X10_judge_117, k_X10_judge_117, ↓e_rk1, ↓e_rk0, ↓e_sk0, ↓e_sks, ↓e_ldi0, ↓e_ldis, ↓e_ldl0, ↓e_ldls, ↓e_lda0, ↓e_ldas, ↓e_ok0, ↓e_okss, ↓e_ok1i, ↓e_ok1r, ↓e_ok1n, ↓e_sti, ↓e_sta, ↓e_1, ↓e_2, ↓e_l1, ↓e_l2, ↓e_li, ↓e_sw0, ↓e_sws, ↓e_ceq, ↓e_cne, ↓e_clt, ↓e_cge, ↓e_cgt, ↓e_cle, ↓e_nil, ↓e_cons, ↓e_iconst, ↓e_bipush, ↓e_sipush, ↓e_ldc, ↓e_ldcw, ↓e_ldc2, ↓e_lconst, ↓e_iloadn, ↓e_iload, ↓e_lloadn, ↓e_lload, ↓e_aloadn, ↓e_aload, ↓e_istoren, ↓e_istore, ↓e_astoren, ↓e_astore, ↓e_add, ↓e_iinc, ↓e_iadd, ↓e_isub, ↓e_imul, ↓e_iand, ↓e_ior, ↓e_ixor, ↓e_ishl, ↓e_iushr, ↓e_idiv, ↓e_irem, ↓e_ineg, ↓e_i2l, ↓e_i2b, ↓e_i2s, ↓e_l2i, ↓e_land, ↓e_lor, ↓e_lshl, ↓e_lshr, ↓e_lushr, ↓e_lcmp, ↓e_dupi, ↓e_dupr, ↓e_popi, ↓e_dup2, ↓e_goto, ↓e_if, ↓e_icmp, ↓e_tsw, ↓e_lsw, ↓e_getf, ↓e_putf, ↓e_gets, ↓e_iald, ↓e_cald, ↓e_iast, ↓e_aald, ↓e_aast, ↓e_len, ↓e_copy, ↓e_abs, ↓e_max, ↓e_min, ↓e_iret, ↓e_aret, ↓e_vret, ↓e_is0, ↓e_is1, ↓e_is2, ↓e_is3, ↓e_is4, ↓e_iv1, ↓e_iv2, ↓e_iv3, ↓e_iv4, ↓e_iv5, ↓e_iv6, ↓rt_X10_judge, ↓reduceIte, Nat.reduceAdd, Nat.reduceEqDiff, ↓zcl0, ↓zclv, List.map_nil, List.sum_nil, List.map_cons, List.sum_cons, zcat, true_and, and_true, Nat.reduceLeDiff, Nat.reduceAdd, eq_self, forall_const, e_ok0, e_okss, e_ok1i, e_ok1r, e_ok1n, zl_m1000000002, zl_m1000000001, zl_m1, zl_0, zl_3, Int.reduceToNat, Int.reduceAdd, Int.reduceMul, Int.reduceSub, Int.reduceNeg, Int.reduceLT, Int.reduceLE, Int.reduceEq, not_false_eq_true, not_true_eq_false, false_implies, true_implies, implies_true, Int.reduceDiv, Int.reduceMod, zr8_zr, zr_zbo, z01_zbo, z01_0, z01_1, zbo_eq0, zup_eq, zup_o, zup_k, ne_eq, ↓ct_x_judge_cbey, ↓r_cbey, ↓B_cbey, ↓ct_x_judge_cfail, ↓r_cfail, ↓B_cfail, ↓v_0, ↓g_0_0, ↓g_0_1, ↓g_0_2, ↓g_0_3, ↓g_0_4, ↓g_0_5, ↓g_0_6, ↓g_0_7, ↓g_0_8, ↓l_78, ↓s_78, ↓n_78, ↓g_0_9, ↓p_0_9]
      exact ⟨1, by omega, by omega, cp_no hC H vd (by omega) (by unfold R_judge; rw [if_neg (by omega)]) rfl⟩
    have sh := H.2.2.2.2.2
    have v0 := vd.1
    have hr := vs9.2.2.2.2.2.2.1
    have zs : zr s = s := zr_rg h1
    have e0 : M 10 3 = S 88 0 := n9.2.1.1
    have z0 : zr (S 88 0) = S 88 0 := zr_of (by omega) (by omega)
    have J15 : (0 ≤ s ∧ s ≤ 3) → X 15 [some (.inr (.inr (.inl 0))), some (.inl s), none, none, none] [] (zG, M) (0, 0) := by
      intro q
      obtain ⟨qr, hq, hbq, qb, q1, q2, q3⟩ := shq sh q
      obtain ⟨bs, z1, z2⟩ := vs9.2.2.2.2.2.1 s.toNat (by omega)
      have zb : zr (S 98 s.toNat) = S 98 s.toNat := zr_of (by omega) (by omega)
      obtain ⟨F, hF⟩ : ∃ F : Nat → Int, shf9 S s = F := ⟨_, rfl⟩
      have F9 : ∀ k, S 100 (40 * s.toNat + k) = F k := fun k => by
        rw [← hF]
        unfold shf9
        rw [show (40 * s).toNat = 40 * s.toNat by omega]
      obtain ⟨n, hn⟩ : ∃ n : Nat, S 99 s.toNat = n := ⟨(S 99 s.toNat).toNat, by omega⟩
      have hnn : (S 99 s.toNat).toNat = n := by omega
      have zn : zr (n : Int) = n := zr_of (by omega) (by omega)
      rw [hn] at q2
      obtain ⟨m, hm⟩ : ∃ m : Nat, S 88 0 = m := ⟨(S 88 0).toNat, by omega⟩
      rw [hm] at e0 z0
      have J36 : ¬ S 98 s.toNat = 0 → X 36 [some (.inr (.inr (.inl 0))), some (.inl s), some (.inr (.inr (.inl qr))), none, none] [] (zG, M) (0, 0) := by
        intro c1
        have b3 : S 98 s.toNat = 8 ∨ S 98 s.toNat = 16 ∨ S 98 s.toNat = 32 := by omega
        have er : ∀ k : Nat, k = jdn (S 88) F n 0 → R_judge S s = ((if (k : Int) = n ∧ (k : Int) = m then -1 else (k : Int)), S) := by
          intro k hk
          have hj : jds S s = k := by
            unfold jds
            rw [hF, hnn, ← hk]
          unfold R_judge
          rw [if_pos q, if_neg c1, hj, hn, hm]
        obtain ⟨b, hb9⟩ : ∃ b : Nat, b = min n m := ⟨_, rfl⟩
        have eb : (if (n : Int) < (m : Int) then (n : Int) else (m : Int)) = (b : Int) := by
          rw [hb9]
          split <;> omega
        have eb2 : (if (m : Int) < (n : Int) then (m : Int) else (n : Int)) = (b : Int) := by
          rw [hb9]
          split <;> omega
        have zb9 : zr (b : Int) = b := zr_of (by omega) (by omega)
        have lp : ∀ (t k : Nat), t + k = b → jdn (S 88) F (n - k) k = jdn (S 88) F n 0 → X 57 [some (.inr (.inr (.inl 0))), some (.inl s), some (.inr (.inr (.inl qr))), some (.inl (b : Int)), some (.inl (k : Int))] [] (zG, M) (0, 0) := by
          intro t
          induction t with
          | zero =>
            intro k hk hx
            refine bs_X10_judge_57 hX ?_
            have zk : zr (k : Int) = k := zr_of (by omega) (by omega)
            have lk : ((k : Int) < b) = False := eq_false (by omega)
            simp only [bk_X10_judge_0, k_X10_judge_0, bk_X10_judge_8, k_X10_judge_8, bk_X10_judge_15, k_X10_judge_15, bk_X10_judge_22, k_X10_judge_22, bk_X10_judge_36, k_X10_judge_36, bk_X10_judge_54, k_X10_judge_54, bk_X10_judge_57, k_X10_judge_57, bk_X10_judge_63, k_X10_judge_63, bk_X10_judge_89, k_X10_judge_89, bk_X10_judge_95, k_X10_judge_95, bk_X10_judge_116, k_X10_judge_116, bk_X10_judge_117, k_X10_judge_117, ↓e_rk1, ↓e_rk0, ↓e_sk0, ↓e_sks, ↓e_ldi0, ↓e_ldis, ↓e_ldl0, ↓e_ldls, ↓e_lda0, ↓e_ldas, ↓e_ok0, ↓e_okss, ↓e_ok1i, ↓e_ok1r, ↓e_ok1n, ↓e_sti, ↓e_sta, ↓e_1, ↓e_2, ↓e_l1, ↓e_l2, ↓e_li, ↓e_sw0, ↓e_sws, ↓e_ceq, ↓e_cne, ↓e_clt, ↓e_cge, ↓e_cgt, ↓e_cle, ↓e_nil, ↓e_cons, ↓e_iconst, ↓e_bipush, ↓e_sipush, ↓e_ldc, ↓e_ldcw, ↓e_ldc2, ↓e_lconst, ↓e_iloadn, ↓e_iload, ↓e_lloadn, ↓e_lload, ↓e_aloadn, ↓e_aload, ↓e_istoren, ↓e_istore, ↓e_astoren, ↓e_astore, ↓e_add, ↓e_iinc, ↓e_iadd, ↓e_isub, ↓e_imul, ↓e_iand, ↓e_ior, ↓e_ixor, ↓e_ishl, ↓e_iushr, ↓e_idiv, ↓e_irem, ↓e_ineg, ↓e_i2l, ↓e_i2b, ↓e_i2s, ↓e_l2i, ↓e_land, ↓e_lor, ↓e_lshl, ↓e_lshr, ↓e_lushr, ↓e_lcmp, ↓e_dupi, ↓e_dupr, ↓e_popi, ↓e_dup2, ↓e_goto, ↓e_if, ↓e_icmp, ↓e_tsw, ↓e_lsw, ↓e_getf, ↓e_putf, ↓e_gets, ↓e_iald, ↓e_cald, ↓e_iast, ↓e_aald, ↓e_aast, ↓e_len, ↓e_copy, ↓e_abs, ↓e_max, ↓e_min, ↓e_iret, ↓e_aret, ↓e_vret, ↓e_is0, ↓e_is1, ↓e_is2, ↓e_is3, ↓e_is4, ↓e_iv1, ↓e_iv2, ↓e_iv3, ↓e_iv4, ↓e_iv5, ↓e_iv6, ↓rt_X10_judge, ↓reduceIte, Nat.reduceAdd, Nat.reduceEqDiff, ↓zcl0, ↓zclv, List.map_nil, List.sum_nil, List.map_cons, List.sum_cons, zcat, true_and, and_true, Nat.reduceLeDiff, Nat.reduceAdd, eq_self, forall_const, e_ok0, e_okss, e_ok1i, e_ok1r, e_ok1n, zl_m1000000002, zl_m1000000001, zl_m1, zl_0, zl_3, Int.reduceToNat, Int.reduceAdd, Int.reduceMul, Int.reduceSub, Int.reduceNeg, Int.reduceLT, Int.reduceLE, Int.reduceEq, not_false_eq_true, not_true_eq_false, false_implies, true_implies, implies_true, Int.reduceDiv, Int.reduceMod, zr8_zr, zr_zbo, z01_zbo, z01_0, z01_1, zbo_eq0, zup_eq, zup_o, zup_k, ne_eq, ↓ct_x_judge_cbey, ↓r_cbey, ↓B_cbey, ↓ct_x_judge_cfail, ↓r_cfail, ↓B_cfail, ↓v_0, ↓g_0_0, ↓g_0_1, ↓g_0_2, ↓g_0_3, ↓g_0_4, ↓g_0_5, ↓g_0_6, ↓g_0_7, ↓g_0_8, ↓l_78, ↓s_78, ↓n_78, ↓g_0_9, ↓p_0_9, zk, zb9, lk]
            refine bs_X10_judge_95 hX ?_
            have ek : k = b := by omega
            subst ek
            have jk : k = jdn (S 88) F n 0 := by
              rw [← hx]
              by_cases kn : n - k = 0
              · rw [kn]; rfl
              · obtain ⟨r, hr9⟩ : ∃ r, n - k = r + 1 := ⟨n - k - 1, by omega⟩
                rw [hr9, jdn_s, if_neg (by omega)]
            have er9 := er k jk
            simp only [bk_X10_judge_0, k_X10_judge_0, bk_X10_judge_8, k_X10_judge_8, bk_X10_judge_15, k_X10_judge_15, bk_X10_judge_22, k_X10_judge_22, bk_X10_judge_36, k_X10_judge_36, bk_X10_judge_54, k_X10_judge_54, bk_X10_judge_57, k_X10_judge_57, bk_X10_judge_63, k_X10_judge_63, bk_X10_judge_89, k_X10_judge_89, bk_X10_judge_95, k_X10_judge_95, bk_X10_judge_116, k_X10_judge_116, bk_X10_judge_117, k_X10_judge_117, ↓e_rk1, ↓e_rk0, ↓e_sk0, ↓e_sks, ↓e_ldi0, ↓e_ldis, ↓e_ldl0, ↓e_ldls, ↓e_lda0, ↓e_ldas, ↓e_ok0, ↓e_okss, ↓e_ok1i, ↓e_ok1r, ↓e_ok1n, ↓e_sti, ↓e_sta, ↓e_1, ↓e_2, ↓e_l1, ↓e_l2, ↓e_li, ↓e_sw0, ↓e_sws, ↓e_ceq, ↓e_cne, ↓e_clt, ↓e_cge, ↓e_cgt, ↓e_cle, ↓e_nil, ↓e_cons, ↓e_iconst, ↓e_bipush, ↓e_sipush, ↓e_ldc, ↓e_ldcw, ↓e_ldc2, ↓e_lconst, ↓e_iloadn, ↓e_iload, ↓e_lloadn, ↓e_lload, ↓e_aloadn, ↓e_aload, ↓e_istoren, ↓e_istore, ↓e_astoren, ↓e_astore, ↓e_add, ↓e_iinc, ↓e_iadd, ↓e_isub, ↓e_imul, ↓e_iand, ↓e_ior, ↓e_ixor, ↓e_ishl, ↓e_iushr, ↓e_idiv, ↓e_irem, ↓e_ineg, ↓e_i2l, ↓e_i2b, ↓e_i2s, ↓e_l2i, ↓e_land, ↓e_lor, ↓e_lshl, ↓e_lshr, ↓e_lushr, ↓e_lcmp, ↓e_dupi, ↓e_dupr, ↓e_popi, ↓e_dup2, ↓e_goto, ↓e_if, ↓e_icmp, ↓e_tsw, ↓e_lsw, ↓e_getf, ↓e_putf, ↓e_gets, ↓e_iald, ↓e_cald, ↓e_iast, ↓e_aald, ↓e_aast, ↓e_len, ↓e_copy, ↓e_abs, ↓e_max, ↓e_min, ↓e_iret, ↓e_aret, ↓e_vret, ↓e_is0, ↓e_is1, ↓e_is2, ↓e_is3, ↓e_is4, ↓e_iv1, ↓e_iv2, ↓e_iv3, ↓e_iv4, ↓e_iv5, ↓e_iv6, ↓rt_X10_judge, ↓reduceIte, Nat.reduceAdd, Nat.reduceEqDiff, ↓zcl0, ↓zclv, List.map_nil, List.sum_nil, List.map_cons, List.sum_cons, zcat, true_and, and_true, Nat.reduceLeDiff, Nat.reduceAdd, eq_self, forall_const, e_ok0, e_okss, e_ok1i, e_ok1r, e_ok1n, zl_m1000000002, zl_m1000000001, zl_m1, zl_0, zl_3, Int.reduceToNat, Int.reduceAdd, Int.reduceMul, Int.reduceSub, Int.reduceNeg, Int.reduceLT, Int.reduceLE, Int.reduceEq, not_false_eq_true, not_true_eq_false, false_implies, true_implies, implies_true, Int.reduceDiv, Int.reduceMod, zr8_zr, zr_zbo, z01_zbo, z01_0, z01_1, zbo_eq0, zup_eq, zup_o, zup_k, ne_eq, ↓ct_x_judge_cbey, ↓r_cbey, ↓B_cbey, ↓ct_x_judge_cfail, ↓r_cfail, ↓B_cfail, ↓v_0, ↓g_0_0, ↓g_0_1, ↓g_0_2, ↓g_0_3, ↓g_0_4, ↓g_0_5, ↓g_0_6, ↓g_0_7, ↓g_0_8, ↓l_78, ↓s_78, ↓n_78, ↓g_0_9, ↓p_0_9, ↓v_1, ↓g_1_0, ↓g_1_1, ↓g_1_2, ↓g_1_3, ↓g_1_4, ↓g_1_5, ↓g_1_6, ↓p_1_6, ↓v_10, ↓g_10_0, ↓l_11, ↓s_11, ↓n_11, ↓g_10_1, ↓l_12, ↓s_12, ↓n_12, ↓g_10_2, ↓l_13, ↓s_13, ↓n_13, ↓g_10_3, ↓p_10_3, ↓vS hbq, ↓gS_0 hbq, ↓gS_1 hbq, ↓gS_2 hbq, ↓pS_1 hbq, ↓pS_2 hbq, ↓lS_1 hbq, ↓sS_1 hbq, q2, e0, z0, zn]
            repeat' (first | assumption | apply And.intro | intro _)
            all_goals first | (refine cp_id hC H ?_; rw [er9, if_pos (by omega)]) | (refine cp_id hC H ?_; rw [er9, if_neg (by omega)])
          | succ t ih =>
            intro k hk hx
            refine bs_X10_judge_57 hX ?_
            have zk : zr (k : Int) = k := zr_of (by omega) (by omega)
            have lk : ((k : Int) < b) = True := eq_true (by omega)
            obtain ⟨c3, s3⟩ := q3 k (by omega)
            rw [F9 k] at c3 s3
            have rF : rg (F k) := by rw [← F9 k]; exact hr _
            have rC := cvt_rg (b := S 98 s.toNat) rF
            have cs : M 13 k = ei (S 88) k 2 := (n9.2.1.e (e := k) (by omega) (by omega)).2.2
            have sb := (Vd_ei vd (e := k) (by omega) (by omega)).2.2
            have zsd : zr (ei (S 88) k 2) = ei (S 88) k 2 := zr_of (by omega) (by omega)
            have ce := cvt_eq b3 s3 (a := ei (S 88) k 2) (by omega)
            rw [show n - k = (n - (k + 1)) + 1 by omega, jdn_s] at hx
            simp only [bk_X10_judge_0, k_X10_judge_0, bk_X10_judge_8, k_X10_judge_8, bk_X10_judge_15, k_X10_judge_15, bk_X10_judge_22, k_X10_judge_22, bk_X10_judge_36, k_X10_judge_36, bk_X10_judge_54, k_X10_judge_54, bk_X10_judge_57, k_X10_judge_57, bk_X10_judge_63, k_X10_judge_63, bk_X10_judge_89, k_X10_judge_89, bk_X10_judge_95, k_X10_judge_95, bk_X10_judge_116, k_X10_judge_116, bk_X10_judge_117, k_X10_judge_117, ↓e_rk1, ↓e_rk0, ↓e_sk0, ↓e_sks, ↓e_ldi0, ↓e_ldis, ↓e_ldl0, ↓e_ldls, ↓e_lda0, ↓e_ldas, ↓e_ok0, ↓e_okss, ↓e_ok1i, ↓e_ok1r, ↓e_ok1n, ↓e_sti, ↓e_sta, ↓e_1, ↓e_2, ↓e_l1, ↓e_l2, ↓e_li, ↓e_sw0, ↓e_sws, ↓e_ceq, ↓e_cne, ↓e_clt, ↓e_cge, ↓e_cgt, ↓e_cle, ↓e_nil, ↓e_cons, ↓e_iconst, ↓e_bipush, ↓e_sipush, ↓e_ldc, ↓e_ldcw, ↓e_ldc2, ↓e_lconst, ↓e_iloadn, ↓e_iload, ↓e_lloadn, ↓e_lload, ↓e_aloadn, ↓e_aload, ↓e_istoren, ↓e_istore, ↓e_astoren, ↓e_astore, ↓e_add, ↓e_iinc, ↓e_iadd, ↓e_isub, ↓e_imul, ↓e_iand, ↓e_ior, ↓e_ixor, ↓e_ishl, ↓e_iushr, ↓e_idiv, ↓e_irem, ↓e_ineg, ↓e_i2l, ↓e_i2b, ↓e_i2s, ↓e_l2i, ↓e_land, ↓e_lor, ↓e_lshl, ↓e_lshr, ↓e_lushr, ↓e_lcmp, ↓e_dupi, ↓e_dupr, ↓e_popi, ↓e_dup2, ↓e_goto, ↓e_if, ↓e_icmp, ↓e_tsw, ↓e_lsw, ↓e_getf, ↓e_putf, ↓e_gets, ↓e_iald, ↓e_cald, ↓e_iast, ↓e_aald, ↓e_aast, ↓e_len, ↓e_copy, ↓e_abs, ↓e_max, ↓e_min, ↓e_iret, ↓e_aret, ↓e_vret, ↓e_is0, ↓e_is1, ↓e_is2, ↓e_is3, ↓e_is4, ↓e_iv1, ↓e_iv2, ↓e_iv3, ↓e_iv4, ↓e_iv5, ↓e_iv6, ↓rt_X10_judge, ↓reduceIte, Nat.reduceAdd, Nat.reduceEqDiff, ↓zcl0, ↓zclv, List.map_nil, List.sum_nil, List.map_cons, List.sum_cons, zcat, true_and, and_true, Nat.reduceLeDiff, Nat.reduceAdd, eq_self, forall_const, e_ok0, e_okss, e_ok1i, e_ok1r, e_ok1n, zl_m1000000002, zl_m1000000001, zl_m1, zl_0, zl_3, Int.reduceToNat, Int.reduceAdd, Int.reduceMul, Int.reduceSub, Int.reduceNeg, Int.reduceLT, Int.reduceLE, Int.reduceEq, not_false_eq_true, not_true_eq_false, false_implies, true_implies, implies_true, Int.reduceDiv, Int.reduceMod, zr8_zr, zr_zbo, z01_zbo, z01_0, z01_1, zbo_eq0, zup_eq, zup_o, zup_k, ne_eq, ↓ct_x_judge_cbey, ↓r_cbey, ↓B_cbey, ↓ct_x_judge_cfail, ↓r_cfail, ↓B_cfail, ↓v_0, ↓g_0_0, ↓g_0_1, ↓g_0_2, ↓g_0_3, ↓g_0_4, ↓g_0_5, ↓g_0_6, ↓g_0_7, ↓g_0_8, ↓l_78, ↓s_78, ↓n_78, ↓g_0_9, ↓p_0_9, zk, zb9, lk]
            refine bs_X10_judge_63 hX ?_
            simp only [bk_X10_judge_0, k_X10_judge_0, bk_X10_judge_8, k_X10_judge_8, bk_X10_judge_15, k_X10_judge_15, bk_X10_judge_22, k_X10_judge_22, bk_X10_judge_36, k_X10_judge_36, bk_X10_judge_54, k_X10_judge_54, bk_X10_judge_57, k_X10_judge_57, bk_X10_judge_63, k_X10_judge_63, bk_X10_judge_89, k_X10_judge_89, bk_X10_judge_95, k_X10_judge_95, bk_X10_judge_116, k_X10_judge_116, bk_X10_judge_117, k_X10_judge_117, ↓e_rk1, ↓e_rk0, ↓e_sk0, ↓e_sks, ↓e_ldi0, ↓e_ldis, ↓e_ldl0, ↓e_ldls, ↓e_lda0, ↓e_ldas, ↓e_ok0, ↓e_okss, ↓e_ok1i, ↓e_ok1r, ↓e_ok1n, ↓e_sti, ↓e_sta, ↓e_1, ↓e_2, ↓e_l1, ↓e_l2, ↓e_li, ↓e_sw0, ↓e_sws, ↓e_ceq, ↓e_cne, ↓e_clt, ↓e_cge, ↓e_cgt, ↓e_cle, ↓e_nil, ↓e_cons, ↓e_iconst, ↓e_bipush, ↓e_sipush, ↓e_ldc, ↓e_ldcw, ↓e_ldc2, ↓e_lconst, ↓e_iloadn, ↓e_iload, ↓e_lloadn, ↓e_lload, ↓e_aloadn, ↓e_aload, ↓e_istoren, ↓e_istore, ↓e_astoren, ↓e_astore, ↓e_add, ↓e_iinc, ↓e_iadd, ↓e_isub, ↓e_imul, ↓e_iand, ↓e_ior, ↓e_ixor, ↓e_ishl, ↓e_iushr, ↓e_idiv, ↓e_irem, ↓e_ineg, ↓e_i2l, ↓e_i2b, ↓e_i2s, ↓e_l2i, ↓e_land, ↓e_lor, ↓e_lshl, ↓e_lshr, ↓e_lushr, ↓e_lcmp, ↓e_dupi, ↓e_dupr, ↓e_popi, ↓e_dup2, ↓e_goto, ↓e_if, ↓e_icmp, ↓e_tsw, ↓e_lsw, ↓e_getf, ↓e_putf, ↓e_gets, ↓e_iald, ↓e_cald, ↓e_iast, ↓e_aald, ↓e_aast, ↓e_len, ↓e_copy, ↓e_abs, ↓e_max, ↓e_min, ↓e_iret, ↓e_aret, ↓e_vret, ↓e_is0, ↓e_is1, ↓e_is2, ↓e_is3, ↓e_is4, ↓e_iv1, ↓e_iv2, ↓e_iv3, ↓e_iv4, ↓e_iv5, ↓e_iv6, ↓rt_X10_judge, ↓reduceIte, Nat.reduceAdd, Nat.reduceEqDiff, ↓zcl0, ↓zclv, List.map_nil, List.sum_nil, List.map_cons, List.sum_cons, zcat, true_and, and_true, Nat.reduceLeDiff, Nat.reduceAdd, eq_self, forall_const, e_ok0, e_okss, e_ok1i, e_ok1r, e_ok1n, zl_m1000000002, zl_m1000000001, zl_m1, zl_0, zl_3, Int.reduceToNat, Int.reduceAdd, Int.reduceMul, Int.reduceSub, Int.reduceNeg, Int.reduceLT, Int.reduceLE, Int.reduceEq, not_false_eq_true, not_true_eq_false, false_implies, true_implies, implies_true, Int.reduceDiv, Int.reduceMod, zr8_zr, zr_zbo, z01_zbo, z01_0, z01_1, zbo_eq0, zup_eq, zup_o, zup_k, ne_eq, ↓ct_x_judge_cbey, ↓r_cbey, ↓B_cbey, ↓ct_x_judge_cfail, ↓r_cfail, ↓B_cfail, ↓v_0, ↓g_0_0, ↓g_0_1, ↓g_0_2, ↓g_0_3, ↓g_0_4, ↓g_0_5, ↓g_0_6, ↓g_0_7, ↓g_0_8, ↓l_78, ↓s_78, ↓n_78, ↓g_0_9, ↓p_0_9, ↓v_1, ↓g_1_0, ↓g_1_1, ↓g_1_2, ↓g_1_3, ↓g_1_4, ↓g_1_5, ↓g_1_6, ↓p_1_6, ↓v_10, ↓g_10_0, ↓l_11, ↓s_11, ↓n_11, ↓g_10_1, ↓l_12, ↓s_12, ↓n_12, ↓g_10_2, ↓l_13, ↓s_13, ↓n_13, ↓g_10_3, ↓p_10_3, ↓vS hbq, ↓gS_0 hbq, ↓gS_1 hbq, ↓gS_2 hbq, ↓pS_1 hbq, ↓pS_2 hbq, ↓lS_1 hbq, ↓sS_1 hbq, zk, Int.toNat_natCast, c3, cs, zr_rg, rC, zsd]
            have J89 : cvt (S 98 s.toNat) (F k) = ei (S 88) k 2 → X 89 [some (.inr (.inr (.inl 0))), some (.inl s), some (.inr (.inr (.inl qr))), some (.inl (b : Int)), some (.inl (k : Int))] [] (zG, M) (0, 0) := by
              intro c9
              rw [if_pos ⟨by omega, ce.mp c9⟩] at hx
              refine bs_X10_judge_89 hX ?_
              simp only [bk_X10_judge_0, k_X10_judge_0, bk_X10_judge_8, k_X10_judge_8, bk_X10_judge_15, k_X10_judge_15, bk_X10_judge_22, k_X10_judge_22, bk_X10_judge_36, k_X10_judge_36, bk_X10_judge_54, k_X10_judge_54, bk_X10_judge_57, k_X10_judge_57, bk_X10_judge_63, k_X10_judge_63, bk_X10_judge_89, k_X10_judge_89, bk_X10_judge_95, k_X10_judge_95, bk_X10_judge_116, k_X10_judge_116, bk_X10_judge_117, k_X10_judge_117, ↓e_rk1, ↓e_rk0, ↓e_sk0, ↓e_sks, ↓e_ldi0, ↓e_ldis, ↓e_ldl0, ↓e_ldls, ↓e_lda0, ↓e_ldas, ↓e_ok0, ↓e_okss, ↓e_ok1i, ↓e_ok1r, ↓e_ok1n, ↓e_sti, ↓e_sta, ↓e_1, ↓e_2, ↓e_l1, ↓e_l2, ↓e_li, ↓e_sw0, ↓e_sws, ↓e_ceq, ↓e_cne, ↓e_clt, ↓e_cge, ↓e_cgt, ↓e_cle, ↓e_nil, ↓e_cons, ↓e_iconst, ↓e_bipush, ↓e_sipush, ↓e_ldc, ↓e_ldcw, ↓e_ldc2, ↓e_lconst, ↓e_iloadn, ↓e_iload, ↓e_lloadn, ↓e_lload, ↓e_aloadn, ↓e_aload, ↓e_istoren, ↓e_istore, ↓e_astoren, ↓e_astore, ↓e_add, ↓e_iinc, ↓e_iadd, ↓e_isub, ↓e_imul, ↓e_iand, ↓e_ior, ↓e_ixor, ↓e_ishl, ↓e_iushr, ↓e_idiv, ↓e_irem, ↓e_ineg, ↓e_i2l, ↓e_i2b, ↓e_i2s, ↓e_l2i, ↓e_land, ↓e_lor, ↓e_lshl, ↓e_lshr, ↓e_lushr, ↓e_lcmp, ↓e_dupi, ↓e_dupr, ↓e_popi, ↓e_dup2, ↓e_goto, ↓e_if, ↓e_icmp, ↓e_tsw, ↓e_lsw, ↓e_getf, ↓e_putf, ↓e_gets, ↓e_iald, ↓e_cald, ↓e_iast, ↓e_aald, ↓e_aast, ↓e_len, ↓e_copy, ↓e_abs, ↓e_max, ↓e_min, ↓e_iret, ↓e_aret, ↓e_vret, ↓e_is0, ↓e_is1, ↓e_is2, ↓e_is3, ↓e_is4, ↓e_iv1, ↓e_iv2, ↓e_iv3, ↓e_iv4, ↓e_iv5, ↓e_iv6, ↓rt_X10_judge, ↓reduceIte, Nat.reduceAdd, Nat.reduceEqDiff, ↓zcl0, ↓zclv, List.map_nil, List.sum_nil, List.map_cons, List.sum_cons, zcat, true_and, and_true, Nat.reduceLeDiff, Nat.reduceAdd, eq_self, forall_const, e_ok0, e_okss, e_ok1i, e_ok1r, e_ok1n, zl_m1000000002, zl_m1000000001, zl_m1, zl_0, zl_3, Int.reduceToNat, Int.reduceAdd, Int.reduceMul, Int.reduceSub, Int.reduceNeg, Int.reduceLT, Int.reduceLE, Int.reduceEq, not_false_eq_true, not_true_eq_false, false_implies, true_implies, implies_true, Int.reduceDiv, Int.reduceMod, zr8_zr, zr_zbo, z01_zbo, z01_0, z01_1, zbo_eq0, zup_eq, zup_o, zup_k, ne_eq, ↓ct_x_judge_cbey, ↓r_cbey, ↓B_cbey, ↓ct_x_judge_cfail, ↓r_cfail, ↓B_cfail, ↓v_0, ↓g_0_0, ↓g_0_1, ↓g_0_2, ↓g_0_3, ↓g_0_4, ↓g_0_5, ↓g_0_6, ↓g_0_7, ↓g_0_8, ↓l_78, ↓s_78, ↓n_78, ↓g_0_9, ↓p_0_9]
              exact ih (k + 1) (by omega) hx
            have fin : ¬ cvt (S 98 s.toNat) (F k) = ei (S 88) k 2 → post (some (.inl (k : Int))) (zG, M) := by
              intro c9
              rw [if_neg (fun h9 => c9 (ce.mpr h9.2))] at hx
              refine cp_id hC H ?_
              rw [er k hx, if_neg (by omega)]
            refine ⟨by omega, by omega, by omega, by omega, fun c9 => ?_, fun c9 => ?_⟩
            · first | exact J89 c9 | exact fin c9
            · first | exact J89 c9 | exact fin c9
        refine bs_X10_judge_36 hX ?_
        simp only [bk_X10_judge_0, k_X10_judge_0, bk_X10_judge_8, k_X10_judge_8, bk_X10_judge_15, k_X10_judge_15, bk_X10_judge_22, k_X10_judge_22, bk_X10_judge_36, k_X10_judge_36, bk_X10_judge_54, k_X10_judge_54, bk_X10_judge_57, k_X10_judge_57, bk_X10_judge_63, k_X10_judge_63, bk_X10_judge_89, k_X10_judge_89, bk_X10_judge_95, k_X10_judge_95, bk_X10_judge_116, k_X10_judge_116, bk_X10_judge_117, k_X10_judge_117, ↓e_rk1, ↓e_rk0, ↓e_sk0, ↓e_sks, ↓e_ldi0, ↓e_ldis, ↓e_ldl0, ↓e_ldls, ↓e_lda0, ↓e_ldas, ↓e_ok0, ↓e_okss, ↓e_ok1i, ↓e_ok1r, ↓e_ok1n, ↓e_sti, ↓e_sta, ↓e_1, ↓e_2, ↓e_l1, ↓e_l2, ↓e_li, ↓e_sw0, ↓e_sws, ↓e_ceq, ↓e_cne, ↓e_clt, ↓e_cge, ↓e_cgt, ↓e_cle, ↓e_nil, ↓e_cons, ↓e_iconst, ↓e_bipush, ↓e_sipush, ↓e_ldc, ↓e_ldcw, ↓e_ldc2, ↓e_lconst, ↓e_iloadn, ↓e_iload, ↓e_lloadn, ↓e_lload, ↓e_aloadn, ↓e_aload, ↓e_istoren, ↓e_istore, ↓e_astoren, ↓e_astore, ↓e_add, ↓e_iinc, ↓e_iadd, ↓e_isub, ↓e_imul, ↓e_iand, ↓e_ior, ↓e_ixor, ↓e_ishl, ↓e_iushr, ↓e_idiv, ↓e_irem, ↓e_ineg, ↓e_i2l, ↓e_i2b, ↓e_i2s, ↓e_l2i, ↓e_land, ↓e_lor, ↓e_lshl, ↓e_lshr, ↓e_lushr, ↓e_lcmp, ↓e_dupi, ↓e_dupr, ↓e_popi, ↓e_dup2, ↓e_goto, ↓e_if, ↓e_icmp, ↓e_tsw, ↓e_lsw, ↓e_getf, ↓e_putf, ↓e_gets, ↓e_iald, ↓e_cald, ↓e_iast, ↓e_aald, ↓e_aast, ↓e_len, ↓e_copy, ↓e_abs, ↓e_max, ↓e_min, ↓e_iret, ↓e_aret, ↓e_vret, ↓e_is0, ↓e_is1, ↓e_is2, ↓e_is3, ↓e_is4, ↓e_iv1, ↓e_iv2, ↓e_iv3, ↓e_iv4, ↓e_iv5, ↓e_iv6, ↓rt_X10_judge, ↓reduceIte, Nat.reduceAdd, Nat.reduceEqDiff, ↓zcl0, ↓zclv, List.map_nil, List.sum_nil, List.map_cons, List.sum_cons, zcat, true_and, and_true, Nat.reduceLeDiff, Nat.reduceAdd, eq_self, forall_const, e_ok0, e_okss, e_ok1i, e_ok1r, e_ok1n, zl_m1000000002, zl_m1000000001, zl_m1, zl_0, zl_3, Int.reduceToNat, Int.reduceAdd, Int.reduceMul, Int.reduceSub, Int.reduceNeg, Int.reduceLT, Int.reduceLE, Int.reduceEq, not_false_eq_true, not_true_eq_false, false_implies, true_implies, implies_true, Int.reduceDiv, Int.reduceMod, zr8_zr, zr_zbo, z01_zbo, z01_0, z01_1, zbo_eq0, zup_eq, zup_o, zup_k, ne_eq, ↓ct_x_judge_cbey, ↓r_cbey, ↓B_cbey, ↓ct_x_judge_cfail, ↓r_cfail, ↓B_cfail, ↓v_0, ↓g_0_0, ↓g_0_1, ↓g_0_2, ↓g_0_3, ↓g_0_4, ↓g_0_5, ↓g_0_6, ↓g_0_7, ↓g_0_8, ↓l_78, ↓s_78, ↓n_78, ↓g_0_9, ↓p_0_9, ↓v_1, ↓g_1_0, ↓g_1_1, ↓g_1_2, ↓g_1_3, ↓g_1_4, ↓g_1_5, ↓g_1_6, ↓p_1_6, ↓v_10, ↓g_10_0, ↓l_11, ↓s_11, ↓n_11, ↓g_10_1, ↓l_12, ↓s_12, ↓n_12, ↓g_10_2, ↓l_13, ↓s_13, ↓n_13, ↓g_10_3, ↓p_10_3, ↓vS hbq, ↓gS_0 hbq, ↓gS_1 hbq, ↓gS_2 hbq, ↓pS_1 hbq, ↓pS_2 hbq, ↓lS_1 hbq, ↓sS_1 hbq, q2, e0, z0, zn, eb, eb2]
        refine bs_X10_judge_54 hX ?_
        simp only [bk_X10_judge_0, k_X10_judge_0, bk_X10_judge_8, k_X10_judge_8, bk_X10_judge_15, k_X10_judge_15, bk_X10_judge_22, k_X10_judge_22, bk_X10_judge_36, k_X10_judge_36, bk_X10_judge_54, k_X10_judge_54, bk_X10_judge_57, k_X10_judge_57, bk_X10_judge_63, k_X10_judge_63, bk_X10_judge_89, k_X10_judge_89, bk_X10_judge_95, k_X10_judge_95, bk_X10_judge_116, k_X10_judge_116, bk_X10_judge_117, k_X10_judge_117, ↓e_rk1, ↓e_rk0, ↓e_sk0, ↓e_sks, ↓e_ldi0, ↓e_ldis, ↓e_ldl0, ↓e_ldls, ↓e_lda0, ↓e_ldas, ↓e_ok0, ↓e_okss, ↓e_ok1i, ↓e_ok1r, ↓e_ok1n, ↓e_sti, ↓e_sta, ↓e_1, ↓e_2, ↓e_l1, ↓e_l2, ↓e_li, ↓e_sw0, ↓e_sws, ↓e_ceq, ↓e_cne, ↓e_clt, ↓e_cge, ↓e_cgt, ↓e_cle, ↓e_nil, ↓e_cons, ↓e_iconst, ↓e_bipush, ↓e_sipush, ↓e_ldc, ↓e_ldcw, ↓e_ldc2, ↓e_lconst, ↓e_iloadn, ↓e_iload, ↓e_lloadn, ↓e_lload, ↓e_aloadn, ↓e_aload, ↓e_istoren, ↓e_istore, ↓e_astoren, ↓e_astore, ↓e_add, ↓e_iinc, ↓e_iadd, ↓e_isub, ↓e_imul, ↓e_iand, ↓e_ior, ↓e_ixor, ↓e_ishl, ↓e_iushr, ↓e_idiv, ↓e_irem, ↓e_ineg, ↓e_i2l, ↓e_i2b, ↓e_i2s, ↓e_l2i, ↓e_land, ↓e_lor, ↓e_lshl, ↓e_lshr, ↓e_lushr, ↓e_lcmp, ↓e_dupi, ↓e_dupr, ↓e_popi, ↓e_dup2, ↓e_goto, ↓e_if, ↓e_icmp, ↓e_tsw, ↓e_lsw, ↓e_getf, ↓e_putf, ↓e_gets, ↓e_iald, ↓e_cald, ↓e_iast, ↓e_aald, ↓e_aast, ↓e_len, ↓e_copy, ↓e_abs, ↓e_max, ↓e_min, ↓e_iret, ↓e_aret, ↓e_vret, ↓e_is0, ↓e_is1, ↓e_is2, ↓e_is3, ↓e_is4, ↓e_iv1, ↓e_iv2, ↓e_iv3, ↓e_iv4, ↓e_iv5, ↓e_iv6, ↓rt_X10_judge, ↓reduceIte, Nat.reduceAdd, Nat.reduceEqDiff, ↓zcl0, ↓zclv, List.map_nil, List.sum_nil, List.map_cons, List.sum_cons, zcat, true_and, and_true, Nat.reduceLeDiff, Nat.reduceAdd, eq_self, forall_const, e_ok0, e_okss, e_ok1i, e_ok1r, e_ok1n, zl_m1000000002, zl_m1000000001, zl_m1, zl_0, zl_3, Int.reduceToNat, Int.reduceAdd, Int.reduceMul, Int.reduceSub, Int.reduceNeg, Int.reduceLT, Int.reduceLE, Int.reduceEq, not_false_eq_true, not_true_eq_false, false_implies, true_implies, implies_true, Int.reduceDiv, Int.reduceMod, zr8_zr, zr_zbo, z01_zbo, z01_0, z01_1, zbo_eq0, zup_eq, zup_o, zup_k, ne_eq, ↓ct_x_judge_cbey, ↓r_cbey, ↓B_cbey, ↓ct_x_judge_cfail, ↓r_cfail, ↓B_cfail, ↓v_0, ↓g_0_0, ↓g_0_1, ↓g_0_2, ↓g_0_3, ↓g_0_4, ↓g_0_5, ↓g_0_6, ↓g_0_7, ↓g_0_8, ↓l_78, ↓s_78, ↓n_78, ↓g_0_9, ↓p_0_9]
        exact lp b 0 (by omega) rfl
      refine bs_X10_judge_15 hX ?_
      simp only [bk_X10_judge_0, k_X10_judge_0, bk_X10_judge_8, k_X10_judge_8, bk_X10_judge_15, k_X10_judge_15, bk_X10_judge_22, k_X10_judge_22, bk_X10_judge_36, k_X10_judge_36, bk_X10_judge_54, k_X10_judge_54, bk_X10_judge_57, k_X10_judge_57, bk_X10_judge_63, k_X10_judge_63, bk_X10_judge_89, k_X10_judge_89, bk_X10_judge_95, k_X10_judge_95, bk_X10_judge_116, k_X10_judge_116, bk_X10_judge_117, k_X10_judge_117, ↓e_rk1, ↓e_rk0, ↓e_sk0, ↓e_sks, ↓e_ldi0, ↓e_ldis, ↓e_ldl0, ↓e_ldls, ↓e_lda0, ↓e_ldas, ↓e_ok0, ↓e_okss, ↓e_ok1i, ↓e_ok1r, ↓e_ok1n, ↓e_sti, ↓e_sta, ↓e_1, ↓e_2, ↓e_l1, ↓e_l2, ↓e_li, ↓e_sw0, ↓e_sws, ↓e_ceq, ↓e_cne, ↓e_clt, ↓e_cge, ↓e_cgt, ↓e_cle, ↓e_nil, ↓e_cons, ↓e_iconst, ↓e_bipush, ↓e_sipush, ↓e_ldc, ↓e_ldcw, ↓e_ldc2, ↓e_lconst, ↓e_iloadn, ↓e_iload, ↓e_lloadn, ↓e_lload, ↓e_aloadn, ↓e_aload, ↓e_istoren, ↓e_istore, ↓e_astoren, ↓e_astore, ↓e_add, ↓e_iinc, ↓e_iadd, ↓e_isub, ↓e_imul, ↓e_iand, ↓e_ior, ↓e_ixor, ↓e_ishl, ↓e_iushr, ↓e_idiv, ↓e_irem, ↓e_ineg, ↓e_i2l, ↓e_i2b, ↓e_i2s, ↓e_l2i, ↓e_land, ↓e_lor, ↓e_lshl, ↓e_lshr, ↓e_lushr, ↓e_lcmp, ↓e_dupi, ↓e_dupr, ↓e_popi, ↓e_dup2, ↓e_goto, ↓e_if, ↓e_icmp, ↓e_tsw, ↓e_lsw, ↓e_getf, ↓e_putf, ↓e_gets, ↓e_iald, ↓e_cald, ↓e_iast, ↓e_aald, ↓e_aast, ↓e_len, ↓e_copy, ↓e_abs, ↓e_max, ↓e_min, ↓e_iret, ↓e_aret, ↓e_vret, ↓e_is0, ↓e_is1, ↓e_is2, ↓e_is3, ↓e_is4, ↓e_iv1, ↓e_iv2, ↓e_iv3, ↓e_iv4, ↓e_iv5, ↓e_iv6, ↓rt_X10_judge, ↓reduceIte, Nat.reduceAdd, Nat.reduceEqDiff, ↓zcl0, ↓zclv, List.map_nil, List.sum_nil, List.map_cons, List.sum_cons, zcat, true_and, and_true, Nat.reduceLeDiff, Nat.reduceAdd, eq_self, forall_const, e_ok0, e_okss, e_ok1i, e_ok1r, e_ok1n, zl_m1000000002, zl_m1000000001, zl_m1, zl_0, zl_3, Int.reduceToNat, Int.reduceAdd, Int.reduceMul, Int.reduceSub, Int.reduceNeg, Int.reduceLT, Int.reduceLE, Int.reduceEq, not_false_eq_true, not_true_eq_false, false_implies, true_implies, implies_true, Int.reduceDiv, Int.reduceMod, zr8_zr, zr_zbo, z01_zbo, z01_0, z01_1, zbo_eq0, zup_eq, zup_o, zup_k, ne_eq, ↓ct_x_judge_cbey, ↓r_cbey, ↓B_cbey, ↓ct_x_judge_cfail, ↓r_cfail, ↓B_cfail, ↓v_0, ↓g_0_0, ↓g_0_1, ↓g_0_2, ↓g_0_3, ↓g_0_4, ↓g_0_5, ↓g_0_6, ↓g_0_7, ↓g_0_8, ↓l_78, ↓s_78, ↓n_78, ↓g_0_9, ↓p_0_9, ↓l_77, zs, hq]
      refine ⟨by omega, by omega, ?_⟩
      refine bs_X10_judge_22 hX ?_
      simp only [bk_X10_judge_0, k_X10_judge_0, bk_X10_judge_8, k_X10_judge_8, bk_X10_judge_15, k_X10_judge_15, bk_X10_judge_22, k_X10_judge_22, bk_X10_judge_36, k_X10_judge_36, bk_X10_judge_54, k_X10_judge_54, bk_X10_judge_57, k_X10_judge_57, bk_X10_judge_63, k_X10_judge_63, bk_X10_judge_89, k_X10_judge_89, bk_X10_judge_95, k_X10_judge_95, bk_X10_judge_116, k_X10_judge_116, bk_X10_judge_117, k_X10_judge_117, ↓e_rk1, ↓e_rk0, ↓e_sk0, ↓e_sks, ↓e_ldi0, ↓e_ldis, ↓e_ldl0, ↓e_ldls, ↓e_lda0, ↓e_ldas, ↓e_ok0, ↓e_okss, ↓e_ok1i, ↓e_ok1r, ↓e_ok1n, ↓e_sti, ↓e_sta, ↓e_1, ↓e_2, ↓e_l1, ↓e_l2, ↓e_li, ↓e_sw0, ↓e_sws, ↓e_ceq, ↓e_cne, ↓e_clt, ↓e_cge, ↓e_cgt, ↓e_cle, ↓e_nil, ↓e_cons, ↓e_iconst, ↓e_bipush, ↓e_sipush, ↓e_ldc, ↓e_ldcw, ↓e_ldc2, ↓e_lconst, ↓e_iloadn, ↓e_iload, ↓e_lloadn, ↓e_lload, ↓e_aloadn, ↓e_aload, ↓e_istoren, ↓e_istore, ↓e_astoren, ↓e_astore, ↓e_add, ↓e_iinc, ↓e_iadd, ↓e_isub, ↓e_imul, ↓e_iand, ↓e_ior, ↓e_ixor, ↓e_ishl, ↓e_iushr, ↓e_idiv, ↓e_irem, ↓e_ineg, ↓e_i2l, ↓e_i2b, ↓e_i2s, ↓e_l2i, ↓e_land, ↓e_lor, ↓e_lshl, ↓e_lshr, ↓e_lushr, ↓e_lcmp, ↓e_dupi, ↓e_dupr, ↓e_popi, ↓e_dup2, ↓e_goto, ↓e_if, ↓e_icmp, ↓e_tsw, ↓e_lsw, ↓e_getf, ↓e_putf, ↓e_gets, ↓e_iald, ↓e_cald, ↓e_iast, ↓e_aald, ↓e_aast, ↓e_len, ↓e_copy, ↓e_abs, ↓e_max, ↓e_min, ↓e_iret, ↓e_aret, ↓e_vret, ↓e_is0, ↓e_is1, ↓e_is2, ↓e_is3, ↓e_is4, ↓e_iv1, ↓e_iv2, ↓e_iv3, ↓e_iv4, ↓e_iv5, ↓e_iv6, ↓rt_X10_judge, ↓reduceIte, Nat.reduceAdd, Nat.reduceEqDiff, ↓zcl0, ↓zclv, List.map_nil, List.sum_nil, List.map_cons, List.sum_cons, zcat, true_and, and_true, Nat.reduceLeDiff, Nat.reduceAdd, eq_self, forall_const, e_ok0, e_okss, e_ok1i, e_ok1r, e_ok1n, zl_m1000000002, zl_m1000000001, zl_m1, zl_0, zl_3, Int.reduceToNat, Int.reduceAdd, Int.reduceMul, Int.reduceSub, Int.reduceNeg, Int.reduceLT, Int.reduceLE, Int.reduceEq, not_false_eq_true, not_true_eq_false, false_implies, true_implies, implies_true, Int.reduceDiv, Int.reduceMod, zr8_zr, zr_zbo, z01_zbo, z01_0, z01_1, zbo_eq0, zup_eq, zup_o, zup_k, ne_eq, ↓ct_x_judge_cbey, ↓r_cbey, ↓B_cbey, ↓ct_x_judge_cfail, ↓r_cfail, ↓B_cfail, ↓v_0, ↓g_0_0, ↓g_0_1, ↓g_0_2, ↓g_0_3, ↓g_0_4, ↓g_0_5, ↓g_0_6, ↓g_0_7, ↓g_0_8, ↓l_78, ↓s_78, ↓n_78, ↓g_0_9, ↓p_0_9, ↓vS hbq, ↓gS_0 hbq, ↓gS_1 hbq, ↓gS_2 hbq, ↓pS_1 hbq, ↓pS_2 hbq, ↓lS_1 hbq, ↓sS_1 hbq, q1, zb]
      refine ⟨fun c => ?_, fun c => ?_⟩
      · first | exact J36 c | exact ⟨2, by omega, by omega, cp_no hC H vd (by omega) (by unfold R_judge; rw [if_pos q, if_pos c]) rfl⟩
      · first | exact J36 c | exact ⟨2, by omega, by omega, cp_no hC H vd (by omega) (by unfold R_judge; rw [if_pos q, if_pos c]) rfl⟩
    simp only [bk_X10_judge_0, k_X10_judge_0, bk_X10_judge_8, k_X10_judge_8, bk_X10_judge_15, k_X10_judge_15, bk_X10_judge_22, k_X10_judge_22, bk_X10_judge_36, k_X10_judge_36, bk_X10_judge_54, k_X10_judge_54, bk_X10_judge_57, k_X10_judge_57, bk_X10_judge_63, k_X10_judge_63, bk_X10_judge_89, k_X10_judge_89, bk_X10_judge_95, k_X10_judge_95, bk_X10_judge_116, k_X10_judge_116, bk_X10_judge_117, k_X10_judge_117, ↓e_rk1, ↓e_rk0, ↓e_sk0, ↓e_sks, ↓e_ldi0, ↓e_ldis, ↓e_ldl0, ↓e_ldls, ↓e_lda0, ↓e_ldas, ↓e_ok0, ↓e_okss, ↓e_ok1i, ↓e_ok1r, ↓e_ok1n, ↓e_sti, ↓e_sta, ↓e_1, ↓e_2, ↓e_l1, ↓e_l2, ↓e_li, ↓e_sw0, ↓e_sws, ↓e_ceq, ↓e_cne, ↓e_clt, ↓e_cge, ↓e_cgt, ↓e_cle, ↓e_nil, ↓e_cons, ↓e_iconst, ↓e_bipush, ↓e_sipush, ↓e_ldc, ↓e_ldcw, ↓e_ldc2, ↓e_lconst, ↓e_iloadn, ↓e_iload, ↓e_lloadn, ↓e_lload, ↓e_aloadn, ↓e_aload, ↓e_istoren, ↓e_istore, ↓e_astoren, ↓e_astore, ↓e_add, ↓e_iinc, ↓e_iadd, ↓e_isub, ↓e_imul, ↓e_iand, ↓e_ior, ↓e_ixor, ↓e_ishl, ↓e_iushr, ↓e_idiv, ↓e_irem, ↓e_ineg, ↓e_i2l, ↓e_i2b, ↓e_i2s, ↓e_l2i, ↓e_land, ↓e_lor, ↓e_lshl, ↓e_lshr, ↓e_lushr, ↓e_lcmp, ↓e_dupi, ↓e_dupr, ↓e_popi, ↓e_dup2, ↓e_goto, ↓e_if, ↓e_icmp, ↓e_tsw, ↓e_lsw, ↓e_getf, ↓e_putf, ↓e_gets, ↓e_iald, ↓e_cald, ↓e_iast, ↓e_aald, ↓e_aast, ↓e_len, ↓e_copy, ↓e_abs, ↓e_max, ↓e_min, ↓e_iret, ↓e_aret, ↓e_vret, ↓e_is0, ↓e_is1, ↓e_is2, ↓e_is3, ↓e_is4, ↓e_iv1, ↓e_iv2, ↓e_iv3, ↓e_iv4, ↓e_iv5, ↓e_iv6, ↓rt_X10_judge, ↓reduceIte, Nat.reduceAdd, Nat.reduceEqDiff, ↓zcl0, ↓zclv, List.map_nil, List.sum_nil, List.map_cons, List.sum_cons, zcat, true_and, and_true, Nat.reduceLeDiff, Nat.reduceAdd, eq_self, forall_const, e_ok0, e_okss, e_ok1i, e_ok1r, e_ok1n, zl_m1000000002, zl_m1000000001, zl_m1, zl_0, zl_3, Int.reduceToNat, Int.reduceAdd, Int.reduceMul, Int.reduceSub, Int.reduceNeg, Int.reduceLT, Int.reduceLE, Int.reduceEq, not_false_eq_true, not_true_eq_false, false_implies, true_implies, implies_true, Int.reduceDiv, Int.reduceMod, zr8_zr, zr_zbo, z01_zbo, z01_0, z01_1, zbo_eq0, zup_eq, zup_o, zup_k, ne_eq, ↓ct_x_judge_cbey, ↓r_cbey, ↓B_cbey, ↓ct_x_judge_cfail, ↓r_cfail, ↓B_cfail, ↓v_0, ↓g_0_0, ↓g_0_1, ↓g_0_2, ↓g_0_3, ↓g_0_4, ↓g_0_5, ↓g_0_6, ↓g_0_7, ↓g_0_8, ↓l_78, ↓s_78, ↓n_78, ↓g_0_9, ↓p_0_9, zr_zbo, zbo_eq0]
    repeat' (first | assumption | apply And.intro | intro _)
    all_goals first | omega | (apply J8; omega) | (apply J15; omega)
