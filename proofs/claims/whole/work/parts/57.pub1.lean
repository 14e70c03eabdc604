/-! THE CLASS: its public methods: the hill, heads, engineers -/
def k_X10_rock_0 : List ZI := [(.iload_n 1, 1, (0, [1], [])), (.bipush 63, 2, (0, [], [])), (.invokestatic 92, 3, (0, [111, 2, 0, 10], [])), (.ifCond .ne 12, 3, (0, [18], []))]
theorem ok_X10_rock_0 : zOK cX10_rock 10 false 4 k_X10_rock_0 0 = true := zOK_by (by decide +kernel)
def k_X10_rock_9 : List ZI := [(.iload_n 2, 1, (0, [2], [])), (.bipush 9, 2, (0, [], [])), (.invokestatic 92, 3, (0, [111, 2, 0, 10], [])), (.ifCond .eq 10, 3, (0, [25], []))]
theorem ok_X10_rock_9 : zOK cX10_rock 10 false 4 k_X10_rock_9 9 = true := zOK_by (by decide +kernel)
def k_X10_rock_18 : List ZI := [(.aload_n 0, 1, (0, [0], [])), (.ldc 96, 2, ((-1000000001), [], [])), (.invokevirtual 97, 3, (0, [110, 2, 0, 10], [])), (.ireturn, 1, (0, [], []))]
theorem ok_X10_rock_18 : zOK cX10_rock 10 false 4 k_X10_rock_18 18 = true := zOK_by (by decide +kernel)
def k_X10_rock_25 : List ZI := [(.aload_n 0, 1, (0, [0], [])), (.getfield 12, 3, (0, [10, 0], [])), (.getfield 21, 3, (0, [6, 0], [])), (.getfield 101, 3, (0, [2, 0], [])), (.iload_n 1, 1, (0, [1], [])), (.iaload, 1, (0, [], [])), (.istore_n 3, 1, (0, [3], [])), (.aload_n 0, 1, (0, [0], [])), (.getfield 12, 3, (0, [10, 0], [])), (.getfield 21, 3, (0, [6, 0], [])), (.getfield 101, 3, (0, [2, 0], [])), (.iload_n 1, 1, (0, [1], [])), (.iload_n 2, 1, (0, [2], [])), (.iastore, 1, (0, [], [])), (.iload_n 3, 1, (0, [3], [])), (.ireturn, 1, (0, [], []))]
theorem ok_X10_rock_25 : zOK cX10_rock 10 false 4 k_X10_rock_25 25 = true := zOK_by (by decide +kernel)
theorem rt_X10_rock {g : Nat} {post : Option ZV → ZH → Prop} {h : ZH} {b : ZB2} {z : Int} : zRt mX10_rock g post (some (.inl z)) h b = (post (some (.inl z)) h ∧ h.1.length = g) := by show (_ ∧ _ ∧ True) = _; simp
def bk_X10_rock_0 (E : ZE) (CT : Nat → ZC) (X : ZK) (Rt : ZR) (ls : ZL) (st : List ZV) (h : ZH) (b : ZB2) : Prop := zB E CT k_X10_rock_0 0 ls st h b (fun t ls st h b => X t ls st h b) Rt
theorem bs_X10_rock_0 {E : ZE} {CT : Nat → ZC} {X : ZK} {Rt : ZR} {ls : ZL} {st : List ZV} {h : ZH} {b : ZB2} (hX : zCl E mX10_rock 10 false CT Rt X) (q : bk_X10_rock_0 E CT X Rt ls st h b) : X 0 ls st h b := by
  refine hX k_X10_rock_0 0 ok_X10_rock_0 _ ?_ ls st h b q
  exact fun t ls st h b q => q
def bk_X10_rock_9 (E : ZE) (CT : Nat → ZC) (X : ZK) (Rt : ZR) (ls : ZL) (st : List ZV) (h : ZH) (b : ZB2) : Prop := zB E CT k_X10_rock_9 9 ls st h b (fun t ls st h b => X t ls st h b) Rt
theorem bs_X10_rock_9 {E : ZE} {CT : Nat → ZC} {X : ZK} {Rt : ZR} {ls : ZL} {st : List ZV} {h : ZH} {b : ZB2} (hX : zCl E mX10_rock 10 false CT Rt X) (q : bk_X10_rock_9 E CT X Rt ls st h b) : X 9 ls st h b := by
  refine hX k_X10_rock_9 9 ok_X10_rock_9 _ ?_ ls st h b q
  exact fun t ls st h b q => q
def bk_X10_rock_18 (E : ZE) (CT : Nat → ZC) (X : ZK) (Rt : ZR) (ls : ZL) (st : List ZV) (h : ZH) (b : ZB2) : Prop := zB E CT k_X10_rock_18 18 ls st h b (fun t ls st h b => X t ls st h b) Rt
theorem bs_X10_rock_18 {E : ZE} {CT : Nat → ZC} {X : ZK} {Rt : ZR} {ls : ZL} {st : List ZV} {h : ZH} {b : ZB2} (hX : zCl E mX10_rock 10 false CT Rt X) (q : bk_X10_rock_18 E CT X Rt ls st h b) : X 18 ls st h b := by
  refine hX k_X10_rock_18 18 ok_X10_rock_18 _ ?_ ls st h b q
  exact fun t ls st h b q => q
def bk_X10_rock_25 (E : ZE) (CT : Nat → ZC) (X : ZK) (Rt : ZR) (ls : ZL) (st : List ZV) (h : ZH) (b : ZB2) : Prop := zB E CT k_X10_rock_25 25 ls st h b (fun t ls st h b => X t ls st h b) Rt
theorem bs_X10_rock_25 {E : ZE} {CT : Nat → ZC} {X : ZK} {Rt : ZR} {ls : ZL} {st : List ZV} {h : ZH} {b : ZB2} (hX : zCl E mX10_rock 10 false CT Rt X) (q : bk_X10_rock_25 E CT X Rt ls st h b) : X 25 ls st h b := by
  refine hX k_X10_rock_25 25 ok_X10_rock_25 _ ?_ ls st h b q
  exact fun t ls st h b q => q
-- X10_rock: cuts [9, 18, 25]
def k_X10_dig_0 : List ZI := [(.iload_n 1, 1, (0, [1], [])), (.bipush 63, 2, (0, [], [])), (.invokestatic 92, 3, (0, [111, 2, 0, 10], [])), (.ifCond .ne 11, 3, (0, [17], []))]
theorem ok_X10_dig_0 : zOK cX10_dig 10 false 4 k_X10_dig_0 0 = true := zOK_by (by decide +kernel)
def k_X10_dig_9 : List ZI := [(.iload_n 2, 1, (0, [2], [])), (.iconst 1, 1, (0, [], [])), (.invokestatic 92, 3, (0, [111, 2, 0, 10], [])), (.ifCond .eq 10, 3, (0, [24], []))]
theorem ok_X10_dig_9 : zOK cX10_dig 10 false 4 k_X10_dig_9 9 = true := zOK_by (by decide +kernel)
def k_X10_dig_17 : List ZI := [(.aload_n 0, 1, (0, [0], [])), (.ldc 96, 2, ((-1000000001), [], [])), (.invokevirtual 97, 3, (0, [110, 2, 0, 10], [])), (.ireturn, 1, (0, [], []))]
theorem ok_X10_dig_17 : zOK cX10_dig 10 false 4 k_X10_dig_17 17 = true := zOK_by (by decide +kernel)
def k_X10_dig_24 : List ZI := [(.iload_n 2, 1, (0, [2], [])), (.ifCond .ne 24, 3, (0, [49], [])), (.aload_n 0, 1, (0, [0], [])), (.getfield 12, 3, (0, [10, 0], [])), (.getfield 21, 3, (0, [6, 0], [])), (.iload_n 1, 1, (0, [1], [])), (.invokevirtual 104, 3, (0, [19, 2, 0, 2], [])), (.ifCond .eq 10, 3, (0, [49], []))]
theorem ok_X10_dig_24 : zOK cX10_dig 10 false 4 k_X10_dig_24 24 = true := zOK_by (by decide +kernel)
def k_X10_dig_42 : List ZI := [(.aload_n 0, 1, (0, [0], [])), (.ldc 107, 2, ((-1000000003), [], [])), (.invokevirtual 97, 3, (0, [110, 2, 0, 10], [])), (.ireturn, 1, (0, [], []))]
theorem ok_X10_dig_42 : zOK cX10_dig 10 false 4 k_X10_dig_42 42 = true := zOK_by (by decide +kernel)
def k_X10_dig_49 : List ZI := [(.aload_n 0, 1, (0, [0], [])), (.getfield 12, 3, (0, [10, 0], [])), (.getfield 21, 3, (0, [6, 0], [])), (.getfield 108, 3, (0, [2, 1], [])), (.iload_n 1, 1, (0, [1], [])), (.iaload, 1, (0, [], [])), (.istore_n 3, 1, (0, [3], [])), (.aload_n 0, 1, (0, [0], [])), (.getfield 12, 3, (0, [10, 0], [])), (.getfield 21, 3, (0, [6, 0], [])), (.getfield 108, 3, (0, [2, 1], [])), (.iload_n 1, 1, (0, [1], [])), (.iload_n 2, 1, (0, [2], [])), (.iastore, 1, (0, [], [])), (.iload_n 3, 1, (0, [3], [])), (.ireturn, 1, (0, [], []))]
theorem ok_X10_dig_49 : zOK cX10_dig 10 false 4 k_X10_dig_49 49 = true := zOK_by (by decide +kernel)
theorem rt_X10_dig {g : Nat} {post : Option ZV → ZH → Prop} {h : ZH} {b : ZB2} {z : Int} : zRt mX10_dig g post (some (.inl z)) h b = (post (some (.inl z)) h ∧ h.1.length = g) := by show (_ ∧ _ ∧ True) = _; simp
def bk_X10_dig_0 (E : ZE) (CT : Nat → ZC) (X : ZK) (Rt : ZR) (ls : ZL) (st : List ZV) (h : ZH) (b : ZB2) : Prop := zB E CT k_X10_dig_0 0 ls st h b (fun t ls st h b => X t ls st h b) Rt
theorem bs_X10_dig_0 {E : ZE} {CT : Nat → ZC} {X : ZK} {Rt : ZR} {ls : ZL} {st : List ZV} {h : ZH} {b : ZB2} (hX : zCl E mX10_dig 10 false CT Rt X) (q : bk_X10_dig_0 E CT X Rt ls st h b) : X 0 ls st h b := by
  refine hX k_X10_dig_0 0 ok_X10_dig_0 _ ?_ ls st h b q
  exact fun t ls st h b q => q
def bk_X10_dig_9 (E : ZE) (CT : Nat → ZC) (X : ZK) (Rt : ZR) (ls : ZL) (st : List ZV) (h : ZH) (b : ZB2) : Prop := zB E CT k_X10_dig_9 9 ls st h b (fun t ls st h b => X t ls st h b) Rt
theorem bs_X10_dig_9 {E : ZE} {CT : Nat → ZC} {X : ZK} {Rt : ZR} {ls : ZL} {st : List ZV} {h : ZH} {b : ZB2} (hX : zCl E mX10_dig 10 false CT Rt X) (q : bk_X10_dig_9 E CT X Rt ls st h b) : X 9 ls st h b := by
  refine hX k_X10_dig_9 9 ok_X10_dig_9 _ ?_ ls st h b q
  exact fun t ls st h b q => q
def bk_X10_dig_17 (E : ZE) (CT : Nat → ZC) (X : ZK) (Rt : ZR) (ls : ZL) (st : List ZV) (h : ZH) (b : ZB2) : Prop := zB E CT k_X10_dig_17 17 ls st h b (fun t ls st h b => X t ls st h b) Rt
theorem bs_X10_dig_17 {E : ZE} {CT : Nat → ZC} {X : ZK} {Rt : ZR} {ls : ZL} {st : List ZV} {h : ZH} {b : ZB2} (hX : zCl E mX10_dig 10 false CT Rt X) (q : bk_X10_dig_17 E CT X Rt ls st h b) : X 17 ls st h b := by
  refine hX k_X10_dig_17 17 ok_X10_dig_17 _ ?_ ls st h b q
  exact fun t ls st h b q => q
def bk_X10_dig_24 (E : ZE) (CT : Nat → ZC) (X : ZK) (Rt : ZR) (ls : ZL) (st : List ZV) (h : ZH) (b : ZB2) : Prop := zB E CT k_X10_dig_24 24 ls st h b (fun t ls st h b => X t ls st h b) Rt
theorem bs_X10_dig_24 {E : ZE} {CT : Nat → ZC} {X : ZK} {Rt : ZR} {ls : ZL} {st : List ZV} {h : ZH} {b : ZB2} (hX : zCl E mX10_dig 10 false CT Rt X) (q : bk_X10_dig_24 E CT X Rt ls st h b) : X 24 ls st h b := by
  refine hX k_X10_dig_24 24 ok_X10_dig_24 _ ?_ ls st h b q
  exact fun t ls st h b q => q
def bk_X10_dig_42 (E : ZE) (CT : Nat → ZC) (X : ZK) (Rt : ZR) (ls : ZL) (st : List ZV) (h : ZH) (b : ZB2) : Prop := zB E CT k_X10_dig_42 42 ls st h b (fun t ls st h b => X t ls st h b) Rt
theorem bs_X10_dig_42 {E : ZE} {CT : Nat → ZC} {X : ZK} {Rt : ZR} {ls : ZL} {st : List ZV} {h : ZH} {b : ZB2} (hX : zCl E mX10_dig 10 false CT Rt X) (q : bk_X10_dig_42 E CT X Rt ls st h b) : X 42 ls st h b := by
  refine hX k_X10_dig_42 42 ok_X10_dig_42 _ ?_ ls st h b q
  exact fun t ls st h b q => q
def bk_X10_dig_49 (E : ZE) (CT : Nat → ZC) (X : ZK) (Rt : ZR) (ls : ZL) (st : List ZV) (h : ZH) (b : ZB2) : Prop := zB E CT k_X10_dig_49 49 ls st h b (fun t ls st h b => X t ls st h b) Rt
theorem bs_X10_dig_49 {E : ZE} {CT : Nat → ZC} {X : ZK} {Rt : ZR} {ls : ZL} {st : List ZV} {h : ZH} {b : ZB2} (hX : zCl E mX10_dig 10 false CT Rt X) (q : bk_X10_dig_49 E CT X Rt ls st h b) : X 49 ls st h b := by
  refine hX k_X10_dig_49 49 ok_X10_dig_49 _ ?_ ls st h b q
  exact fun t ls st h b q => q
-- X10_dig: cuts [9, 17, 24, 42, 49]
def k_X10_ofCell_0 : List ZI := [(.iload_n 1, 1, (0, [1], [])), (.bipush 63, 2, (0, [], [])), (.invokestatic 92, 3, (0, [111, 2, 0, 10], [])), (.ifCond .ne 11, 3, (0, [17], []))]
theorem ok_X10_ofCell_0 : zOK cX10_ofCell 10 false 3 k_X10_ofCell_0 0 = true := zOK_by (by decide +kernel)
def k_X10_ofCell_9 : List ZI := [(.iload_n 2, 1, (0, [2], [])), (.iconst 2, 1, (0, [], [])), (.invokestatic 92, 3, (0, [111, 2, 0, 10], [])), (.ifCond .eq 10, 3, (0, [24], []))]
theorem ok_X10_ofCell_9 : zOK cX10_ofCell 10 false 3 k_X10_ofCell_9 9 = true := zOK_by (by decide +kernel)
def k_X10_ofCell_17 : List ZI := [(.aload_n 0, 1, (0, [0], [])), (.ldc 96, 2, ((-1000000001), [], [])), (.invokevirtual 97, 3, (0, [110, 2, 0, 10], [])), (.ireturn, 1, (0, [], []))]
theorem ok_X10_ofCell_17 : zOK cX10_ofCell 10 false 3 k_X10_ofCell_17 17 = true := zOK_by (by decide +kernel)
def k_X10_ofCell_24 : List ZI := [(.iload_n 2, 1, (0, [2], [])), (.lookupswitch 53 #[(0, 27), (1, 40)], 27, (0, [78], [(0, 52), (1, 65)]))]
theorem ok_X10_ofCell_24 : zOK cX10_ofCell 10 false 3 k_X10_ofCell_24 24 = true := zOK_by (by decide +kernel)
def k_X10_ofCell_52 : List ZI := [(.aload_n 0, 1, (0, [0], [])), (.getfield 12, 3, (0, [10, 0], [])), (.getfield 21, 3, (0, [6, 0], [])), (.getfield 101, 3, (0, [2, 0], [])), (.iload_n 1, 1, (0, [1], [])), (.iaload, 1, (0, [], [])), (.ireturn, 1, (0, [], []))]
theorem ok_X10_ofCell_52 : zOK cX10_ofCell 10 false 3 k_X10_ofCell_52 52 = true := zOK_by (by decide +kernel)
def k_X10_ofCell_65 : List ZI := [(.aload_n 0, 1, (0, [0], [])), (.getfield 12, 3, (0, [10, 0], [])), (.getfield 21, 3, (0, [6, 0], [])), (.getfield 108, 3, (0, [2, 1], [])), (.iload_n 1, 1, (0, [1], [])), (.iaload, 1, (0, [], [])), (.ireturn, 1, (0, [], []))]
theorem ok_X10_ofCell_65 : zOK cX10_ofCell 10 false 3 k_X10_ofCell_65 65 = true := zOK_by (by decide +kernel)
def k_X10_ofCell_78 : List ZI := [(.aload_n 0, 1, (0, [0], [])), (.getfield 12, 3, (0, [10, 0], [])), (.getfield 21, 3, (0, [6, 0], [])), (.iload_n 1, 1, (0, [1], [])), (.invokevirtual 104, 3, (0, [19, 2, 0, 2], [])), (.ireturn, 1, (0, [], []))]
theorem ok_X10_ofCell_78 : zOK cX10_ofCell 10 false 3 k_X10_ofCell_78 78 = true := zOK_by (by decide +kernel)
theorem rt_X10_ofCell {g : Nat} {post : Option ZV → ZH → Prop} {h : ZH} {b : ZB2} {z : Int} : zRt mX10_ofCell g post (some (.inl z)) h b = (post (some (.inl z)) h ∧ h.1.length = g) := by show (_ ∧ _ ∧ True) = _; simp
def bk_X10_ofCell_0 (E : ZE) (CT : Nat → ZC) (X : ZK) (Rt : ZR) (ls : ZL) (st : List ZV) (h : ZH) (b : ZB2) : Prop := zB E CT k_X10_ofCell_0 0 ls st h b (fun t ls st h b => X t ls st h b) Rt
theorem bs_X10_ofCell_0 {E : ZE} {CT : Nat → ZC} {X : ZK} {Rt : ZR} {ls : ZL} {st : List ZV} {h : ZH} {b : ZB2} (hX : zCl E mX10_ofCell 10 false CT Rt X) (q : bk_X10_ofCell_0 E CT X Rt ls st h b) : X 0 ls st h b := by
  refine hX k_X10_ofCell_0 0 ok_X10_ofCell_0 _ ?_ ls st h b q
  exact fun t ls st h b q => q
def bk_X10_ofCell_9 (E : ZE) (CT : Nat → ZC) (X : ZK) (Rt : ZR) (ls : ZL) (st : List ZV) (h : ZH) (b : ZB2) : Prop := zB E CT k_X10_ofCell_9 9 ls st h b (fun t ls st h b => X t ls st h b) Rt
theorem bs_X10_ofCell_9 {E : ZE} {CT : Nat → ZC} {X : ZK} {Rt : ZR} {ls : ZL} {st : List ZV} {h : ZH} {b : ZB2} (hX : zCl E mX10_ofCell 10 false CT Rt X) (q : bk_X10_ofCell_9 E CT X Rt ls st h b) : X 9 ls st h b := by
  refine hX k_X10_ofCell_9 9 ok_X10_ofCell_9 _ ?_ ls st h b q
  exact fun t ls st h b q => q
def bk_X10_ofCell_17 (E : ZE) (CT : Nat → ZC) (X : ZK) (Rt : ZR) (ls : ZL) (st : List ZV) (h : ZH) (b : ZB2) : Prop := zB E CT k_X10_ofCell_17 17 ls st h b (fun t ls st h b => X t ls st h b) Rt
theorem bs_X10_ofCell_17 {E : ZE} {CT : Nat → ZC} {X : ZK} {Rt : ZR} {ls : ZL} {st : List ZV} {h : ZH} {b : ZB2} (hX : zCl E mX10_ofCell 10 false CT Rt X) (q : bk_X10_ofCell_17 E CT X Rt ls st h b) : X 17 ls st h b := by
  refine hX k_X10_ofCell_17 17 ok_X10_ofCell_17 _ ?_ ls st h b q
  exact fun t ls st h b q => q
def bk_X10_ofCell_24 (E : ZE) (CT : Nat → ZC) (X : ZK) (Rt : ZR) (ls : ZL) (st : List ZV) (h : ZH) (b : ZB2) : Prop := zB E CT k_X10_ofCell_24 24 ls st h b (fun t ls st h b => X t ls st h b) Rt
theorem bs_X10_ofCell_24 {E : ZE} {CT : Nat → ZC} {X : ZK} {Rt : ZR} {ls : ZL} {st : List ZV} {h : ZH} {b : ZB2} (hX : zCl E mX10_ofCell 10 false CT Rt X) (q : bk_X10_ofCell_24 E CT X Rt ls st h b) : X 24 ls st h b := by
  refine hX k_X10_ofCell_24 24 ok_X10_ofCell_24 _ ?_ ls st h b q
  exact fun t ls st h b q => q
def bk_X10_ofCell_52 (E : ZE) (CT : Nat → ZC) (X : ZK) (Rt : ZR) (ls : ZL) (st : List ZV) (h : ZH) (b : ZB2) : Prop := zB E CT k_X10_ofCell_52 52 ls st h b (fun t ls st h b => X t ls st h b) Rt
theorem bs_X10_ofCell_52 {E : ZE} {CT : Nat → ZC} {X : ZK} {Rt : ZR} {ls : ZL} {st : List ZV} {h : ZH} {b : ZB2} (hX : zCl E mX10_ofCell 10 false CT Rt X) (q : bk_X10_ofCell_52 E CT X Rt ls st h b) : X 52 ls st h b := by
  refine hX k_X10_ofCell_52 52 ok_X10_ofCell_52 _ ?_ ls st h b q
  exact fun t ls st h b q => q
def bk_X10_ofCell_65 (E : ZE) (CT : Nat → ZC) (X : ZK) (Rt : ZR) (ls : ZL) (st : List ZV) (h : ZH) (b : ZB2) : Prop := zB E CT k_X10_ofCell_65 65 ls st h b (fun t ls st h b => X t ls st h b) Rt
theorem bs_X10_ofCell_65 {E : ZE} {CT : Nat → ZC} {X : ZK} {Rt : ZR} {ls : ZL} {st : List ZV} {h : ZH} {b : ZB2} (hX : zCl E mX10_ofCell 10 false CT Rt X) (q : bk_X10_ofCell_65 E CT X Rt ls st h b) : X 65 ls st h b := by
  refine hX k_X10_ofCell_65 65 ok_X10_ofCell_65 _ ?_ ls st h b q
  exact fun t ls st h b q => q
def bk_X10_ofCell_78 (E : ZE) (CT : Nat → ZC) (X : ZK) (Rt : ZR) (ls : ZL) (st : List ZV) (h : ZH) (b : ZB2) : Prop := zB E CT k_X10_ofCell_78 78 ls st h b (fun t ls st h b => X t ls st h b) Rt
theorem bs_X10_ofCell_78 {E : ZE} {CT : Nat → ZC} {X : ZK} {Rt : ZR} {ls : ZL} {st : List ZV} {h : ZH} {b : ZB2} (hX : zCl E mX10_ofCell 10 false CT Rt X) (q : bk_X10_ofCell_78 E CT X Rt ls st h b) : X 78 ls st h b := by
  refine hX k_X10_ofCell_78 78 ok_X10_ofCell_78 _ ?_ ls st h b q
  exact fun t ls st h b q => q
-- X10_ofCell: cuts [9, 17, 24, 52, 65, 78]
def k_X10_head_0 : List ZI := [(.iload_n 1, 1, (0, [1], [])), (.iconst 1, 1, (0, [], [])), (.invokestatic 92, 3, (0, [111, 2, 0, 10], [])), (.ifCond .ne 22, 3, (0, [27], []))]
theorem ok_X10_head_0 : zOK cX10_head 10 false 6 k_X10_head_0 0 = true := zOK_by (by decide +kernel)
def k_X10_head_8 : List ZI := [(.iload_n 2, 1, (0, [2], [])), (.iconst 2, 1, (0, [], [])), (.invokestatic 92, 3, (0, [111, 2, 0, 10], [])), (.ifCond .ne 14, 3, (0, [27], []))]
theorem ok_X10_head_8 : zOK cX10_head 10 false 6 k_X10_head_8 8 = true := zOK_by (by decide +kernel)
def k_X10_head_16 : List ZI := [(.iload_n 3, 1, (0, [3], [])), (.iload_n 2, 1, (0, [2], [])), (.invokestatic 111, 3, (0, [70, 1, 0, 10], [])), (.invokestatic 92, 3, (0, [111, 2, 0, 10], [])), (.ifCond .eq 10, 3, (0, [34], []))]
theorem ok_X10_head_16 : zOK cX10_head 10 false 6 k_X10_head_16 16 = true := zOK_by (by decide +kernel)
def k_X10_head_27 : List ZI := [(.aload_n 0, 1, (0, [0], [])), (.ldc 96, 2, ((-1000000001), [], [])), (.invokevirtual 97, 3, (0, [110, 2, 0, 10], [])), (.ireturn, 1, (0, [], []))]
theorem ok_X10_head_27 : zOK cX10_head 10 false 6 k_X10_head_27 27 = true := zOK_by (by decide +kernel)
def k_X10_head_34 : List ZI := [(.aload_n 0, 1, (0, [0], [])), (.getfield 12, 3, (0, [10, 0], [])), (.getfield 21, 3, (0, [6, 0], [])), (.astore 4, 2, (0, [4], [])), (.iload_n 2, 1, (0, [2], [])), (.lookupswitch 67 #[(0, 28), (1, 47)], 28, (0, [111], [(0, 72), (1, 91)]))]
theorem ok_X10_head_34 : zOK cX10_head 10 false 6 k_X10_head_34 34 = true := zOK_by (by decide +kernel)
def k_X10_head_72 : List ZI := [(.aload 4, 2, (0, [4], [])), (.getfield 114, 3, (0, [2, 2], [])), (.iload_n 1, 1, (0, [1], [])), (.iaload, 1, (0, [], [])), (.istore 5, 2, (0, [5], [])), (.aload 4, 2, (0, [4], [])), (.iload_n 1, 1, (0, [1], [])), (.iload_n 3, 1, (0, [3], [])), (.invokevirtual 117, 3, (0, [20, 3, 0, 2], [])), (.iload 5, 2, (0, [5], [])), (.ireturn, 1, (0, [], []))]
theorem ok_X10_head_72 : zOK cX10_head 10 false 6 k_X10_head_72 72 = true := zOK_by (by decide +kernel)
def k_X10_head_91 : List ZI := [(.aload 4, 2, (0, [4], [])), (.getfield 121, 3, (0, [2, 3], [])), (.iload_n 1, 1, (0, [1], [])), (.iaload, 1, (0, [], [])), (.istore 5, 2, (0, [5], [])), (.aload 4, 2, (0, [4], [])), (.getfield 121, 3, (0, [2, 3], [])), (.iload_n 1, 1, (0, [1], [])), (.iload_n 3, 1, (0, [3], [])), (.iastore, 1, (0, [], [])), (.iload 5, 2, (0, [5], [])), (.ireturn, 1, (0, [], []))]
theorem ok_X10_head_91 : zOK cX10_head 10 false 6 k_X10_head_91 91 = true := zOK_by (by decide +kernel)
def k_X10_head_111 : List ZI := [(.aload 4, 2, (0, [4], [])), (.getfield 124, 3, (0, [2, 4], [])), (.iload_n 1, 1, (0, [1], [])), (.iaload, 1, (0, [], [])), (.istore 5, 2, (0, [5], [])), (.aload 4, 2, (0, [4], [])), (.getfield 124, 3, (0, [2, 4], [])), (.iload_n 1, 1, (0, [1], [])), (.iload_n 3, 1, (0, [3], [])), (.iastore, 1, (0, [], [])), (.iload 5, 2, (0, [5], [])), (.ireturn, 1, (0, [], []))]
theorem ok_X10_head_111 : zOK cX10_head 10 false 6 k_X10_head_111 111 = true := zOK_by (by decide +kernel)
theorem rt_X10_head {g : Nat} {post : Option ZV → ZH → Prop} {h : ZH} {b : ZB2} {z : Int} : zRt mX10_head g post (some (.inl z)) h b = (post (some (.inl z)) h ∧ h.1.length = g) := by show (_ ∧ _ ∧ True) = _; simp
def bk_X10_head_0 (E : ZE) (CT : Nat → ZC) (X : ZK) (Rt : ZR) (ls : ZL) (st : List ZV) (h : ZH) (b : ZB2) : Prop := zB E CT k_X10_head_0 0 ls st h b (fun t ls st h b => X t ls st h b) Rt
theorem bs_X10_head_0 {E : ZE} {CT : Nat → ZC} {X : ZK} {Rt : ZR} {ls : ZL} {st : List ZV} {h : ZH} {b : ZB2} (hX : zCl E mX10_head 10 false CT Rt X) (q : bk_X10_head_0 E CT X Rt ls st h b) : X 0 ls st h b := by
  refine hX k_X10_head_0 0 ok_X10_head_0 _ ?_ ls st h b q
  exact fun t ls st h b q => q
def bk_X10_head_8 (E : ZE) (CT : Nat → ZC) (X : ZK) (Rt : ZR) (ls : ZL) (st : List ZV) (h : ZH) (b : ZB2) : Prop := zB E CT k_X10_head_8 8 ls st h b (fun t ls st h b => X t ls st h b) Rt
theorem bs_X10_head_8 {E : ZE} {CT : Nat → ZC} {X : ZK} {Rt : ZR} {ls : ZL} {st : List ZV} {h : ZH} {b : ZB2} (hX : zCl E mX10_head 10 false CT Rt X) (q : bk_X10_head_8 E CT X Rt ls st h b) : X 8 ls st h b := by
  refine hX k_X10_head_8 8 ok_X10_head_8 _ ?_ ls st h b q
  exact fun t ls st h b q => q
def bk_X10_head_16 (E : ZE) (CT : Nat → ZC) (X : ZK) (Rt : ZR) (ls : ZL) (st : List ZV) (h : ZH) (b : ZB2) : Prop := zB E CT k_X10_head_16 16 ls st h b (fun t ls st h b => X t ls st h b) Rt
theorem bs_X10_head_16 {E : ZE} {CT : Nat → ZC} {X : ZK} {Rt : ZR} {ls : ZL} {st : List ZV} {h : ZH} {b : ZB2} (hX : zCl E mX10_head 10 false CT Rt X) (q : bk_X10_head_16 E CT X Rt ls st h b) : X 16 ls st h b := by
  refine hX k_X10_head_16 16 ok_X10_head_16 _ ?_ ls st h b q
  exact fun t ls st h b q => q
def bk_X10_head_27 (E : ZE) (CT : Nat → ZC) (X : ZK) (Rt : ZR) (ls : ZL) (st : List ZV) (h : ZH) (b : ZB2) : Prop := zB E CT k_X10_head_27 27 ls st h b (fun t ls st h b => X t ls st h b) Rt
theorem bs_X10_head_27 {E : ZE} {CT : Nat → ZC} {X : ZK} {Rt : ZR} {ls : ZL} {st : List ZV} {h : ZH} {b : ZB2} (hX : zCl E mX10_head 10 false CT Rt X) (q : bk_X10_head_27 E CT X Rt ls st h b) : X 27 ls st h b := by
  refine hX k_X10_head_27 27 ok_X10_head_27 _ ?_ ls st h b q
  exact fun t ls st h b q => q
def bk_X10_head_34 (E : ZE) (CT : Nat → ZC) (X : ZK) (Rt : ZR) (ls : ZL) (st : List ZV) (h : ZH) (b : ZB2) : Prop := zB E CT k_X10_head_34 34 ls st h b (fun t ls st h b => X t ls st h b) Rt
theorem bs_X10_head_34 {E : ZE} {CT : Nat → ZC} {X : ZK} {Rt : ZR} {ls : ZL} {st : List ZV} {h : ZH} {b : ZB2} (hX : zCl E mX10_head 10 false CT Rt X) (q : bk_X10_head_34 E CT X Rt ls st h b) : X 34 ls st h b := by
  refine hX k_X10_head_34 34 ok_X10_head_34 _ ?_ ls st h b q
  exact fun t ls st h b q => q
def bk_X10_head_72 (E : ZE) (CT : Nat → ZC) (X : ZK) (Rt : ZR) (ls : ZL) (st : List ZV) (h : ZH) (b : ZB2) : Prop := zB E CT k_X10_head_72 72 ls st h b (fun t ls st h b => X t ls st h b) Rt
theorem bs_X10_head_72 {E : ZE} {CT : Nat → ZC} {X : ZK} {Rt : ZR} {ls : ZL} {st : List ZV} {h : ZH} {b : ZB2} (hX : zCl E mX10_head 10 false CT Rt X) (q : bk_X10_head_72 E CT X Rt ls st h b) : X 72 ls st h b := by
  refine hX k_X10_head_72 72 ok_X10_head_72 _ ?_ ls st h b q
  exact fun t ls st h b q => q
def bk_X10_head_91 (E : ZE) (CT : Nat → ZC) (X : ZK) (Rt : ZR) (ls : ZL) (st : List ZV) (h : ZH) (b : ZB2) : Prop := zB E CT k_X10_head_91 91 ls st h b (fun t ls st h b => X t ls st h b) Rt
theorem bs_X10_head_91 {E : ZE} {CT : Nat → ZC} {X : ZK} {Rt : ZR} {ls : ZL} {st : List ZV} {h : ZH} {b : ZB2} (hX : zCl E mX10_head 10 false CT Rt X) (q : bk_X10_head_91 E CT X Rt ls st h b) : X 91 ls st h b := by
  refine hX k_X10_head_91 91 ok_X10_head_91 _ ?_ ls st h b q
  exact fun t ls st h b q => q
def bk_X10_head_111 (E : ZE) (CT : Nat → ZC) (X : ZK) (Rt : ZR) (ls : ZL) (st : List ZV) (h : ZH) (b : ZB2) : Prop := zB E CT k_X10_head_111 111 ls st h b (fun t ls st h b => X t ls st h b) Rt
theorem bs_X10_head_111 {E : ZE} {CT : Nat → ZC} {X : ZK} {Rt : ZR} {ls : ZL} {st : List ZV} {h : ZH} {b : ZB2} (hX : zCl E mX10_head 10 false CT Rt X) (q : bk_X10_head_111 E CT X Rt ls st h b) : X 111 ls st h b := by
  refine hX k_X10_head_111 111 ok_X10_head_111 _ ?_ ls st h b q
  exact fun t ls st h b q => q
-- X10_head: cuts [8, 16, 27, 34, 72, 91, 111]
def k_X10_ofHead_0 : List ZI := [(.iload_n 1, 1, (0, [1], [])), (.iconst 1, 1, (0, [], [])), (.invokestatic 92, 3, (0, [111, 2, 0, 10], [])), (.ifCond .ne 11, 3, (0, [16], []))]
theorem ok_X10_ofHead_0 : zOK cX10_ofHead 10 false 3 k_X10_ofHead_0 0 = true := zOK_by (by decide +kernel)
def k_X10_ofHead_8 : List ZI := [(.iload_n 2, 1, (0, [2], [])), (.iconst 5, 1, (0, [], [])), (.invokestatic 92, 3, (0, [111, 2, 0, 10], [])), (.ifCond .eq 10, 3, (0, [23], []))]
theorem ok_X10_ofHead_8 : zOK cX10_ofHead 10 false 3 k_X10_ofHead_8 8 = true := zOK_by (by decide +kernel)
def k_X10_ofHead_16 : List ZI := [(.aload_n 0, 1, (0, [0], [])), (.ldc 96, 2, ((-1000000001), [], [])), (.invokevirtual 97, 3, (0, [110, 2, 0, 10], [])), (.ireturn, 1, (0, [], []))]
theorem ok_X10_ofHead_16 : zOK cX10_ofHead 10 false 3 k_X10_ofHead_16 16 = true := zOK_by (by decide +kernel)
def k_X10_ofHead_23 : List ZI := [(.iload_n 2, 1, (0, [2], [])), (.tableswitch 97 0 4 #[36, 49, 62, 75, 88], 36, (0, [121], [(0, 60), (1, 73), (2, 86), (3, 99), (4, 112)]))]
theorem ok_X10_ofHead_23 : zOK cX10_ofHead 10 false 3 k_X10_ofHead_23 23 = true := zOK_by (by decide +kernel)
def k_X10_ofHead_60 : List ZI := [(.aload_n 0, 1, (0, [0], [])), (.getfield 12, 3, (0, [10, 0], [])), (.getfield 21, 3, (0, [6, 0], [])), (.getfield 114, 3, (0, [2, 2], [])), (.iload_n 1, 1, (0, [1], [])), (.iaload, 1, (0, [], [])), (.ireturn, 1, (0, [], []))]
theorem ok_X10_ofHead_60 : zOK cX10_ofHead 10 false 3 k_X10_ofHead_60 60 = true := zOK_by (by decide +kernel)
def k_X10_ofHead_73 : List ZI := [(.aload_n 0, 1, (0, [0], [])), (.getfield 12, 3, (0, [10, 0], [])), (.getfield 21, 3, (0, [6, 0], [])), (.getfield 121, 3, (0, [2, 3], [])), (.iload_n 1, 1, (0, [1], [])), (.iaload, 1, (0, [], [])), (.ireturn, 1, (0, [], []))]
theorem ok_X10_ofHead_73 : zOK cX10_ofHead 10 false 3 k_X10_ofHead_73 73 = true := zOK_by (by decide +kernel)
def k_X10_ofHead_86 : List ZI := [(.aload_n 0, 1, (0, [0], [])), (.getfield 12, 3, (0, [10, 0], [])), (.getfield 21, 3, (0, [6, 0], [])), (.getfield 124, 3, (0, [2, 4], [])), (.iload_n 1, 1, (0, [1], [])), (.iaload, 1, (0, [], [])), (.ireturn, 1, (0, [], []))]
theorem ok_X10_ofHead_86 : zOK cX10_ofHead 10 false 3 k_X10_ofHead_86 86 = true := zOK_by (by decide +kernel)
def k_X10_ofHead_99 : List ZI := [(.aload_n 0, 1, (0, [0], [])), (.getfield 12, 3, (0, [10, 0], [])), (.getfield 21, 3, (0, [6, 0], [])), (.getfield 127, 3, (0, [2, 5], [])), (.iload_n 1, 1, (0, [1], [])), (.iaload, 1, (0, [], [])), (.ireturn, 1, (0, [], []))]
theorem ok_X10_ofHead_99 : zOK cX10_ofHead 10 false 3 k_X10_ofHead_99 99 = true := zOK_by (by decide +kernel)
def k_X10_ofHead_112 : List ZI := [(.aload_n 0, 1, (0, [0], [])), (.getfield 39, 3, (0, [10, 2], [])), (.iload_n 1, 1, (0, [1], [])), (.invokevirtual 130, 3, (0, [5, 2, 0, 1], [])), (.ireturn, 1, (0, [], []))]
theorem ok_X10_ofHead_112 : zOK cX10_ofHead 10 false 3 k_X10_ofHead_112 112 = true := zOK_by (by decide +kernel)
def k_X10_ofHead_121 : List ZI := [(.aload_n 0, 1, (0, [0], [])), (.getfield 12, 3, (0, [10, 0], [])), (.getfield 21, 3, (0, [6, 0], [])), (.iload_n 1, 1, (0, [1], [])), (.invokevirtual 133, 3, (0, [21, 2, 0, 2], [])), (.ireturn, 1, (0, [], []))]
theorem ok_X10_ofHead_121 : zOK cX10_ofHead 10 false 3 k_X10_ofHead_121 121 = true := zOK_by (by decide +kernel)
theorem rt_X10_ofHead {g : Nat} {post : Option ZV → ZH → Prop} {h : ZH} {b : ZB2} {z : Int} : zRt mX10_ofHead g post (some (.inl z)) h b = (post (some (.inl z)) h ∧ h.1.length = g) := by show (_ ∧ _ ∧ True) = _; simp
def bk_X10_ofHead_0 (E : ZE) (CT : Nat → ZC) (X : ZK) (Rt : ZR) (ls : ZL) (st : List ZV) (h : ZH) (b : ZB2) : Prop := zB E CT k_X10_ofHead_0 0 ls st h b (fun t ls st h b => X t ls st h b) Rt
theorem bs_X10_ofHead_0 {E : ZE} {CT : Nat → ZC} {X : ZK} {Rt : ZR} {ls : ZL} {st : List ZV} {h : ZH} {b : ZB2} (hX : zCl E mX10_ofHead 10 false CT Rt X) (q : bk_X10_ofHead_0 E CT X Rt ls st h b) : X 0 ls st h b := by
  refine hX k_X10_ofHead_0 0 ok_X10_ofHead_0 _ ?_ ls st h b q
  exact fun t ls st h b q => q
def bk_X10_ofHead_8 (E : ZE) (CT : Nat → ZC) (X : ZK) (Rt : ZR) (ls : ZL) (st : List ZV) (h : ZH) (b : ZB2) : Prop := zB E CT k_X10_ofHead_8 8 ls st h b (fun t ls st h b => X t ls st h b) Rt
theorem bs_X10_ofHead_8 {E : ZE} {CT : Nat → ZC} {X : ZK} {Rt : ZR} {ls : ZL} {st : List ZV} {h : ZH} {b : ZB2} (hX : zCl E mX10_ofHead 10 false CT Rt X) (q : bk_X10_ofHead_8 E CT X Rt ls st h b) : X 8 ls st h b := by
  refine hX k_X10_ofHead_8 8 ok_X10_ofHead_8 _ ?_ ls st h b q
  exact fun t ls st h b q => q
def bk_X10_ofHead_16 (E : ZE) (CT : Nat → ZC) (X : ZK) (Rt : ZR) (ls : ZL) (st : List ZV) (h : ZH) (b : ZB2) : Prop := zB E CT k_X10_ofHead_16 16 ls st h b (fun t ls st h b => X t ls st h b) Rt
theorem bs_X10_ofHead_16 {E : ZE} {CT : Nat → ZC} {X : ZK} {Rt : ZR} {ls : ZL} {st : List ZV} {h : ZH} {b : ZB2} (hX : zCl E mX10_ofHead 10 false CT Rt X) (q : bk_X10_ofHead_16 E CT X Rt ls st h b) : X 16 ls st h b := by
  refine hX k_X10_ofHead_16 16 ok_X10_ofHead_16 _ ?_ ls st h b q
  exact fun t ls st h b q => q
def bk_X10_ofHead_23 (E : ZE) (CT : Nat → ZC) (X : ZK) (Rt : ZR) (ls : ZL) (st : List ZV) (h : ZH) (b : ZB2) : Prop := zB E CT k_X10_ofHead_23 23 ls st h b (fun t ls st h b => X t ls st h b) Rt
theorem bs_X10_ofHead_23 {E : ZE} {CT : Nat → ZC} {X : ZK} {Rt : ZR} {ls : ZL} {st : List ZV} {h : ZH} {b : ZB2} (hX : zCl E mX10_ofHead 10 false CT Rt X) (q : bk_X10_ofHead_23 E CT X Rt ls st h b) : X 23 ls st h b := by
  refine hX k_X10_ofHead_23 23 ok_X10_ofHead_23 _ ?_ ls st h b q
  exact fun t ls st h b q => q
def bk_X10_ofHead_60 (E : ZE) (CT : Nat → ZC) (X : ZK) (Rt : ZR) (ls : ZL) (st : List ZV) (h : ZH) (b : ZB2) : Prop := zB E CT k_X10_ofHead_60 60 ls st h b (fun t ls st h b => X t ls st h b) Rt
theorem bs_X10_ofHead_60 {E : ZE} {CT : Nat → ZC} {X : ZK} {Rt : ZR} {ls : ZL} {st : List ZV} {h : ZH} {b : ZB2} (hX : zCl E mX10_ofHead 10 false CT Rt X) (q : bk_X10_ofHead_60 E CT X Rt ls st h b) : X 60 ls st h b := by
  refine hX k_X10_ofHead_60 60 ok_X10_ofHead_60 _ ?_ ls st h b q
  exact fun t ls st h b q => q
def bk_X10_ofHead_73 (E : ZE) (CT : Nat → ZC) (X : ZK) (Rt : ZR) (ls : ZL) (st : List ZV) (h : ZH) (b : ZB2) : Prop := zB E CT k_X10_ofHead_73 73 ls st h b (fun t ls st h b => X t ls st h b) Rt
theorem bs_X10_ofHead_73 {E : ZE} {CT : Nat → ZC} {X : ZK} {Rt : ZR} {ls : ZL} {st : List ZV} {h : ZH} {b : ZB2} (hX : zCl E mX10_ofHead 10 false CT Rt X) (q : bk_X10_ofHead_73 E CT X Rt ls st h b) : X 73 ls st h b := by
  refine hX k_X10_ofHead_73 73 ok_X10_ofHead_73 _ ?_ ls st h b q
  exact fun t ls st h b q => q
def bk_X10_ofHead_86 (E : ZE) (CT : Nat → ZC) (X : ZK) (Rt : ZR) (ls : ZL) (st : List ZV) (h : ZH) (b : ZB2) : Prop := zB E CT k_X10_ofHead_86 86 ls st h b (fun t ls st h b => X t ls st h b) Rt
theorem bs_X10_ofHead_86 {E : ZE} {CT : Nat → ZC} {X : ZK} {Rt : ZR} {ls : ZL} {st : List ZV} {h : ZH} {b : ZB2} (hX : zCl E mX10_ofHead 10 false CT Rt X) (q : bk_X10_ofHead_86 E CT X Rt ls st h b) : X 86 ls st h b := by
  refine hX k_X10_ofHead_86 86 ok_X10_ofHead_86 _ ?_ ls st h b q
  exact fun t ls st h b q => q
def bk_X10_ofHead_99 (E : ZE) (CT : Nat → ZC) (X : ZK) (Rt : ZR) (ls : ZL) (st : List ZV) (h : ZH) (b : ZB2) : Prop := zB E CT k_X10_ofHead_99 99 ls st h b (fun t ls st h b => X t ls st h b) Rt
theorem bs_X10_ofHead_99 {E : ZE} {CT : Nat → ZC} {X : ZK} {Rt : ZR} {ls : ZL} {st : List ZV} {h : ZH} {b : ZB2} (hX : zCl E mX10_ofHead 10 false CT Rt X) (q : bk_X10_ofHead_99 E CT X Rt ls st h b) : X 99 ls st h b := by
  refine hX k_X10_ofHead_99 99 ok_X10_ofHead_99 _ ?_ ls st h b q
  exact fun t ls st h b q => q
def bk_X10_ofHead_112 (E : ZE) (CT : Nat → ZC) (X : ZK) (Rt : ZR) (ls : ZL) (st : List ZV) (h : ZH) (b : ZB2) : Prop := zB E CT k_X10_ofHead_112 112 ls st h b (fun t ls st h b => X t ls st h b) Rt
theorem bs_X10_ofHead_112 {E : ZE} {CT : Nat → ZC} {X : ZK} {Rt : ZR} {ls : ZL} {st : List ZV} {h : ZH} {b : ZB2} (hX : zCl E mX10_ofHead 10 false CT Rt X) (q : bk_X10_ofHead_112 E CT X Rt ls st h b) : X 112 ls st h b := by
  refine hX k_X10_ofHead_112 112 ok_X10_ofHead_112 _ ?_ ls st h b q
  exact fun t ls st h b q => q
def bk_X10_ofHead_121 (E : ZE) (CT : Nat → ZC) (X : ZK) (Rt : ZR) (ls : ZL) (st : List ZV) (h : ZH) (b : ZB2) : Prop := zB E CT k_X10_ofHead_121 121 ls st h b (fun t ls st h b => X t ls st h b) Rt
theorem bs_X10_ofHead_121 {E : ZE} {CT : Nat → ZC} {X : ZK} {Rt : ZR} {ls : ZL} {st : List ZV} {h : ZH} {b : ZB2} (hX : zCl E mX10_ofHead 10 false CT Rt X) (q : bk_X10_ofHead_121 E CT X Rt ls st h b) : X 121 ls st h b := by
  refine hX k_X10_ofHead_121 121 ok_X10_ofHead_121 _ ?_ ls st h b q
  exact fun t ls st h b q => q
-- X10_ofHead: cuts [8, 16, 23, 60, 73, 86, 99, 112, 121]
def k_X10_delay_0 : List ZI := [(.iload_n 1, 1, (0, [1], [])), (.bipush 9, 2, (0, [], [])), (.invokestatic 92, 3, (0, [111, 2, 0, 10], [])), (.ifCond .eq 10, 3, (0, [16], []))]
theorem ok_X10_delay_0 : zOK cX10_delay 10 false 3 k_X10_delay_0 0 = true := zOK_by (by decide +kernel)
def k_X10_delay_9 : List ZI := [(.aload_n 0, 1, (0, [0], [])), (.ldc 96, 2, ((-1000000001), [], [])), (.invokevirtual 97, 3, (0, [110, 2, 0, 10], [])), (.ireturn, 1, (0, [], []))]
theorem ok_X10_delay_9 : zOK cX10_delay 10 false 3 k_X10_delay_9 9 = true := zOK_by (by decide +kernel)
def k_X10_delay_16 : List ZI := [(.aload_n 0, 1, (0, [0], [])), (.getfield 12, 3, (0, [10, 0], [])), (.getfield 21, 3, (0, [6, 0], [])), (.getfield 136, 3, (0, [2, 8], [])), (.istore_n 2, 1, (0, [2], [])), (.aload_n 0, 1, (0, [0], [])), (.getfield 12, 3, (0, [10, 0], [])), (.getfield 21, 3, (0, [6, 0], [])), (.iload_n 1, 1, (0, [1], [])), (.putfield 136, 3, (0, [2, 8], [])), (.iload_n 2, 1, (0, [2], [])), (.ireturn, 1, (0, [], []))]
theorem ok_X10_delay_16 : zOK cX10_delay 10 false 3 k_X10_delay_16 16 = true := zOK_by (by decide +kernel)
theorem rt_X10_delay {g : Nat} {post : Option ZV → ZH → Prop} {h : ZH} {b : ZB2} {z : Int} : zRt mX10_delay g post (some (.inl z)) h b = (post (some (.inl z)) h ∧ h.1.length = g) := by show (_ ∧ _ ∧ True) = _; simp
def bk_X10_delay_0 (E : ZE) (CT : Nat → ZC) (X : ZK) (Rt : ZR) (ls : ZL) (st : List ZV) (h : ZH) (b : ZB2) : Prop := zB E CT k_X10_delay_0 0 ls st h b (fun t ls st h b => X t ls st h b) Rt
theorem bs_X10_delay_0 {E : ZE} {CT : Nat → ZC} {X : ZK} {Rt : ZR} {ls : ZL} {st : List ZV} {h : ZH} {b : ZB2} (hX : zCl E mX10_delay 10 false CT Rt X) (q : bk_X10_delay_0 E CT X Rt ls st h b) : X 0 ls st h b := by
  refine hX k_X10_delay_0 0 ok_X10_delay_0 _ ?_ ls st h b q
  exact fun t ls st h b q => q
def bk_X10_delay_9 (E : ZE) (CT : Nat → ZC) (X : ZK) (Rt : ZR) (ls : ZL) (st : List ZV) (h : ZH) (b : ZB2) : Prop := zB E CT k_X10_delay_9 9 ls st h b (fun t ls st h b => X t ls st h b) Rt
theorem bs_X10_delay_9 {E : ZE} {CT : Nat → ZC} {X : ZK} {Rt : ZR} {ls : ZL} {st : List ZV} {h : ZH} {b : ZB2} (hX : zCl E mX10_delay 10 false CT Rt X) (q : bk_X10_delay_9 E CT X Rt ls st h b) : X 9 ls st h b := by
  refine hX k_X10_delay_9 9 ok_X10_delay_9 _ ?_ ls st h b q
  exact fun t ls st h b q => q
def bk_X10_delay_16 (E : ZE) (CT : Nat → ZC) (X : ZK) (Rt : ZR) (ls : ZL) (st : List ZV) (h : ZH) (b : ZB2) : Prop := zB E CT k_X10_delay_16 16 ls st h b (fun t ls st h b => X t ls st h b) Rt
theorem bs_X10_delay_16 {E : ZE} {CT : Nat → ZC} {X : ZK} {Rt : ZR} {ls : ZL} {st : List ZV} {h : ZH} {b : ZB2} (hX : zCl E mX10_delay 10 false CT Rt X) (q : bk_X10_delay_16 E CT X Rt ls st h b) : X 16 ls st h b := by
  refine hX k_X10_delay_16 16 ok_X10_delay_16 _ ?_ ls st h b q
  exact fun t ls st h b q => q
-- X10_delay: cuts [9, 16]
def k_X10_engineer_0 : List ZI := [(.iload_n 1, 1, (0, [1], [])), (.bipush 69, 2, (0, [], [])), (.invokestatic 92, 3, (0, [111, 2, 0, 10], [])), (.ifCond .ne 11, 3, (0, [17], []))]
theorem ok_X10_engineer_0 : zOK cX10_engineer 10 false 4 k_X10_engineer_0 0 = true := zOK_by (by decide +kernel)
def k_X10_engineer_9 : List ZI := [(.iload_n 2, 1, (0, [2], [])), (.iconst 1, 1, (0, [], [])), (.invokestatic 92, 3, (0, [111, 2, 0, 10], [])), (.ifCond .eq 10, 3, (0, [24], []))]
theorem ok_X10_engineer_9 : zOK cX10_engineer 10 false 4 k_X10_engineer_9 9 = true := zOK_by (by decide +kernel)
def k_X10_engineer_17 : List ZI := [(.aload_n 0, 1, (0, [0], [])), (.ldc 96, 2, ((-1000000001), [], [])), (.invokevirtual 97, 3, (0, [110, 2, 0, 10], [])), (.ireturn, 1, (0, [], []))]
theorem ok_X10_engineer_17 : zOK cX10_engineer 10 false 4 k_X10_engineer_17 17 = true := zOK_by (by decide +kernel)
def k_X10_engineer_24 : List ZI := [(.aload_n 0, 1, (0, [0], [])), (.getfield 12, 3, (0, [10, 0], [])), (.getfield 25, 3, (0, [6, 1], [])), (.getfield 140, 3, (0, [0, 3], [])), (.bipush 8, 2, (0, [], [])), (.if_icmp .lt 10, 3, (0, [46], [])), (.aload_n 0, 1, (0, [0], [])), (.ldc 143, 2, ((-1000000004), [], [])), (.invokevirtual 97, 3, (0, [110, 2, 0, 10], [])), (.ireturn, 1, (0, [], []))]
theorem ok_X10_engineer_24 : zOK cX10_engineer 10 false 4 k_X10_engineer_24 24 = true := zOK_by (by decide +kernel)
def k_X10_engineer_46 : List ZI := [(.aload_n 0, 1, (0, [0], [])), (.getfield 12, 3, (0, [10, 0], [])), (.getfield 25, 3, (0, [6, 1], [])), (.getfield 140, 3, (0, [0, 3], [])), (.istore_n 3, 1, (0, [3], [])), (.aload_n 0, 1, (0, [0], [])), (.getfield 12, 3, (0, [10, 0], [])), (.getfield 25, 3, (0, [6, 1], [])), (.dup, 1, (0, [], [])), (.getfield 140, 3, (0, [0, 3], [])), (.iconst 1, 1, (0, [], [])), (.iadd, 1, (0, [], [])), (.putfield 140, 3, (0, [0, 3], [])), (.aload_n 0, 1, (0, [0], [])), (.getfield 12, 3, (0, [10, 0], [])), (.getfield 25, 3, (0, [6, 1], [])), (.getfield 144, 3, (0, [0, 0], [])), (.iload_n 3, 1, (0, [3], [])), (.iload_n 1, 1, (0, [1], [])), (.bipush 10, 2, (0, [], [])), (.idiv, 1, (0, [], [])), (.iastore, 1, (0, [], [])), (.aload_n 0, 1, (0, [0], [])), (.getfield 12, 3, (0, [10, 0], [])), (.getfield 25, 3, (0, [6, 1], [])), (.getfield 147, 3, (0, [0, 1], [])), (.iload_n 3, 1, (0, [3], [])), (.iload_n 1, 1, (0, [1], [])), (.bipush 10, 2, (0, [], [])), (.irem, 1, (0, [], [])), (.iastore, 1, (0, [], [])), (.aload_n 0, 1, (0, [0], [])), (.getfield 12, 3, (0, [10, 0], [])), (.getfield 25, 3, (0, [6, 1], [])), (.getfield 150, 3, (0, [0, 2], [])), (.iload_n 3, 1, (0, [3], [])), (.iload_n 2, 1, (0, [2], [])), (.iastore, 1, (0, [], [])), (.iload_n 3, 1, (0, [3], [])), (.ireturn, 1, (0, [], []))]
theorem ok_X10_engineer_46 : zOK cX10_engineer 10 false 4 k_X10_engineer_46 46 = true := zOK_by (by decide +kernel)
theorem rt_X10_engineer {g : Nat} {post : Option ZV → ZH → Prop} {h : ZH} {b : ZB2} {z : Int} : zRt mX10_engineer g post (some (.inl z)) h b = (post (some (.inl z)) h ∧ h.1.length = g) := by show (_ ∧ _ ∧ True) = _; simp
def bk_X10_engineer_0 (E : ZE) (CT : Nat → ZC) (X : ZK) (Rt : ZR) (ls : ZL) (st : List ZV) (h : ZH) (b : ZB2) : Prop := zB E CT k_X10_engineer_0 0 ls st h b (fun t ls st h b => X t ls st h b) Rt
theorem bs_X10_engineer_0 {E : ZE} {CT : Nat → ZC} {X : ZK} {Rt : ZR} {ls : ZL} {st : List ZV} {h : ZH} {b : ZB2} (hX : zCl E mX10_engineer 10 false CT Rt X) (q : bk_X10_engineer_0 E CT X Rt ls st h b) : X 0 ls st h b := by
  refine hX k_X10_engineer_0 0 ok_X10_engineer_0 _ ?_ ls st h b q
  exact fun t ls st h b q => q
def bk_X10_engineer_9 (E : ZE) (CT : Nat → ZC) (X : ZK) (Rt : ZR) (ls : ZL) (st : List ZV) (h : ZH) (b : ZB2) : Prop := zB E CT k_X10_engineer_9 9 ls st h b (fun t ls st h b => X t ls st h b) Rt
theorem bs_X10_engineer_9 {E : ZE} {CT : Nat → ZC} {X : ZK} {Rt : ZR} {ls : ZL} {st : List ZV} {h : ZH} {b : ZB2} (hX : zCl E mX10_engineer 10 false CT Rt X) (q : bk_X10_engineer_9 E CT X Rt ls st h b) : X 9 ls st h b := by
  refine hX k_X10_engineer_9 9 ok_X10_engineer_9 _ ?_ ls st h b q
  exact fun t ls st h b q => q
def bk_X10_engineer_17 (E : ZE) (CT : Nat → ZC) (X : ZK) (Rt : ZR) (ls : ZL) (st : List ZV) (h : ZH) (b : ZB2) : Prop := zB E CT k_X10_engineer_17 17 ls st h b (fun t ls st h b => X t ls st h b) Rt
theorem bs_X10_engineer_17 {E : ZE} {CT : Nat → ZC} {X : ZK} {Rt : ZR} {ls : ZL} {st : List ZV} {h : ZH} {b : ZB2} (hX : zCl E mX10_engineer 10 false CT Rt X) (q : bk_X10_engineer_17 E CT X Rt ls st h b) : X 17 ls st h b := by
  refine hX k_X10_engineer_17 17 ok_X10_engineer_17 _ ?_ ls st h b q
  exact fun t ls st h b q => q
def bk_X10_engineer_24 (E : ZE) (CT : Nat → ZC) (X : ZK) (Rt : ZR) (ls : ZL) (st : List ZV) (h : ZH) (b : ZB2) : Prop := zB E CT k_X10_engineer_24 24 ls st h b (fun t ls st h b => X t ls st h b) Rt
theorem bs_X10_engineer_24 {E : ZE} {CT : Nat → ZC} {X : ZK} {Rt : ZR} {ls : ZL} {st : List ZV} {h : ZH} {b : ZB2} (hX : zCl E mX10_engineer 10 false CT Rt X) (q : bk_X10_engineer_24 E CT X Rt ls st h b) : X 24 ls st h b := by
  refine hX k_X10_engineer_24 24 ok_X10_engineer_24 _ ?_ ls st h b q
  exact fun t ls st h b q => q
def bk_X10_engineer_46 (E : ZE) (CT : Nat → ZC) (X : ZK) (Rt : ZR) (ls : ZL) (st : List ZV) (h : ZH) (b : ZB2) : Prop := zB E CT k_X10_engineer_46 46 ls st h b (fun t ls st h b => X t ls st h b) Rt
theorem bs_X10_engineer_46 {E : ZE} {CT : Nat → ZC} {X : ZK} {Rt : ZR} {ls : ZL} {st : List ZV} {h : ZH} {b : ZB2} (hX : zCl E mX10_engineer 10 false CT Rt X) (q : bk_X10_engineer_46 E CT X Rt ls st h b) : X 46 ls st h b := by
  refine hX k_X10_engineer_46 46 ok_X10_engineer_46 _ ?_ ls st h b q
  exact fun t ls st h b q => q
-- X10_engineer: cuts [9, 17, 24, 46]
def k_X10_ofEngineer_0 : List ZI := [(.aload_n 0, 1, (0, [0], [])), (.iload_n 1, 1, (0, [1], [])), (.invokevirtual 153, 3, (0, [112, 2, 0, 10], [])), (.ifCond .ne 11, 3, (0, [16], []))]
theorem ok_X10_ofEngineer_0 : zOK cX10_ofEngineer 10 false 3 k_X10_ofEngineer_0 0 = true := zOK_by (by decide +kernel)
def k_X10_ofEngineer_8 : List ZI := [(.iload_n 2, 1, (0, [2], [])), (.iconst 4, 1, (0, [], [])), (.invokestatic 92, 3, (0, [111, 2, 0, 10], [])), (.ifCond .eq 10, 3, (0, [23], []))]
theorem ok_X10_ofEngineer_8 : zOK cX10_ofEngineer 10 false 3 k_X10_ofEngineer_8 8 = true := zOK_by (by decide +kernel)
def k_X10_ofEngineer_16 : List ZI := [(.aload_n 0, 1, (0, [0], [])), (.ldc 96, 2, ((-1000000001), [], [])), (.invokevirtual 97, 3, (0, [110, 2, 0, 10], [])), (.ireturn, 1, (0, [], []))]
theorem ok_X10_ofEngineer_16 : zOK cX10_ofEngineer 10 false 3 k_X10_ofEngineer_16 16 = true := zOK_by (by decide +kernel)
def k_X10_ofEngineer_23 : List ZI := [(.iload_n 2, 1, (0, [2], [])), (.tableswitch 99 0 3 #[32, 45, 58, 71], 32, (0, [123], [(0, 56), (1, 69), (2, 82), (3, 95)]))]
theorem ok_X10_ofEngineer_23 : zOK cX10_ofEngineer 10 false 3 k_X10_ofEngineer_23 23 = true := zOK_by (by decide +kernel)
def k_X10_ofEngineer_56 : List ZI := [(.aload_n 0, 1, (0, [0], [])), (.getfield 12, 3, (0, [10, 0], [])), (.getfield 25, 3, (0, [6, 1], [])), (.getfield 144, 3, (0, [0, 0], [])), (.iload_n 1, 1, (0, [1], [])), (.iaload, 1, (0, [], [])), (.ireturn, 1, (0, [], []))]
theorem ok_X10_ofEngineer_56 : zOK cX10_ofEngineer 10 false 3 k_X10_ofEngineer_56 56 = true := zOK_by (by decide +kernel)
def k_X10_ofEngineer_69 : List ZI := [(.aload_n 0, 1, (0, [0], [])), (.getfield 12, 3, (0, [10, 0], [])), (.getfield 25, 3, (0, [6, 1], [])), (.getfield 147, 3, (0, [0, 1], [])), (.iload_n 1, 1, (0, [1], [])), (.iaload, 1, (0, [], [])), (.ireturn, 1, (0, [], []))]
theorem ok_X10_ofEngineer_69 : zOK cX10_ofEngineer 10 false 3 k_X10_ofEngineer_69 69 = true := zOK_by (by decide +kernel)
def k_X10_ofEngineer_82 : List ZI := [(.aload_n 0, 1, (0, [0], [])), (.getfield 12, 3, (0, [10, 0], [])), (.getfield 25, 3, (0, [6, 1], [])), (.getfield 150, 3, (0, [0, 2], [])), (.iload_n 1, 1, (0, [1], [])), (.iaload, 1, (0, [], [])), (.ireturn, 1, (0, [], []))]
theorem ok_X10_ofEngineer_82 : zOK cX10_ofEngineer 10 false 3 k_X10_ofEngineer_82 82 = true := zOK_by (by decide +kernel)
def k_X10_ofEngineer_95 : List ZI := [(.aload_n 0, 1, (0, [0], [])), (.getfield 39, 3, (0, [10, 2], [])), (.aload_n 0, 1, (0, [0], [])), (.getfield 12, 3, (0, [10, 0], [])), (.getfield 25, 3, (0, [6, 1], [])), (.getfield 150, 3, (0, [0, 2], [])), (.iload_n 1, 1, (0, [1], [])), (.iaload, 1, (0, [], [])), (.invokevirtual 157, 3, (0, [6, 2, 0, 1], []))]
theorem ok_X10_ofEngineer_95 : zOK cX10_ofEngineer 10 false 3 k_X10_ofEngineer_95 95 = true := zOK_by (by decide +kernel)
def k_X10_ofEngineer_114 : List ZI := [(.aload_n 0, 1, (0, [0], [])), (.getfield 39, 3, (0, [10, 2], [])), (.iload_n 1, 1, (0, [1], [])), (.invokevirtual 161, 3, (0, [7, 2, 0, 1], [])), (.ireturn, 1, (0, [], []))]
theorem ok_X10_ofEngineer_114 : zOK cX10_ofEngineer 10 false 3 k_X10_ofEngineer_114 114 = true := zOK_by (by decide +kernel)
def k_X10_ofEngineer_123 : List ZI := [(.aload_n 0, 1, (0, [0], [])), (.getfield 39, 3, (0, [10, 2], [])), (.aload_n 0, 1, (0, [0], [])), (.getfield 12, 3, (0, [10, 0], [])), (.getfield 25, 3, (0, [6, 1], [])), (.getfield 150, 3, (0, [0, 2], [])), (.iload_n 1, 1, (0, [1], [])), (.iaload, 1, (0, [], [])), (.invokevirtual 157, 3, (0, [6, 2, 0, 1], []))]
theorem ok_X10_ofEngineer_123 : zOK cX10_ofEngineer 10 false 3 k_X10_ofEngineer_123 123 = true := zOK_by (by decide +kernel)
def k_X10_ofEngineer_142 : List ZI := [(.aload_n 0, 1, (0, [0], [])), (.getfield 39, 3, (0, [10, 2], [])), (.iload_n 1, 1, (0, [1], [])), (.invokevirtual 164, 3, (0, [13, 2, 0, 1], [])), (.ireturn, 1, (0, [], []))]
theorem ok_X10_ofEngineer_142 : zOK cX10_ofEngineer 10 false 3 k_X10_ofEngineer_142 142 = true := zOK_by (by decide +kernel)
theorem rt_X10_ofEngineer {g : Nat} {post : Option ZV → ZH → Prop} {h : ZH} {b : ZB2} {z : Int} : zRt mX10_ofEngineer g post (some (.inl z)) h b = (post (some (.inl z)) h ∧ h.1.length = g) := by show (_ ∧ _ ∧ True) = _; simp
def bk_X10_ofEngineer_0 (E : ZE) (CT : Nat → ZC) (X : ZK) (Rt : ZR) (ls : ZL) (st : List ZV) (h : ZH) (b : ZB2) : Prop := zB E CT k_X10_ofEngineer_0 0 ls st h b (fun t ls st h b => X t ls st h b) Rt
theorem bs_X10_ofEngineer_0 {E : ZE} {CT : Nat → ZC} {X : ZK} {Rt : ZR} {ls : ZL} {st : List ZV} {h : ZH} {b : ZB2} (hX : zCl E mX10_ofEngineer 10 false CT Rt X) (q : bk_X10_ofEngineer_0 E CT X Rt ls st h b) : X 0 ls st h b := by
  refine hX k_X10_ofEngineer_0 0 ok_X10_ofEngineer_0 _ ?_ ls st h b q
  exact fun t ls st h b q => q
def bk_X10_ofEngineer_8 (E : ZE) (CT : Nat → ZC) (X : ZK) (Rt : ZR) (ls : ZL) (st : List ZV) (h : ZH) (b : ZB2) : Prop := zB E CT k_X10_ofEngineer_8 8 ls st h b (fun t ls st h b => X t ls st h b) Rt
theorem bs_X10_ofEngineer_8 {E : ZE} {CT : Nat → ZC} {X : ZK} {Rt : ZR} {ls : ZL} {st : List ZV} {h : ZH} {b : ZB2} (hX : zCl E mX10_ofEngineer 10 false CT Rt X) (q : bk_X10_ofEngineer_8 E CT X Rt ls st h b) : X 8 ls st h b := by
  refine hX k_X10_ofEngineer_8 8 ok_X10_ofEngineer_8 _ ?_ ls st h b q
  exact fun t ls st h b q => q
def bk_X10_ofEngineer_16 (E : ZE) (CT : Nat → ZC) (X : ZK) (Rt : ZR) (ls : ZL) (st : List ZV) (h : ZH) (b : ZB2) : Prop := zB E CT k_X10_ofEngineer_16 16 ls st h b (fun t ls st h b => X t ls st h b) Rt
theorem bs_X10_ofEngineer_16 {E : ZE} {CT : Nat → ZC} {X : ZK} {Rt : ZR} {ls : ZL} {st : List ZV} {h : ZH} {b : ZB2} (hX : zCl E mX10_ofEngineer 10 false CT Rt X) (q : bk_X10_ofEngineer_16 E CT X Rt ls st h b) : X 16 ls st h b := by
  refine hX k_X10_ofEngineer_16 16 ok_X10_ofEngineer_16 _ ?_ ls st h b q
  exact fun t ls st h b q => q
def bk_X10_ofEngineer_23 (E : ZE) (CT : Nat → ZC) (X : ZK) (Rt : ZR) (ls : ZL) (st : List ZV) (h : ZH) (b : ZB2) : Prop := zB E CT k_X10_ofEngineer_23 23 ls st h b (fun t ls st h b => X t ls st h b) Rt
theorem bs_X10_ofEngineer_23 {E : ZE} {CT : Nat → ZC} {X : ZK} {Rt : ZR} {ls : ZL} {st : List ZV} {h : ZH} {b : ZB2} (hX : zCl E mX10_ofEngineer 10 false CT Rt X) (q : bk_X10_ofEngineer_23 E CT X Rt ls st h b) : X 23 ls st h b := by
  refine hX k_X10_ofEngineer_23 23 ok_X10_ofEngineer_23 _ ?_ ls st h b q
  exact fun t ls st h b q => q
def bk_X10_ofEngineer_56 (E : ZE) (CT : Nat → ZC) (X : ZK) (Rt : ZR) (ls : ZL) (st : List ZV) (h : ZH) (b : ZB2) : Prop := zB E CT k_X10_ofEngineer_56 56 ls st h b (fun t ls st h b => X t ls st h b) Rt
theorem bs_X10_ofEngineer_56 {E : ZE} {CT : Nat → ZC} {X : ZK} {Rt : ZR} {ls : ZL} {st : List ZV} {h : ZH} {b : ZB2} (hX : zCl E mX10_ofEngineer 10 false CT Rt X) (q : bk_X10_ofEngineer_56 E CT X Rt ls st h b) : X 56 ls st h b := by
  refine hX k_X10_ofEngineer_56 56 ok_X10_ofEngineer_56 _ ?_ ls st h b q
  exact fun t ls st h b q => q
def bk_X10_ofEngineer_69 (E : ZE) (CT : Nat → ZC) (X : ZK) (Rt : ZR) (ls : ZL) (st : List ZV) (h : ZH) (b : ZB2) : Prop := zB E CT k_X10_ofEngineer_69 69 ls st h b (fun t ls st h b => X t ls st h b) Rt
theorem bs_X10_ofEngineer_69 {E : ZE} {CT : Nat → ZC} {X : ZK} {Rt : ZR} {ls : ZL} {st : List ZV} {h : ZH} {b : ZB2} (hX : zCl E mX10_ofEngineer 10 false CT Rt X) (q : bk_X10_ofEngineer_69 E CT X Rt ls st h b) : X 69 ls st h b := by
  refine hX k_X10_ofEngineer_69 69 ok_X10_ofEngineer_69 _ ?_ ls st h b q
  exact fun t ls st h b q => q
def bk_X10_ofEngineer_82 (E : ZE) (CT : Nat → ZC) (X : ZK) (Rt : ZR) (ls : ZL) (st : List ZV) (h : ZH) (b : ZB2) : Prop := zB E CT k_X10_ofEngineer_82 82 ls st h b (fun t ls st h b => X t ls st h b) Rt
theorem bs_X10_ofEngineer_82 {E : ZE} {CT : Nat → ZC} {X : ZK} {Rt : ZR} {ls : ZL} {st : List ZV} {h : ZH} {b : ZB2} (hX : zCl E mX10_ofEngineer 10 false CT Rt X) (q : bk_X10_ofEngineer_82 E CT X Rt ls st h b) : X 82 ls st h b := by
  refine hX k_X10_ofEngineer_82 82 ok_X10_ofEngineer_82 _ ?_ ls st h b q
  exact fun t ls st h b q => q
def bk_X10_ofEngineer_95 (E : ZE) (CT : Nat → ZC) (X : ZK) (Rt : ZR) (ls : ZL) (st : List ZV) (h : ZH) (b : ZB2) : Prop := zB E CT k_X10_ofEngineer_95 95 ls st h b (fun t ls st h b => X t ls st h b) Rt
theorem bs_X10_ofEngineer_95 {E : ZE} {CT : Nat → ZC} {X : ZK} {Rt : ZR} {ls : ZL} {st : List ZV} {h : ZH} {b : ZB2} (hX : zCl E mX10_ofEngineer 10 false CT Rt X) (q : bk_X10_ofEngineer_95 E CT X Rt ls st h b) : X 95 ls st h b := by
  refine hX k_X10_ofEngineer_95 95 ok_X10_ofEngineer_95 _ ?_ ls st h b q
  exact fun t ls st h b q => q
def bk_X10_ofEngineer_114 (E : ZE) (CT : Nat → ZC) (X : ZK) (Rt : ZR) (ls : ZL) (st : List ZV) (h : ZH) (b : ZB2) : Prop := zB E CT k_X10_ofEngineer_114 114 ls st h b (fun t ls st h b => X t ls st h b) Rt
theorem bs_X10_ofEngineer_114 {E : ZE} {CT : Nat → ZC} {X : ZK} {Rt : ZR} {ls : ZL} {st : List ZV} {h : ZH} {b : ZB2} (hX : zCl E mX10_ofEngineer 10 false CT Rt X) (q : bk_X10_ofEngineer_114 E CT X Rt ls st h b) : X 114 ls st h b := by
  refine hX k_X10_ofEngineer_114 114 ok_X10_ofEngineer_114 _ ?_ ls st h b q
  exact fun t ls st h b q => q
def bk_X10_ofEngineer_123 (E : ZE) (CT : Nat → ZC) (X : ZK) (Rt : ZR) (ls : ZL) (st : List ZV) (h : ZH) (b : ZB2) : Prop := zB E CT k_X10_ofEngineer_123 123 ls st h b (fun t ls st h b => X t ls st h b) Rt
theorem bs_X10_ofEngineer_123 {E : ZE} {CT : Nat → ZC} {X : ZK} {Rt : ZR} {ls : ZL} {st : List ZV} {h : ZH} {b : ZB2} (hX : zCl E mX10_ofEngineer 10 false CT Rt X) (q : bk_X10_ofEngineer_123 E CT X Rt ls st h b) : X 123 ls st h b := by
  refine hX k_X10_ofEngineer_123 123 ok_X10_ofEngineer_123 _ ?_ ls st h b q
  exact fun t ls st h b q => q
def bk_X10_ofEngineer_142 (E : ZE) (CT : Nat → ZC) (X : ZK) (Rt : ZR) (ls : ZL) (st : List ZV) (h : ZH) (b : ZB2) : Prop := zB E CT k_X10_ofEngineer_142 142 ls st h b (fun t ls st h b => X t ls st h b) Rt
theorem bs_X10_ofEngineer_142 {E : ZE} {CT : Nat → ZC} {X : ZK} {Rt : ZR} {ls : ZL} {st : List ZV} {h : ZH} {b : ZB2} (hX : zCl E mX10_ofEngineer 10 false CT Rt X) (q : bk_X10_ofEngineer_142 E CT X Rt ls st h b) : X 142 ls st h b := by
  refine hX k_X10_ofEngineer_142 142 ok_X10_ofEngineer_142 _ ?_ ls st h b q
  exact fun t ls st h b q => q
-- X10_ofEngineer: cuts [8, 16, 23, 56, 69, 82, 95, 114, 123, 142]
def k_X10_change_0 : List ZI := [(.aload_n 0, 1, (0, [0], [])), (.iload_n 1, 1, (0, [1], [])), (.invokevirtual 153, 3, (0, [112, 2, 0, 10], [])), (.ifCond .ne 11, 3, (0, [16], []))]
theorem ok_X10_change_0 : zOK cX10_change 10 false 4 k_X10_change_0 0 = true := zOK_by (by decide +kernel)
def k_X10_change_8 : List ZI := [(.iload_n 2, 1, (0, [2], [])), (.iconst 1, 1, (0, [], [])), (.invokestatic 92, 3, (0, [111, 2, 0, 10], [])), (.ifCond .eq 10, 3, (0, [23], []))]
theorem ok_X10_change_8 : zOK cX10_change 10 false 4 k_X10_change_8 8 = true := zOK_by (by decide +kernel)
def k_X10_change_16 : List ZI := [(.aload_n 0, 1, (0, [0], [])), (.ldc 96, 2, ((-1000000001), [], [])), (.invokevirtual 97, 3, (0, [110, 2, 0, 10], [])), (.ireturn, 1, (0, [], []))]
theorem ok_X10_change_16 : zOK cX10_change 10 false 4 k_X10_change_16 16 = true := zOK_by (by decide +kernel)
def k_X10_change_23 : List ZI := [(.aload_n 0, 1, (0, [0], [])), (.getfield 12, 3, (0, [10, 0], [])), (.getfield 25, 3, (0, [6, 1], [])), (.getfield 150, 3, (0, [0, 2], [])), (.iload_n 1, 1, (0, [1], [])), (.iaload, 1, (0, [], [])), (.istore_n 3, 1, (0, [3], [])), (.aload_n 0, 1, (0, [0], [])), (.getfield 12, 3, (0, [10, 0], [])), (.getfield 25, 3, (0, [6, 1], [])), (.getfield 150, 3, (0, [0, 2], [])), (.iload_n 1, 1, (0, [1], [])), (.iload_n 2, 1, (0, [2], [])), (.iastore, 1, (0, [], [])), (.iload_n 3, 1, (0, [3], [])), (.ireturn, 1, (0, [], []))]
theorem ok_X10_change_23 : zOK cX10_change 10 false 4 k_X10_change_23 23 = true := zOK_by (by decide +kernel)
theorem rt_X10_change {g : Nat} {post : Option ZV → ZH → Prop} {h : ZH} {b : ZB2} {z : Int} : zRt mX10_change g post (some (.inl z)) h b = (post (some (.inl z)) h ∧ h.1.length = g) := by show (_ ∧ _ ∧ True) = _; simp
def bk_X10_change_0 (E : ZE) (CT : Nat → ZC) (X : ZK) (Rt : ZR) (ls : ZL) (st : List ZV) (h : ZH) (b : ZB2) : Prop := zB E CT k_X10_change_0 0 ls st h b (fun t ls st h b => X t ls st h b) Rt
theorem bs_X10_change_0 {E : ZE} {CT : Nat → ZC} {X : ZK} {Rt : ZR} {ls : ZL} {st : List ZV} {h : ZH} {b : ZB2} (hX : zCl E mX10_change 10 false CT Rt X) (q : bk_X10_change_0 E CT X Rt ls st h b) : X 0 ls st h b := by
  refine hX k_X10_change_0 0 ok_X10_change_0 _ ?_ ls st h b q
  exact fun t ls st h b q => q
def bk_X10_change_8 (E : ZE) (CT : Nat → ZC) (X : ZK) (Rt : ZR) (ls : ZL) (st : List ZV) (h : ZH) (b : ZB2) : Prop := zB E CT k_X10_change_8 8 ls st h b (fun t ls st h b => X t ls st h b) Rt
theorem bs_X10_change_8 {E : ZE} {CT : Nat → ZC} {X : ZK} {Rt : ZR} {ls : ZL} {st : List ZV} {h : ZH} {b : ZB2} (hX : zCl E mX10_change 10 false CT Rt X) (q : bk_X10_change_8 E CT X Rt ls st h b) : X 8 ls st h b := by
  refine hX k_X10_change_8 8 ok_X10_change_8 _ ?_ ls st h b q
  exact fun t ls st h b q => q
def bk_X10_change_16 (E : ZE) (CT : Nat → ZC) (X : ZK) (Rt : ZR) (ls : ZL) (st : List ZV) (h : ZH) (b : ZB2) : Prop := zB E CT k_X10_change_16 16 ls st h b (fun t ls st h b => X t ls st h b) Rt
theorem bs_X10_change_16 {E : ZE} {CT : Nat → ZC} {X : ZK} {Rt : ZR} {ls : ZL} {st : List ZV} {h : ZH} {b : ZB2} (hX : zCl E mX10_change 10 false CT Rt X) (q : bk_X10_change_16 E CT X Rt ls st h b) : X 16 ls st h b := by
  refine hX k_X10_change_16 16 ok_X10_change_16 _ ?_ ls st h b q
  exact fun t ls st h b q => q
def bk_X10_change_23 (E : ZE) (CT : Nat → ZC) (X : ZK) (Rt : ZR) (ls : ZL) (st : List ZV) (h : ZH) (b : ZB2) : Prop := zB E CT k_X10_change_23 23 ls st h b (fun t ls st h b => X t ls st h b) Rt
theorem bs_X10_change_23 {E : ZE} {CT : Nat → ZC} {X : ZK} {Rt : ZR} {ls : ZL} {st : List ZV} {h : ZH} {b : ZB2} (hX : zCl E mX10_change 10 false CT Rt X) (q : bk_X10_change_23 E CT X Rt ls st h b) : X 23 ls st h b := by
  refine hX k_X10_change_23 23 ok_X10_change_23 _ ?_ ls st h b q
  exact fun t ls st h b q => q
-- X10_change: cuts [8, 16, 23]
def k_X10_become_0 : List ZI := [(.aload_n 0, 1, (0, [0], [])), (.iload_n 1, 1, (0, [1], [])), (.invokevirtual 153, 3, (0, [112, 2, 0, 10], [])), (.ifCond .ne 12, 3, (0, [17], []))]
theorem ok_X10_become_0 : zOK cX10_become 10 false 4 k_X10_become_0 0 = true := zOK_by (by decide +kernel)
def k_X10_become_8 : List ZI := [(.iload_n 2, 1, (0, [2], [])), (.bipush 69, 2, (0, [], [])), (.invokestatic 92, 3, (0, [111, 2, 0, 10], [])), (.ifCond .eq 10, 3, (0, [24], []))]
theorem ok_X10_become_8 : zOK cX10_become 10 false 4 k_X10_become_8 8 = true := zOK_by (by decide +kernel)
def k_X10_become_17 : List ZI := [(.aload_n 0, 1, (0, [0], [])), (.ldc 96, 2, ((-1000000001), [], [])), (.invokevirtual 97, 3, (0, [110, 2, 0, 10], [])), (.ireturn, 1, (0, [], []))]
theorem ok_X10_become_17 : zOK cX10_become 10 false 4 k_X10_become_17 17 = true := zOK_by (by decide +kernel)
def k_X10_become_24 : List ZI := [(.aload_n 0, 1, (0, [0], [])), (.getfield 12, 3, (0, [10, 0], [])), (.getfield 25, 3, (0, [6, 1], [])), (.getfield 144, 3, (0, [0, 0], [])), (.iload_n 1, 1, (0, [1], [])), (.iaload, 1, (0, [], [])), (.istore_n 3, 1, (0, [3], [])), (.aload_n 0, 1, (0, [0], [])), (.getfield 12, 3, (0, [10, 0], [])), (.getfield 25, 3, (0, [6, 1], [])), (.getfield 144, 3, (0, [0, 0], [])), (.iload_n 1, 1, (0, [1], [])), (.iload_n 2, 1, (0, [2], [])), (.bipush 10, 2, (0, [], [])), (.idiv, 1, (0, [], [])), (.iastore, 1, (0, [], [])), (.aload_n 0, 1, (0, [0], [])), (.getfield 12, 3, (0, [10, 0], [])), (.getfield 25, 3, (0, [6, 1], [])), (.getfield 147, 3, (0, [0, 1], [])), (.iload_n 1, 1, (0, [1], [])), (.iload_n 2, 1, (0, [2], [])), (.bipush 10, 2, (0, [], [])), (.irem, 1, (0, [], [])), (.iastore, 1, (0, [], [])), (.iload_n 3, 1, (0, [3], [])), (.ireturn, 1, (0, [], []))]
theorem ok_X10_become_24 : zOK cX10_become 10 false 4 k_X10_become_24 24 = true := zOK_by (by decide +kernel)
theorem rt_X10_become {g : Nat} {post : Option ZV → ZH → Prop} {h : ZH} {b : ZB2} {z : Int} : zRt mX10_become g post (some (.inl z)) h b = (post (some (.inl z)) h ∧ h.1.length = g) := by show (_ ∧ _ ∧ True) = _; simp
def bk_X10_become_0 (E : ZE) (CT : Nat → ZC) (X : ZK) (Rt : ZR) (ls : ZL) (st : List ZV) (h : ZH) (b : ZB2) : Prop := zB E CT k_X10_become_0 0 ls st h b (fun t ls st h b => X t ls st h b) Rt
theorem bs_X10_become_0 {E : ZE} {CT : Nat → ZC} {X : ZK} {Rt : ZR} {ls : ZL} {st : List ZV} {h : ZH} {b : ZB2} (hX : zCl E mX10_become 10 false CT Rt X) (q : bk_X10_become_0 E CT X Rt ls st h b) : X 0 ls st h b := by
  refine hX k_X10_become_0 0 ok_X10_become_0 _ ?_ ls st h b q
  exact fun t ls st h b q => q
def bk_X10_become_8 (E : ZE) (CT : Nat → ZC) (X : ZK) (Rt : ZR) (ls : ZL) (st : List ZV) (h : ZH) (b : ZB2) : Prop := zB E CT k_X10_become_8 8 ls st h b (fun t ls st h b => X t ls st h b) Rt
theorem bs_X10_become_8 {E : ZE} {CT : Nat → ZC} {X : ZK} {Rt : ZR} {ls : ZL} {st : List ZV} {h : ZH} {b : ZB2} (hX : zCl E mX10_become 10 false CT Rt X) (q : bk_X10_become_8 E CT X Rt ls st h b) : X 8 ls st h b := by
  refine hX k_X10_become_8 8 ok_X10_become_8 _ ?_ ls st h b q
  exact fun t ls st h b q => q
def bk_X10_become_17 (E : ZE) (CT : Nat → ZC) (X : ZK) (Rt : ZR) (ls : ZL) (st : List ZV) (h : ZH) (b : ZB2) : Prop := zB E CT k_X10_become_17 17 ls st h b (fun t ls st h b => X t ls st h b) Rt
theorem bs_X10_become_17 {E : ZE} {CT : Nat → ZC} {X : ZK} {Rt : ZR} {ls : ZL} {st : List ZV} {h : ZH} {b : ZB2} (hX : zCl E mX10_become 10 false CT Rt X) (q : bk_X10_become_17 E CT X Rt ls st h b) : X 17 ls st h b := by
  refine hX k_X10_become_17 17 ok_X10_become_17 _ ?_ ls st h b q
  exact fun t ls st h b q => q
def bk_X10_become_24 (E : ZE) (CT : Nat → ZC) (X : ZK) (Rt : ZR) (ls : ZL) (st : List ZV) (h : ZH) (b : ZB2) : Prop := zB E CT k_X10_become_24 24 ls st h b (fun t ls st h b => X t ls st h b) Rt
theorem bs_X10_become_24 {E : ZE} {CT : Nat → ZC} {X : ZK} {Rt : ZR} {ls : ZL} {st : List ZV} {h : ZH} {b : ZB2} (hX : zCl E mX10_become 10 false CT Rt X) (q : bk_X10_become_24 E CT X Rt ls st h b) : X 24 ls st h b := by
  refine hX k_X10_become_24 24 ok_X10_become_24 _ ?_ ls st h b q
  exact fun t ls st h b q => q
-- X10_become: cuts [8, 17, 24]
def k_X10_as_0 : List ZI := [(.aload_n 0, 1, (0, [0], [])), (.iload_n 1, 1, (0, [1], [])), (.invokevirtual 153, 3, (0, [112, 2, 0, 10], [])), (.ifCond .ne 12, 3, (0, [17], []))]
theorem ok_X10_as_0 : zOK cX10_as 10 false 3 k_X10_as_0 0 = true := zOK_by (by decide +kernel)
def k_X10_as_8 : List ZI := [(.iload_n 2, 1, (0, [2], [])), (.bipush 6, 2, (0, [], [])), (.invokestatic 92, 3, (0, [111, 2, 0, 10], [])), (.ifCond .eq 10, 3, (0, [24], []))]
theorem ok_X10_as_8 : zOK cX10_as 10 false 3 k_X10_as_8 8 = true := zOK_by (by decide +kernel)
def k_X10_as_17 : List ZI := [(.aload_n 0, 1, (0, [0], [])), (.ldc 96, 2, ((-1000000001), [], [])), (.invokevirtual 97, 3, (0, [110, 2, 0, 10], [])), (.ireturn, 1, (0, [], []))]
theorem ok_X10_as_17 : zOK cX10_as 10 false 3 k_X10_as_17 17 = true := zOK_by (by decide +kernel)
def k_X10_as_24 : List ZI := [(.aload_n 0, 1, (0, [0], [])), (.getfield 12, 3, (0, [10, 0], [])), (.getfield 25, 3, (0, [6, 1], [])), (.getfield 144, 3, (0, [0, 0], [])), (.iload_n 1, 1, (0, [1], [])), (.iaload, 1, (0, [], [])), (.iload_n 2, 1, (0, [2], [])), (.invokestatic 167, 3, (0, [1, 2, 0, 0], [])), (.ifCond .ne 10, 3, (0, [50], []))]
theorem ok_X10_as_24 : zOK cX10_as 10 false 3 k_X10_as_24 24 = true := zOK_by (by decide +kernel)
def k_X10_as_43 : List ZI := [(.aload_n 0, 1, (0, [0], [])), (.ldc 170, 2, ((-1000000005), [], [])), (.invokevirtual 97, 3, (0, [110, 2, 0, 10], [])), (.ireturn, 1, (0, [], []))]
theorem ok_X10_as_43 : zOK cX10_as 10 false 3 k_X10_as_43 43 = true := zOK_by (by decide +kernel)
def k_X10_as_50 : List ZI := [(.aload_n 0, 1, (0, [0], [])), (.getfield 12, 3, (0, [10, 0], [])), (.getfield 25, 3, (0, [6, 1], [])), (.getfield 147, 3, (0, [0, 1], [])), (.iload_n 1, 1, (0, [1], [])), (.iaload, 1, (0, [], [])), (.ireturn, 1, (0, [], []))]
theorem ok_X10_as_50 : zOK cX10_as 10 false 3 k_X10_as_50 50 = true := zOK_by (by decide +kernel)
theorem rt_X10_as {g : Nat} {post : Option ZV → ZH → Prop} {h : ZH} {b : ZB2} {z : Int} : zRt mX10_as g post (some (.inl z)) h b = (post (some (.inl z)) h ∧ h.1.length = g) := by show (_ ∧ _ ∧ True) = _; simp
def bk_X10_as_0 (E : ZE) (CT : Nat → ZC) (X : ZK) (Rt : ZR) (ls : ZL) (st : List ZV) (h : ZH) (b : ZB2) : Prop := zB E CT k_X10_as_0 0 ls st h b (fun t ls st h b => X t ls st h b) Rt
theorem bs_X10_as_0 {E : ZE} {CT : Nat → ZC} {X : ZK} {Rt : ZR} {ls : ZL} {st : List ZV} {h : ZH} {b : ZB2} (hX : zCl E mX10_as 10 false CT Rt X) (q : bk_X10_as_0 E CT X Rt ls st h b) : X 0 ls st h b := by
  refine hX k_X10_as_0 0 ok_X10_as_0 _ ?_ ls st h b q
  exact fun t ls st h b q => q
def bk_X10_as_8 (E : ZE) (CT : Nat → ZC) (X : ZK) (Rt : ZR) (ls : ZL) (st : List ZV) (h : ZH) (b : ZB2) : Prop := zB E CT k_X10_as_8 8 ls st h b (fun t ls st h b => X t ls st h b) Rt
theorem bs_X10_as_8 {E : ZE} {CT : Nat → ZC} {X : ZK} {Rt : ZR} {ls : ZL} {st : List ZV} {h : ZH} {b : ZB2} (hX : zCl E mX10_as 10 false CT Rt X) (q : bk_X10_as_8 E CT X Rt ls st h b) : X 8 ls st h b := by
  refine hX k_X10_as_8 8 ok_X10_as_8 _ ?_ ls st h b q
  exact fun t ls st h b q => q
def bk_X10_as_17 (E : ZE) (CT : Nat → ZC) (X : ZK) (Rt : ZR) (ls : ZL) (st : List ZV) (h : ZH) (b : ZB2) : Prop := zB E CT k_X10_as_17 17 ls st h b (fun t ls st h b => X t ls st h b) Rt
theorem bs_X10_as_17 {E : ZE} {CT : Nat → ZC} {X : ZK} {Rt : ZR} {ls : ZL} {st : List ZV} {h : ZH} {b : ZB2} (hX : zCl E mX10_as 10 false CT Rt X) (q : bk_X10_as_17 E CT X Rt ls st h b) : X 17 ls st h b := by
  refine hX k_X10_as_17 17 ok_X10_as_17 _ ?_ ls st h b q
  exact fun t ls st h b q => q
def bk_X10_as_24 (E : ZE) (CT : Nat → ZC) (X : ZK) (Rt : ZR) (ls : ZL) (st : List ZV) (h : ZH) (b : ZB2) : Prop := zB E CT k_X10_as_24 24 ls st h b (fun t ls st h b => X t ls st h b) Rt
theorem bs_X10_as_24 {E : ZE} {CT : Nat → ZC} {X : ZK} {Rt : ZR} {ls : ZL} {st : List ZV} {h : ZH} {b : ZB2} (hX : zCl E mX10_as 10 false CT Rt X) (q : bk_X10_as_24 E CT X Rt ls st h b) : X 24 ls st h b := by
  refine hX k_X10_as_24 24 ok_X10_as_24 _ ?_ ls st h b q
  exact fun t ls st h b q => q
def bk_X10_as_43 (E : ZE) (CT : Nat → ZC) (X : ZK) (Rt : ZR) (ls : ZL) (st : List ZV) (h : ZH) (b : ZB2) : Prop := zB E CT k_X10_as_43 43 ls st h b (fun t ls st h b => X t ls st h b) Rt
theorem bs_X10_as_43 {E : ZE} {CT : Nat → ZC} {X : ZK} {Rt : ZR} {ls : ZL} {st : List ZV} {h : ZH} {b : ZB2} (hX : zCl E mX10_as 10 false CT Rt X) (q : bk_X10_as_43 E CT X Rt ls st h b) : X 43 ls st h b := by
  refine hX k_X10_as_43 43 ok_X10_as_43 _ ?_ ls st h b q
  exact fun t ls st h b q => q
def bk_X10_as_50 (E : ZE) (CT : Nat → ZC) (X : ZK) (Rt : ZR) (ls : ZL) (st : List ZV) (h : ZH) (b : ZB2) : Prop := zB E CT k_X10_as_50 50 ls st h b (fun t ls st h b => X t ls st h b) Rt
theorem bs_X10_as_50 {E : ZE} {CT : Nat → ZC} {X : ZK} {Rt : ZR} {ls : ZL} {st : List ZV} {h : ZH} {b : ZB2} (hX : zCl E mX10_as 10 false CT Rt X) (q : bk_X10_as_50 E CT X Rt ls st h b) : X 50 ls st h b := by
  refine hX k_X10_as_50 50 ok_X10_as_50 _ ?_ ls st h b q
  exact fun t ls st h b q => q
-- X10_as: cuts [8, 17, 24, 43, 50]
def k_X10_seed_0 : List ZI := [(.aload_n 0, 1, (0, [0], [])), (.getfield 12, 3, (0, [10, 0], [])), (.getfield 243, 3, (0, [6, 6], [])), (.istore_n 2, 1, (0, [2], [])), (.aload_n 0, 1, (0, [0], [])), (.getfield 12, 3, (0, [10, 0], [])), (.iload_n 1, 1, (0, [1], [])), (.putfield 243, 3, (0, [6, 6], [])), (.iload_n 2, 1, (0, [2], [])), (.ireturn, 1, (0, [], []))]
theorem ok_X10_seed_0 : zOK cX10_seed 10 false 3 k_X10_seed_0 0 = true := zOK_by (by decide +kernel)
theorem rt_X10_seed {g : Nat} {post : Option ZV → ZH → Prop} {h : ZH} {b : ZB2} {z : Int} : zRt mX10_seed g post (some (.inl z)) h b = (post (some (.inl z)) h ∧ h.1.length = g) := by show (_ ∧ _ ∧ True) = _; simp
def bk_X10_seed_0 (E : ZE) (CT : Nat → ZC) (X : ZK) (Rt : ZR) (ls : ZL) (st : List ZV) (h : ZH) (b : ZB2) : Prop := zB E CT k_X10_seed_0 0 ls st h b (fun t ls st h b => X t ls st h b) Rt
theorem bs_X10_seed_0 {E : ZE} {CT : Nat → ZC} {X : ZK} {Rt : ZR} {ls : ZL} {st : List ZV} {h : ZH} {b : ZB2} (hX : zCl E mX10_seed 10 false CT Rt X) (q : bk_X10_seed_0 E CT X Rt ls st h b) : X 0 ls st h b := by
  refine hX k_X10_seed_0 0 ok_X10_seed_0 _ ?_ ls st h b q
  exact fun t ls st h b q => q
-- X10_seed: cuts []
def k_X10_told_0 : List ZI := [(.iload_n 1, 1, (0, [1], [])), (.iconst 1, 1, (0, [], [])), (.if_icmp .lt 8, 3, (0, [10], [])), (.iload_n 1, 1, (0, [1], [])), (.iconst 5, 1, (0, [], [])), (.if_icmp .le 10, 3, (0, [17], []))]
theorem ok_X10_told_0 : zOK cX10_told 10 false 2 k_X10_told_0 0 = true := zOK_by (by decide +kernel)
def k_X10_told_10 : List ZI := [(.aload_n 0, 1, (0, [0], [])), (.ldc 96, 2, ((-1000000001), [], [])), (.invokevirtual 97, 3, (0, [110, 2, 0, 10], [])), (.ireturn, 1, (0, [], []))]
theorem ok_X10_told_10 : zOK cX10_told 10 false 2 k_X10_told_10 10 = true := zOK_by (by decide +kernel)
def k_X10_told_17 : List ZI := [(.aload_n 0, 1, (0, [0], [])), (.getfield 87, 3, (0, [10, 8], [])), (.iload_n 1, 1, (0, [1], [])), (.iaload, 1, (0, [], [])), (.ireturn, 1, (0, [], []))]
theorem ok_X10_told_17 : zOK cX10_told 10 false 2 k_X10_told_17 17 = true := zOK_by (by decide +kernel)
theorem rt_X10_told {g : Nat} {post : Option ZV → ZH → Prop} {h : ZH} {b : ZB2} {z : Int} : zRt mX10_told g post (some (.inl z)) h b = (post (some (.inl z)) h ∧ h.1.length = g) := by show (_ ∧ _ ∧ True) = _; simp
def bk_X10_told_0 (E : ZE) (CT : Nat → ZC) (X : ZK) (Rt : ZR) (ls : ZL) (st : List ZV) (h : ZH) (b : ZB2) : Prop := zB E CT k_X10_told_0 0 ls st h b (fun t ls st h b => X t ls st h b) Rt
theorem bs_X10_told_0 {E : ZE} {CT : Nat → ZC} {X : ZK} {Rt : ZR} {ls : ZL} {st : List ZV} {h : ZH} {b : ZB2} (hX : zCl E mX10_told 10 false CT Rt X) (q : bk_X10_told_0 E CT X Rt ls st h b) : X 0 ls st h b := by
  refine hX k_X10_told_0 0 ok_X10_told_0 _ ?_ ls st h b q
  exact fun t ls st h b q => q
def bk_X10_told_10 (E : ZE) (CT : Nat → ZC) (X : ZK) (Rt : ZR) (ls : ZL) (st : List ZV) (h : ZH) (b : ZB2) : Prop := zB E CT k_X10_told_10 10 ls st h b (fun t ls st h b => X t ls st h b) Rt
theorem bs_X10_told_10 {E : ZE} {CT : Nat → ZC} {X : ZK} {Rt : ZR} {ls : ZL} {st : List ZV} {h : ZH} {b : ZB2} (hX : zCl E mX10_told 10 false CT Rt X) (q : bk_X10_told_10 E CT X Rt ls st h b) : X 10 ls st h b := by
  refine hX k_X10_told_10 10 ok_X10_told_10 _ ?_ ls st h b q
  exact fun t ls st h b q => q
def bk_X10_told_17 (E : ZE) (CT : Nat → ZC) (X : ZK) (Rt : ZR) (ls : ZL) (st : List ZV) (h : ZH) (b : ZB2) : Prop := zB E CT k_X10_told_17 17 ls st h b (fun t ls st h b => X t ls st h b) Rt
theorem bs_X10_told_17 {E : ZE} {CT : Nat → ZC} {X : ZK} {Rt : ZR} {ls : ZL} {st : List ZV} {h : ZH} {b : ZB2} (hX : zCl E mX10_told 10 false CT Rt X) (q : bk_X10_told_17 E CT X Rt ls st h b) : X 17 ls st h b := by
  refine hX k_X10_told_17 17 ok_X10_told_17 _ ?_ ls st h b q
  exact fun t ls st h b q => q
-- X10_told: cuts [10, 17]
theorem r88_up (S : ZMm) (k : Nat) (v : Int) : zup S 88 k v = r88 S (up1 (S 88) k v) := by
  funext x
  unfold r88
  by_cases q : x = 88
  · subst q; rw [if_pos rfl, zup_up]
  · rw [if_neg q, zup_ne _ q]
theorem SRn_crew {M M' : ZMm} {d d' : Nat → Int} (H : SRn M d) (vd : Vd d) (c' : CR 10 M' d' (-1)) (f : ∀ x, (1 ≤ x ∧ x ≤ 9) ∨ (14 ≤ x ∧ x ≤ 25) → M' x = M x) (e : ∀ k, ¬ (k = 0 ∨ (162 ≤ k ∧ k < 186)) → d' k = d k) : SRn M' d' := by
  obtain ⟨h, _, l1, l2, t, w, z⟩ := H
  have v := Vd_l vd
  refine ⟨HR_cg h (fun x p q => f x (by omega)) (fun k hk => e k (by omega)), c', LR_cg l1 v.1.1 (by omega) (fun x p q => f x (by omega)) (fun k hk => e k (by omega)), LR_cg l2 v.1.2 (by omega) (fun x p q => f x (by omega)) (fun k hk => e k (by omega)), TR_cg t (fun x p => f x (by omega)) (e 4 (by omega)) (fun k _ => e _ (by omega)), TR_cg w (fun x p => f x (by omega)) (e 5 (by omega)) (fun k _ => e _ (by omega)), ?_⟩
  rw [f 1 (by omega), e 3 (by omega)]
  exact z
theorem CR_up {c : Nat} {M : ZMm} {d : Nat → Int} (H : CR c M d (-1)) {e w : Nat} {v : Int} (he : e < 8) (hw : w < 3) : CR c (zup M (c + 1 + w) e v) (up1 d (162 + 3 * e + w) v) (-1) := by
  refine ⟨by rw [zup_o (by omega), up1_ne (by omega)]; exact H.1, fun i hi => ?_⟩
  obtain ⟨p1, p2, p3⟩ := H.2 i hi
  have key : ∀ j, j < 3 → M (c + 1 + j) i = d (162 + 3 * i + j) → zup M (c + 1 + w) e v (c + 1 + j) i = up1 d (162 + 3 * e + w) v (162 + 3 * i + j) := by
    intro j hj e9
    by_cases q : j = w ∧ i = e
    · obtain ⟨q1, q2⟩ := q
      subst q1; subst q2
      rw [zup_eq, up1_eq]
    · rw [up1_ne (by omega), ← e9]
      simp only [zup]
      rw [if_neg (by omega)]
  rw [if_neg (by omega)] at p3 ⊢
  exact ⟨key 0 (by omega) p1, key 1 (by omega) p2, key 2 (by omega) p3⟩
theorem CR_n {c : Nat} {M : ZMm} {d : Nat → Int} (H : CR c M d (-1)) {v : Int} : CR c (zup M c 3 v) (up1 d 0 v) (-1) := by
  refine ⟨by rw [zup_eq, up1_eq], fun i hi => ?_⟩
  rw [zup_o (by omega), zup_o (by omega), zup_o (by omega), up1_ne (by omega), up1_ne (by omega), up1_ne (by omega)]
  exact H.2 i hi
theorem CR.e {c : Nat} {M : ZMm} {d : Nat → Int} (H : CR c M d (-1)) {e : Int} (h0 : 0 ≤ e) (h1 : e < 8) : M (c + 1) e.toNat = ei d e 0 ∧ M (c + 2) e.toNat = ei d e 1 ∧ M (c + 3) e.toNat = ei d e 2 := by
  obtain ⟨n, hn⟩ : ∃ n : Nat, e = n := ⟨e.toNat, by omega⟩
  have := H.at (e := n) (by omega)
  rw [if_neg (by omega)] at this
  subst hn
  exact this
def B_x_rock (c : Int) (v : Int) (M : Nat → Nat → Int) (post : Option ZV → (Nat → Nat → Int) → Prop) : Prop := rg c ∧ rg v ∧ ∃ S : ZMm, Vs S ∧ Rc S M ∧ cp M (R_rock S c v) post
def C_x_rock : ZC := fun as h post => match as with
  | [.inr (.inr (.inl 0)), .inl c, .inl v] => h.1 = zG ∧ B_x_rock c v h.2 (fun v M => post v (zG, M))
  | _ => False
theorem r_x_rock {c : Int} {v : Int} {M : Nat → Nat → Int} {post : Option ZV → ZH → Prop} : C_x_rock [.inr (.inr (.inl 0)), .inl c, .inl v] (zG, M) post = B_x_rock c v M (fun v M => post v (zG, M)) := by show (zG = zG ∧ _) = _; simp
def ct_x_rock : Nat → ZC := fun n => if n = 111 then C_cbey else if n = 110 then C_cfail else fun _ _ _ => False
theorem ct_x_rock_cbey {as : List ZV} {h : ZH} {post : Option ZV → ZH → Prop} : ct_x_rock 111 as h post = C_cbey as h post := rfl
theorem ct_x_rock_cfail {as : List ZV} {h : ZH} {post : Option ZV → ZH → Prop} : ct_x_rock 110 as h post = C_cfail as h post := rfl
theorem c_x_rock {E : ZE} {d : Nat} (hd : 2 ≤ d) : zMet E d mX10_rock C_x_rock := by
  refine zmet_of (o := 10) (ini := false) (CT := ct_x_rock) gd_X10_rock rfl (fun h => by cases h) (by omega) ?_ ?_
  · intro n as h post hh
    unfold ct_x_rock at hh
    by_cases c : n = 111
    · subst c; exact ⟨gd_X10_isBeyond, 1, by omega, c_cbey (by omega)⟩
    rw [if_neg c] at hh
    by_cases c : n = 110
    · subst c; exact ⟨gd_X10_failed, 1, by omega, c_cfail (by omega)⟩
    rw [if_neg c] at hh
    exact hh.elim
  intro as h post hC
  match as, hC with
  | [.inr (.inr (.inl 0)), .inl c, .inl v], hC =>
    refine ⟨Nat.le_of_ble_eq_true rfl, fun X hX => bs_X10_rock_0 hX ?_⟩
    obtain ⟨G, M⟩ := h
    obtain ⟨hG, hC⟩ := hC
    dsimp only at hG
    subst hG
    simp only [B_x_rock] at hC
    show bk_X10_rock_0 E ct_x_rock X _ [some (.inr (.inr (.inl 0))), some (.inl c), some (.inl v), none] [] (zG, M) (0, 0)
    obtain ⟨h1, h2, S, vs9, H, hC⟩ := hC
    have vd : Vd (S 88) := vs9.1
    have n9 := H.1
    have J18 : ¬ ((0 ≤ c ∧ c ≤ 63) ∧ 0 ≤ v ∧ v ≤ 9) → X 18 [some (.inr (.inr (.inl 0))), some (.inl c), some (.inl v), none] [] (zG, M) (0, 0) := by
      intro q
      refine bs_X10_rock_18 hX ?_
      simp only [bk_X10_rock_0, k_X10_rock_0, bk_X10_rock_9, k_X10_rock_9, bk_X10_rock_18, k_X10_rock_18, bk_X10_rock_25, k_X10_rock_25, ↓e_rk1, ↓e_rk0, ↓e_sk0, ↓e_sks, ↓e_ldi0, ↓e_ldis, ↓e_ldl0, ↓e_ldls, ↓e_lda0, ↓e_ldas, ↓e_ok0, ↓e_okss, ↓e_ok1i, ↓e_ok1r, ↓e_ok1n, ↓e_sti, ↓e_sta, ↓e_1, ↓e_2, ↓e_l1, ↓e_l2, ↓e_li, ↓e_sw0, ↓e_sws, ↓e_ceq, ↓e_cne, ↓e_clt, ↓e_cge, ↓e_cgt, ↓e_cle, ↓e_nil, ↓e_cons, ↓e_iconst, ↓e_bipush, ↓e_sipush, ↓e_ldc, ↓e_ldcw, ↓e_ldc2, ↓e_lconst, ↓e_iloadn, ↓e_iload, ↓e_lloadn, ↓e_lload, ↓e_aloadn, ↓e_aload, ↓e_istoren, ↓e_istore, ↓e_astoren, ↓e_astore, ↓e_add, ↓e_iinc, ↓e_iadd, ↓e_isub, ↓e_imul, ↓e_iand, ↓e_ior, ↓e_ixor, ↓e_ishl, ↓e_iushr, ↓e_idiv, ↓e_irem, ↓e_ineg, ↓e_i2l, ↓e_i2b, ↓e_i2s, ↓e_l2i, ↓e_land, ↓e_lor, ↓e_lshl, ↓e_lshr, ↓e_lushr, ↓e_lcmp, ↓e_dupi, ↓e_dupr, ↓e_popi, ↓e_dup2, ↓e_goto, ↓e_if, ↓e_icmp, ↓e_tsw, ↓e_lsw, ↓e_getf, ↓e_putf, ↓e_gets, ↓e_iald, ↓e_cald, ↓e_iast, ↓e_aald, ↓e_aast, ↓e_len, ↓e_copy, ↓e_abs, ↓e_max, ↓e_min, ↓e_iret, ↓e_aret, ↓e_vret, ↓e_is0, ↓e_is1, ↓e_is2, ↓e_is3, ↓e_is4, ↓e_iv1, ↓e_iv2, ↓e_iv3, ↓e_iv4, ↓e_iv5, ↓e_iv6, ↓rt_X10_rock, ↓reduceIte, Nat.reduceAdd, Nat.reduceEqDiff, ↓zcl0, ↓zclv, List.map_nil, List.sum_nil, List.map_cons, List.sum_cons, zcat, true_and, and_true, Nat.reduceLeDiff, Nat.reduceAdd, eq_self, forall_const, e_ok0, e_okss, e_ok1i, e_ok1r, e_ok1n, zl_m1000000001, zl_9, zl_63, Int.reduceToNat, Int.reduceAdd, Int.reduceMul, Int.reduceSub, Int.reduceNeg, Int.reduceLT, Int.reduceLE, Int.reduceEq, not_false_eq_true, not_true_eq_false, false_implies, true_implies, implies_true, Int.reduceDiv, Int.reduceMod, zr8_zr, zr_zbo, z01_zbo, z01_0, z01_1, zbo_eq0, zup_eq, zup_o, zup_k, ne_eq, ↓ct_x_rock_cbey, ↓r_cbey, ↓B_cbey, ↓ct_x_rock_cfail, ↓r_cfail, ↓B_cfail, ↓v_0, ↓g_0_0, ↓g_0_1, ↓g_0_2, ↓g_0_3, ↓g_0_4, ↓g_0_5, ↓g_0_6, ↓g_0_7, ↓g_0_8, ↓l_78, ↓s_78, ↓n_78, ↓g_0_9, ↓p_0_9]
      exact ⟨1, by omega, by omega, cp_no hC H vd (by omega) (by unfold R_rock; rw [if_neg (by omega)]) rfl⟩
    have J25 : (0 ≤ c ∧ c ≤ 63) ∧ 0 ≤ v ∧ v ≤ 9 → X 25 [some (.inr (.inr (.inl 0))), some (.inl c), some (.inl v), none] [] (zG, M) (0, 0) := by
      intro q
      have zc9 : zr c = c := zr_rg h1
      refine bs_X10_rock_25 hX ?_
      simp only [bk_X10_rock_0, k_X10_rock_0, bk_X10_rock_9, k_X10_rock_9, bk_X10_rock_18, k_X10_rock_18, bk_X10_rock_25, k_X10_rock_25, ↓e_rk1, ↓e_rk0, ↓e_sk0, ↓e_sks, ↓e_ldi0, ↓e_ldis, ↓e_ldl0, ↓e_ldls, ↓e_lda0, ↓e_ldas, ↓e_ok0, ↓e_okss, ↓e_ok1i, ↓e_ok1r, ↓e_ok1n, ↓e_sti, ↓e_sta, ↓e_1, ↓e_2, ↓e_l1, ↓e_l2, ↓e_li, ↓e_sw0, ↓e_sws, ↓e_ceq, ↓e_cne, ↓e_clt, ↓e_cge, ↓e_cgt, ↓e_cle, ↓e_nil, ↓e_cons, ↓e_iconst, ↓e_bipush, ↓e_sipush, ↓e_ldc, ↓e_ldcw, ↓e_ldc2, ↓e_lconst, ↓e_iloadn, ↓e_iload, ↓e_lloadn, ↓e_lload, ↓e_aloadn, ↓e_aload, ↓e_istoren, ↓e_istore, ↓e_astoren, ↓e_astore, ↓e_add, ↓e_iinc, ↓e_iadd, ↓e_isub, ↓e_imul, ↓e_iand, ↓e_ior, ↓e_ixor, ↓e_ishl, ↓e_iushr, ↓e_idiv, ↓e_irem, ↓e_ineg, ↓e_i2l, ↓e_i2b, ↓e_i2s, ↓e_l2i, ↓e_land, ↓e_lor, ↓e_lshl, ↓e_lshr, ↓e_lushr, ↓e_lcmp, ↓e_dupi, ↓e_dupr, ↓e_popi, ↓e_dup2, ↓e_goto, ↓e_if, ↓e_icmp, ↓e_tsw, ↓e_lsw, ↓e_getf, ↓e_putf, ↓e_gets, ↓e_iald, ↓e_cald, ↓e_iast, ↓e_aald, ↓e_aast, ↓e_len, ↓e_copy, ↓e_abs, ↓e_max, ↓e_min, ↓e_iret, ↓e_aret, ↓e_vret, ↓e_is0, ↓e_is1, ↓e_is2, ↓e_is3, ↓e_is4, ↓e_iv1, ↓e_iv2, ↓e_iv3, ↓e_iv4, ↓e_iv5, ↓e_iv6, ↓rt_X10_rock, ↓reduceIte, Nat.reduceAdd, Nat.reduceEqDiff, ↓zcl0, ↓zclv, List.map_nil, List.sum_nil, List.map_cons, List.sum_cons, zcat, true_and, and_true, Nat.reduceLeDiff, Nat.reduceAdd, eq_self, forall_const, e_ok0, e_okss, e_ok1i, e_ok1r, e_ok1n, zl_m1000000001, zl_9, zl_63, Int.reduceToNat, Int.reduceAdd, Int.reduceMul, Int.reduceSub, Int.reduceNeg, Int.reduceLT, Int.reduceLE, Int.reduceEq, not_false_eq_true, not_true_eq_false, false_implies, true_implies, implies_true, Int.reduceDiv, Int.reduceMod, zr8_zr, zr_zbo, z01_zbo, z01_0, z01_1, zbo_eq0, zup_eq, zup_o, zup_k, ne_eq, ↓ct_x_rock_cbey, ↓r_cbey, ↓B_cbey, ↓ct_x_rock_cfail, ↓r_cfail, ↓B_cfail, ↓v_0, ↓g_0_0, ↓g_0_1, ↓g_0_2, ↓g_0_3, ↓g_0_4, ↓g_0_5, ↓g_0_6, ↓g_0_7, ↓g_0_8, ↓l_78, ↓s_78, ↓n_78, ↓g_0_9, ↓p_0_9, ↓v_1, ↓g_1_0, ↓g_1_1, ↓g_1_2, ↓g_1_3, ↓g_1_4, ↓g_1_5, ↓g_1_6, ↓p_1_6, ↓v_2, ↓g_2_0, ↓l_3, ↓s_3, ↓n_3, ↓g_2_1, ↓l_4, ↓s_4, ↓n_4, ↓g_2_2, ↓l_5, ↓s_5, ↓n_5, ↓g_2_3, ↓l_6, ↓s_6, ↓n_6, ↓g_2_4, ↓l_7, ↓s_7, ↓n_7, ↓g_2_5, ↓l_8, ↓s_8, ↓n_8, ↓g_2_6, ↓l_9, ↓s_9, ↓n_9, ↓g_2_7, ↓p_2_7, ↓g_2_8, ↓p_2_8, ↓g_2_9, ↓p_2_9, zc9]
      repeat (refine And.intro (by omega) ?_)
      have er : M 3 c.toNat = S 88 (6 + c).toNat := by rw [n9.1.1 c.toNat (by omega), show (6 + c).toNat = 6 + c.toNat by omega]
      rw [er]
      refine cp_now hC H (f := up1 (S 88) (6 + c).toNat v) (by unfold R_rock; rw [if_pos q, r88_up]) ?_ (fun x p => by rw [zup_ne _ (by omega)])
      refine SRn_hill n9 vd ?_ (fun x p => by rw [zup_ne _ (by omega)]) (fun k p => up1_ne (by omega))
      rw [show (6 + c).toNat = 6 + c.toNat by omega]
      exact HR_rock n9.1 (by omega)
    have J9 : (0 ≤ c ∧ c ≤ 63) → X 9 [some (.inr (.inr (.inl 0))), some (.inl c), some (.inl v), none] [] (zG, M) (0, 0) := by
      intro q
      refine bs_X10_rock_9 hX ?_
      simp only [bk_X10_rock_0, k_X10_rock_0, bk_X10_rock_9, k_X10_rock_9, bk_X10_rock_18, k_X10_rock_18, bk_X10_rock_25, k_X10_rock_25, ↓e_rk1, ↓e_rk0, ↓e_sk0, ↓e_sks, ↓e_ldi0, ↓e_ldis, ↓e_ldl0, ↓e_ldls, ↓e_lda0, ↓e_ldas, ↓e_ok0, ↓e_okss, ↓e_ok1i, ↓e_ok1r, ↓e_ok1n, ↓e_sti, ↓e_sta, ↓e_1, ↓e_2, ↓e_l1, ↓e_l2, ↓e_li, ↓e_sw0, ↓e_sws, ↓e_ceq, ↓e_cne, ↓e_clt, ↓e_cge, ↓e_cgt, ↓e_cle, ↓e_nil, ↓e_cons, ↓e_iconst, ↓e_bipush, ↓e_sipush, ↓e_ldc, ↓e_ldcw, ↓e_ldc2, ↓e_lconst, ↓e_iloadn, ↓e_iload, ↓e_lloadn, ↓e_lload, ↓e_aloadn, ↓e_aload, ↓e_istoren, ↓e_istore, ↓e_astoren, ↓e_astore, ↓e_add, ↓e_iinc, ↓e_iadd, ↓e_isub, ↓e_imul, ↓e_iand, ↓e_ior, ↓e_ixor, ↓e_ishl, ↓e_iushr, ↓e_idiv, ↓e_irem, ↓e_ineg, ↓e_i2l, ↓e_i2b, ↓e_i2s, ↓e_l2i, ↓e_land, ↓e_lor, ↓e_lshl, ↓e_lshr, ↓e_lushr, ↓e_lcmp, ↓e_dupi, ↓e_dupr, ↓e_popi, ↓e_dup2, ↓e_goto, ↓e_if, ↓e_icmp, ↓e_tsw, ↓e_lsw, ↓e_getf, ↓e_putf, ↓e_gets, ↓e_iald, ↓e_cald, ↓e_iast, ↓e_aald, ↓e_aast, ↓e_len, ↓e_copy, ↓e_abs, ↓e_max, ↓e_min, ↓e_iret, ↓e_aret, ↓e_vret, ↓e_is0, ↓e_is1, ↓e_is2, ↓e_is3, ↓e_is4, ↓e_iv1, ↓e_iv2, ↓e_iv3, ↓e_iv4, ↓e_iv5, ↓e_iv6, ↓rt_X10_rock, ↓reduceIte, Nat.reduceAdd, Nat.reduceEqDiff, ↓zcl0, ↓zclv, List.map_nil, List.sum_nil, List.map_cons, List.sum_cons, zcat, true_and, and_true, Nat.reduceLeDiff, Nat.reduceAdd, eq_self, forall_const, e_ok0, e_okss, e_ok1i, e_ok1r, e_ok1n, zl_m1000000001, zl_9, zl_63, Int.reduceToNat, Int.reduceAdd, Int.reduceMul, Int.reduceSub, Int.reduceNeg, Int.reduceLT, Int.reduceLE, Int.reduceEq, not_false_eq_true, not_true_eq_false, false_implies, true_implies, implies_true, Int.reduceDiv, Int.reduceMod, zr8_zr, zr_zbo, z01_zbo, z01_0, z01_1, zbo_eq0, zup_eq, zup_o, zup_k, ne_eq, ↓ct_x_rock_cbey, ↓r_cbey, ↓B_cbey, ↓ct_x_rock_cfail, ↓r_cfail, ↓B_cfail, ↓v_0, ↓g_0_0, ↓g_0_1, ↓g_0_2, ↓g_0_3, ↓g_0_4, ↓g_0_5, ↓g_0_6, ↓g_0_7, ↓g_0_8, ↓l_78, ↓s_78, ↓n_78, ↓g_0_9, ↓p_0_9, zr_zbo, zbo_eq0]
      repeat' (first | assumption | apply And.intro | intro _)
      all_goals first | omega | (apply J18; omega) | (apply J25; omega)
    simp only [bk_X10_rock_0, k_X10_rock_0, bk_X10_rock_9, k_X10_rock_9, bk_X10_rock_18, k_X10_rock_18, bk_X10_rock_25, k_X10_rock_25, ↓e_rk1, ↓e_rk0, ↓e_sk0, ↓e_sks, ↓e_ldi0, ↓e_ldis, ↓e_ldl0, ↓e_ldls, ↓e_lda0, ↓e_ldas, ↓e_ok0, ↓e_okss, ↓e_ok1i, ↓e_ok1r, ↓e_ok1n, ↓e_sti, ↓e_sta, ↓e_1, ↓e_2, ↓e_l1, ↓e_l2, ↓e_li, ↓e_sw0, ↓e_sws, ↓e_ceq, ↓e_cne, ↓e_clt, ↓e_cge, ↓e_cgt, ↓e_cle, ↓e_nil, ↓e_cons, ↓e_iconst, ↓e_bipush, ↓e_sipush, ↓e_ldc, ↓e_ldcw, ↓e_ldc2, ↓e_lconst, ↓e_iloadn, ↓e_iload, ↓e_lloadn, ↓e_lload, ↓e_aloadn, ↓e_aload, ↓e_istoren, ↓e_istore, ↓e_astoren, ↓e_astore, ↓e_add, ↓e_iinc, ↓e_iadd, ↓e_isub, ↓e_imul, ↓e_iand, ↓e_ior, ↓e_ixor, ↓e_ishl, ↓e_iushr, ↓e_idiv, ↓e_irem, ↓e_ineg, ↓e_i2l, ↓e_i2b, ↓e_i2s, ↓e_l2i, ↓e_land, ↓e_lor, ↓e_lshl, ↓e_lshr, ↓e_lushr, ↓e_lcmp, ↓e_dupi, ↓e_dupr, ↓e_popi, ↓e_dup2, ↓e_goto, ↓e_if, ↓e_icmp, ↓e_tsw, ↓e_lsw, ↓e_getf, ↓e_putf, ↓e_gets, ↓e_iald, ↓e_cald, ↓e_iast, ↓e_aald, ↓e_aast, ↓e_len, ↓e_copy, ↓e_abs, ↓e_max, ↓e_min, ↓e_iret, ↓e_aret, ↓e_vret, ↓e_is0, ↓e_is1, ↓e_is2, ↓e_is3, ↓e_is4, ↓e_iv1, ↓e_iv2, ↓e_iv3, ↓e_iv4, ↓e_iv5, ↓e_iv6, ↓rt_X10_rock, ↓reduceIte, Nat.reduceAdd, Nat.reduceEqDiff, ↓zcl0, ↓zclv, List.map_nil, List.sum_nil, List.map_cons, List.sum_cons, zcat, true_and, and_true, Nat.reduceLeDiff, Nat.reduceAdd, eq_self, forall_const, e_ok0, e_okss, e_ok1i, e_ok1r, e_ok1n, zl_m1000000001, zl_9, zl_63, Int.reduceToNat, Int.reduceAdd, Int.reduceMul, Int.reduceSub, Int.reduceNeg, Int.reduceLT, Int.reduceLE, Int.reduceEq, not_false_eq_true, not_true_eq_false, false_implies, true_implies, implies_true, Int.reduceDiv, Int.reduceMod, zr8_zr, zr_zbo, z01_zbo, z01_0, z01_1, zbo_eq0, zup_eq, zup_o, zup_k, ne_eq, ↓ct_x_rock_cbey, ↓r_cbey, ↓B_cbey, ↓ct_x_rock_cfail, ↓r_cfail, ↓B_cfail, ↓v_0, ↓g_0_0, ↓g_0_1, ↓g_0_2, ↓g_0_3, ↓g_0_4, ↓g_0_5, ↓g_0_6, ↓g_0_7, ↓g_0_8, ↓l_78, ↓s_78, ↓n_78, ↓g_0_9, ↓p_0_9, zr_zbo, zbo_eq0]
    repeat' (first | assumption | apply And.intro | intro _)
    all_goals first | omega | (apply J18; omega) | (apply J9; omega)
def B_x_dig (c : Int) (v : Int) (M : Nat → Nat → Int) (post : Option ZV → (Nat → Nat → Int) → Prop) : Prop := rg c ∧ rg v ∧ ∃ S : ZMm, Vs S ∧ Rc S M ∧ cp M (R_dig S c v) post
def C_x_dig : ZC := fun as h post => match as with
  | [.inr (.inr (.inl 0)), .inl c, .inl v] => h.1 = zG ∧ B_x_dig c v h.2 (fun v M => post v (zG, M))
  | _ => False
theorem r_x_dig {c : Int} {v : Int} {M : Nat → Nat → Int} {post : Option ZV → ZH → Prop} : C_x_dig [.inr (.inr (.inl 0)), .inl c, .inl v] (zG, M) post = B_x_dig c v M (fun v M => post v (zG, M)) := by show (zG = zG ∧ _) = _; simp
def ct_x_dig : Nat → ZC := fun n => if n = 111 then C_cbey else if n = 110 then C_cfail else if n = 19 then C_hheadsAt else fun _ _ _ => False
theorem ct_x_dig_cbey {as : List ZV} {h : ZH} {post : Option ZV → ZH → Prop} : ct_x_dig 111 as h post = C_cbey as h post := rfl
theorem ct_x_dig_cfail {as : List ZV} {h : ZH} {post : Option ZV → ZH → Prop} : ct_x_dig 110 as h post = C_cfail as h post := rfl
theorem ct_x_dig_hheadsAt {as : List ZV} {h : ZH} {post : Option ZV → ZH → Prop} : ct_x_dig 19 as h post = C_hheadsAt as h post := rfl
theorem c_x_dig {E : ZE} {d : Nat} (hd : 2 ≤ d) : zMet E d mX10_dig C_x_dig := by
  refine zmet_of (o := 10) (ini := false) (CT := ct_x_dig) gd_X10_dig rfl (fun h => by cases h) (by omega) ?_ ?_
  · intro n as h post hh
    unfold ct_x_dig at hh
    by_cases c : n = 111
    · subst c; exact ⟨gd_X10_isBeyond, 1, by omega, c_cbey (by omega)⟩
    rw [if_neg c] at hh
    by_cases c : n = 110
    · subst c; exact ⟨gd_X10_failed, 1, by omega, c_cfail (by omega)⟩
    rw [if_neg c] at hh
    by_cases c : n = 19
    · subst c; exact ⟨gd_X2_headsAt, 1, by omega, c_hheadsAt (by omega)⟩
    rw [if_neg c] at hh
    exact hh.elim
  intro as h post hC
  match as, hC with
  | [.inr (.inr (.inl 0)), .inl c, .inl v], hC =>
    refine ⟨Nat.le_of_ble_eq_true rfl, fun X hX => bs_X10_dig_0 hX ?_⟩
    obtain ⟨G, M⟩ := h
    obtain ⟨hG, hC⟩ := hC
    dsimp only at hG
    subst hG
    simp only [B_x_dig] at hC
    show bk_X10_dig_0 E ct_x_dig X _ [some (.inr (.inr (.inl 0))), some (.inl c), some (.inl v), none] [] (zG, M) (0, 0)
    obtain ⟨h1, h2, S, vs9, H, hC⟩ := hC
    have vd : Vd (S 88) := vs9.1
    have n9 := H.1
    have J17 : ¬ ((0 ≤ c ∧ c ≤ 63) ∧ 0 ≤ v ∧ v ≤ 1) → X 17 [some (.inr (.inr (.inl 0))), some (.inl c), some (.inl v), none] [] (zG, M) (0, 0) := by
      intro q
      refine bs_X10_dig_17 hX ?_
      simp only [bk_X10_dig_0, k_X10_dig_0, bk_X10_dig_9, k_X10_dig_9, bk_X10_dig_17, k_X10_dig_17, bk_X10_dig_24, k_X10_dig_24, bk_X10_dig_42, k_X10_dig_42, bk_X10_dig_49, k_X10_dig_49, ↓e_rk1, ↓e_rk0, ↓e_sk0, ↓e_sks, ↓e_ldi0, ↓e_ldis, ↓e_ldl0, ↓e_ldls, ↓e_lda0, ↓e_ldas, ↓e_ok0, ↓e_okss, ↓e_ok1i, ↓e_ok1r, ↓e_ok1n, ↓e_sti, ↓e_sta, ↓e_1, ↓e_2, ↓e_l1, ↓e_l2, ↓e_li, ↓e_sw0, ↓e_sws, ↓e_ceq, ↓e_cne, ↓e_clt, ↓e_cge, ↓e_cgt, ↓e_cle, ↓e_nil, ↓e_cons, ↓e_iconst, ↓e_bipush, ↓e_sipush, ↓e_ldc, ↓e_ldcw, ↓e_ldc2, ↓e_lconst, ↓e_iloadn, ↓e_iload, ↓e_lloadn, ↓e_lload, ↓e_aloadn, ↓e_aload, ↓e_istoren, ↓e_istore, ↓e_astoren, ↓e_astore, ↓e_add, ↓e_iinc, ↓e_iadd, ↓e_isub, ↓e_imul, ↓e_iand, ↓e_ior, ↓e_ixor, ↓e_ishl, ↓e_iushr, ↓e_idiv, ↓e_irem, ↓e_ineg, ↓e_i2l, ↓e_i2b, ↓e_i2s, ↓e_l2i, ↓e_land, ↓e_lor, ↓e_lshl, ↓e_lshr, ↓e_lushr, ↓e_lcmp, ↓e_dupi, ↓e_dupr, ↓e_popi, ↓e_dup2, ↓e_goto, ↓e_if, ↓e_icmp, ↓e_tsw, ↓e_lsw, ↓e_getf, ↓e_putf, ↓e_gets, ↓e_iald, ↓e_cald, ↓e_iast, ↓e_aald, ↓e_aast, ↓e_len, ↓e_copy, ↓e_abs, ↓e_max, ↓e_min, ↓e_iret, ↓e_aret, ↓e_vret, ↓e_is0, ↓e_is1, ↓e_is2, ↓e_is3, ↓e_is4, ↓e_iv1, ↓e_iv2, ↓e_iv3, ↓e_iv4, ↓e_iv5, ↓e_iv6, ↓rt_X10_dig, ↓reduceIte, Nat.reduceAdd, Nat.reduceEqDiff, ↓zcl0, ↓zclv, List.map_nil, List.sum_nil, List.map_cons, List.sum_cons, zcat, true_and, and_true, Nat.reduceLeDiff, Nat.reduceAdd, eq_self, forall_const, e_ok0, e_okss, e_ok1i, e_ok1r, e_ok1n, zl_m1000000003, zl_m1000000001, zl_1, zl_63, Int.reduceToNat, Int.reduceAdd, Int.reduceMul, Int.reduceSub, Int.reduceNeg, Int.reduceLT, Int.reduceLE, Int.reduceEq, not_false_eq_true, not_true_eq_false, false_implies, true_implies, implies_true, Int.reduceDiv, Int.reduceMod, zr8_zr, zr_zbo, z01_zbo, z01_0, z01_1, zbo_eq0, zup_eq, zup_o, zup_k, ne_eq, ↓ct_x_dig_cbey, ↓r_cbey, ↓B_cbey, ↓ct_x_dig_cfail, ↓r_cfail, ↓B_cfail, ↓ct_x_dig_hheadsAt, ↓r_hheadsAt, ↓B_hheadsAt, ↓v_0, ↓g_0_0, ↓g_0_1, ↓g_0_2, ↓g_0_3, ↓g_0_4, ↓g_0_5, ↓g_0_6, ↓g_0_7, ↓g_0_8, ↓l_78, ↓s_78, ↓n_78, ↓g_0_9, ↓p_0_9]
      exact ⟨1, by omega, by omega, cp_no hC H vd (by omega) (by unfold R_dig; rw [if_neg (by omega)]) rfl⟩
    have ht : ((if hi4 (S 88) 0 0 = c then 1 else 0) + (if hi4 (S 88) 1 0 = c then 2 else 0)) = hat S c := rfl
    have hr := hat_rng S c
    have zh : zr (hat S c) = hat S c := zr_of (by omega) (by omega)
    have J49 : ((0 ≤ c ∧ c ≤ 63) ∧ 0 ≤ v ∧ v ≤ 1) → ¬ (v = 0 ∧ 0 < hat S c) → X 49 [some (.inr (.inr (.inl 0))), some (.inl c), some (.inl v), none] [] (zG, M) (0, 0) := by
      intro q q2
      have zc9 : zr c = c := zr_rg h1
      refine bs_X10_dig_49 hX ?_
      simp only [bk_X10_dig_0, k_X10_dig_0, bk_X10_dig_9, k_X10_dig_9, bk_X10_dig_17, k_X10_dig_17, bk_X10_dig_24, k_X10_dig_24, bk_X10_dig_42, k_X10_dig_42, bk_X10_dig_49, k_X10_dig_49, ↓e_rk1, ↓e_rk0, ↓e_sk0, ↓e_sks, ↓e_ldi0, ↓e_ldis, ↓e_ldl0, ↓e_ldls, ↓e_lda0, ↓e_ldas, ↓e_ok0, ↓e_okss, ↓e_ok1i, ↓e_ok1r, ↓e_ok1n, ↓e_sti, ↓e_sta, ↓e_1, ↓e_2, ↓e_l1, ↓e_l2, ↓e_li, ↓e_sw0, ↓e_sws, ↓e_ceq, ↓e_cne, ↓e_clt, ↓e_cge, ↓e_cgt, ↓e_cle, ↓e_nil, ↓e_cons, ↓e_iconst, ↓e_bipush, ↓e_sipush, ↓e_ldc, ↓e_ldcw, ↓e_ldc2, ↓e_lconst, ↓e_iloadn, ↓e_iload, ↓e_lloadn, ↓e_lload, ↓e_aloadn, ↓e_aload, ↓e_istoren, ↓e_istore, ↓e_astoren, ↓e_astore, ↓e_add, ↓e_iinc, ↓e_iadd, ↓e_isub, ↓e_imul, ↓e_iand, ↓e_ior, ↓e_ixor, ↓e_ishl, ↓e_iushr, ↓e_idiv, ↓e_irem, ↓e_ineg, ↓e_i2l, ↓e_i2b, ↓e_i2s, ↓e_l2i, ↓e_land, ↓e_lor, ↓e_lshl, ↓e_lshr, ↓e_lushr, ↓e_lcmp, ↓e_dupi, ↓e_dupr, ↓e_popi, ↓e_dup2, ↓e_goto, ↓e_if, ↓e_icmp, ↓e_tsw, ↓e_lsw, ↓e_getf, ↓e_putf, ↓e_gets, ↓e_iald, ↓e_cald, ↓e_iast, ↓e_aald, ↓e_aast, ↓e_len, ↓e_copy, ↓e_abs, ↓e_max, ↓e_min, ↓e_iret, ↓e_aret, ↓e_vret, ↓e_is0, ↓e_is1, ↓e_is2, ↓e_is3, ↓e_is4, ↓e_iv1, ↓e_iv2, ↓e_iv3, ↓e_iv4, ↓e_iv5, ↓e_iv6, ↓rt_X10_dig, ↓reduceIte, Nat.reduceAdd, Nat.reduceEqDiff, ↓zcl0, ↓zclv, List.map_nil, List.sum_nil, List.map_cons, List.sum_cons, zcat, true_and, and_true, Nat.reduceLeDiff, Nat.reduceAdd, eq_self, forall_const, e_ok0, e_okss, e_ok1i, e_ok1r, e_ok1n, zl_m1000000003, zl_m1000000001, zl_1, zl_63, Int.reduceToNat, Int.reduceAdd, Int.reduceMul, Int.reduceSub, Int.reduceNeg, Int.reduceLT, Int.reduceLE, Int.reduceEq, not_false_eq_true, not_true_eq_false, false_implies, true_implies, implies_true, Int.reduceDiv, Int.reduceMod, zr8_zr, zr_zbo, z01_zbo, z01_0, z01_1, zbo_eq0, zup_eq, zup_o, zup_k, ne_eq, ↓ct_x_dig_cbey, ↓r_cbey, ↓B_cbey, ↓ct_x_dig_cfail, ↓r_cfail, ↓B_cfail, ↓ct_x_dig_hheadsAt, ↓r_hheadsAt, ↓B_hheadsAt, ↓v_0, ↓g_0_0, ↓g_0_1, ↓g_0_2, ↓g_0_3, ↓g_0_4, ↓g_0_5, ↓g_0_6, ↓g_0_7, ↓g_0_8, ↓l_78, ↓s_78, ↓n_78, ↓g_0_9, ↓p_0_9, ↓v_1, ↓g_1_0, ↓g_1_1, ↓g_1_2, ↓g_1_3, ↓g_1_4, ↓g_1_5, ↓g_1_6, ↓p_1_6, ↓v_2, ↓g_2_0, ↓l_3, ↓s_3, ↓n_3, ↓g_2_1, ↓l_4, ↓s_4, ↓n_4, ↓g_2_2, ↓l_5, ↓s_5, ↓n_5, ↓g_2_3, ↓l_6, ↓s_6, ↓n_6, ↓g_2_4, ↓l_7, ↓s_7, ↓n_7, ↓g_2_5, ↓l_8, ↓s_8, ↓n_8, ↓g_2_6, ↓l_9, ↓s_9, ↓n_9, ↓g_2_7, ↓p_2_7, ↓g_2_8, ↓p_2_8, ↓g_2_9, ↓p_2_9, zc9]
      repeat (refine And.intro (by omega) ?_)
      have er : M 4 c.toNat = S 88 (70 + c).toNat := by rw [n9.1.2.1 c.toNat (by omega), show (70 + c).toNat = 70 + c.toNat by omega]
      rw [er]
      refine cp_now hC H (f := up1 (S 88) (70 + c).toNat v) (by unfold R_dig; rw [if_pos q, if_neg q2, r88_up]) ?_ (fun x p => by rw [zup_ne _ (by omega)])
      refine SRn_hill n9 vd ?_ (fun x p => by rw [zup_ne _ (by omega)]) (fun k p => up1_ne (by omega))
      rw [show (70 + c).toNat = 70 + c.toNat by omega]
      exact HR_dug n9.1 (by omega)
    have J42 : ((0 ≤ c ∧ c ≤ 63) ∧ 0 ≤ v ∧ v ≤ 1) → (v = 0 ∧ 0 < hat S c) → X 42 [some (.inr (.inr (.inl 0))), some (.inl c), some (.inl v), none] [] (zG, M) (0, 0) := by
      intro q q2
      refine bs_X10_dig_42 hX ?_
      simp only [bk_X10_dig_0, k_X10_dig_0, bk_X10_dig_9, k_X10_dig_9, bk_X10_dig_17, k_X10_dig_17, bk_X10_dig_24, k_X10_dig_24, bk_X10_dig_42, k_X10_dig_42, bk_X10_dig_49, k_X10_dig_49, ↓e_rk1, ↓e_rk0, ↓e_sk0, ↓e_sks, ↓e_ldi0, ↓e_ldis, ↓e_ldl0, ↓e_ldls, ↓e_lda0, ↓e_ldas, ↓e_ok0, ↓e_okss, ↓e_ok1i, ↓e_ok1r, ↓e_ok1n, ↓e_sti, ↓e_sta, ↓e_1, ↓e_2, ↓e_l1, ↓e_l2, ↓e_li, ↓e_sw0, ↓e_sws, ↓e_ceq, ↓e_cne, ↓e_clt, ↓e_cge, ↓e_cgt, ↓e_cle, ↓e_nil, ↓e_cons, ↓e_iconst, ↓e_bipush, ↓e_sipush, ↓e_ldc, ↓e_ldcw, ↓e_ldc2, ↓e_lconst, ↓e_iloadn, ↓e_iload, ↓e_lloadn, ↓e_lload, ↓e_aloadn, ↓e_aload, ↓e_istoren, ↓e_istore, ↓e_astoren, ↓e_astore, ↓e_add, ↓e_iinc, ↓e_iadd, ↓e_isub, ↓e_imul, ↓e_iand, ↓e_ior, ↓e_ixor, ↓e_ishl, ↓e_iushr, ↓e_idiv, ↓e_irem, ↓e_ineg, ↓e_i2l, ↓e_i2b, ↓e_i2s, ↓e_l2i, ↓e_land, ↓e_lor, ↓e_lshl, ↓e_lshr, ↓e_lushr, ↓e_lcmp, ↓e_dupi, ↓e_dupr, ↓e_popi, ↓e_dup2, ↓e_goto, ↓e_if, ↓e_icmp, ↓e_tsw, ↓e_lsw, ↓e_getf, ↓e_putf, ↓e_gets, ↓e_iald, ↓e_cald, ↓e_iast, ↓e_aald, ↓e_aast, ↓e_len, ↓e_copy, ↓e_abs, ↓e_max, ↓e_min, ↓e_iret, ↓e_aret, ↓e_vret, ↓e_is0, ↓e_is1, ↓e_is2, ↓e_is3, ↓e_is4, ↓e_iv1, ↓e_iv2, ↓e_iv3, ↓e_iv4, ↓e_iv5, ↓e_iv6, ↓rt_X10_dig, ↓reduceIte, Nat.reduceAdd, Nat.reduceEqDiff, ↓zcl0, ↓zclv, List.map_nil, List.sum_nil, List.map_cons, List.sum_cons, zcat, true_and, and_true, Nat.reduceLeDiff, Nat.reduceAdd, eq_self, forall_const, e_ok0, e_okss, e_ok1i, e_ok1r, e_ok1n, zl_m1000000003, zl_m1000000001, zl_1, zl_63, Int.reduceToNat, Int.reduceAdd, Int.reduceMul, Int.reduceSub, Int.reduceNeg, Int.reduceLT, Int.reduceLE, Int.reduceEq, not_false_eq_true, not_true_eq_false, false_implies, true_implies, implies_true, Int.reduceDiv, Int.reduceMod, zr8_zr, zr_zbo, z01_zbo, z01_0, z01_1, zbo_eq0, zup_eq, zup_o, zup_k, ne_eq, ↓ct_x_dig_cbey, ↓r_cbey, ↓B_cbey, ↓ct_x_dig_cfail, ↓r_cfail, ↓B_cfail, ↓ct_x_dig_hheadsAt, ↓r_hheadsAt, ↓B_hheadsAt, ↓v_0, ↓g_0_0, ↓g_0_1, ↓g_0_2, ↓g_0_3, ↓g_0_4, ↓g_0_5, ↓g_0_6, ↓g_0_7, ↓g_0_8, ↓l_78, ↓s_78, ↓n_78, ↓g_0_9, ↓p_0_9]
      exact ⟨3, by omega, by omega, cp_no hC H vd (by omega) (by unfold R_dig; rw [if_pos q, if_pos q2]) rfl⟩
    have J24 : ((0 ≤ c ∧ c ≤ 63) ∧ 0 ≤ v ∧ v ≤ 1) → X 24 [some (.inr (.inr (.inl 0))), some (.inl c), some (.inl v), none] [] (zG, M) (0, 0) := by
      intro q
      refine bs_X10_dig_24 hX ?_
      simp only [bk_X10_dig_0, k_X10_dig_0, bk_X10_dig_9, k_X10_dig_9, bk_X10_dig_17, k_X10_dig_17, bk_X10_dig_24, k_X10_dig_24, bk_X10_dig_42, k_X10_dig_42, bk_X10_dig_49, k_X10_dig_49, ↓e_rk1, ↓e_rk0, ↓e_sk0, ↓e_sks, ↓e_ldi0, ↓e_ldis, ↓e_ldl0, ↓e_ldls, ↓e_lda0, ↓e_ldas, ↓e_ok0, ↓e_okss, ↓e_ok1i, ↓e_ok1r, ↓e_ok1n, ↓e_sti, ↓e_sta, ↓e_1, ↓e_2, ↓e_l1, ↓e_l2, ↓e_li, ↓e_sw0, ↓e_sws, ↓e_ceq, ↓e_cne, ↓e_clt, ↓e_cge, ↓e_cgt, ↓e_cle, ↓e_nil, ↓e_cons, ↓e_iconst, ↓e_bipush, ↓e_sipush, ↓e_ldc, ↓e_ldcw, ↓e_ldc2, ↓e_lconst, ↓e_iloadn, ↓e_iload, ↓e_lloadn, ↓e_lload, ↓e_aloadn, ↓e_aload, ↓e_istoren, ↓e_istore, ↓e_astoren, ↓e_astore, ↓e_add, ↓e_iinc, ↓e_iadd, ↓e_isub, ↓e_imul, ↓e_iand, ↓e_ior, ↓e_ixor, ↓e_ishl, ↓e_iushr, ↓e_idiv, ↓e_irem, ↓e_ineg, ↓e_i2l, ↓e_i2b, ↓e_i2s, ↓e_l2i, ↓e_land, ↓e_lor, ↓e_lshl, ↓e_lshr, ↓e_lushr, ↓e_lcmp, ↓e_dupi, ↓e_dupr, ↓e_popi, ↓e_dup2, ↓e_goto, ↓e_if, ↓e_icmp, ↓e_tsw, ↓e_lsw, ↓e_getf, ↓e_putf, ↓e_gets, ↓e_iald, ↓e_cald, ↓e_iast, ↓e_aald, ↓e_aast, ↓e_len, ↓e_copy, ↓e_abs, ↓e_max, ↓e_min, ↓e_iret, ↓e_aret, ↓e_vret, ↓e_is0, ↓e_is1, ↓e_is2, ↓e_is3, ↓e_is4, ↓e_iv1, ↓e_iv2, ↓e_iv3, ↓e_iv4, ↓e_iv5, ↓e_iv6, ↓rt_X10_dig, ↓reduceIte, Nat.reduceAdd, Nat.reduceEqDiff, ↓zcl0, ↓zclv, List.map_nil, List.sum_nil, List.map_cons, List.sum_cons, zcat, true_and, and_true, Nat.reduceLeDiff, Nat.reduceAdd, eq_self, forall_const, e_ok0, e_okss, e_ok1i, e_ok1r, e_ok1n, zl_m1000000003, zl_m1000000001, zl_1, zl_63, Int.reduceToNat, Int.reduceAdd, Int.reduceMul, Int.reduceSub, Int.reduceNeg, Int.reduceLT, Int.reduceLE, Int.reduceEq, not_false_eq_true, not_true_eq_false, false_implies, true_implies, implies_true, Int.reduceDiv, Int.reduceMod, zr8_zr, zr_zbo, z01_zbo, z01_0, z01_1, zbo_eq0, zup_eq, zup_o, zup_k, ne_eq, ↓ct_x_dig_cbey, ↓r_cbey, ↓B_cbey, ↓ct_x_dig_cfail, ↓r_cfail, ↓B_cfail, ↓ct_x_dig_hheadsAt, ↓r_hheadsAt, ↓B_hheadsAt, ↓v_0, ↓g_0_0, ↓g_0_1, ↓g_0_2, ↓g_0_3, ↓g_0_4, ↓g_0_5, ↓g_0_6, ↓g_0_7, ↓g_0_8, ↓l_78, ↓s_78, ↓n_78, ↓g_0_9, ↓p_0_9, ↓v_1, ↓g_1_0, ↓g_1_1, ↓g_1_2, ↓g_1_3, ↓g_1_4, ↓g_1_5, ↓g_1_6, ↓p_1_6, ↓v_2, ↓g_2_0, ↓l_3, ↓s_3, ↓n_3, ↓g_2_1, ↓l_4, ↓s_4, ↓n_4, ↓g_2_2, ↓l_5, ↓s_5, ↓n_5, ↓g_2_3, ↓l_6, ↓s_6, ↓n_6, ↓g_2_4, ↓l_7, ↓s_7, ↓n_7, ↓g_2_5, ↓l_8, ↓s_8, ↓n_8, ↓g_2_6, ↓l_9, ↓s_9, ↓n_9, ↓g_2_7, ↓p_2_7, ↓g_2_8, ↓p_2_8, ↓g_2_9, ↓p_2_9, zr_rg, h2]
      refine ⟨fun e => ?_, fun e => ?_⟩
      · first | exact J49 q (by omega) | (refine ⟨Or.inl rfl, h1, S 88, n9.1, vd, ?_⟩; rw [ht, zh]; refine ⟨fun e2 => ?_, fun e2 => ?_⟩ <;> first | exact J49 q (by omega) | exact J42 q (by omega))
      · first | exact J49 q (by omega) | (refine ⟨Or.inl rfl, h1, S 88, n9.1, vd, ?_⟩; rw [ht, zh]; refine ⟨fun e2 => ?_, fun e2 => ?_⟩ <;> first | exact J49 q (by omega) | exact J42 q (by omega))
    have J9 : (0 ≤ c ∧ c ≤ 63) → X 9 [some (.inr (.inr (.inl 0))), some (.inl c), some (.inl v), none] [] (zG, M) (0, 0) := by
      intro q
      refine bs_X10_dig_9 hX ?_
      simp only [bk_X10_dig_0, k_X10_dig_0, bk_X10_dig_9, k_X10_dig_9, bk_X10_dig_17, k_X10_dig_17, bk_X10_dig_24, k_X10_dig_24, bk_X10_dig_42, k_X10_dig_42, bk_X10_dig_49, k_X10_dig_49, ↓e_rk1, ↓e_rk0, ↓e_sk0, ↓e_sks, ↓e_ldi0, ↓e_ldis, ↓e_ldl0, ↓e_ldls, ↓e_lda0, ↓e_ldas, ↓e_ok0, ↓e_okss, ↓e_ok1i, ↓e_ok1r, ↓e_ok1n, ↓e_sti, ↓e_sta, ↓e_1, ↓e_2, ↓e_l1, ↓e_l2, ↓e_li, ↓e_sw0, ↓e_sws, ↓e_ceq, ↓e_cne, ↓e_clt, ↓e_cge, ↓e_cgt, ↓e_cle, ↓e_nil, ↓e_cons, ↓e_iconst, ↓e_bipush, ↓e_sipush, ↓e_ldc, ↓e_ldcw, ↓e_ldc2, ↓e_lconst, ↓e_iloadn, ↓e_iload, ↓e_lloadn, ↓e_lload, ↓e_aloadn, ↓e_aload, ↓e_istoren, ↓e_istore, ↓e_astoren, ↓e_astore, ↓e_add, ↓e_iinc, ↓e_iadd, ↓e_isub, ↓e_imul, ↓e_iand, ↓e_ior, ↓e_ixor, ↓e_ishl, ↓e_iushr, ↓e_idiv, ↓e_irem, ↓e_ineg, ↓e_i2l, ↓e_i2b, ↓e_i2s, ↓e_l2i, ↓e_land, ↓e_lor, ↓e_lshl, ↓e_lshr, ↓e_lushr, ↓e_lcmp, ↓e_dupi, ↓e_dupr, ↓e_popi, ↓e_dup2, ↓e_goto, ↓e_if, ↓e_icmp, ↓e_tsw, ↓e_lsw, ↓e_getf, ↓e_putf, ↓e_gets, ↓e_iald, ↓e_cald, ↓e_iast, ↓e_aald, ↓e_aast, ↓e_len, ↓e_copy, ↓e_abs, ↓e_max, ↓e_min, ↓e_iret, ↓e_aret, ↓e_vret, ↓e_is0, ↓e_is1, ↓e_is2, ↓e_is3, ↓e_is4, ↓e_iv1, ↓e_iv2, ↓e_iv3, ↓e_iv4, ↓e_iv5, ↓e_iv6, ↓rt_X10_dig, ↓reduceIte, Nat.reduceAdd, Nat.reduceEqDiff, ↓zcl0, ↓zclv, List.map_nil, List.sum_nil, List.map_cons, List.sum_cons, zcat, true_and, and_true, Nat.reduceLeDiff, Nat.reduceAdd, eq_self, forall_const, e_ok0, e_okss, e_ok1i, e_ok1r, e_ok1n, zl_m1000000003, zl_m1000000001, zl_1, zl_63, Int.reduceToNat, Int.reduceAdd, Int.reduceMul, Int.reduceSub, Int.reduceNeg, Int.reduceLT, Int.reduceLE, Int.reduceEq, not_false_eq_true, not_true_eq_false, false_implies, true_implies, implies_true, Int.reduceDiv, Int.reduceMod, zr8_zr, zr_zbo, z01_zbo, z01_0, z01_1, zbo_eq0, zup_eq, zup_o, zup_k, ne_eq, ↓ct_x_dig_cbey, ↓r_cbey, ↓B_cbey, ↓ct_x_dig_cfail, ↓r_cfail, ↓B_cfail, ↓ct_x_dig_hheadsAt, ↓r_hheadsAt, ↓B_hheadsAt, ↓v_0, ↓g_0_0, ↓g_0_1, ↓g_0_2, ↓g_0_3, ↓g_0_4, ↓g_0_5, ↓g_0_6, ↓g_0_7, ↓g_0_8, ↓l_78, ↓s_78, ↓n_78, ↓g_0_9, ↓p_0_9, zr_zbo, zbo_eq0]
      repeat' (first | assumption | apply And.intro | intro _)
      all_goals first | omega | (apply J17; omega) | (apply J24; omega)
    simp only [bk_X10_dig_0, k_X10_dig_0, bk_X10_dig_9, k_X10_dig_9, bk_X10_dig_17, k_X10_dig_17, bk_X10_dig_24, k_X10_dig_24, bk_X10_dig_42, k_X10_dig_42, bk_X10_dig_49, k_X10_dig_49, ↓e_rk1, ↓e_rk0, ↓e_sk0, ↓e_sks, ↓e_ldi0, ↓e_ldis, ↓e_ldl0, ↓e_ldls, ↓e_lda0, ↓e_ldas, ↓e_ok0, ↓e_okss, ↓e_ok1i, ↓e_ok1r, ↓e_ok1n, ↓e_sti, ↓e_sta, ↓e_1, ↓e_2, ↓e_l1, ↓e_l2, ↓e_li, ↓e_sw0, ↓e_sws, ↓e_ceq, ↓e_cne, ↓e_clt, ↓e_cge, ↓e_cgt, ↓e_cle, ↓e_nil, ↓e_cons, ↓e_iconst, ↓e_bipush, ↓e_sipush, ↓e_ldc, ↓e_ldcw, ↓e_ldc2, ↓e_lconst, ↓e_iloadn, ↓e_iload, ↓e_lloadn, ↓e_lload, ↓e_aloadn, ↓e_aload, ↓e_istoren, ↓e_istore, ↓e_astoren, ↓e_astore, ↓e_add, ↓e_iinc, ↓e_iadd, ↓e_isub, ↓e_imul, ↓e_iand, ↓e_ior, ↓e_ixor, ↓e_ishl, ↓e_iushr, ↓e_idiv, ↓e_irem, ↓e_ineg, ↓e_i2l, ↓e_i2b, ↓e_i2s, ↓e_l2i, ↓e_land, ↓e_lor, ↓e_lshl, ↓e_lshr, ↓e_lushr, ↓e_lcmp, ↓e_dupi, ↓e_dupr, ↓e_popi, ↓e_dup2, ↓e_goto, ↓e_if, ↓e_icmp, ↓e_tsw, ↓e_lsw, ↓e_getf, ↓e_putf, ↓e_gets, ↓e_iald, ↓e_cald, ↓e_iast, ↓e_aald, ↓e_aast, ↓e_len, ↓e_copy, ↓e_abs, ↓e_max, ↓e_min, ↓e_iret, ↓e_aret, ↓e_vret, ↓e_is0, ↓e_is1, ↓e_is2, ↓e_is3, ↓e_is4, ↓e_iv1, ↓e_iv2, ↓e_iv3, ↓e_iv4, ↓e_iv5, ↓e_iv6, ↓rt_X10_dig, ↓reduceIte, Nat.reduceAdd, Nat.reduceEqDiff, ↓zcl0, ↓zclv, List.map_nil, List.sum_nil, List.map_cons, List.sum_cons, zcat, true_and, and_true, Nat.reduceLeDiff, Nat.reduceAdd, eq_self, forall_const, e_ok0, e_okss, e_ok1i, e_ok1r, e_ok1n, zl_m1000000003, zl_m1000000001, zl_1, zl_63, Int.reduceToNat, Int.reduceAdd, Int.reduceMul, Int.reduceSub, Int.reduceNeg, Int.reduceLT, Int.reduceLE, Int.reduceEq, not_false_eq_true, not_true_eq_false, false_implies, true_implies, implies_true, Int.reduceDiv, Int.reduceMod, zr8_zr, zr_zbo, z01_zbo, z01_0, z01_1, zbo_eq0, zup_eq, zup_o, zup_k, ne_eq, ↓ct_x_dig_cbey, ↓r_cbey, ↓B_cbey, ↓ct_x_dig_cfail, ↓r_cfail, ↓B_cfail, ↓ct_x_dig_hheadsAt, ↓r_hheadsAt, ↓B_hheadsAt, ↓v_0, ↓g_0_0, ↓g_0_1, ↓g_0_2, ↓g_0_3, ↓g_0_4, ↓g_0_5, ↓g_0_6, ↓g_0_7, ↓g_0_8, ↓l_78, ↓s_78, ↓n_78, ↓g_0_9, ↓p_0_9, zr_zbo, zbo_eq0]
    repeat' (first | assumption | apply And.intro | intro _)
    all_goals first | omega | (apply J17; omega) | (apply J9; omega)
def B_x_ofCell (c : Int) (w : Int) (M : Nat → Nat → Int) (post : Option ZV → (Nat → Nat → Int) → Prop) : Prop := rg c ∧ rg w ∧ ∃ S : ZMm, Vs S ∧ Rc S M ∧ cp M (R_ofCell S c w) post
def C_x_ofCell : ZC := fun as h post => match as with
  | [.inr (.inr (.inl 0)), .inl c, .inl w] => h.1 = zG ∧ B_x_ofCell c w h.2 (fun v M => post v (zG, M))
  | _ => False
theorem r_x_ofCell {c : Int} {w : Int} {M : Nat → Nat → Int} {post : Option ZV → ZH → Prop} : C_x_ofCell [.inr (.inr (.inl 0)), .inl c, .inl w] (zG, M) post = B_x_ofCell c w M (fun v M => post v (zG, M)) := by show (zG = zG ∧ _) = _; simp
def ct_x_ofCell : Nat → ZC := fun n => if n = 111 then C_cbey else if n = 110 then C_cfail else if n = 19 then C_hheadsAt else fun _ _ _ => False
theorem ct_x_ofCell_cbey {as : List ZV} {h : ZH} {post : Option ZV → ZH → Prop} : ct_x_ofCell 111 as h post = C_cbey as h post := rfl
theorem ct_x_ofCell_cfail {as : List ZV} {h : ZH} {post : Option ZV → ZH → Prop} : ct_x_ofCell 110 as h post = C_cfail as h post := rfl
theorem ct_x_ofCell_hheadsAt {as : List ZV} {h : ZH} {post : Option ZV → ZH → Prop} : ct_x_ofCell 19 as h post = C_hheadsAt as h post := rfl
theorem c_x_ofCell {E : ZE} {d : Nat} (hd : 2 ≤ d) : zMet E d mX10_ofCell C_x_ofCell := by
  refine zmet_of (o := 10) (ini := false) (CT := ct_x_ofCell) gd_X10_ofCell rfl (fun h => by cases h) (by omega) ?_ ?_
  · intro n as h post hh
    unfold ct_x_ofCell at hh
    by_cases c : n = 111
    · subst c; exact ⟨gd_X10_isBeyond, 1, by omega, c_cbey (by omega)⟩
    rw [if_neg c] at hh
    by_cases c : n = 110
    · subst c; exact ⟨gd_X10_failed, 1, by omega, c_cfail (by omega)⟩
    rw [if_neg c] at hh
    by_cases c : n = 19
    · subst c; exact ⟨gd_X2_headsAt, 1, by omega, c_hheadsAt (by omega)⟩
    rw [if_neg c] at hh
    exact hh.elim
  intro as h post hC
  match as, hC with
  | [.inr (.inr (.inl 0)), .inl c, .inl w], hC =>
    refine ⟨Nat.le_of_ble_eq_true rfl, fun X hX => bs_X10_ofCell_0 hX ?_⟩
    obtain ⟨G, M⟩ := h
    obtain ⟨hG, hC⟩ := hC
    dsimp only at hG
    subst hG
    simp only [B_x_ofCell] at hC
    show bk_X10_ofCell_0 E ct_x_ofCell X _ [some (.inr (.inr (.inl 0))), some (.inl c), some (.inl w)] [] (zG, M) (0, 0)
    obtain ⟨h1, h2, S, vs9, H, hC⟩ := hC
    have vd : Vd (S 88) := vs9.1
    have n9 := H.1
    have J17 : ¬ ((0 ≤ c ∧ c ≤ 63) ∧ 0 ≤ w ∧ w ≤ 2) → X 17 [some (.inr (.inr (.inl 0))), some (.inl c), some (.inl w)] [] (zG, M) (0, 0) := by
      intro q
      refine bs_X10_ofCell_17 hX ?_
      simp only [bk_X10_ofCell_0, k_X10_ofCell_0, bk_X10_ofCell_9, k_X10_ofCell_9, bk_X10_ofCell_17, k_X10_ofCell_17, bk_X10_ofCell_24, k_X10_ofCell_24, bk_X10_ofCell_52, k_X10_ofCell_52, bk_X10_ofCell_65, k_X10_ofCell_65, bk_X10_ofCell_78, k_X10_ofCell_78, ↓e_rk1, ↓e_rk0, ↓e_sk0, ↓e_sks, ↓e_ldi0, ↓e_ldis, ↓e_ldl0, ↓e_ldls, ↓e_lda0, ↓e_ldas, ↓e_ok0, ↓e_okss, ↓e_ok1i, ↓e_ok1r, ↓e_ok1n, ↓e_sti, ↓e_sta, ↓e_1, ↓e_2, ↓e_l1, ↓e_l2, ↓e_li, ↓e_sw0, ↓e_sws, ↓e_ceq, ↓e_cne, ↓e_clt, ↓e_cge, ↓e_cgt, ↓e_cle, ↓e_nil, ↓e_cons, ↓e_iconst, ↓e_bipush, ↓e_sipush, ↓e_ldc, ↓e_ldcw, ↓e_ldc2, ↓e_lconst, ↓e_iloadn, ↓e_iload, ↓e_lloadn, ↓e_lload, ↓e_aloadn, ↓e_aload, ↓e_istoren, ↓e_istore, ↓e_astoren, ↓e_astore, ↓e_add, ↓e_iinc, ↓e_iadd, ↓e_isub, ↓e_imul, ↓e_iand, ↓e_ior, ↓e_ixor, ↓e_ishl, ↓e_iushr, ↓e_idiv, ↓e_irem, ↓e_ineg, ↓e_i2l, ↓e_i2b, ↓e_i2s, ↓e_l2i, ↓e_land, ↓e_lor, ↓e_lshl, ↓e_lshr, ↓e_lushr, ↓e_lcmp, ↓e_dupi, ↓e_dupr, ↓e_popi, ↓e_dup2, ↓e_goto, ↓e_if, ↓e_icmp, ↓e_tsw, ↓e_lsw, ↓e_getf, ↓e_putf, ↓e_gets, ↓e_iald, ↓e_cald, ↓e_iast, ↓e_aald, ↓e_aast, ↓e_len, ↓e_copy, ↓e_abs, ↓e_max, ↓e_min, ↓e_iret, ↓e_aret, ↓e_vret, ↓e_is0, ↓e_is1, ↓e_is2, ↓e_is3, ↓e_is4, ↓e_iv1, ↓e_iv2, ↓e_iv3, ↓e_iv4, ↓e_iv5, ↓e_iv6, ↓rt_X10_ofCell, ↓reduceIte, Nat.reduceAdd, Nat.reduceEqDiff, ↓zcl0, ↓zclv, List.map_nil, List.sum_nil, List.map_cons, List.sum_cons, zcat, true_and, and_true, Nat.reduceLeDiff, Nat.reduceAdd, eq_self, forall_const, e_ok0, e_okss, e_ok1i, e_ok1r, e_ok1n, zl_m1000000001, zl_2, zl_63, Int.reduceToNat, Int.reduceAdd, Int.reduceMul, Int.reduceSub, Int.reduceNeg, Int.reduceLT, Int.reduceLE, Int.reduceEq, not_false_eq_true, not_true_eq_false, false_implies, true_implies, implies_true, Int.reduceDiv, Int.reduceMod, zr8_zr, zr_zbo, z01_zbo, z01_0, z01_1, zbo_eq0, zup_eq, zup_o, zup_k, ne_eq, ↓ct_x_ofCell_cbey, ↓r_cbey, ↓B_cbey, ↓ct_x_ofCell_cfail, ↓r_cfail, ↓B_cfail, ↓ct_x_ofCell_hheadsAt, ↓r_hheadsAt, ↓B_hheadsAt, ↓v_0, ↓g_0_0, ↓g_0_1, ↓g_0_2, ↓g_0_3, ↓g_0_4, ↓g_0_5, ↓g_0_6, ↓g_0_7, ↓g_0_8, ↓l_78, ↓s_78, ↓n_78, ↓g_0_9, ↓p_0_9]
      exact ⟨1, by omega, by omega, cp_no hC H vd (by omega) (by unfold R_ofCell; rw [if_neg (by omega)]) rfl⟩
    have J24 : ((0 ≤ c ∧ c ≤ 63) ∧ 0 ≤ w ∧ w ≤ 2) → X 24 [some (.inr (.inr (.inl 0))), some (.inl c), some (.inl w)] [] (zG, M) (0, 0) := by
      intro q
      have zc9 : zr c = c := zr_rg h1
      have e1 : M 3 c.toNat = S 88 (6 + c).toNat := by rw [n9.1.1 c.toNat (by omega), show (6 + c).toNat = 6 + c.toNat by omega]
      have e2 : M 4 c.toNat = S 88 (70 + c).toNat := by rw [n9.1.2.1 c.toNat (by omega), show (70 + c).toNat = 70 + c.toNat by omega]
      refine bs_X10_ofCell_24 hX ?_
      simp only [bk_X10_ofCell_0, k_X10_ofCell_0, bk_X10_ofCell_9, k_X10_ofCell_9, bk_X10_ofCell_17, k_X10_ofCell_17, bk_X10_ofCell_24, k_X10_ofCell_24, bk_X10_ofCell_52, k_X10_ofCell_52, bk_X10_ofCell_65, k_X10_ofCell_65, bk_X10_ofCell_78, k_X10_ofCell_78, ↓e_rk1, ↓e_rk0, ↓e_sk0, ↓e_sks, ↓e_ldi0, ↓e_ldis, ↓e_ldl0, ↓e_ldls, ↓e_lda0, ↓e_ldas, ↓e_ok0, ↓e_okss, ↓e_ok1i, ↓e_ok1r, ↓e_ok1n, ↓e_sti, ↓e_sta, ↓e_1, ↓e_2, ↓e_l1, ↓e_l2, ↓e_li, ↓e_sw0, ↓e_sws, ↓e_ceq, ↓e_cne, ↓e_clt, ↓e_cge, ↓e_cgt, ↓e_cle, ↓e_nil, ↓e_cons, ↓e_iconst, ↓e_bipush, ↓e_sipush, ↓e_ldc, ↓e_ldcw, ↓e_ldc2, ↓e_lconst, ↓e_iloadn, ↓e_iload, ↓e_lloadn, ↓e_lload, ↓e_aloadn, ↓e_aload, ↓e_istoren, ↓e_istore, ↓e_astoren, ↓e_astore, ↓e_add, ↓e_iinc, ↓e_iadd, ↓e_isub, ↓e_imul, ↓e_iand, ↓e_ior, ↓e_ixor, ↓e_ishl, ↓e_iushr, ↓e_idiv, ↓e_irem, ↓e_ineg, ↓e_i2l, ↓e_i2b, ↓e_i2s, ↓e_l2i, ↓e_land, ↓e_lor, ↓e_lshl, ↓e_lshr, ↓e_lushr, ↓e_lcmp, ↓e_dupi, ↓e_dupr, ↓e_popi, ↓e_dup2, ↓e_goto, ↓e_if, ↓e_icmp, ↓e_tsw, ↓e_lsw, ↓e_getf, ↓e_putf, ↓e_gets, ↓e_iald, ↓e_cald, ↓e_iast, ↓e_aald, ↓e_aast, ↓e_len, ↓e_copy, ↓e_abs, ↓e_max, ↓e_min, ↓e_iret, ↓e_aret, ↓e_vret, ↓e_is0, ↓e_is1, ↓e_is2, ↓e_is3, ↓e_is4, ↓e_iv1, ↓e_iv2, ↓e_iv3, ↓e_iv4, ↓e_iv5, ↓e_iv6, ↓rt_X10_ofCell, ↓reduceIte, Nat.reduceAdd, Nat.reduceEqDiff, ↓zcl0, ↓zclv, List.map_nil, List.sum_nil, List.map_cons, List.sum_cons, zcat, true_and, and_true, Nat.reduceLeDiff, Nat.reduceAdd, eq_self, forall_const, e_ok0, e_okss, e_ok1i, e_ok1r, e_ok1n, zl_m1000000001, zl_2, zl_63, Int.reduceToNat, Int.reduceAdd, Int.reduceMul, Int.reduceSub, Int.reduceNeg, Int.reduceLT, Int.reduceLE, Int.reduceEq, not_false_eq_true, not_true_eq_false, false_implies, true_implies, implies_true, Int.reduceDiv, Int.reduceMod, zr8_zr, zr_zbo, z01_zbo, z01_0, z01_1, zbo_eq0, zup_eq, zup_o, zup_k, ne_eq, ↓ct_x_ofCell_cbey, ↓r_cbey, ↓B_cbey, ↓ct_x_ofCell_cfail, ↓r_cfail, ↓B_cfail, ↓ct_x_ofCell_hheadsAt, ↓r_hheadsAt, ↓B_hheadsAt, zr_rg, h2]
      refine ⟨fun k0 => ?_, fun k0 => ⟨fun k1 => ?_, fun k1 => ?_⟩⟩
      · refine bs_X10_ofCell_52 hX ?_
        simp only [bk_X10_ofCell_0, k_X10_ofCell_0, bk_X10_ofCell_9, k_X10_ofCell_9, bk_X10_ofCell_17, k_X10_ofCell_17, bk_X10_ofCell_24, k_X10_ofCell_24, bk_X10_ofCell_52, k_X10_ofCell_52, bk_X10_ofCell_65, k_X10_ofCell_65, bk_X10_ofCell_78, k_X10_ofCell_78, ↓e_rk1, ↓e_rk0, ↓e_sk0, ↓e_sks, ↓e_ldi0, ↓e_ldis, ↓e_ldl0, ↓e_ldls, ↓e_lda0, ↓e_ldas, ↓e_ok0, ↓e_okss, ↓e_ok1i, ↓e_ok1r, ↓e_ok1n, ↓e_sti, ↓e_sta, ↓e_1, ↓e_2, ↓e_l1, ↓e_l2, ↓e_li, ↓e_sw0, ↓e_sws, ↓e_ceq, ↓e_cne, ↓e_clt, ↓e_cge, ↓e_cgt, ↓e_cle, ↓e_nil, ↓e_cons, ↓e_iconst, ↓e_bipush, ↓e_sipush, ↓e_ldc, ↓e_ldcw, ↓e_ldc2, ↓e_lconst, ↓e_iloadn, ↓e_iload, ↓e_lloadn, ↓e_lload, ↓e_aloadn, ↓e_aload, ↓e_istoren, ↓e_istore, ↓e_astoren, ↓e_astore, ↓e_add, ↓e_iinc, ↓e_iadd, ↓e_isub, ↓e_imul, ↓e_iand, ↓e_ior, ↓e_ixor, ↓e_ishl, ↓e_iushr, ↓e_idiv, ↓e_irem, ↓e_ineg, ↓e_i2l, ↓e_i2b, ↓e_i2s, ↓e_l2i, ↓e_land, ↓e_lor, ↓e_lshl, ↓e_lshr, ↓e_lushr, ↓e_lcmp, ↓e_dupi, ↓e_dupr, ↓e_popi, ↓e_dup2, ↓e_goto, ↓e_if, ↓e_icmp, ↓e_tsw, ↓e_lsw, ↓e_getf, ↓e_putf, ↓e_gets, ↓e_iald, ↓e_cald, ↓e_iast, ↓e_aald, ↓e_aast, ↓e_len, ↓e_copy, ↓e_abs, ↓e_max, ↓e_min, ↓e_iret, ↓e_aret, ↓e_vret, ↓e_is0, ↓e_is1, ↓e_is2, ↓e_is3, ↓e_is4, ↓e_iv1, ↓e_iv2, ↓e_iv3, ↓e_iv4, ↓e_iv5, ↓e_iv6, ↓rt_X10_ofCell, ↓reduceIte, Nat.reduceAdd, Nat.reduceEqDiff, ↓zcl0, ↓zclv, List.map_nil, List.sum_nil, List.map_cons, List.sum_cons, zcat, true_and, and_true, Nat.reduceLeDiff, Nat.reduceAdd, eq_self, forall_const, e_ok0, e_okss, e_ok1i, e_ok1r, e_ok1n, zl_m1000000001, zl_2, zl_63, Int.reduceToNat, Int.reduceAdd, Int.reduceMul, Int.reduceSub, Int.reduceNeg, Int.reduceLT, Int.reduceLE, Int.reduceEq, not_false_eq_true, not_true_eq_false, false_implies, true_implies, implies_true, Int.reduceDiv, Int.reduceMod, zr8_zr, zr_zbo, z01_zbo, z01_0, z01_1, zbo_eq0, zup_eq, zup_o, zup_k, ne_eq, ↓ct_x_ofCell_cbey, ↓r_cbey, ↓B_cbey, ↓ct_x_ofCell_cfail, ↓r_cfail, ↓B_cfail, ↓ct_x_ofCell_hheadsAt, ↓r_hheadsAt, ↓B_hheadsAt, ↓v_0, ↓g_0_0, ↓g_0_1, ↓g_0_2, ↓g_0_3, ↓g_0_4, ↓g_0_5, ↓g_0_6, ↓g_0_7, ↓g_0_8, ↓l_78, ↓s_78, ↓n_78, ↓g_0_9, ↓p_0_9, ↓v_1, ↓g_1_0, ↓g_1_1, ↓g_1_2, ↓g_1_3, ↓g_1_4, ↓g_1_5, ↓g_1_6, ↓p_1_6, ↓v_2, ↓g_2_0, ↓l_3, ↓s_3, ↓n_3, ↓g_2_1, ↓l_4, ↓s_4, ↓n_4, ↓g_2_2, ↓l_5, ↓s_5, ↓n_5, ↓g_2_3, ↓l_6, ↓s_6, ↓n_6, ↓g_2_4, ↓l_7, ↓s_7, ↓n_7, ↓g_2_5, ↓l_8, ↓s_8, ↓n_8, ↓g_2_6, ↓l_9, ↓s_9, ↓n_9, ↓g_2_7, ↓p_2_7, ↓g_2_8, ↓p_2_8, ↓g_2_9, ↓p_2_9, zc9, e1]
        exact ⟨by omega, by omega, cp_id hC H (by unfold R_ofCell; rw [if_pos q, if_pos k0])⟩
      · refine bs_X10_ofCell_65 hX ?_
        simp only [bk_X10_ofCell_0, k_X10_ofCell_0, bk_X10_ofCell_9, k_X10_ofCell_9, bk_X10_ofCell_17, k_X10_ofCell_17, bk_X10_ofCell_24, k_X10_ofCell_24, bk_X10_ofCell_52, k_X10_ofCell_52, bk_X10_ofCell_65, k_X10_ofCell_65, bk_X10_ofCell_78, k_X10_ofCell_78, ↓e_rk1, ↓e_rk0, ↓e_sk0, ↓e_sks, ↓e_ldi0, ↓e_ldis, ↓e_ldl0, ↓e_ldls, ↓e_lda0, ↓e_ldas, ↓e_ok0, ↓e_okss, ↓e_ok1i, ↓e_ok1r, ↓e_ok1n, ↓e_sti, ↓e_sta, ↓e_1, ↓e_2, ↓e_l1, ↓e_l2, ↓e_li, ↓e_sw0, ↓e_sws, ↓e_ceq, ↓e_cne, ↓e_clt, ↓e_cge, ↓e_cgt, ↓e_cle, ↓e_nil, ↓e_cons, ↓e_iconst, ↓e_bipush, ↓e_sipush, ↓e_ldc, ↓e_ldcw, ↓e_ldc2, ↓e_lconst, ↓e_iloadn, ↓e_iload, ↓e_lloadn, ↓e_lload, ↓e_aloadn, ↓e_aload, ↓e_istoren, ↓e_istore, ↓e_astoren, ↓e_astore, ↓e_add, ↓e_iinc, ↓e_iadd, ↓e_isub, ↓e_imul, ↓e_iand, ↓e_ior, ↓e_ixor, ↓e_ishl, ↓e_iushr, ↓e_idiv, ↓e_irem, ↓e_ineg, ↓e_i2l, ↓e_i2b, ↓e_i2s, ↓e_l2i, ↓e_land, ↓e_lor, ↓e_lshl, ↓e_lshr, ↓e_lushr, ↓e_lcmp, ↓e_dupi, ↓e_dupr, ↓e_popi, ↓e_dup2, ↓e_goto, ↓e_if, ↓e_icmp, ↓e_tsw, ↓e_lsw, ↓e_getf, ↓e_putf, ↓e_gets, ↓e_iald, ↓e_cald, ↓e_iast, ↓e_aald, ↓e_aast, ↓e_len, ↓e_copy, ↓e_abs, ↓e_max, ↓e_min, ↓e_iret, ↓e_aret, ↓e_vret, ↓e_is0, ↓e_is1, ↓e_is2, ↓e_is3, ↓e_is4, ↓e_iv1, ↓e_iv2, ↓e_iv3, ↓e_iv4, ↓e_iv5, ↓e_iv6, ↓rt_X10_ofCell, ↓reduceIte, Nat.reduceAdd, Nat.reduceEqDiff, ↓zcl0, ↓zclv, List.map_nil, List.sum_nil, List.map_cons, List.sum_cons, zcat, true_and, and_true, Nat.reduceLeDiff, Nat.reduceAdd, eq_self, forall_const, e_ok0, e_okss, e_ok1i, e_ok1r, e_ok1n, zl_m1000000001, zl_2, zl_63, Int.reduceToNat, Int.reduceAdd, Int.reduceMul, Int.reduceSub, Int.reduceNeg, Int.reduceLT, Int.reduceLE, Int.reduceEq, not_false_eq_true, not_true_eq_false, false_implies, true_implies, implies_true, Int.reduceDiv, Int.reduceMod, zr8_zr, zr_zbo, z01_zbo, z01_0, z01_1, zbo_eq0, zup_eq, zup_o, zup_k, ne_eq, ↓ct_x_ofCell_cbey, ↓r_cbey, ↓B_cbey, ↓ct_x_ofCell_cfail, ↓r_cfail, ↓B_cfail, ↓ct_x_ofCell_hheadsAt, ↓r_hheadsAt, ↓B_hheadsAt, ↓v_0, ↓g_0_0, ↓g_0_1, ↓g_0_2, ↓g_0_3, ↓g_0_4, ↓g_0_5, ↓g_0_6, ↓g_0_7, ↓g_0_8, ↓l_78, ↓s_78, ↓n_78, ↓g_0_9, ↓p_0_9, ↓v_1, ↓g_1_0, ↓g_1_1, ↓g_1_2, ↓g_1_3, ↓g_1_4, ↓g_1_5, ↓g_1_6, ↓p_1_6, ↓v_2, ↓g_2_0, ↓l_3, ↓s_3, ↓n_3, ↓g_2_1, ↓l_4, ↓s_4, ↓n_4, ↓g_2_2, ↓l_5, ↓s_5, ↓n_5, ↓g_2_3, ↓l_6, ↓s_6, ↓n_6, ↓g_2_4, ↓l_7, ↓s_7, ↓n_7, ↓g_2_5, ↓l_8, ↓s_8, ↓n_8, ↓g_2_6, ↓l_9, ↓s_9, ↓n_9, ↓g_2_7, ↓p_2_7, ↓g_2_8, ↓p_2_8, ↓g_2_9, ↓p_2_9, zc9, e2]
        exact ⟨by omega, by omega, cp_id hC H (by unfold R_ofCell; rw [if_pos q, if_neg k0, if_pos k1])⟩
      · refine bs_X10_ofCell_78 hX ?_
        simp only [bk_X10_ofCell_0, k_X10_ofCell_0, bk_X10_ofCell_9, k_X10_ofCell_9, bk_X10_ofCell_17, k_X10_ofCell_17, bk_X10_ofCell_24, k_X10_ofCell_24, bk_X10_ofCell_52, k_X10_ofCell_52, bk_X10_ofCell_65, k_X10_ofCell_65, bk_X10_ofCell_78, k_X10_ofCell_78, ↓e_rk1, ↓e_rk0, ↓e_sk0, ↓e_sks, ↓e_ldi0, ↓e_ldis, ↓e_ldl0, ↓e_ldls, ↓e_lda0, ↓e_ldas, ↓e_ok0, ↓e_okss, ↓e_ok1i, ↓e_ok1r, ↓e_ok1n, ↓e_sti, ↓e_sta, ↓e_1, ↓e_2, ↓e_l1, ↓e_l2, ↓e_li, ↓e_sw0, ↓e_sws, ↓e_ceq, ↓e_cne, ↓e_clt, ↓e_cge, ↓e_cgt, ↓e_cle, ↓e_nil, ↓e_cons, ↓e_iconst, ↓e_bipush, ↓e_sipush, ↓e_ldc, ↓e_ldcw, ↓e_ldc2, ↓e_lconst, ↓e_iloadn, ↓e_iload, ↓e_lloadn, ↓e_lload, ↓e_aloadn, ↓e_aload, ↓e_istoren, ↓e_istore, ↓e_astoren, ↓e_astore, ↓e_add, ↓e_iinc, ↓e_iadd, ↓e_isub, ↓e_imul, ↓e_iand, ↓e_ior, ↓e_ixor, ↓e_ishl, ↓e_iushr, ↓e_idiv, ↓e_irem, ↓e_ineg, ↓e_i2l, ↓e_i2b, ↓e_i2s, ↓e_l2i, ↓e_land, ↓e_lor, ↓e_lshl, ↓e_lshr, ↓e_lushr, ↓e_lcmp, ↓e_dupi, ↓e_dupr, ↓e_popi, ↓e_dup2, ↓e_goto, ↓e_if, ↓e_icmp, ↓e_tsw, ↓e_lsw, ↓e_getf, ↓e_putf, ↓e_gets, ↓e_iald, ↓e_cald, ↓e_iast, ↓e_aald, ↓e_aast, ↓e_len, ↓e_copy, ↓e_abs, ↓e_max, ↓e_min, ↓e_iret, ↓e_aret, ↓e_vret, ↓e_is0, ↓e_is1, ↓e_is2, ↓e_is3, ↓e_is4, ↓e_iv1, ↓e_iv2, ↓e_iv3, ↓e_iv4, ↓e_iv5, ↓e_iv6, ↓rt_X10_ofCell, ↓reduceIte, Nat.reduceAdd, Nat.reduceEqDiff, ↓zcl0, ↓zclv, List.map_nil, List.sum_nil, List.map_cons, List.sum_cons, zcat, true_and, and_true, Nat.reduceLeDiff, Nat.reduceAdd, eq_self, forall_const, e_ok0, e_okss, e_ok1i, e_ok1r, e_ok1n, zl_m1000000001, zl_2, zl_63, Int.reduceToNat, Int.reduceAdd, Int.reduceMul, Int.reduceSub, Int.reduceNeg, Int.reduceLT, Int.reduceLE, Int.reduceEq, not_false_eq_true, not_true_eq_false, false_implies, true_implies, implies_true, Int.reduceDiv, Int.reduceMod, zr8_zr, zr_zbo, z01_zbo, z01_0, z01_1, zbo_eq0, zup_eq, zup_o, zup_k, ne_eq, ↓ct_x_ofCell_cbey, ↓r_cbey, ↓B_cbey, ↓ct_x_ofCell_cfail, ↓r_cfail, ↓B_cfail, ↓ct_x_ofCell_hheadsAt, ↓r_hheadsAt, ↓B_hheadsAt, ↓v_0, ↓g_0_0, ↓g_0_1, ↓g_0_2, ↓g_0_3, ↓g_0_4, ↓g_0_5, ↓g_0_6, ↓g_0_7, ↓g_0_8, ↓l_78, ↓s_78, ↓n_78, ↓g_0_9, ↓p_0_9, ↓v_1, ↓g_1_0, ↓g_1_1, ↓g_1_2, ↓g_1_3, ↓g_1_4, ↓g_1_5, ↓g_1_6, ↓p_1_6, ↓v_2, ↓g_2_0, ↓l_3, ↓s_3, ↓n_3, ↓g_2_1, ↓l_4, ↓s_4, ↓n_4, ↓g_2_2, ↓l_5, ↓s_5, ↓n_5, ↓g_2_3, ↓l_6, ↓s_6, ↓n_6, ↓g_2_4, ↓l_7, ↓s_7, ↓n_7, ↓g_2_5, ↓l_8, ↓s_8, ↓n_8, ↓g_2_6, ↓l_9, ↓s_9, ↓n_9, ↓g_2_7, ↓p_2_7, ↓g_2_8, ↓p_2_8, ↓g_2_9, ↓p_2_9]
        exact ⟨Or.inl rfl, h1, S 88, n9.1, vd, cp_id hC H (by unfold R_ofCell; rw [if_pos q, if_neg k0, if_neg k1]; rfl)⟩
    have J9 : (0 ≤ c ∧ c ≤ 63) → X 9 [some (.inr (.inr (.inl 0))), some (.inl c), some (.inl w)] [] (zG, M) (0, 0) := by
      intro q
      refine bs_X10_ofCell_9 hX ?_
      simp only [bk_X10_ofCell_0, k_X10_ofCell_0, bk_X10_ofCell_9, k_X10_ofCell_9, bk_X10_ofCell_17, k_X10_ofCell_17, bk_X10_ofCell_24, k_X10_ofCell_24, bk_X10_ofCell_52, k_X10_ofCell_52, bk_X10_ofCell_65, k_X10_ofCell_65, bk_X10_ofCell_78, k_X10_ofCell_78, ↓e_rk1, ↓e_rk0, ↓e_sk0, ↓e_sks, ↓e_ldi0, ↓e_ldis, ↓e_ldl0, ↓e_ldls, ↓e_lda0, ↓e_ldas, ↓e_ok0, ↓e_okss, ↓e_ok1i, ↓e_ok1r, ↓e_ok1n, ↓e_sti, ↓e_sta, ↓e_1, ↓e_2, ↓e_l1, ↓e_l2, ↓e_li, ↓e_sw0, ↓e_sws, ↓e_ceq, ↓e_cne, ↓e_clt, ↓e_cge, ↓e_cgt, ↓e_cle, ↓e_nil, ↓e_cons, ↓e_iconst, ↓e_bipush, ↓e_sipush, ↓e_ldc, ↓e_ldcw, ↓e_ldc2, ↓e_lconst, ↓e_iloadn, ↓e_iload, ↓e_lloadn, ↓e_lload, ↓e_aloadn, ↓e_aload, ↓e_istoren, ↓e_istore, ↓e_astoren, ↓e_astore, ↓e_add, ↓e_iinc, ↓e_iadd, ↓e_isub, ↓e_imul, ↓e_iand, ↓e_ior, ↓e_ixor, ↓e_ishl, ↓e_iushr, ↓e_idiv, ↓e_irem, ↓e_ineg, ↓e_i2l, ↓e_i2b, ↓e_i2s, ↓e_l2i, ↓e_land, ↓e_lor, ↓e_lshl, ↓e_lshr, ↓e_lushr, ↓e_lcmp, ↓e_dupi, ↓e_dupr, ↓e_popi, ↓e_dup2, ↓e_goto, ↓e_if, ↓e_icmp, ↓e_tsw, ↓e_lsw, ↓e_getf, ↓e_putf, ↓e_gets, ↓e_iald, ↓e_cald, ↓e_iast, ↓e_aald, ↓e_aast, ↓e_len, ↓e_copy, ↓e_abs, ↓e_max, ↓e_min, ↓e_iret, ↓e_aret, ↓e_vret, ↓e_is0, ↓e_is1, ↓e_is2, ↓e_is3, ↓e_is4, ↓e_iv1, ↓e_iv2, ↓e_iv3, ↓e_iv4, ↓e_iv5, ↓e_iv6, ↓rt_X10_ofCell, ↓reduceIte, Nat.reduceAdd, Nat.reduceEqDiff, ↓zcl0, ↓zclv, List.map_nil, List.sum_nil, List.map_cons, List.sum_cons, zcat, true_and, and_true, Nat.reduceLeDiff, Nat.reduceAdd, eq_self, forall_const, e_ok0, e_okss, e_ok1i, e_ok1r, e_ok1n, zl_m1000000001, zl_2, zl_63, Int.reduceToNat, Int.reduceAdd, Int.reduceMul, Int.reduceSub, Int.reduceNeg, Int.reduceLT, Int.reduceLE, Int.reduceEq, not_false_eq_true, not_true_eq_false, false_implies, true_implies, implies_true, Int.reduceDiv, Int.reduceMod, zr8_zr, zr_zbo, z01_zbo, z01_0, z01_1, zbo_eq0, zup_eq, zup_o, zup_k, ne_eq, ↓ct_x_ofCell_cbey, ↓r_cbey, ↓B_cbey, ↓ct_x_ofCell_cfail, ↓r_cfail, ↓B_cfail, ↓ct_x_ofCell_hheadsAt, ↓r_hheadsAt, ↓B_hheadsAt, ↓v_0, ↓g_0_0, ↓g_0_1, ↓g_0_2, ↓g_0_3, ↓g_0_4, ↓g_0_5, ↓g_0_6, ↓g_0_7, ↓g_0_8, ↓l_78, ↓s_78, ↓n_78, ↓g_0_9, ↓p_0_9, zr_zbo, zbo_eq0]
      repeat' (first | assumption | apply And.intro | intro _)
      all_goals first | omega | (apply J17; omega) | (apply J24; omega)
    simp only [bk_X10_ofCell_0, k_X10_ofCell_0, bk_X10_ofCell_9, k_X10_ofCell_9, bk_X10_ofCell_17, k_X10_ofCell_17, bk_X10_ofCell_24, k_X10_ofCell_24, bk_X10_ofCell_52, k_X10_ofCell_52, bk_X10_ofCell_65, k_X10_ofCell_65, bk_X10_ofCell_78, k_X10_ofCell_78, ↓e_rk1, ↓e_rk0, ↓e_sk0, ↓e_sks, ↓e_ldi0, ↓e_ldis, ↓e_ldl0, ↓e_ldls, ↓e_lda0, ↓e_ldas, ↓e_ok0, ↓e_okss, ↓e_ok1i, ↓e_ok1r, ↓e_ok1n, ↓e_sti, ↓e_sta, ↓e_1, ↓e_2, ↓e_l1, ↓e_l2, ↓e_li, ↓e_sw0, ↓e_sws, ↓e_ceq, ↓e_cne, ↓e_clt, ↓e_cge, ↓e_cgt, ↓e_cle, ↓e_nil, ↓e_cons, ↓e_iconst, ↓e_bipush, ↓e_sipush, ↓e_ldc, ↓e_ldcw, ↓e_ldc2, ↓e_lconst, ↓e_iloadn, ↓e_iload, ↓e_lloadn, ↓e_lload, ↓e_aloadn, ↓e_aload, ↓e_istoren, ↓e_istore, ↓e_astoren, ↓e_astore, ↓e_add, ↓e_iinc, ↓e_iadd, ↓e_isub, ↓e_imul, ↓e_iand, ↓e_ior, ↓e_ixor, ↓e_ishl, ↓e_iushr, ↓e_idiv, ↓e_irem, ↓e_ineg, ↓e_i2l, ↓e_i2b, ↓e_i2s, ↓e_l2i, ↓e_land, ↓e_lor, ↓e_lshl, ↓e_lshr, ↓e_lushr, ↓e_lcmp, ↓e_dupi, ↓e_dupr, ↓e_popi, ↓e_dup2, ↓e_goto, ↓e_if, ↓e_icmp, ↓e_tsw, ↓e_lsw, ↓e_getf, ↓e_putf, ↓e_gets, ↓e_iald, ↓e_cald, ↓e_iast, ↓e_aald, ↓e_aast, ↓e_len, ↓e_copy, ↓e_abs, ↓e_max, ↓e_min, ↓e_iret, ↓e_aret, ↓e_vret, ↓e_is0, ↓e_is1, ↓e_is2, ↓e_is3, ↓e_is4, ↓e_iv1, ↓e_iv2, ↓e_iv3, ↓e_iv4, ↓e_iv5, ↓e_iv6, ↓rt_X10_ofCell, ↓reduceIte, Nat.reduceAdd, Nat.reduceEqDiff, ↓zcl0, ↓zclv, List.map_nil, List.sum_nil, List.map_cons, List.sum_cons, zcat, true_and, and_true, Nat.reduceLeDiff, Nat.reduceAdd, eq_self, forall_const, e_ok0, e_okss, e_ok1i, e_ok1r, e_ok1n, zl_m1000000001, zl_2, zl_63, Int.reduceToNat, Int.reduceAdd, Int.reduceMul, Int.reduceSub, Int.reduceNeg, Int.reduceLT, Int.reduceLE, Int.reduceEq, not_false_eq_true, not_true_eq_false, false_implies, true_implies, implies_true, Int.reduceDiv, Int.reduceMod, zr8_zr, zr_zbo, z01_zbo, z01_0, z01_1, zbo_eq0, zup_eq, zup_o, zup_k, ne_eq, ↓ct_x_ofCell_cbey, ↓r_cbey, ↓B_cbey, ↓ct_x_ofCell_cfail, ↓r_cfail, ↓B_cfail, ↓ct_x_ofCell_hheadsAt, ↓r_hheadsAt, ↓B_hheadsAt, ↓v_0, ↓g_0_0, ↓g_0_1, ↓g_0_2, ↓g_0_3, ↓g_0_4, ↓g_0_5, ↓g_0_6, ↓g_0_7, ↓g_0_8, ↓l_78, ↓s_78, ↓n_78, ↓g_0_9, ↓p_0_9, zr_zbo, zbo_eq0]
    repeat' (first | assumption | apply And.intro | intro _)
    all_goals first | omega | (apply J17; omega) | (apply J9; omega)
def B_x_delay (v : Int) (M : Nat → Nat → Int) (post : Option ZV → (Nat → Nat → Int) → Prop) : Prop := rg v ∧ ∃ S : ZMm, Vs S ∧ Rc S M ∧ cp M (R_delay S v) post
def C_x_delay : ZC := fun as h post => match as with
  | [.inr (.inr (.inl 0)), .inl v] => h.1 = zG ∧ B_x_delay v h.2 (fun v M => post v (zG, M))
  | _ => False
theorem r_x_delay {v : Int} {M : Nat → Nat → Int} {post : Option ZV → ZH → Prop} : C_x_delay [.inr (.inr (.inl 0)), .inl v] (zG, M) post = B_x_delay v M (fun v M => post v (zG, M)) := by show (zG = zG ∧ _) = _; simp
def ct_x_delay : Nat → ZC := fun n => if n = 111 then C_cbey else if n = 110 then C_cfail else fun _ _ _ => False
theorem ct_x_delay_cbey {as : List ZV} {h : ZH} {post : Option ZV → ZH → Prop} : ct_x_delay 111 as h post = C_cbey as h post := rfl
theorem ct_x_delay_cfail {as : List ZV} {h : ZH} {post : Option ZV → ZH → Prop} : ct_x_delay 110 as h post = C_cfail as h post := rfl
theorem c_x_delay {E : ZE} {d : Nat} (hd : 2 ≤ d) : zMet E d mX10_delay C_x_delay := by
  refine zmet_of (o := 10) (ini := false) (CT := ct_x_delay) gd_X10_delay rfl (fun h => by cases h) (by omega) ?_ ?_
  · intro n as h post hh
    unfold ct_x_delay at hh
    by_cases c : n = 111
    · subst c; exact ⟨gd_X10_isBeyond, 1, by omega, c_cbey (by omega)⟩
    rw [if_neg c] at hh
    by_cases c : n = 110
    · subst c; exact ⟨gd_X10_failed, 1, by omega, c_cfail (by omega)⟩
    rw [if_neg c] at hh
    exact hh.elim
  intro as h post hC
  match as, hC with
  | [.inr (.inr (.inl 0)), .inl v], hC =>
    refine ⟨Nat.le_of_ble_eq_true rfl, fun X hX => bs_X10_delay_0 hX ?_⟩
    obtain ⟨G, M⟩ := h
    obtain ⟨hG, hC⟩ := hC
    dsimp only at hG
    subst hG
    simp only [B_x_delay] at hC
    show bk_X10_delay_0 E ct_x_delay X _ [some (.inr (.inr (.inl 0))), some (.inl v), none] [] (zG, M) (0, 0)
    obtain ⟨h1, S, vs9, H, hC⟩ := hC
    have vd : Vd (S 88) := vs9.1
    have n9 := H.1
    have J9 : ¬ (0 ≤ v ∧ v ≤ 9) → X 9 [some (.inr (.inr (.inl 0))), some (.inl v), none] [] (zG, M) (0, 0) := by
      intro q
      refine bs_X10_delay_9 hX ?_
      simp only [bk_X10_delay_0, k_X10_delay_0, bk_X10_delay_9, k_X10_delay_9, bk_X10_delay_16, k_X10_delay_16, ↓e_rk1, ↓e_rk0, ↓e_sk0, ↓e_sks, ↓e_ldi0, ↓e_ldis, ↓e_ldl0, ↓e_ldls, ↓e_lda0, ↓e_ldas, ↓e_ok0, ↓e_okss, ↓e_ok1i, ↓e_ok1r, ↓e_ok1n, ↓e_sti, ↓e_sta, ↓e_1, ↓e_2, ↓e_l1, ↓e_l2, ↓e_li, ↓e_sw0, ↓e_sws, ↓e_ceq, ↓e_cne, ↓e_clt, ↓e_cge, ↓e_cgt, ↓e_cle, ↓e_nil, ↓e_cons, ↓e_iconst, ↓e_bipush, ↓e_sipush, ↓e_ldc, ↓e_ldcw, ↓e_ldc2, ↓e_lconst, ↓e_iloadn, ↓e_iload, ↓e_lloadn, ↓e_lload, ↓e_aloadn, ↓e_aload, ↓e_istoren, ↓e_istore, ↓e_astoren, ↓e_astore, ↓e_add, ↓e_iinc, ↓e_iadd, ↓e_isub, ↓e_imul, ↓e_iand, ↓e_ior, ↓e_ixor, ↓e_ishl, ↓e_iushr, ↓e_idiv, ↓e_irem, ↓e_ineg, ↓e_i2l, ↓e_i2b, ↓e_i2s, ↓e_l2i, ↓e_land, ↓e_lor, ↓e_lshl, ↓e_lshr, ↓e_lushr, ↓e_lcmp, ↓e_dupi, ↓e_dupr, ↓e_popi, ↓e_dup2, ↓e_goto, ↓e_if, ↓e_icmp, ↓e_tsw, ↓e_lsw, ↓e_getf, ↓e_putf, ↓e_gets, ↓e_iald, ↓e_cald, ↓e_iast, ↓e_aald, ↓e_aast, ↓e_len, ↓e_copy, ↓e_abs, ↓e_max, ↓e_min, ↓e_iret, ↓e_aret, ↓e_vret, ↓e_is0, ↓e_is1, ↓e_is2, ↓e_is3, ↓e_is4, ↓e_iv1, ↓e_iv2, ↓e_iv3, ↓e_iv4, ↓e_iv5, ↓e_iv6, ↓rt_X10_delay, ↓reduceIte, Nat.reduceAdd, Nat.reduceEqDiff, ↓zcl0, ↓zclv, List.map_nil, List.sum_nil, List.map_cons, List.sum_cons, zcat, true_and, and_true, Nat.reduceLeDiff, Nat.reduceAdd, eq_self, forall_const, e_ok0, e_okss, e_ok1i, e_ok1r, e_ok1n, zl_m1000000001, zl_9, Int.reduceToNat, Int.reduceAdd, Int.reduceMul, Int.reduceSub, Int.reduceNeg, Int.reduceLT, Int.reduceLE, Int.reduceEq, not_false_eq_true, not_true_eq_false, false_implies, true_implies, implies_true, Int.reduceDiv, Int.reduceMod, zr8_zr, zr_zbo, z01_zbo, z01_0, z01_1, zbo_eq0, zup_eq, zup_o, zup_k, ne_eq, ↓ct_x_delay_cbey, ↓r_cbey, ↓B_cbey, ↓ct_x_delay_cfail, ↓r_cfail, ↓B_cfail, ↓v_0, ↓g_0_0, ↓g_0_1, ↓g_0_2, ↓g_0_3, ↓g_0_4, ↓g_0_5, ↓g_0_6, ↓g_0_7, ↓g_0_8, ↓l_78, ↓s_78, ↓n_78, ↓g_0_9, ↓p_0_9]
      exact ⟨1, by omega, by omega, cp_no hC H vd (by omega) (by unfold R_delay; rw [if_neg (by omega)]) rfl⟩
    have J16 : (0 ≤ v ∧ v ≤ 9) → X 16 [some (.inr (.inr (.inl 0))), some (.inl v), none] [] (zG, M) (0, 0) := by
      intro q
      refine bs_X10_delay_16 hX ?_
      have e8 : M 2 8 = S 88 2 := n9.1.2.2.2.2.1
      simp only [bk_X10_delay_0, k_X10_delay_0, bk_X10_delay_9, k_X10_delay_9, bk_X10_delay_16, k_X10_delay_16, ↓e_rk1, ↓e_rk0, ↓e_sk0, ↓e_sks, ↓e_ldi0, ↓e_ldis, ↓e_ldl0, ↓e_ldls, ↓e_lda0, ↓e_ldas, ↓e_ok0, ↓e_okss, ↓e_ok1i, ↓e_ok1r, ↓e_ok1n, ↓e_sti, ↓e_sta, ↓e_1, ↓e_2, ↓e_l1, ↓e_l2, ↓e_li, ↓e_sw0, ↓e_sws, ↓e_ceq, ↓e_cne, ↓e_clt, ↓e_cge, ↓e_cgt, ↓e_cle, ↓e_nil, ↓e_cons, ↓e_iconst, ↓e_bipush, ↓e_sipush, ↓e_ldc, ↓e_ldcw, ↓e_ldc2, ↓e_lconst, ↓e_iloadn, ↓e_iload, ↓e_lloadn, ↓e_lload, ↓e_aloadn, ↓e_aload, ↓e_istoren, ↓e_istore, ↓e_astoren, ↓e_astore, ↓e_add, ↓e_iinc, ↓e_iadd, ↓e_isub, ↓e_imul, ↓e_iand, ↓e_ior, ↓e_ixor, ↓e_ishl, ↓e_iushr, ↓e_idiv, ↓e_irem, ↓e_ineg, ↓e_i2l, ↓e_i2b, ↓e_i2s, ↓e_l2i, ↓e_land, ↓e_lor, ↓e_lshl, ↓e_lshr, ↓e_lushr, ↓e_lcmp, ↓e_dupi, ↓e_dupr, ↓e_popi, ↓e_dup2, ↓e_goto, ↓e_if, ↓e_icmp, ↓e_tsw, ↓e_lsw, ↓e_getf, ↓e_putf, ↓e_gets, ↓e_iald, ↓e_cald, ↓e_iast, ↓e_aald, ↓e_aast, ↓e_len, ↓e_copy, ↓e_abs, ↓e_max, ↓e_min, ↓e_iret, ↓e_aret, ↓e_vret, ↓e_is0, ↓e_is1, ↓e_is2, ↓e_is3, ↓e_is4, ↓e_iv1, ↓e_iv2, ↓e_iv3, ↓e_iv4, ↓e_iv5, ↓e_iv6, ↓rt_X10_delay, ↓reduceIte, Nat.reduceAdd, Nat.reduceEqDiff, ↓zcl0, ↓zclv, List.map_nil, List.sum_nil, List.map_cons, List.sum_cons, zcat, true_and, and_true, Nat.reduceLeDiff, Nat.reduceAdd, eq_self, forall_const, e_ok0, e_okss, e_ok1i, e_ok1r, e_ok1n, zl_m1000000001, zl_9, Int.reduceToNat, Int.reduceAdd, Int.reduceMul, Int.reduceSub, Int.reduceNeg, Int.reduceLT, Int.reduceLE, Int.reduceEq, not_false_eq_true, not_true_eq_false, false_implies, true_implies, implies_true, Int.reduceDiv, Int.reduceMod, zr8_zr, zr_zbo, z01_zbo, z01_0, z01_1, zbo_eq0, zup_eq, zup_o, zup_k, ne_eq, ↓ct_x_delay_cbey, ↓r_cbey, ↓B_cbey, ↓ct_x_delay_cfail, ↓r_cfail, ↓B_cfail, ↓v_0, ↓g_0_0, ↓g_0_1, ↓g_0_2, ↓g_0_3, ↓g_0_4, ↓g_0_5, ↓g_0_6, ↓g_0_7, ↓g_0_8, ↓l_78, ↓s_78, ↓n_78, ↓g_0_9, ↓p_0_9, ↓v_1, ↓g_1_0, ↓g_1_1, ↓g_1_2, ↓g_1_3, ↓g_1_4, ↓g_1_5, ↓g_1_6, ↓p_1_6, ↓v_2, ↓g_2_0, ↓l_3, ↓s_3, ↓n_3, ↓g_2_1, ↓l_4, ↓s_4, ↓n_4, ↓g_2_2, ↓l_5, ↓s_5, ↓n_5, ↓g_2_3, ↓l_6, ↓s_6, ↓n_6, ↓g_2_4, ↓l_7, ↓s_7, ↓n_7, ↓g_2_5, ↓l_8, ↓s_8, ↓n_8, ↓g_2_6, ↓l_9, ↓s_9, ↓n_9, ↓g_2_7, ↓p_2_7, ↓g_2_8, ↓p_2_8, ↓g_2_9, ↓p_2_9, e8]
      refine cp_now hC H (f := up1 (S 88) 2 v) (by unfold R_delay; rw [if_pos q, r88_up]) ?_ (fun x p => by rw [zup_ne _ (by omega)])
      exact SRn_hill n9 vd (HR_del n9.1) (fun x p => by rw [zup_ne _ (by omega)]) (fun k p => up1_ne (by omega))
    simp only [bk_X10_delay_0, k_X10_delay_0, bk_X10_delay_9, k_X10_delay_9, bk_X10_delay_16, k_X10_delay_16, ↓e_rk1, ↓e_rk0, ↓e_sk0, ↓e_sks, ↓e_ldi0, ↓e_ldis, ↓e_ldl0, ↓e_ldls, ↓e_lda0, ↓e_ldas, ↓e_ok0, ↓e_okss, ↓e_ok1i, ↓e_ok1r, ↓e_ok1n, ↓e_sti, ↓e_sta, ↓e_1, ↓e_2, ↓e_l1, ↓e_l2, ↓e_li, ↓e_sw0, ↓e_sws, ↓e_ceq, ↓e_cne, ↓e_clt, ↓e_cge, ↓e_cgt, ↓e_cle, ↓e_nil, ↓e_cons, ↓e_iconst, ↓e_bipush, ↓e_sipush, ↓e_ldc, ↓e_ldcw, ↓e_ldc2, ↓e_lconst, ↓e_iloadn, ↓e_iload, ↓e_lloadn, ↓e_lload, ↓e_aloadn, ↓e_aload, ↓e_istoren, ↓e_istore, ↓e_astoren, ↓e_astore, ↓e_add, ↓e_iinc, ↓e_iadd, ↓e_isub, ↓e_imul, ↓e_iand, ↓e_ior, ↓e_ixor, ↓e_ishl, ↓e_iushr, ↓e_idiv, ↓e_irem, ↓e_ineg, ↓e_i2l, ↓e_i2b, ↓e_i2s, ↓e_l2i, ↓e_land, ↓e_lor, ↓e_lshl, ↓e_lshr, ↓e_lushr, ↓e_lcmp, ↓e_dupi, ↓e_dupr, ↓e_popi, ↓e_dup2, ↓e_goto, ↓e_if, ↓e_icmp, ↓e_tsw, ↓e_lsw, ↓e_getf, ↓e_putf, ↓e_gets, ↓e_iald, ↓e_cald, ↓e_iast, ↓e_aald, ↓e_aast, ↓e_len, ↓e_copy, ↓e_abs, ↓e_max, ↓e_min, ↓e_iret, ↓e_aret, ↓e_vret, ↓e_is0, ↓e_is1, ↓e_is2, ↓e_is3, ↓e_is4, ↓e_iv1, ↓e_iv2, ↓e_iv3, ↓e_iv4, ↓e_iv5, ↓e_iv6, ↓rt_X10_delay, ↓reduceIte, Nat.reduceAdd, Nat.reduceEqDiff, ↓zcl0, ↓zclv, List.map_nil, List.sum_nil, List.map_cons, List.sum_cons, zcat, true_and, and_true, Nat.reduceLeDiff, Nat.reduceAdd, eq_self, forall_const, e_ok0, e_okss, e_ok1i, e_ok1r, e_ok1n, zl_m1000000001, zl_9, Int.reduceToNat, Int.reduceAdd, Int.reduceMul, Int.reduceSub, Int.reduceNeg, Int.reduceLT, Int.reduceLE, Int.reduceEq, not_false_eq_true, not_true_eq_false, false_implies, true_implies, implies_true, Int.reduceDiv, Int.reduceMod, zr8_zr, zr_zbo, z01_zbo, z01_0, z01_1, zbo_eq0, zup_eq, zup_o, zup_k, ne_eq, ↓ct_x_delay_cbey, ↓r_cbey, ↓B_cbey, ↓ct_x_delay_cfail, ↓r_cfail, ↓B_cfail, ↓v_0, ↓g_0_0, ↓g_0_1, ↓g_0_2, ↓g_0_3, ↓g_0_4, ↓g_0_5, ↓g_0_6, ↓g_0_7, ↓g_0_8, ↓l_78, ↓s_78, ↓n_78, ↓g_0_9, ↓p_0_9, zr_zbo, zbo_eq0]
    repeat' (first | assumption | apply And.intro | intro _)
    all_goals first | omega | (apply J9; omega) | (apply J16; omega)
def R_seed (S : ZMm) (v : Int) : Int × ZMm := (S 88 3, zup S 88 3 v)
def B_x_seed (v : Int) (M : Nat → Nat → Int) (post : Option ZV → (Nat → Nat → Int) → Prop) : Prop := rg v ∧ ∃ S : ZMm, Vs S ∧ Rc S M ∧ cp M (R_seed S v) post
def C_x_seed : ZC := fun as h post => match as with
  | [.inr (.inr (.inl 0)), .inl v] => h.1 = zG ∧ B_x_seed v h.2 (fun v M => post v (zG, M))
  | _ => False
theorem r_x_seed {v : Int} {M : Nat → Nat → Int} {post : Option ZV → ZH → Prop} : C_x_seed [.inr (.inr (.inl 0)), .inl v] (zG, M) post = B_x_seed v M (fun v M => post v (zG, M)) := by show (zG = zG ∧ _) = _; simp
def ct_x_seed : Nat → ZC := fun n => fun _ _ _ => False
theorem c_x_seed {E : ZE} {d : Nat} (hd : 1 ≤ d) : zMet E d mX10_seed C_x_seed := by
  refine zmet_of (o := 10) (ini := false) (CT := ct_x_seed) gd_X10_seed rfl (fun h => by cases h) (by omega) ?_ ?_
  · intro n as h post hh
    unfold ct_x_seed at hh
    exact hh.elim
  intro as h post hC
  match as, hC with
  | [.inr (.inr (.inl 0)), .inl v], hC =>
    refine ⟨Nat.le_of_ble_eq_true rfl, fun X hX => bs_X10_seed_0 hX ?_⟩
    obtain ⟨G, M⟩ := h
    obtain ⟨hG, hC⟩ := hC
    dsimp only at hG
    subst hG
    simp only [B_x_seed] at hC
    show bk_X10_seed_0 E ct_x_seed X _ [some (.inr (.inr (.inl 0))), some (.inl v), none] [] (zG, M) (0, 0)
    obtain ⟨h1, S, vs9, H, hC⟩ := hC
    have vd : Vd (S 88) := vs9.1
    have n9 := H.1
    have e6 : M 1 6 = S 88 3 := n9.2.2.2.2.2.2
    simp only [bk_X10_seed_0, k_X10_seed_0, ↓e_rk1, ↓e_rk0, ↓e_sk0, ↓e_sks, ↓e_ldi0, ↓e_ldis, ↓e_ldl0, ↓e_ldls, ↓e_lda0, ↓e_ldas, ↓e_ok0, ↓e_okss, ↓e_ok1i, ↓e_ok1r, ↓e_ok1n, ↓e_sti, ↓e_sta, ↓e_1, ↓e_2, ↓e_l1, ↓e_l2, ↓e_li, ↓e_sw0, ↓e_sws, ↓e_ceq, ↓e_cne, ↓e_clt, ↓e_cge, ↓e_cgt, ↓e_cle, ↓e_nil, ↓e_cons, ↓e_iconst, ↓e_bipush, ↓e_sipush, ↓e_ldc, ↓e_ldcw, ↓e_ldc2, ↓e_lconst, ↓e_iloadn, ↓e_iload, ↓e_lloadn, ↓e_lload, ↓e_aloadn, ↓e_aload, ↓e_istoren, ↓e_istore, ↓e_astoren, ↓e_astore, ↓e_add, ↓e_iinc, ↓e_iadd, ↓e_isub, ↓e_imul, ↓e_iand, ↓e_ior, ↓e_ixor, ↓e_ishl, ↓e_iushr, ↓e_idiv, ↓e_irem, ↓e_ineg, ↓e_i2l, ↓e_i2b, ↓e_i2s, ↓e_l2i, ↓e_land, ↓e_lor, ↓e_lshl, ↓e_lshr, ↓e_lushr, ↓e_lcmp, ↓e_dupi, ↓e_dupr, ↓e_popi, ↓e_dup2, ↓e_goto, ↓e_if, ↓e_icmp, ↓e_tsw, ↓e_lsw, ↓e_getf, ↓e_putf, ↓e_gets, ↓e_iald, ↓e_cald, ↓e_iast, ↓e_aald, ↓e_aast, ↓e_len, ↓e_copy, ↓e_abs, ↓e_max, ↓e_min, ↓e_iret, ↓e_aret, ↓e_vret, ↓e_is0, ↓e_is1, ↓e_is2, ↓e_is3, ↓e_is4, ↓e_iv1, ↓e_iv2, ↓e_iv3, ↓e_iv4, ↓e_iv5, ↓e_iv6, ↓rt_X10_seed, ↓reduceIte, Nat.reduceAdd, Nat.reduceEqDiff, ↓zcl0, ↓zclv, List.map_nil, List.sum_nil, List.map_cons, List.sum_cons, zcat, true_and, and_true, Nat.reduceLeDiff, Nat.reduceAdd, eq_self, forall_const, e_ok0, e_okss, e_ok1i, e_ok1r, e_ok1n, Int.reduceToNat, Int.reduceAdd, Int.reduceMul, Int.reduceSub, Int.reduceNeg, Int.reduceLT, Int.reduceLE, Int.reduceEq, not_false_eq_true, not_true_eq_false, false_implies, true_implies, implies_true, Int.reduceDiv, Int.reduceMod, zr8_zr, zr_zbo, z01_zbo, z01_0, z01_1, zbo_eq0, zup_eq, zup_o, zup_k, ne_eq, ↓v_0, ↓g_0_0, ↓g_0_1, ↓g_0_2, ↓g_0_3, ↓g_0_4, ↓g_0_5, ↓g_0_6, ↓g_0_7, ↓g_0_8, ↓l_78, ↓s_78, ↓n_78, ↓g_0_9, ↓p_0_9, ↓v_1, ↓g_1_0, ↓g_1_1, ↓g_1_2, ↓g_1_3, ↓g_1_4, ↓g_1_5, ↓g_1_6, ↓p_1_6, e6]
    refine cp_now hC H (f := up1 (S 88) 3 v) (by unfold R_seed; rw [r88_up]) ?_ (fun x p => by rw [zup_ne _ (by omega)])
    obtain ⟨hh, c, l1, l2, t, w, z⟩ := n9
    have v9 := Vd_l vd
    have f9 : ∀ x, ¬ x = 1 → zup M 1 6 v x = M x := fun x q => zup_ne _ q
    refine ⟨HR_cg hh (fun x p q => f9 x (by omega)) (fun k hk => up1_ne (by omega)), CR_cg c (fun x p q => f9 x (by omega)) (fun k hk => up1_ne (by omega)), LR_cg l1 v9.1.1 (by omega) (fun x p q => f9 x (by omega)) (fun k hk => up1_ne (by omega)), LR_cg l2 v9.1.2 (by omega) (fun x p q => f9 x (by omega)) (fun k hk => up1_ne (by omega)), TR_cg t (fun x p => f9 x (by omega)) (up1_ne (by omega)) (fun k _ => up1_ne (by omega)), TR_cg w (fun x p => f9 x (by omega)) (up1_ne (by omega)) (fun k _ => up1_ne (by omega)), ?_⟩
    rw [zup_eq, up1_eq]
def B_x_told (k : Int) (M : Nat → Nat → Int) (post : Option ZV → (Nat → Nat → Int) → Prop) : Prop := rg k ∧ ∃ S : ZMm, Vs S ∧ Rc S M ∧ cp M (R_told S k) post
def C_x_told : ZC := fun as h post => match as with
  | [.inr (.inr (.inl 0)), .inl k] => h.1 = zG ∧ B_x_told k h.2 (fun v M => post v (zG, M))
  | _ => False
theorem r_x_told {k : Int} {M : Nat → Nat → Int} {post : Option ZV → ZH → Prop} : C_x_told [.inr (.inr (.inl 0)), .inl k] (zG, M) post = B_x_told k M (fun v M => post v (zG, M)) := by show (zG = zG ∧ _) = _; simp
def ct_x_told : Nat → ZC := fun n => if n = 110 then C_cfail else fun _ _ _ => False
theorem ct_x_told_cfail {as : List ZV} {h : ZH} {post : Option ZV → ZH → Prop} : ct_x_told 110 as h post = C_cfail as h post := rfl
theorem c_x_told {E : ZE} {d : Nat} (hd : 2 ≤ d) : zMet E d mX10_told C_x_told := by
  refine zmet_of (o := 10) (ini := false) (CT := ct_x_told) gd_X10_told rfl (fun h => by cases h) (by omega) ?_ ?_
  · intro n as h post hh
    unfold ct_x_told at hh
    by_cases c : n = 110
    · subst c; exact ⟨gd_X10_failed, 1, by omega, c_cfail (by omega)⟩
    rw [if_neg c] at hh
    exact hh.elim
  intro as h post hC
  match as, hC with
  | [.inr (.inr (.inl 0)), .inl k], hC =>
    refine ⟨Nat.le_of_ble_eq_true rfl, fun X hX => bs_X10_told_0 hX ?_⟩
    obtain ⟨G, M⟩ := h
    obtain ⟨hG, hC⟩ := hC
    dsimp only at hG
    subst hG
    simp only [B_x_told] at hC
    show bk_X10_told_0 E ct_x_told X _ [some (.inr (.inr (.inl 0))), some (.inl k)] [] (zG, M) (0, 0)
    obtain ⟨h1, S, vs9, H, hC⟩ := hC
    have vd : Vd (S 88) := vs9.1
    have n9 := H.1
    have J10 : ¬ (1 ≤ k ∧ k ≤ 5) → X 10 [some (.inr (.inr (.inl 0))), some (.inl k)] [] (zG, M) (0, 0) := by
      intro q
      refine bs_X10_told_10 hX ?_
      simp only [bk_X10_told_0, k_X10_told_0, bk_X10_told_10, k_X10_told_10, bk_X10_told_17, k_X10_told_17, ↓e_rk1, ↓e_rk0, ↓e_sk0, ↓e_sks, ↓e_ldi0, ↓e_ldis, ↓e_ldl0, ↓e_ldls, ↓e_lda0, ↓e_ldas, ↓e_ok0, ↓e_okss, ↓e_ok1i, ↓e_ok1r, ↓e_ok1n, ↓e_sti, ↓e_sta, ↓e_1, ↓e_2, ↓e_l1, ↓e_l2, ↓e_li, ↓e_sw0, ↓e_sws, ↓e_ceq, ↓e_cne, ↓e_clt, ↓e_cge, ↓e_cgt, ↓e_cle, ↓e_nil, ↓e_cons, ↓e_iconst, ↓e_bipush, ↓e_sipush, ↓e_ldc, ↓e_ldcw, ↓e_ldc2, ↓e_lconst, ↓e_iloadn, ↓e_iload, ↓e_lloadn, ↓e_lload, ↓e_aloadn, ↓e_aload, ↓e_istoren, ↓e_istore, ↓e_astoren, ↓e_astore, ↓e_add, ↓e_iinc, ↓e_iadd, ↓e_isub, ↓e_imul, ↓e_iand, ↓e_ior, ↓e_ixor, ↓e_ishl, ↓e_iushr, ↓e_idiv, ↓e_irem, ↓e_ineg, ↓e_i2l, ↓e_i2b, ↓e_i2s, ↓e_l2i, ↓e_land, ↓e_lor, ↓e_lshl, ↓e_lshr, ↓e_lushr, ↓e_lcmp, ↓e_dupi, ↓e_dupr, ↓e_popi, ↓e_dup2, ↓e_goto, ↓e_if, ↓e_icmp, ↓e_tsw, ↓e_lsw, ↓e_getf, ↓e_putf, ↓e_gets, ↓e_iald, ↓e_cald, ↓e_iast, ↓e_aald, ↓e_aast, ↓e_len, ↓e_copy, ↓e_abs, ↓e_max, ↓e_min, ↓e_iret, ↓e_aret, ↓e_vret, ↓e_is0, ↓e_is1, ↓e_is2, ↓e_is3, ↓e_is4, ↓e_iv1, ↓e_iv2, ↓e_iv3, ↓e_iv4, ↓e_iv5, ↓e_iv6, ↓rt_X10_told, ↓reduceIte, Nat.reduceAdd, Nat.reduceEqDiff, ↓zcl0, ↓zclv, List.map_nil, List.sum_nil, List.map_cons, List.sum_cons, zcat, true_and, and_true, Nat.reduceLeDiff, Nat.reduceAdd, eq_self, forall_const, e_ok0, e_okss, e_ok1i, e_ok1r, e_ok1n, zl_m1000000001, zl_1, zl_5, Int.reduceToNat, Int.reduceAdd, Int.reduceMul, Int.reduceSub, Int.reduceNeg, Int.reduceLT, Int.reduceLE, Int.reduceEq, not_false_eq_true, not_true_eq_false, false_implies, true_implies, implies_true, Int.reduceDiv, Int.reduceMod, zr8_zr, zr_zbo, z01_zbo, z01_0, z01_1, zbo_eq0, zup_eq, zup_o, zup_k, ne_eq, ↓ct_x_told_cfail, ↓r_cfail, ↓B_cfail, ↓v_0, ↓g_0_0, ↓g_0_1, ↓g_0_2, ↓g_0_3, ↓g_0_4, ↓g_0_5, ↓g_0_6, ↓g_0_7, ↓g_0_8, ↓l_78, ↓s_78, ↓n_78, ↓g_0_9, ↓p_0_9]
      exact ⟨1, by omega, by omega, cp_no hC H vd (by omega) (by unfold R_told; rw [if_neg (by omega)]) rfl⟩
    have J17 : (1 ≤ k ∧ k ≤ 5) → X 17 [some (.inr (.inr (.inl 0))), some (.inl k)] [] (zG, M) (0, 0) := by
      intro q
      refine bs_X10_told_17 hX ?_
      have zk : zr k = k := zr_rg h1
      have ek : M 78 k.toNat = S 91 k.toNat := H.2.2.2.1 k.toNat (by omega)
      simp only [bk_X10_told_0, k_X10_told_0, bk_X10_told_10, k_X10_told_10, bk_X10_told_17, k_X10_told_17, ↓e_rk1, ↓e_rk0, ↓e_sk0, ↓e_sks, ↓e_ldi0, ↓e_ldis, ↓e_ldl0, ↓e_ldls, ↓e_lda0, ↓e_ldas, ↓e_ok0, ↓e_okss, ↓e_ok1i, ↓e_ok1r, ↓e_ok1n, ↓e_sti, ↓e_sta, ↓e_1, ↓e_2, ↓e_l1, ↓e_l2, ↓e_li, ↓e_sw0, ↓e_sws, ↓e_ceq, ↓e_cne, ↓e_clt, ↓e_cge, ↓e_cgt, ↓e_cle, ↓e_nil, ↓e_cons, ↓e_iconst, ↓e_bipush, ↓e_sipush, ↓e_ldc, ↓e_ldcw, ↓e_ldc2, ↓e_lconst, ↓e_iloadn, ↓e_iload, ↓e_lloadn, ↓e_lload, ↓e_aloadn, ↓e_aload, ↓e_istoren, ↓e_istore, ↓e_astoren, ↓e_astore, ↓e_add, ↓e_iinc, ↓e_iadd, ↓e_isub, ↓e_imul, ↓e_iand, ↓e_ior, ↓e_ixor, ↓e_ishl, ↓e_iushr, ↓e_idiv, ↓e_irem, ↓e_ineg, ↓e_i2l, ↓e_i2b, ↓e_i2s, ↓e_l2i, ↓e_land, ↓e_lor, ↓e_lshl, ↓e_lshr, ↓e_lushr, ↓e_lcmp, ↓e_dupi, ↓e_dupr, ↓e_popi, ↓e_dup2, ↓e_goto, ↓e_if, ↓e_icmp, ↓e_tsw, ↓e_lsw, ↓e_getf, ↓e_putf, ↓e_gets, ↓e_iald, ↓e_cald, ↓e_iast, ↓e_aald, ↓e_aast, ↓e_len, ↓e_copy, ↓e_abs, ↓e_max, ↓e_min, ↓e_iret, ↓e_aret, ↓e_vret, ↓e_is0, ↓e_is1, ↓e_is2, ↓e_is3, ↓e_is4, ↓e_iv1, ↓e_iv2, ↓e_iv3, ↓e_iv4, ↓e_iv5, ↓e_iv6, ↓rt_X10_told, ↓reduceIte, Nat.reduceAdd, Nat.reduceEqDiff, ↓zcl0, ↓zclv, List.map_nil, List.sum_nil, List.map_cons, List.sum_cons, zcat, true_and, and_true, Nat.reduceLeDiff, Nat.reduceAdd, eq_self, forall_const, e_ok0, e_okss, e_ok1i, e_ok1r, e_ok1n, zl_m1000000001, zl_1, zl_5, Int.reduceToNat, Int.reduceAdd, Int.reduceMul, Int.reduceSub, Int.reduceNeg, Int.reduceLT, Int.reduceLE, Int.reduceEq, not_false_eq_true, not_true_eq_false, false_implies, true_implies, implies_true, Int.reduceDiv, Int.reduceMod, zr8_zr, zr_zbo, z01_zbo, z01_0, z01_1, zbo_eq0, zup_eq, zup_o, zup_k, ne_eq, ↓ct_x_told_cfail, ↓r_cfail, ↓B_cfail, ↓v_0, ↓g_0_0, ↓g_0_1, ↓g_0_2, ↓g_0_3, ↓g_0_4, ↓g_0_5, ↓g_0_6, ↓g_0_7, ↓g_0_8, ↓l_78, ↓s_78, ↓n_78, ↓g_0_9, ↓p_0_9, zk, ek]
      exact ⟨by omega, by omega, cp_id hC H (by unfold R_told; rw [if_pos q])⟩
    simp only [bk_X10_told_0, k_X10_told_0, bk_X10_told_10, k_X10_told_10, bk_X10_told_17, k_X10_told_17, ↓e_rk1, ↓e_rk0, ↓e_sk0, ↓e_sks, ↓e_ldi0, ↓e_ldis, ↓e_ldl0, ↓e_ldls, ↓e_lda0, ↓e_ldas, ↓e_ok0, ↓e_okss, ↓e_ok1i, ↓e_ok1r, ↓e_ok1n, ↓e_sti, ↓e_sta, ↓e_1, ↓e_2, ↓e_l1, ↓e_l2, ↓e_li, ↓e_sw0, ↓e_sws, ↓e_ceq, ↓e_cne, ↓e_clt, ↓e_cge, ↓e_cgt, ↓e_cle, ↓e_nil, ↓e_cons, ↓e_iconst, ↓e_bipush, ↓e_sipush, ↓e_ldc, ↓e_ldcw, ↓e_ldc2, ↓e_lconst, ↓e_iloadn, ↓e_iload, ↓e_lloadn, ↓e_lload, ↓e_aloadn, ↓e_aload, ↓e_istoren, ↓e_istore, ↓e_astoren, ↓e_astore, ↓e_add, ↓e_iinc, ↓e_iadd, ↓e_isub, ↓e_imul, ↓e_iand, ↓e_ior, ↓e_ixor, ↓e_ishl, ↓e_iushr, ↓e_idiv, ↓e_irem, ↓e_ineg, ↓e_i2l, ↓e_i2b, ↓e_i2s, ↓e_l2i, ↓e_land, ↓e_lor, ↓e_lshl, ↓e_lshr, ↓e_lushr, ↓e_lcmp, ↓e_dupi, ↓e_dupr, ↓e_popi, ↓e_dup2, ↓e_goto, ↓e_if, ↓e_icmp, ↓e_tsw, ↓e_lsw, ↓e_getf, ↓e_putf, ↓e_gets, ↓e_iald, ↓e_cald, ↓e_iast, ↓e_aald, ↓e_aast, ↓e_len, ↓e_copy, ↓e_abs, ↓e_max, ↓e_min, ↓e_iret, ↓e_aret, ↓e_vret, ↓e_is0, ↓e_is1, ↓e_is2, ↓e_is3, ↓e_is4, ↓e_iv1, ↓e_iv2, ↓e_iv3, ↓e_iv4, ↓e_iv5, ↓e_iv6, ↓rt_X10_told, ↓reduceIte, Nat.reduceAdd, Nat.reduceEqDiff, ↓zcl0, ↓zclv, List.map_nil, List.sum_nil, List.map_cons, List.sum_cons, zcat, true_and, and_true, Nat.reduceLeDiff, Nat.reduceAdd, eq_self, forall_const, e_ok0, e_okss, e_ok1i, e_ok1r, e_ok1n, zl_m1000000001, zl_1, zl_5, Int.reduceToNat, Int.reduceAdd, Int.reduceMul, Int.reduceSub, Int.reduceNeg, Int.reduceLT, Int.reduceLE, Int.reduceEq, not_false_eq_true, not_true_eq_false, false_implies, true_implies, implies_true, Int.reduceDiv, Int.reduceMod, zr8_zr, zr_zbo, z01_zbo, z01_0, z01_1, zbo_eq0, zup_eq, zup_o, zup_k, ne_eq, ↓ct_x_told_cfail, ↓r_cfail, ↓B_cfail, ↓v_0, ↓g_0_0, ↓g_0_1, ↓g_0_2, ↓g_0_3, ↓g_0_4, ↓g_0_5, ↓g_0_6, ↓g_0_7, ↓g_0_8, ↓l_78, ↓s_78, ↓n_78, ↓g_0_9, ↓p_0_9, zr_rg, h1]
    repeat' (first | assumption | apply And.intro | intro _)
    all_goals first | (apply J10; omega) | (apply J17; omega)
