/-! THE CLASS: its public methods: draws, what is told, images, counts -/
def k_X10_sumOf_0 : List ZI := [(.iconst 0, 1, (0, [], [])), (.istore_n 2, 1, (0, [2], [])), (.iconst 0, 1, (0, [], [])), (.istore_n 3, 1, (0, [3], []))]
theorem ok_X10_sumOf_0 : zOK cX10_sumOf 10 false 4 k_X10_sumOf_0 0 = true := zOK_by (by decide +kernel)
def k_X10_sumOf_4 : List ZI := [(.iload_n 3, 1, (0, [3], [])), (.iload_n 1, 1, (0, [1], [])), (.if_icmp .ge 21, 3, (0, [27], [])), (.iload_n 3, 1, (0, [3], [])), (.aload_n 0, 1, (0, [0], [])), (.arraylength, 1, (0, [], [])), (.if_icmp .ge 15, 3, (0, [27], [])), (.iload_n 2, 1, (0, [2], [])), (.aload_n 0, 1, (0, [0], [])), (.iload_n 3, 1, (0, [3], [])), (.iaload, 1, (0, [], [])), (.iadd, 1, (0, [], [])), (.istore_n 2, 1, (0, [2], [])), (.iinc 3 1, 3, (0, [3], [])), (.goto (-20), 3, (0, [4], []))]
theorem ok_X10_sumOf_4 : zOK cX10_sumOf 10 false 4 k_X10_sumOf_4 4 = true := zOK_by (by decide +kernel)
def k_X10_sumOf_27 : List ZI := [(.iload_n 2, 1, (0, [2], [])), (.ireturn, 1, (0, [], []))]
theorem ok_X10_sumOf_27 : zOK cX10_sumOf 10 false 4 k_X10_sumOf_27 27 = true := zOK_by (by decide +kernel)
theorem rt_X10_sumOf {g : Nat} {post : Option ZV → ZH → Prop} {h : ZH} {b : ZB2} {z : Int} : zRt mX10_sumOf g post (some (.inl z)) h b = (post (some (.inl z)) h ∧ h.1.length = g) := by show (_ ∧ _ ∧ True) = _; simp
def bk_X10_sumOf_0 (E : ZE) (CT : Nat → ZC) (X : ZK) (Rt : ZR) (ls : ZL) (st : List ZV) (h : ZH) (b : ZB2) : Prop := zB E CT k_X10_sumOf_0 0 ls st h b (fun t ls st h b => X t ls st h b) Rt
theorem bs_X10_sumOf_0 {E : ZE} {CT : Nat → ZC} {X : ZK} {Rt : ZR} {ls : ZL} {st : List ZV} {h : ZH} {b : ZB2} (hX : zCl E mX10_sumOf 10 false CT Rt X) (q : bk_X10_sumOf_0 E CT X Rt ls st h b) : X 0 ls st h b := by
  refine hX k_X10_sumOf_0 0 ok_X10_sumOf_0 _ ?_ ls st h b q
  exact fun t ls st h b q => q
def bk_X10_sumOf_27 (E : ZE) (CT : Nat → ZC) (X : ZK) (Rt : ZR) (ls : ZL) (st : List ZV) (h : ZH) (b : ZB2) : Prop := zB E CT k_X10_sumOf_27 27 ls st h b (fun t ls st h b => X t ls st h b) Rt
theorem bs_X10_sumOf_27 {E : ZE} {CT : Nat → ZC} {X : ZK} {Rt : ZR} {ls : ZL} {st : List ZV} {h : ZH} {b : ZB2} (hX : zCl E mX10_sumOf 10 false CT Rt X) (q : bk_X10_sumOf_27 E CT X Rt ls st h b) : X 27 ls st h b := by
  refine hX k_X10_sumOf_27 27 ok_X10_sumOf_27 _ ?_ ls st h b q
  exact fun t ls st h b q => q
def bk_X10_sumOf_4 (E : ZE) (CT : Nat → ZC) (X : ZK) (Rt : ZR) (ls : ZL) (st : List ZV) (h : ZH) (b : ZB2) : Prop := zB E CT k_X10_sumOf_4 4 ls st h b (fun t ls st h b => if t = 27 then bk_X10_sumOf_27 E CT X Rt ls st h b else X t ls st h b) Rt
theorem bs_X10_sumOf_4 {E : ZE} {CT : Nat → ZC} {X : ZK} {Rt : ZR} {ls : ZL} {st : List ZV} {h : ZH} {b : ZB2} (hX : zCl E mX10_sumOf 10 false CT Rt X) (q : bk_X10_sumOf_4 E CT X Rt ls st h b) : X 4 ls st h b := by
  refine hX k_X10_sumOf_4 4 ok_X10_sumOf_4 _ ?_ ls st h b q
  exact by
    intro t ls st h b q
    by_cases c : t = 27
    · subst c; rw [if_pos rfl] at q; exact bs_X10_sumOf_27 hX q
    rw [if_neg c] at q
    exact q
-- X10_sumOf: cuts [4]
def k_X10_count_0 : List ZI := [(.iload_n 1, 1, (0, [1], [])), (.tableswitch 200 0 10 #[59, 70, 81, 92, 103, 119, 135, 159, 170, 181, 192], 59, (0, [201], [(0, 60), (1, 71), (2, 82), (3, 93), (4, 104), (5, 120), (6, 136), (7, 160), (8, 171), (9, 182), (10, 193)]))]
theorem ok_X10_count_0 : zOK cX10_count 10 false 2 k_X10_count_0 0 = true := zOK_by (by decide +kernel)
def k_X10_count_60 : List ZI := [(.aload_n 0, 1, (0, [0], [])), (.getfield 12, 3, (0, [10, 0], [])), (.getfield 25, 3, (0, [6, 1], [])), (.getfield 140, 3, (0, [0, 3], [])), (.ireturn, 1, (0, [], []))]
theorem ok_X10_count_60 : zOK cX10_count 10 false 2 k_X10_count_60 60 = true := zOK_by (by decide +kernel)
def k_X10_count_71 : List ZI := [(.aload_n 0, 1, (0, [0], [])), (.getfield 12, 3, (0, [10, 0], [])), (.getfield 21, 3, (0, [6, 0], [])), (.getfield 197, 3, (0, [2, 9], [])), (.ireturn, 1, (0, [], []))]
theorem ok_X10_count_71 : zOK cX10_count 10 false 2 k_X10_count_71 71 = true := zOK_by (by decide +kernel)
def k_X10_count_82 : List ZI := [(.aload_n 0, 1, (0, [0], [])), (.getfield 12, 3, (0, [10, 0], [])), (.getfield 21, 3, (0, [6, 0], [])), (.getfield 136, 3, (0, [2, 8], [])), (.ireturn, 1, (0, [], []))]
theorem ok_X10_count_82 : zOK cX10_count 10 false 2 k_X10_count_82 82 = true := zOK_by (by decide +kernel)
def k_X10_count_93 : List ZI := [(.aload_n 0, 1, (0, [0], [])), (.getfield 12, 3, (0, [10, 0], [])), (.getfield 21, 3, (0, [6, 0], [])), (.invokevirtual 203, 3, (0, [18, 1, 0, 2], [])), (.ireturn, 1, (0, [], []))]
theorem ok_X10_count_93 : zOK cX10_count 10 false 2 k_X10_count_93 93 = true := zOK_by (by decide +kernel)
def k_X10_count_104 : List ZI := [(.aload_n 0, 1, (0, [0], [])), (.getfield 12, 3, (0, [10, 0], [])), (.getfield 21, 3, (0, [6, 0], [])), (.getfield 108, 3, (0, [2, 1], [])), (.bipush 64, 2, (0, [], [])), (.invokestatic 287, 3, (0, [117, 2, 0, 10], [])), (.ireturn, 1, (0, [], []))]
theorem ok_X10_count_104 : zOK cX10_count 10 false 2 k_X10_count_104 104 = true := zOK_by (by decide +kernel)
def k_X10_count_120 : List ZI := [(.aload_n 0, 1, (0, [0], [])), (.getfield 12, 3, (0, [10, 0], [])), (.getfield 21, 3, (0, [6, 0], [])), (.getfield 101, 3, (0, [2, 0], [])), (.bipush 64, 2, (0, [], [])), (.invokestatic 287, 3, (0, [117, 2, 0, 10], [])), (.ireturn, 1, (0, [], []))]
theorem ok_X10_count_120 : zOK cX10_count 10 false 2 k_X10_count_120 120 = true := zOK_by (by decide +kernel)
def k_X10_count_136 : List ZI := [(.aload_n 0, 1, (0, [0], [])), (.getfield 12, 3, (0, [10, 0], [])), (.getfield 25, 3, (0, [6, 1], [])), (.getfield 150, 3, (0, [0, 2], [])), (.aload_n 0, 1, (0, [0], [])), (.getfield 12, 3, (0, [10, 0], [])), (.getfield 25, 3, (0, [6, 1], [])), (.getfield 140, 3, (0, [0, 3], [])), (.invokestatic 287, 3, (0, [117, 2, 0, 10], [])), (.ireturn, 1, (0, [], []))]
theorem ok_X10_count_136 : zOK cX10_count 10 false 2 k_X10_count_136 136 = true := zOK_by (by decide +kernel)
def k_X10_count_160 : List ZI := [(.aload_n 0, 1, (0, [0], [])), (.getfield 12, 3, (0, [10, 0], [])), (.getfield 54, 3, (0, [6, 4], [])), (.getfield 171, 3, (0, [5, 1], [])), (.ireturn, 1, (0, [], []))]
theorem ok_X10_count_160 : zOK cX10_count 10 false 2 k_X10_count_160 160 = true := zOK_by (by decide +kernel)
def k_X10_count_171 : List ZI := [(.aload_n 0, 1, (0, [0], [])), (.getfield 12, 3, (0, [10, 0], [])), (.getfield 284, 3, (0, [6, 5], [])), (.getfield 171, 3, (0, [5, 1], [])), (.ireturn, 1, (0, [], []))]
theorem ok_X10_count_171 : zOK cX10_count 10 false 2 k_X10_count_171 171 = true := zOK_by (by decide +kernel)
def k_X10_count_182 : List ZI := [(.aload_n 0, 1, (0, [0], [])), (.getfield 77, 3, (0, [10, 6], [])), (.getfield 250, 3, (0, [8, 0], [])), (.getfield 171, 3, (0, [5, 1], [])), (.ireturn, 1, (0, [], []))]
theorem ok_X10_count_182 : zOK cX10_count 10 false 2 k_X10_count_182 182 = true := zOK_by (by decide +kernel)
def k_X10_count_193 : List ZI := [(.aload_n 0, 1, (0, [0], [])), (.getfield 12, 3, (0, [10, 0], [])), (.getfield 243, 3, (0, [6, 6], [])), (.ireturn, 1, (0, [], []))]
theorem ok_X10_count_193 : zOK cX10_count 10 false 2 k_X10_count_193 193 = true := zOK_by (by decide +kernel)
def k_X10_count_201 : List ZI := [(.aload_n 0, 1, (0, [0], [])), (.ldc 96, 2, ((-1000000001), [], [])), (.invokevirtual 97, 3, (0, [110, 2, 0, 10], [])), (.ireturn, 1, (0, [], []))]
theorem ok_X10_count_201 : zOK cX10_count 10 false 2 k_X10_count_201 201 = true := zOK_by (by decide +kernel)
theorem rt_X10_count {g : Nat} {post : Option ZV → ZH → Prop} {h : ZH} {b : ZB2} {z : Int} : zRt mX10_count g post (some (.inl z)) h b = (post (some (.inl z)) h ∧ h.1.length = g) := by show (_ ∧ _ ∧ True) = _; simp
def bk_X10_count_0 (E : ZE) (CT : Nat → ZC) (X : ZK) (Rt : ZR) (ls : ZL) (st : List ZV) (h : ZH) (b : ZB2) : Prop := zB E CT k_X10_count_0 0 ls st h b (fun t ls st h b => X t ls st h b) Rt
theorem bs_X10_count_0 {E : ZE} {CT : Nat → ZC} {X : ZK} {Rt : ZR} {ls : ZL} {st : List ZV} {h : ZH} {b : ZB2} (hX : zCl E mX10_count 10 false CT Rt X) (q : bk_X10_count_0 E CT X Rt ls st h b) : X 0 ls st h b := by
  refine hX k_X10_count_0 0 ok_X10_count_0 _ ?_ ls st h b q
  exact fun t ls st h b q => q
def bk_X10_count_60 (E : ZE) (CT : Nat → ZC) (X : ZK) (Rt : ZR) (ls : ZL) (st : List ZV) (h : ZH) (b : ZB2) : Prop := zB E CT k_X10_count_60 60 ls st h b (fun t ls st h b => X t ls st h b) Rt
theorem bs_X10_count_60 {E : ZE} {CT : Nat → ZC} {X : ZK} {Rt : ZR} {ls : ZL} {st : List ZV} {h : ZH} {b : ZB2} (hX : zCl E mX10_count 10 false CT Rt X) (q : bk_X10_count_60 E CT X Rt ls st h b) : X 60 ls st h b := by
  refine hX k_X10_count_60 60 ok_X10_count_60 _ ?_ ls st h b q
  exact fun t ls st h b q => q
def bk_X10_count_71 (E : ZE) (CT : Nat → ZC) (X : ZK) (Rt : ZR) (ls : ZL) (st : List ZV) (h : ZH) (b : ZB2) : Prop := zB E CT k_X10_count_71 71 ls st h b (fun t ls st h b => X t ls st h b) Rt
theorem bs_X10_count_71 {E : ZE} {CT : Nat → ZC} {X : ZK} {Rt : ZR} {ls : ZL} {st : List ZV} {h : ZH} {b : ZB2} (hX : zCl E mX10_count 10 false CT Rt X) (q : bk_X10_count_71 E CT X Rt ls st h b) : X 71 ls st h b := by
  refine hX k_X10_count_71 71 ok_X10_count_71 _ ?_ ls st h b q
  exact fun t ls st h b q => q
def bk_X10_count_82 (E : ZE) (CT : Nat → ZC) (X : ZK) (Rt : ZR) (ls : ZL) (st : List ZV) (h : ZH) (b : ZB2) : Prop := zB E CT k_X10_count_82 82 ls st h b (fun t ls st h b => X t ls st h b) Rt
theorem bs_X10_count_82 {E : ZE} {CT : Nat → ZC} {X : ZK} {Rt : ZR} {ls : ZL} {st : List ZV} {h : ZH} {b : ZB2} (hX : zCl E mX10_count 10 false CT Rt X) (q : bk_X10_count_82 E CT X Rt ls st h b) : X 82 ls st h b := by
  refine hX k_X10_count_82 82 ok_X10_count_82 _ ?_ ls st h b q
  exact fun t ls st h b q => q
def bk_X10_count_93 (E : ZE) (CT : Nat → ZC) (X : ZK) (Rt : ZR) (ls : ZL) (st : List ZV) (h : ZH) (b : ZB2) : Prop := zB E CT k_X10_count_93 93 ls st h b (fun t ls st h b => X t ls st h b) Rt
theorem bs_X10_count_93 {E : ZE} {CT : Nat → ZC} {X : ZK} {Rt : ZR} {ls : ZL} {st : List ZV} {h : ZH} {b : ZB2} (hX : zCl E mX10_count 10 false CT Rt X) (q : bk_X10_count_93 E CT X Rt ls st h b) : X 93 ls st h b := by
  refine hX k_X10_count_93 93 ok_X10_count_93 _ ?_ ls st h b q
  exact fun t ls st h b q => q
def bk_X10_count_104 (E : ZE) (CT : Nat → ZC) (X : ZK) (Rt : ZR) (ls : ZL) (st : List ZV) (h : ZH) (b : ZB2) : Prop := zB E CT k_X10_count_104 104 ls st h b (fun t ls st h b => X t ls st h b) Rt
theorem bs_X10_count_104 {E : ZE} {CT : Nat → ZC} {X : ZK} {Rt : ZR} {ls : ZL} {st : List ZV} {h : ZH} {b : ZB2} (hX : zCl E mX10_count 10 false CT Rt X) (q : bk_X10_count_104 E CT X Rt ls st h b) : X 104 ls st h b := by
  refine hX k_X10_count_104 104 ok_X10_count_104 _ ?_ ls st h b q
  exact fun t ls st h b q => q
def bk_X10_count_120 (E : ZE) (CT : Nat → ZC) (X : ZK) (Rt : ZR) (ls : ZL) (st : List ZV) (h : ZH) (b : ZB2) : Prop := zB E CT k_X10_count_120 120 ls st h b (fun t ls st h b => X t ls st h b) Rt
theorem bs_X10_count_120 {E : ZE} {CT : Nat → ZC} {X : ZK} {Rt : ZR} {ls : ZL} {st : List ZV} {h : ZH} {b : ZB2} (hX : zCl E mX10_count 10 false CT Rt X) (q : bk_X10_count_120 E CT X Rt ls st h b) : X 120 ls st h b := by
  refine hX k_X10_count_120 120 ok_X10_count_120 _ ?_ ls st h b q
  exact fun t ls st h b q => q
def bk_X10_count_136 (E : ZE) (CT : Nat → ZC) (X : ZK) (Rt : ZR) (ls : ZL) (st : List ZV) (h : ZH) (b : ZB2) : Prop := zB E CT k_X10_count_136 136 ls st h b (fun t ls st h b => X t ls st h b) Rt
theorem bs_X10_count_136 {E : ZE} {CT : Nat → ZC} {X : ZK} {Rt : ZR} {ls : ZL} {st : List ZV} {h : ZH} {b : ZB2} (hX : zCl E mX10_count 10 false CT Rt X) (q : bk_X10_count_136 E CT X Rt ls st h b) : X 136 ls st h b := by
  refine hX k_X10_count_136 136 ok_X10_count_136 _ ?_ ls st h b q
  exact fun t ls st h b q => q
def bk_X10_count_160 (E : ZE) (CT : Nat → ZC) (X : ZK) (Rt : ZR) (ls : ZL) (st : List ZV) (h : ZH) (b : ZB2) : Prop := zB E CT k_X10_count_160 160 ls st h b (fun t ls st h b => X t ls st h b) Rt
theorem bs_X10_count_160 {E : ZE} {CT : Nat → ZC} {X : ZK} {Rt : ZR} {ls : ZL} {st : List ZV} {h : ZH} {b : ZB2} (hX : zCl E mX10_count 10 false CT Rt X) (q : bk_X10_count_160 E CT X Rt ls st h b) : X 160 ls st h b := by
  refine hX k_X10_count_160 160 ok_X10_count_160 _ ?_ ls st h b q
  exact fun t ls st h b q => q
def bk_X10_count_171 (E : ZE) (CT : Nat → ZC) (X : ZK) (Rt : ZR) (ls : ZL) (st : List ZV) (h : ZH) (b : ZB2) : Prop := zB E CT k_X10_count_171 171 ls st h b (fun t ls st h b => X t ls st h b) Rt
theorem bs_X10_count_171 {E : ZE} {CT : Nat → ZC} {X : ZK} {Rt : ZR} {ls : ZL} {st : List ZV} {h : ZH} {b : ZB2} (hX : zCl E mX10_count 10 false CT Rt X) (q : bk_X10_count_171 E CT X Rt ls st h b) : X 171 ls st h b := by
  refine hX k_X10_count_171 171 ok_X10_count_171 _ ?_ ls st h b q
  exact fun t ls st h b q => q
def bk_X10_count_182 (E : ZE) (CT : Nat → ZC) (X : ZK) (Rt : ZR) (ls : ZL) (st : List ZV) (h : ZH) (b : ZB2) : Prop := zB E CT k_X10_count_182 182 ls st h b (fun t ls st h b => X t ls st h b) Rt
theorem bs_X10_count_182 {E : ZE} {CT : Nat → ZC} {X : ZK} {Rt : ZR} {ls : ZL} {st : List ZV} {h : ZH} {b : ZB2} (hX : zCl E mX10_count 10 false CT Rt X) (q : bk_X10_count_182 E CT X Rt ls st h b) : X 182 ls st h b := by
  refine hX k_X10_count_182 182 ok_X10_count_182 _ ?_ ls st h b q
  exact fun t ls st h b q => q
def bk_X10_count_193 (E : ZE) (CT : Nat → ZC) (X : ZK) (Rt : ZR) (ls : ZL) (st : List ZV) (h : ZH) (b : ZB2) : Prop := zB E CT k_X10_count_193 193 ls st h b (fun t ls st h b => X t ls st h b) Rt
theorem bs_X10_count_193 {E : ZE} {CT : Nat → ZC} {X : ZK} {Rt : ZR} {ls : ZL} {st : List ZV} {h : ZH} {b : ZB2} (hX : zCl E mX10_count 10 false CT Rt X) (q : bk_X10_count_193 E CT X Rt ls st h b) : X 193 ls st h b := by
  refine hX k_X10_count_193 193 ok_X10_count_193 _ ?_ ls st h b q
  exact fun t ls st h b q => q
def bk_X10_count_201 (E : ZE) (CT : Nat → ZC) (X : ZK) (Rt : ZR) (ls : ZL) (st : List ZV) (h : ZH) (b : ZB2) : Prop := zB E CT k_X10_count_201 201 ls st h b (fun t ls st h b => X t ls st h b) Rt
theorem bs_X10_count_201 {E : ZE} {CT : Nat → ZC} {X : ZK} {Rt : ZR} {ls : ZL} {st : List ZV} {h : ZH} {b : ZB2} (hX : zCl E mX10_count 10 false CT Rt X) (q : bk_X10_count_201 E CT X Rt ls st h b) : X 201 ls st h b := by
  refine hX k_X10_count_201 201 ok_X10_count_201 _ ?_ ls st h b q
  exact fun t ls st h b q => q
-- X10_count: cuts [60, 71, 82, 93, 104, 120, 136, 160, 171, 182, 193, 201]
def k_X10_check_0 : List ZI := [(.aload_n 0, 1, (0, [0], [])), (.getfield 12, 3, (0, [10, 0], [])), (.getfield 284, 3, (0, [6, 5], [])), (.getfield 171, 3, (0, [5, 1], [])), (.istore_n 1, 1, (0, [1], [])), (.aload_n 0, 1, (0, [0], [])), (.getfield 12, 3, (0, [10, 0], [])), (.getfield 284, 3, (0, [6, 5], [])), (.iconst 0, 1, (0, [], [])), (.putfield 171, 3, (0, [5, 1], [])), (.aload_n 0, 1, (0, [0], [])), (.invokevirtual 210, 3, (0, [113, 1, 0, 10], []))]
theorem ok_X10_check_0 : zOK cX10_check 10 false 3 k_X10_check_0 0 = true := zOK_by (by decide +kernel)
def k_X10_check_26 : List ZI := [(.iconst 0, 1, (0, [], [])), (.istore_n 2, 1, (0, [2], []))]
theorem ok_X10_check_26 : zOK cX10_check 10 false 3 k_X10_check_26 26 = true := zOK_by (by decide +kernel)
def k_X10_check_28 : List ZI := [(.iload_n 2, 1, (0, [2], [])), (.iload_n 1, 1, (0, [1], [])), (.if_icmp .ge 45, 3, (0, [75], []))]
theorem ok_X10_check_28 : zOK cX10_check 10 false 3 k_X10_check_28 28 = true := zOK_by (by decide +kernel)
def k_X10_check_33 : List ZI := [(.aload_n 0, 1, (0, [0], [])), (.getfield 49, 3, (0, [10, 3], [])), (.invokevirtual 200, 3, (0, [4, 1, 0, 1], []))]
theorem ok_X10_check_33 : zOK cX10_check 10 false 3 k_X10_check_33 33 = true := zOK_by (by decide +kernel)
def k_X10_check_40 : List ZI := [(.aload_n 0, 1, (0, [0], [])), (.getfield 12, 3, (0, [10, 0], [])), (.getfield 284, 3, (0, [6, 5], [])), (.getfield 253, 3, (0, [5, 0], [])), (.iload_n 2, 1, (0, [2], [])), (.iaload, 1, (0, [], [])), (.aload_n 0, 1, (0, [0], [])), (.getfield 49, 3, (0, [10, 3], [])), (.getfield 216, 3, (0, [1, 0], [])), (.invokevirtual 203, 3, (0, [18, 1, 0, 2], [])), (.if_icmp .eq 7, 3, (0, [69], [])), (.iconst 1, 1, (0, [], [])), (.iload_n 2, 1, (0, [2], [])), (.iadd, 1, (0, [], [])), (.ireturn, 1, (0, [], []))]
theorem ok_X10_check_40 : zOK cX10_check 10 false 3 k_X10_check_40 40 = true := zOK_by (by decide +kernel)
def k_X10_check_69 : List ZI := [(.iinc 2 1, 3, (0, [2], [])), (.goto (-44), 3, (0, [28], []))]
theorem ok_X10_check_69 : zOK cX10_check 10 false 3 k_X10_check_69 69 = true := zOK_by (by decide +kernel)
def k_X10_check_75 : List ZI := [(.iconst 0, 1, (0, [], [])), (.ireturn, 1, (0, [], []))]
theorem ok_X10_check_75 : zOK cX10_check 10 false 3 k_X10_check_75 75 = true := zOK_by (by decide +kernel)
theorem rt_X10_check {g : Nat} {post : Option ZV → ZH → Prop} {h : ZH} {b : ZB2} {z : Int} : zRt mX10_check g post (some (.inl z)) h b = (post (some (.inl z)) h ∧ h.1.length = g) := by show (_ ∧ _ ∧ True) = _; simp
def bk_X10_check_0 (E : ZE) (CT : Nat → ZC) (X : ZK) (Rt : ZR) (ls : ZL) (st : List ZV) (h : ZH) (b : ZB2) : Prop := zB E CT k_X10_check_0 0 ls st h b (fun t ls st h b => X t ls st h b) Rt
theorem bs_X10_check_0 {E : ZE} {CT : Nat → ZC} {X : ZK} {Rt : ZR} {ls : ZL} {st : List ZV} {h : ZH} {b : ZB2} (hX : zCl E mX10_check 10 false CT Rt X) (q : bk_X10_check_0 E CT X Rt ls st h b) : X 0 ls st h b := by
  refine hX k_X10_check_0 0 ok_X10_check_0 _ ?_ ls st h b q
  exact fun t ls st h b q => q
def bk_X10_check_26 (E : ZE) (CT : Nat → ZC) (X : ZK) (Rt : ZR) (ls : ZL) (st : List ZV) (h : ZH) (b : ZB2) : Prop := zB E CT k_X10_check_26 26 ls st h b (fun t ls st h b => X t ls st h b) Rt
theorem bs_X10_check_26 {E : ZE} {CT : Nat → ZC} {X : ZK} {Rt : ZR} {ls : ZL} {st : List ZV} {h : ZH} {b : ZB2} (hX : zCl E mX10_check 10 false CT Rt X) (q : bk_X10_check_26 E CT X Rt ls st h b) : X 26 ls st h b := by
  refine hX k_X10_check_26 26 ok_X10_check_26 _ ?_ ls st h b q
  exact fun t ls st h b q => q
def bk_X10_check_28 (E : ZE) (CT : Nat → ZC) (X : ZK) (Rt : ZR) (ls : ZL) (st : List ZV) (h : ZH) (b : ZB2) : Prop := zB E CT k_X10_check_28 28 ls st h b (fun t ls st h b => X t ls st h b) Rt
theorem bs_X10_check_28 {E : ZE} {CT : Nat → ZC} {X : ZK} {Rt : ZR} {ls : ZL} {st : List ZV} {h : ZH} {b : ZB2} (hX : zCl E mX10_check 10 false CT Rt X) (q : bk_X10_check_28 E CT X Rt ls st h b) : X 28 ls st h b := by
  refine hX k_X10_check_28 28 ok_X10_check_28 _ ?_ ls st h b q
  exact fun t ls st h b q => q
def bk_X10_check_33 (E : ZE) (CT : Nat → ZC) (X : ZK) (Rt : ZR) (ls : ZL) (st : List ZV) (h : ZH) (b : ZB2) : Prop := zB E CT k_X10_check_33 33 ls st h b (fun t ls st h b => X t ls st h b) Rt
theorem bs_X10_check_33 {E : ZE} {CT : Nat → ZC} {X : ZK} {Rt : ZR} {ls : ZL} {st : List ZV} {h : ZH} {b : ZB2} (hX : zCl E mX10_check 10 false CT Rt X) (q : bk_X10_check_33 E CT X Rt ls st h b) : X 33 ls st h b := by
  refine hX k_X10_check_33 33 ok_X10_check_33 _ ?_ ls st h b q
  exact fun t ls st h b q => q
def bk_X10_check_40 (E : ZE) (CT : Nat → ZC) (X : ZK) (Rt : ZR) (ls : ZL) (st : List ZV) (h : ZH) (b : ZB2) : Prop := zB E CT k_X10_check_40 40 ls st h b (fun t ls st h b => X t ls st h b) Rt
theorem bs_X10_check_40 {E : ZE} {CT : Nat → ZC} {X : ZK} {Rt : ZR} {ls : ZL} {st : List ZV} {h : ZH} {b : ZB2} (hX : zCl E mX10_check 10 false CT Rt X) (q : bk_X10_check_40 E CT X Rt ls st h b) : X 40 ls st h b := by
  refine hX k_X10_check_40 40 ok_X10_check_40 _ ?_ ls st h b q
  exact fun t ls st h b q => q
def bk_X10_check_69 (E : ZE) (CT : Nat → ZC) (X : ZK) (Rt : ZR) (ls : ZL) (st : List ZV) (h : ZH) (b : ZB2) : Prop := zB E CT k_X10_check_69 69 ls st h b (fun t ls st h b => X t ls st h b) Rt
theorem bs_X10_check_69 {E : ZE} {CT : Nat → ZC} {X : ZK} {Rt : ZR} {ls : ZL} {st : List ZV} {h : ZH} {b : ZB2} (hX : zCl E mX10_check 10 false CT Rt X) (q : bk_X10_check_69 E CT X Rt ls st h b) : X 69 ls st h b := by
  refine hX k_X10_check_69 69 ok_X10_check_69 _ ?_ ls st h b q
  exact fun t ls st h b q => q
def bk_X10_check_75 (E : ZE) (CT : Nat → ZC) (X : ZK) (Rt : ZR) (ls : ZL) (st : List ZV) (h : ZH) (b : ZB2) : Prop := zB E CT k_X10_check_75 75 ls st h b (fun t ls st h b => X t ls st h b) Rt
theorem bs_X10_check_75 {E : ZE} {CT : Nat → ZC} {X : ZK} {Rt : ZR} {ls : ZL} {st : List ZV} {h : ZH} {b : ZB2} (hX : zCl E mX10_check 10 false CT Rt X) (q : bk_X10_check_75 E CT X Rt ls st h b) : X 75 ls st h b := by
  refine hX k_X10_check_75 75 ok_X10_check_75 _ ?_ ls st h b q
  exact fun t ls st h b q => q
-- X10_check: cuts [26, 28, 33, 40, 69, 75]
def k_X10_law_0 : List ZI := [(.iload_n 1, 1, (0, [1], [])), (.iconst 1, 1, (0, [], [])), (.invokestatic 92, 3, (0, [111, 2, 0, 10], [])), (.ifCond .eq 10, 3, (0, [15], []))]
theorem ok_X10_law_0 : zOK cX10_law 10 false 5 k_X10_law_0 0 = true := zOK_by (by decide +kernel)
def k_X10_law_8 : List ZI := [(.aload_n 0, 1, (0, [0], [])), (.ldc 96, 2, ((-1000000001), [], [])), (.invokevirtual 97, 3, (0, [110, 2, 0, 10], [])), (.ireturn, 1, (0, [], []))]
theorem ok_X10_law_8 : zOK cX10_law 10 false 5 k_X10_law_8 8 = true := zOK_by (by decide +kernel)
def k_X10_law_15 : List ZI := [(.aload_n 0, 1, (0, [0], [])), (.getfield 12, 3, (0, [10, 0], [])), (.iload_n 1, 1, (0, [1], [])), (.invokevirtual 180, 3, (0, [44, 2, 0, 6], [])), (.iload_n 2, 1, (0, [2], [])), (.iload_n 3, 1, (0, [3], [])), (.iload 4, 2, (0, [4], [])), (.invokevirtual 193, 3, (0, [26, 4, 0, 3], [])), (.ireturn, 1, (0, [], []))]
theorem ok_X10_law_15 : zOK cX10_law 10 false 5 k_X10_law_15 15 = true := zOK_by (by decide +kernel)
theorem rt_X10_law {g : Nat} {post : Option ZV → ZH → Prop} {h : ZH} {b : ZB2} {z : Int} : zRt mX10_law g post (some (.inl z)) h b = (post (some (.inl z)) h ∧ h.1.length = g) := by show (_ ∧ _ ∧ True) = _; simp
def bk_X10_law_0 (E : ZE) (CT : Nat → ZC) (X : ZK) (Rt : ZR) (ls : ZL) (st : List ZV) (h : ZH) (b : ZB2) : Prop := zB E CT k_X10_law_0 0 ls st h b (fun t ls st h b => X t ls st h b) Rt
theorem bs_X10_law_0 {E : ZE} {CT : Nat → ZC} {X : ZK} {Rt : ZR} {ls : ZL} {st : List ZV} {h : ZH} {b : ZB2} (hX : zCl E mX10_law 10 false CT Rt X) (q : bk_X10_law_0 E CT X Rt ls st h b) : X 0 ls st h b := by
  refine hX k_X10_law_0 0 ok_X10_law_0 _ ?_ ls st h b q
  exact fun t ls st h b q => q
def bk_X10_law_8 (E : ZE) (CT : Nat → ZC) (X : ZK) (Rt : ZR) (ls : ZL) (st : List ZV) (h : ZH) (b : ZB2) : Prop := zB E CT k_X10_law_8 8 ls st h b (fun t ls st h b => X t ls st h b) Rt
theorem bs_X10_law_8 {E : ZE} {CT : Nat → ZC} {X : ZK} {Rt : ZR} {ls : ZL} {st : List ZV} {h : ZH} {b : ZB2} (hX : zCl E mX10_law 10 false CT Rt X) (q : bk_X10_law_8 E CT X Rt ls st h b) : X 8 ls st h b := by
  refine hX k_X10_law_8 8 ok_X10_law_8 _ ?_ ls st h b q
  exact fun t ls st h b q => q
def bk_X10_law_15 (E : ZE) (CT : Nat → ZC) (X : ZK) (Rt : ZR) (ls : ZL) (st : List ZV) (h : ZH) (b : ZB2) : Prop := zB E CT k_X10_law_15 15 ls st h b (fun t ls st h b => X t ls st h b) Rt
theorem bs_X10_law_15 {E : ZE} {CT : Nat → ZC} {X : ZK} {Rt : ZR} {ls : ZL} {st : List ZV} {h : ZH} {b : ZB2} (hX : zCl E mX10_law 10 false CT Rt X) (q : bk_X10_law_15 E CT X Rt ls st h b) : X 15 ls st h b := by
  refine hX k_X10_law_15 15 ok_X10_law_15 _ ?_ ls st h b q
  exact fun t ls st h b q => q
-- X10_law: cuts [8, 15]
theorem SRn_z {M : ZMm} {d : Nat → Int} (n9 : SRn M d) (vd : Vd d) {v : Int} : SRn (zup M 1 6 v) (up1 d 3 v) := by
  obtain ⟨hh, c, l1, l2, t, w, z⟩ := n9
  have v9 := Vd_l vd
  have f9 : ∀ x, ¬ x = 1 → zup M 1 6 v x = M x := fun x q => zup_ne _ q
  refine ⟨HR_cg hh (fun x p q => f9 x (by omega)) (fun k hk => up1_ne (by omega)), CR_cg c (fun x p q => f9 x (by omega)) (fun k hk => up1_ne (by omega)), LR_cg l1 v9.1.1 (by omega) (fun x p q => f9 x (by omega)) (fun k hk => up1_ne (by omega)), LR_cg l2 v9.1.2 (by omega) (fun x p q => f9 x (by omega)) (fun k hk => up1_ne (by omega)), TR_cg t (fun x p => f9 x (by omega)) (up1_ne (by omega)) (fun k _ => up1_ne (by omega)), TR_cg w (fun x p => f9 x (by omega)) (up1_ne (by omega)) (fun k _ => up1_ne (by omega)), ?_⟩
  rw [zup_eq, up1_eq]
theorem SR_d {s h c l1 l2 t w : Nat} {M : ZMm} {d d' : Nat → Int} (H : SR s h c l1 l2 t w M d) (vd : Vd d) (e : ∀ k, k < 358 → d' k = d k) : SR s h c l1 l2 t w M d' := by
  obtain ⟨hh, cc, a, b, t9, w9, z⟩ := H
  have v := Vd_l vd
  exact ⟨HR_cg hh (fun _ _ _ => rfl) (fun k hk => e k (by omega)), CR_cg cc (fun _ _ _ => rfl) (fun k hk => e k (by omega)), LR_cg a v.1.1 (by omega) (fun _ _ _ => rfl) (fun k hk => e k (by omega)), LR_cg b v.1.2 (by omega) (fun _ _ _ => rfl) (fun k hk => e k (by omega)), TR_cg t9 (fun _ _ => rfl) (e 4 (by omega)) (fun k _ => e _ (by omega)), TR_cg w9 (fun _ _ => rfl) (e 5 (by omega)) (fun k _ => e _ (by omega)), by rw [e 3 (by omega)]; exact z⟩
def B_sdraw (M : Nat → Nat → Int) (post : Option ZV → (Nat → Nat → Int) → Prop) : Prop := post (some (.inl (zushr (zn1 (M 1 6)) 8))) (zup M 1 6 (zn1 (M 1 6)))
def C_sdraw : ZC := fun as h post => match as with
  | [.inr (.inr (.inl 1))] => h.1 = zG ∧ B_sdraw h.2 (fun v M => post v (zG, M))
  | _ => False
theorem r_sdraw {M : Nat → Nat → Int} {post : Option ZV → ZH → Prop} : C_sdraw [.inr (.inr (.inl 1))] (zG, M) post = B_sdraw M (fun v M => post v (zG, M)) := by show (zG = zG ∧ _) = _; simp
def ct_sdraw : Nat → ZC := fun n => fun _ _ _ => False
theorem c_sdraw {E : ZE} {d : Nat} (hd : 1 ≤ d) : zMet E d mX6_draw C_sdraw := by
  refine zmet_of (o := 6) (ini := false) (CT := ct_sdraw) gd_X6_draw rfl (fun h => by cases h) (by omega) ?_ ?_
  · intro n as h post hh
    unfold ct_sdraw at hh
    exact hh.elim
  intro as h post hC
  match as, hC with
  | [.inr (.inr (.inl 1))], hC =>
    refine ⟨Nat.le_of_ble_eq_true rfl, fun X hX => bs_X6_draw_0 hX ?_⟩
    obtain ⟨G, M⟩ := h
    obtain ⟨hG, hC⟩ := hC
    dsimp only at hG
    subst hG
    simp only [B_sdraw] at hC
    show bk_X6_draw_0 E ct_sdraw X _ [some (.inr (.inr (.inl 1)))] [] (zG, M) (0, 0)
    simp only [bk_X6_draw_0, k_X6_draw_0, ↓e_rk1, ↓e_rk0, ↓e_sk0, ↓e_sks, ↓e_ldi0, ↓e_ldis, ↓e_ldl0, ↓e_ldls, ↓e_lda0, ↓e_ldas, ↓e_ok0, ↓e_okss, ↓e_ok1i, ↓e_ok1r, ↓e_ok1n, ↓e_sti, ↓e_sta, ↓e_1, ↓e_2, ↓e_l1, ↓e_l2, ↓e_li, ↓e_sw0, ↓e_sws, ↓e_ceq, ↓e_cne, ↓e_clt, ↓e_cge, ↓e_cgt, ↓e_cle, ↓e_nil, ↓e_cons, ↓e_iconst, ↓e_bipush, ↓e_sipush, ↓e_ldc, ↓e_ldcw, ↓e_ldc2, ↓e_lconst, ↓e_iloadn, ↓e_iload, ↓e_lloadn, ↓e_lload, ↓e_aloadn, ↓e_aload, ↓e_istoren, ↓e_istore, ↓e_astoren, ↓e_astore, ↓e_add, ↓e_iinc, ↓e_iadd, ↓e_isub, ↓e_imul, ↓e_iand, ↓e_ior, ↓e_ixor, ↓e_ishl, ↓e_iushr, ↓e_idiv, ↓e_irem, ↓e_ineg, ↓e_i2l, ↓e_i2b, ↓e_i2s, ↓e_l2i, ↓e_land, ↓e_lor, ↓e_lshl, ↓e_lshr, ↓e_lushr, ↓e_lcmp, ↓e_dupi, ↓e_dupr, ↓e_popi, ↓e_dup2, ↓e_goto, ↓e_if, ↓e_icmp, ↓e_tsw, ↓e_lsw, ↓e_getf, ↓e_putf, ↓e_gets, ↓e_iald, ↓e_cald, ↓e_iast, ↓e_aald, ↓e_aast, ↓e_len, ↓e_copy, ↓e_abs, ↓e_max, ↓e_min, ↓e_iret, ↓e_aret, ↓e_vret, ↓e_is0, ↓e_is1, ↓e_is2, ↓e_is3, ↓e_is4, ↓e_iv1, ↓e_iv2, ↓e_iv3, ↓e_iv4, ↓e_iv5, ↓e_iv6, ↓rt_X6_draw, ↓reduceIte, Nat.reduceAdd, Nat.reduceEqDiff, ↓zcl0, ↓zclv, List.map_nil, List.sum_nil, List.map_cons, List.sum_cons, zcat, true_and, and_true, Nat.reduceLeDiff, Nat.reduceAdd, eq_self, forall_const, e_ok0, e_okss, e_ok1i, e_ok1r, e_ok1n, zl_8, zl_12345, zl_1103515245, Int.reduceToNat, Int.reduceAdd, Int.reduceMul, Int.reduceSub, Int.reduceNeg, Int.reduceLT, Int.reduceLE, Int.reduceEq, not_false_eq_true, not_true_eq_false, false_implies, true_implies, implies_true, Int.reduceDiv, Int.reduceMod, zr8_zr, zr_zbo, z01_zbo, z01_0, z01_1, zbo_eq0, zup_eq, zup_o, zup_k, ne_eq, ↓v_1, ↓g_1_0, ↓g_1_1, ↓g_1_2, ↓g_1_3, ↓g_1_4, ↓g_1_5, ↓g_1_6, ↓p_1_6]
    exact hC
def B_x_loose (n : Int) (M : Nat → Nat → Int) (post : Option ZV → (Nat → Nat → Int) → Prop) : Prop := rg n ∧ ∃ S : ZMm, Vs S ∧ Rc S M ∧ cp M (R_loose S n) post
def C_x_loose : ZC := fun as h post => match as with
  | [.inr (.inr (.inl 0)), .inl n] => h.1 = zG ∧ B_x_loose n h.2 (fun v M => post v (zG, M))
  | _ => False
theorem r_x_loose {n : Int} {M : Nat → Nat → Int} {post : Option ZV → ZH → Prop} : C_x_loose [.inr (.inr (.inl 0)), .inl n] (zG, M) post = B_x_loose n M (fun v M => post v (zG, M)) := by show (zG = zG ∧ _) = _; simp
def ct_x_loose : Nat → ZC := fun n => if n = 110 then C_cfail else if n = 45 then C_sdraw else if n = 4 then C_dyear else if n = 18 then C_hgap else fun _ _ _ => False
theorem ct_x_loose_cfail {as : List ZV} {h : ZH} {post : Option ZV → ZH → Prop} : ct_x_loose 110 as h post = C_cfail as h post := rfl
theorem ct_x_loose_sdraw {as : List ZV} {h : ZH} {post : Option ZV → ZH → Prop} : ct_x_loose 45 as h post = C_sdraw as h post := rfl
theorem ct_x_loose_dyear {as : List ZV} {h : ZH} {post : Option ZV → ZH → Prop} : ct_x_loose 4 as h post = C_dyear as h post := rfl
theorem ct_x_loose_hgap {as : List ZV} {h : ZH} {post : Option ZV → ZH → Prop} : ct_x_loose 18 as h post = C_hgap as h post := rfl
theorem c_x_loose {E : ZE} {d : Nat} (hd : 6 ≤ d) : zMet E d mX10_loose C_x_loose := by
  refine zmet_of (o := 10) (ini := false) (CT := ct_x_loose) gd_X10_loose rfl (fun h => by cases h) (by omega) ?_ ?_
  · intro n as h post hh
    unfold ct_x_loose at hh
    by_cases c : n = 110
    · subst c; exact ⟨gd_X10_failed, 1, by omega, c_cfail (by omega)⟩
    rw [if_neg c] at hh
    by_cases c : n = 45
    · subst c; exact ⟨gd_X6_draw, 1, by omega, c_sdraw (by omega)⟩
    rw [if_neg c] at hh
    by_cases c : n = 4
    · subst c; exact ⟨gd_X1_goYear, 5, by omega, c_dyear (by omega)⟩
    rw [if_neg c] at hh
    by_cases c : n = 18
    · subst c; exact ⟨gd_X2_gap, 2, by omega, c_hgap (by omega)⟩
    rw [if_neg c] at hh
    exact hh.elim
  intro as h post hC
  match as, hC with
  | [.inr (.inr (.inl 0)), .inl n], hC =>
    refine ⟨Nat.le_of_ble_eq_true rfl, fun X hX => bs_X10_loose_0 hX ?_⟩
    obtain ⟨G, M⟩ := h
    obtain ⟨hG, hC⟩ := hC
    dsimp only at hG
    subst hG
    simp only [B_x_loose] at hC
    show bk_X10_loose_0 E ct_x_loose X _ [some (.inr (.inr (.inl 0))), some (.inl n), none, none] [] (zG, M) (0, 0)
    obtain ⟨h1, S, vs9, H, hC⟩ := hC
    have vd : Vd (S 88) := vs9.1
    have n9 := H.1
    have J11 : ¬ (1 ≤ n ∧ n ≤ 40) → X 11 [some (.inr (.inr (.inl 0))), some (.inl n), none, none] [] (zG, M) (0, 0) := by
      intro q
      refine bs_X10_loose_11 hX ?_
      simp only [bk_X10_loose_0, k_X10_loose_0, bk_X10_loose_11, k_X10_loose_11, bk_X10_loose_18, k_X10_loose_18, bk_X10_loose_36, k_X10_loose_36, bk_X10_loose_43, k_X10_loose_43, bk_X10_loose_45, k_X10_loose_45, bk_X10_loose_61, k_X10_loose_61, bk_X10_loose_83, k_X10_loose_83, bk_X10_loose_96, k_X10_loose_96, ↓e_rk1, ↓e_rk0, ↓e_sk0, ↓e_sks, ↓e_ldi0, ↓e_ldis, ↓e_ldl0, ↓e_ldls, ↓e_lda0, ↓e_ldas, ↓e_ok0, ↓e_okss, ↓e_ok1i, ↓e_ok1r, ↓e_ok1n, ↓e_sti, ↓e_sta, ↓e_1, ↓e_2, ↓e_l1, ↓e_l2, ↓e_li, ↓e_sw0, ↓e_sws, ↓e_ceq, ↓e_cne, ↓e_clt, ↓e_cge, ↓e_cgt, ↓e_cle, ↓e_nil, ↓e_cons, ↓e_iconst, ↓e_bipush, ↓e_sipush, ↓e_ldc, ↓e_ldcw, ↓e_ldc2, ↓e_lconst, ↓e_iloadn, ↓e_iload, ↓e_lloadn, ↓e_lload, ↓e_aloadn, ↓e_aload, ↓e_istoren, ↓e_istore, ↓e_astoren, ↓e_astore, ↓e_add, ↓e_iinc, ↓e_iadd, ↓e_isub, ↓e_imul, ↓e_iand, ↓e_ior, ↓e_ixor, ↓e_ishl, ↓e_iushr, ↓e_idiv, ↓e_irem, ↓e_ineg, ↓e_i2l, ↓e_i2b, ↓e_i2s, ↓e_l2i, ↓e_land, ↓e_lor, ↓e_lshl, ↓e_lshr, ↓e_lushr, ↓e_lcmp, ↓e_dupi, ↓e_dupr, ↓e_popi, ↓e_dup2, ↓e_goto, ↓e_if, ↓e_icmp, ↓e_tsw, ↓e_lsw, ↓e_getf, ↓e_putf, ↓e_gets, ↓e_iald, ↓e_cald, ↓e_iast, ↓e_aald, ↓e_aast, ↓e_len, ↓e_copy, ↓e_abs, ↓e_max, ↓e_min, ↓e_iret, ↓e_aret, ↓e_vret, ↓e_is0, ↓e_is1, ↓e_is2, ↓e_is3, ↓e_is4, ↓e_iv1, ↓e_iv2, ↓e_iv3, ↓e_iv4, ↓e_iv5, ↓e_iv6, ↓rt_X10_loose, ↓reduceIte, Nat.reduceAdd, Nat.reduceEqDiff, ↓zcl0, ↓zclv, List.map_nil, List.sum_nil, List.map_cons, List.sum_cons, zcat, true_and, and_true, Nat.reduceLeDiff, Nat.reduceAdd, eq_self, forall_const, e_ok0, e_okss, e_ok1i, e_ok1r, e_ok1n, zl_m1000000003, zl_m1000000001, zl_0, zl_1, zl_10, zl_40, zl_64, zl_9999, Int.reduceToNat, Int.reduceAdd, Int.reduceMul, Int.reduceSub, Int.reduceNeg, Int.reduceLT, Int.reduceLE, Int.reduceEq, not_false_eq_true, not_true_eq_false, false_implies, true_implies, implies_true, Int.reduceDiv, Int.reduceMod, zr8_zr, zr_zbo, z01_zbo, z01_0, z01_1, zbo_eq0, zup_eq, zup_o, zup_k, ne_eq, ↓ct_x_loose_cfail, ↓r_cfail, ↓B_cfail, ↓ct_x_loose_sdraw, ↓r_sdraw, ↓B_sdraw, ↓ct_x_loose_dyear, ↓r_dyear, ↓B_dyear, ↓ct_x_loose_hgap, ↓r_hgap, ↓B_hgap, ↓v_0, ↓g_0_0, ↓g_0_1, ↓g_0_2, ↓g_0_3, ↓g_0_4, ↓g_0_5, ↓g_0_6, ↓g_0_7, ↓g_0_8, ↓l_78, ↓s_78, ↓n_78, ↓g_0_9, ↓p_0_9]
      exact ⟨1, by omega, by omega, cp_no hC H vd (by omega) (by unfold R_loose; rw [if_neg (by omega)]) rfl⟩
    have v1 := vd.2.1
    have y1 := vs9.2.1
    have y9 : M 2 9 = S 88 1 := n9.1.2.2.2.2.2.1
    have zn : zr n = n := zr_rg h1
    have J43 : (1 ≤ n ∧ n ≤ 40) → ¬ 9999 < S 88 1 + n → X 43 [some (.inr (.inr (.inl 0))), some (.inl n), none, none] [] (zG, M) (0, 0) := by
      intro q q2
      have lp : ∀ (j k : Nat) (M' : ZMm) (x3 : Option ZV), j + k = n.toNat → SRn M' (los (S 88) k) → (∀ x, x = 0 ∨ (26 ≤ x ∧ x ≤ 50) ∨ 75 ≤ x → M' x = M x) → X 45 [some (.inr (.inr (.inl 0))), some (.inl n), some (.inl ((k : Int))), x3] [] (zG, M') (0, 0) := by
        intro j
        induction j with
        | zero =>
          intro k M' x3 hk h f
          refine bs_X10_loose_45 hX ?_
          have zk : zr (k : Int) = k := zr_of (by omega) (by omega)
          have lk : ((k : Int) < n) = False := eq_false (by omega)
          have ok := los_ok vd k (by omega)
          simp only [bk_X10_loose_0, k_X10_loose_0, bk_X10_loose_11, k_X10_loose_11, bk_X10_loose_18, k_X10_loose_18, bk_X10_loose_36, k_X10_loose_36, bk_X10_loose_43, k_X10_loose_43, bk_X10_loose_45, k_X10_loose_45, bk_X10_loose_61, k_X10_loose_61, bk_X10_loose_83, k_X10_loose_83, bk_X10_loose_96, k_X10_loose_96, ↓e_rk1, ↓e_rk0, ↓e_sk0, ↓e_sks, ↓e_ldi0, ↓e_ldis, ↓e_ldl0, ↓e_ldls, ↓e_lda0, ↓e_ldas, ↓e_ok0, ↓e_okss, ↓e_ok1i, ↓e_ok1r, ↓e_ok1n, ↓e_sti, ↓e_sta, ↓e_1, ↓e_2, ↓e_l1, ↓e_l2, ↓e_li, ↓e_sw0, ↓e_sws, ↓e_ceq, ↓e_cne, ↓e_clt, ↓e_cge, ↓e_cgt, ↓e_cle, ↓e_nil, ↓e_cons, ↓e_iconst, ↓e_bipush, ↓e_sipush, ↓e_ldc, ↓e_ldcw, ↓e_ldc2, ↓e_lconst, ↓e_iloadn, ↓e_iload, ↓e_lloadn, ↓e_lload, ↓e_aloadn, ↓e_aload, ↓e_istoren, ↓e_istore, ↓e_astoren, ↓e_astore, ↓e_add, ↓e_iinc, ↓e_iadd, ↓e_isub, ↓e_imul, ↓e_iand, ↓e_ior, ↓e_ixor, ↓e_ishl, ↓e_iushr, ↓e_idiv, ↓e_irem, ↓e_ineg, ↓e_i2l, ↓e_i2b, ↓e_i2s, ↓e_l2i, ↓e_land, ↓e_lor, ↓e_lshl, ↓e_lshr, ↓e_lushr, ↓e_lcmp, ↓e_dupi, ↓e_dupr, ↓e_popi, ↓e_dup2, ↓e_goto, ↓e_if, ↓e_icmp, ↓e_tsw, ↓e_lsw, ↓e_getf, ↓e_putf, ↓e_gets, ↓e_iald, ↓e_cald, ↓e_iast, ↓e_aald, ↓e_aast, ↓e_len, ↓e_copy, ↓e_abs, ↓e_max, ↓e_min, ↓e_iret, ↓e_aret, ↓e_vret, ↓e_is0, ↓e_is1, ↓e_is2, ↓e_is3, ↓e_is4, ↓e_iv1, ↓e_iv2, ↓e_iv3, ↓e_iv4, ↓e_iv5, ↓e_iv6, ↓rt_X10_loose, ↓reduceIte, Nat.reduceAdd, Nat.reduceEqDiff, ↓zcl0, ↓zclv, List.map_nil, List.sum_nil, List.map_cons, List.sum_cons, zcat, true_and, and_true, Nat.reduceLeDiff, Nat.reduceAdd, eq_self, forall_const, e_ok0, e_okss, e_ok1i, e_ok1r, e_ok1n, zl_m1000000003, zl_m1000000001, zl_0, zl_1, zl_10, zl_40, zl_64, zl_9999, Int.reduceToNat, Int.reduceAdd, Int.reduceMul, Int.reduceSub, Int.reduceNeg, Int.reduceLT, Int.reduceLE, Int.reduceEq, not_false_eq_true, not_true_eq_false, false_implies, true_implies, implies_true, Int.reduceDiv, Int.reduceMod, zr8_zr, zr_zbo, z01_zbo, z01_0, z01_1, zbo_eq0, zup_eq, zup_o, zup_k, ne_eq, ↓ct_x_loose_cfail, ↓r_cfail, ↓B_cfail, ↓ct_x_loose_sdraw, ↓r_sdraw, ↓B_sdraw, ↓ct_x_loose_dyear, ↓r_dyear, ↓B_dyear, ↓ct_x_loose_hgap, ↓r_hgap, ↓B_hgap, ↓v_0, ↓g_0_0, ↓g_0_1, ↓g_0_2, ↓g_0_3, ↓g_0_4, ↓g_0_5, ↓g_0_6, ↓g_0_7, ↓g_0_8, ↓l_78, ↓s_78, ↓n_78, ↓g_0_9, ↓p_0_9, zk, zn, lk]
          refine bs_X10_loose_96 hX ?_
          simp only [bk_X10_loose_0, k_X10_loose_0, bk_X10_loose_11, k_X10_loose_11, bk_X10_loose_18, k_X10_loose_18, bk_X10_loose_36, k_X10_loose_36, bk_X10_loose_43, k_X10_loose_43, bk_X10_loose_45, k_X10_loose_45, bk_X10_loose_61, k_X10_loose_61, bk_X10_loose_83, k_X10_loose_83, bk_X10_loose_96, k_X10_loose_96, ↓e_rk1, ↓e_rk0, ↓e_sk0, ↓e_sks, ↓e_ldi0, ↓e_ldis, ↓e_ldl0, ↓e_ldls, ↓e_lda0, ↓e_ldas, ↓e_ok0, ↓e_okss, ↓e_ok1i, ↓e_ok1r, ↓e_ok1n, ↓e_sti, ↓e_sta, ↓e_1, ↓e_2, ↓e_l1, ↓e_l2, ↓e_li, ↓e_sw0, ↓e_sws, ↓e_ceq, ↓e_cne, ↓e_clt, ↓e_cge, ↓e_cgt, ↓e_cle, ↓e_nil, ↓e_cons, ↓e_iconst, ↓e_bipush, ↓e_sipush, ↓e_ldc, ↓e_ldcw, ↓e_ldc2, ↓e_lconst, ↓e_iloadn, ↓e_iload, ↓e_lloadn, ↓e_lload, ↓e_aloadn, ↓e_aload, ↓e_istoren, ↓e_istore, ↓e_astoren, ↓e_astore, ↓e_add, ↓e_iinc, ↓e_iadd, ↓e_isub, ↓e_imul, ↓e_iand, ↓e_ior, ↓e_ixor, ↓e_ishl, ↓e_iushr, ↓e_idiv, ↓e_irem, ↓e_ineg, ↓e_i2l, ↓e_i2b, ↓e_i2s, ↓e_l2i, ↓e_land, ↓e_lor, ↓e_lshl, ↓e_lshr, ↓e_lushr, ↓e_lcmp, ↓e_dupi, ↓e_dupr, ↓e_popi, ↓e_dup2, ↓e_goto, ↓e_if, ↓e_icmp, ↓e_tsw, ↓e_lsw, ↓e_getf, ↓e_putf, ↓e_gets, ↓e_iald, ↓e_cald, ↓e_iast, ↓e_aald, ↓e_aast, ↓e_len, ↓e_copy, ↓e_abs, ↓e_max, ↓e_min, ↓e_iret, ↓e_aret, ↓e_vret, ↓e_is0, ↓e_is1, ↓e_is2, ↓e_is3, ↓e_is4, ↓e_iv1, ↓e_iv2, ↓e_iv3, ↓e_iv4, ↓e_iv5, ↓e_iv6, ↓rt_X10_loose, ↓reduceIte, Nat.reduceAdd, Nat.reduceEqDiff, ↓zcl0, ↓zclv, List.map_nil, List.sum_nil, List.map_cons, List.sum_cons, zcat, true_and, and_true, Nat.reduceLeDiff, Nat.reduceAdd, eq_self, forall_const, e_ok0, e_okss, e_ok1i, e_ok1r, e_ok1n, zl_m1000000003, zl_m1000000001, zl_0, zl_1, zl_10, zl_40, zl_64, zl_9999, Int.reduceToNat, Int.reduceAdd, Int.reduceMul, Int.reduceSub, Int.reduceNeg, Int.reduceLT, Int.reduceLE, Int.reduceEq, not_false_eq_true, not_true_eq_false, false_implies, true_implies, implies_true, Int.reduceDiv, Int.reduceMod, zr8_zr, zr_zbo, z01_zbo, z01_0, z01_1, zbo_eq0, zup_eq, zup_o, zup_k, ne_eq, ↓ct_x_loose_cfail, ↓r_cfail, ↓B_cfail, ↓ct_x_loose_sdraw, ↓r_sdraw, ↓B_sdraw, ↓ct_x_loose_dyear, ↓r_dyear, ↓B_dyear, ↓ct_x_loose_hgap, ↓r_hgap, ↓B_hgap, ↓v_0, ↓g_0_0, ↓g_0_1, ↓g_0_2, ↓g_0_3, ↓g_0_4, ↓g_0_5, ↓g_0_6, ↓g_0_7, ↓g_0_8, ↓l_78, ↓s_78, ↓n_78, ↓g_0_9, ↓p_0_9, ↓v_1, ↓g_1_0, ↓g_1_1, ↓g_1_2, ↓g_1_3, ↓g_1_4, ↓g_1_5, ↓g_1_6, ↓p_1_6, ↓v_2, ↓g_2_0, ↓l_3, ↓s_3, ↓n_3, ↓g_2_1, ↓l_4, ↓s_4, ↓n_4, ↓g_2_2, ↓l_5, ↓s_5, ↓n_5, ↓g_2_3, ↓l_6, ↓s_6, ↓n_6, ↓g_2_4, ↓l_7, ↓s_7, ↓n_7, ↓g_2_5, ↓l_8, ↓s_8, ↓n_8, ↓g_2_6, ↓l_9, ↓s_9, ↓n_9, ↓g_2_7, ↓p_2_7, ↓g_2_8, ↓p_2_8, ↓g_2_9, ↓p_2_9]
          have ek : k = n.toNat := by omega
          subst ek
          refine ⟨Or.inl rfl, _, h.1, ok.1, cp_now hC H ?_ h f⟩
          unfold R_loose
          rw [if_pos q, if_neg q2]
        | succ j ih =>
          intro k M' x3 hk h f
          refine bs_X10_loose_45 hX ?_
          have zk : zr (k : Int) = k := zr_of (by omega) (by omega)
          have lk : ((k : Int) < n) = True := eq_true (by omega)
          have ok := los_ok vd k (by omega)
          have lk9 := lo0_ok ok.1
          obtain ⟨dk, hdk⟩ : ∃ dk, los (S 88) k = dk := ⟨_, rfl⟩
          have es : los (S 88) (k + 1) = yr1 (lo0 dk) (-1) := by rw [← hdk]; rfl
          rw [hdk] at ok lk9 h
          have z6 : M' 1 6 = dk 3 := h.2.2.2.2.2.2
          have u1 := zushr8 (zn1 (dk 3))
          have u2 := zushr8 (zn1 (zn1 (dk 3)))
          have zu1 : zr (zushr (zn1 (dk 3)) 8) = zushr (zn1 (dk 3)) 8 := zr_of (by omega) (by omega)
          have zu2 : zr (zushr (zn1 (zn1 (dk 3))) 8) = zushr (zn1 (zn1 (dk 3))) 8 := zr_of (by omega) (by omega)
          have t1 : (zushr (zn1 (dk 3)) 8).tmod 64 = zushr (zn1 (dk 3)) 8 % 64 := tm_of u1.1
          have t2 : (zushr (zn1 (zn1 (dk 3))) 8).tmod 10 = zushr (zn1 (zn1 (dk 3))) 8 % 10 := tm_of u2.1
          simp only [bk_X10_loose_0, k_X10_loose_0, bk_X10_loose_11, k_X10_loose_11, bk_X10_loose_18, k_X10_loose_18, bk_X10_loose_36, k_X10_loose_36, bk_X10_loose_43, k_X10_loose_43, bk_X10_loose_45, k_X10_loose_45, bk_X10_loose_61, k_X10_loose_61, bk_X10_loose_83, k_X10_loose_83, bk_X10_loose_96, k_X10_loose_96, ↓e_rk1, ↓e_rk0, ↓e_sk0, ↓e_sks, ↓e_ldi0, ↓e_ldis, ↓e_ldl0, ↓e_ldls, ↓e_lda0, ↓e_ldas, ↓e_ok0, ↓e_okss, ↓e_ok1i, ↓e_ok1r, ↓e_ok1n, ↓e_sti, ↓e_sta, ↓e_1, ↓e_2, ↓e_l1, ↓e_l2, ↓e_li, ↓e_sw0, ↓e_sws, ↓e_ceq, ↓e_cne, ↓e_clt, ↓e_cge, ↓e_cgt, ↓e_cle, ↓e_nil, ↓e_cons, ↓e_iconst, ↓e_bipush, ↓e_sipush, ↓e_ldc, ↓e_ldcw, ↓e_ldc2, ↓e_lconst, ↓e_iloadn, ↓e_iload, ↓e_lloadn, ↓e_lload, ↓e_aloadn, ↓e_aload, ↓e_istoren, ↓e_istore, ↓e_astoren, ↓e_astore, ↓e_add, ↓e_iinc, ↓e_iadd, ↓e_isub, ↓e_imul, ↓e_iand, ↓e_ior, ↓e_ixor, ↓e_ishl, ↓e_iushr, ↓e_idiv, ↓e_irem, ↓e_ineg, ↓e_i2l, ↓e_i2b, ↓e_i2s, ↓e_l2i, ↓e_land, ↓e_lor, ↓e_lshl, ↓e_lshr, ↓e_lushr, ↓e_lcmp, ↓e_dupi, ↓e_dupr, ↓e_popi, ↓e_dup2, ↓e_goto, ↓e_if, ↓e_icmp, ↓e_tsw, ↓e_lsw, ↓e_getf, ↓e_putf, ↓e_gets, ↓e_iald, ↓e_cald, ↓e_iast, ↓e_aald, ↓e_aast, ↓e_len, ↓e_copy, ↓e_abs, ↓e_max, ↓e_min, ↓e_iret, ↓e_aret, ↓e_vret, ↓e_is0, ↓e_is1, ↓e_is2, ↓e_is3, ↓e_is4, ↓e_iv1, ↓e_iv2, ↓e_iv3, ↓e_iv4, ↓e_iv5, ↓e_iv6, ↓rt_X10_loose, ↓reduceIte, Nat.reduceAdd, Nat.reduceEqDiff, ↓zcl0, ↓zclv, List.map_nil, List.sum_nil, List.map_cons, List.sum_cons, zcat, true_and, and_true, Nat.reduceLeDiff, Nat.reduceAdd, eq_self, forall_const, e_ok0, e_okss, e_ok1i, e_ok1r, e_ok1n, zl_m1000000003, zl_m1000000001, zl_0, zl_1, zl_10, zl_40, zl_64, zl_9999, Int.reduceToNat, Int.reduceAdd, Int.reduceMul, Int.reduceSub, Int.reduceNeg, Int.reduceLT, Int.reduceLE, Int.reduceEq, not_false_eq_true, not_true_eq_false, false_implies, true_implies, implies_true, Int.reduceDiv, Int.reduceMod, zr8_zr, zr_zbo, z01_zbo, z01_0, z01_1, zbo_eq0, zup_eq, zup_o, zup_k, ne_eq, ↓ct_x_loose_cfail, ↓r_cfail, ↓B_cfail, ↓ct_x_loose_sdraw, ↓r_sdraw, ↓B_sdraw, ↓ct_x_loose_dyear, ↓r_dyear, ↓B_dyear, ↓ct_x_loose_hgap, ↓r_hgap, ↓B_hgap, ↓v_0, ↓g_0_0, ↓g_0_1, ↓g_0_2, ↓g_0_3, ↓g_0_4, ↓g_0_5, ↓g_0_6, ↓g_0_7, ↓g_0_8, ↓l_78, ↓s_78, ↓n_78, ↓g_0_9, ↓p_0_9, ↓v_1, ↓g_1_0, ↓g_1_1, ↓g_1_2, ↓g_1_3, ↓g_1_4, ↓g_1_5, ↓g_1_6, ↓p_1_6, zk, zn, lk, z6, zu1, t1]
          refine bs_X10_loose_61 hX ?_
          have zi : zr (zushr (zn1 (dk 3)) 8 % 64) = zushr (zn1 (dk 3)) 8 % 64 := zr_of (by omega) (by omega)
          simp only [bk_X10_loose_0, k_X10_loose_0, bk_X10_loose_11, k_X10_loose_11, bk_X10_loose_18, k_X10_loose_18, bk_X10_loose_36, k_X10_loose_36, bk_X10_loose_43, k_X10_loose_43, bk_X10_loose_45, k_X10_loose_45, bk_X10_loose_61, k_X10_loose_61, bk_X10_loose_83, k_X10_loose_83, bk_X10_loose_96, k_X10_loose_96, ↓e_rk1, ↓e_rk0, ↓e_sk0, ↓e_sks, ↓e_ldi0, ↓e_ldis, ↓e_ldl0, ↓e_ldls, ↓e_lda0, ↓e_ldas, ↓e_ok0, ↓e_okss, ↓e_ok1i, ↓e_ok1r, ↓e_ok1n, ↓e_sti, ↓e_sta, ↓e_1, ↓e_2, ↓e_l1, ↓e_l2, ↓e_li, ↓e_sw0, ↓e_sws, ↓e_ceq, ↓e_cne, ↓e_clt, ↓e_cge, ↓e_cgt, ↓e_cle, ↓e_nil, ↓e_cons, ↓e_iconst, ↓e_bipush, ↓e_sipush, ↓e_ldc, ↓e_ldcw, ↓e_ldc2, ↓e_lconst, ↓e_iloadn, ↓e_iload, ↓e_lloadn, ↓e_lload, ↓e_aloadn, ↓e_aload, ↓e_istoren, ↓e_istore, ↓e_astoren, ↓e_astore, ↓e_add, ↓e_iinc, ↓e_iadd, ↓e_isub, ↓e_imul, ↓e_iand, ↓e_ior, ↓e_ixor, ↓e_ishl, ↓e_iushr, ↓e_idiv, ↓e_irem, ↓e_ineg, ↓e_i2l, ↓e_i2b, ↓e_i2s, ↓e_l2i, ↓e_land, ↓e_lor, ↓e_lshl, ↓e_lshr, ↓e_lushr, ↓e_lcmp, ↓e_dupi, ↓e_dupr, ↓e_popi, ↓e_dup2, ↓e_goto, ↓e_if, ↓e_icmp, ↓e_tsw, ↓e_lsw, ↓e_getf, ↓e_putf, ↓e_gets, ↓e_iald, ↓e_cald, ↓e_iast, ↓e_aald, ↓e_aast, ↓e_len, ↓e_copy, ↓e_abs, ↓e_max, ↓e_min, ↓e_iret, ↓e_aret, ↓e_vret, ↓e_is0, ↓e_is1, ↓e_is2, ↓e_is3, ↓e_is4, ↓e_iv1, ↓e_iv2, ↓e_iv3, ↓e_iv4, ↓e_iv5, ↓e_iv6, ↓rt_X10_loose, ↓reduceIte, Nat.reduceAdd, Nat.reduceEqDiff, ↓zcl0, ↓zclv, List.map_nil, List.sum_nil, List.map_cons, List.sum_cons, zcat, true_and, and_true, Nat.reduceLeDiff, Nat.reduceAdd, eq_self, forall_const, e_ok0, e_okss, e_ok1i, e_ok1r, e_ok1n, zl_m1000000003, zl_m1000000001, zl_0, zl_1, zl_10, zl_40, zl_64, zl_9999, Int.reduceToNat, Int.reduceAdd, Int.reduceMul, Int.reduceSub, Int.reduceNeg, Int.reduceLT, Int.reduceLE, Int.reduceEq, not_false_eq_true, not_true_eq_false, false_implies, true_implies, implies_true, Int.reduceDiv, Int.reduceMod, zr8_zr, zr_zbo, z01_zbo, z01_0, z01_1, zbo_eq0, zup_eq, zup_o, zup_k, ne_eq, ↓ct_x_loose_cfail, ↓r_cfail, ↓B_cfail, ↓ct_x_loose_sdraw, ↓r_sdraw, ↓B_sdraw, ↓ct_x_loose_dyear, ↓r_dyear, ↓B_dyear, ↓ct_x_loose_hgap, ↓r_hgap, ↓B_hgap, ↓v_0, ↓g_0_0, ↓g_0_1, ↓g_0_2, ↓g_0_3, ↓g_0_4, ↓g_0_5, ↓g_0_6, ↓g_0_7, ↓g_0_8, ↓l_78, ↓s_78, ↓n_78, ↓g_0_9, ↓p_0_9, ↓v_1, ↓g_1_0, ↓g_1_1, ↓g_1_2, ↓g_1_3, ↓g_1_4, ↓g_1_5, ↓g_1_6, ↓p_1_6, ↓v_2, ↓g_2_0, ↓l_3, ↓s_3, ↓n_3, ↓g_2_1, ↓l_4, ↓s_4, ↓n_4, ↓g_2_2, ↓l_5, ↓s_5, ↓n_5, ↓g_2_3, ↓l_6, ↓s_6, ↓n_6, ↓g_2_4, ↓l_7, ↓s_7, ↓n_7, ↓g_2_5, ↓l_8, ↓s_8, ↓n_8, ↓g_2_6, ↓l_9, ↓s_9, ↓n_9, ↓g_2_7, ↓p_2_7, ↓g_2_8, ↓p_2_8, ↓g_2_9, ↓p_2_9, zu2, t2, zi]
          repeat (refine And.intro (by omega) ?_)
          have n1 := SRn_z h ok.1 (v := zn1 (dk 3))
          have vd1 : Vd (up1 dk 3 (zn1 (dk 3))) := Vd_up ok.1 (by omega) (Or.inl rfl)
          have n2 := SRn_z n1 vd1 (v := zn1 (zn1 (dk 3)))
          have vd2 : Vd (up1 (up1 dk 3 (zn1 (dk 3))) 3 (zn1 (zn1 (dk 3)))) := Vd_up vd1 (by omega) (Or.inl rfl)
          have n3 : SRn (zup (zup (zup M' 1 6 (zn1 (dk 3))) 1 6 (zn1 (zn1 (dk 3)))) 3 (zushr (zn1 (dk 3)) 8 % 64).toNat (zushr (zn1 (zn1 (dk 3))) 8 % 10)) (lo0 dk) := by
            refine SRn_hill n2 vd2 ?_ (fun x p => by rw [zup_ne _ (by omega)]) (fun i p => ?_)
            · unfold lo0
              rw [show (6 + zushr (zn1 (dk 3)) 8 % 64).toNat = 6 + (zushr (zn1 (dk 3)) 8 % 64).toNat by omega]
              exact HR_rock n2.1 (by omega)
            · unfold lo0
              exact up1_ne (by omega)
          refine bs_X10_loose_83 hX ?_
          simp only [bk_X10_loose_0, k_X10_loose_0, bk_X10_loose_11, k_X10_loose_11, bk_X10_loose_18, k_X10_loose_18, bk_X10_loose_36, k_X10_loose_36, bk_X10_loose_43, k_X10_loose_43, bk_X10_loose_45, k_X10_loose_45, bk_X10_loose_61, k_X10_loose_61, bk_X10_loose_83, k_X10_loose_83, bk_X10_loose_96, k_X10_loose_96, ↓e_rk1, ↓e_rk0, ↓e_sk0, ↓e_sks, ↓e_ldi0, ↓e_ldis, ↓e_ldl0, ↓e_ldls, ↓e_lda0, ↓e_ldas, ↓e_ok0, ↓e_okss, ↓e_ok1i, ↓e_ok1r, ↓e_ok1n, ↓e_sti, ↓e_sta, ↓e_1, ↓e_2, ↓e_l1, ↓e_l2, ↓e_li, ↓e_sw0, ↓e_sws, ↓e_ceq, ↓e_cne, ↓e_clt, ↓e_cge, ↓e_cgt, ↓e_cle, ↓e_nil, ↓e_cons, ↓e_iconst, ↓e_bipush, ↓e_sipush, ↓e_ldc, ↓e_ldcw, ↓e_ldc2, ↓e_lconst, ↓e_iloadn, ↓e_iload, ↓e_lloadn, ↓e_lload, ↓e_aloadn, ↓e_aload, ↓e_istoren, ↓e_istore, ↓e_astoren, ↓e_astore, ↓e_add, ↓e_iinc, ↓e_iadd, ↓e_isub, ↓e_imul, ↓e_iand, ↓e_ior, ↓e_ixor, ↓e_ishl, ↓e_iushr, ↓e_idiv, ↓e_irem, ↓e_ineg, ↓e_i2l, ↓e_i2b, ↓e_i2s, ↓e_l2i, ↓e_land, ↓e_lor, ↓e_lshl, ↓e_lshr, ↓e_lushr, ↓e_lcmp, ↓e_dupi, ↓e_dupr, ↓e_popi, ↓e_dup2, ↓e_goto, ↓e_if, ↓e_icmp, ↓e_tsw, ↓e_lsw, ↓e_getf, ↓e_putf, ↓e_gets, ↓e_iald, ↓e_cald, ↓e_iast, ↓e_aald, ↓e_aast, ↓e_len, ↓e_copy, ↓e_abs, ↓e_max, ↓e_min, ↓e_iret, ↓e_aret, ↓e_vret, ↓e_is0, ↓e_is1, ↓e_is2, ↓e_is3, ↓e_is4, ↓e_iv1, ↓e_iv2, ↓e_iv3, ↓e_iv4, ↓e_iv5, ↓e_iv6, ↓rt_X10_loose, ↓reduceIte, Nat.reduceAdd, Nat.reduceEqDiff, ↓zcl0, ↓zclv, List.map_nil, List.sum_nil, List.map_cons, List.sum_cons, zcat, true_and, and_true, Nat.reduceLeDiff, Nat.reduceAdd, eq_self, forall_const, e_ok0, e_okss, e_ok1i, e_ok1r, e_ok1n, zl_m1000000003, zl_m1000000001, zl_0, zl_1, zl_10, zl_40, zl_64, zl_9999, Int.reduceToNat, Int.reduceAdd, Int.reduceMul, Int.reduceSub, Int.reduceNeg, Int.reduceLT, Int.reduceLE, Int.reduceEq, not_false_eq_true, not_true_eq_false, false_implies, true_implies, implies_true, Int.reduceDiv, Int.reduceMod, zr8_zr, zr_zbo, z01_zbo, z01_0, z01_1, zbo_eq0, zup_eq, zup_o, zup_k, ne_eq, ↓ct_x_loose_cfail, ↓r_cfail, ↓B_cfail, ↓ct_x_loose_sdraw, ↓r_sdraw, ↓B_sdraw, ↓ct_x_loose_dyear, ↓r_dyear, ↓B_dyear, ↓ct_x_loose_hgap, ↓r_hgap, ↓B_hgap, ↓v_0, ↓g_0_0, ↓g_0_1, ↓g_0_2, ↓g_0_3, ↓g_0_4, ↓g_0_5, ↓g_0_6, ↓g_0_7, ↓g_0_8, ↓l_78, ↓s_78, ↓n_78, ↓g_0_9, ↓p_0_9, ↓v_51, ↓g_51_0, ↓g_51_1, ↓g_51_2, ↓g_51_3, ↓g_51_4, ↓l_52, ↓s_52, ↓n_52, ↓g_51_5, ↓p_51_5, ↓g_51_6, ↓p_51_6, ↓g_51_7, ↓p_51_7, ↓g_51_8, ↓p_51_8, ↓g_51_9, ↓p_51_9]
          refine ⟨2, 10, 52, _, -1, DGs n3 lk9.1, fun M2 h2 f2 => ih (k + 1) M2 _ (by omega) ?_ (fun x p => by rw [f2 x (by omega) (by omega) (by omega) (by omega) (by omega), zup_ne _ (by omega), zup_ne _ (by omega), zup_ne _ (by omega), f x p])⟩
          rw [es]
          exact SRn_hill n3 lk9.1 h2 (fun x p => f2 x (by omega) (by omega) (by omega) (by omega) (by omega)) (fun i p => yr1_hi lk9.1 (-1) (by omega))
      refine bs_X10_loose_43 hX ?_
      simp only [bk_X10_loose_0, k_X10_loose_0, bk_X10_loose_11, k_X10_loose_11, bk_X10_loose_18, k_X10_loose_18, bk_X10_loose_36, k_X10_loose_36, bk_X10_loose_43, k_X10_loose_43, bk_X10_loose_45, k_X10_loose_45, bk_X10_loose_61, k_X10_loose_61, bk_X10_loose_83, k_X10_loose_83, bk_X10_loose_96, k_X10_loose_96, ↓e_rk1, ↓e_rk0, ↓e_sk0, ↓e_sks, ↓e_ldi0, ↓e_ldis, ↓e_ldl0, ↓e_ldls, ↓e_lda0, ↓e_ldas, ↓e_ok0, ↓e_okss, ↓e_ok1i, ↓e_ok1r, ↓e_ok1n, ↓e_sti, ↓e_sta, ↓e_1, ↓e_2, ↓e_l1, ↓e_l2, ↓e_li, ↓e_sw0, ↓e_sws, ↓e_ceq, ↓e_cne, ↓e_clt, ↓e_cge, ↓e_cgt, ↓e_cle, ↓e_nil, ↓e_cons, ↓e_iconst, ↓e_bipush, ↓e_sipush, ↓e_ldc, ↓e_ldcw, ↓e_ldc2, ↓e_lconst, ↓e_iloadn, ↓e_iload, ↓e_lloadn, ↓e_lload, ↓e_aloadn, ↓e_aload, ↓e_istoren, ↓e_istore, ↓e_astoren, ↓e_astore, ↓e_add, ↓e_iinc, ↓e_iadd, ↓e_isub, ↓e_imul, ↓e_iand, ↓e_ior, ↓e_ixor, ↓e_ishl, ↓e_iushr, ↓e_idiv, ↓e_irem, ↓e_ineg, ↓e_i2l, ↓e_i2b, ↓e_i2s, ↓e_l2i, ↓e_land, ↓e_lor, ↓e_lshl, ↓e_lshr, ↓e_lushr, ↓e_lcmp, ↓e_dupi, ↓e_dupr, ↓e_popi, ↓e_dup2, ↓e_goto, ↓e_if, ↓e_icmp, ↓e_tsw, ↓e_lsw, ↓e_getf, ↓e_putf, ↓e_gets, ↓e_iald, ↓e_cald, ↓e_iast, ↓e_aald, ↓e_aast, ↓e_len, ↓e_copy, ↓e_abs, ↓e_max, ↓e_min, ↓e_iret, ↓e_aret, ↓e_vret, ↓e_is0, ↓e_is1, ↓e_is2, ↓e_is3, ↓e_is4, ↓e_iv1, ↓e_iv2, ↓e_iv3, ↓e_iv4, ↓e_iv5, ↓e_iv6, ↓rt_X10_loose, ↓reduceIte, Nat.reduceAdd, Nat.reduceEqDiff, ↓zcl0, ↓zclv, List.map_nil, List.sum_nil, List.map_cons, List.sum_cons, zcat, true_and, and_true, Nat.reduceLeDiff, Nat.reduceAdd, eq_self, forall_const, e_ok0, e_okss, e_ok1i, e_ok1r, e_ok1n, zl_m1000000003, zl_m1000000001, zl_0, zl_1, zl_10, zl_40, zl_64, zl_9999, Int.reduceToNat, Int.reduceAdd, Int.reduceMul, Int.reduceSub, Int.reduceNeg, Int.reduceLT, Int.reduceLE, Int.reduceEq, not_false_eq_true, not_true_eq_false, false_implies, true_implies, implies_true, Int.reduceDiv, Int.reduceMod, zr8_zr, zr_zbo, z01_zbo, z01_0, z01_1, zbo_eq0, zup_eq, zup_o, zup_k, ne_eq, ↓ct_x_loose_cfail, ↓r_cfail, ↓B_cfail, ↓ct_x_loose_sdraw, ↓r_sdraw, ↓B_sdraw, ↓ct_x_loose_dyear, ↓r_dyear, ↓B_dyear, ↓ct_x_loose_hgap, ↓r_hgap, ↓B_hgap, ↓v_0, ↓g_0_0, ↓g_0_1, ↓g_0_2, ↓g_0_3, ↓g_0_4, ↓g_0_5, ↓g_0_6, ↓g_0_7, ↓g_0_8, ↓l_78, ↓s_78, ↓n_78, ↓g_0_9, ↓p_0_9]
      exact lp n.toNat 0 M _ (by omega) n9 (fun _ _ => rfl)
    have J36 : (1 ≤ n ∧ n ≤ 40) → 9999 < S 88 1 + n → X 36 [some (.inr (.inr (.inl 0))), some (.inl n), none, none] [] (zG, M) (0, 0) := by
      intro q q2
      refine bs_X10_loose_36 hX ?_
      simp only [bk_X10_loose_0, k_X10_loose_0, bk_X10_loose_11, k_X10_loose_11, bk_X10_loose_18, k_X10_loose_18, bk_X10_loose_36, k_X10_loose_36, bk_X10_loose_43, k_X10_loose_43, bk_X10_loose_45, k_X10_loose_45, bk_X10_loose_61, k_X10_loose_61, bk_X10_loose_83, k_X10_loose_83, bk_X10_loose_96, k_X10_loose_96, ↓e_rk1, ↓e_rk0, ↓e_sk0, ↓e_sks, ↓e_ldi0, ↓e_ldis, ↓e_ldl0, ↓e_ldls, ↓e_lda0, ↓e_ldas, ↓e_ok0, ↓e_okss, ↓e_ok1i, ↓e_ok1r, ↓e_ok1n, ↓e_sti, ↓e_sta, ↓e_1, ↓e_2, ↓e_l1, ↓e_l2, ↓e_li, ↓e_sw0, ↓e_sws, ↓e_ceq, ↓e_cne, ↓e_clt, ↓e_cge, ↓e_cgt, ↓e_cle, ↓e_nil, ↓e_cons, ↓e_iconst, ↓e_bipush, ↓e_sipush, ↓e_ldc, ↓e_ldcw, ↓e_ldc2, ↓e_lconst, ↓e_iloadn, ↓e_iload, ↓e_lloadn, ↓e_lload, ↓e_aloadn, ↓e_aload, ↓e_istoren, ↓e_istore, ↓e_astoren, ↓e_astore, ↓e_add, ↓e_iinc, ↓e_iadd, ↓e_isub, ↓e_imul, ↓e_iand, ↓e_ior, ↓e_ixor, ↓e_ishl, ↓e_iushr, ↓e_idiv, ↓e_irem, ↓e_ineg, ↓e_i2l, ↓e_i2b, ↓e_i2s, ↓e_l2i, ↓e_land, ↓e_lor, ↓e_lshl, ↓e_lshr, ↓e_lushr, ↓e_lcmp, ↓e_dupi, ↓e_dupr, ↓e_popi, ↓e_dup2, ↓e_goto, ↓e_if, ↓e_icmp, ↓e_tsw, ↓e_lsw, ↓e_getf, ↓e_putf, ↓e_gets, ↓e_iald, ↓e_cald, ↓e_iast, ↓e_aald, ↓e_aast, ↓e_len, ↓e_copy, ↓e_abs, ↓e_max, ↓e_min, ↓e_iret, ↓e_aret, ↓e_vret, ↓e_is0, ↓e_is1, ↓e_is2, ↓e_is3, ↓e_is4, ↓e_iv1, ↓e_iv2, ↓e_iv3, ↓e_iv4, ↓e_iv5, ↓e_iv6, ↓rt_X10_loose, ↓reduceIte, Nat.reduceAdd, Nat.reduceEqDiff, ↓zcl0, ↓zclv, List.map_nil, List.sum_nil, List.map_cons, List.sum_cons, zcat, true_and, and_true, Nat.reduceLeDiff, Nat.reduceAdd, eq_self, forall_const, e_ok0, e_okss, e_ok1i, e_ok1r, e_ok1n, zl_m1000000003, zl_m1000000001, zl_0, zl_1, zl_10, zl_40, zl_64, zl_9999, Int.reduceToNat, Int.reduceAdd, Int.reduceMul, Int.reduceSub, Int.reduceNeg, Int.reduceLT, Int.reduceLE, Int.reduceEq, not_false_eq_true, not_true_eq_false, false_implies, true_implies, implies_true, Int.reduceDiv, Int.reduceMod, zr8_zr, zr_zbo, z01_zbo, z01_0, z01_1, zbo_eq0, zup_eq, zup_o, zup_k, ne_eq, ↓ct_x_loose_cfail, ↓r_cfail, ↓B_cfail, ↓ct_x_loose_sdraw, ↓r_sdraw, ↓B_sdraw, ↓ct_x_loose_dyear, ↓r_dyear, ↓B_dyear, ↓ct_x_loose_hgap, ↓r_hgap, ↓B_hgap, ↓v_0, ↓g_0_0, ↓g_0_1, ↓g_0_2, ↓g_0_3, ↓g_0_4, ↓g_0_5, ↓g_0_6, ↓g_0_7, ↓g_0_8, ↓l_78, ↓s_78, ↓n_78, ↓g_0_9, ↓p_0_9]
      exact ⟨3, by omega, by omega, cp_no hC H vd (by omega) (by unfold R_loose; rw [if_pos q, if_pos q2]) rfl⟩
    have J18 : (1 ≤ n ∧ n ≤ 40) → X 18 [some (.inr (.inr (.inl 0))), some (.inl n), none, none] [] (zG, M) (0, 0) := by
      intro q
      refine bs_X10_loose_18 hX ?_
      have zy : zr (S 88 1 + n) = S 88 1 + n := zr_of (by omega) (by omega)
      simp only [bk_X10_loose_0, k_X10_loose_0, bk_X10_loose_11, k_X10_loose_11, bk_X10_loose_18, k_X10_loose_18, bk_X10_loose_36, k_X10_loose_36, bk_X10_loose_43, k_X10_loose_43, bk_X10_loose_45, k_X10_loose_45, bk_X10_loose_61, k_X10_loose_61, bk_X10_loose_83, k_X10_loose_83, bk_X10_loose_96, k_X10_loose_96, ↓e_rk1, ↓e_rk0, ↓e_sk0, ↓e_sks, ↓e_ldi0, ↓e_ldis, ↓e_ldl0, ↓e_ldls, ↓e_lda0, ↓e_ldas, ↓e_ok0, ↓e_okss, ↓e_ok1i, ↓e_ok1r, ↓e_ok1n, ↓e_sti, ↓e_sta, ↓e_1, ↓e_2, ↓e_l1, ↓e_l2, ↓e_li, ↓e_sw0, ↓e_sws, ↓e_ceq, ↓e_cne, ↓e_clt, ↓e_cge, ↓e_cgt, ↓e_cle, ↓e_nil, ↓e_cons, ↓e_iconst, ↓e_bipush, ↓e_sipush, ↓e_ldc, ↓e_ldcw, ↓e_ldc2, ↓e_lconst, ↓e_iloadn, ↓e_iload, ↓e_lloadn, ↓e_lload, ↓e_aloadn, ↓e_aload, ↓e_istoren, ↓e_istore, ↓e_astoren, ↓e_astore, ↓e_add, ↓e_iinc, ↓e_iadd, ↓e_isub, ↓e_imul, ↓e_iand, ↓e_ior, ↓e_ixor, ↓e_ishl, ↓e_iushr, ↓e_idiv, ↓e_irem, ↓e_ineg, ↓e_i2l, ↓e_i2b, ↓e_i2s, ↓e_l2i, ↓e_land, ↓e_lor, ↓e_lshl, ↓e_lshr, ↓e_lushr, ↓e_lcmp, ↓e_dupi, ↓e_dupr, ↓e_popi, ↓e_dup2, ↓e_goto, ↓e_if, ↓e_icmp, ↓e_tsw, ↓e_lsw, ↓e_getf, ↓e_putf, ↓e_gets, ↓e_iald, ↓e_cald, ↓e_iast, ↓e_aald, ↓e_aast, ↓e_len, ↓e_copy, ↓e_abs, ↓e_max, ↓e_min, ↓e_iret, ↓e_aret, ↓e_vret, ↓e_is0, ↓e_is1, ↓e_is2, ↓e_is3, ↓e_is4, ↓e_iv1, ↓e_iv2, ↓e_iv3, ↓e_iv4, ↓e_iv5, ↓e_iv6, ↓rt_X10_loose, ↓reduceIte, Nat.reduceAdd, Nat.reduceEqDiff, ↓zcl0, ↓zclv, List.map_nil, List.sum_nil, List.map_cons, List.sum_cons, zcat, true_and, and_true, Nat.reduceLeDiff, Nat.reduceAdd, eq_self, forall_const, e_ok0, e_okss, e_ok1i, e_ok1r, e_ok1n, zl_m1000000003, zl_m1000000001, zl_0, zl_1, zl_10, zl_40, zl_64, zl_9999, Int.reduceToNat, Int.reduceAdd, Int.reduceMul, Int.reduceSub, Int.reduceNeg, Int.reduceLT, Int.reduceLE, Int.reduceEq, not_false_eq_true, not_true_eq_false, false_implies, true_implies, implies_true, Int.reduceDiv, Int.reduceMod, zr8_zr, zr_zbo, z01_zbo, z01_0, z01_1, zbo_eq0, zup_eq, zup_o, zup_k, ne_eq, ↓ct_x_loose_cfail, ↓r_cfail, ↓B_cfail, ↓ct_x_loose_sdraw, ↓r_sdraw, ↓B_sdraw, ↓ct_x_loose_dyear, ↓r_dyear, ↓B_dyear, ↓ct_x_loose_hgap, ↓r_hgap, ↓B_hgap, ↓v_0, ↓g_0_0, ↓g_0_1, ↓g_0_2, ↓g_0_3, ↓g_0_4, ↓g_0_5, ↓g_0_6, ↓g_0_7, ↓g_0_8, ↓l_78, ↓s_78, ↓n_78, ↓g_0_9, ↓p_0_9, ↓v_1, ↓g_1_0, ↓g_1_1, ↓g_1_2, ↓g_1_3, ↓g_1_4, ↓g_1_5, ↓g_1_6, ↓p_1_6, ↓v_2, ↓g_2_0, ↓l_3, ↓s_3, ↓n_3, ↓g_2_1, ↓l_4, ↓s_4, ↓n_4, ↓g_2_2, ↓l_5, ↓s_5, ↓n_5, ↓g_2_3, ↓l_6, ↓s_6, ↓n_6, ↓g_2_4, ↓l_7, ↓s_7, ↓n_7, ↓g_2_5, ↓l_8, ↓s_8, ↓n_8, ↓g_2_6, ↓l_9, ↓s_9, ↓n_9, ↓g_2_7, ↓p_2_7, ↓g_2_8, ↓p_2_8, ↓g_2_9, ↓p_2_9, y9, zy]
      repeat' (first | assumption | apply And.intro | intro _)
      all_goals first | (apply J43 q; omega) | (apply J36 q; omega)
    simp only [bk_X10_loose_0, k_X10_loose_0, bk_X10_loose_11, k_X10_loose_11, bk_X10_loose_18, k_X10_loose_18, bk_X10_loose_36, k_X10_loose_36, bk_X10_loose_43, k_X10_loose_43, bk_X10_loose_45, k_X10_loose_45, bk_X10_loose_61, k_X10_loose_61, bk_X10_loose_83, k_X10_loose_83, bk_X10_loose_96, k_X10_loose_96, ↓e_rk1, ↓e_rk0, ↓e_sk0, ↓e_sks, ↓e_ldi0, ↓e_ldis, ↓e_ldl0, ↓e_ldls, ↓e_lda0, ↓e_ldas, ↓e_ok0, ↓e_okss, ↓e_ok1i, ↓e_ok1r, ↓e_ok1n, ↓e_sti, ↓e_sta, ↓e_1, ↓e_2, ↓e_l1, ↓e_l2, ↓e_li, ↓e_sw0, ↓e_sws, ↓e_ceq, ↓e_cne, ↓e_clt, ↓e_cge, ↓e_cgt, ↓e_cle, ↓e_nil, ↓e_cons, ↓e_iconst, ↓e_bipush, ↓e_sipush, ↓e_ldc, ↓e_ldcw, ↓e_ldc2, ↓e_lconst, ↓e_iloadn, ↓e_iload, ↓e_lloadn, ↓e_lload, ↓e_aloadn, ↓e_aload, ↓e_istoren, ↓e_istore, ↓e_astoren, ↓e_astore, ↓e_add, ↓e_iinc, ↓e_iadd, ↓e_isub, ↓e_imul, ↓e_iand, ↓e_ior, ↓e_ixor, ↓e_ishl, ↓e_iushr, ↓e_idiv, ↓e_irem, ↓e_ineg, ↓e_i2l, ↓e_i2b, ↓e_i2s, ↓e_l2i, ↓e_land, ↓e_lor, ↓e_lshl, ↓e_lshr, ↓e_lushr, ↓e_lcmp, ↓e_dupi, ↓e_dupr, ↓e_popi, ↓e_dup2, ↓e_goto, ↓e_if, ↓e_icmp, ↓e_tsw, ↓e_lsw, ↓e_getf, ↓e_putf, ↓e_gets, ↓e_iald, ↓e_cald, ↓e_iast, ↓e_aald, ↓e_aast, ↓e_len, ↓e_copy, ↓e_abs, ↓e_max, ↓e_min, ↓e_iret, ↓e_aret, ↓e_vret, ↓e_is0, ↓e_is1, ↓e_is2, ↓e_is3, ↓e_is4, ↓e_iv1, ↓e_iv2, ↓e_iv3, ↓e_iv4, ↓e_iv5, ↓e_iv6, ↓rt_X10_loose, ↓reduceIte, Nat.reduceAdd, Nat.reduceEqDiff, ↓zcl0, ↓zclv, List.map_nil, List.sum_nil, List.map_cons, List.sum_cons, zcat, true_and, and_true, Nat.reduceLeDiff, Nat.reduceAdd, eq_self, forall_const, e_ok0, e_okss, e_ok1i, e_ok1r, e_ok1n, zl_m1000000003, zl_m1000000001, zl_0, zl_1, zl_10, zl_40, zl_64, zl_9999, Int.reduceToNat, Int.reduceAdd, Int.reduceMul, Int.reduceSub, Int.reduceNeg, Int.reduceLT, Int.reduceLE, Int.reduceEq, not_false_eq_true, not_true_eq_false, false_implies, true_implies, implies_true, Int.reduceDiv, Int.reduceMod, zr8_zr, zr_zbo, z01_zbo, z01_0, z01_1, zbo_eq0, zup_eq, zup_o, zup_k, ne_eq, ↓ct_x_loose_cfail, ↓r_cfail, ↓B_cfail, ↓ct_x_loose_sdraw, ↓r_sdraw, ↓B_sdraw, ↓ct_x_loose_dyear, ↓r_dyear, ↓B_dyear, ↓ct_x_loose_hgap, ↓r_hgap, ↓B_hgap, ↓v_0, ↓g_0_0, ↓g_0_1, ↓g_0_2, ↓g_0_3, ↓g_0_4, ↓g_0_5, ↓g_0_6, ↓g_0_7, ↓g_0_8, ↓l_78, ↓s_78, ↓n_78, ↓g_0_9, ↓p_0_9, zn]
    repeat' (first | assumption | apply And.intro | intro _)
    all_goals first | (apply J11; omega) | (apply J18; omega)
def B_x_tell (v : Int) (M : Nat → Nat → Int) (post : Option ZV → (Nat → Nat → Int) → Prop) : Prop := rg v ∧ ∃ S : ZMm, Vs S ∧ Rc S M ∧ cp M (R_tell S v) post
def C_x_tell : ZC := fun as h post => match as with
  | [.inr (.inr (.inl 0)), .inl v] => h.1 = zG ∧ B_x_tell v h.2 (fun v M => post v (zG, M))
  | _ => False
theorem r_x_tell {v : Int} {M : Nat → Nat → Int} {post : Option ZV → ZH → Prop} : C_x_tell [.inr (.inr (.inl 0)), .inl v] (zG, M) post = B_x_tell v M (fun v M => post v (zG, M)) := by show (zG = zG ∧ _) = _; simp
def ct_x_tell : Nat → ZC := fun n => if n = 110 then C_cfail else if n = 41 then C_radd else fun _ _ _ => False
theorem ct_x_tell_cfail {as : List ZV} {h : ZH} {post : Option ZV → ZH → Prop} : ct_x_tell 110 as h post = C_cfail as h post := rfl
theorem ct_x_tell_radd {as : List ZV} {h : ZH} {post : Option ZV → ZH → Prop} : ct_x_tell 41 as h post = C_radd as h post := rfl
theorem c_x_tell {E : ZE} {d : Nat} (hd : 2 ≤ d) : zMet E d mX10_tell C_x_tell := by
  refine zmet_of (o := 10) (ini := false) (CT := ct_x_tell) gd_X10_tell rfl (fun h => by cases h) (by omega) ?_ ?_
  · intro n as h post hh
    unfold ct_x_tell at hh
    by_cases c : n = 110
    · subst c; exact ⟨gd_X10_failed, 1, by omega, c_cfail (by omega)⟩
    rw [if_neg c] at hh
    by_cases c : n = 41
    · subst c; exact ⟨gd_X5_add, 1, by omega, c_radd (by omega)⟩
    rw [if_neg c] at hh
    exact hh.elim
  intro as h post hC
  match as, hC with
  | [.inr (.inr (.inl 0)), .inl v], hC =>
    refine ⟨Nat.le_of_ble_eq_true rfl, fun X hX => bs_X10_tell_0 hX ?_⟩
    obtain ⟨G, M⟩ := h
    obtain ⟨hG, hC⟩ := hC
    dsimp only at hG
    subst hG
    simp only [B_x_tell] at hC
    show bk_X10_tell_0 E ct_x_tell X _ [some (.inr (.inr (.inl 0))), some (.inl v)] [] (zG, M) (0, 0)
    obtain ⟨h1, S, vs9, H, hC⟩ := hC
    have vd : Vd (S 88) := vs9.1
    have n9 := H.1
    have v5 := vd.2.2.2.2.1
    have w9 := n9.2.2.2.2.2.1
    have e1 : M 24 1 = S 88 5 := w9.1
    have J14 : S 88 5 = 20 → X 14 [some (.inr (.inr (.inl 0))), some (.inl v)] [] (zG, M) (0, 0) := by
      intro q
      refine bs_X10_tell_14 hX ?_
      simp only [bk_X10_tell_0, k_X10_tell_0, bk_X10_tell_14, k_X10_tell_14, bk_X10_tell_21, k_X10_tell_21, ↓e_rk1, ↓e_rk0, ↓e_sk0, ↓e_sks, ↓e_ldi0, ↓e_ldis, ↓e_ldl0, ↓e_ldls, ↓e_lda0, ↓e_ldas, ↓e_ok0, ↓e_okss, ↓e_ok1i, ↓e_ok1r, ↓e_ok1n, ↓e_sti, ↓e_sta, ↓e_1, ↓e_2, ↓e_l1, ↓e_l2, ↓e_li, ↓e_sw0, ↓e_sws, ↓e_ceq, ↓e_cne, ↓e_clt, ↓e_cge, ↓e_cgt, ↓e_cle, ↓e_nil, ↓e_cons, ↓e_iconst, ↓e_bipush, ↓e_sipush, ↓e_ldc, ↓e_ldcw, ↓e_ldc2, ↓e_lconst, ↓e_iloadn, ↓e_iload, ↓e_lloadn, ↓e_lload, ↓e_aloadn, ↓e_aload, ↓e_istoren, ↓e_istore, ↓e_astoren, ↓e_astore, ↓e_add, ↓e_iinc, ↓e_iadd, ↓e_isub, ↓e_imul, ↓e_iand, ↓e_ior, ↓e_ixor, ↓e_ishl, ↓e_iushr, ↓e_idiv, ↓e_irem, ↓e_ineg, ↓e_i2l, ↓e_i2b, ↓e_i2s, ↓e_l2i, ↓e_land, ↓e_lor, ↓e_lshl, ↓e_lshr, ↓e_lushr, ↓e_lcmp, ↓e_dupi, ↓e_dupr, ↓e_popi, ↓e_dup2, ↓e_goto, ↓e_if, ↓e_icmp, ↓e_tsw, ↓e_lsw, ↓e_getf, ↓e_putf, ↓e_gets, ↓e_iald, ↓e_cald, ↓e_iast, ↓e_aald, ↓e_aast, ↓e_len, ↓e_copy, ↓e_abs, ↓e_max, ↓e_min, ↓e_iret, ↓e_aret, ↓e_vret, ↓e_is0, ↓e_is1, ↓e_is2, ↓e_is3, ↓e_is4, ↓e_iv1, ↓e_iv2, ↓e_iv3, ↓e_iv4, ↓e_iv5, ↓e_iv6, ↓rt_X10_tell, ↓reduceIte, Nat.reduceAdd, Nat.reduceEqDiff, ↓zcl0, ↓zclv, List.map_nil, List.sum_nil, List.map_cons, List.sum_cons, zcat, true_and, and_true, Nat.reduceLeDiff, Nat.reduceAdd, eq_self, forall_const, e_ok0, e_okss, e_ok1i, e_ok1r, e_ok1n, zl_m1000000004, Int.reduceToNat, Int.reduceAdd, Int.reduceMul, Int.reduceSub, Int.reduceNeg, Int.reduceLT, Int.reduceLE, Int.reduceEq, not_false_eq_true, not_true_eq_false, false_implies, true_implies, implies_true, Int.reduceDiv, Int.reduceMod, zr8_zr, zr_zbo, z01_zbo, z01_0, z01_1, zbo_eq0, zup_eq, zup_o, zup_k, ne_eq, ↓ct_x_tell_cfail, ↓r_cfail, ↓B_cfail, ↓ct_x_tell_radd, ↓r_radd, ↓B_radd, ↓v_0, ↓g_0_0, ↓g_0_1, ↓g_0_2, ↓g_0_3, ↓g_0_4, ↓g_0_5, ↓g_0_6, ↓g_0_7, ↓g_0_8, ↓l_78, ↓s_78, ↓n_78, ↓g_0_9, ↓p_0_9]
      exact ⟨4, by omega, by omega, cp_no hC H vd (by omega) (by unfold R_tell; rw [if_pos q]) rfl⟩
    have J21 : ¬ S 88 5 = 20 → X 21 [some (.inr (.inr (.inl 0))), some (.inl v)] [] (zG, (zup (zup M 25 (S 88 5).toNat v) 24 1 (S 88 5 + 1))) (0, 0) := by
      intro q
      refine bs_X10_tell_21 hX ?_
      simp only [bk_X10_tell_0, k_X10_tell_0, bk_X10_tell_14, k_X10_tell_14, bk_X10_tell_21, k_X10_tell_21, ↓e_rk1, ↓e_rk0, ↓e_sk0, ↓e_sks, ↓e_ldi0, ↓e_ldis, ↓e_ldl0, ↓e_ldls, ↓e_lda0, ↓e_ldas, ↓e_ok0, ↓e_okss, ↓e_ok1i, ↓e_ok1r, ↓e_ok1n, ↓e_sti, ↓e_sta, ↓e_1, ↓e_2, ↓e_l1, ↓e_l2, ↓e_li, ↓e_sw0, ↓e_sws, ↓e_ceq, ↓e_cne, ↓e_clt, ↓e_cge, ↓e_cgt, ↓e_cle, ↓e_nil, ↓e_cons, ↓e_iconst, ↓e_bipush, ↓e_sipush, ↓e_ldc, ↓e_ldcw, ↓e_ldc2, ↓e_lconst, ↓e_iloadn, ↓e_iload, ↓e_lloadn, ↓e_lload, ↓e_aloadn, ↓e_aload, ↓e_istoren, ↓e_istore, ↓e_astoren, ↓e_astore, ↓e_add, ↓e_iinc, ↓e_iadd, ↓e_isub, ↓e_imul, ↓e_iand, ↓e_ior, ↓e_ixor, ↓e_ishl, ↓e_iushr, ↓e_idiv, ↓e_irem, ↓e_ineg, ↓e_i2l, ↓e_i2b, ↓e_i2s, ↓e_l2i, ↓e_land, ↓e_lor, ↓e_lshl, ↓e_lshr, ↓e_lushr, ↓e_lcmp, ↓e_dupi, ↓e_dupr, ↓e_popi, ↓e_dup2, ↓e_goto, ↓e_if, ↓e_icmp, ↓e_tsw, ↓e_lsw, ↓e_getf, ↓e_putf, ↓e_gets, ↓e_iald, ↓e_cald, ↓e_iast, ↓e_aald, ↓e_aast, ↓e_len, ↓e_copy, ↓e_abs, ↓e_max, ↓e_min, ↓e_iret, ↓e_aret, ↓e_vret, ↓e_is0, ↓e_is1, ↓e_is2, ↓e_is3, ↓e_is4, ↓e_iv1, ↓e_iv2, ↓e_iv3, ↓e_iv4, ↓e_iv5, ↓e_iv6, ↓rt_X10_tell, ↓reduceIte, Nat.reduceAdd, Nat.reduceEqDiff, ↓zcl0, ↓zclv, List.map_nil, List.sum_nil, List.map_cons, List.sum_cons, zcat, true_and, and_true, Nat.reduceLeDiff, Nat.reduceAdd, eq_self, forall_const, e_ok0, e_okss, e_ok1i, e_ok1r, e_ok1n, zl_m1000000004, Int.reduceToNat, Int.reduceAdd, Int.reduceMul, Int.reduceSub, Int.reduceNeg, Int.reduceLT, Int.reduceLE, Int.reduceEq, not_false_eq_true, not_true_eq_false, false_implies, true_implies, implies_true, Int.reduceDiv, Int.reduceMod, zr8_zr, zr_zbo, z01_zbo, z01_0, z01_1, zbo_eq0, zup_eq, zup_o, zup_k, ne_eq, ↓ct_x_tell_cfail, ↓r_cfail, ↓B_cfail, ↓ct_x_tell_radd, ↓r_radd, ↓B_radd, ↓v_0, ↓g_0_0, ↓g_0_1, ↓g_0_2, ↓g_0_3, ↓g_0_4, ↓g_0_5, ↓g_0_6, ↓g_0_7, ↓g_0_8, ↓l_78, ↓s_78, ↓n_78, ↓g_0_9, ↓p_0_9, ↓v_1, ↓g_1_0, ↓g_1_1, ↓g_1_2, ↓g_1_3, ↓g_1_4, ↓g_1_5, ↓g_1_6, ↓p_1_6, ↓v_24, ↓g_24_0, ↓l_25, ↓s_25, ↓n_25, ↓g_24_1, ↓p_24_1]
      refine cp_now hC H (f := up1 (up1 (S 88) (188 + S 88 5).toNat v) 5 (S 88 5 + 1)) (by unfold R_tell; rw [if_neg q]) ?_ (fun x p => by rw [zup_ne _ (by omega), zup_ne _ (by omega)])
      obtain ⟨hh, c, l1, l2, t, w, z⟩ := n9
      have v9 := Vd_l vd
      have f9 : ∀ x, ¬ x = 24 → ¬ x = 25 → zup (zup M 25 (S 88 5).toNat v) 24 1 (S 88 5 + 1) x = M x := fun x p p2 => by rw [zup_ne _ p, zup_ne _ p2]
      have u9 : ∀ k, ¬ k = 5 → ¬ (188 ≤ k ∧ k < 208) → up1 (up1 (S 88) (188 + S 88 5).toNat v) 5 (S 88 5 + 1) k = S 88 k := fun k p p2 => by rw [up1_ne p, up1_ne (by omega)]
      refine ⟨HR_cg hh (fun x p q => f9 x (by omega) (by omega)) (fun k hk => u9 k (by omega) (by omega)), CR_cg c (fun x p q => f9 x (by omega) (by omega)) (fun k hk => u9 k (by omega) (by omega)), LR_cg l1 v9.1.1 (by omega) (fun x p q => f9 x (by omega) (by omega)) (fun k hk => u9 k (by omega) (by omega)), LR_cg l2 v9.1.2 (by omega) (fun x p q => f9 x (by omega) (by omega)) (fun k hk => u9 k (by omega) (by omega)), TR_cg t (fun x p => f9 x (by omega) (by omega)) (u9 4 (by omega) (by omega)) (fun k _ => u9 _ (by omega) (by omega)), ⟨?_, fun k hk => ?_⟩, ?_⟩
      · rw [zup_eq, up1_eq]
      · rw [up1_eq] at hk
        rw [zup_o (by omega), up1_ne (by omega)]
        by_cases qk : k = (S 88 5).toNat
        · subst qk
          rw [zup_eq, show 188 + (S 88 5).toNat = (188 + S 88 5).toNat by omega, up1_eq]
        · rw [zup_k qk, up1_ne (by omega)]
          exact w.2 k (by omega)
      · rw [f9 1 (by omega) (by omega), u9 3 (by omega) (by omega)]
        exact z
    simp only [bk_X10_tell_0, k_X10_tell_0, bk_X10_tell_14, k_X10_tell_14, bk_X10_tell_21, k_X10_tell_21, ↓e_rk1, ↓e_rk0, ↓e_sk0, ↓e_sks, ↓e_ldi0, ↓e_ldis, ↓e_ldl0, ↓e_ldls, ↓e_lda0, ↓e_ldas, ↓e_ok0, ↓e_okss, ↓e_ok1i, ↓e_ok1r, ↓e_ok1n, ↓e_sti, ↓e_sta, ↓e_1, ↓e_2, ↓e_l1, ↓e_l2, ↓e_li, ↓e_sw0, ↓e_sws, ↓e_ceq, ↓e_cne, ↓e_clt, ↓e_cge, ↓e_cgt, ↓e_cle, ↓e_nil, ↓e_cons, ↓e_iconst, ↓e_bipush, ↓e_sipush, ↓e_ldc, ↓e_ldcw, ↓e_ldc2, ↓e_lconst, ↓e_iloadn, ↓e_iload, ↓e_lloadn, ↓e_lload, ↓e_aloadn, ↓e_aload, ↓e_istoren, ↓e_istore, ↓e_astoren, ↓e_astore, ↓e_add, ↓e_iinc, ↓e_iadd, ↓e_isub, ↓e_imul, ↓e_iand, ↓e_ior, ↓e_ixor, ↓e_ishl, ↓e_iushr, ↓e_idiv, ↓e_irem, ↓e_ineg, ↓e_i2l, ↓e_i2b, ↓e_i2s, ↓e_l2i, ↓e_land, ↓e_lor, ↓e_lshl, ↓e_lshr, ↓e_lushr, ↓e_lcmp, ↓e_dupi, ↓e_dupr, ↓e_popi, ↓e_dup2, ↓e_goto, ↓e_if, ↓e_icmp, ↓e_tsw, ↓e_lsw, ↓e_getf, ↓e_putf, ↓e_gets, ↓e_iald, ↓e_cald, ↓e_iast, ↓e_aald, ↓e_aast, ↓e_len, ↓e_copy, ↓e_abs, ↓e_max, ↓e_min, ↓e_iret, ↓e_aret, ↓e_vret, ↓e_is0, ↓e_is1, ↓e_is2, ↓e_is3, ↓e_is4, ↓e_iv1, ↓e_iv2, ↓e_iv3, ↓e_iv4, ↓e_iv5, ↓e_iv6, ↓rt_X10_tell, ↓reduceIte, Nat.reduceAdd, Nat.reduceEqDiff, ↓zcl0, ↓zclv, List.map_nil, List.sum_nil, List.map_cons, List.sum_cons, zcat, true_and, and_true, Nat.reduceLeDiff, Nat.reduceAdd, eq_self, forall_const, e_ok0, e_okss, e_ok1i, e_ok1r, e_ok1n, zl_m1000000004, Int.reduceToNat, Int.reduceAdd, Int.reduceMul, Int.reduceSub, Int.reduceNeg, Int.reduceLT, Int.reduceLE, Int.reduceEq, not_false_eq_true, not_true_eq_false, false_implies, true_implies, implies_true, Int.reduceDiv, Int.reduceMod, zr8_zr, zr_zbo, z01_zbo, z01_0, z01_1, zbo_eq0, zup_eq, zup_o, zup_k, ne_eq, ↓ct_x_tell_cfail, ↓r_cfail, ↓B_cfail, ↓ct_x_tell_radd, ↓r_radd, ↓B_radd, ↓v_0, ↓g_0_0, ↓g_0_1, ↓g_0_2, ↓g_0_3, ↓g_0_4, ↓g_0_5, ↓g_0_6, ↓g_0_7, ↓g_0_8, ↓l_78, ↓s_78, ↓n_78, ↓g_0_9, ↓p_0_9, ↓v_1, ↓g_1_0, ↓g_1_1, ↓g_1_2, ↓g_1_3, ↓g_1_4, ↓g_1_5, ↓g_1_6, ↓p_1_6, ↓v_24, ↓g_24_0, ↓l_25, ↓s_25, ↓n_25, ↓g_24_1, ↓p_24_1, e1, zl_0, zl_1]
    refine ⟨20, show rowb 24 20 from Or.inr (Or.inr (Or.inr (Or.inl ⟨rfl, rfl⟩))), by omega, by omega, fun q => J21 (by omega), fun q => J14 (by omega)⟩
def B_x_trace (k : Int) (M : Nat → Nat → Int) (post : Option ZV → (Nat → Nat → Int) → Prop) : Prop := rg k ∧ ∃ S : ZMm, Vs S ∧ Rc S M ∧ cp M (R_trace S k) post
def C_x_trace : ZC := fun as h post => match as with
  | [.inr (.inr (.inl 0)), .inl k] => h.1 = zG ∧ B_x_trace k h.2 (fun v M => post v (zG, M))
  | _ => False
theorem r_x_trace {k : Int} {M : Nat → Nat → Int} {post : Option ZV → ZH → Prop} : C_x_trace [.inr (.inr (.inl 0)), .inl k] (zG, M) post = B_x_trace k M (fun v M => post v (zG, M)) := by show (zG = zG ∧ _) = _; simp
def ct_x_trace : Nat → ZC := fun n => if n = 111 then C_cbey else if n = 110 then C_cfail else fun _ _ _ => False
theorem ct_x_trace_cbey {as : List ZV} {h : ZH} {post : Option ZV → ZH → Prop} : ct_x_trace 111 as h post = C_cbey as h post := rfl
theorem ct_x_trace_cfail {as : List ZV} {h : ZH} {post : Option ZV → ZH → Prop} : ct_x_trace 110 as h post = C_cfail as h post := rfl
theorem c_x_trace {E : ZE} {d : Nat} (hd : 2 ≤ d) : zMet E d mX10_trace C_x_trace := by
  refine zmet_of (o := 10) (ini := false) (CT := ct_x_trace) gd_X10_trace rfl (fun h => by cases h) (by omega) ?_ ?_
  · intro n as h post hh
    unfold ct_x_trace at hh
    by_cases c : n = 111
    · subst c; exact ⟨gd_X10_isBeyond, 1, by omega, c_cbey (by omega)⟩
    rw [if_neg c] at hh
    by_cases c : n = 110
    · subst c; exact ⟨gd_X10_failed, 1, by omega, c_cfail (by omega)⟩
    rw [if_neg c] at hh
    exact hh.elim
  intro as h post hC
  match as, hC with
  | [.inr (.inr (.inl 0)), .inl k], hC =>
    refine ⟨Nat.le_of_ble_eq_true rfl, fun X hX => bs_X10_trace_0 hX ?_⟩
    obtain ⟨G, M⟩ := h
    obtain ⟨hG, hC⟩ := hC
    dsimp only at hG
    subst hG
    simp only [B_x_trace] at hC
    show bk_X10_trace_0 E ct_x_trace X _ [some (.inr (.inr (.inl 0))), some (.inl k)] [] (zG, M) (0, 0)
    obtain ⟨h1, S, vs9, H, hC⟩ := hC
    have vd : Vd (S 88) := vs9.1
    have n9 := H.1
    have v5 := vs9.2.2.2.2.1
    have hv := H.2.2.2.2.1
    have e1 : M 75 1 = S 87 19 := hv.1
    have J19 : ¬ (0 ≤ k ∧ k < S 87 19) → X 19 [some (.inr (.inr (.inl 0))), some (.inl k)] [] (zG, M) (0, 0) := by
      intro q
      refine bs_X10_trace_19 hX ?_
      simp only [bk_X10_trace_0, k_X10_trace_0, bk_X10_trace_19, k_X10_trace_19, bk_X10_trace_26, k_X10_trace_26, ↓e_rk1, ↓e_rk0, ↓e_sk0, ↓e_sks, ↓e_ldi0, ↓e_ldis, ↓e_ldl0, ↓e_ldls, ↓e_lda0, ↓e_ldas, ↓e_ok0, ↓e_okss, ↓e_ok1i, ↓e_ok1r, ↓e_ok1n, ↓e_sti, ↓e_sta, ↓e_1, ↓e_2, ↓e_l1, ↓e_l2, ↓e_li, ↓e_sw0, ↓e_sws, ↓e_ceq, ↓e_cne, ↓e_clt, ↓e_cge, ↓e_cgt, ↓e_cle, ↓e_nil, ↓e_cons, ↓e_iconst, ↓e_bipush, ↓e_sipush, ↓e_ldc, ↓e_ldcw, ↓e_ldc2, ↓e_lconst, ↓e_iloadn, ↓e_iload, ↓e_lloadn, ↓e_lload, ↓e_aloadn, ↓e_aload, ↓e_istoren, ↓e_istore, ↓e_astoren, ↓e_astore, ↓e_add, ↓e_iinc, ↓e_iadd, ↓e_isub, ↓e_imul, ↓e_iand, ↓e_ior, ↓e_ixor, ↓e_ishl, ↓e_iushr, ↓e_idiv, ↓e_irem, ↓e_ineg, ↓e_i2l, ↓e_i2b, ↓e_i2s, ↓e_l2i, ↓e_land, ↓e_lor, ↓e_lshl, ↓e_lshr, ↓e_lushr, ↓e_lcmp, ↓e_dupi, ↓e_dupr, ↓e_popi, ↓e_dup2, ↓e_goto, ↓e_if, ↓e_icmp, ↓e_tsw, ↓e_lsw, ↓e_getf, ↓e_putf, ↓e_gets, ↓e_iald, ↓e_cald, ↓e_iast, ↓e_aald, ↓e_aast, ↓e_len, ↓e_copy, ↓e_abs, ↓e_max, ↓e_min, ↓e_iret, ↓e_aret, ↓e_vret, ↓e_is0, ↓e_is1, ↓e_is2, ↓e_is3, ↓e_is4, ↓e_iv1, ↓e_iv2, ↓e_iv3, ↓e_iv4, ↓e_iv5, ↓e_iv6, ↓rt_X10_trace, ↓reduceIte, Nat.reduceAdd, Nat.reduceEqDiff, ↓zcl0, ↓zclv, List.map_nil, List.sum_nil, List.map_cons, List.sum_cons, zcat, true_and, and_true, Nat.reduceLeDiff, Nat.reduceAdd, eq_self, forall_const, e_ok0, e_okss, e_ok1i, e_ok1r, e_ok1n, zl_m1000000002, zl_1, Int.reduceToNat, Int.reduceAdd, Int.reduceMul, Int.reduceSub, Int.reduceNeg, Int.reduceLT, Int.reduceLE, Int.reduceEq, not_false_eq_true, not_true_eq_false, false_implies, true_implies, implies_true, Int.reduceDiv, Int.reduceMod, zr8_zr, zr_zbo, z01_zbo, z01_0, z01_1, zbo_eq0, zup_eq, zup_o, zup_k, ne_eq, ↓ct_x_trace_cbey, ↓r_cbey, ↓B_cbey, ↓ct_x_trace_cfail, ↓r_cfail, ↓B_cfail, ↓v_0, ↓g_0_0, ↓g_0_1, ↓g_0_2, ↓g_0_3, ↓g_0_4, ↓g_0_5, ↓g_0_6, ↓g_0_7, ↓g_0_8, ↓l_78, ↓s_78, ↓n_78, ↓g_0_9, ↓p_0_9]
      exact ⟨2, by omega, by omega, cp_no hC H vd (by omega) (by unfold R_trace; rw [if_neg q]) rfl⟩
    have J26 : (0 ≤ k ∧ k < S 87 19) → X 26 [some (.inr (.inr (.inl 0))), some (.inl k)] [] (zG, M) (0, 0) := by
      intro q
      refine bs_X10_trace_26 hX ?_
      have zk : zr k = k := zr_rg h1
      simp only [bk_X10_trace_0, k_X10_trace_0, bk_X10_trace_19, k_X10_trace_19, bk_X10_trace_26, k_X10_trace_26, ↓e_rk1, ↓e_rk0, ↓e_sk0, ↓e_sks, ↓e_ldi0, ↓e_ldis, ↓e_ldl0, ↓e_ldls, ↓e_lda0, ↓e_ldas, ↓e_ok0, ↓e_okss, ↓e_ok1i, ↓e_ok1r, ↓e_ok1n, ↓e_sti, ↓e_sta, ↓e_1, ↓e_2, ↓e_l1, ↓e_l2, ↓e_li, ↓e_sw0, ↓e_sws, ↓e_ceq, ↓e_cne, ↓e_clt, ↓e_cge, ↓e_cgt, ↓e_cle, ↓e_nil, ↓e_cons, ↓e_iconst, ↓e_bipush, ↓e_sipush, ↓e_ldc, ↓e_ldcw, ↓e_ldc2, ↓e_lconst, ↓e_iloadn, ↓e_iload, ↓e_lloadn, ↓e_lload, ↓e_aloadn, ↓e_aload, ↓e_istoren, ↓e_istore, ↓e_astoren, ↓e_astore, ↓e_add, ↓e_iinc, ↓e_iadd, ↓e_isub, ↓e_imul, ↓e_iand, ↓e_ior, ↓e_ixor, ↓e_ishl, ↓e_iushr, ↓e_idiv, ↓e_irem, ↓e_ineg, ↓e_i2l, ↓e_i2b, ↓e_i2s, ↓e_l2i, ↓e_land, ↓e_lor, ↓e_lshl, ↓e_lshr, ↓e_lushr, ↓e_lcmp, ↓e_dupi, ↓e_dupr, ↓e_popi, ↓e_dup2, ↓e_goto, ↓e_if, ↓e_icmp, ↓e_tsw, ↓e_lsw, ↓e_getf, ↓e_putf, ↓e_gets, ↓e_iald, ↓e_cald, ↓e_iast, ↓e_aald, ↓e_aast, ↓e_len, ↓e_copy, ↓e_abs, ↓e_max, ↓e_min, ↓e_iret, ↓e_aret, ↓e_vret, ↓e_is0, ↓e_is1, ↓e_is2, ↓e_is3, ↓e_is4, ↓e_iv1, ↓e_iv2, ↓e_iv3, ↓e_iv4, ↓e_iv5, ↓e_iv6, ↓rt_X10_trace, ↓reduceIte, Nat.reduceAdd, Nat.reduceEqDiff, ↓zcl0, ↓zclv, List.map_nil, List.sum_nil, List.map_cons, List.sum_cons, zcat, true_and, and_true, Nat.reduceLeDiff, Nat.reduceAdd, eq_self, forall_const, e_ok0, e_okss, e_ok1i, e_ok1r, e_ok1n, zl_m1000000002, zl_1, Int.reduceToNat, Int.reduceAdd, Int.reduceMul, Int.reduceSub, Int.reduceNeg, Int.reduceLT, Int.reduceLE, Int.reduceEq, not_false_eq_true, not_true_eq_false, false_implies, true_implies, implies_true, Int.reduceDiv, Int.reduceMod, zr8_zr, zr_zbo, z01_zbo, z01_0, z01_1, zbo_eq0, zup_eq, zup_o, zup_k, ne_eq, ↓ct_x_trace_cbey, ↓r_cbey, ↓B_cbey, ↓ct_x_trace_cfail, ↓r_cfail, ↓B_cfail, ↓v_0, ↓g_0_0, ↓g_0_1, ↓g_0_2, ↓g_0_3, ↓g_0_4, ↓g_0_5, ↓g_0_6, ↓g_0_7, ↓g_0_8, ↓l_78, ↓s_78, ↓n_78, ↓g_0_9, ↓p_0_9, ↓v_74, ↓g_74_0, ↓g_74_1, ↓p_74_1, ↓g_74_2, ↓p_74_2, ↓g_74_3, ↓p_74_3, ↓v_75, ↓g_75_0, ↓l_76, ↓s_76, ↓n_76, ↓g_75_1, ↓p_75_1, zk]
      refine ⟨by omega, by omega, ?_⟩
      rw [hv.2 k.toNat (by omega)]
      exact cp_id hC H (by unfold R_trace; rw [if_pos q])
    simp only [bk_X10_trace_0, k_X10_trace_0, bk_X10_trace_19, k_X10_trace_19, bk_X10_trace_26, k_X10_trace_26, ↓e_rk1, ↓e_rk0, ↓e_sk0, ↓e_sks, ↓e_ldi0, ↓e_ldis, ↓e_ldl0, ↓e_ldls, ↓e_lda0, ↓e_ldas, ↓e_ok0, ↓e_okss, ↓e_ok1i, ↓e_ok1r, ↓e_ok1n, ↓e_sti, ↓e_sta, ↓e_1, ↓e_2, ↓e_l1, ↓e_l2, ↓e_li, ↓e_sw0, ↓e_sws, ↓e_ceq, ↓e_cne, ↓e_clt, ↓e_cge, ↓e_cgt, ↓e_cle, ↓e_nil, ↓e_cons, ↓e_iconst, ↓e_bipush, ↓e_sipush, ↓e_ldc, ↓e_ldcw, ↓e_ldc2, ↓e_lconst, ↓e_iloadn, ↓e_iload, ↓e_lloadn, ↓e_lload, ↓e_aloadn, ↓e_aload, ↓e_istoren, ↓e_istore, ↓e_astoren, ↓e_astore, ↓e_add, ↓e_iinc, ↓e_iadd, ↓e_isub, ↓e_imul, ↓e_iand, ↓e_ior, ↓e_ixor, ↓e_ishl, ↓e_iushr, ↓e_idiv, ↓e_irem, ↓e_ineg, ↓e_i2l, ↓e_i2b, ↓e_i2s, ↓e_l2i, ↓e_land, ↓e_lor, ↓e_lshl, ↓e_lshr, ↓e_lushr, ↓e_lcmp, ↓e_dupi, ↓e_dupr, ↓e_popi, ↓e_dup2, ↓e_goto, ↓e_if, ↓e_icmp, ↓e_tsw, ↓e_lsw, ↓e_getf, ↓e_putf, ↓e_gets, ↓e_iald, ↓e_cald, ↓e_iast, ↓e_aald, ↓e_aast, ↓e_len, ↓e_copy, ↓e_abs, ↓e_max, ↓e_min, ↓e_iret, ↓e_aret, ↓e_vret, ↓e_is0, ↓e_is1, ↓e_is2, ↓e_is3, ↓e_is4, ↓e_iv1, ↓e_iv2, ↓e_iv3, ↓e_iv4, ↓e_iv5, ↓e_iv6, ↓rt_X10_trace, ↓reduceIte, Nat.reduceAdd, Nat.reduceEqDiff, ↓zcl0, ↓zclv, List.map_nil, List.sum_nil, List.map_cons, List.sum_cons, zcat, true_and, and_true, Nat.reduceLeDiff, Nat.reduceAdd, eq_self, forall_const, e_ok0, e_okss, e_ok1i, e_ok1r, e_ok1n, zl_m1000000002, zl_1, Int.reduceToNat, Int.reduceAdd, Int.reduceMul, Int.reduceSub, Int.reduceNeg, Int.reduceLT, Int.reduceLE, Int.reduceEq, not_false_eq_true, not_true_eq_false, false_implies, true_implies, implies_true, Int.reduceDiv, Int.reduceMod, zr8_zr, zr_zbo, z01_zbo, z01_0, z01_1, zbo_eq0, zup_eq, zup_o, zup_k, ne_eq, ↓ct_x_trace_cbey, ↓r_cbey, ↓B_cbey, ↓ct_x_trace_cfail, ↓r_cfail, ↓B_cfail, ↓v_0, ↓g_0_0, ↓g_0_1, ↓g_0_2, ↓g_0_3, ↓g_0_4, ↓g_0_5, ↓g_0_6, ↓g_0_7, ↓g_0_8, ↓l_78, ↓s_78, ↓n_78, ↓g_0_9, ↓p_0_9, ↓v_74, ↓g_74_0, ↓g_74_1, ↓p_74_1, ↓g_74_2, ↓p_74_2, ↓g_74_3, ↓p_74_3, ↓v_75, ↓g_75_0, ↓l_76, ↓s_76, ↓n_76, ↓g_75_1, ↓p_75_1, e1, zr_zbo, zbo_eq0]
    refine ⟨h1, ⟨by omega, by omega⟩, fun q => ?_, fun q => ?_⟩
    · first | exact J26 (by omega) | exact J19 (by omega)
    · first | exact J26 (by omega) | exact J19 (by omega)
def B_x_image (M : Nat → Nat → Int) (post : Option ZV → (Nat → Nat → Int) → Prop) : Prop := ∃ S : ZMm, Vs S ∧ Rc S M ∧ cp M (R_image S) post
def C_x_image : ZC := fun as h post => match as with
  | [.inr (.inr (.inl 0))] => h.1 = zG ∧ B_x_image h.2 (fun v M => post v (zG, M))
  | _ => False
theorem r_x_image {M : Nat → Nat → Int} {post : Option ZV → ZH → Prop} : C_x_image [.inr (.inr (.inl 0))] (zG, M) post = B_x_image M (fun v M => post v (zG, M)) := by show (zG = zG ∧ _) = _; simp
def ct_x_image : Nat → ZC := fun n => if n = 46 then C_scpk else fun _ _ _ => False
theorem ct_x_image_scpk {as : List ZV} {h : ZH} {post : Option ZV → ZH → Prop} : ct_x_image 46 as h post = C_scpk as h post := rfl
theorem c_x_image {E : ZE} {d : Nat} (hd : 3 ≤ d) : zMet E d mX10_image C_x_image := by
  refine zmet_of (o := 10) (ini := false) (CT := ct_x_image) gd_X10_image rfl (fun h => by cases h) (by omega) ?_ ?_
  · intro n as h post hh
    unfold ct_x_image at hh
    by_cases c : n = 46
    · subst c; exact ⟨gd_X6_copyFrom, 2, by omega, c_scpk (by omega)⟩
    rw [if_neg c] at hh
    exact hh.elim
  intro as h post hC
  match as, hC with
  | [.inr (.inr (.inl 0))], hC =>
    refine ⟨Nat.le_of_ble_eq_true rfl, fun X hX => bs_X10_image_0 hX ?_⟩
    obtain ⟨G, M⟩ := h
    obtain ⟨hG, hC⟩ := hC
    dsimp only at hG
    subst hG
    simp only [B_x_image] at hC
    show bk_X10_image_0 E ct_x_image X _ [some (.inr (.inr (.inl 0)))] [] (zG, M) (0, 0)
    obtain ⟨S, vs9, H, hC⟩ := hC
    have vd : Vd (S 88) := vs9.1
    have n9 := H.1
    have im := vs9.2.2.2.1
    have e9 : M 0 9 = S 87 3 := H.2.2.1
    simp only [bk_X10_image_0, k_X10_image_0, ↓e_rk1, ↓e_rk0, ↓e_sk0, ↓e_sks, ↓e_ldi0, ↓e_ldis, ↓e_ldl0, ↓e_ldls, ↓e_lda0, ↓e_ldas, ↓e_ok0, ↓e_okss, ↓e_ok1i, ↓e_ok1r, ↓e_ok1n, ↓e_sti, ↓e_sta, ↓e_1, ↓e_2, ↓e_l1, ↓e_l2, ↓e_li, ↓e_sw0, ↓e_sws, ↓e_ceq, ↓e_cne, ↓e_clt, ↓e_cge, ↓e_cgt, ↓e_cle, ↓e_nil, ↓e_cons, ↓e_iconst, ↓e_bipush, ↓e_sipush, ↓e_ldc, ↓e_ldcw, ↓e_ldc2, ↓e_lconst, ↓e_iloadn, ↓e_iload, ↓e_lloadn, ↓e_lload, ↓e_aloadn, ↓e_aload, ↓e_istoren, ↓e_istore, ↓e_astoren, ↓e_astore, ↓e_add, ↓e_iinc, ↓e_iadd, ↓e_isub, ↓e_imul, ↓e_iand, ↓e_ior, ↓e_ixor, ↓e_ishl, ↓e_iushr, ↓e_idiv, ↓e_irem, ↓e_ineg, ↓e_i2l, ↓e_i2b, ↓e_i2s, ↓e_l2i, ↓e_land, ↓e_lor, ↓e_lshl, ↓e_lshr, ↓e_lushr, ↓e_lcmp, ↓e_dupi, ↓e_dupr, ↓e_popi, ↓e_dup2, ↓e_goto, ↓e_if, ↓e_icmp, ↓e_tsw, ↓e_lsw, ↓e_getf, ↓e_putf, ↓e_gets, ↓e_iald, ↓e_cald, ↓e_iast, ↓e_aald, ↓e_aast, ↓e_len, ↓e_copy, ↓e_abs, ↓e_max, ↓e_min, ↓e_iret, ↓e_aret, ↓e_vret, ↓e_is0, ↓e_is1, ↓e_is2, ↓e_is3, ↓e_is4, ↓e_iv1, ↓e_iv2, ↓e_iv3, ↓e_iv4, ↓e_iv5, ↓e_iv6, ↓rt_X10_image, ↓reduceIte, Nat.reduceAdd, Nat.reduceEqDiff, ↓zcl0, ↓zclv, List.map_nil, List.sum_nil, List.map_cons, List.sum_cons, zcat, true_and, and_true, Nat.reduceLeDiff, Nat.reduceAdd, eq_self, forall_const, e_ok0, e_okss, e_ok1i, e_ok1r, e_ok1n, zl_1, Int.reduceToNat, Int.reduceAdd, Int.reduceMul, Int.reduceSub, Int.reduceNeg, Int.reduceLT, Int.reduceLE, Int.reduceEq, not_false_eq_true, not_true_eq_false, false_implies, true_implies, implies_true, Int.reduceDiv, Int.reduceMod, zr8_zr, zr_zbo, z01_zbo, z01_0, z01_1, zbo_eq0, zup_eq, zup_o, zup_k, ne_eq, ↓ct_x_image_scpk, ↓r_scpk, ↓B_scpk, ↓v_0, ↓g_0_0, ↓g_0_1, ↓g_0_2, ↓g_0_3, ↓g_0_4, ↓g_0_5, ↓g_0_6, ↓g_0_7, ↓g_0_8, ↓l_78, ↓s_78, ↓n_78, ↓g_0_9, ↓p_0_9, ↓v_1, ↓g_1_0, ↓g_1_1, ↓g_1_2, ↓g_1_3, ↓g_1_4, ↓g_1_5, ↓g_1_6, ↓p_1_6, ↓v_26, ↓g_26_0, ↓g_26_1, ↓g_26_2, ↓g_26_3, ↓g_26_4, ↓g_26_5, ↓g_26_6, ↓p_26_6]
    refine ⟨S 88, n9, vd, fun M1 k1 f1 => ?_⟩
    have e0 : M1 0 9 = S 87 3 := by rw [f1 0 (by omega)]; exact e9
    rw [e0]
    refine cp_mk hC (S' := (R_image S).2) rfl ?_ (fun x p => by rw [zup_ne _ (by omega), f1 x (by omega)])
    obtain ⟨_, kp, i, e, v, s⟩ := H
    have f2 : ∀ x, ¬ x = 0 → (x < 26 ∨ 50 < x) → zup M1 0 9 (S 87 3 + 1) x = M x := fun x p p2 => by rw [zup_ne _ p, f1 x p2]
    have g1 : ∀ x, ¬ x = 87 → ¬ x = 89 → (R_image S).2 x = S x := fun x p p2 => by
      unfold R_image
      dsimp only
      rw [zup_ne _ p, if_neg p2]
    refine ⟨?_, fun _ => ?_, ?_, fun j hj => ?_, ⟨?_, fun j hj => ?_⟩, fun j hj => ?_⟩
    · rw [g1 88 (by decide) (by decide)]
      exact SRn_cg n9 vd (fun x p _ _ => f2 x (by omega) (by omega))
    · have e89 : (R_image S).2 89 = fun k => if k < 358 then S 88 k else S 89 k := by
        unfold R_image
        dsimp only
        rw [zup_ne _ (by decide), if_pos rfl]
      rw [e89]
      refine SR_d (SRk_cg k1 (fun x p => by rw [zup_ne _ (by omega)])) vd (fun k hk => ?_)
      rw [if_pos hk]
    · unfold R_image
      dsimp only
      rw [zup_eq, zup_eq]
    · rw [f2 78 (by omega) (by omega), g1 91 (by decide) (by decide)]; exact e j hj
    · rw [f2 75 (by omega) (by omega)]
      exact v.1
    · rw [f2 76 (by omega) (by omega), g1 97 (by decide) (by decide)]; exact v.2 j hj
    · rw [f2 _ (by omega) (by omega), f2 _ (by omega) (by omega), g1 98 (by decide) (by decide), g1 99 (by decide) (by decide), g1 100 (by decide) (by decide)]; exact s j hj
def B_x_restore (M : Nat → Nat → Int) (post : Option ZV → (Nat → Nat → Int) → Prop) : Prop := ∃ S : ZMm, Vs S ∧ Rc S M ∧ cp M (R_restore S) post
def C_x_restore : ZC := fun as h post => match as with
  | [.inr (.inr (.inl 0))] => h.1 = zG ∧ B_x_restore h.2 (fun v M => post v (zG, M))
  | _ => False
theorem r_x_restore {M : Nat → Nat → Int} {post : Option ZV → ZH → Prop} : C_x_restore [.inr (.inr (.inl 0))] (zG, M) post = B_x_restore M (fun v M => post v (zG, M)) := by show (zG = zG ∧ _) = _; simp
def ct_x_restore : Nat → ZC := fun n => if n = 46 then C_scpn else if n = 110 then C_cfail else fun _ _ _ => False
theorem ct_x_restore_scpn {as : List ZV} {h : ZH} {post : Option ZV → ZH → Prop} : ct_x_restore 46 as h post = C_scpn as h post := rfl
theorem ct_x_restore_cfail {as : List ZV} {h : ZH} {post : Option ZV → ZH → Prop} : ct_x_restore 110 as h post = C_cfail as h post := rfl
theorem c_x_restore {E : ZE} {d : Nat} (hd : 3 ≤ d) : zMet E d mX10_restore C_x_restore := by
  refine zmet_of (o := 10) (ini := false) (CT := ct_x_restore) gd_X10_restore rfl (fun h => by cases h) (by omega) ?_ ?_
  · intro n as h post hh
    unfold ct_x_restore at hh
    by_cases c : n = 46
    · subst c; exact ⟨gd_X6_copyFrom, 2, by omega, c_scpn (by omega)⟩
    rw [if_neg c] at hh
    by_cases c : n = 110
    · subst c; exact ⟨gd_X10_failed, 1, by omega, c_cfail (by omega)⟩
    rw [if_neg c] at hh
    exact hh.elim
  intro as h post hC
  match as, hC with
  | [.inr (.inr (.inl 0))], hC =>
    refine ⟨Nat.le_of_ble_eq_true rfl, fun X hX => bs_X10_restore_0 hX ?_⟩
    obtain ⟨G, M⟩ := h
    obtain ⟨hG, hC⟩ := hC
    dsimp only at hG
    subst hG
    simp only [B_x_restore] at hC
    show bk_X10_restore_0 E ct_x_restore X _ [some (.inr (.inr (.inl 0)))] [] (zG, M) (0, 0)
    obtain ⟨S, vs9, H, hC⟩ := hC
    have vd : Vd (S 88) := vs9.1
    have n9 := H.1
    have im := vs9.2.2.2.1
    have e9 : M 0 9 = S 87 3 := H.2.2.1
    have z9 : zr (S 87 3) = S 87 3 := zr_of (by omega) (by omega)
    have J7 : S 87 3 = 0 → X 7 [some (.inr (.inr (.inl 0)))] [] (zG, M) (0, 0) := by
      intro q
      refine bs_X10_restore_7 hX ?_
      simp only [bk_X10_restore_0, k_X10_restore_0, bk_X10_restore_7, k_X10_restore_7, bk_X10_restore_14, k_X10_restore_14, ↓e_rk1, ↓e_rk0, ↓e_sk0, ↓e_sks, ↓e_ldi0, ↓e_ldis, ↓e_ldl0, ↓e_ldls, ↓e_lda0, ↓e_ldas, ↓e_ok0, ↓e_okss, ↓e_ok1i, ↓e_ok1r, ↓e_ok1n, ↓e_sti, ↓e_sta, ↓e_1, ↓e_2, ↓e_l1, ↓e_l2, ↓e_li, ↓e_sw0, ↓e_sws, ↓e_ceq, ↓e_cne, ↓e_clt, ↓e_cge, ↓e_cgt, ↓e_cle, ↓e_nil, ↓e_cons, ↓e_iconst, ↓e_bipush, ↓e_sipush, ↓e_ldc, ↓e_ldcw, ↓e_ldc2, ↓e_lconst, ↓e_iloadn, ↓e_iload, ↓e_lloadn, ↓e_lload, ↓e_aloadn, ↓e_aload, ↓e_istoren, ↓e_istore, ↓e_astoren, ↓e_astore, ↓e_add, ↓e_iinc, ↓e_iadd, ↓e_isub, ↓e_imul, ↓e_iand, ↓e_ior, ↓e_ixor, ↓e_ishl, ↓e_iushr, ↓e_idiv, ↓e_irem, ↓e_ineg, ↓e_i2l, ↓e_i2b, ↓e_i2s, ↓e_l2i, ↓e_land, ↓e_lor, ↓e_lshl, ↓e_lshr, ↓e_lushr, ↓e_lcmp, ↓e_dupi, ↓e_dupr, ↓e_popi, ↓e_dup2, ↓e_goto, ↓e_if, ↓e_icmp, ↓e_tsw, ↓e_lsw, ↓e_getf, ↓e_putf, ↓e_gets, ↓e_iald, ↓e_cald, ↓e_iast, ↓e_aald, ↓e_aast, ↓e_len, ↓e_copy, ↓e_abs, ↓e_max, ↓e_min, ↓e_iret, ↓e_aret, ↓e_vret, ↓e_is0, ↓e_is1, ↓e_is2, ↓e_is3, ↓e_is4, ↓e_iv1, ↓e_iv2, ↓e_iv3, ↓e_iv4, ↓e_iv5, ↓e_iv6, ↓rt_X10_restore, ↓reduceIte, Nat.reduceAdd, Nat.reduceEqDiff, ↓zcl0, ↓zclv, List.map_nil, List.sum_nil, List.map_cons, List.sum_cons, zcat, true_and, and_true, Nat.reduceLeDiff, Nat.reduceAdd, eq_self, forall_const, e_ok0, e_okss, e_ok1i, e_ok1r, e_ok1n, zl_m1000000002, Int.reduceToNat, Int.reduceAdd, Int.reduceMul, Int.reduceSub, Int.reduceNeg, Int.reduceLT, Int.reduceLE, Int.reduceEq, not_false_eq_true, not_true_eq_false, false_implies, true_implies, implies_true, Int.reduceDiv, Int.reduceMod, zr8_zr, zr_zbo, z01_zbo, z01_0, z01_1, zbo_eq0, zup_eq, zup_o, zup_k, ne_eq, ↓ct_x_restore_scpn, ↓r_scpn, ↓B_scpn, ↓ct_x_restore_cfail, ↓r_cfail, ↓B_cfail, ↓v_0, ↓g_0_0, ↓g_0_1, ↓g_0_2, ↓g_0_3, ↓g_0_4, ↓g_0_5, ↓g_0_6, ↓g_0_7, ↓g_0_8, ↓l_78, ↓s_78, ↓n_78, ↓g_0_9, ↓p_0_9]
      exact ⟨2, by omega, by omega, cp_no hC H vd (by omega) (by unfold R_restore; rw [if_pos q]) rfl⟩
    have J14 : ¬ S 87 3 = 0 → X 14 [some (.inr (.inr (.inl 0)))] [] (zG, M) (0, 0) := by
      intro q
      have vk := (vs9.2.2.1 q).1
      refine bs_X10_restore_14 hX ?_
      simp only [bk_X10_restore_0, k_X10_restore_0, bk_X10_restore_7, k_X10_restore_7, bk_X10_restore_14, k_X10_restore_14, ↓e_rk1, ↓e_rk0, ↓e_sk0, ↓e_sks, ↓e_ldi0, ↓e_ldis, ↓e_ldl0, ↓e_ldls, ↓e_lda0, ↓e_ldas, ↓e_ok0, ↓e_okss, ↓e_ok1i, ↓e_ok1r, ↓e_ok1n, ↓e_sti, ↓e_sta, ↓e_1, ↓e_2, ↓e_l1, ↓e_l2, ↓e_li, ↓e_sw0, ↓e_sws, ↓e_ceq, ↓e_cne, ↓e_clt, ↓e_cge, ↓e_cgt, ↓e_cle, ↓e_nil, ↓e_cons, ↓e_iconst, ↓e_bipush, ↓e_sipush, ↓e_ldc, ↓e_ldcw, ↓e_ldc2, ↓e_lconst, ↓e_iloadn, ↓e_iload, ↓e_lloadn, ↓e_lload, ↓e_aloadn, ↓e_aload, ↓e_istoren, ↓e_istore, ↓e_astoren, ↓e_astore, ↓e_add, ↓e_iinc, ↓e_iadd, ↓e_isub, ↓e_imul, ↓e_iand, ↓e_ior, ↓e_ixor, ↓e_ishl, ↓e_iushr, ↓e_idiv, ↓e_irem, ↓e_ineg, ↓e_i2l, ↓e_i2b, ↓e_i2s, ↓e_l2i, ↓e_land, ↓e_lor, ↓e_lshl, ↓e_lshr, ↓e_lushr, ↓e_lcmp, ↓e_dupi, ↓e_dupr, ↓e_popi, ↓e_dup2, ↓e_goto, ↓e_if, ↓e_icmp, ↓e_tsw, ↓e_lsw, ↓e_getf, ↓e_putf, ↓e_gets, ↓e_iald, ↓e_cald, ↓e_iast, ↓e_aald, ↓e_aast, ↓e_len, ↓e_copy, ↓e_abs, ↓e_max, ↓e_min, ↓e_iret, ↓e_aret, ↓e_vret, ↓e_is0, ↓e_is1, ↓e_is2, ↓e_is3, ↓e_is4, ↓e_iv1, ↓e_iv2, ↓e_iv3, ↓e_iv4, ↓e_iv5, ↓e_iv6, ↓rt_X10_restore, ↓reduceIte, Nat.reduceAdd, Nat.reduceEqDiff, ↓zcl0, ↓zclv, List.map_nil, List.sum_nil, List.map_cons, List.sum_cons, zcat, true_and, and_true, Nat.reduceLeDiff, Nat.reduceAdd, eq_self, forall_const, e_ok0, e_okss, e_ok1i, e_ok1r, e_ok1n, zl_m1000000002, Int.reduceToNat, Int.reduceAdd, Int.reduceMul, Int.reduceSub, Int.reduceNeg, Int.reduceLT, Int.reduceLE, Int.reduceEq, not_false_eq_true, not_true_eq_false, false_implies, true_implies, implies_true, Int.reduceDiv, Int.reduceMod, zr8_zr, zr_zbo, z01_zbo, z01_0, z01_1, zbo_eq0, zup_eq, zup_o, zup_k, ne_eq, ↓ct_x_restore_scpn, ↓r_scpn, ↓B_scpn, ↓ct_x_restore_cfail, ↓r_cfail, ↓B_cfail, ↓v_0, ↓g_0_0, ↓g_0_1, ↓g_0_2, ↓g_0_3, ↓g_0_4, ↓g_0_5, ↓g_0_6, ↓g_0_7, ↓g_0_8, ↓l_78, ↓s_78, ↓n_78, ↓g_0_9, ↓p_0_9, ↓v_1, ↓g_1_0, ↓g_1_1, ↓g_1_2, ↓g_1_3, ↓g_1_4, ↓g_1_5, ↓g_1_6, ↓p_1_6, ↓v_2, ↓g_2_0, ↓l_3, ↓s_3, ↓n_3, ↓g_2_1, ↓l_4, ↓s_4, ↓n_4, ↓g_2_2, ↓l_5, ↓s_5, ↓n_5, ↓g_2_3, ↓l_6, ↓s_6, ↓n_6, ↓g_2_4, ↓l_7, ↓s_7, ↓n_7, ↓g_2_5, ↓l_8, ↓s_8, ↓n_8, ↓g_2_6, ↓l_9, ↓s_9, ↓n_9, ↓g_2_7, ↓p_2_7, ↓g_2_8, ↓p_2_8, ↓g_2_9, ↓p_2_9, ↓v_26, ↓g_26_0, ↓g_26_1, ↓g_26_2, ↓g_26_3, ↓g_26_4, ↓g_26_5, ↓g_26_6, ↓p_26_6]
      refine ⟨S 89, H.2.1 q, vk, fun M1 k1 f1 => ?_⟩
      have ey : M1 2 9 = S 89 1 := k1.1.2.2.2.2.2.1
      rw [ey]
      refine cp_now hC H (f := fun k => if k < 358 then S 89 k else S 88 k) (by unfold R_restore; rw [if_neg q]) ?_ (fun x p => f1 x (by omega))
      exact SR_d k1 vk (fun k hk => by rw [if_pos hk])
    simp only [bk_X10_restore_0, k_X10_restore_0, bk_X10_restore_7, k_X10_restore_7, bk_X10_restore_14, k_X10_restore_14, ↓e_rk1, ↓e_rk0, ↓e_sk0, ↓e_sks, ↓e_ldi0, ↓e_ldis, ↓e_ldl0, ↓e_ldls, ↓e_lda0, ↓e_ldas, ↓e_ok0, ↓e_okss, ↓e_ok1i, ↓e_ok1r, ↓e_ok1n, ↓e_sti, ↓e_sta, ↓e_1, ↓e_2, ↓e_l1, ↓e_l2, ↓e_li, ↓e_sw0, ↓e_sws, ↓e_ceq, ↓e_cne, ↓e_clt, ↓e_cge, ↓e_cgt, ↓e_cle, ↓e_nil, ↓e_cons, ↓e_iconst, ↓e_bipush, ↓e_sipush, ↓e_ldc, ↓e_ldcw, ↓e_ldc2, ↓e_lconst, ↓e_iloadn, ↓e_iload, ↓e_lloadn, ↓e_lload, ↓e_aloadn, ↓e_aload, ↓e_istoren, ↓e_istore, ↓e_astoren, ↓e_astore, ↓e_add, ↓e_iinc, ↓e_iadd, ↓e_isub, ↓e_imul, ↓e_iand, ↓e_ior, ↓e_ixor, ↓e_ishl, ↓e_iushr, ↓e_idiv, ↓e_irem, ↓e_ineg, ↓e_i2l, ↓e_i2b, ↓e_i2s, ↓e_l2i, ↓e_land, ↓e_lor, ↓e_lshl, ↓e_lshr, ↓e_lushr, ↓e_lcmp, ↓e_dupi, ↓e_dupr, ↓e_popi, ↓e_dup2, ↓e_goto, ↓e_if, ↓e_icmp, ↓e_tsw, ↓e_lsw, ↓e_getf, ↓e_putf, ↓e_gets, ↓e_iald, ↓e_cald, ↓e_iast, ↓e_aald, ↓e_aast, ↓e_len, ↓e_copy, ↓e_abs, ↓e_max, ↓e_min, ↓e_iret, ↓e_aret, ↓e_vret, ↓e_is0, ↓e_is1, ↓e_is2, ↓e_is3, ↓e_is4, ↓e_iv1, ↓e_iv2, ↓e_iv3, ↓e_iv4, ↓e_iv5, ↓e_iv6, ↓rt_X10_restore, ↓reduceIte, Nat.reduceAdd, Nat.reduceEqDiff, ↓zcl0, ↓zclv, List.map_nil, List.sum_nil, List.map_cons, List.sum_cons, zcat, true_and, and_true, Nat.reduceLeDiff, Nat.reduceAdd, eq_self, forall_const, e_ok0, e_okss, e_ok1i, e_ok1r, e_ok1n, zl_m1000000002, Int.reduceToNat, Int.reduceAdd, Int.reduceMul, Int.reduceSub, Int.reduceNeg, Int.reduceLT, Int.reduceLE, Int.reduceEq, not_false_eq_true, not_true_eq_false, false_implies, true_implies, implies_true, Int.reduceDiv, Int.reduceMod, zr8_zr, zr_zbo, z01_zbo, z01_0, z01_1, zbo_eq0, zup_eq, zup_o, zup_k, ne_eq, ↓ct_x_restore_scpn, ↓r_scpn, ↓B_scpn, ↓ct_x_restore_cfail, ↓r_cfail, ↓B_cfail, ↓v_0, ↓g_0_0, ↓g_0_1, ↓g_0_2, ↓g_0_3, ↓g_0_4, ↓g_0_5, ↓g_0_6, ↓g_0_7, ↓g_0_8, ↓l_78, ↓s_78, ↓n_78, ↓g_0_9, ↓p_0_9, e9, z9]
    repeat' (first | assumption | apply And.intro | intro _)
    all_goals first | (apply J7; assumption) | (apply J14; assumption)
def B_csum (a : Nat) (n : Int) (M : Nat → Nat → Int) (post : Option ZV → (Nat → Nat → Int) → Prop) : Prop := ∃ L : Nat, zG[a]? = some (.inr (.inl L)) ∧ L ≤ 1000 ∧ (0 ≤ n ∧ n ≤ L) ∧ post (some (.inl (sm (M a) n.toNat))) M
def C_csum : ZC := fun as h post => match as with
  | [.inr (.inr (.inl a)), .inl n] => h.1 = zG ∧ B_csum a n h.2 (fun v M => post v (zG, M))
  | _ => False
theorem r_csum {a : Nat} {n : Int} {M : Nat → Nat → Int} {post : Option ZV → ZH → Prop} : C_csum [.inr (.inr (.inl a)), .inl n] (zG, M) post = B_csum a n M (fun v M => post v (zG, M)) := by show (zG = zG ∧ _) = _; simp
def ct_csum : Nat → ZC := fun n => fun _ _ _ => False
theorem c_csum {E : ZE} {d : Nat} (hd : 1 ≤ d) : zMet E d mX10_sumOf C_csum := by
  refine zmet_of (o := 10) (ini := false) (CT := ct_csum) gd_X10_sumOf rfl (fun h => by cases h) (by omega) ?_ ?_
  · intro n as h post hh
    unfold ct_csum at hh
    exact hh.elim
  intro as h post hC
  match as, hC with
  | [.inr (.inr (.inl a)), .inl n], hC =>
    refine ⟨Nat.le_of_ble_eq_true rfl, fun X hX => bs_X10_sumOf_0 hX ?_⟩
    obtain ⟨G, M⟩ := h
    obtain ⟨hG, hC⟩ := hC
    dsimp only at hG
    subst hG
    simp only [B_csum] at hC
    show bk_X10_sumOf_0 E ct_csum X _ [some (.inr (.inr (.inl a))), some (.inl n), none, none] [] (zG, M) (0, 0)
    obtain ⟨L, ha, hL, hn, hC⟩ := hC
    have zn : zr n = n := zr_of (by omega) (by omega)
    have zL : zr (L : Int) = L := zr_of (by omega) (by omega)
    have lp : ∀ (j k : Nat), j + k = n.toNat → X 4 [some (.inr (.inr (.inl a))), some (.inl n), some (.inl (sm (M a) k)), some (.inl ((k : Int)))] [] (zG, M) (0, 0) := by
      intro j
      induction j with
      | zero =>
        intro k hk
        refine bs_X10_sumOf_4 hX ?_
        have zk : zr (k : Int) = k := zr_of (by omega) (by omega)
        have lk : ((k : Int) < n) = False := eq_false (by omega)
        simp only [bk_X10_sumOf_0, k_X10_sumOf_0, bk_X10_sumOf_4, k_X10_sumOf_4, bk_X10_sumOf_27, k_X10_sumOf_27, ↓e_rk1, ↓e_rk0, ↓e_sk0, ↓e_sks, ↓e_ldi0, ↓e_ldis, ↓e_ldl0, ↓e_ldls, ↓e_lda0, ↓e_ldas, ↓e_ok0, ↓e_okss, ↓e_ok1i, ↓e_ok1r, ↓e_ok1n, ↓e_sti, ↓e_sta, ↓e_1, ↓e_2, ↓e_l1, ↓e_l2, ↓e_li, ↓e_sw0, ↓e_sws, ↓e_ceq, ↓e_cne, ↓e_clt, ↓e_cge, ↓e_cgt, ↓e_cle, ↓e_nil, ↓e_cons, ↓e_iconst, ↓e_bipush, ↓e_sipush, ↓e_ldc, ↓e_ldcw, ↓e_ldc2, ↓e_lconst, ↓e_iloadn, ↓e_iload, ↓e_lloadn, ↓e_lload, ↓e_aloadn, ↓e_aload, ↓e_istoren, ↓e_istore, ↓e_astoren, ↓e_astore, ↓e_add, ↓e_iinc, ↓e_iadd, ↓e_isub, ↓e_imul, ↓e_iand, ↓e_ior, ↓e_ixor, ↓e_ishl, ↓e_iushr, ↓e_idiv, ↓e_irem, ↓e_ineg, ↓e_i2l, ↓e_i2b, ↓e_i2s, ↓e_l2i, ↓e_land, ↓e_lor, ↓e_lshl, ↓e_lshr, ↓e_lushr, ↓e_lcmp, ↓e_dupi, ↓e_dupr, ↓e_popi, ↓e_dup2, ↓e_goto, ↓e_if, ↓e_icmp, ↓e_tsw, ↓e_lsw, ↓e_getf, ↓e_putf, ↓e_gets, ↓e_iald, ↓e_cald, ↓e_iast, ↓e_aald, ↓e_aast, ↓e_len, ↓e_copy, ↓e_abs, ↓e_max, ↓e_min, ↓e_iret, ↓e_aret, ↓e_vret, ↓e_is0, ↓e_is1, ↓e_is2, ↓e_is3, ↓e_is4, ↓e_iv1, ↓e_iv2, ↓e_iv3, ↓e_iv4, ↓e_iv5, ↓e_iv6, ↓rt_X10_sumOf, ↓reduceIte, Nat.reduceAdd, Nat.reduceEqDiff, ↓zcl0, ↓zclv, List.map_nil, List.sum_nil, List.map_cons, List.sum_cons, zcat, true_and, and_true, Nat.reduceLeDiff, Nat.reduceAdd, eq_self, forall_const, e_ok0, e_okss, e_ok1i, e_ok1r, e_ok1n, zl_0, Int.reduceToNat, Int.reduceAdd, Int.reduceMul, Int.reduceSub, Int.reduceNeg, Int.reduceLT, Int.reduceLE, Int.reduceEq, not_false_eq_true, not_true_eq_false, false_implies, true_implies, implies_true, Int.reduceDiv, Int.reduceMod, zr8_zr, zr_zbo, z01_zbo, z01_0, z01_1, zbo_eq0, zup_eq, zup_o, zup_k, ne_eq, ↓nA_of ha, ↓lA_of ha, zk, zn, lk]
        rw [show k = n.toNat by omega]
        exact hC
      | succ j ih =>
        intro k hk
        refine bs_X10_sumOf_4 hX ?_
        have zk : zr (k : Int) = k := zr_of (by omega) (by omega)
        have lk : ((k : Int) < n) = True := eq_true (by omega)
        have lL : ((k : Int) < L) = True := eq_true (by omega)
        simp only [bk_X10_sumOf_0, k_X10_sumOf_0, bk_X10_sumOf_4, k_X10_sumOf_4, bk_X10_sumOf_27, k_X10_sumOf_27, ↓e_rk1, ↓e_rk0, ↓e_sk0, ↓e_sks, ↓e_ldi0, ↓e_ldis, ↓e_ldl0, ↓e_ldls, ↓e_lda0, ↓e_ldas, ↓e_ok0, ↓e_okss, ↓e_ok1i, ↓e_ok1r, ↓e_ok1n, ↓e_sti, ↓e_sta, ↓e_1, ↓e_2, ↓e_l1, ↓e_l2, ↓e_li, ↓e_sw0, ↓e_sws, ↓e_ceq, ↓e_cne, ↓e_clt, ↓e_cge, ↓e_cgt, ↓e_cle, ↓e_nil, ↓e_cons, ↓e_iconst, ↓e_bipush, ↓e_sipush, ↓e_ldc, ↓e_ldcw, ↓e_ldc2, ↓e_lconst, ↓e_iloadn, ↓e_iload, ↓e_lloadn, ↓e_lload, ↓e_aloadn, ↓e_aload, ↓e_istoren, ↓e_istore, ↓e_astoren, ↓e_astore, ↓e_add, ↓e_iinc, ↓e_iadd, ↓e_isub, ↓e_imul, ↓e_iand, ↓e_ior, ↓e_ixor, ↓e_ishl, ↓e_iushr, ↓e_idiv, ↓e_irem, ↓e_ineg, ↓e_i2l, ↓e_i2b, ↓e_i2s, ↓e_l2i, ↓e_land, ↓e_lor, ↓e_lshl, ↓e_lshr, ↓e_lushr, ↓e_lcmp, ↓e_dupi, ↓e_dupr, ↓e_popi, ↓e_dup2, ↓e_goto, ↓e_if, ↓e_icmp, ↓e_tsw, ↓e_lsw, ↓e_getf, ↓e_putf, ↓e_gets, ↓e_iald, ↓e_cald, ↓e_iast, ↓e_aald, ↓e_aast, ↓e_len, ↓e_copy, ↓e_abs, ↓e_max, ↓e_min, ↓e_iret, ↓e_aret, ↓e_vret, ↓e_is0, ↓e_is1, ↓e_is2, ↓e_is3, ↓e_is4, ↓e_iv1, ↓e_iv2, ↓e_iv3, ↓e_iv4, ↓e_iv5, ↓e_iv6, ↓rt_X10_sumOf, ↓reduceIte, Nat.reduceAdd, Nat.reduceEqDiff, ↓zcl0, ↓zclv, List.map_nil, List.sum_nil, List.map_cons, List.sum_cons, zcat, true_and, and_true, Nat.reduceLeDiff, Nat.reduceAdd, eq_self, forall_const, e_ok0, e_okss, e_ok1i, e_ok1r, e_ok1n, zl_0, Int.reduceToNat, Int.reduceAdd, Int.reduceMul, Int.reduceSub, Int.reduceNeg, Int.reduceLT, Int.reduceLE, Int.reduceEq, not_false_eq_true, not_true_eq_false, false_implies, true_implies, implies_true, Int.reduceDiv, Int.reduceMod, zr8_zr, zr_zbo, z01_zbo, z01_0, z01_1, zbo_eq0, zup_eq, zup_o, zup_k, ne_eq, ↓nA_of ha, ↓lA_of ha, zk, zn, lk, zL, lL, Int.toNat_natCast]
        repeat (refine And.intro (by omega) ?_)
        exact ih (k + 1) (by omega)
    simp only [bk_X10_sumOf_0, k_X10_sumOf_0, bk_X10_sumOf_4, k_X10_sumOf_4, bk_X10_sumOf_27, k_X10_sumOf_27, ↓e_rk1, ↓e_rk0, ↓e_sk0, ↓e_sks, ↓e_ldi0, ↓e_ldis, ↓e_ldl0, ↓e_ldls, ↓e_lda0, ↓e_ldas, ↓e_ok0, ↓e_okss, ↓e_ok1i, ↓e_ok1r, ↓e_ok1n, ↓e_sti, ↓e_sta, ↓e_1, ↓e_2, ↓e_l1, ↓e_l2, ↓e_li, ↓e_sw0, ↓e_sws, ↓e_ceq, ↓e_cne, ↓e_clt, ↓e_cge, ↓e_cgt, ↓e_cle, ↓e_nil, ↓e_cons, ↓e_iconst, ↓e_bipush, ↓e_sipush, ↓e_ldc, ↓e_ldcw, ↓e_ldc2, ↓e_lconst, ↓e_iloadn, ↓e_iload, ↓e_lloadn, ↓e_lload, ↓e_aloadn, ↓e_aload, ↓e_istoren, ↓e_istore, ↓e_astoren, ↓e_astore, ↓e_add, ↓e_iinc, ↓e_iadd, ↓e_isub, ↓e_imul, ↓e_iand, ↓e_ior, ↓e_ixor, ↓e_ishl, ↓e_iushr, ↓e_idiv, ↓e_irem, ↓e_ineg, ↓e_i2l, ↓e_i2b, ↓e_i2s, ↓e_l2i, ↓e_land, ↓e_lor, ↓e_lshl, ↓e_lshr, ↓e_lushr, ↓e_lcmp, ↓e_dupi, ↓e_dupr, ↓e_popi, ↓e_dup2, ↓e_goto, ↓e_if, ↓e_icmp, ↓e_tsw, ↓e_lsw, ↓e_getf, ↓e_putf, ↓e_gets, ↓e_iald, ↓e_cald, ↓e_iast, ↓e_aald, ↓e_aast, ↓e_len, ↓e_copy, ↓e_abs, ↓e_max, ↓e_min, ↓e_iret, ↓e_aret, ↓e_vret, ↓e_is0, ↓e_is1, ↓e_is2, ↓e_is3, ↓e_is4, ↓e_iv1, ↓e_iv2, ↓e_iv3, ↓e_iv4, ↓e_iv5, ↓e_iv6, ↓rt_X10_sumOf, ↓reduceIte, Nat.reduceAdd, Nat.reduceEqDiff, ↓zcl0, ↓zclv, List.map_nil, List.sum_nil, List.map_cons, List.sum_cons, zcat, true_and, and_true, Nat.reduceLeDiff, Nat.reduceAdd, eq_self, forall_const, e_ok0, e_okss, e_ok1i, e_ok1r, e_ok1n, zl_0, Int.reduceToNat, Int.reduceAdd, Int.reduceMul, Int.reduceSub, Int.reduceNeg, Int.reduceLT, Int.reduceLE, Int.reduceEq, not_false_eq_true, not_true_eq_false, false_implies, true_implies, implies_true, Int.reduceDiv, Int.reduceMod, zr8_zr, zr_zbo, z01_zbo, z01_0, z01_1, zbo_eq0, zup_eq, zup_o, zup_k, ne_eq, ↓nA_of ha]
    exact lp n.toNat 0 (by omega)
theorem sm_smo {f d : Nat → Int} {a b : Int} : ∀ n : Nat, (∀ k : Nat, k < n → f k = d (a + b * k).toNat) → sm f n = smo d a b n
  | 0, _ => rfl
  | n + 1, h => by
    have := sm_smo (f := f) (d := d) (a := a) (b := b) n (fun k hk => h k (by omega))
    simp only [sm, smo]
    rw [this, h n (by omega)]
def B_x_count (w : Int) (M : Nat → Nat → Int) (post : Option ZV → (Nat → Nat → Int) → Prop) : Prop := rg w ∧ ∃ S : ZMm, Vs S ∧ Rc S M ∧ cp M (R_count S w) post
def C_x_count : ZC := fun as h post => match as with
  | [.inr (.inr (.inl 0)), .inl w] => h.1 = zG ∧ B_x_count w h.2 (fun v M => post v (zG, M))
  | _ => False
theorem r_x_count {w : Int} {M : Nat → Nat → Int} {post : Option ZV → ZH → Prop} : C_x_count [.inr (.inr (.inl 0)), .inl w] (zG, M) post = B_x_count w M (fun v M => post v (zG, M)) := by show (zG = zG ∧ _) = _; simp
def ct_x_count : Nat → ZC := fun n => if n = 110 then C_cfail else if n = 18 then C_hgap else if n = 117 then C_csum else fun _ _ _ => False
theorem ct_x_count_cfail {as : List ZV} {h : ZH} {post : Option ZV → ZH → Prop} : ct_x_count 110 as h post = C_cfail as h post := rfl
theorem ct_x_count_hgap {as : List ZV} {h : ZH} {post : Option ZV → ZH → Prop} : ct_x_count 18 as h post = C_hgap as h post := rfl
theorem ct_x_count_csum {as : List ZV} {h : ZH} {post : Option ZV → ZH → Prop} : ct_x_count 117 as h post = C_csum as h post := rfl
theorem c_x_count {E : ZE} {d : Nat} (hd : 3 ≤ d) : zMet E d mX10_count C_x_count := by
  refine zmet_of (o := 10) (ini := false) (CT := ct_x_count) gd_X10_count rfl (fun h => by cases h) (by omega) ?_ ?_
  · intro n as h post hh
    unfold ct_x_count at hh
    by_cases c : n = 110
    · subst c; exact ⟨gd_X10_failed, 1, by omega, c_cfail (by omega)⟩
    rw [if_neg c] at hh
    by_cases c : n = 18
    · subst c; exact ⟨gd_X2_gap, 2, by omega, c_hgap (by omega)⟩
    rw [if_neg c] at hh
    by_cases c : n = 117
    · subst c; exact ⟨gd_X10_sumOf, 1, by omega, c_csum (by omega)⟩
    rw [if_neg c] at hh
    exact hh.elim
  intro as h post hC
  match as, hC with
  | [.inr (.inr (.inl 0)), .inl w], hC =>
    refine ⟨Nat.le_of_ble_eq_true rfl, fun X hX => bs_X10_count_0 hX ?_⟩
    obtain ⟨G, M⟩ := h
    obtain ⟨hG, hC⟩ := hC
    dsimp only at hG
    subst hG
    simp only [B_x_count] at hC
    show bk_X10_count_0 E ct_x_count X _ [some (.inr (.inr (.inl 0))), some (.inl w)] [] (zG, M) (0, 0)
    obtain ⟨h1, S, vs9, H, hC⟩ := hC
    have vd : Vd (S 88) := vs9.1
    have n9 := H.1
    have v0 := vd.1
    have e0 : M 10 3 = S 88 0 := n9.2.1.1
    have e1 : M 2 9 = S 88 1 := n9.1.2.2.2.2.2.1
    have e2 : M 2 8 = S 88 2 := n9.1.2.2.2.2.1
    have e3 : M 1 6 = S 88 3 := n9.2.2.2.2.2.2
    have e4 : M 22 1 = S 88 4 := n9.2.2.2.2.1.1
    have e5 : M 24 1 = S 88 5 := n9.2.2.2.2.2.1.1
    have e9 : M 75 1 = S 87 19 := H.2.2.2.2.1.1
    simp only [bk_X10_count_0, k_X10_count_0, bk_X10_count_60, k_X10_count_60, bk_X10_count_71, k_X10_count_71, bk_X10_count_82, k_X10_count_82, bk_X10_count_93, k_X10_count_93, bk_X10_count_104, k_X10_count_104, bk_X10_count_120, k_X10_count_120, bk_X10_count_136, k_X10_count_136, bk_X10_count_160, k_X10_count_160, bk_X10_count_171, k_X10_count_171, bk_X10_count_182, k_X10_count_182, bk_X10_count_193, k_X10_count_193, bk_X10_count_201, k_X10_count_201, ↓e_rk1, ↓e_rk0, ↓e_sk0, ↓e_sks, ↓e_ldi0, ↓e_ldis, ↓e_ldl0, ↓e_ldls, ↓e_lda0, ↓e_ldas, ↓e_ok0, ↓e_okss, ↓e_ok1i, ↓e_ok1r, ↓e_ok1n, ↓e_sti, ↓e_sta, ↓e_1, ↓e_2, ↓e_l1, ↓e_l2, ↓e_li, ↓e_sw0, ↓e_sws, ↓e_ceq, ↓e_cne, ↓e_clt, ↓e_cge, ↓e_cgt, ↓e_cle, ↓e_nil, ↓e_cons, ↓e_iconst, ↓e_bipush, ↓e_sipush, ↓e_ldc, ↓e_ldcw, ↓e_ldc2, ↓e_lconst, ↓e_iloadn, ↓e_iload, ↓e_lloadn, ↓e_lload, ↓e_aloadn, ↓e_aload, ↓e_istoren, ↓e_istore, ↓e_astoren, ↓e_astore, ↓e_add, ↓e_iinc, ↓e_iadd, ↓e_isub, ↓e_imul, ↓e_iand, ↓e_ior, ↓e_ixor, ↓e_ishl, ↓e_iushr, ↓e_idiv, ↓e_irem, ↓e_ineg, ↓e_i2l, ↓e_i2b, ↓e_i2s, ↓e_l2i, ↓e_land, ↓e_lor, ↓e_lshl, ↓e_lshr, ↓e_lushr, ↓e_lcmp, ↓e_dupi, ↓e_dupr, ↓e_popi, ↓e_dup2, ↓e_goto, ↓e_if, ↓e_icmp, ↓e_tsw, ↓e_lsw, ↓e_getf, ↓e_putf, ↓e_gets, ↓e_iald, ↓e_cald, ↓e_iast, ↓e_aald, ↓e_aast, ↓e_len, ↓e_copy, ↓e_abs, ↓e_max, ↓e_min, ↓e_iret, ↓e_aret, ↓e_vret, ↓e_is0, ↓e_is1, ↓e_is2, ↓e_is3, ↓e_is4, ↓e_iv1, ↓e_iv2, ↓e_iv3, ↓e_iv4, ↓e_iv5, ↓e_iv6, ↓rt_X10_count, ↓reduceIte, Nat.reduceAdd, Nat.reduceEqDiff, ↓zcl0, ↓zclv, List.map_nil, List.sum_nil, List.map_cons, List.sum_cons, zcat, true_and, and_true, Nat.reduceLeDiff, Nat.reduceAdd, eq_self, forall_const, e_ok0, e_okss, e_ok1i, e_ok1r, e_ok1n, zl_m1000000001, zl_64, Int.reduceToNat, Int.reduceAdd, Int.reduceMul, Int.reduceSub, Int.reduceNeg, Int.reduceLT, Int.reduceLE, Int.reduceEq, not_false_eq_true, not_true_eq_false, false_implies, true_implies, implies_true, Int.reduceDiv, Int.reduceMod, zr8_zr, zr_zbo, z01_zbo, z01_0, z01_1, zbo_eq0, zup_eq, zup_o, zup_k, ne_eq, ↓ct_x_count_cfail, ↓r_cfail, ↓B_cfail, ↓ct_x_count_hgap, ↓r_hgap, ↓B_hgap, ↓ct_x_count_csum, ↓r_csum, ↓B_csum, zr_rg, h1]
    refine ⟨fun c => ?_, fun c0 => ⟨fun c => ?_, fun c1 => ⟨fun c => ?_, fun c2 => ⟨fun c => ?_, fun c3 => ⟨fun c => ?_, fun c4 => ⟨fun c => ?_, fun c5 => ⟨fun c => ?_, fun c6 => ⟨fun c => ?_, fun c7 => ⟨fun c => ?_, fun c8 => ⟨fun c => ?_, fun c9 => ⟨fun c => ?_, fun c10 => ?_⟩⟩⟩⟩⟩⟩⟩⟩⟩⟩⟩
    · refine bs_X10_count_60 hX ?_
      simp only [bk_X10_count_0, k_X10_count_0, bk_X10_count_60, k_X10_count_60, bk_X10_count_71, k_X10_count_71, bk_X10_count_82, k_X10_count_82, bk_X10_count_93, k_X10_count_93, bk_X10_count_104, k_X10_count_104, bk_X10_count_120, k_X10_count_120, bk_X10_count_136, k_X10_count_136, bk_X10_count_160, k_X10_count_160, bk_X10_count_171, k_X10_count_171, bk_X10_count_182, k_X10_count_182, bk_X10_count_193, k_X10_count_193, bk_X10_count_201, k_X10_count_201, ↓e_rk1, ↓e_rk0, ↓e_sk0, ↓e_sks, ↓e_ldi0, ↓e_ldis, ↓e_ldl0, ↓e_ldls, ↓e_lda0, ↓e_ldas, ↓e_ok0, ↓e_okss, ↓e_ok1i, ↓e_ok1r, ↓e_ok1n, ↓e_sti, ↓e_sta, ↓e_1, ↓e_2, ↓e_l1, ↓e_l2, ↓e_li, ↓e_sw0, ↓e_sws, ↓e_ceq, ↓e_cne, ↓e_clt, ↓e_cge, ↓e_cgt, ↓e_cle, ↓e_nil, ↓e_cons, ↓e_iconst, ↓e_bipush, ↓e_sipush, ↓e_ldc, ↓e_ldcw, ↓e_ldc2, ↓e_lconst, ↓e_iloadn, ↓e_iload, ↓e_lloadn, ↓e_lload, ↓e_aloadn, ↓e_aload, ↓e_istoren, ↓e_istore, ↓e_astoren, ↓e_astore, ↓e_add, ↓e_iinc, ↓e_iadd, ↓e_isub, ↓e_imul, ↓e_iand, ↓e_ior, ↓e_ixor, ↓e_ishl, ↓e_iushr, ↓e_idiv, ↓e_irem, ↓e_ineg, ↓e_i2l, ↓e_i2b, ↓e_i2s, ↓e_l2i, ↓e_land, ↓e_lor, ↓e_lshl, ↓e_lshr, ↓e_lushr, ↓e_lcmp, ↓e_dupi, ↓e_dupr, ↓e_popi, ↓e_dup2, ↓e_goto, ↓e_if, ↓e_icmp, ↓e_tsw, ↓e_lsw, ↓e_getf, ↓e_putf, ↓e_gets, ↓e_iald, ↓e_cald, ↓e_iast, ↓e_aald, ↓e_aast, ↓e_len, ↓e_copy, ↓e_abs, ↓e_max, ↓e_min, ↓e_iret, ↓e_aret, ↓e_vret, ↓e_is0, ↓e_is1, ↓e_is2, ↓e_is3, ↓e_is4, ↓e_iv1, ↓e_iv2, ↓e_iv3, ↓e_iv4, ↓e_iv5, ↓e_iv6, ↓rt_X10_count, ↓reduceIte, Nat.reduceAdd, Nat.reduceEqDiff, ↓zcl0, ↓zclv, List.map_nil, List.sum_nil, List.map_cons, List.sum_cons, zcat, true_and, and_true, Nat.reduceLeDiff, Nat.reduceAdd, eq_self, forall_const, e_ok0, e_okss, e_ok1i, e_ok1r, e_ok1n, zl_m1000000001, zl_64, Int.reduceToNat, Int.reduceAdd, Int.reduceMul, Int.reduceSub, Int.reduceNeg, Int.reduceLT, Int.reduceLE, Int.reduceEq, not_false_eq_true, not_true_eq_false, false_implies, true_implies, implies_true, Int.reduceDiv, Int.reduceMod, zr8_zr, zr_zbo, z01_zbo, z01_0, z01_1, zbo_eq0, zup_eq, zup_o, zup_k, ne_eq, ↓ct_x_count_cfail, ↓r_cfail, ↓B_cfail, ↓ct_x_count_hgap, ↓r_hgap, ↓B_hgap, ↓ct_x_count_csum, ↓r_csum, ↓B_csum, ↓v_0, ↓g_0_0, ↓g_0_1, ↓g_0_2, ↓g_0_3, ↓g_0_4, ↓g_0_5, ↓g_0_6, ↓g_0_7, ↓g_0_8, ↓l_78, ↓s_78, ↓n_78, ↓g_0_9, ↓p_0_9, ↓v_1, ↓g_1_0, ↓g_1_1, ↓g_1_2, ↓g_1_3, ↓g_1_4, ↓g_1_5, ↓g_1_6, ↓p_1_6, ↓v_10, ↓g_10_0, ↓l_11, ↓s_11, ↓n_11, ↓g_10_1, ↓l_12, ↓s_12, ↓n_12, ↓g_10_2, ↓l_13, ↓s_13, ↓n_13, ↓g_10_3, ↓p_10_3, e0]
      refine cp_id hC H ?_
      subst c; rfl
    · refine bs_X10_count_71 hX ?_
      simp only [bk_X10_count_0, k_X10_count_0, bk_X10_count_60, k_X10_count_60, bk_X10_count_71, k_X10_count_71, bk_X10_count_82, k_X10_count_82, bk_X10_count_93, k_X10_count_93, bk_X10_count_104, k_X10_count_104, bk_X10_count_120, k_X10_count_120, bk_X10_count_136, k_X10_count_136, bk_X10_count_160, k_X10_count_160, bk_X10_count_171, k_X10_count_171, bk_X10_count_182, k_X10_count_182, bk_X10_count_193, k_X10_count_193, bk_X10_count_201, k_X10_count_201, ↓e_rk1, ↓e_rk0, ↓e_sk0, ↓e_sks, ↓e_ldi0, ↓e_ldis, ↓e_ldl0, ↓e_ldls, ↓e_lda0, ↓e_ldas, ↓e_ok0, ↓e_okss, ↓e_ok1i, ↓e_ok1r, ↓e_ok1n, ↓e_sti, ↓e_sta, ↓e_1, ↓e_2, ↓e_l1, ↓e_l2, ↓e_li, ↓e_sw0, ↓e_sws, ↓e_ceq, ↓e_cne, ↓e_clt, ↓e_cge, ↓e_cgt, ↓e_cle, ↓e_nil, ↓e_cons, ↓e_iconst, ↓e_bipush, ↓e_sipush, ↓e_ldc, ↓e_ldcw, ↓e_ldc2, ↓e_lconst, ↓e_iloadn, ↓e_iload, ↓e_lloadn, ↓e_lload, ↓e_aloadn, ↓e_aload, ↓e_istoren, ↓e_istore, ↓e_astoren, ↓e_astore, ↓e_add, ↓e_iinc, ↓e_iadd, ↓e_isub, ↓e_imul, ↓e_iand, ↓e_ior, ↓e_ixor, ↓e_ishl, ↓e_iushr, ↓e_idiv, ↓e_irem, ↓e_ineg, ↓e_i2l, ↓e_i2b, ↓e_i2s, ↓e_l2i, ↓e_land, ↓e_lor, ↓e_lshl, ↓e_lshr, ↓e_lushr, ↓e_lcmp, ↓e_dupi, ↓e_dupr, ↓e_popi, ↓e_dup2, ↓e_goto, ↓e_if, ↓e_icmp, ↓e_tsw, ↓e_lsw, ↓e_getf, ↓e_putf, ↓e_gets, ↓e_iald, ↓e_cald, ↓e_iast, ↓e_aald, ↓e_aast, ↓e_len, ↓e_copy, ↓e_abs, ↓e_max, ↓e_min, ↓e_iret, ↓e_aret, ↓e_vret, ↓e_is0, ↓e_is1, ↓e_is2, ↓e_is3, ↓e_is4, ↓e_iv1, ↓e_iv2, ↓e_iv3, ↓e_iv4, ↓e_iv5, ↓e_iv6, ↓rt_X10_count, ↓reduceIte, Nat.reduceAdd, Nat.reduceEqDiff, ↓zcl0, ↓zclv, List.map_nil, List.sum_nil, List.map_cons, List.sum_cons, zcat, true_and, and_true, Nat.reduceLeDiff, Nat.reduceAdd, eq_self, forall_const, e_ok0, e_okss, e_ok1i, e_ok1r, e_ok1n, zl_m1000000001, zl_64, Int.reduceToNat, Int.reduceAdd, Int.reduceMul, Int.reduceSub, Int.reduceNeg, Int.reduceLT, Int.reduceLE, Int.reduceEq, not_false_eq_true, not_true_eq_false, false_implies, true_implies, implies_true, Int.reduceDiv, Int.reduceMod, zr8_zr, zr_zbo, z01_zbo, z01_0, z01_1, zbo_eq0, zup_eq, zup_o, zup_k, ne_eq, ↓ct_x_count_cfail, ↓r_cfail, ↓B_cfail, ↓ct_x_count_hgap, ↓r_hgap, ↓B_hgap, ↓ct_x_count_csum, ↓r_csum, ↓B_csum, ↓v_0, ↓g_0_0, ↓g_0_1, ↓g_0_2, ↓g_0_3, ↓g_0_4, ↓g_0_5, ↓g_0_6, ↓g_0_7, ↓g_0_8, ↓l_78, ↓s_78, ↓n_78, ↓g_0_9, ↓p_0_9, ↓v_1, ↓g_1_0, ↓g_1_1, ↓g_1_2, ↓g_1_3, ↓g_1_4, ↓g_1_5, ↓g_1_6, ↓p_1_6, ↓v_2, ↓g_2_0, ↓l_3, ↓s_3, ↓n_3, ↓g_2_1, ↓l_4, ↓s_4, ↓n_4, ↓g_2_2, ↓l_5, ↓s_5, ↓n_5, ↓g_2_3, ↓l_6, ↓s_6, ↓n_6, ↓g_2_4, ↓l_7, ↓s_7, ↓n_7, ↓g_2_5, ↓l_8, ↓s_8, ↓n_8, ↓g_2_6, ↓l_9, ↓s_9, ↓n_9, ↓g_2_7, ↓p_2_7, ↓g_2_8, ↓p_2_8, ↓g_2_9, ↓p_2_9, e1]
      refine cp_id hC H ?_
      subst c; rfl
    · refine bs_X10_count_82 hX ?_
      simp only [bk_X10_count_0, k_X10_count_0, bk_X10_count_60, k_X10_count_60, bk_X10_count_71, k_X10_count_71, bk_X10_count_82, k_X10_count_82, bk_X10_count_93, k_X10_count_93, bk_X10_count_104, k_X10_count_104, bk_X10_count_120, k_X10_count_120, bk_X10_count_136, k_X10_count_136, bk_X10_count_160, k_X10_count_160, bk_X10_count_171, k_X10_count_171, bk_X10_count_182, k_X10_count_182, bk_X10_count_193, k_X10_count_193, bk_X10_count_201, k_X10_count_201, ↓e_rk1, ↓e_rk0, ↓e_sk0, ↓e_sks, ↓e_ldi0, ↓e_ldis, ↓e_ldl0, ↓e_ldls, ↓e_lda0, ↓e_ldas, ↓e_ok0, ↓e_okss, ↓e_ok1i, ↓e_ok1r, ↓e_ok1n, ↓e_sti, ↓e_sta, ↓e_1, ↓e_2, ↓e_l1, ↓e_l2, ↓e_li, ↓e_sw0, ↓e_sws, ↓e_ceq, ↓e_cne, ↓e_clt, ↓e_cge, ↓e_cgt, ↓e_cle, ↓e_nil, ↓e_cons, ↓e_iconst, ↓e_bipush, ↓e_sipush, ↓e_ldc, ↓e_ldcw, ↓e_ldc2, ↓e_lconst, ↓e_iloadn, ↓e_iload, ↓e_lloadn, ↓e_lload, ↓e_aloadn, ↓e_aload, ↓e_istoren, ↓e_istore, ↓e_astoren, ↓e_astore, ↓e_add, ↓e_iinc, ↓e_iadd, ↓e_isub, ↓e_imul, ↓e_iand, ↓e_ior, ↓e_ixor, ↓e_ishl, ↓e_iushr, ↓e_idiv, ↓e_irem, ↓e_ineg, ↓e_i2l, ↓e_i2b, ↓e_i2s, ↓e_l2i, ↓e_land, ↓e_lor, ↓e_lshl, ↓e_lshr, ↓e_lushr, ↓e_lcmp, ↓e_dupi, ↓e_dupr, ↓e_popi, ↓e_dup2, ↓e_goto, ↓e_if, ↓e_icmp, ↓e_tsw, ↓e_lsw, ↓e_getf, ↓e_putf, ↓e_gets, ↓e_iald, ↓e_cald, ↓e_iast, ↓e_aald, ↓e_aast, ↓e_len, ↓e_copy, ↓e_abs, ↓e_max, ↓e_min, ↓e_iret, ↓e_aret, ↓e_vret, ↓e_is0, ↓e_is1, ↓e_is2, ↓e_is3, ↓e_is4, ↓e_iv1, ↓e_iv2, ↓e_iv3, ↓e_iv4, ↓e_iv5, ↓e_iv6, ↓rt_X10_count, ↓reduceIte, Nat.reduceAdd, Nat.reduceEqDiff, ↓zcl0, ↓zclv, List.map_nil, List.sum_nil, List.map_cons, List.sum_cons, zcat, true_and, and_true, Nat.reduceLeDiff, Nat.reduceAdd, eq_self, forall_const, e_ok0, e_okss, e_ok1i, e_ok1r, e_ok1n, zl_m1000000001, zl_64, Int.reduceToNat, Int.reduceAdd, Int.reduceMul, Int.reduceSub, Int.reduceNeg, Int.reduceLT, Int.reduceLE, Int.reduceEq, not_false_eq_true, not_true_eq_false, false_implies, true_implies, implies_true, Int.reduceDiv, Int.reduceMod, zr8_zr, zr_zbo, z01_zbo, z01_0, z01_1, zbo_eq0, zup_eq, zup_o, zup_k, ne_eq, ↓ct_x_count_cfail, ↓r_cfail, ↓B_cfail, ↓ct_x_count_hgap, ↓r_hgap, ↓B_hgap, ↓ct_x_count_csum, ↓r_csum, ↓B_csum, ↓v_0, ↓g_0_0, ↓g_0_1, ↓g_0_2, ↓g_0_3, ↓g_0_4, ↓g_0_5, ↓g_0_6, ↓g_0_7, ↓g_0_8, ↓l_78, ↓s_78, ↓n_78, ↓g_0_9, ↓p_0_9, ↓v_1, ↓g_1_0, ↓g_1_1, ↓g_1_2, ↓g_1_3, ↓g_1_4, ↓g_1_5, ↓g_1_6, ↓p_1_6, ↓v_2, ↓g_2_0, ↓l_3, ↓s_3, ↓n_3, ↓g_2_1, ↓l_4, ↓s_4, ↓n_4, ↓g_2_2, ↓l_5, ↓s_5, ↓n_5, ↓g_2_3, ↓l_6, ↓s_6, ↓n_6, ↓g_2_4, ↓l_7, ↓s_7, ↓n_7, ↓g_2_5, ↓l_8, ↓s_8, ↓n_8, ↓g_2_6, ↓l_9, ↓s_9, ↓n_9, ↓g_2_7, ↓p_2_7, ↓g_2_8, ↓p_2_8, ↓g_2_9, ↓p_2_9, e2]
      refine cp_id hC H ?_
      subst c; rfl
    · refine bs_X10_count_93 hX ?_
      simp only [bk_X10_count_0, k_X10_count_0, bk_X10_count_60, k_X10_count_60, bk_X10_count_71, k_X10_count_71, bk_X10_count_82, k_X10_count_82, bk_X10_count_93, k_X10_count_93, bk_X10_count_104, k_X10_count_104, bk_X10_count_120, k_X10_count_120, bk_X10_count_136, k_X10_count_136, bk_X10_count_160, k_X10_count_160, bk_X10_count_171, k_X10_count_171, bk_X10_count_182, k_X10_count_182, bk_X10_count_193, k_X10_count_193, bk_X10_count_201, k_X10_count_201, ↓e_rk1, ↓e_rk0, ↓e_sk0, ↓e_sks, ↓e_ldi0, ↓e_ldis, ↓e_ldl0, ↓e_ldls, ↓e_lda0, ↓e_ldas, ↓e_ok0, ↓e_okss, ↓e_ok1i, ↓e_ok1r, ↓e_ok1n, ↓e_sti, ↓e_sta, ↓e_1, ↓e_2, ↓e_l1, ↓e_l2, ↓e_li, ↓e_sw0, ↓e_sws, ↓e_ceq, ↓e_cne, ↓e_clt, ↓e_cge, ↓e_cgt, ↓e_cle, ↓e_nil, ↓e_cons, ↓e_iconst, ↓e_bipush, ↓e_sipush, ↓e_ldc, ↓e_ldcw, ↓e_ldc2, ↓e_lconst, ↓e_iloadn, ↓e_iload, ↓e_lloadn, ↓e_lload, ↓e_aloadn, ↓e_aload, ↓e_istoren, ↓e_istore, ↓e_astoren, ↓e_astore, ↓e_add, ↓e_iinc, ↓e_iadd, ↓e_isub, ↓e_imul, ↓e_iand, ↓e_ior, ↓e_ixor, ↓e_ishl, ↓e_iushr, ↓e_idiv, ↓e_irem, ↓e_ineg, ↓e_i2l, ↓e_i2b, ↓e_i2s, ↓e_l2i, ↓e_land, ↓e_lor, ↓e_lshl, ↓e_lshr, ↓e_lushr, ↓e_lcmp, ↓e_dupi, ↓e_dupr, ↓e_popi, ↓e_dup2, ↓e_goto, ↓e_if, ↓e_icmp, ↓e_tsw, ↓e_lsw, ↓e_getf, ↓e_putf, ↓e_gets, ↓e_iald, ↓e_cald, ↓e_iast, ↓e_aald, ↓e_aast, ↓e_len, ↓e_copy, ↓e_abs, ↓e_max, ↓e_min, ↓e_iret, ↓e_aret, ↓e_vret, ↓e_is0, ↓e_is1, ↓e_is2, ↓e_is3, ↓e_is4, ↓e_iv1, ↓e_iv2, ↓e_iv3, ↓e_iv4, ↓e_iv5, ↓e_iv6, ↓rt_X10_count, ↓reduceIte, Nat.reduceAdd, Nat.reduceEqDiff, ↓zcl0, ↓zclv, List.map_nil, List.sum_nil, List.map_cons, List.sum_cons, zcat, true_and, and_true, Nat.reduceLeDiff, Nat.reduceAdd, eq_self, forall_const, e_ok0, e_okss, e_ok1i, e_ok1r, e_ok1n, zl_m1000000001, zl_64, Int.reduceToNat, Int.reduceAdd, Int.reduceMul, Int.reduceSub, Int.reduceNeg, Int.reduceLT, Int.reduceLE, Int.reduceEq, not_false_eq_true, not_true_eq_false, false_implies, true_implies, implies_true, Int.reduceDiv, Int.reduceMod, zr8_zr, zr_zbo, z01_zbo, z01_0, z01_1, zbo_eq0, zup_eq, zup_o, zup_k, ne_eq, ↓ct_x_count_cfail, ↓r_cfail, ↓B_cfail, ↓ct_x_count_hgap, ↓r_hgap, ↓B_hgap, ↓ct_x_count_csum, ↓r_csum, ↓B_csum, ↓v_0, ↓g_0_0, ↓g_0_1, ↓g_0_2, ↓g_0_3, ↓g_0_4, ↓g_0_5, ↓g_0_6, ↓g_0_7, ↓g_0_8, ↓l_78, ↓s_78, ↓n_78, ↓g_0_9, ↓p_0_9, ↓v_1, ↓g_1_0, ↓g_1_1, ↓g_1_2, ↓g_1_3, ↓g_1_4, ↓g_1_5, ↓g_1_6, ↓p_1_6, ↓v_2, ↓g_2_0, ↓l_3, ↓s_3, ↓n_3, ↓g_2_1, ↓l_4, ↓s_4, ↓n_4, ↓g_2_2, ↓l_5, ↓s_5, ↓n_5, ↓g_2_3, ↓l_6, ↓s_6, ↓n_6, ↓g_2_4, ↓l_7, ↓s_7, ↓n_7, ↓g_2_5, ↓l_8, ↓s_8, ↓n_8, ↓g_2_6, ↓l_9, ↓s_9, ↓n_9, ↓g_2_7, ↓p_2_7, ↓g_2_8, ↓p_2_8, ↓g_2_9, ↓p_2_9]
      refine ⟨Or.inl rfl, S 88, n9.1, vd, cp_id hC H ?_⟩
      subst c; rfl
    · refine bs_X10_count_104 hX ?_
      simp only [bk_X10_count_0, k_X10_count_0, bk_X10_count_60, k_X10_count_60, bk_X10_count_71, k_X10_count_71, bk_X10_count_82, k_X10_count_82, bk_X10_count_93, k_X10_count_93, bk_X10_count_104, k_X10_count_104, bk_X10_count_120, k_X10_count_120, bk_X10_count_136, k_X10_count_136, bk_X10_count_160, k_X10_count_160, bk_X10_count_171, k_X10_count_171, bk_X10_count_182, k_X10_count_182, bk_X10_count_193, k_X10_count_193, bk_X10_count_201, k_X10_count_201, ↓e_rk1, ↓e_rk0, ↓e_sk0, ↓e_sks, ↓e_ldi0, ↓e_ldis, ↓e_ldl0, ↓e_ldls, ↓e_lda0, ↓e_ldas, ↓e_ok0, ↓e_okss, ↓e_ok1i, ↓e_ok1r, ↓e_ok1n, ↓e_sti, ↓e_sta, ↓e_1, ↓e_2, ↓e_l1, ↓e_l2, ↓e_li, ↓e_sw0, ↓e_sws, ↓e_ceq, ↓e_cne, ↓e_clt, ↓e_cge, ↓e_cgt, ↓e_cle, ↓e_nil, ↓e_cons, ↓e_iconst, ↓e_bipush, ↓e_sipush, ↓e_ldc, ↓e_ldcw, ↓e_ldc2, ↓e_lconst, ↓e_iloadn, ↓e_iload, ↓e_lloadn, ↓e_lload, ↓e_aloadn, ↓e_aload, ↓e_istoren, ↓e_istore, ↓e_astoren, ↓e_astore, ↓e_add, ↓e_iinc, ↓e_iadd, ↓e_isub, ↓e_imul, ↓e_iand, ↓e_ior, ↓e_ixor, ↓e_ishl, ↓e_iushr, ↓e_idiv, ↓e_irem, ↓e_ineg, ↓e_i2l, ↓e_i2b, ↓e_i2s, ↓e_l2i, ↓e_land, ↓e_lor, ↓e_lshl, ↓e_lshr, ↓e_lushr, ↓e_lcmp, ↓e_dupi, ↓e_dupr, ↓e_popi, ↓e_dup2, ↓e_goto, ↓e_if, ↓e_icmp, ↓e_tsw, ↓e_lsw, ↓e_getf, ↓e_putf, ↓e_gets, ↓e_iald, ↓e_cald, ↓e_iast, ↓e_aald, ↓e_aast, ↓e_len, ↓e_copy, ↓e_abs, ↓e_max, ↓e_min, ↓e_iret, ↓e_aret, ↓e_vret, ↓e_is0, ↓e_is1, ↓e_is2, ↓e_is3, ↓e_is4, ↓e_iv1, ↓e_iv2, ↓e_iv3, ↓e_iv4, ↓e_iv5, ↓e_iv6, ↓rt_X10_count, ↓reduceIte, Nat.reduceAdd, Nat.reduceEqDiff, ↓zcl0, ↓zclv, List.map_nil, List.sum_nil, List.map_cons, List.sum_cons, zcat, true_and, and_true, Nat.reduceLeDiff, Nat.reduceAdd, eq_self, forall_const, e_ok0, e_okss, e_ok1i, e_ok1r, e_ok1n, zl_m1000000001, zl_64, Int.reduceToNat, Int.reduceAdd, Int.reduceMul, Int.reduceSub, Int.reduceNeg, Int.reduceLT, Int.reduceLE, Int.reduceEq, not_false_eq_true, not_true_eq_false, false_implies, true_implies, implies_true, Int.reduceDiv, Int.reduceMod, zr8_zr, zr_zbo, z01_zbo, z01_0, z01_1, zbo_eq0, zup_eq, zup_o, zup_k, ne_eq, ↓ct_x_count_cfail, ↓r_cfail, ↓B_cfail, ↓ct_x_count_hgap, ↓r_hgap, ↓B_hgap, ↓ct_x_count_csum, ↓r_csum, ↓B_csum, ↓v_0, ↓g_0_0, ↓g_0_1, ↓g_0_2, ↓g_0_3, ↓g_0_4, ↓g_0_5, ↓g_0_6, ↓g_0_7, ↓g_0_8, ↓l_78, ↓s_78, ↓n_78, ↓g_0_9, ↓p_0_9, ↓v_1, ↓g_1_0, ↓g_1_1, ↓g_1_2, ↓g_1_3, ↓g_1_4, ↓g_1_5, ↓g_1_6, ↓p_1_6, ↓v_2, ↓g_2_0, ↓l_3, ↓s_3, ↓n_3, ↓g_2_1, ↓l_4, ↓s_4, ↓n_4, ↓g_2_2, ↓l_5, ↓s_5, ↓n_5, ↓g_2_3, ↓l_6, ↓s_6, ↓n_6, ↓g_2_4, ↓l_7, ↓s_7, ↓n_7, ↓g_2_5, ↓l_8, ↓s_8, ↓n_8, ↓g_2_6, ↓l_9, ↓s_9, ↓n_9, ↓g_2_7, ↓p_2_7, ↓g_2_8, ↓p_2_8, ↓g_2_9, ↓p_2_9]
      refine ⟨64, rfl, by omega, by omega, zpost (cp_id hC H (a := smo (S 88) 70 1 64) ?_) ?_⟩
      · subst c; rfl
      · exact (sm_smo 64 (fun k hk => by rw [n9.1.2.1 k hk]; congr 1; omega)).symm
    · refine bs_X10_count_120 hX ?_
      simp only [bk_X10_count_0, k_X10_count_0, bk_X10_count_60, k_X10_count_60, bk_X10_count_71, k_X10_count_71, bk_X10_count_82, k_X10_count_82, bk_X10_count_93, k_X10_count_93, bk_X10_count_104, k_X10_count_104, bk_X10_count_120, k_X10_count_120, bk_X10_count_136, k_X10_count_136, bk_X10_count_160, k_X10_count_160, bk_X10_count_171, k_X10_count_171, bk_X10_count_182, k_X10_count_182, bk_X10_count_193, k_X10_count_193, bk_X10_count_201, k_X10_count_201, ↓e_rk1, ↓e_rk0, ↓e_sk0, ↓e_sks, ↓e_ldi0, ↓e_ldis, ↓e_ldl0, ↓e_ldls, ↓e_lda0, ↓e_ldas, ↓e_ok0, ↓e_okss, ↓e_ok1i, ↓e_ok1r, ↓e_ok1n, ↓e_sti, ↓e_sta, ↓e_1, ↓e_2, ↓e_l1, ↓e_l2, ↓e_li, ↓e_sw0, ↓e_sws, ↓e_ceq, ↓e_cne, ↓e_clt, ↓e_cge, ↓e_cgt, ↓e_cle, ↓e_nil, ↓e_cons, ↓e_iconst, ↓e_bipush, ↓e_sipush, ↓e_ldc, ↓e_ldcw, ↓e_ldc2, ↓e_lconst, ↓e_iloadn, ↓e_iload, ↓e_lloadn, ↓e_lload, ↓e_aloadn, ↓e_aload, ↓e_istoren, ↓e_istore, ↓e_astoren, ↓e_astore, ↓e_add, ↓e_iinc, ↓e_iadd, ↓e_isub, ↓e_imul, ↓e_iand, ↓e_ior, ↓e_ixor, ↓e_ishl, ↓e_iushr, ↓e_idiv, ↓e_irem, ↓e_ineg, ↓e_i2l, ↓e_i2b, ↓e_i2s, ↓e_l2i, ↓e_land, ↓e_lor, ↓e_lshl, ↓e_lshr, ↓e_lushr, ↓e_lcmp, ↓e_dupi, ↓e_dupr, ↓e_popi, ↓e_dup2, ↓e_goto, ↓e_if, ↓e_icmp, ↓e_tsw, ↓e_lsw, ↓e_getf, ↓e_putf, ↓e_gets, ↓e_iald, ↓e_cald, ↓e_iast, ↓e_aald, ↓e_aast, ↓e_len, ↓e_copy, ↓e_abs, ↓e_max, ↓e_min, ↓e_iret, ↓e_aret, ↓e_vret, ↓e_is0, ↓e_is1, ↓e_is2, ↓e_is3, ↓e_is4, ↓e_iv1, ↓e_iv2, ↓e_iv3, ↓e_iv4, ↓e_iv5, ↓e_iv6, ↓rt_X10_count, ↓reduceIte, Nat.reduceAdd, Nat.reduceEqDiff, ↓zcl0, ↓zclv, List.map_nil, List.sum_nil, List.map_cons, List.sum_cons, zcat, true_and, and_true, Nat.reduceLeDiff, Nat.reduceAdd, eq_self, forall_const, e_ok0, e_okss, e_ok1i, e_ok1r, e_ok1n, zl_m1000000001, zl_64, Int.reduceToNat, Int.reduceAdd, Int.reduceMul, Int.reduceSub, Int.reduceNeg, Int.reduceLT, Int.reduceLE, Int.reduceEq, not_false_eq_true, not_true_eq_false, false_implies, true_implies, implies_true, Int.reduceDiv, Int.reduceMod, zr8_zr, zr_zbo, z01_zbo, z01_0, z01_1, zbo_eq0, zup_eq, zup_o, zup_k, ne_eq, ↓ct_x_count_cfail, ↓r_cfail, ↓B_cfail, ↓ct_x_count_hgap, ↓r_hgap, ↓B_hgap, ↓ct_x_count_csum, ↓r_csum, ↓B_csum, ↓v_0, ↓g_0_0, ↓g_0_1, ↓g_0_2, ↓g_0_3, ↓g_0_4, ↓g_0_5, ↓g_0_6, ↓g_0_7, ↓g_0_8, ↓l_78, ↓s_78, ↓n_78, ↓g_0_9, ↓p_0_9, ↓v_1, ↓g_1_0, ↓g_1_1, ↓g_1_2, ↓g_1_3, ↓g_1_4, ↓g_1_5, ↓g_1_6, ↓p_1_6, ↓v_2, ↓g_2_0, ↓l_3, ↓s_3, ↓n_3, ↓g_2_1, ↓l_4, ↓s_4, ↓n_4, ↓g_2_2, ↓l_5, ↓s_5, ↓n_5, ↓g_2_3, ↓l_6, ↓s_6, ↓n_6, ↓g_2_4, ↓l_7, ↓s_7, ↓n_7, ↓g_2_5, ↓l_8, ↓s_8, ↓n_8, ↓g_2_6, ↓l_9, ↓s_9, ↓n_9, ↓g_2_7, ↓p_2_7, ↓g_2_8, ↓p_2_8, ↓g_2_9, ↓p_2_9]
      refine ⟨64, rfl, by omega, by omega, zpost (cp_id hC H (a := smo (S 88) 6 1 64) ?_) ?_⟩
      · subst c; rfl
      · exact (sm_smo 64 (fun k hk => by rw [n9.1.1 k hk]; congr 1; omega)).symm
    · refine bs_X10_count_136 hX ?_
      simp only [bk_X10_count_0, k_X10_count_0, bk_X10_count_60, k_X10_count_60, bk_X10_count_71, k_X10_count_71, bk_X10_count_82, k_X10_count_82, bk_X10_count_93, k_X10_count_93, bk_X10_count_104, k_X10_count_104, bk_X10_count_120, k_X10_count_120, bk_X10_count_136, k_X10_count_136, bk_X10_count_160, k_X10_count_160, bk_X10_count_171, k_X10_count_171, bk_X10_count_182, k_X10_count_182, bk_X10_count_193, k_X10_count_193, bk_X10_count_201, k_X10_count_201, ↓e_rk1, ↓e_rk0, ↓e_sk0, ↓e_sks, ↓e_ldi0, ↓e_ldis, ↓e_ldl0, ↓e_ldls, ↓e_lda0, ↓e_ldas, ↓e_ok0, ↓e_okss, ↓e_ok1i, ↓e_ok1r, ↓e_ok1n, ↓e_sti, ↓e_sta, ↓e_1, ↓e_2, ↓e_l1, ↓e_l2, ↓e_li, ↓e_sw0, ↓e_sws, ↓e_ceq, ↓e_cne, ↓e_clt, ↓e_cge, ↓e_cgt, ↓e_cle, ↓e_nil, ↓e_cons, ↓e_iconst, ↓e_bipush, ↓e_sipush, ↓e_ldc, ↓e_ldcw, ↓e_ldc2, ↓e_lconst, ↓e_iloadn, ↓e_iload, ↓e_lloadn, ↓e_lload, ↓e_aloadn, ↓e_aload, ↓e_istoren, ↓e_istore, ↓e_astoren, ↓e_astore, ↓e_add, ↓e_iinc, ↓e_iadd, ↓e_isub, ↓e_imul, ↓e_iand, ↓e_ior, ↓e_ixor, ↓e_ishl, ↓e_iushr, ↓e_idiv, ↓e_irem, ↓e_ineg, ↓e_i2l, ↓e_i2b, ↓e_i2s, ↓e_l2i, ↓e_land, ↓e_lor, ↓e_lshl, ↓e_lshr, ↓e_lushr, ↓e_lcmp, ↓e_dupi, ↓e_dupr, ↓e_popi, ↓e_dup2, ↓e_goto, ↓e_if, ↓e_icmp, ↓e_tsw, ↓e_lsw, ↓e_getf, ↓e_putf, ↓e_gets, ↓e_iald, ↓e_cald, ↓e_iast, ↓e_aald, ↓e_aast, ↓e_len, ↓e_copy, ↓e_abs, ↓e_max, ↓e_min, ↓e_iret, ↓e_aret, ↓e_vret, ↓e_is0, ↓e_is1, ↓e_is2, ↓e_is3, ↓e_is4, ↓e_iv1, ↓e_iv2, ↓e_iv3, ↓e_iv4, ↓e_iv5, ↓e_iv6, ↓rt_X10_count, ↓reduceIte, Nat.reduceAdd, Nat.reduceEqDiff, ↓zcl0, ↓zclv, List.map_nil, List.sum_nil, List.map_cons, List.sum_cons, zcat, true_and, and_true, Nat.reduceLeDiff, Nat.reduceAdd, eq_self, forall_const, e_ok0, e_okss, e_ok1i, e_ok1r, e_ok1n, zl_m1000000001, zl_64, Int.reduceToNat, Int.reduceAdd, Int.reduceMul, Int.reduceSub, Int.reduceNeg, Int.reduceLT, Int.reduceLE, Int.reduceEq, not_false_eq_true, not_true_eq_false, false_implies, true_implies, implies_true, Int.reduceDiv, Int.reduceMod, zr8_zr, zr_zbo, z01_zbo, z01_0, z01_1, zbo_eq0, zup_eq, zup_o, zup_k, ne_eq, ↓ct_x_count_cfail, ↓r_cfail, ↓B_cfail, ↓ct_x_count_hgap, ↓r_hgap, ↓B_hgap, ↓ct_x_count_csum, ↓r_csum, ↓B_csum, ↓v_0, ↓g_0_0, ↓g_0_1, ↓g_0_2, ↓g_0_3, ↓g_0_4, ↓g_0_5, ↓g_0_6, ↓g_0_7, ↓g_0_8, ↓l_78, ↓s_78, ↓n_78, ↓g_0_9, ↓p_0_9, ↓v_1, ↓g_1_0, ↓g_1_1, ↓g_1_2, ↓g_1_3, ↓g_1_4, ↓g_1_5, ↓g_1_6, ↓p_1_6, ↓v_10, ↓g_10_0, ↓l_11, ↓s_11, ↓n_11, ↓g_10_1, ↓l_12, ↓s_12, ↓n_12, ↓g_10_2, ↓l_13, ↓s_13, ↓n_13, ↓g_10_3, ↓p_10_3, e0]
      refine ⟨8, rfl, by omega, by omega, zpost (cp_id hC H (a := smo (S 88) 164 3 (S 88 0).toNat) ?_) ?_⟩
      · subst c; rfl
      · refine (sm_smo (S 88 0).toNat (fun k hk => ?_)).symm
        have := (n9.2.1.2 k (by omega)).2.2
        rw [if_neg (by omega)] at this
        rw [this]; congr 1; omega
    · refine bs_X10_count_160 hX ?_
      simp only [bk_X10_count_0, k_X10_count_0, bk_X10_count_60, k_X10_count_60, bk_X10_count_71, k_X10_count_71, bk_X10_count_82, k_X10_count_82, bk_X10_count_93, k_X10_count_93, bk_X10_count_104, k_X10_count_104, bk_X10_count_120, k_X10_count_120, bk_X10_count_136, k_X10_count_136, bk_X10_count_160, k_X10_count_160, bk_X10_count_171, k_X10_count_171, bk_X10_count_182, k_X10_count_182, bk_X10_count_193, k_X10_count_193, bk_X10_count_201, k_X10_count_201, ↓e_rk1, ↓e_rk0, ↓e_sk0, ↓e_sks, ↓e_ldi0, ↓e_ldis, ↓e_ldl0, ↓e_ldls, ↓e_lda0, ↓e_ldas, ↓e_ok0, ↓e_okss, ↓e_ok1i, ↓e_ok1r, ↓e_ok1n, ↓e_sti, ↓e_sta, ↓e_1, ↓e_2, ↓e_l1, ↓e_l2, ↓e_li, ↓e_sw0, ↓e_sws, ↓e_ceq, ↓e_cne, ↓e_clt, ↓e_cge, ↓e_cgt, ↓e_cle, ↓e_nil, ↓e_cons, ↓e_iconst, ↓e_bipush, ↓e_sipush, ↓e_ldc, ↓e_ldcw, ↓e_ldc2, ↓e_lconst, ↓e_iloadn, ↓e_iload, ↓e_lloadn, ↓e_lload, ↓e_aloadn, ↓e_aload, ↓e_istoren, ↓e_istore, ↓e_astoren, ↓e_astore, ↓e_add, ↓e_iinc, ↓e_iadd, ↓e_isub, ↓e_imul, ↓e_iand, ↓e_ior, ↓e_ixor, ↓e_ishl, ↓e_iushr, ↓e_idiv, ↓e_irem, ↓e_ineg, ↓e_i2l, ↓e_i2b, ↓e_i2s, ↓e_l2i, ↓e_land, ↓e_lor, ↓e_lshl, ↓e_lshr, ↓e_lushr, ↓e_lcmp, ↓e_dupi, ↓e_dupr, ↓e_popi, ↓e_dup2, ↓e_goto, ↓e_if, ↓e_icmp, ↓e_tsw, ↓e_lsw, ↓e_getf, ↓e_putf, ↓e_gets, ↓e_iald, ↓e_cald, ↓e_iast, ↓e_aald, ↓e_aast, ↓e_len, ↓e_copy, ↓e_abs, ↓e_max, ↓e_min, ↓e_iret, ↓e_aret, ↓e_vret, ↓e_is0, ↓e_is1, ↓e_is2, ↓e_is3, ↓e_is4, ↓e_iv1, ↓e_iv2, ↓e_iv3, ↓e_iv4, ↓e_iv5, ↓e_iv6, ↓rt_X10_count, ↓reduceIte, Nat.reduceAdd, Nat.reduceEqDiff, ↓zcl0, ↓zclv, List.map_nil, List.sum_nil, List.map_cons, List.sum_cons, zcat, true_and, and_true, Nat.reduceLeDiff, Nat.reduceAdd, eq_self, forall_const, e_ok0, e_okss, e_ok1i, e_ok1r, e_ok1n, zl_m1000000001, zl_64, Int.reduceToNat, Int.reduceAdd, Int.reduceMul, Int.reduceSub, Int.reduceNeg, Int.reduceLT, Int.reduceLE, Int.reduceEq, not_false_eq_true, not_true_eq_false, false_implies, true_implies, implies_true, Int.reduceDiv, Int.reduceMod, zr8_zr, zr_zbo, z01_zbo, z01_0, z01_1, zbo_eq0, zup_eq, zup_o, zup_k, ne_eq, ↓ct_x_count_cfail, ↓r_cfail, ↓B_cfail, ↓ct_x_count_hgap, ↓r_hgap, ↓B_hgap, ↓ct_x_count_csum, ↓r_csum, ↓B_csum, ↓v_0, ↓g_0_0, ↓g_0_1, ↓g_0_2, ↓g_0_3, ↓g_0_4, ↓g_0_5, ↓g_0_6, ↓g_0_7, ↓g_0_8, ↓l_78, ↓s_78, ↓n_78, ↓g_0_9, ↓p_0_9, ↓v_1, ↓g_1_0, ↓g_1_1, ↓g_1_2, ↓g_1_3, ↓g_1_4, ↓g_1_5, ↓g_1_6, ↓p_1_6, ↓v_22, ↓g_22_0, ↓l_23, ↓s_23, ↓n_23, ↓g_22_1, ↓p_22_1, e4]
      refine cp_id hC H ?_
      subst c; rfl
    · refine bs_X10_count_171 hX ?_
      simp only [bk_X10_count_0, k_X10_count_0, bk_X10_count_60, k_X10_count_60, bk_X10_count_71, k_X10_count_71, bk_X10_count_82, k_X10_count_82, bk_X10_count_93, k_X10_count_93, bk_X10_count_104, k_X10_count_104, bk_X10_count_120, k_X10_count_120, bk_X10_count_136, k_X10_count_136, bk_X10_count_160, k_X10_count_160, bk_X10_count_171, k_X10_count_171, bk_X10_count_182, k_X10_count_182, bk_X10_count_193, k_X10_count_193, bk_X10_count_201, k_X10_count_201, ↓e_rk1, ↓e_rk0, ↓e_sk0, ↓e_sks, ↓e_ldi0, ↓e_ldis, ↓e_ldl0, ↓e_ldls, ↓e_lda0, ↓e_ldas, ↓e_ok0, ↓e_okss, ↓e_ok1i, ↓e_ok1r, ↓e_ok1n, ↓e_sti, ↓e_sta, ↓e_1, ↓e_2, ↓e_l1, ↓e_l2, ↓e_li, ↓e_sw0, ↓e_sws, ↓e_ceq, ↓e_cne, ↓e_clt, ↓e_cge, ↓e_cgt, ↓e_cle, ↓e_nil, ↓e_cons, ↓e_iconst, ↓e_bipush, ↓e_sipush, ↓e_ldc, ↓e_ldcw, ↓e_ldc2, ↓e_lconst, ↓e_iloadn, ↓e_iload, ↓e_lloadn, ↓e_lload, ↓e_aloadn, ↓e_aload, ↓e_istoren, ↓e_istore, ↓e_astoren, ↓e_astore, ↓e_add, ↓e_iinc, ↓e_iadd, ↓e_isub, ↓e_imul, ↓e_iand, ↓e_ior, ↓e_ixor, ↓e_ishl, ↓e_iushr, ↓e_idiv, ↓e_irem, ↓e_ineg, ↓e_i2l, ↓e_i2b, ↓e_i2s, ↓e_l2i, ↓e_land, ↓e_lor, ↓e_lshl, ↓e_lshr, ↓e_lushr, ↓e_lcmp, ↓e_dupi, ↓e_dupr, ↓e_popi, ↓e_dup2, ↓e_goto, ↓e_if, ↓e_icmp, ↓e_tsw, ↓e_lsw, ↓e_getf, ↓e_putf, ↓e_gets, ↓e_iald, ↓e_cald, ↓e_iast, ↓e_aald, ↓e_aast, ↓e_len, ↓e_copy, ↓e_abs, ↓e_max, ↓e_min, ↓e_iret, ↓e_aret, ↓e_vret, ↓e_is0, ↓e_is1, ↓e_is2, ↓e_is3, ↓e_is4, ↓e_iv1, ↓e_iv2, ↓e_iv3, ↓e_iv4, ↓e_iv5, ↓e_iv6, ↓rt_X10_count, ↓reduceIte, Nat.reduceAdd, Nat.reduceEqDiff, ↓zcl0, ↓zclv, List.map_nil, List.sum_nil, List.map_cons, List.sum_cons, zcat, true_and, and_true, Nat.reduceLeDiff, Nat.reduceAdd, eq_self, forall_const, e_ok0, e_okss, e_ok1i, e_ok1r, e_ok1n, zl_m1000000001, zl_64, Int.reduceToNat, Int.reduceAdd, Int.reduceMul, Int.reduceSub, Int.reduceNeg, Int.reduceLT, Int.reduceLE, Int.reduceEq, not_false_eq_true, not_true_eq_false, false_implies, true_implies, implies_true, Int.reduceDiv, Int.reduceMod, zr8_zr, zr_zbo, z01_zbo, z01_0, z01_1, zbo_eq0, zup_eq, zup_o, zup_k, ne_eq, ↓ct_x_count_cfail, ↓r_cfail, ↓B_cfail, ↓ct_x_count_hgap, ↓r_hgap, ↓B_hgap, ↓ct_x_count_csum, ↓r_csum, ↓B_csum, ↓v_0, ↓g_0_0, ↓g_0_1, ↓g_0_2, ↓g_0_3, ↓g_0_4, ↓g_0_5, ↓g_0_6, ↓g_0_7, ↓g_0_8, ↓l_78, ↓s_78, ↓n_78, ↓g_0_9, ↓p_0_9, ↓v_1, ↓g_1_0, ↓g_1_1, ↓g_1_2, ↓g_1_3, ↓g_1_4, ↓g_1_5, ↓g_1_6, ↓p_1_6, ↓v_24, ↓g_24_0, ↓l_25, ↓s_25, ↓n_25, ↓g_24_1, ↓p_24_1, e5]
      refine cp_id hC H ?_
      subst c; rfl
    · refine bs_X10_count_182 hX ?_
      simp only [bk_X10_count_0, k_X10_count_0, bk_X10_count_60, k_X10_count_60, bk_X10_count_71, k_X10_count_71, bk_X10_count_82, k_X10_count_82, bk_X10_count_93, k_X10_count_93, bk_X10_count_104, k_X10_count_104, bk_X10_count_120, k_X10_count_120, bk_X10_count_136, k_X10_count_136, bk_X10_count_160, k_X10_count_160, bk_X10_count_171, k_X10_count_171, bk_X10_count_182, k_X10_count_182, bk_X10_count_193, k_X10_count_193, bk_X10_count_201, k_X10_count_201, ↓e_rk1, ↓e_rk0, ↓e_sk0, ↓e_sks, ↓e_ldi0, ↓e_ldis, ↓e_ldl0, ↓e_ldls, ↓e_lda0, ↓e_ldas, ↓e_ok0, ↓e_okss, ↓e_ok1i, ↓e_ok1r, ↓e_ok1n, ↓e_sti, ↓e_sta, ↓e_1, ↓e_2, ↓e_l1, ↓e_l2, ↓e_li, ↓e_sw0, ↓e_sws, ↓e_ceq, ↓e_cne, ↓e_clt, ↓e_cge, ↓e_cgt, ↓e_cle, ↓e_nil, ↓e_cons, ↓e_iconst, ↓e_bipush, ↓e_sipush, ↓e_ldc, ↓e_ldcw, ↓e_ldc2, ↓e_lconst, ↓e_iloadn, ↓e_iload, ↓e_lloadn, ↓e_lload, ↓e_aloadn, ↓e_aload, ↓e_istoren, ↓e_istore, ↓e_astoren, ↓e_astore, ↓e_add, ↓e_iinc, ↓e_iadd, ↓e_isub, ↓e_imul, ↓e_iand, ↓e_ior, ↓e_ixor, ↓e_ishl, ↓e_iushr, ↓e_idiv, ↓e_irem, ↓e_ineg, ↓e_i2l, ↓e_i2b, ↓e_i2s, ↓e_l2i, ↓e_land, ↓e_lor, ↓e_lshl, ↓e_lshr, ↓e_lushr, ↓e_lcmp, ↓e_dupi, ↓e_dupr, ↓e_popi, ↓e_dup2, ↓e_goto, ↓e_if, ↓e_icmp, ↓e_tsw, ↓e_lsw, ↓e_getf, ↓e_putf, ↓e_gets, ↓e_iald, ↓e_cald, ↓e_iast, ↓e_aald, ↓e_aast, ↓e_len, ↓e_copy, ↓e_abs, ↓e_max, ↓e_min, ↓e_iret, ↓e_aret, ↓e_vret, ↓e_is0, ↓e_is1, ↓e_is2, ↓e_is3, ↓e_is4, ↓e_iv1, ↓e_iv2, ↓e_iv3, ↓e_iv4, ↓e_iv5, ↓e_iv6, ↓rt_X10_count, ↓reduceIte, Nat.reduceAdd, Nat.reduceEqDiff, ↓zcl0, ↓zclv, List.map_nil, List.sum_nil, List.map_cons, List.sum_cons, zcat, true_and, and_true, Nat.reduceLeDiff, Nat.reduceAdd, eq_self, forall_const, e_ok0, e_okss, e_ok1i, e_ok1r, e_ok1n, zl_m1000000001, zl_64, Int.reduceToNat, Int.reduceAdd, Int.reduceMul, Int.reduceSub, Int.reduceNeg, Int.reduceLT, Int.reduceLE, Int.reduceEq, not_false_eq_true, not_true_eq_false, false_implies, true_implies, implies_true, Int.reduceDiv, Int.reduceMod, zr8_zr, zr_zbo, z01_zbo, z01_0, z01_1, zbo_eq0, zup_eq, zup_o, zup_k, ne_eq, ↓ct_x_count_cfail, ↓r_cfail, ↓B_cfail, ↓ct_x_count_hgap, ↓r_hgap, ↓B_hgap, ↓ct_x_count_csum, ↓r_csum, ↓B_csum, ↓v_0, ↓g_0_0, ↓g_0_1, ↓g_0_2, ↓g_0_3, ↓g_0_4, ↓g_0_5, ↓g_0_6, ↓g_0_7, ↓g_0_8, ↓l_78, ↓s_78, ↓n_78, ↓g_0_9, ↓p_0_9, ↓v_74, ↓g_74_0, ↓g_74_1, ↓p_74_1, ↓g_74_2, ↓p_74_2, ↓g_74_3, ↓p_74_3, ↓v_75, ↓g_75_0, ↓l_76, ↓s_76, ↓n_76, ↓g_75_1, ↓p_75_1, e9]
      refine cp_id hC H ?_
      subst c; rfl
    · refine bs_X10_count_193 hX ?_
      simp only [bk_X10_count_0, k_X10_count_0, bk_X10_count_60, k_X10_count_60, bk_X10_count_71, k_X10_count_71, bk_X10_count_82, k_X10_count_82, bk_X10_count_93, k_X10_count_93, bk_X10_count_104, k_X10_count_104, bk_X10_count_120, k_X10_count_120, bk_X10_count_136, k_X10_count_136, bk_X10_count_160, k_X10_count_160, bk_X10_count_171, k_X10_count_171, bk_X10_count_182, k_X10_count_182, bk_X10_count_193, k_X10_count_193, bk_X10_count_201, k_X10_count_201, ↓e_rk1, ↓e_rk0, ↓e_sk0, ↓e_sks, ↓e_ldi0, ↓e_ldis, ↓e_ldl0, ↓e_ldls, ↓e_lda0, ↓e_ldas, ↓e_ok0, ↓e_okss, ↓e_ok1i, ↓e_ok1r, ↓e_ok1n, ↓e_sti, ↓e_sta, ↓e_1, ↓e_2, ↓e_l1, ↓e_l2, ↓e_li, ↓e_sw0, ↓e_sws, ↓e_ceq, ↓e_cne, ↓e_clt, ↓e_cge, ↓e_cgt, ↓e_cle, ↓e_nil, ↓e_cons, ↓e_iconst, ↓e_bipush, ↓e_sipush, ↓e_ldc, ↓e_ldcw, ↓e_ldc2, ↓e_lconst, ↓e_iloadn, ↓e_iload, ↓e_lloadn, ↓e_lload, ↓e_aloadn, ↓e_aload, ↓e_istoren, ↓e_istore, ↓e_astoren, ↓e_astore, ↓e_add, ↓e_iinc, ↓e_iadd, ↓e_isub, ↓e_imul, ↓e_iand, ↓e_ior, ↓e_ixor, ↓e_ishl, ↓e_iushr, ↓e_idiv, ↓e_irem, ↓e_ineg, ↓e_i2l, ↓e_i2b, ↓e_i2s, ↓e_l2i, ↓e_land, ↓e_lor, ↓e_lshl, ↓e_lshr, ↓e_lushr, ↓e_lcmp, ↓e_dupi, ↓e_dupr, ↓e_popi, ↓e_dup2, ↓e_goto, ↓e_if, ↓e_icmp, ↓e_tsw, ↓e_lsw, ↓e_getf, ↓e_putf, ↓e_gets, ↓e_iald, ↓e_cald, ↓e_iast, ↓e_aald, ↓e_aast, ↓e_len, ↓e_copy, ↓e_abs, ↓e_max, ↓e_min, ↓e_iret, ↓e_aret, ↓e_vret, ↓e_is0, ↓e_is1, ↓e_is2, ↓e_is3, ↓e_is4, ↓e_iv1, ↓e_iv2, ↓e_iv3, ↓e_iv4, ↓e_iv5, ↓e_iv6, ↓rt_X10_count, ↓reduceIte, Nat.reduceAdd, Nat.reduceEqDiff, ↓zcl0, ↓zclv, List.map_nil, List.sum_nil, List.map_cons, List.sum_cons, zcat, true_and, and_true, Nat.reduceLeDiff, Nat.reduceAdd, eq_self, forall_const, e_ok0, e_okss, e_ok1i, e_ok1r, e_ok1n, zl_m1000000001, zl_64, Int.reduceToNat, Int.reduceAdd, Int.reduceMul, Int.reduceSub, Int.reduceNeg, Int.reduceLT, Int.reduceLE, Int.reduceEq, not_false_eq_true, not_true_eq_false, false_implies, true_implies, implies_true, Int.reduceDiv, Int.reduceMod, zr8_zr, zr_zbo, z01_zbo, z01_0, z01_1, zbo_eq0, zup_eq, zup_o, zup_k, ne_eq, ↓ct_x_count_cfail, ↓r_cfail, ↓B_cfail, ↓ct_x_count_hgap, ↓r_hgap, ↓B_hgap, ↓ct_x_count_csum, ↓r_csum, ↓B_csum, ↓v_0, ↓g_0_0, ↓g_0_1, ↓g_0_2, ↓g_0_3, ↓g_0_4, ↓g_0_5, ↓g_0_6, ↓g_0_7, ↓g_0_8, ↓l_78, ↓s_78, ↓n_78, ↓g_0_9, ↓p_0_9, ↓v_1, ↓g_1_0, ↓g_1_1, ↓g_1_2, ↓g_1_3, ↓g_1_4, ↓g_1_5, ↓g_1_6, ↓p_1_6, e3]
      refine cp_id hC H ?_
      subst c; rfl
    · refine bs_X10_count_201 hX ?_
      simp only [bk_X10_count_0, k_X10_count_0, bk_X10_count_60, k_X10_count_60, bk_X10_count_71, k_X10_count_71, bk_X10_count_82, k_X10_count_82, bk_X10_count_93, k_X10_count_93, bk_X10_count_104, k_X10_count_104, bk_X10_count_120, k_X10_count_120, bk_X10_count_136, k_X10_count_136, bk_X10_count_160, k_X10_count_160, bk_X10_count_171, k_X10_count_171, bk_X10_count_182, k_X10_count_182, bk_X10_count_193, k_X10_count_193, bk_X10_count_201, k_X10_count_201, ↓e_rk1, ↓e_rk0, ↓e_sk0, ↓e_sks, ↓e_ldi0, ↓e_ldis, ↓e_ldl0, ↓e_ldls, ↓e_lda0, ↓e_ldas, ↓e_ok0, ↓e_okss, ↓e_ok1i, ↓e_ok1r, ↓e_ok1n, ↓e_sti, ↓e_sta, ↓e_1, ↓e_2, ↓e_l1, ↓e_l2, ↓e_li, ↓e_sw0, ↓e_sws, ↓e_ceq, ↓e_cne, ↓e_clt, ↓e_cge, ↓e_cgt, ↓e_cle, ↓e_nil, ↓e_cons, ↓e_iconst, ↓e_bipush, ↓e_sipush, ↓e_ldc, ↓e_ldcw, ↓e_ldc2, ↓e_lconst, ↓e_iloadn, ↓e_iload, ↓e_lloadn, ↓e_lload, ↓e_aloadn, ↓e_aload, ↓e_istoren, ↓e_istore, ↓e_astoren, ↓e_astore, ↓e_add, ↓e_iinc, ↓e_iadd, ↓e_isub, ↓e_imul, ↓e_iand, ↓e_ior, ↓e_ixor, ↓e_ishl, ↓e_iushr, ↓e_idiv, ↓e_irem, ↓e_ineg, ↓e_i2l, ↓e_i2b, ↓e_i2s, ↓e_l2i, ↓e_land, ↓e_lor, ↓e_lshl, ↓e_lshr, ↓e_lushr, ↓e_lcmp, ↓e_dupi, ↓e_dupr, ↓e_popi, ↓e_dup2, ↓e_goto, ↓e_if, ↓e_icmp, ↓e_tsw, ↓e_lsw, ↓e_getf, ↓e_putf, ↓e_gets, ↓e_iald, ↓e_cald, ↓e_iast, ↓e_aald, ↓e_aast, ↓e_len, ↓e_copy, ↓e_abs, ↓e_max, ↓e_min, ↓e_iret, ↓e_aret, ↓e_vret, ↓e_is0, ↓e_is1, ↓e_is2, ↓e_is3, ↓e_is4, ↓e_iv1, ↓e_iv2, ↓e_iv3, ↓e_iv4, ↓e_iv5, ↓e_iv6, ↓rt_X10_count, ↓reduceIte, Nat.reduceAdd, Nat.reduceEqDiff, ↓zcl0, ↓zclv, List.map_nil, List.sum_nil, List.map_cons, List.sum_cons, zcat, true_and, and_true, Nat.reduceLeDiff, Nat.reduceAdd, eq_self, forall_const, e_ok0, e_okss, e_ok1i, e_ok1r, e_ok1n, zl_m1000000001, zl_64, Int.reduceToNat, Int.reduceAdd, Int.reduceMul, Int.reduceSub, Int.reduceNeg, Int.reduceLT, Int.reduceLE, Int.reduceEq, not_false_eq_true, not_true_eq_false, false_implies, true_implies, implies_true, Int.reduceDiv, Int.reduceMod, zr8_zr, zr_zbo, z01_zbo, z01_0, z01_1, zbo_eq0, zup_eq, zup_o, zup_k, ne_eq, ↓ct_x_count_cfail, ↓r_cfail, ↓B_cfail, ↓ct_x_count_hgap, ↓r_hgap, ↓B_hgap, ↓ct_x_count_csum, ↓r_csum, ↓B_csum, ↓v_0, ↓g_0_0, ↓g_0_1, ↓g_0_2, ↓g_0_3, ↓g_0_4, ↓g_0_5, ↓g_0_6, ↓g_0_7, ↓g_0_8, ↓l_78, ↓s_78, ↓n_78, ↓g_0_9, ↓p_0_9]
      refine ⟨1, by omega, by omega, cp_no hC H vd (by omega) ?_ rfl⟩
      unfold R_count
      rw [if_neg c0, if_neg c1, if_neg c2, if_neg c3, if_neg c4, if_neg c5, if_neg c6, if_neg c7, if_neg c8, if_neg c9, if_neg c10]
def B_slaw (u : Int) (M : Nat → Nat → Int) (post : Option ZV → (Nat → Nat → Int) → Prop) : Prop := rg u ∧ post (some (.inr (.inr (.inl (if u = 0 then 14 else 18))))) M
def C_slaw : ZC := fun as h post => match as with
  | [.inr (.inr (.inl 1)), .inl u] => h.1 = zG ∧ B_slaw u h.2 (fun v M => post v (zG, M))
  | _ => False
theorem r_slaw {u : Int} {M : Nat → Nat → Int} {post : Option ZV → ZH → Prop} : C_slaw [.inr (.inr (.inl 1)), .inl u] (zG, M) post = B_slaw u M (fun v M => post v (zG, M)) := by show (zG = zG ∧ _) = _; simp
def ct_slaw : Nat → ZC := fun n => fun _ _ _ => False
theorem c_slaw {E : ZE} {d : Nat} (hd : 1 ≤ d) : zMet E d mX6_lawOf C_slaw := by
  refine zmet_of (o := 6) (ini := false) (CT := ct_slaw) gd_X6_lawOf rfl (fun h => by cases h) (by omega) ?_ ?_
  · intro n as h post hh
    unfold ct_slaw at hh
    exact hh.elim
  intro as h post hC
  match as, hC with
  | [.inr (.inr (.inl 1)), .inl u], hC =>
    refine ⟨Nat.le_of_ble_eq_true rfl, fun X hX => bs_X6_lawOf_0 hX ?_⟩
    obtain ⟨G, M⟩ := h
    obtain ⟨hG, hC⟩ := hC
    dsimp only at hG
    subst hG
    simp only [B_slaw] at hC
    show bk_X6_lawOf_0 E ct_slaw X _ [some (.inr (.inr (.inl 1))), some (.inl u)] [] (zG, M) (0, 0)
    obtain ⟨h1, hC⟩ := hC
    simp only [bk_X6_lawOf_0, k_X6_lawOf_0, bk_X6_lawOf_11, k_X6_lawOf_11, bk_X6_lawOf_15, k_X6_lawOf_15, ↓e_rk1, ↓e_rk0, ↓e_sk0, ↓e_sks, ↓e_ldi0, ↓e_ldis, ↓e_ldl0, ↓e_ldls, ↓e_lda0, ↓e_ldas, ↓e_ok0, ↓e_okss, ↓e_ok1i, ↓e_ok1r, ↓e_ok1n, ↓e_sti, ↓e_sta, ↓e_1, ↓e_2, ↓e_l1, ↓e_l2, ↓e_li, ↓e_sw0, ↓e_sws, ↓e_ceq, ↓e_cne, ↓e_clt, ↓e_cge, ↓e_cgt, ↓e_cle, ↓e_nil, ↓e_cons, ↓e_iconst, ↓e_bipush, ↓e_sipush, ↓e_ldc, ↓e_ldcw, ↓e_ldc2, ↓e_lconst, ↓e_iloadn, ↓e_iload, ↓e_lloadn, ↓e_lload, ↓e_aloadn, ↓e_aload, ↓e_istoren, ↓e_istore, ↓e_astoren, ↓e_astore, ↓e_add, ↓e_iinc, ↓e_iadd, ↓e_isub, ↓e_imul, ↓e_iand, ↓e_ior, ↓e_ixor, ↓e_ishl, ↓e_iushr, ↓e_idiv, ↓e_irem, ↓e_ineg, ↓e_i2l, ↓e_i2b, ↓e_i2s, ↓e_l2i, ↓e_land, ↓e_lor, ↓e_lshl, ↓e_lshr, ↓e_lushr, ↓e_lcmp, ↓e_dupi, ↓e_dupr, ↓e_popi, ↓e_dup2, ↓e_goto, ↓e_if, ↓e_icmp, ↓e_tsw, ↓e_lsw, ↓e_getf, ↓e_putf, ↓e_gets, ↓e_iald, ↓e_cald, ↓e_iast, ↓e_aald, ↓e_aast, ↓e_len, ↓e_copy, ↓e_abs, ↓e_max, ↓e_min, ↓e_iret, ↓e_aret, ↓e_vret, ↓e_is0, ↓e_is1, ↓e_is2, ↓e_is3, ↓e_is4, ↓e_iv1, ↓e_iv2, ↓e_iv3, ↓e_iv4, ↓e_iv5, ↓e_iv6, ↓rt_X6_lawOf, ↓reduceIte, Nat.reduceAdd, Nat.reduceEqDiff, ↓zcl0, ↓zclv, List.map_nil, List.sum_nil, List.map_cons, List.sum_cons, zcat, true_and, and_true, Nat.reduceLeDiff, Nat.reduceAdd, eq_self, forall_const, e_ok0, e_okss, e_ok1i, e_ok1r, e_ok1n, Int.reduceToNat, Int.reduceAdd, Int.reduceMul, Int.reduceSub, Int.reduceNeg, Int.reduceLT, Int.reduceLE, Int.reduceEq, not_false_eq_true, not_true_eq_false, false_implies, true_implies, implies_true, Int.reduceDiv, Int.reduceMod, zr8_zr, zr_zbo, z01_zbo, z01_0, z01_1, zbo_eq0, zup_eq, zup_o, zup_k, ne_eq, ↓v_1, ↓g_1_0, ↓g_1_1, ↓g_1_2, ↓g_1_3, ↓g_1_4, ↓g_1_5, ↓g_1_6, ↓p_1_6, zr_rg, h1]
    refine ⟨fun q => ?_, fun q => ?_⟩
    · rw [if_pos q] at hC; exact hC
    · rw [if_neg q] at hC; exact hC
def B_x_law (u : Int) (a : Int) (b : Int) (c : Int) (M : Nat → Nat → Int) (post : Option ZV → (Nat → Nat → Int) → Prop) : Prop := rg u ∧ rg a ∧ rg b ∧ rg c ∧ ∃ S : ZMm, Vs S ∧ Rc S M ∧ cp M (R_law S u a b c) post
def C_x_law : ZC := fun as h post => match as with
  | [.inr (.inr (.inl 0)), .inl u, .inl a, .inl b, .inl c] => h.1 = zG ∧ B_x_law u a b c h.2 (fun v M => post v (zG, M))
  | _ => False
theorem r_x_law {u : Int} {a : Int} {b : Int} {c : Int} {M : Nat → Nat → Int} {post : Option ZV → ZH → Prop} : C_x_law [.inr (.inr (.inl 0)), .inl u, .inl a, .inl b, .inl c] (zG, M) post = B_x_law u a b c M (fun v M => post v (zG, M)) := by show (zG = zG ∧ _) = _; simp
def ct_x_law : Nat → ZC := fun n => if n = 111 then C_cbey else if n = 110 then C_cfail else if n = 44 then C_slaw else if n = 26 then C_lgives else fun _ _ _ => False
theorem ct_x_law_cbey {as : List ZV} {h : ZH} {post : Option ZV → ZH → Prop} : ct_x_law 111 as h post = C_cbey as h post := rfl
theorem ct_x_law_cfail {as : List ZV} {h : ZH} {post : Option ZV → ZH → Prop} : ct_x_law 110 as h post = C_cfail as h post := rfl
theorem ct_x_law_slaw {as : List ZV} {h : ZH} {post : Option ZV → ZH → Prop} : ct_x_law 44 as h post = C_slaw as h post := rfl
theorem ct_x_law_lgives {as : List ZV} {h : ZH} {post : Option ZV → ZH → Prop} : ct_x_law 26 as h post = C_lgives as h post := rfl
theorem c_x_law {E : ZE} {d : Nat} (hd : 3 ≤ d) : zMet E d mX10_law C_x_law := by
  refine zmet_of (o := 10) (ini := false) (CT := ct_x_law) gd_X10_law rfl (fun h => by cases h) (by omega) ?_ ?_
  · intro n as h post hh
    unfold ct_x_law at hh
    by_cases c : n = 111
    · subst c; exact ⟨gd_X10_isBeyond, 1, by omega, c_cbey (by omega)⟩
    rw [if_neg c] at hh
    by_cases c : n = 110
    · subst c; exact ⟨gd_X10_failed, 1, by omega, c_cfail (by omega)⟩
    rw [if_neg c] at hh
    by_cases c : n = 44
    · subst c; exact ⟨gd_X6_lawOf, 1, by omega, c_slaw (by omega)⟩
    rw [if_neg c] at hh
    by_cases c : n = 26
    · subst c; exact ⟨gd_X3_gives, 2, by omega, c_lgives (by omega)⟩
    rw [if_neg c] at hh
    exact hh.elim
  intro as h post hC
  match as, hC with
  | [.inr (.inr (.inl 0)), .inl u, .inl a, .inl b, .inl c], hC =>
    refine ⟨Nat.le_of_ble_eq_true rfl, fun X hX => bs_X10_law_0 hX ?_⟩
    obtain ⟨G, M⟩ := h
    obtain ⟨hG, hC⟩ := hC
    dsimp only at hG
    subst hG
    simp only [B_x_law] at hC
    show bk_X10_law_0 E ct_x_law X _ [some (.inr (.inr (.inl 0))), some (.inl u), some (.inl a), some (.inl b), some (.inl c)] [] (zG, M) (0, 0)
    obtain ⟨h1, h2, h3, h4, S, vs9, H, hC⟩ := hC
    have vd : Vd (S 88) := vs9.1
    have n9 := H.1
    have J8 : ¬ (0 ≤ u ∧ u ≤ 1) → X 8 [some (.inr (.inr (.inl 0))), some (.inl u), some (.inl a), some (.inl b), some (.inl c)] [] (zG, M) (0, 0) := by
      intro q
      refine bs_X10_law_8 hX ?_
      simp only [bk_X10_law_0, k_X10_law_0, bk_X10_law_8, k_X10_law_8, bk_X10_law_15, k_X10_law_15, ↓e_rk1, ↓e_rk0, ↓e_sk0, ↓e_sks, ↓e_ldi0, ↓e_ldis, ↓e_ldl0, ↓e_ldls, ↓e_lda0, ↓e_ldas, ↓e_ok0, ↓e_okss, ↓e_ok1i, ↓e_ok1r, ↓e_ok1n, ↓e_sti, ↓e_sta, ↓e_1, ↓e_2, ↓e_l1, ↓e_l2, ↓e_li, ↓e_sw0, ↓e_sws, ↓e_ceq, ↓e_cne, ↓e_clt, ↓e_cge, ↓e_cgt, ↓e_cle, ↓e_nil, ↓e_cons, ↓e_iconst, ↓e_bipush, ↓e_sipush, ↓e_ldc, ↓e_ldcw, ↓e_ldc2, ↓e_lconst, ↓e_iloadn, ↓e_iload, ↓e_lloadn, ↓e_lload, ↓e_aloadn, ↓e_aload, ↓e_istoren, ↓e_istore, ↓e_astoren, ↓e_astore, ↓e_add, ↓e_iinc, ↓e_iadd, ↓e_isub, ↓e_imul, ↓e_iand, ↓e_ior, ↓e_ixor, ↓e_ishl, ↓e_iushr, ↓e_idiv, ↓e_irem, ↓e_ineg, ↓e_i2l, ↓e_i2b, ↓e_i2s, ↓e_l2i, ↓e_land, ↓e_lor, ↓e_lshl, ↓e_lshr, ↓e_lushr, ↓e_lcmp, ↓e_dupi, ↓e_dupr, ↓e_popi, ↓e_dup2, ↓e_goto, ↓e_if, ↓e_icmp, ↓e_tsw, ↓e_lsw, ↓e_getf, ↓e_putf, ↓e_gets, ↓e_iald, ↓e_cald, ↓e_iast, ↓e_aald, ↓e_aast, ↓e_len, ↓e_copy, ↓e_abs, ↓e_max, ↓e_min, ↓e_iret, ↓e_aret, ↓e_vret, ↓e_is0, ↓e_is1, ↓e_is2, ↓e_is3, ↓e_is4, ↓e_iv1, ↓e_iv2, ↓e_iv3, ↓e_iv4, ↓e_iv5, ↓e_iv6, ↓rt_X10_law, ↓reduceIte, Nat.reduceAdd, Nat.reduceEqDiff, ↓zcl0, ↓zclv, List.map_nil, List.sum_nil, List.map_cons, List.sum_cons, zcat, true_and, and_true, Nat.reduceLeDiff, Nat.reduceAdd, eq_self, forall_const, e_ok0, e_okss, e_ok1i, e_ok1r, e_ok1n, zl_m1000000001, zl_1, Int.reduceToNat, Int.reduceAdd, Int.reduceMul, Int.reduceSub, Int.reduceNeg, Int.reduceLT, Int.reduceLE, Int.reduceEq, not_false_eq_true, not_true_eq_false, false_implies, true_implies, implies_true, Int.reduceDiv, Int.reduceMod, zr8_zr, zr_zbo, z01_zbo, z01_0, z01_1, zbo_eq0, zup_eq, zup_o, zup_k, ne_eq, ↓ct_x_law_cbey, ↓r_cbey, ↓B_cbey, ↓ct_x_law_cfail, ↓r_cfail, ↓B_cfail, ↓ct_x_law_slaw, ↓r_slaw, ↓B_slaw, ↓ct_x_law_lgives, ↓r_lgives, ↓B_lgives, ↓v_0, ↓g_0_0, ↓g_0_1, ↓g_0_2, ↓g_0_3, ↓g_0_4, ↓g_0_5, ↓g_0_6, ↓g_0_7, ↓g_0_8, ↓l_78, ↓s_78, ↓n_78, ↓g_0_9, ↓p_0_9]
      exact ⟨1, by omega, by omega, cp_no hC H vd (by omega) (by unfold R_law; rw [if_neg (by omega)]) rfl⟩
    have J15 : (0 ≤ u ∧ u ≤ 1) → X 15 [some (.inr (.inr (.inl 0))), some (.inl u), some (.inl a), some (.inl b), some (.inl c)] [] (zG, M) (0, 0) := by
      intro q
      refine bs_X10_law_15 hX ?_
      have uu : u = 0 ∨ u = 1 := by omega
      rcases uu with e | e
      · subst e
        simp only [bk_X10_law_0, k_X10_law_0, bk_X10_law_8, k_X10_law_8, bk_X10_law_15, k_X10_law_15, ↓e_rk1, ↓e_rk0, ↓e_sk0, ↓e_sks, ↓e_ldi0, ↓e_ldis, ↓e_ldl0, ↓e_ldls, ↓e_lda0, ↓e_ldas, ↓e_ok0, ↓e_okss, ↓e_ok1i, ↓e_ok1r, ↓e_ok1n, ↓e_sti, ↓e_sta, ↓e_1, ↓e_2, ↓e_l1, ↓e_l2, ↓e_li, ↓e_sw0, ↓e_sws, ↓e_ceq, ↓e_cne, ↓e_clt, ↓e_cge, ↓e_cgt, ↓e_cle, ↓e_nil, ↓e_cons, ↓e_iconst, ↓e_bipush, ↓e_sipush, ↓e_ldc, ↓e_ldcw, ↓e_ldc2, ↓e_lconst, ↓e_iloadn, ↓e_iload, ↓e_lloadn, ↓e_lload, ↓e_aloadn, ↓e_aload, ↓e_istoren, ↓e_istore, ↓e_astoren, ↓e_astore, ↓e_add, ↓e_iinc, ↓e_iadd, ↓e_isub, ↓e_imul, ↓e_iand, ↓e_ior, ↓e_ixor, ↓e_ishl, ↓e_iushr, ↓e_idiv, ↓e_irem, ↓e_ineg, ↓e_i2l, ↓e_i2b, ↓e_i2s, ↓e_l2i, ↓e_land, ↓e_lor, ↓e_lshl, ↓e_lshr, ↓e_lushr, ↓e_lcmp, ↓e_dupi, ↓e_dupr, ↓e_popi, ↓e_dup2, ↓e_goto, ↓e_if, ↓e_icmp, ↓e_tsw, ↓e_lsw, ↓e_getf, ↓e_putf, ↓e_gets, ↓e_iald, ↓e_cald, ↓e_iast, ↓e_aald, ↓e_aast, ↓e_len, ↓e_copy, ↓e_abs, ↓e_max, ↓e_min, ↓e_iret, ↓e_aret, ↓e_vret, ↓e_is0, ↓e_is1, ↓e_is2, ↓e_is3, ↓e_is4, ↓e_iv1, ↓e_iv2, ↓e_iv3, ↓e_iv4, ↓e_iv5, ↓e_iv6, ↓rt_X10_law, ↓reduceIte, Nat.reduceAdd, Nat.reduceEqDiff, ↓zcl0, ↓zclv, List.map_nil, List.sum_nil, List.map_cons, List.sum_cons, zcat, true_and, and_true, Nat.reduceLeDiff, Nat.reduceAdd, eq_self, forall_const, e_ok0, e_okss, e_ok1i, e_ok1r, e_ok1n, zl_m1000000001, zl_1, Int.reduceToNat, Int.reduceAdd, Int.reduceMul, Int.reduceSub, Int.reduceNeg, Int.reduceLT, Int.reduceLE, Int.reduceEq, not_false_eq_true, not_true_eq_false, false_implies, true_implies, implies_true, Int.reduceDiv, Int.reduceMod, zr8_zr, zr_zbo, z01_zbo, z01_0, z01_1, zbo_eq0, zup_eq, zup_o, zup_k, ne_eq, ↓ct_x_law_cbey, ↓r_cbey, ↓B_cbey, ↓ct_x_law_cfail, ↓r_cfail, ↓B_cfail, ↓ct_x_law_slaw, ↓r_slaw, ↓B_slaw, ↓ct_x_law_lgives, ↓r_lgives, ↓B_lgives, ↓v_0, ↓g_0_0, ↓g_0_1, ↓g_0_2, ↓g_0_3, ↓g_0_4, ↓g_0_5, ↓g_0_6, ↓g_0_7, ↓g_0_8, ↓l_78, ↓s_78, ↓n_78, ↓g_0_9, ↓p_0_9, ↓v_1, ↓g_1_0, ↓g_1_1, ↓g_1_2, ↓g_1_3, ↓g_1_4, ↓g_1_5, ↓g_1_6, ↓p_1_6, ↓v_14, ↓g_14_0, ↓g_14_1, ↓l_17, ↓s_17, ↓n_17]
        refine ⟨⟨by omega, by omega⟩, S 88, 0, Or.inl ⟨rfl, rfl⟩, n9.2.2.1, vd.2.2.2.2.2.2.2.2.2.2.1, fun M2 f2 => cp_G hC H vd (fun x p1 p2 p3 => f2 x (by omega)) ?_⟩
        unfold R_law
        rw [if_pos q]
        rfl
      · subst e
        simp only [bk_X10_law_0, k_X10_law_0, bk_X10_law_8, k_X10_law_8, bk_X10_law_15, k_X10_law_15, ↓e_rk1, ↓e_rk0, ↓e_sk0, ↓e_sks, ↓e_ldi0, ↓e_ldis, ↓e_ldl0, ↓e_ldls, ↓e_lda0, ↓e_ldas, ↓e_ok0, ↓e_okss, ↓e_ok1i, ↓e_ok1r, ↓e_ok1n, ↓e_sti, ↓e_sta, ↓e_1, ↓e_2, ↓e_l1, ↓e_l2, ↓e_li, ↓e_sw0, ↓e_sws, ↓e_ceq, ↓e_cne, ↓e_clt, ↓e_cge, ↓e_cgt, ↓e_cle, ↓e_nil, ↓e_cons, ↓e_iconst, ↓e_bipush, ↓e_sipush, ↓e_ldc, ↓e_ldcw, ↓e_ldc2, ↓e_lconst, ↓e_iloadn, ↓e_iload, ↓e_lloadn, ↓e_lload, ↓e_aloadn, ↓e_aload, ↓e_istoren, ↓e_istore, ↓e_astoren, ↓e_astore, ↓e_add, ↓e_iinc, ↓e_iadd, ↓e_isub, ↓e_imul, ↓e_iand, ↓e_ior, ↓e_ixor, ↓e_ishl, ↓e_iushr, ↓e_idiv, ↓e_irem, ↓e_ineg, ↓e_i2l, ↓e_i2b, ↓e_i2s, ↓e_l2i, ↓e_land, ↓e_lor, ↓e_lshl, ↓e_lshr, ↓e_lushr, ↓e_lcmp, ↓e_dupi, ↓e_dupr, ↓e_popi, ↓e_dup2, ↓e_goto, ↓e_if, ↓e_icmp, ↓e_tsw, ↓e_lsw, ↓e_getf, ↓e_putf, ↓e_gets, ↓e_iald, ↓e_cald, ↓e_iast, ↓e_aald, ↓e_aast, ↓e_len, ↓e_copy, ↓e_abs, ↓e_max, ↓e_min, ↓e_iret, ↓e_aret, ↓e_vret, ↓e_is0, ↓e_is1, ↓e_is2, ↓e_is3, ↓e_is4, ↓e_iv1, ↓e_iv2, ↓e_iv3, ↓e_iv4, ↓e_iv5, ↓e_iv6, ↓rt_X10_law, ↓reduceIte, Nat.reduceAdd, Nat.reduceEqDiff, ↓zcl0, ↓zclv, List.map_nil, List.sum_nil, List.map_cons, List.sum_cons, zcat, true_and, and_true, Nat.reduceLeDiff, Nat.reduceAdd, eq_self, forall_const, e_ok0, e_okss, e_ok1i, e_ok1r, e_ok1n, zl_m1000000001, zl_1, Int.reduceToNat, Int.reduceAdd, Int.reduceMul, Int.reduceSub, Int.reduceNeg, Int.reduceLT, Int.reduceLE, Int.reduceEq, not_false_eq_true, not_true_eq_false, false_implies, true_implies, implies_true, Int.reduceDiv, Int.reduceMod, zr8_zr, zr_zbo, z01_zbo, z01_0, z01_1, zbo_eq0, zup_eq, zup_o, zup_k, ne_eq, ↓ct_x_law_cbey, ↓r_cbey, ↓B_cbey, ↓ct_x_law_cfail, ↓r_cfail, ↓B_cfail, ↓ct_x_law_slaw, ↓r_slaw, ↓B_slaw, ↓ct_x_law_lgives, ↓r_lgives, ↓B_lgives, ↓v_0, ↓g_0_0, ↓g_0_1, ↓g_0_2, ↓g_0_3, ↓g_0_4, ↓g_0_5, ↓g_0_6, ↓g_0_7, ↓g_0_8, ↓l_78, ↓s_78, ↓n_78, ↓g_0_9, ↓p_0_9, ↓v_1, ↓g_1_0, ↓g_1_1, ↓g_1_2, ↓g_1_3, ↓g_1_4, ↓g_1_5, ↓g_1_6, ↓p_1_6, ↓v_18, ↓g_18_0, ↓g_18_1, ↓l_21, ↓s_21, ↓n_21]
        refine ⟨⟨by omega, by omega⟩, S 88, 1, Or.inr ⟨rfl, rfl⟩, n9.2.2.2.1, vd.2.2.2.2.2.2.2.2.2.2.2, fun M2 f2 => cp_G hC H vd (fun x p1 p2 p3 => f2 x (by omega)) ?_⟩
        unfold R_law
        rw [if_pos q]
        rfl
    simp only [bk_X10_law_0, k_X10_law_0, bk_X10_law_8, k_X10_law_8, bk_X10_law_15, k_X10_law_15, ↓e_rk1, ↓e_rk0, ↓e_sk0, ↓e_sks, ↓e_ldi0, ↓e_ldis, ↓e_ldl0, ↓e_ldls, ↓e_lda0, ↓e_ldas, ↓e_ok0, ↓e_okss, ↓e_ok1i, ↓e_ok1r, ↓e_ok1n, ↓e_sti, ↓e_sta, ↓e_1, ↓e_2, ↓e_l1, ↓e_l2, ↓e_li, ↓e_sw0, ↓e_sws, ↓e_ceq, ↓e_cne, ↓e_clt, ↓e_cge, ↓e_cgt, ↓e_cle, ↓e_nil, ↓e_cons, ↓e_iconst, ↓e_bipush, ↓e_sipush, ↓e_ldc, ↓e_ldcw, ↓e_ldc2, ↓e_lconst, ↓e_iloadn, ↓e_iload, ↓e_lloadn, ↓e_lload, ↓e_aloadn, ↓e_aload, ↓e_istoren, ↓e_istore, ↓e_astoren, ↓e_astore, ↓e_add, ↓e_iinc, ↓e_iadd, ↓e_isub, ↓e_imul, ↓e_iand, ↓e_ior, ↓e_ixor, ↓e_ishl, ↓e_iushr, ↓e_idiv, ↓e_irem, ↓e_ineg, ↓e_i2l, ↓e_i2b, ↓e_i2s, ↓e_l2i, ↓e_land, ↓e_lor, ↓e_lshl, ↓e_lshr, ↓e_lushr, ↓e_lcmp, ↓e_dupi, ↓e_dupr, ↓e_popi, ↓e_dup2, ↓e_goto, ↓e_if, ↓e_icmp, ↓e_tsw, ↓e_lsw, ↓e_getf, ↓e_putf, ↓e_gets, ↓e_iald, ↓e_cald, ↓e_iast, ↓e_aald, ↓e_aast, ↓e_len, ↓e_copy, ↓e_abs, ↓e_max, ↓e_min, ↓e_iret, ↓e_aret, ↓e_vret, ↓e_is0, ↓e_is1, ↓e_is2, ↓e_is3, ↓e_is4, ↓e_iv1, ↓e_iv2, ↓e_iv3, ↓e_iv4, ↓e_iv5, ↓e_iv6, ↓rt_X10_law, ↓reduceIte, Nat.reduceAdd, Nat.reduceEqDiff, ↓zcl0, ↓zclv, List.map_nil, List.sum_nil, List.map_cons, List.sum_cons, zcat, true_and, and_true, Nat.reduceLeDiff, Nat.reduceAdd, eq_self, forall_const, e_ok0, e_okss, e_ok1i, e_ok1r, e_ok1n, zl_m1000000001, zl_1, Int.reduceToNat, Int.reduceAdd, Int.reduceMul, Int.reduceSub, Int.reduceNeg, Int.reduceLT, Int.reduceLE, Int.reduceEq, not_false_eq_true, not_true_eq_false, false_implies, true_implies, implies_true, Int.reduceDiv, Int.reduceMod, zr8_zr, zr_zbo, z01_zbo, z01_0, z01_1, zbo_eq0, zup_eq, zup_o, zup_k, ne_eq, ↓ct_x_law_cbey, ↓r_cbey, ↓B_cbey, ↓ct_x_law_cfail, ↓r_cfail, ↓B_cfail, ↓ct_x_law_slaw, ↓r_slaw, ↓B_slaw, ↓ct_x_law_lgives, ↓r_lgives, ↓B_lgives, ↓v_0, ↓g_0_0, ↓g_0_1, ↓g_0_2, ↓g_0_3, ↓g_0_4, ↓g_0_5, ↓g_0_6, ↓g_0_7, ↓g_0_8, ↓l_78, ↓s_78, ↓n_78, ↓g_0_9, ↓p_0_9, zr_zbo, zbo_eq0]
    repeat' (first | assumption | apply And.intro | intro _)
    all_goals first | omega | (apply J8; omega) | (apply J15; omega)
