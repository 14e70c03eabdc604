/-! THE CLASS: rows, scenes; loose, tell, image, restore, trace -/
def k_X5_add_0 : List ZI := [(.aload_n 0, 1, (0, [0], [])), (.getfield 19, 3, (0, [5, 1], [])), (.aload_n 0, 1, (0, [0], [])), (.getfield 13, 3, (0, [5, 0], [])), (.arraylength, 1, (0, [], [])), (.if_icmp .lt 5, 3, (0, [14], [])), (.iconst 0, 1, (0, [], [])), (.ireturn, 1, (0, [], []))]
theorem ok_X5_add_0 : zOK cX5_add 5 false 2 k_X5_add_0 0 = true := zOK_by (by decide +kernel)
def k_X5_add_14 : List ZI := [(.aload_n 0, 1, (0, [0], [])), (.getfield 13, 3, (0, [5, 0], [])), (.aload_n 0, 1, (0, [0], [])), (.getfield 19, 3, (0, [5, 1], [])), (.iload_n 1, 1, (0, [1], [])), (.iastore, 1, (0, [], [])), (.aload_n 0, 1, (0, [0], [])), (.dup, 1, (0, [], [])), (.getfield 19, 3, (0, [5, 1], [])), (.iconst 1, 1, (0, [], [])), (.iadd, 1, (0, [], [])), (.putfield 19, 3, (0, [5, 1], [])), (.iconst 1, 1, (0, [], [])), (.ireturn, 1, (0, [], []))]
theorem ok_X5_add_14 : zOK cX5_add 5 false 2 k_X5_add_14 14 = true := zOK_by (by decide +kernel)
theorem rt_X5_add {g : Nat} {post : Option ZV → ZH → Prop} {h : ZH} {b : ZB2} {z : Int} : zRt mX5_add g post (some (.inl z)) h b = (post (some (.inl z)) h ∧ h.1.length = g ∧ z01 z) := rfl
def bk_X5_add_0 (E : ZE) (CT : Nat → ZC) (X : ZK) (Rt : ZR) (ls : ZL) (st : List ZV) (h : ZH) (b : ZB2) : Prop := zB E CT k_X5_add_0 0 ls st h b (fun t ls st h b => X t ls st h b) Rt
theorem bs_X5_add_0 {E : ZE} {CT : Nat → ZC} {X : ZK} {Rt : ZR} {ls : ZL} {st : List ZV} {h : ZH} {b : ZB2} (hX : zCl E mX5_add 5 false CT Rt X) (q : bk_X5_add_0 E CT X Rt ls st h b) : X 0 ls st h b := by
  refine hX k_X5_add_0 0 ok_X5_add_0 _ ?_ ls st h b q
  exact fun t ls st h b q => q
def bk_X5_add_14 (E : ZE) (CT : Nat → ZC) (X : ZK) (Rt : ZR) (ls : ZL) (st : List ZV) (h : ZH) (b : ZB2) : Prop := zB E CT k_X5_add_14 14 ls st h b (fun t ls st h b => X t ls st h b) Rt
theorem bs_X5_add_14 {E : ZE} {CT : Nat → ZC} {X : ZK} {Rt : ZR} {ls : ZL} {st : List ZV} {h : ZH} {b : ZB2} (hX : zCl E mX5_add 5 false CT Rt X) (q : bk_X5_add_14 E CT X Rt ls st h b) : X 14 ls st h b := by
  refine hX k_X5_add_14 14 ok_X5_add_14 _ ?_ ls st h b q
  exact fun t ls st h b q => q
-- X5_add: cuts [14]
def k_X5_copyFrom_0 : List ZI := [(.aload_n 0, 1, (0, [0], [])), (.aload_n 1, 1, (0, [1], [])), (.getfield 19, 3, (0, [5, 1], [])), (.aload_n 0, 1, (0, [0], [])), (.getfield 13, 3, (0, [5, 0], [])), (.arraylength, 1, (0, [], [])), (.invokestatic 23, 3, (0, [2], [])), (.putfield 19, 3, (0, [5, 1], []))]
theorem ok_X5_copyFrom_0 : zOK cX5_copyFrom 5 false 2 k_X5_copyFrom_0 0 = true := zOK_by (by decide +kernel)
def k_X5_copyFrom_16 : List ZI := [(.aload_n 1, 1, (0, [1], [])), (.getfield 13, 3, (0, [5, 0], [])), (.iconst 0, 1, (0, [], [])), (.aload_n 0, 1, (0, [0], [])), (.getfield 13, 3, (0, [5, 0], [])), (.iconst 0, 1, (0, [], [])), (.aload_n 0, 1, (0, [0], [])), (.getfield 19, 3, (0, [5, 1], [])), (.invokestatic 26, 3, (0, [], [])), (.return_, 1, (0, [], []))]
theorem ok_X5_copyFrom_16 : zOK cX5_copyFrom 5 false 2 k_X5_copyFrom_16 16 = true := zOK_by (by decide +kernel)
theorem rt_X5_copyFrom {g : Nat} {post : Option ZV → ZH → Prop} {h : ZH} {b : ZB2} : zRt mX5_copyFrom g post none h b = (post none h ∧ h.1.length = g) := by show (_ ∧ _ ∧ True) = _; simp
def bk_X5_copyFrom_0 (E : ZE) (CT : Nat → ZC) (X : ZK) (Rt : ZR) (ls : ZL) (st : List ZV) (h : ZH) (b : ZB2) : Prop := zB E CT k_X5_copyFrom_0 0 ls st h b (fun t ls st h b => X t ls st h b) Rt
theorem bs_X5_copyFrom_0 {E : ZE} {CT : Nat → ZC} {X : ZK} {Rt : ZR} {ls : ZL} {st : List ZV} {h : ZH} {b : ZB2} (hX : zCl E mX5_copyFrom 5 false CT Rt X) (q : bk_X5_copyFrom_0 E CT X Rt ls st h b) : X 0 ls st h b := by
  refine hX k_X5_copyFrom_0 0 ok_X5_copyFrom_0 _ ?_ ls st h b q
  exact fun t ls st h b q => q
def bk_X5_copyFrom_16 (E : ZE) (CT : Nat → ZC) (X : ZK) (Rt : ZR) (ls : ZL) (st : List ZV) (h : ZH) (b : ZB2) : Prop := zB E CT k_X5_copyFrom_16 16 ls st h b (fun t ls st h b => X t ls st h b) Rt
theorem bs_X5_copyFrom_16 {E : ZE} {CT : Nat → ZC} {X : ZK} {Rt : ZR} {ls : ZL} {st : List ZV} {h : ZH} {b : ZB2} (hX : zCl E mX5_copyFrom 5 false CT Rt X) (q : bk_X5_copyFrom_16 E CT X Rt ls st h b) : X 16 ls st h b := by
  refine hX k_X5_copyFrom_16 16 ok_X5_copyFrom_16 _ ?_ ls st h b q
  exact fun t ls st h b q => q
-- X5_copyFrom: cuts [16]
def k_X6_copyFrom_0 : List ZI := [(.aload_n 0, 1, (0, [0], [])), (.getfield 12, 3, (0, [6, 0], [])), (.aload_n 1, 1, (0, [1], [])), (.getfield 12, 3, (0, [6, 0], [])), (.invokevirtual 52, 3, (0, [24, 2, 0, 2], [])), (.aload_n 0, 1, (0, [0], [])), (.getfield 21, 3, (0, [6, 1], [])), (.aload_n 1, 1, (0, [1], [])), (.getfield 21, 3, (0, [6, 1], [])), (.invokevirtual 56, 3, (0, [2, 2, 0, 0], []))]
theorem ok_X6_copyFrom_0 : zOK cX6_copyFrom 6 false 2 k_X6_copyFrom_0 0 = true := zOK_by (by decide +kernel)
def k_X6_copyFrom_22 : List ZI := [(.aload_n 0, 1, (0, [0], [])), (.getfield 28, 3, (0, [6, 2], [])), (.getfield 59, 3, (0, [3, 0], [])), (.aload_n 1, 1, (0, [1], [])), (.getfield 28, 3, (0, [6, 2], [])), (.getfield 59, 3, (0, [3, 0], [])), (.invokevirtual 62, 3, (0, [42, 2, 0, 5], []))]
theorem ok_X6_copyFrom_22 : zOK cX6_copyFrom 6 false 2 k_X6_copyFrom_22 22 = true := zOK_by (by decide +kernel)
def k_X6_copyFrom_39 : List ZI := [(.aload_n 0, 1, (0, [0], [])), (.getfield 32, 3, (0, [6, 3], [])), (.getfield 59, 3, (0, [3, 0], [])), (.aload_n 1, 1, (0, [1], [])), (.getfield 32, 3, (0, [6, 3], [])), (.getfield 59, 3, (0, [3, 0], [])), (.invokevirtual 62, 3, (0, [42, 2, 0, 5], []))]
theorem ok_X6_copyFrom_39 : zOK cX6_copyFrom 6 false 2 k_X6_copyFrom_39 39 = true := zOK_by (by decide +kernel)
def k_X6_copyFrom_56 : List ZI := [(.aload_n 0, 1, (0, [0], [])), (.getfield 40, 3, (0, [6, 4], [])), (.aload_n 1, 1, (0, [1], [])), (.getfield 40, 3, (0, [6, 4], [])), (.invokevirtual 62, 3, (0, [42, 2, 0, 5], []))]
theorem ok_X6_copyFrom_56 : zOK cX6_copyFrom 6 false 2 k_X6_copyFrom_56 56 = true := zOK_by (by decide +kernel)
def k_X6_copyFrom_67 : List ZI := [(.aload_n 0, 1, (0, [0], [])), (.getfield 44, 3, (0, [6, 5], [])), (.aload_n 1, 1, (0, [1], [])), (.getfield 44, 3, (0, [6, 5], [])), (.invokevirtual 62, 3, (0, [42, 2, 0, 5], []))]
theorem ok_X6_copyFrom_67 : zOK cX6_copyFrom 6 false 2 k_X6_copyFrom_67 67 = true := zOK_by (by decide +kernel)
def k_X6_copyFrom_78 : List ZI := [(.aload_n 0, 1, (0, [0], [])), (.aload_n 1, 1, (0, [1], [])), (.getfield 47, 3, (0, [6, 6], [])), (.putfield 47, 3, (0, [6, 6], [])), (.return_, 1, (0, [], []))]
theorem ok_X6_copyFrom_78 : zOK cX6_copyFrom 6 false 2 k_X6_copyFrom_78 78 = true := zOK_by (by decide +kernel)
theorem rt_X6_copyFrom {g : Nat} {post : Option ZV → ZH → Prop} {h : ZH} {b : ZB2} : zRt mX6_copyFrom g post none h b = (post none h ∧ h.1.length = g) := by show (_ ∧ _ ∧ True) = _; simp
def bk_X6_copyFrom_0 (E : ZE) (CT : Nat → ZC) (X : ZK) (Rt : ZR) (ls : ZL) (st : List ZV) (h : ZH) (b : ZB2) : Prop := zB E CT k_X6_copyFrom_0 0 ls st h b (fun t ls st h b => X t ls st h b) Rt
theorem bs_X6_copyFrom_0 {E : ZE} {CT : Nat → ZC} {X : ZK} {Rt : ZR} {ls : ZL} {st : List ZV} {h : ZH} {b : ZB2} (hX : zCl E mX6_copyFrom 6 false CT Rt X) (q : bk_X6_copyFrom_0 E CT X Rt ls st h b) : X 0 ls st h b := by
  refine hX k_X6_copyFrom_0 0 ok_X6_copyFrom_0 _ ?_ ls st h b q
  exact fun t ls st h b q => q
def bk_X6_copyFrom_22 (E : ZE) (CT : Nat → ZC) (X : ZK) (Rt : ZR) (ls : ZL) (st : List ZV) (h : ZH) (b : ZB2) : Prop := zB E CT k_X6_copyFrom_22 22 ls st h b (fun t ls st h b => X t ls st h b) Rt
theorem bs_X6_copyFrom_22 {E : ZE} {CT : Nat → ZC} {X : ZK} {Rt : ZR} {ls : ZL} {st : List ZV} {h : ZH} {b : ZB2} (hX : zCl E mX6_copyFrom 6 false CT Rt X) (q : bk_X6_copyFrom_22 E CT X Rt ls st h b) : X 22 ls st h b := by
  refine hX k_X6_copyFrom_22 22 ok_X6_copyFrom_22 _ ?_ ls st h b q
  exact fun t ls st h b q => q
def bk_X6_copyFrom_39 (E : ZE) (CT : Nat → ZC) (X : ZK) (Rt : ZR) (ls : ZL) (st : List ZV) (h : ZH) (b : ZB2) : Prop := zB E CT k_X6_copyFrom_39 39 ls st h b (fun t ls st h b => X t ls st h b) Rt
theorem bs_X6_copyFrom_39 {E : ZE} {CT : Nat → ZC} {X : ZK} {Rt : ZR} {ls : ZL} {st : List ZV} {h : ZH} {b : ZB2} (hX : zCl E mX6_copyFrom 6 false CT Rt X) (q : bk_X6_copyFrom_39 E CT X Rt ls st h b) : X 39 ls st h b := by
  refine hX k_X6_copyFrom_39 39 ok_X6_copyFrom_39 _ ?_ ls st h b q
  exact fun t ls st h b q => q
def bk_X6_copyFrom_56 (E : ZE) (CT : Nat → ZC) (X : ZK) (Rt : ZR) (ls : ZL) (st : List ZV) (h : ZH) (b : ZB2) : Prop := zB E CT k_X6_copyFrom_56 56 ls st h b (fun t ls st h b => X t ls st h b) Rt
theorem bs_X6_copyFrom_56 {E : ZE} {CT : Nat → ZC} {X : ZK} {Rt : ZR} {ls : ZL} {st : List ZV} {h : ZH} {b : ZB2} (hX : zCl E mX6_copyFrom 6 false CT Rt X) (q : bk_X6_copyFrom_56 E CT X Rt ls st h b) : X 56 ls st h b := by
  refine hX k_X6_copyFrom_56 56 ok_X6_copyFrom_56 _ ?_ ls st h b q
  exact fun t ls st h b q => q
def bk_X6_copyFrom_67 (E : ZE) (CT : Nat → ZC) (X : ZK) (Rt : ZR) (ls : ZL) (st : List ZV) (h : ZH) (b : ZB2) : Prop := zB E CT k_X6_copyFrom_67 67 ls st h b (fun t ls st h b => X t ls st h b) Rt
theorem bs_X6_copyFrom_67 {E : ZE} {CT : Nat → ZC} {X : ZK} {Rt : ZR} {ls : ZL} {st : List ZV} {h : ZH} {b : ZB2} (hX : zCl E mX6_copyFrom 6 false CT Rt X) (q : bk_X6_copyFrom_67 E CT X Rt ls st h b) : X 67 ls st h b := by
  refine hX k_X6_copyFrom_67 67 ok_X6_copyFrom_67 _ ?_ ls st h b q
  exact fun t ls st h b q => q
def bk_X6_copyFrom_78 (E : ZE) (CT : Nat → ZC) (X : ZK) (Rt : ZR) (ls : ZL) (st : List ZV) (h : ZH) (b : ZB2) : Prop := zB E CT k_X6_copyFrom_78 78 ls st h b (fun t ls st h b => X t ls st h b) Rt
theorem bs_X6_copyFrom_78 {E : ZE} {CT : Nat → ZC} {X : ZK} {Rt : ZR} {ls : ZL} {st : List ZV} {h : ZH} {b : ZB2} (hX : zCl E mX6_copyFrom 6 false CT Rt X) (q : bk_X6_copyFrom_78 E CT X Rt ls st h b) : X 78 ls st h b := by
  refine hX k_X6_copyFrom_78 78 ok_X6_copyFrom_78 _ ?_ ls st h b q
  exact fun t ls st h b q => q
-- X6_copyFrom: cuts [22, 39, 56, 67, 78]
def k_X6_draw_0 : List ZI := [(.aload_n 0, 1, (0, [0], [])), (.aload_n 0, 1, (0, [0], [])), (.getfield 47, 3, (0, [6, 6], [])), (.ldc 51, 2, (1103515245, [], [])), (.imul, 1, (0, [], [])), (.sipush 12345, 3, (0, [], [])), (.iadd, 1, (0, [], [])), (.putfield 47, 3, (0, [6, 6], [])), (.aload_n 0, 1, (0, [0], [])), (.getfield 47, 3, (0, [6, 6], [])), (.bipush 8, 2, (0, [], [])), (.iushr, 1, (0, [], [])), (.ireturn, 1, (0, [], []))]
theorem ok_X6_draw_0 : zOK cX6_draw 6 false 1 k_X6_draw_0 0 = true := zOK_by (by decide +kernel)
theorem rt_X6_draw {g : Nat} {post : Option ZV → ZH → Prop} {h : ZH} {b : ZB2} {z : Int} : zRt mX6_draw g post (some (.inl z)) h b = (post (some (.inl z)) h ∧ h.1.length = g) := by show (_ ∧ _ ∧ True) = _; simp
def bk_X6_draw_0 (E : ZE) (CT : Nat → ZC) (X : ZK) (Rt : ZR) (ls : ZL) (st : List ZV) (h : ZH) (b : ZB2) : Prop := zB E CT k_X6_draw_0 0 ls st h b (fun t ls st h b => X t ls st h b) Rt
theorem bs_X6_draw_0 {E : ZE} {CT : Nat → ZC} {X : ZK} {Rt : ZR} {ls : ZL} {st : List ZV} {h : ZH} {b : ZB2} (hX : zCl E mX6_draw 6 false CT Rt X) (q : bk_X6_draw_0 E CT X Rt ls st h b) : X 0 ls st h b := by
  refine hX k_X6_draw_0 0 ok_X6_draw_0 _ ?_ ls st h b q
  exact fun t ls st h b q => q
-- X6_draw: cuts []
def k_X6_lawOf_0 : List ZI := [(.iload_n 1, 1, (0, [1], [])), (.ifCond .ne 10, 3, (0, [11], [])), (.aload_n 0, 1, (0, [0], [])), (.getfield 28, 3, (0, [6, 2], [])), (.goto 7, 3, (0, [15], []))]
theorem ok_X6_lawOf_0 : zOK cX6_lawOf 6 false 2 k_X6_lawOf_0 0 = true := zOK_by (by decide +kernel)
def k_X6_lawOf_11 : List ZI := [(.aload_n 0, 1, (0, [0], [])), (.getfield 32, 3, (0, [6, 3], []))]
theorem ok_X6_lawOf_11 : zOK cX6_lawOf 6 false 2 k_X6_lawOf_11 11 = true := zOK_by (by decide +kernel)
def k_X6_lawOf_15 : List ZI := [(.areturn, 1, (0, [], []))]
theorem ok_X6_lawOf_15 : zOK cX6_lawOf 6 false 2 k_X6_lawOf_15 15 = true := zOK_by (by decide +kernel)
theorem rt_X6_lawOf {g : Nat} {post : Option ZV → ZH → Prop} {h : ZH} {b : ZB2} {z : Nat} : zRt mX6_lawOf g post (some (.inr (.inr (.inl z)))) h b = (post (some (.inr (.inr (.inl z)))) h ∧ h.1.length = g) := by show (_ ∧ _ ∧ True) = _; simp
def bk_X6_lawOf_15 (E : ZE) (CT : Nat → ZC) (X : ZK) (Rt : ZR) (ls : ZL) (st : List ZV) (h : ZH) (b : ZB2) : Prop := zB E CT k_X6_lawOf_15 15 ls st h b (fun t ls st h b => X t ls st h b) Rt
theorem bs_X6_lawOf_15 {E : ZE} {CT : Nat → ZC} {X : ZK} {Rt : ZR} {ls : ZL} {st : List ZV} {h : ZH} {b : ZB2} (hX : zCl E mX6_lawOf 6 false CT Rt X) (q : bk_X6_lawOf_15 E CT X Rt ls st h b) : X 15 ls st h b := by
  refine hX k_X6_lawOf_15 15 ok_X6_lawOf_15 _ ?_ ls st h b q
  exact fun t ls st h b q => q
def bk_X6_lawOf_11 (E : ZE) (CT : Nat → ZC) (X : ZK) (Rt : ZR) (ls : ZL) (st : List ZV) (h : ZH) (b : ZB2) : Prop := zB E CT k_X6_lawOf_11 11 ls st h b (fun t ls st h b => if t = 15 then bk_X6_lawOf_15 E CT X Rt ls st h b else X t ls st h b) Rt
theorem bs_X6_lawOf_11 {E : ZE} {CT : Nat → ZC} {X : ZK} {Rt : ZR} {ls : ZL} {st : List ZV} {h : ZH} {b : ZB2} (hX : zCl E mX6_lawOf 6 false CT Rt X) (q : bk_X6_lawOf_11 E CT X Rt ls st h b) : X 11 ls st h b := by
  refine hX k_X6_lawOf_11 11 ok_X6_lawOf_11 _ ?_ ls st h b q
  exact by
    intro t ls st h b q
    by_cases c : t = 15
    · subst c; rw [if_pos rfl] at q; exact bs_X6_lawOf_15 hX q
    rw [if_neg c] at q
    exact q
def bk_X6_lawOf_0 (E : ZE) (CT : Nat → ZC) (X : ZK) (Rt : ZR) (ls : ZL) (st : List ZV) (h : ZH) (b : ZB2) : Prop := zB E CT k_X6_lawOf_0 0 ls st h b (fun t ls st h b => if t = 11 then bk_X6_lawOf_11 E CT X Rt ls st h b else if t = 15 then bk_X6_lawOf_15 E CT X Rt ls st h b else X t ls st h b) Rt
theorem bs_X6_lawOf_0 {E : ZE} {CT : Nat → ZC} {X : ZK} {Rt : ZR} {ls : ZL} {st : List ZV} {h : ZH} {b : ZB2} (hX : zCl E mX6_lawOf 6 false CT Rt X) (q : bk_X6_lawOf_0 E CT X Rt ls st h b) : X 0 ls st h b := by
  refine hX k_X6_lawOf_0 0 ok_X6_lawOf_0 _ ?_ ls st h b q
  exact by
    intro t ls st h b q
    by_cases c : t = 11
    · subst c; rw [if_pos rfl] at q; exact bs_X6_lawOf_11 hX q
    rw [if_neg c] at q
    by_cases c : t = 15
    · subst c; rw [if_pos rfl] at q; exact bs_X6_lawOf_15 hX q
    rw [if_neg c] at q
    exact q
-- X6_lawOf: cuts []
def k_X10_loose_0 : List ZI := [(.iload_n 1, 1, (0, [1], [])), (.iconst 1, 1, (0, [], [])), (.if_icmp .lt 9, 3, (0, [11], [])), (.iload_n 1, 1, (0, [1], [])), (.bipush 40, 2, (0, [], [])), (.if_icmp .le 10, 3, (0, [18], []))]
theorem ok_X10_loose_0 : zOK cX10_loose 10 false 4 k_X10_loose_0 0 = true := zOK_by (by decide +kernel)
def k_X10_loose_11 : List ZI := [(.aload_n 0, 1, (0, [0], [])), (.ldc 96, 2, ((-1000000001), [], [])), (.invokevirtual 97, 3, (0, [110, 2, 0, 10], [])), (.ireturn, 1, (0, [], []))]
theorem ok_X10_loose_11 : zOK cX10_loose 10 false 4 k_X10_loose_11 11 = true := zOK_by (by decide +kernel)
def k_X10_loose_18 : List ZI := [(.aload_n 0, 1, (0, [0], [])), (.getfield 12, 3, (0, [10, 0], [])), (.getfield 21, 3, (0, [6, 0], [])), (.getfield 197, 3, (0, [2, 9], [])), (.iload_n 1, 1, (0, [1], [])), (.iadd, 1, (0, [], [])), (.sipush 9999, 3, (0, [], [])), (.if_icmp .le 10, 3, (0, [43], []))]
theorem ok_X10_loose_18 : zOK cX10_loose 10 false 4 k_X10_loose_18 18 = true := zOK_by (by decide +kernel)
def k_X10_loose_36 : List ZI := [(.aload_n 0, 1, (0, [0], [])), (.ldc 107, 2, ((-1000000003), [], [])), (.invokevirtual 97, 3, (0, [110, 2, 0, 10], [])), (.ireturn, 1, (0, [], []))]
theorem ok_X10_loose_36 : zOK cX10_loose 10 false 4 k_X10_loose_36 36 = true := zOK_by (by decide +kernel)
def k_X10_loose_43 : List ZI := [(.iconst 0, 1, (0, [], [])), (.istore_n 2, 1, (0, [2], []))]
theorem ok_X10_loose_43 : zOK cX10_loose 10 false 4 k_X10_loose_43 43 = true := zOK_by (by decide +kernel)
def k_X10_loose_45 : List ZI := [(.iload_n 2, 1, (0, [2], [])), (.iload_n 1, 1, (0, [1], [])), (.if_icmp .ge 49, 3, (0, [96], [])), (.aload_n 0, 1, (0, [0], [])), (.getfield 12, 3, (0, [10, 0], [])), (.invokevirtual 207, 3, (0, [45, 1, 0, 6], [])), (.bipush 64, 2, (0, [], [])), (.irem, 1, (0, [], [])), (.istore_n 3, 1, (0, [3], []))]
theorem ok_X10_loose_45 : zOK cX10_loose 10 false 4 k_X10_loose_45 45 = true := zOK_by (by decide +kernel)
def k_X10_loose_61 : List ZI := [(.aload_n 0, 1, (0, [0], [])), (.getfield 12, 3, (0, [10, 0], [])), (.getfield 21, 3, (0, [6, 0], [])), (.getfield 101, 3, (0, [2, 0], [])), (.iload_n 3, 1, (0, [3], [])), (.aload_n 0, 1, (0, [0], [])), (.getfield 12, 3, (0, [10, 0], [])), (.invokevirtual 207, 3, (0, [45, 1, 0, 6], [])), (.bipush 10, 2, (0, [], [])), (.irem, 1, (0, [], [])), (.iastore, 1, (0, [], []))]
theorem ok_X10_loose_61 : zOK cX10_loose 10 false 4 k_X10_loose_61 61 = true := zOK_by (by decide +kernel)
def k_X10_loose_83 : List ZI := [(.aload_n 0, 1, (0, [0], [])), (.getfield 39, 3, (0, [10, 2], [])), (.invokevirtual 200, 3, (0, [4, 1, 0, 1], [])), (.iinc 2 1, 3, (0, [2], [])), (.goto (-48), 3, (0, [45], []))]
theorem ok_X10_loose_83 : zOK cX10_loose 10 false 4 k_X10_loose_83 83 = true := zOK_by (by decide +kernel)
def k_X10_loose_96 : List ZI := [(.aload_n 0, 1, (0, [0], [])), (.getfield 12, 3, (0, [10, 0], [])), (.getfield 21, 3, (0, [6, 0], [])), (.invokevirtual 203, 3, (0, [18, 1, 0, 2], [])), (.ireturn, 1, (0, [], []))]
theorem ok_X10_loose_96 : zOK cX10_loose 10 false 4 k_X10_loose_96 96 = true := zOK_by (by decide +kernel)
theorem rt_X10_loose {g : Nat} {post : Option ZV → ZH → Prop} {h : ZH} {b : ZB2} {z : Int} : zRt mX10_loose g post (some (.inl z)) h b = (post (some (.inl z)) h ∧ h.1.length = g) := by show (_ ∧ _ ∧ True) = _; simp
def bk_X10_loose_0 (E : ZE) (CT : Nat → ZC) (X : ZK) (Rt : ZR) (ls : ZL) (st : List ZV) (h : ZH) (b : ZB2) : Prop := zB E CT k_X10_loose_0 0 ls st h b (fun t ls st h b => X t ls st h b) Rt
theorem bs_X10_loose_0 {E : ZE} {CT : Nat → ZC} {X : ZK} {Rt : ZR} {ls : ZL} {st : List ZV} {h : ZH} {b : ZB2} (hX : zCl E mX10_loose 10 false CT Rt X) (q : bk_X10_loose_0 E CT X Rt ls st h b) : X 0 ls st h b := by
  refine hX k_X10_loose_0 0 ok_X10_loose_0 _ ?_ ls st h b q
  exact fun t ls st h b q => q
def bk_X10_loose_11 (E : ZE) (CT : Nat → ZC) (X : ZK) (Rt : ZR) (ls : ZL) (st : List ZV) (h : ZH) (b : ZB2) : Prop := zB E CT k_X10_loose_11 11 ls st h b (fun t ls st h b => X t ls st h b) Rt
theorem bs_X10_loose_11 {E : ZE} {CT : Nat → ZC} {X : ZK} {Rt : ZR} {ls : ZL} {st : List ZV} {h : ZH} {b : ZB2} (hX : zCl E mX10_loose 10 false CT Rt X) (q : bk_X10_loose_11 E CT X Rt ls st h b) : X 11 ls st h b := by
  refine hX k_X10_loose_11 11 ok_X10_loose_11 _ ?_ ls st h b q
  exact fun t ls st h b q => q
def bk_X10_loose_18 (E : ZE) (CT : Nat → ZC) (X : ZK) (Rt : ZR) (ls : ZL) (st : List ZV) (h : ZH) (b : ZB2) : Prop := zB E CT k_X10_loose_18 18 ls st h b (fun t ls st h b => X t ls st h b) Rt
theorem bs_X10_loose_18 {E : ZE} {CT : Nat → ZC} {X : ZK} {Rt : ZR} {ls : ZL} {st : List ZV} {h : ZH} {b : ZB2} (hX : zCl E mX10_loose 10 false CT Rt X) (q : bk_X10_loose_18 E CT X Rt ls st h b) : X 18 ls st h b := by
  refine hX k_X10_loose_18 18 ok_X10_loose_18 _ ?_ ls st h b q
  exact fun t ls st h b q => q
def bk_X10_loose_36 (E : ZE) (CT : Nat → ZC) (X : ZK) (Rt : ZR) (ls : ZL) (st : List ZV) (h : ZH) (b : ZB2) : Prop := zB E CT k_X10_loose_36 36 ls st h b (fun t ls st h b => X t ls st h b) Rt
theorem bs_X10_loose_36 {E : ZE} {CT : Nat → ZC} {X : ZK} {Rt : ZR} {ls : ZL} {st : List ZV} {h : ZH} {b : ZB2} (hX : zCl E mX10_loose 10 false CT Rt X) (q : bk_X10_loose_36 E CT X Rt ls st h b) : X 36 ls st h b := by
  refine hX k_X10_loose_36 36 ok_X10_loose_36 _ ?_ ls st h b q
  exact fun t ls st h b q => q
def bk_X10_loose_43 (E : ZE) (CT : Nat → ZC) (X : ZK) (Rt : ZR) (ls : ZL) (st : List ZV) (h : ZH) (b : ZB2) : Prop := zB E CT k_X10_loose_43 43 ls st h b (fun t ls st h b => X t ls st h b) Rt
theorem bs_X10_loose_43 {E : ZE} {CT : Nat → ZC} {X : ZK} {Rt : ZR} {ls : ZL} {st : List ZV} {h : ZH} {b : ZB2} (hX : zCl E mX10_loose 10 false CT Rt X) (q : bk_X10_loose_43 E CT X Rt ls st h b) : X 43 ls st h b := by
  refine hX k_X10_loose_43 43 ok_X10_loose_43 _ ?_ ls st h b q
  exact fun t ls st h b q => q
def bk_X10_loose_45 (E : ZE) (CT : Nat → ZC) (X : ZK) (Rt : ZR) (ls : ZL) (st : List ZV) (h : ZH) (b : ZB2) : Prop := zB E CT k_X10_loose_45 45 ls st h b (fun t ls st h b => X t ls st h b) Rt
theorem bs_X10_loose_45 {E : ZE} {CT : Nat → ZC} {X : ZK} {Rt : ZR} {ls : ZL} {st : List ZV} {h : ZH} {b : ZB2} (hX : zCl E mX10_loose 10 false CT Rt X) (q : bk_X10_loose_45 E CT X Rt ls st h b) : X 45 ls st h b := by
  refine hX k_X10_loose_45 45 ok_X10_loose_45 _ ?_ ls st h b q
  exact fun t ls st h b q => q
def bk_X10_loose_61 (E : ZE) (CT : Nat → ZC) (X : ZK) (Rt : ZR) (ls : ZL) (st : List ZV) (h : ZH) (b : ZB2) : Prop := zB E CT k_X10_loose_61 61 ls st h b (fun t ls st h b => X t ls st h b) Rt
theorem bs_X10_loose_61 {E : ZE} {CT : Nat → ZC} {X : ZK} {Rt : ZR} {ls : ZL} {st : List ZV} {h : ZH} {b : ZB2} (hX : zCl E mX10_loose 10 false CT Rt X) (q : bk_X10_loose_61 E CT X Rt ls st h b) : X 61 ls st h b := by
  refine hX k_X10_loose_61 61 ok_X10_loose_61 _ ?_ ls st h b q
  exact fun t ls st h b q => q
def bk_X10_loose_83 (E : ZE) (CT : Nat → ZC) (X : ZK) (Rt : ZR) (ls : ZL) (st : List ZV) (h : ZH) (b : ZB2) : Prop := zB E CT k_X10_loose_83 83 ls st h b (fun t ls st h b => X t ls st h b) Rt
theorem bs_X10_loose_83 {E : ZE} {CT : Nat → ZC} {X : ZK} {Rt : ZR} {ls : ZL} {st : List ZV} {h : ZH} {b : ZB2} (hX : zCl E mX10_loose 10 false CT Rt X) (q : bk_X10_loose_83 E CT X Rt ls st h b) : X 83 ls st h b := by
  refine hX k_X10_loose_83 83 ok_X10_loose_83 _ ?_ ls st h b q
  exact fun t ls st h b q => q
def bk_X10_loose_96 (E : ZE) (CT : Nat → ZC) (X : ZK) (Rt : ZR) (ls : ZL) (st : List ZV) (h : ZH) (b : ZB2) : Prop := zB E CT k_X10_loose_96 96 ls st h b (fun t ls st h b => X t ls st h b) Rt
theorem bs_X10_loose_96 {E : ZE} {CT : Nat → ZC} {X : ZK} {Rt : ZR} {ls : ZL} {st : List ZV} {h : ZH} {b : ZB2} (hX : zCl E mX10_loose 10 false CT Rt X) (q : bk_X10_loose_96 E CT X Rt ls st h b) : X 96 ls st h b := by
  refine hX k_X10_loose_96 96 ok_X10_loose_96 _ ?_ ls st h b q
  exact fun t ls st h b q => q
-- X10_loose: cuts [11, 18, 36, 43, 45, 61, 83, 96]
def k_X10_tell_0 : List ZI := [(.aload_n 0, 1, (0, [0], [])), (.getfield 12, 3, (0, [10, 0], [])), (.getfield 284, 3, (0, [6, 5], [])), (.iload_n 1, 1, (0, [1], [])), (.invokevirtual 174, 3, (0, [41, 2, 0, 5], [])), (.ifCond .ne 10, 3, (0, [21], []))]
theorem ok_X10_tell_0 : zOK cX10_tell 10 false 2 k_X10_tell_0 0 = true := zOK_by (by decide +kernel)
def k_X10_tell_14 : List ZI := [(.aload_n 0, 1, (0, [0], [])), (.ldc 143, 2, ((-1000000004), [], [])), (.invokevirtual 97, 3, (0, [110, 2, 0, 10], [])), (.ireturn, 1, (0, [], []))]
theorem ok_X10_tell_14 : zOK cX10_tell 10 false 2 k_X10_tell_14 14 = true := zOK_by (by decide +kernel)
def k_X10_tell_21 : List ZI := [(.aload_n 0, 1, (0, [0], [])), (.getfield 12, 3, (0, [10, 0], [])), (.getfield 284, 3, (0, [6, 5], [])), (.getfield 171, 3, (0, [5, 1], [])), (.ireturn, 1, (0, [], []))]
theorem ok_X10_tell_21 : zOK cX10_tell 10 false 2 k_X10_tell_21 21 = true := zOK_by (by decide +kernel)
theorem rt_X10_tell {g : Nat} {post : Option ZV → ZH → Prop} {h : ZH} {b : ZB2} {z : Int} : zRt mX10_tell g post (some (.inl z)) h b = (post (some (.inl z)) h ∧ h.1.length = g) := by show (_ ∧ _ ∧ True) = _; simp
def bk_X10_tell_0 (E : ZE) (CT : Nat → ZC) (X : ZK) (Rt : ZR) (ls : ZL) (st : List ZV) (h : ZH) (b : ZB2) : Prop := zB E CT k_X10_tell_0 0 ls st h b (fun t ls st h b => X t ls st h b) Rt
theorem bs_X10_tell_0 {E : ZE} {CT : Nat → ZC} {X : ZK} {Rt : ZR} {ls : ZL} {st : List ZV} {h : ZH} {b : ZB2} (hX : zCl E mX10_tell 10 false CT Rt X) (q : bk_X10_tell_0 E CT X Rt ls st h b) : X 0 ls st h b := by
  refine hX k_X10_tell_0 0 ok_X10_tell_0 _ ?_ ls st h b q
  exact fun t ls st h b q => q
def bk_X10_tell_14 (E : ZE) (CT : Nat → ZC) (X : ZK) (Rt : ZR) (ls : ZL) (st : List ZV) (h : ZH) (b : ZB2) : Prop := zB E CT k_X10_tell_14 14 ls st h b (fun t ls st h b => X t ls st h b) Rt
theorem bs_X10_tell_14 {E : ZE} {CT : Nat → ZC} {X : ZK} {Rt : ZR} {ls : ZL} {st : List ZV} {h : ZH} {b : ZB2} (hX : zCl E mX10_tell 10 false CT Rt X) (q : bk_X10_tell_14 E CT X Rt ls st h b) : X 14 ls st h b := by
  refine hX k_X10_tell_14 14 ok_X10_tell_14 _ ?_ ls st h b q
  exact fun t ls st h b q => q
def bk_X10_tell_21 (E : ZE) (CT : Nat → ZC) (X : ZK) (Rt : ZR) (ls : ZL) (st : List ZV) (h : ZH) (b : ZB2) : Prop := zB E CT k_X10_tell_21 21 ls st h b (fun t ls st h b => X t ls st h b) Rt
theorem bs_X10_tell_21 {E : ZE} {CT : Nat → ZC} {X : ZK} {Rt : ZR} {ls : ZL} {st : List ZV} {h : ZH} {b : ZB2} (hX : zCl E mX10_tell 10 false CT Rt X) (q : bk_X10_tell_21 E CT X Rt ls st h b) : X 21 ls st h b := by
  refine hX k_X10_tell_21 21 ok_X10_tell_21 _ ?_ ls st h b q
  exact fun t ls st h b q => q
-- X10_tell: cuts [14, 21]
def k_X10_image_0 : List ZI := [(.aload_n 0, 1, (0, [0], [])), (.getfield 16, 3, (0, [10, 1], [])), (.aload_n 0, 1, (0, [0], [])), (.getfield 12, 3, (0, [10, 0], [])), (.invokevirtual 278, 3, (0, [46, 2, 0, 6], [])), (.aload_n 0, 1, (0, [0], [])), (.dup, 1, (0, [], [])), (.getfield 281, 3, (0, [10, 9], [])), (.iconst 1, 1, (0, [], [])), (.iadd, 1, (0, [], [])), (.putfield 281, 3, (0, [10, 9], [])), (.aload_n 0, 1, (0, [0], [])), (.getfield 281, 3, (0, [10, 9], [])), (.ireturn, 1, (0, [], []))]
theorem ok_X10_image_0 : zOK cX10_image 10 false 1 k_X10_image_0 0 = true := zOK_by (by decide +kernel)
theorem rt_X10_image {g : Nat} {post : Option ZV → ZH → Prop} {h : ZH} {b : ZB2} {z : Int} : zRt mX10_image g post (some (.inl z)) h b = (post (some (.inl z)) h ∧ h.1.length = g) := by show (_ ∧ _ ∧ True) = _; simp
def bk_X10_image_0 (E : ZE) (CT : Nat → ZC) (X : ZK) (Rt : ZR) (ls : ZL) (st : List ZV) (h : ZH) (b : ZB2) : Prop := zB E CT k_X10_image_0 0 ls st h b (fun t ls st h b => X t ls st h b) Rt
theorem bs_X10_image_0 {E : ZE} {CT : Nat → ZC} {X : ZK} {Rt : ZR} {ls : ZL} {st : List ZV} {h : ZH} {b : ZB2} (hX : zCl E mX10_image 10 false CT Rt X) (q : bk_X10_image_0 E CT X Rt ls st h b) : X 0 ls st h b := by
  refine hX k_X10_image_0 0 ok_X10_image_0 _ ?_ ls st h b q
  exact fun t ls st h b q => q
-- X10_image: cuts []
def k_X10_restore_0 : List ZI := [(.aload_n 0, 1, (0, [0], [])), (.getfield 281, 3, (0, [10, 9], [])), (.ifCond .ne 10, 3, (0, [14], []))]
theorem ok_X10_restore_0 : zOK cX10_restore 10 false 1 k_X10_restore_0 0 = true := zOK_by (by decide +kernel)
def k_X10_restore_7 : List ZI := [(.aload_n 0, 1, (0, [0], [])), (.ldc 217, 2, ((-1000000002), [], [])), (.invokevirtual 97, 3, (0, [110, 2, 0, 10], [])), (.ireturn, 1, (0, [], []))]
theorem ok_X10_restore_7 : zOK cX10_restore 10 false 1 k_X10_restore_7 7 = true := zOK_by (by decide +kernel)
def k_X10_restore_14 : List ZI := [(.aload_n 0, 1, (0, [0], [])), (.getfield 12, 3, (0, [10, 0], [])), (.aload_n 0, 1, (0, [0], [])), (.getfield 16, 3, (0, [10, 1], [])), (.invokevirtual 278, 3, (0, [46, 2, 0, 6], [])), (.aload_n 0, 1, (0, [0], [])), (.getfield 12, 3, (0, [10, 0], [])), (.getfield 21, 3, (0, [6, 0], [])), (.getfield 197, 3, (0, [2, 9], [])), (.ireturn, 1, (0, [], []))]
theorem ok_X10_restore_14 : zOK cX10_restore 10 false 1 k_X10_restore_14 14 = true := zOK_by (by decide +kernel)
theorem rt_X10_restore {g : Nat} {post : Option ZV → ZH → Prop} {h : ZH} {b : ZB2} {z : Int} : zRt mX10_restore g post (some (.inl z)) h b = (post (some (.inl z)) h ∧ h.1.length = g) := by show (_ ∧ _ ∧ True) = _; simp
def bk_X10_restore_0 (E : ZE) (CT : Nat → ZC) (X : ZK) (Rt : ZR) (ls : ZL) (st : List ZV) (h : ZH) (b : ZB2) : Prop := zB E CT k_X10_restore_0 0 ls st h b (fun t ls st h b => X t ls st h b) Rt
theorem bs_X10_restore_0 {E : ZE} {CT : Nat → ZC} {X : ZK} {Rt : ZR} {ls : ZL} {st : List ZV} {h : ZH} {b : ZB2} (hX : zCl E mX10_restore 10 false CT Rt X) (q : bk_X10_restore_0 E CT X Rt ls st h b) : X 0 ls st h b := by
  refine hX k_X10_restore_0 0 ok_X10_restore_0 _ ?_ ls st h b q
  exact fun t ls st h b q => q
def bk_X10_restore_7 (E : ZE) (CT : Nat → ZC) (X : ZK) (Rt : ZR) (ls : ZL) (st : List ZV) (h : ZH) (b : ZB2) : Prop := zB E CT k_X10_restore_7 7 ls st h b (fun t ls st h b => X t ls st h b) Rt
theorem bs_X10_restore_7 {E : ZE} {CT : Nat → ZC} {X : ZK} {Rt : ZR} {ls : ZL} {st : List ZV} {h : ZH} {b : ZB2} (hX : zCl E mX10_restore 10 false CT Rt X) (q : bk_X10_restore_7 E CT X Rt ls st h b) : X 7 ls st h b := by
  refine hX k_X10_restore_7 7 ok_X10_restore_7 _ ?_ ls st h b q
  exact fun t ls st h b q => q
def bk_X10_restore_14 (E : ZE) (CT : Nat → ZC) (X : ZK) (Rt : ZR) (ls : ZL) (st : List ZV) (h : ZH) (b : ZB2) : Prop := zB E CT k_X10_restore_14 14 ls st h b (fun t ls st h b => X t ls st h b) Rt
theorem bs_X10_restore_14 {E : ZE} {CT : Nat → ZC} {X : ZK} {Rt : ZR} {ls : ZL} {st : List ZV} {h : ZH} {b : ZB2} (hX : zCl E mX10_restore 10 false CT Rt X) (q : bk_X10_restore_14 E CT X Rt ls st h b) : X 14 ls st h b := by
  refine hX k_X10_restore_14 14 ok_X10_restore_14 _ ?_ ls st h b q
  exact fun t ls st h b q => q
-- X10_restore: cuts [7, 14]
def k_X10_trace_0 : List ZI := [(.iload_n 1, 1, (0, [1], [])), (.aload_n 0, 1, (0, [0], [])), (.getfield 77, 3, (0, [10, 6], [])), (.getfield 250, 3, (0, [8, 0], [])), (.getfield 171, 3, (0, [5, 1], [])), (.iconst 1, 1, (0, [], [])), (.isub, 1, (0, [], [])), (.invokestatic 92, 3, (0, [111, 2, 0, 10], [])), (.ifCond .eq 10, 3, (0, [26], []))]
theorem ok_X10_trace_0 : zOK cX10_trace 10 false 2 k_X10_trace_0 0 = true := zOK_by (by decide +kernel)
def k_X10_trace_19 : List ZI := [(.aload_n 0, 1, (0, [0], [])), (.ldc 217, 2, ((-1000000002), [], [])), (.invokevirtual 97, 3, (0, [110, 2, 0, 10], [])), (.ireturn, 1, (0, [], []))]
theorem ok_X10_trace_19 : zOK cX10_trace 10 false 2 k_X10_trace_19 19 = true := zOK_by (by decide +kernel)
def k_X10_trace_26 : List ZI := [(.aload_n 0, 1, (0, [0], [])), (.getfield 77, 3, (0, [10, 6], [])), (.getfield 250, 3, (0, [8, 0], [])), (.getfield 253, 3, (0, [5, 0], [])), (.iload_n 1, 1, (0, [1], [])), (.iaload, 1, (0, [], [])), (.ireturn, 1, (0, [], []))]
theorem ok_X10_trace_26 : zOK cX10_trace 10 false 2 k_X10_trace_26 26 = true := zOK_by (by decide +kernel)
theorem rt_X10_trace {g : Nat} {post : Option ZV → ZH → Prop} {h : ZH} {b : ZB2} {z : Int} : zRt mX10_trace g post (some (.inl z)) h b = (post (some (.inl z)) h ∧ h.1.length = g) := by show (_ ∧ _ ∧ True) = _; simp
def bk_X10_trace_0 (E : ZE) (CT : Nat → ZC) (X : ZK) (Rt : ZR) (ls : ZL) (st : List ZV) (h : ZH) (b : ZB2) : Prop := zB E CT k_X10_trace_0 0 ls st h b (fun t ls st h b => X t ls st h b) Rt
theorem bs_X10_trace_0 {E : ZE} {CT : Nat → ZC} {X : ZK} {Rt : ZR} {ls : ZL} {st : List ZV} {h : ZH} {b : ZB2} (hX : zCl E mX10_trace 10 false CT Rt X) (q : bk_X10_trace_0 E CT X Rt ls st h b) : X 0 ls st h b := by
  refine hX k_X10_trace_0 0 ok_X10_trace_0 _ ?_ ls st h b q
  exact fun t ls st h b q => q
def bk_X10_trace_19 (E : ZE) (CT : Nat → ZC) (X : ZK) (Rt : ZR) (ls : ZL) (st : List ZV) (h : ZH) (b : ZB2) : Prop := zB E CT k_X10_trace_19 19 ls st h b (fun t ls st h b => X t ls st h b) Rt
theorem bs_X10_trace_19 {E : ZE} {CT : Nat → ZC} {X : ZK} {Rt : ZR} {ls : ZL} {st : List ZV} {h : ZH} {b : ZB2} (hX : zCl E mX10_trace 10 false CT Rt X) (q : bk_X10_trace_19 E CT X Rt ls st h b) : X 19 ls st h b := by
  refine hX k_X10_trace_19 19 ok_X10_trace_19 _ ?_ ls st h b q
  exact fun t ls st h b q => q
def bk_X10_trace_26 (E : ZE) (CT : Nat → ZC) (X : ZK) (Rt : ZR) (ls : ZL) (st : List ZV) (h : ZH) (b : ZB2) : Prop := zB E CT k_X10_trace_26 26 ls st h b (fun t ls st h b => X t ls st h b) Rt
theorem bs_X10_trace_26 {E : ZE} {CT : Nat → ZC} {X : ZK} {Rt : ZR} {ls : ZL} {st : List ZV} {h : ZH} {b : ZB2} (hX : zCl E mX10_trace 10 false CT Rt X) (q : bk_X10_trace_26 E CT X Rt ls st h b) : X 26 ls st h b := by
  refine hX k_X10_trace_26 26 ok_X10_trace_26 _ ?_ ls st h b q
  exact fun t ls st h b q => q
-- X10_trace: cuts [19, 26]
def B_radd (o : Nat) (v : Int) (M : Nat → Nat → Int) (post : Option ZV → (Nat → Nat → Int) → Prop) : Prop := ∃ n : Nat, rowb o n ∧ n ≤ 50 ∧ (0 ≤ M o 1 ∧ M o 1 ≤ n) ∧ (M o 1 < n → post (some (.inl 1)) (zup (zup M (o + 1) (M o 1).toNat v) o 1 (M o 1 + 1))) ∧ (¬ M o 1 < n → post (some (.inl 0)) M)
def C_radd : ZC := fun as h post => match as with
  | [.inr (.inr (.inl o)), .inl v] => h.1 = zG ∧ B_radd o v h.2 (fun v M => post v (zG, M))
  | _ => False
theorem r_radd {o : Nat} {v : Int} {M : Nat → Nat → Int} {post : Option ZV → ZH → Prop} : C_radd [.inr (.inr (.inl o)), .inl v] (zG, M) post = B_radd o v M (fun v M => post v (zG, M)) := by show (zG = zG ∧ _) = _; simp
def ct_radd : Nat → ZC := fun n => fun _ _ _ => False
theorem c_radd {E : ZE} {d : Nat} (hd : 1 ≤ d) : zMet E d mX5_add C_radd := by
  refine zmet_of (o := 5) (ini := false) (CT := ct_radd) gd_X5_add rfl (fun h => by cases h) (by omega) ?_ ?_
  · intro n as h post hh
    unfold ct_radd at hh
    exact hh.elim
  intro as h post hC
  match as, hC with
  | [.inr (.inr (.inl o)), .inl v], hC =>
    refine ⟨Nat.le_of_ble_eq_true rfl, fun X hX => bs_X5_add_0 hX ?_⟩
    obtain ⟨G, M⟩ := h
    obtain ⟨hG, hC⟩ := hC
    dsimp only at hG
    subst hG
    simp only [B_radd] at hC
    show bk_X5_add_0 E ct_radd X _ [some (.inr (.inr (.inl o))), some (.inl v)] [] (zG, M) (0, 0)
    obtain ⟨n, hb, hn, hs, h1, h2⟩ := hC
    have z1 : zr (M o 1) = M o 1 := zr_of (by omega) (by omega)
    have zn : zr (n : Int) = n := zr_of (by omega) (by omega)
    have e9 : ∀ w, zup M (o + 1) (M o 1).toNat w o 1 = M o 1 := fun w => zup_o (by omega)
    have J14 : M o 1 < n → X 14 [some (.inr (.inr (.inl o))), some (.inl v)] [] (zG, M) (0, 0) := by
      intro q
      refine bs_X5_add_14 hX ?_
      simp only [bk_X5_add_0, k_X5_add_0, bk_X5_add_14, k_X5_add_14, ↓e_rk1, ↓e_rk0, ↓e_sk0, ↓e_sks, ↓e_ldi0, ↓e_ldis, ↓e_ldl0, ↓e_ldls, ↓e_lda0, ↓e_ldas, ↓e_ok0, ↓e_okss, ↓e_ok1i, ↓e_ok1r, ↓e_ok1n, ↓e_sti, ↓e_sta, ↓e_1, ↓e_2, ↓e_l1, ↓e_l2, ↓e_li, ↓e_sw0, ↓e_sws, ↓e_ceq, ↓e_cne, ↓e_clt, ↓e_cge, ↓e_cgt, ↓e_cle, ↓e_nil, ↓e_cons, ↓e_iconst, ↓e_bipush, ↓e_sipush, ↓e_ldc, ↓e_ldcw, ↓e_ldc2, ↓e_lconst, ↓e_iloadn, ↓e_iload, ↓e_lloadn, ↓e_lload, ↓e_aloadn, ↓e_aload, ↓e_istoren, ↓e_istore, ↓e_astoren, ↓e_astore, ↓e_add, ↓e_iinc, ↓e_iadd, ↓e_isub, ↓e_imul, ↓e_iand, ↓e_ior, ↓e_ixor, ↓e_ishl, ↓e_iushr, ↓e_idiv, ↓e_irem, ↓e_ineg, ↓e_i2l, ↓e_i2b, ↓e_i2s, ↓e_l2i, ↓e_land, ↓e_lor, ↓e_lshl, ↓e_lshr, ↓e_lushr, ↓e_lcmp, ↓e_dupi, ↓e_dupr, ↓e_popi, ↓e_dup2, ↓e_goto, ↓e_if, ↓e_icmp, ↓e_tsw, ↓e_lsw, ↓e_getf, ↓e_putf, ↓e_gets, ↓e_iald, ↓e_cald, ↓e_iast, ↓e_aald, ↓e_aast, ↓e_len, ↓e_copy, ↓e_abs, ↓e_max, ↓e_min, ↓e_iret, ↓e_aret, ↓e_vret, ↓e_is0, ↓e_is1, ↓e_is2, ↓e_is3, ↓e_is4, ↓e_iv1, ↓e_iv2, ↓e_iv3, ↓e_iv4, ↓e_iv5, ↓e_iv6, ↓rt_X5_add, ↓reduceIte, Nat.reduceAdd, Nat.reduceEqDiff, ↓zcl0, ↓zclv, List.map_nil, List.sum_nil, List.map_cons, List.sum_cons, zcat, true_and, and_true, Nat.reduceLeDiff, Nat.reduceAdd, eq_self, forall_const, e_ok0, e_okss, e_ok1i, e_ok1r, e_ok1n, zl_0, zl_1, Int.reduceToNat, Int.reduceAdd, Int.reduceMul, Int.reduceSub, Int.reduceNeg, Int.reduceLT, Int.reduceLE, Int.reduceEq, not_false_eq_true, not_true_eq_false, false_implies, true_implies, implies_true, Int.reduceDiv, Int.reduceMod, zr8_zr, zr_zbo, z01_zbo, z01_0, z01_1, zbo_eq0, zup_eq, zup_o, zup_k, ne_eq, ↓vR hb, ↓gR_0 hb, ↓gR_1 hb, ↓pR_1 hb, ↓lR_1 hb, ↓sR_1 hb, ↓nR_1 hb, z1, e9]
      exact ⟨by omega, by omega, h1 q⟩
    simp only [bk_X5_add_0, k_X5_add_0, bk_X5_add_14, k_X5_add_14, ↓e_rk1, ↓e_rk0, ↓e_sk0, ↓e_sks, ↓e_ldi0, ↓e_ldis, ↓e_ldl0, ↓e_ldls, ↓e_lda0, ↓e_ldas, ↓e_ok0, ↓e_okss, ↓e_ok1i, ↓e_ok1r, ↓e_ok1n, ↓e_sti, ↓e_sta, ↓e_1, ↓e_2, ↓e_l1, ↓e_l2, ↓e_li, ↓e_sw0, ↓e_sws, ↓e_ceq, ↓e_cne, ↓e_clt, ↓e_cge, ↓e_cgt, ↓e_cle, ↓e_nil, ↓e_cons, ↓e_iconst, ↓e_bipush, ↓e_sipush, ↓e_ldc, ↓e_ldcw, ↓e_ldc2, ↓e_lconst, ↓e_iloadn, ↓e_iload, ↓e_lloadn, ↓e_lload, ↓e_aloadn, ↓e_aload, ↓e_istoren, ↓e_istore, ↓e_astoren, ↓e_astore, ↓e_add, ↓e_iinc, ↓e_iadd, ↓e_isub, ↓e_imul, ↓e_iand, ↓e_ior, ↓e_ixor, ↓e_ishl, ↓e_iushr, ↓e_idiv, ↓e_irem, ↓e_ineg, ↓e_i2l, ↓e_i2b, ↓e_i2s, ↓e_l2i, ↓e_land, ↓e_lor, ↓e_lshl, ↓e_lshr, ↓e_lushr, ↓e_lcmp, ↓e_dupi, ↓e_dupr, ↓e_popi, ↓e_dup2, ↓e_goto, ↓e_if, ↓e_icmp, ↓e_tsw, ↓e_lsw, ↓e_getf, ↓e_putf, ↓e_gets, ↓e_iald, ↓e_cald, ↓e_iast, ↓e_aald, ↓e_aast, ↓e_len, ↓e_copy, ↓e_abs, ↓e_max, ↓e_min, ↓e_iret, ↓e_aret, ↓e_vret, ↓e_is0, ↓e_is1, ↓e_is2, ↓e_is3, ↓e_is4, ↓e_iv1, ↓e_iv2, ↓e_iv3, ↓e_iv4, ↓e_iv5, ↓e_iv6, ↓rt_X5_add, ↓reduceIte, Nat.reduceAdd, Nat.reduceEqDiff, ↓zcl0, ↓zclv, List.map_nil, List.sum_nil, List.map_cons, List.sum_cons, zcat, true_and, and_true, Nat.reduceLeDiff, Nat.reduceAdd, eq_self, forall_const, e_ok0, e_okss, e_ok1i, e_ok1r, e_ok1n, zl_0, zl_1, Int.reduceToNat, Int.reduceAdd, Int.reduceMul, Int.reduceSub, Int.reduceNeg, Int.reduceLT, Int.reduceLE, Int.reduceEq, not_false_eq_true, not_true_eq_false, false_implies, true_implies, implies_true, Int.reduceDiv, Int.reduceMod, zr8_zr, zr_zbo, z01_zbo, z01_0, z01_1, zbo_eq0, zup_eq, zup_o, zup_k, ne_eq, ↓vR hb, ↓gR_0 hb, ↓gR_1 hb, ↓pR_1 hb, ↓lR_1 hb, ↓sR_1 hb, ↓nR_1 hb, z1, zn]
    refine ⟨fun q => ?_, fun q => ?_⟩
    · first | exact J14 q | exact h2 q
    · first | exact J14 q | exact h2 q
def B_rcpy (o : Nat) (q : Nat) (M : Nat → Nat → Int) (post : Option ZV → (Nat → Nat → Int) → Prop) : Prop := ∃ n : Nat, rowb o n ∧ rowb q n ∧ n ≤ 50 ∧ (o + 1 < q ∨ q + 1 < o) ∧ (0 ≤ M q 1 ∧ M q 1 ≤ n) ∧ ∀ M2 : ZMm, M2 o 1 = M q 1 → (∀ k : Nat, (k : Int) < M q 1 → M2 (o + 1) k = M (q + 1) k) → (∀ x, ¬ x = o → ¬ x = o + 1 → M2 x = M x) → post none M2
def C_rcpy : ZC := fun as h post => match as with
  | [.inr (.inr (.inl o)), .inr (.inr (.inl q))] => h.1 = zG ∧ B_rcpy o q h.2 (fun v M => post v (zG, M))
  | _ => False
theorem r_rcpy {o : Nat} {q : Nat} {M : Nat → Nat → Int} {post : Option ZV → ZH → Prop} : C_rcpy [.inr (.inr (.inl o)), .inr (.inr (.inl q))] (zG, M) post = B_rcpy o q M (fun v M => post v (zG, M)) := by show (zG = zG ∧ _) = _; simp
def ct_rcpy : Nat → ZC := fun n => fun _ _ _ => False
theorem c_rcpy {E : ZE} {d : Nat} (hd : 1 ≤ d) : zMet E d mX5_copyFrom C_rcpy := by
  refine zmet_of (o := 5) (ini := false) (CT := ct_rcpy) gd_X5_copyFrom rfl (fun h => by cases h) (by omega) ?_ ?_
  · intro n as h post hh
    unfold ct_rcpy at hh
    exact hh.elim
  intro as h post hC
  match as, hC with
  | [.inr (.inr (.inl o)), .inr (.inr (.inl q))], hC =>
    refine ⟨Nat.le_of_ble_eq_true rfl, fun X hX => bs_X5_copyFrom_0 hX ?_⟩
    obtain ⟨G, M⟩ := h
    obtain ⟨hG, hC⟩ := hC
    dsimp only at hG
    subst hG
    simp only [B_rcpy] at hC
    show bk_X5_copyFrom_0 E ct_rcpy X _ [some (.inr (.inr (.inl o))), some (.inr (.inr (.inl q)))] [] (zG, M) (0, 0)
    obtain ⟨n, hb, hbq, hn, sep, hs, hC⟩ := hC
    have z1 : zr (M q 1) = M q 1 := zr_of (by omega) (by omega)
    have zn : zr (n : Int) = n := zr_of (by omega) (by omega)
    have em : (if M q 1 < (n : Int) then M q 1 else (n : Int)) = M q 1 := by split <;> omega
    have em2 : (if (n : Int) < M q 1 then (n : Int) else M q 1) = M q 1 := by split <;> omega
    have c1 : ∀ {M : ZMm} {n dp sp : Int} {r : List ZV} {kh : List ZV → ZH → Prop}, _ := fun {M n dp sp r kh} => cp_of (M := M) (n := n) (dp := dp) (sp := sp) (r := r) (kh := kh) (aR_1 hbq) (aR_1 hb)
    have J16 : ∀ M1 : ZMm, M1 o 1 = M q 1 → (∀ x, ¬ x = o → M1 x = M x) → X 16 [some (.inr (.inr (.inl o))), some (.inr (.inr (.inl q)))] [] (zG, M1) (0, 0) := by
      intro M1 e1 f1
      refine bs_X5_copyFrom_16 hX ?_
      simp only [bk_X5_copyFrom_0, k_X5_copyFrom_0, bk_X5_copyFrom_16, k_X5_copyFrom_16, ↓e_rk1, ↓e_rk0, ↓e_sk0, ↓e_sks, ↓e_ldi0, ↓e_ldis, ↓e_ldl0, ↓e_ldls, ↓e_lda0, ↓e_ldas, ↓e_ok0, ↓e_okss, ↓e_ok1i, ↓e_ok1r, ↓e_ok1n, ↓e_sti, ↓e_sta, ↓e_1, ↓e_2, ↓e_l1, ↓e_l2, ↓e_li, ↓e_sw0, ↓e_sws, ↓e_ceq, ↓e_cne, ↓e_clt, ↓e_cge, ↓e_cgt, ↓e_cle, ↓e_nil, ↓e_cons, ↓e_iconst, ↓e_bipush, ↓e_sipush, ↓e_ldc, ↓e_ldcw, ↓e_ldc2, ↓e_lconst, ↓e_iloadn, ↓e_iload, ↓e_lloadn, ↓e_lload, ↓e_aloadn, ↓e_aload, ↓e_istoren, ↓e_istore, ↓e_astoren, ↓e_astore, ↓e_add, ↓e_iinc, ↓e_iadd, ↓e_isub, ↓e_imul, ↓e_iand, ↓e_ior, ↓e_ixor, ↓e_ishl, ↓e_iushr, ↓e_idiv, ↓e_irem, ↓e_ineg, ↓e_i2l, ↓e_i2b, ↓e_i2s, ↓e_l2i, ↓e_land, ↓e_lor, ↓e_lshl, ↓e_lshr, ↓e_lushr, ↓e_lcmp, ↓e_dupi, ↓e_dupr, ↓e_popi, ↓e_dup2, ↓e_goto, ↓e_if, ↓e_icmp, ↓e_tsw, ↓e_lsw, ↓e_getf, ↓e_putf, ↓e_gets, ↓e_iald, ↓e_cald, ↓e_iast, ↓e_aald, ↓e_aast, ↓e_len, ↓e_copy, ↓e_abs, ↓e_max, ↓e_min, ↓e_iret, ↓e_aret, ↓e_vret, ↓e_is0, ↓e_is1, ↓e_is2, ↓e_is3, ↓e_is4, ↓e_iv1, ↓e_iv2, ↓e_iv3, ↓e_iv4, ↓e_iv5, ↓e_iv6, ↓rt_X5_copyFrom, ↓reduceIte, Nat.reduceAdd, Nat.reduceEqDiff, ↓zcl0, ↓zclv, List.map_nil, List.sum_nil, List.map_cons, List.sum_cons, zcat, true_and, and_true, Nat.reduceLeDiff, Nat.reduceAdd, eq_self, forall_const, e_ok0, e_okss, e_ok1i, e_ok1r, e_ok1n, zl_0, Int.reduceToNat, Int.reduceAdd, Int.reduceMul, Int.reduceSub, Int.reduceNeg, Int.reduceLT, Int.reduceLE, Int.reduceEq, not_false_eq_true, not_true_eq_false, false_implies, true_implies, implies_true, Int.reduceDiv, Int.reduceMod, zr8_zr, zr_zbo, z01_zbo, z01_0, z01_1, zbo_eq0, zup_eq, zup_o, zup_k, ne_eq, ↓vR hb, ↓gR_0 hb, ↓gR_1 hb, ↓pR_1 hb, ↓lR_1 hb, ↓sR_1 hb, ↓nR_1 hb, ↓vR hbq, ↓gR_0 hbq, ↓gR_1 hbq, ↓pR_1 hbq, ↓lR_1 hbq, ↓sR_1 hbq, ↓nR_1 hbq, ↓c1, e1, z1]
      repeat (refine And.intro (by omega) ?_)
      refine hC _ ?_ (fun k hk => ?_) (fun x q1 q2 => by rw [zc_o q2, f1 x q1])
      · rw [zc_o (by omega)]; exact e1
      · rw [zc_eq (by omega), f1 _ (by omega)]
    simp only [bk_X5_copyFrom_0, k_X5_copyFrom_0, bk_X5_copyFrom_16, k_X5_copyFrom_16, ↓e_rk1, ↓e_rk0, ↓e_sk0, ↓e_sks, ↓e_ldi0, ↓e_ldis, ↓e_ldl0, ↓e_ldls, ↓e_lda0, ↓e_ldas, ↓e_ok0, ↓e_okss, ↓e_ok1i, ↓e_ok1r, ↓e_ok1n, ↓e_sti, ↓e_sta, ↓e_1, ↓e_2, ↓e_l1, ↓e_l2, ↓e_li, ↓e_sw0, ↓e_sws, ↓e_ceq, ↓e_cne, ↓e_clt, ↓e_cge, ↓e_cgt, ↓e_cle, ↓e_nil, ↓e_cons, ↓e_iconst, ↓e_bipush, ↓e_sipush, ↓e_ldc, ↓e_ldcw, ↓e_ldc2, ↓e_lconst, ↓e_iloadn, ↓e_iload, ↓e_lloadn, ↓e_lload, ↓e_aloadn, ↓e_aload, ↓e_istoren, ↓e_istore, ↓e_astoren, ↓e_astore, ↓e_add, ↓e_iinc, ↓e_iadd, ↓e_isub, ↓e_imul, ↓e_iand, ↓e_ior, ↓e_ixor, ↓e_ishl, ↓e_iushr, ↓e_idiv, ↓e_irem, ↓e_ineg, ↓e_i2l, ↓e_i2b, ↓e_i2s, ↓e_l2i, ↓e_land, ↓e_lor, ↓e_lshl, ↓e_lshr, ↓e_lushr, ↓e_lcmp, ↓e_dupi, ↓e_dupr, ↓e_popi, ↓e_dup2, ↓e_goto, ↓e_if, ↓e_icmp, ↓e_tsw, ↓e_lsw, ↓e_getf, ↓e_putf, ↓e_gets, ↓e_iald, ↓e_cald, ↓e_iast, ↓e_aald, ↓e_aast, ↓e_len, ↓e_copy, ↓e_abs, ↓e_max, ↓e_min, ↓e_iret, ↓e_aret, ↓e_vret, ↓e_is0, ↓e_is1, ↓e_is2, ↓e_is3, ↓e_is4, ↓e_iv1, ↓e_iv2, ↓e_iv3, ↓e_iv4, ↓e_iv5, ↓e_iv6, ↓rt_X5_copyFrom, ↓reduceIte, Nat.reduceAdd, Nat.reduceEqDiff, ↓zcl0, ↓zclv, List.map_nil, List.sum_nil, List.map_cons, List.sum_cons, zcat, true_and, and_true, Nat.reduceLeDiff, Nat.reduceAdd, eq_self, forall_const, e_ok0, e_okss, e_ok1i, e_ok1r, e_ok1n, zl_0, Int.reduceToNat, Int.reduceAdd, Int.reduceMul, Int.reduceSub, Int.reduceNeg, Int.reduceLT, Int.reduceLE, Int.reduceEq, not_false_eq_true, not_true_eq_false, false_implies, true_implies, implies_true, Int.reduceDiv, Int.reduceMod, zr8_zr, zr_zbo, z01_zbo, z01_0, z01_1, zbo_eq0, zup_eq, zup_o, zup_k, ne_eq, ↓vR hb, ↓gR_0 hb, ↓gR_1 hb, ↓pR_1 hb, ↓lR_1 hb, ↓sR_1 hb, ↓nR_1 hb, ↓vR hbq, ↓gR_0 hbq, ↓gR_1 hbq, ↓pR_1 hbq, ↓lR_1 hbq, ↓sR_1 hbq, ↓nR_1 hbq, z1, zn, em, em2]
    exact J16 _ zup_eq (fun x q1 => by rw [zup_ne _ q1])
def B_scpk (M : Nat → Nat → Int) (post : Option ZV → (Nat → Nat → Int) → Prop) : Prop := ∃ d : Nat → Int, SRn M d ∧ Vd d ∧ ∀ M2 : ZMm, SRk M2 d → (∀ x, x < 26 ∨ 50 < x → M2 x = M x) → post none M2
def C_scpk : ZC := fun as h post => match as with
  | [.inr (.inr (.inl 26)), .inr (.inr (.inl 1))] => h.1 = zG ∧ B_scpk h.2 (fun v M => post v (zG, M))
  | _ => False
theorem r_scpk {M : Nat → Nat → Int} {post : Option ZV → ZH → Prop} : C_scpk [.inr (.inr (.inl 26)), .inr (.inr (.inl 1))] (zG, M) post = B_scpk M (fun v M => post v (zG, M)) := by show (zG = zG ∧ _) = _; simp
def ct_scpk : Nat → ZC := fun n => if n = 24 then C_hcopy else if n = 2 then C_ccopy else if n = 42 then C_rcpy else fun _ _ _ => False
theorem ct_scpk_hcopy {as : List ZV} {h : ZH} {post : Option ZV → ZH → Prop} : ct_scpk 24 as h post = C_hcopy as h post := rfl
theorem ct_scpk_ccopy {as : List ZV} {h : ZH} {post : Option ZV → ZH → Prop} : ct_scpk 2 as h post = C_ccopy as h post := rfl
theorem ct_scpk_rcpy {as : List ZV} {h : ZH} {post : Option ZV → ZH → Prop} : ct_scpk 42 as h post = C_rcpy as h post := rfl
theorem c_scpk {E : ZE} {d : Nat} (hd : 2 ≤ d) : zMet E d mX6_copyFrom C_scpk := by
  refine zmet_of (o := 6) (ini := false) (CT := ct_scpk) gd_X6_copyFrom rfl (fun h => by cases h) (by omega) ?_ ?_
  · intro n as h post hh
    unfold ct_scpk at hh
    by_cases c : n = 24
    · subst c; exact ⟨gd_X2_copyFrom, 1, by omega, c_hcopy (by omega)⟩
    rw [if_neg c] at hh
    by_cases c : n = 2
    · subst c; exact ⟨gd_X0_copyFrom, 1, by omega, c_ccopy (by omega)⟩
    rw [if_neg c] at hh
    by_cases c : n = 42
    · subst c; exact ⟨gd_X5_copyFrom, 1, by omega, c_rcpy (by omega)⟩
    rw [if_neg c] at hh
    exact hh.elim
  intro as h post hC
  match as, hC with
  | [.inr (.inr (.inl 26)), .inr (.inr (.inl 1))], hC =>
    refine ⟨Nat.le_of_ble_eq_true rfl, fun X hX => bs_X6_copyFrom_0 hX ?_⟩
    obtain ⟨G, M⟩ := h
    obtain ⟨hG, hC⟩ := hC
    dsimp only at hG
    subst hG
    simp only [B_scpk] at hC
    show bk_X6_copyFrom_0 E ct_scpk X _ [some (.inr (.inr (.inl 26))), some (.inr (.inr (.inl 1)))] [] (zG, M) (0, 0)
    obtain ⟨d9, ⟨h9, c9, l1, l2, t9, w9, z9⟩, vd, hC⟩ := hC
    have v := Vd_l vd
    have vt0 := vd.2.2.2.2.2.2.2.2.2.2.1.1
    have vt1 := vd.2.2.2.2.2.2.2.2.2.2.2.1
    have vb := vd.2.2.2
    have u0 : d9 (186 + 0) = d9 186 := rfl
    have u1 : d9 (186 + 1) = d9 187 := rfl
    have u2 : 0 ≤ d9 186 := vt0
    have u3 : 0 ≤ d9 187 := vt1
    have u4 : 0 ≤ d9 4 := vb.1.1
    have u5 : 0 ≤ d9 5 := vb.2.1.1
    have J78 : ∀ M1 : ZMm, HR 27 M1 d9 → CR 35 M1 d9 (-1) → LR 39 M1 d9 0 → LR 43 M1 d9 1 → TR 47 M1 d9 4 308 → TR 49 M1 d9 5 188 → (∀ x, x < 27 ∨ 50 < x → M1 x = M x) → X 78 [some (.inr (.inr (.inl 26))), some (.inr (.inr (.inl 1)))] [] (zG, M1) (0, 0) := by
      intro M1 h c a b t w f
      refine bs_X6_copyFrom_78 hX ?_
      have ez : M1 1 6 = d9 3 := by rw [f 1 (by omega)]; exact z9
      simp only [bk_X6_copyFrom_0, k_X6_copyFrom_0, bk_X6_copyFrom_22, k_X6_copyFrom_22, bk_X6_copyFrom_39, k_X6_copyFrom_39, bk_X6_copyFrom_56, k_X6_copyFrom_56, bk_X6_copyFrom_67, k_X6_copyFrom_67, bk_X6_copyFrom_78, k_X6_copyFrom_78, ↓e_rk1, ↓e_rk0, ↓e_sk0, ↓e_sks, ↓e_ldi0, ↓e_ldis, ↓e_ldl0, ↓e_ldls, ↓e_lda0, ↓e_ldas, ↓e_ok0, ↓e_okss, ↓e_ok1i, ↓e_ok1r, ↓e_ok1n, ↓e_sti, ↓e_sta, ↓e_1, ↓e_2, ↓e_l1, ↓e_l2, ↓e_li, ↓e_sw0, ↓e_sws, ↓e_ceq, ↓e_cne, ↓e_clt, ↓e_cge, ↓e_cgt, ↓e_cle, ↓e_nil, ↓e_cons, ↓e_iconst, ↓e_bipush, ↓e_sipush, ↓e_ldc, ↓e_ldcw, ↓e_ldc2, ↓e_lconst, ↓e_iloadn, ↓e_iload, ↓e_lloadn, ↓e_lload, ↓e_aloadn, ↓e_aload, ↓e_istoren, ↓e_istore, ↓e_astoren, ↓e_astore, ↓e_add, ↓e_iinc, ↓e_iadd, ↓e_isub, ↓e_imul, ↓e_iand, ↓e_ior, ↓e_ixor, ↓e_ishl, ↓e_iushr, ↓e_idiv, ↓e_irem, ↓e_ineg, ↓e_i2l, ↓e_i2b, ↓e_i2s, ↓e_l2i, ↓e_land, ↓e_lor, ↓e_lshl, ↓e_lshr, ↓e_lushr, ↓e_lcmp, ↓e_dupi, ↓e_dupr, ↓e_popi, ↓e_dup2, ↓e_goto, ↓e_if, ↓e_icmp, ↓e_tsw, ↓e_lsw, ↓e_getf, ↓e_putf, ↓e_gets, ↓e_iald, ↓e_cald, ↓e_iast, ↓e_aald, ↓e_aast, ↓e_len, ↓e_copy, ↓e_abs, ↓e_max, ↓e_min, ↓e_iret, ↓e_aret, ↓e_vret, ↓e_is0, ↓e_is1, ↓e_is2, ↓e_is3, ↓e_is4, ↓e_iv1, ↓e_iv2, ↓e_iv3, ↓e_iv4, ↓e_iv5, ↓e_iv6, ↓rt_X6_copyFrom, ↓reduceIte, Nat.reduceAdd, Nat.reduceEqDiff, ↓zcl0, ↓zclv, List.map_nil, List.sum_nil, List.map_cons, List.sum_cons, zcat, true_and, and_true, Nat.reduceLeDiff, Nat.reduceAdd, eq_self, forall_const, e_ok0, e_okss, e_ok1i, e_ok1r, e_ok1n, Int.reduceToNat, Int.reduceAdd, Int.reduceMul, Int.reduceSub, Int.reduceNeg, Int.reduceLT, Int.reduceLE, Int.reduceEq, not_false_eq_true, not_true_eq_false, false_implies, true_implies, implies_true, Int.reduceDiv, Int.reduceMod, zr8_zr, zr_zbo, z01_zbo, z01_0, z01_1, zbo_eq0, zup_eq, zup_o, zup_k, ne_eq, ↓ct_scpk_hcopy, ↓r_hcopy, ↓B_hcopy, ↓ct_scpk_ccopy, ↓r_ccopy, ↓B_ccopy, ↓ct_scpk_rcpy, ↓r_rcpy, ↓B_rcpy, ↓v_26, ↓g_26_0, ↓g_26_1, ↓g_26_2, ↓g_26_3, ↓g_26_4, ↓g_26_5, ↓g_26_6, ↓p_26_6, ↓v_1, ↓g_1_0, ↓g_1_1, ↓g_1_2, ↓g_1_3, ↓g_1_4, ↓g_1_5, ↓g_1_6, ↓p_1_6, ez]
      have g : ∀ x, ¬ x = 26 → zup M1 26 6 (d9 3) x = M1 x := fun x p => zup_ne _ p
      refine hC _ ⟨HR_cg h (fun x p q => g x (by omega)) (fun _ _ => rfl), CR_cg c (fun x p q => g x (by omega)) (fun _ _ => rfl), LR_cg a v.1.1 (by omega) (fun x p q => g x (by omega)) (fun _ _ => rfl), LR_cg b v.1.2 (by omega) (fun x p q => g x (by omega)) (fun _ _ => rfl), TR_cg t (fun x p => g x (by omega)) rfl (fun _ _ => rfl), TR_cg w (fun x p => g x (by omega)) rfl (fun _ _ => rfl), zup_eq⟩ (fun x p => by rw [g x (by omega), f x (by omega)])
    have J67 : ∀ M1 : ZMm, HR 27 M1 d9 → CR 35 M1 d9 (-1) → LR 39 M1 d9 0 → LR 43 M1 d9 1 → TR 47 M1 d9 4 308 → (∀ x, x < 27 ∨ 48 < x → M1 x = M x) → X 67 [some (.inr (.inr (.inl 26))), some (.inr (.inr (.inl 1)))] [] (zG, M1) (0, 0) := by
      intro M1 h c a b t f
      refine bs_X6_copyFrom_67 hX ?_
      simp only [bk_X6_copyFrom_0, k_X6_copyFrom_0, bk_X6_copyFrom_22, k_X6_copyFrom_22, bk_X6_copyFrom_39, k_X6_copyFrom_39, bk_X6_copyFrom_56, k_X6_copyFrom_56, bk_X6_copyFrom_67, k_X6_copyFrom_67, bk_X6_copyFrom_78, k_X6_copyFrom_78, ↓e_rk1, ↓e_rk0, ↓e_sk0, ↓e_sks, ↓e_ldi0, ↓e_ldis, ↓e_ldl0, ↓e_ldls, ↓e_lda0, ↓e_ldas, ↓e_ok0, ↓e_okss, ↓e_ok1i, ↓e_ok1r, ↓e_ok1n, ↓e_sti, ↓e_sta, ↓e_1, ↓e_2, ↓e_l1, ↓e_l2, ↓e_li, ↓e_sw0, ↓e_sws, ↓e_ceq, ↓e_cne, ↓e_clt, ↓e_cge, ↓e_cgt, ↓e_cle, ↓e_nil, ↓e_cons, ↓e_iconst, ↓e_bipush, ↓e_sipush, ↓e_ldc, ↓e_ldcw, ↓e_ldc2, ↓e_lconst, ↓e_iloadn, ↓e_iload, ↓e_lloadn, ↓e_lload, ↓e_aloadn, ↓e_aload, ↓e_istoren, ↓e_istore, ↓e_astoren, ↓e_astore, ↓e_add, ↓e_iinc, ↓e_iadd, ↓e_isub, ↓e_imul, ↓e_iand, ↓e_ior, ↓e_ixor, ↓e_ishl, ↓e_iushr, ↓e_idiv, ↓e_irem, ↓e_ineg, ↓e_i2l, ↓e_i2b, ↓e_i2s, ↓e_l2i, ↓e_land, ↓e_lor, ↓e_lshl, ↓e_lshr, ↓e_lushr, ↓e_lcmp, ↓e_dupi, ↓e_dupr, ↓e_popi, ↓e_dup2, ↓e_goto, ↓e_if, ↓e_icmp, ↓e_tsw, ↓e_lsw, ↓e_getf, ↓e_putf, ↓e_gets, ↓e_iald, ↓e_cald, ↓e_iast, ↓e_aald, ↓e_aast, ↓e_len, ↓e_copy, ↓e_abs, ↓e_max, ↓e_min, ↓e_iret, ↓e_aret, ↓e_vret, ↓e_is0, ↓e_is1, ↓e_is2, ↓e_is3, ↓e_is4, ↓e_iv1, ↓e_iv2, ↓e_iv3, ↓e_iv4, ↓e_iv5, ↓e_iv6, ↓rt_X6_copyFrom, ↓reduceIte, Nat.reduceAdd, Nat.reduceEqDiff, ↓zcl0, ↓zclv, List.map_nil, List.sum_nil, List.map_cons, List.sum_cons, zcat, true_and, and_true, Nat.reduceLeDiff, Nat.reduceAdd, eq_self, forall_const, e_ok0, e_okss, e_ok1i, e_ok1r, e_ok1n, Int.reduceToNat, Int.reduceAdd, Int.reduceMul, Int.reduceSub, Int.reduceNeg, Int.reduceLT, Int.reduceLE, Int.reduceEq, not_false_eq_true, not_true_eq_false, false_implies, true_implies, implies_true, Int.reduceDiv, Int.reduceMod, zr8_zr, zr_zbo, z01_zbo, z01_0, z01_1, zbo_eq0, zup_eq, zup_o, zup_k, ne_eq, ↓ct_scpk_hcopy, ↓r_hcopy, ↓B_hcopy, ↓ct_scpk_ccopy, ↓r_ccopy, ↓B_ccopy, ↓ct_scpk_rcpy, ↓r_rcpy, ↓B_rcpy, ↓v_26, ↓g_26_0, ↓g_26_1, ↓g_26_2, ↓g_26_3, ↓g_26_4, ↓g_26_5, ↓g_26_6, ↓p_26_6, ↓v_1, ↓g_1_0, ↓g_1_1, ↓g_1_2, ↓g_1_3, ↓g_1_4, ↓g_1_5, ↓g_1_6, ↓p_1_6, ↓v_49, ↓g_49_0, ↓l_50, ↓s_50, ↓n_50, ↓g_49_1, ↓p_49_1, ↓v_24, ↓g_24_0, ↓l_25, ↓s_25, ↓n_25, ↓g_24_1, ↓p_24_1]
      have e1 : M1 24 1 = d9 5 := by rw [f 24 (by omega)]; exact w9.1
      rw [e1]
      refine ⟨20, (show rowb 49 20 from Or.inr (Or.inr (Or.inr (Or.inr (Or.inr (Or.inr (Or.inr (Or.inl ⟨rfl, rfl⟩)))))))), (show rowb 24 20 from Or.inr (Or.inr (Or.inr (Or.inl ⟨rfl, rfl⟩)))), by omega, by omega, by omega, fun M2 p1 p2 g => J78 M2 (HR_cg h (fun x p q => g x (by omega) (by omega)) (fun _ _ => rfl)) (CR_cg c (fun x p q => g x (by omega) (by omega)) (fun _ _ => rfl)) (LR_cg a v.1.1 (by omega) (fun x p q => g x (by omega) (by omega)) (fun _ _ => rfl)) (LR_cg b v.1.2 (by omega) (fun x p q => g x (by omega) (by omega)) (fun _ _ => rfl)) (TR_cg t (fun x p => g x (by omega) (by omega)) rfl (fun _ _ => rfl)) ⟨p1, fun k hk => ?_⟩ (fun x p => by rw [g x (by omega) (by omega), f x (by omega)])⟩
      rw [p2 k hk, f _ (by omega)]
      exact w9.2 k hk
    have J56 : ∀ M1 : ZMm, HR 27 M1 d9 → CR 35 M1 d9 (-1) → LR 39 M1 d9 0 → LR 43 M1 d9 1 → (∀ x, x < 27 ∨ 45 < x → M1 x = M x) → X 56 [some (.inr (.inr (.inl 26))), some (.inr (.inr (.inl 1)))] [] (zG, M1) (0, 0) := by
      intro M1 h c a b f
      refine bs_X6_copyFrom_56 hX ?_
      simp only [bk_X6_copyFrom_0, k_X6_copyFrom_0, bk_X6_copyFrom_22, k_X6_copyFrom_22, bk_X6_copyFrom_39, k_X6_copyFrom_39, bk_X6_copyFrom_56, k_X6_copyFrom_56, bk_X6_copyFrom_67, k_X6_copyFrom_67, bk_X6_copyFrom_78, k_X6_copyFrom_78, ↓e_rk1, ↓e_rk0, ↓e_sk0, ↓e_sks, ↓e_ldi0, ↓e_ldis, ↓e_ldl0, ↓e_ldls, ↓e_lda0, ↓e_ldas, ↓e_ok0, ↓e_okss, ↓e_ok1i, ↓e_ok1r, ↓e_ok1n, ↓e_sti, ↓e_sta, ↓e_1, ↓e_2, ↓e_l1, ↓e_l2, ↓e_li, ↓e_sw0, ↓e_sws, ↓e_ceq, ↓e_cne, ↓e_clt, ↓e_cge, ↓e_cgt, ↓e_cle, ↓e_nil, ↓e_cons, ↓e_iconst, ↓e_bipush, ↓e_sipush, ↓e_ldc, ↓e_ldcw, ↓e_ldc2, ↓e_lconst, ↓e_iloadn, ↓e_iload, ↓e_lloadn, ↓e_lload, ↓e_aloadn, ↓e_aload, ↓e_istoren, ↓e_istore, ↓e_astoren, ↓e_astore, ↓e_add, ↓e_iinc, ↓e_iadd, ↓e_isub, ↓e_imul, ↓e_iand, ↓e_ior, ↓e_ixor, ↓e_ishl, ↓e_iushr, ↓e_idiv, ↓e_irem, ↓e_ineg, ↓e_i2l, ↓e_i2b, ↓e_i2s, ↓e_l2i, ↓e_land, ↓e_lor, ↓e_lshl, ↓e_lshr, ↓e_lushr, ↓e_lcmp, ↓e_dupi, ↓e_dupr, ↓e_popi, ↓e_dup2, ↓e_goto, ↓e_if, ↓e_icmp, ↓e_tsw, ↓e_lsw, ↓e_getf, ↓e_putf, ↓e_gets, ↓e_iald, ↓e_cald, ↓e_iast, ↓e_aald, ↓e_aast, ↓e_len, ↓e_copy, ↓e_abs, ↓e_max, ↓e_min, ↓e_iret, ↓e_aret, ↓e_vret, ↓e_is0, ↓e_is1, ↓e_is2, ↓e_is3, ↓e_is4, ↓e_iv1, ↓e_iv2, ↓e_iv3, ↓e_iv4, ↓e_iv5, ↓e_iv6, ↓rt_X6_copyFrom, ↓reduceIte, Nat.reduceAdd, Nat.reduceEqDiff, ↓zcl0, ↓zclv, List.map_nil, List.sum_nil, List.map_cons, List.sum_cons, zcat, true_and, and_true, Nat.reduceLeDiff, Nat.reduceAdd, eq_self, forall_const, e_ok0, e_okss, e_ok1i, e_ok1r, e_ok1n, Int.reduceToNat, Int.reduceAdd, Int.reduceMul, Int.reduceSub, Int.reduceNeg, Int.reduceLT, Int.reduceLE, Int.reduceEq, not_false_eq_true, not_true_eq_false, false_implies, true_implies, implies_true, Int.reduceDiv, Int.reduceMod, zr8_zr, zr_zbo, z01_zbo, z01_0, z01_1, zbo_eq0, zup_eq, zup_o, zup_k, ne_eq, ↓ct_scpk_hcopy, ↓r_hcopy, ↓B_hcopy, ↓ct_scpk_ccopy, ↓r_ccopy, ↓B_ccopy, ↓ct_scpk_rcpy, ↓r_rcpy, ↓B_rcpy, ↓v_26, ↓g_26_0, ↓g_26_1, ↓g_26_2, ↓g_26_3, ↓g_26_4, ↓g_26_5, ↓g_26_6, ↓p_26_6, ↓v_1, ↓g_1_0, ↓g_1_1, ↓g_1_2, ↓g_1_3, ↓g_1_4, ↓g_1_5, ↓g_1_6, ↓p_1_6, ↓v_47, ↓g_47_0, ↓l_48, ↓s_48, ↓n_48, ↓g_47_1, ↓p_47_1, ↓v_22, ↓g_22_0, ↓l_23, ↓s_23, ↓n_23, ↓g_22_1, ↓p_22_1]
      have e1 : M1 22 1 = d9 4 := by rw [f 22 (by omega)]; exact t9.1
      rw [e1]
      refine ⟨50, (show rowb 47 50 from Or.inr (Or.inr (Or.inr (Or.inr (Or.inr (Or.inr (Or.inl ⟨rfl, rfl⟩))))))), (show rowb 22 50 from Or.inr (Or.inr (Or.inl ⟨rfl, rfl⟩))), by omega, by omega, by omega, fun M2 p1 p2 g => J67 M2 (HR_cg h (fun x p q => g x (by omega) (by omega)) (fun _ _ => rfl)) (CR_cg c (fun x p q => g x (by omega) (by omega)) (fun _ _ => rfl)) (LR_cg a v.1.1 (by omega) (fun x p q => g x (by omega) (by omega)) (fun _ _ => rfl)) (LR_cg b v.1.2 (by omega) (fun x p q => g x (by omega) (by omega)) (fun _ _ => rfl)) ⟨p1, fun k hk => ?_⟩ (fun x p => by rw [g x (by omega) (by omega), f x (by omega)])⟩
      rw [p2 k hk, f _ (by omega)]
      exact t9.2 k hk
    have J39 : ∀ M1 : ZMm, HR 27 M1 d9 → CR 35 M1 d9 (-1) → LR 39 M1 d9 0 → (∀ x, x < 27 ∨ 41 < x → M1 x = M x) → X 39 [some (.inr (.inr (.inl 26))), some (.inr (.inr (.inl 1)))] [] (zG, M1) (0, 0) := by
      intro M1 h c a f
      refine bs_X6_copyFrom_39 hX ?_
      simp only [bk_X6_copyFrom_0, k_X6_copyFrom_0, bk_X6_copyFrom_22, k_X6_copyFrom_22, bk_X6_copyFrom_39, k_X6_copyFrom_39, bk_X6_copyFrom_56, k_X6_copyFrom_56, bk_X6_copyFrom_67, k_X6_copyFrom_67, bk_X6_copyFrom_78, k_X6_copyFrom_78, ↓e_rk1, ↓e_rk0, ↓e_sk0, ↓e_sks, ↓e_ldi0, ↓e_ldis, ↓e_ldl0, ↓e_ldls, ↓e_lda0, ↓e_ldas, ↓e_ok0, ↓e_okss, ↓e_ok1i, ↓e_ok1r, ↓e_ok1n, ↓e_sti, ↓e_sta, ↓e_1, ↓e_2, ↓e_l1, ↓e_l2, ↓e_li, ↓e_sw0, ↓e_sws, ↓e_ceq, ↓e_cne, ↓e_clt, ↓e_cge, ↓e_cgt, ↓e_cle, ↓e_nil, ↓e_cons, ↓e_iconst, ↓e_bipush, ↓e_sipush, ↓e_ldc, ↓e_ldcw, ↓e_ldc2, ↓e_lconst, ↓e_iloadn, ↓e_iload, ↓e_lloadn, ↓e_lload, ↓e_aloadn, ↓e_aload, ↓e_istoren, ↓e_istore, ↓e_astoren, ↓e_astore, ↓e_add, ↓e_iinc, ↓e_iadd, ↓e_isub, ↓e_imul, ↓e_iand, ↓e_ior, ↓e_ixor, ↓e_ishl, ↓e_iushr, ↓e_idiv, ↓e_irem, ↓e_ineg, ↓e_i2l, ↓e_i2b, ↓e_i2s, ↓e_l2i, ↓e_land, ↓e_lor, ↓e_lshl, ↓e_lshr, ↓e_lushr, ↓e_lcmp, ↓e_dupi, ↓e_dupr, ↓e_popi, ↓e_dup2, ↓e_goto, ↓e_if, ↓e_icmp, ↓e_tsw, ↓e_lsw, ↓e_getf, ↓e_putf, ↓e_gets, ↓e_iald, ↓e_cald, ↓e_iast, ↓e_aald, ↓e_aast, ↓e_len, ↓e_copy, ↓e_abs, ↓e_max, ↓e_min, ↓e_iret, ↓e_aret, ↓e_vret, ↓e_is0, ↓e_is1, ↓e_is2, ↓e_is3, ↓e_is4, ↓e_iv1, ↓e_iv2, ↓e_iv3, ↓e_iv4, ↓e_iv5, ↓e_iv6, ↓rt_X6_copyFrom, ↓reduceIte, Nat.reduceAdd, Nat.reduceEqDiff, ↓zcl0, ↓zclv, List.map_nil, List.sum_nil, List.map_cons, List.sum_cons, zcat, true_and, and_true, Nat.reduceLeDiff, Nat.reduceAdd, eq_self, forall_const, e_ok0, e_okss, e_ok1i, e_ok1r, e_ok1n, Int.reduceToNat, Int.reduceAdd, Int.reduceMul, Int.reduceSub, Int.reduceNeg, Int.reduceLT, Int.reduceLE, Int.reduceEq, not_false_eq_true, not_true_eq_false, false_implies, true_implies, implies_true, Int.reduceDiv, Int.reduceMod, zr8_zr, zr_zbo, z01_zbo, z01_0, z01_1, zbo_eq0, zup_eq, zup_o, zup_k, ne_eq, ↓ct_scpk_hcopy, ↓r_hcopy, ↓B_hcopy, ↓ct_scpk_ccopy, ↓r_ccopy, ↓B_ccopy, ↓ct_scpk_rcpy, ↓r_rcpy, ↓B_rcpy, ↓v_26, ↓g_26_0, ↓g_26_1, ↓g_26_2, ↓g_26_3, ↓g_26_4, ↓g_26_5, ↓g_26_6, ↓p_26_6, ↓v_1, ↓g_1_0, ↓g_1_1, ↓g_1_2, ↓g_1_3, ↓g_1_4, ↓g_1_5, ↓g_1_6, ↓p_1_6, ↓v_43, ↓g_43_0, ↓g_43_1, ↓l_46, ↓s_46, ↓n_46, ↓v_18, ↓g_18_0, ↓g_18_1, ↓l_21, ↓s_21, ↓n_21, ↓v_44, ↓g_44_0, ↓l_45, ↓s_45, ↓n_45, ↓g_44_1, ↓p_44_1, ↓v_19, ↓g_19_0, ↓l_20, ↓s_20, ↓n_20, ↓g_19_1, ↓p_19_1]
      have e1 : M1 19 1 = d9 187 := by rw [f 19 (by omega)]; exact l2.1
      rw [e1]
      refine ⟨50, (show rowb 44 50 from Or.inr (Or.inr (Or.inr (Or.inr (Or.inr (Or.inl ⟨rfl, rfl⟩)))))), (show rowb 19 50 from Or.inr (Or.inl ⟨rfl, rfl⟩)), by omega, by omega, by omega, fun M2 p1 p2 g => J56 M2 (HR_cg h (fun x p q => g x (by omega) (by omega)) (fun _ _ => rfl)) (CR_cg c (fun x p q => g x (by omega) (by omega)) (fun _ _ => rfl)) (LR_cg a v.1.1 (by omega) (fun x p q => g x (by omega) (by omega)) (fun _ _ => rfl)) ⟨p1, fun k hk => ?_⟩ (fun x p => by rw [g x (by omega) (by omega), f x (by omega)])⟩
      have := p2 k hk
      rw [f _ (by omega)] at this
      exact this.trans (l2.2 k hk)
    have J22 : ∀ M1 : ZMm, HR 27 M1 d9 → CR 35 M1 d9 (-1) → (∀ x, x < 27 ∨ 38 < x → M1 x = M x) → X 22 [some (.inr (.inr (.inl 26))), some (.inr (.inr (.inl 1)))] [] (zG, M1) (0, 0) := by
      intro M1 h c f
      refine bs_X6_copyFrom_22 hX ?_
      simp only [bk_X6_copyFrom_0, k_X6_copyFrom_0, bk_X6_copyFrom_22, k_X6_copyFrom_22, bk_X6_copyFrom_39, k_X6_copyFrom_39, bk_X6_copyFrom_56, k_X6_copyFrom_56, bk_X6_copyFrom_67, k_X6_copyFrom_67, bk_X6_copyFrom_78, k_X6_copyFrom_78, ↓e_rk1, ↓e_rk0, ↓e_sk0, ↓e_sks, ↓e_ldi0, ↓e_ldis, ↓e_ldl0, ↓e_ldls, ↓e_lda0, ↓e_ldas, ↓e_ok0, ↓e_okss, ↓e_ok1i, ↓e_ok1r, ↓e_ok1n, ↓e_sti, ↓e_sta, ↓e_1, ↓e_2, ↓e_l1, ↓e_l2, ↓e_li, ↓e_sw0, ↓e_sws, ↓e_ceq, ↓e_cne, ↓e_clt, ↓e_cge, ↓e_cgt, ↓e_cle, ↓e_nil, ↓e_cons, ↓e_iconst, ↓e_bipush, ↓e_sipush, ↓e_ldc, ↓e_ldcw, ↓e_ldc2, ↓e_lconst, ↓e_iloadn, ↓e_iload, ↓e_lloadn, ↓e_lload, ↓e_aloadn, ↓e_aload, ↓e_istoren, ↓e_istore, ↓e_astoren, ↓e_astore, ↓e_add, ↓e_iinc, ↓e_iadd, ↓e_isub, ↓e_imul, ↓e_iand, ↓e_ior, ↓e_ixor, ↓e_ishl, ↓e_iushr, ↓e_idiv, ↓e_irem, ↓e_ineg, ↓e_i2l, ↓e_i2b, ↓e_i2s, ↓e_l2i, ↓e_land, ↓e_lor, ↓e_lshl, ↓e_lshr, ↓e_lushr, ↓e_lcmp, ↓e_dupi, ↓e_dupr, ↓e_popi, ↓e_dup2, ↓e_goto, ↓e_if, ↓e_icmp, ↓e_tsw, ↓e_lsw, ↓e_getf, ↓e_putf, ↓e_gets, ↓e_iald, ↓e_cald, ↓e_iast, ↓e_aald, ↓e_aast, ↓e_len, ↓e_copy, ↓e_abs, ↓e_max, ↓e_min, ↓e_iret, ↓e_aret, ↓e_vret, ↓e_is0, ↓e_is1, ↓e_is2, ↓e_is3, ↓e_is4, ↓e_iv1, ↓e_iv2, ↓e_iv3, ↓e_iv4, ↓e_iv5, ↓e_iv6, ↓rt_X6_copyFrom, ↓reduceIte, Nat.reduceAdd, Nat.reduceEqDiff, ↓zcl0, ↓zclv, List.map_nil, List.sum_nil, List.map_cons, List.sum_cons, zcat, true_and, and_true, Nat.reduceLeDiff, Nat.reduceAdd, eq_self, forall_const, e_ok0, e_okss, e_ok1i, e_ok1r, e_ok1n, Int.reduceToNat, Int.reduceAdd, Int.reduceMul, Int.reduceSub, Int.reduceNeg, Int.reduceLT, Int.reduceLE, Int.reduceEq, not_false_eq_true, not_true_eq_false, false_implies, true_implies, implies_true, Int.reduceDiv, Int.reduceMod, zr8_zr, zr_zbo, z01_zbo, z01_0, z01_1, zbo_eq0, zup_eq, zup_o, zup_k, ne_eq, ↓ct_scpk_hcopy, ↓r_hcopy, ↓B_hcopy, ↓ct_scpk_ccopy, ↓r_ccopy, ↓B_ccopy, ↓ct_scpk_rcpy, ↓r_rcpy, ↓B_rcpy, ↓v_26, ↓g_26_0, ↓g_26_1, ↓g_26_2, ↓g_26_3, ↓g_26_4, ↓g_26_5, ↓g_26_6, ↓p_26_6, ↓v_1, ↓g_1_0, ↓g_1_1, ↓g_1_2, ↓g_1_3, ↓g_1_4, ↓g_1_5, ↓g_1_6, ↓p_1_6, ↓v_39, ↓g_39_0, ↓g_39_1, ↓l_42, ↓s_42, ↓n_42, ↓v_14, ↓g_14_0, ↓g_14_1, ↓l_17, ↓s_17, ↓n_17, ↓v_40, ↓g_40_0, ↓l_41, ↓s_41, ↓n_41, ↓g_40_1, ↓p_40_1, ↓v_15, ↓g_15_0, ↓l_16, ↓s_16, ↓n_16, ↓g_15_1, ↓p_15_1]
      have e1 : M1 15 1 = d9 186 := by rw [f 15 (by omega)]; exact l1.1
      rw [e1]
      refine ⟨50, (show rowb 40 50 from Or.inr (Or.inr (Or.inr (Or.inr (Or.inl ⟨rfl, rfl⟩))))), (show rowb 15 50 from Or.inl ⟨rfl, rfl⟩), by omega, by omega, by omega, fun M2 p1 p2 g => J39 M2 (HR_cg h (fun x p q => g x (by omega) (by omega)) (fun _ _ => rfl)) (CR_cg c (fun x p q => g x (by omega) (by omega)) (fun _ _ => rfl)) ⟨p1, fun k hk => ?_⟩ (fun x p => by rw [g x (by omega) (by omega), f x (by omega)])⟩
      have := p2 k hk
      rw [f _ (by omega)] at this
      exact this.trans (l1.2 k hk)
    simp only [bk_X6_copyFrom_0, k_X6_copyFrom_0, bk_X6_copyFrom_22, k_X6_copyFrom_22, bk_X6_copyFrom_39, k_X6_copyFrom_39, bk_X6_copyFrom_56, k_X6_copyFrom_56, bk_X6_copyFrom_67, k_X6_copyFrom_67, bk_X6_copyFrom_78, k_X6_copyFrom_78, ↓e_rk1, ↓e_rk0, ↓e_sk0, ↓e_sks, ↓e_ldi0, ↓e_ldis, ↓e_ldl0, ↓e_ldls, ↓e_lda0, ↓e_ldas, ↓e_ok0, ↓e_okss, ↓e_ok1i, ↓e_ok1r, ↓e_ok1n, ↓e_sti, ↓e_sta, ↓e_1, ↓e_2, ↓e_l1, ↓e_l2, ↓e_li, ↓e_sw0, ↓e_sws, ↓e_ceq, ↓e_cne, ↓e_clt, ↓e_cge, ↓e_cgt, ↓e_cle, ↓e_nil, ↓e_cons, ↓e_iconst, ↓e_bipush, ↓e_sipush, ↓e_ldc, ↓e_ldcw, ↓e_ldc2, ↓e_lconst, ↓e_iloadn, ↓e_iload, ↓e_lloadn, ↓e_lload, ↓e_aloadn, ↓e_aload, ↓e_istoren, ↓e_istore, ↓e_astoren, ↓e_astore, ↓e_add, ↓e_iinc, ↓e_iadd, ↓e_isub, ↓e_imul, ↓e_iand, ↓e_ior, ↓e_ixor, ↓e_ishl, ↓e_iushr, ↓e_idiv, ↓e_irem, ↓e_ineg, ↓e_i2l, ↓e_i2b, ↓e_i2s, ↓e_l2i, ↓e_land, ↓e_lor, ↓e_lshl, ↓e_lshr, ↓e_lushr, ↓e_lcmp, ↓e_dupi, ↓e_dupr, ↓e_popi, ↓e_dup2, ↓e_goto, ↓e_if, ↓e_icmp, ↓e_tsw, ↓e_lsw, ↓e_getf, ↓e_putf, ↓e_gets, ↓e_iald, ↓e_cald, ↓e_iast, ↓e_aald, ↓e_aast, ↓e_len, ↓e_copy, ↓e_abs, ↓e_max, ↓e_min, ↓e_iret, ↓e_aret, ↓e_vret, ↓e_is0, ↓e_is1, ↓e_is2, ↓e_is3, ↓e_is4, ↓e_iv1, ↓e_iv2, ↓e_iv3, ↓e_iv4, ↓e_iv5, ↓e_iv6, ↓rt_X6_copyFrom, ↓reduceIte, Nat.reduceAdd, Nat.reduceEqDiff, ↓zcl0, ↓zclv, List.map_nil, List.sum_nil, List.map_cons, List.sum_cons, zcat, true_and, and_true, Nat.reduceLeDiff, Nat.reduceAdd, eq_self, forall_const, e_ok0, e_okss, e_ok1i, e_ok1r, e_ok1n, Int.reduceToNat, Int.reduceAdd, Int.reduceMul, Int.reduceSub, Int.reduceNeg, Int.reduceLT, Int.reduceLE, Int.reduceEq, not_false_eq_true, not_true_eq_false, false_implies, true_implies, implies_true, Int.reduceDiv, Int.reduceMod, zr8_zr, zr_zbo, z01_zbo, z01_0, z01_1, zbo_eq0, zup_eq, zup_o, zup_k, ne_eq, ↓ct_scpk_hcopy, ↓r_hcopy, ↓B_hcopy, ↓ct_scpk_ccopy, ↓r_ccopy, ↓B_ccopy, ↓ct_scpk_rcpy, ↓r_rcpy, ↓B_rcpy, ↓v_26, ↓g_26_0, ↓g_26_1, ↓g_26_2, ↓g_26_3, ↓g_26_4, ↓g_26_5, ↓g_26_6, ↓p_26_6, ↓v_1, ↓g_1_0, ↓g_1_1, ↓g_1_2, ↓g_1_3, ↓g_1_4, ↓g_1_5, ↓g_1_6, ↓p_1_6, ↓v_27, ↓g_27_0, ↓l_28, ↓s_28, ↓n_28, ↓g_27_1, ↓l_29, ↓s_29, ↓n_29, ↓g_27_2, ↓l_30, ↓s_30, ↓n_30, ↓g_27_3, ↓l_31, ↓s_31, ↓n_31, ↓g_27_4, ↓l_32, ↓s_32, ↓n_32, ↓g_27_5, ↓l_33, ↓s_33, ↓n_33, ↓g_27_6, ↓l_34, ↓s_34, ↓n_34, ↓g_27_7, ↓p_27_7, ↓g_27_8, ↓p_27_8, ↓g_27_9, ↓p_27_9, ↓v_2, ↓g_2_0, ↓l_3, ↓s_3, ↓n_3, ↓g_2_1, ↓l_4, ↓s_4, ↓n_4, ↓g_2_2, ↓l_5, ↓s_5, ↓n_5, ↓g_2_3, ↓l_6, ↓s_6, ↓n_6, ↓g_2_4, ↓l_7, ↓s_7, ↓n_7, ↓g_2_5, ↓l_8, ↓s_8, ↓n_8, ↓g_2_6, ↓l_9, ↓s_9, ↓n_9, ↓g_2_7, ↓p_2_7, ↓g_2_8, ↓p_2_8, ↓g_2_9, ↓p_2_9, ↓v_35, ↓g_35_0, ↓l_36, ↓s_36, ↓n_36, ↓g_35_1, ↓l_37, ↓s_37, ↓n_37, ↓g_35_2, ↓l_38, ↓s_38, ↓n_38, ↓g_35_3, ↓p_35_3, ↓v_10, ↓g_10_0, ↓l_11, ↓s_11, ↓n_11, ↓g_10_1, ↓l_12, ↓s_12, ↓n_12, ↓g_10_2, ↓l_13, ↓s_13, ↓n_13, ↓g_10_3, ↓p_10_3]
    refine ⟨Or.inr (Or.inl rfl), Or.inl rfl, d9, h9, fun M1 h1 f1 => ⟨Or.inr (Or.inl rfl), Or.inl rfl, d9, -1, CR_cg c9 (fun x p q => f1 x (by omega)) (fun _ _ => rfl), fun M2 c2 f2 => J22 M2 (HR_cg h1 (fun x p q => f2 x (by omega)) (fun _ _ => rfl)) c2 (fun x p => by rw [f2 x (by omega), f1 x (by omega)])⟩⟩
def B_scpn (M : Nat → Nat → Int) (post : Option ZV → (Nat → Nat → Int) → Prop) : Prop := ∃ d : Nat → Int, SRk M d ∧ Vd d ∧ ∀ M2 : ZMm, SRn M2 d → (∀ x, x < 1 ∨ 25 < x → M2 x = M x) → post none M2
def C_scpn : ZC := fun as h post => match as with
  | [.inr (.inr (.inl 1)), .inr (.inr (.inl 26))] => h.1 = zG ∧ B_scpn h.2 (fun v M => post v (zG, M))
  | _ => False
theorem r_scpn {M : Nat → Nat → Int} {post : Option ZV → ZH → Prop} : C_scpn [.inr (.inr (.inl 1)), .inr (.inr (.inl 26))] (zG, M) post = B_scpn M (fun v M => post v (zG, M)) := by show (zG = zG ∧ _) = _; simp
def ct_scpn : Nat → ZC := fun n => if n = 24 then C_hcopy else if n = 2 then C_ccopy else if n = 42 then C_rcpy else fun _ _ _ => False
theorem ct_scpn_hcopy {as : List ZV} {h : ZH} {post : Option ZV → ZH → Prop} : ct_scpn 24 as h post = C_hcopy as h post := rfl
theorem ct_scpn_ccopy {as : List ZV} {h : ZH} {post : Option ZV → ZH → Prop} : ct_scpn 2 as h post = C_ccopy as h post := rfl
theorem ct_scpn_rcpy {as : List ZV} {h : ZH} {post : Option ZV → ZH → Prop} : ct_scpn 42 as h post = C_rcpy as h post := rfl
theorem c_scpn {E : ZE} {d : Nat} (hd : 2 ≤ d) : zMet E d mX6_copyFrom C_scpn := by
  refine zmet_of (o := 6) (ini := false) (CT := ct_scpn) gd_X6_copyFrom rfl (fun h => by cases h) (by omega) ?_ ?_
  · intro n as h post hh
    unfold ct_scpn at hh
    by_cases c : n = 24
    · subst c; exact ⟨gd_X2_copyFrom, 1, by omega, c_hcopy (by omega)⟩
    rw [if_neg c] at hh
    by_cases c : n = 2
    · subst c; exact ⟨gd_X0_copyFrom, 1, by omega, c_ccopy (by omega)⟩
    rw [if_neg c] at hh
    by_cases c : n = 42
    · subst c; exact ⟨gd_X5_copyFrom, 1, by omega, c_rcpy (by omega)⟩
    rw [if_neg c] at hh
    exact hh.elim
  intro as h post hC
  match as, hC with
  | [.inr (.inr (.inl 1)), .inr (.inr (.inl 26))], hC =>
    refine ⟨Nat.le_of_ble_eq_true rfl, fun X hX => bs_X6_copyFrom_0 hX ?_⟩
    obtain ⟨G, M⟩ := h
    obtain ⟨hG, hC⟩ := hC
    dsimp only at hG
    subst hG
    simp only [B_scpn] at hC
    show bk_X6_copyFrom_0 E ct_scpn X _ [some (.inr (.inr (.inl 1))), some (.inr (.inr (.inl 26)))] [] (zG, M) (0, 0)
    obtain ⟨d9, ⟨h9, c9, l1, l2, t9, w9, z9⟩, vd, hC⟩ := hC
    have v := Vd_l vd
    have vt0 := vd.2.2.2.2.2.2.2.2.2.2.1.1
    have vt1 := vd.2.2.2.2.2.2.2.2.2.2.2.1
    have vb := vd.2.2.2
    have u0 : d9 (186 + 0) = d9 186 := rfl
    have u1 : d9 (186 + 1) = d9 187 := rfl
    have u2 : 0 ≤ d9 186 := vt0
    have u3 : 0 ≤ d9 187 := vt1
    have u4 : 0 ≤ d9 4 := vb.1.1
    have u5 : 0 ≤ d9 5 := vb.2.1.1
    have J78 : ∀ M1 : ZMm, HR 2 M1 d9 → CR 10 M1 d9 (-1) → LR 14 M1 d9 0 → LR 18 M1 d9 1 → TR 22 M1 d9 4 308 → TR 24 M1 d9 5 188 → (∀ x, x < 2 ∨ 25 < x → M1 x = M x) → X 78 [some (.inr (.inr (.inl 1))), some (.inr (.inr (.inl 26)))] [] (zG, M1) (0, 0) := by
      intro M1 h c a b t w f
      refine bs_X6_copyFrom_78 hX ?_
      have ez : M1 26 6 = d9 3 := by rw [f 26 (by omega)]; exact z9
      simp only [bk_X6_copyFrom_0, k_X6_copyFrom_0, bk_X6_copyFrom_22, k_X6_copyFrom_22, bk_X6_copyFrom_39, k_X6_copyFrom_39, bk_X6_copyFrom_56, k_X6_copyFrom_56, bk_X6_copyFrom_67, k_X6_copyFrom_67, bk_X6_copyFrom_78, k_X6_copyFrom_78, ↓e_rk1, ↓e_rk0, ↓e_sk0, ↓e_sks, ↓e_ldi0, ↓e_ldis, ↓e_ldl0, ↓e_ldls, ↓e_lda0, ↓e_ldas, ↓e_ok0, ↓e_okss, ↓e_ok1i, ↓e_ok1r, ↓e_ok1n, ↓e_sti, ↓e_sta, ↓e_1, ↓e_2, ↓e_l1, ↓e_l2, ↓e_li, ↓e_sw0, ↓e_sws, ↓e_ceq, ↓e_cne, ↓e_clt, ↓e_cge, ↓e_cgt, ↓e_cle, ↓e_nil, ↓e_cons, ↓e_iconst, ↓e_bipush, ↓e_sipush, ↓e_ldc, ↓e_ldcw, ↓e_ldc2, ↓e_lconst, ↓e_iloadn, ↓e_iload, ↓e_lloadn, ↓e_lload, ↓e_aloadn, ↓e_aload, ↓e_istoren, ↓e_istore, ↓e_astoren, ↓e_astore, ↓e_add, ↓e_iinc, ↓e_iadd, ↓e_isub, ↓e_imul, ↓e_iand, ↓e_ior, ↓e_ixor, ↓e_ishl, ↓e_iushr, ↓e_idiv, ↓e_irem, ↓e_ineg, ↓e_i2l, ↓e_i2b, ↓e_i2s, ↓e_l2i, ↓e_land, ↓e_lor, ↓e_lshl, ↓e_lshr, ↓e_lushr, ↓e_lcmp, ↓e_dupi, ↓e_dupr, ↓e_popi, ↓e_dup2, ↓e_goto, ↓e_if, ↓e_icmp, ↓e_tsw, ↓e_lsw, ↓e_getf, ↓e_putf, ↓e_gets, ↓e_iald, ↓e_cald, ↓e_iast, ↓e_aald, ↓e_aast, ↓e_len, ↓e_copy, ↓e_abs, ↓e_max, ↓e_min, ↓e_iret, ↓e_aret, ↓e_vret, ↓e_is0, ↓e_is1, ↓e_is2, ↓e_is3, ↓e_is4, ↓e_iv1, ↓e_iv2, ↓e_iv3, ↓e_iv4, ↓e_iv5, ↓e_iv6, ↓rt_X6_copyFrom, ↓reduceIte, Nat.reduceAdd, Nat.reduceEqDiff, ↓zcl0, ↓zclv, List.map_nil, List.sum_nil, List.map_cons, List.sum_cons, zcat, true_and, and_true, Nat.reduceLeDiff, Nat.reduceAdd, eq_self, forall_const, e_ok0, e_okss, e_ok1i, e_ok1r, e_ok1n, Int.reduceToNat, Int.reduceAdd, Int.reduceMul, Int.reduceSub, Int.reduceNeg, Int.reduceLT, Int.reduceLE, Int.reduceEq, not_false_eq_true, not_true_eq_false, false_implies, true_implies, implies_true, Int.reduceDiv, Int.reduceMod, zr8_zr, zr_zbo, z01_zbo, z01_0, z01_1, zbo_eq0, zup_eq, zup_o, zup_k, ne_eq, ↓ct_scpn_hcopy, ↓r_hcopy, ↓B_hcopy, ↓ct_scpn_ccopy, ↓r_ccopy, ↓B_ccopy, ↓ct_scpn_rcpy, ↓r_rcpy, ↓B_rcpy, ↓v_1, ↓g_1_0, ↓g_1_1, ↓g_1_2, ↓g_1_3, ↓g_1_4, ↓g_1_5, ↓g_1_6, ↓p_1_6, ↓v_26, ↓g_26_0, ↓g_26_1, ↓g_26_2, ↓g_26_3, ↓g_26_4, ↓g_26_5, ↓g_26_6, ↓p_26_6, ez]
      have g : ∀ x, ¬ x = 1 → zup M1 1 6 (d9 3) x = M1 x := fun x p => zup_ne _ p
      refine hC _ ⟨HR_cg h (fun x p q => g x (by omega)) (fun _ _ => rfl), CR_cg c (fun x p q => g x (by omega)) (fun _ _ => rfl), LR_cg a v.1.1 (by omega) (fun x p q => g x (by omega)) (fun _ _ => rfl), LR_cg b v.1.2 (by omega) (fun x p q => g x (by omega)) (fun _ _ => rfl), TR_cg t (fun x p => g x (by omega)) rfl (fun _ _ => rfl), TR_cg w (fun x p => g x (by omega)) rfl (fun _ _ => rfl), zup_eq⟩ (fun x p => by rw [g x (by omega), f x (by omega)])
    have J67 : ∀ M1 : ZMm, HR 2 M1 d9 → CR 10 M1 d9 (-1) → LR 14 M1 d9 0 → LR 18 M1 d9 1 → TR 22 M1 d9 4 308 → (∀ x, x < 2 ∨ 23 < x → M1 x = M x) → X 67 [some (.inr (.inr (.inl 1))), some (.inr (.inr (.inl 26)))] [] (zG, M1) (0, 0) := by
      intro M1 h c a b t f
      refine bs_X6_copyFrom_67 hX ?_
      simp only [bk_X6_copyFrom_0, k_X6_copyFrom_0, bk_X6_copyFrom_22, k_X6_copyFrom_22, bk_X6_copyFrom_39, k_X6_copyFrom_39, bk_X6_copyFrom_56, k_X6_copyFrom_56, bk_X6_copyFrom_67, k_X6_copyFrom_67, bk_X6_copyFrom_78, k_X6_copyFrom_78, ↓e_rk1, ↓e_rk0, ↓e_sk0, ↓e_sks, ↓e_ldi0, ↓e_ldis, ↓e_ldl0, ↓e_ldls, ↓e_lda0, ↓e_ldas, ↓e_ok0, ↓e_okss, ↓e_ok1i, ↓e_ok1r, ↓e_ok1n, ↓e_sti, ↓e_sta, ↓e_1, ↓e_2, ↓e_l1, ↓e_l2, ↓e_li, ↓e_sw0, ↓e_sws, ↓e_ceq, ↓e_cne, ↓e_clt, ↓e_cge, ↓e_cgt, ↓e_cle, ↓e_nil, ↓e_cons, ↓e_iconst, ↓e_bipush, ↓e_sipush, ↓e_ldc, ↓e_ldcw, ↓e_ldc2, ↓e_lconst, ↓e_iloadn, ↓e_iload, ↓e_lloadn, ↓e_lload, ↓e_aloadn, ↓e_aload, ↓e_istoren, ↓e_istore, ↓e_astoren, ↓e_astore, ↓e_add, ↓e_iinc, ↓e_iadd, ↓e_isub, ↓e_imul, ↓e_iand, ↓e_ior, ↓e_ixor, ↓e_ishl, ↓e_iushr, ↓e_idiv, ↓e_irem, ↓e_ineg, ↓e_i2l, ↓e_i2b, ↓e_i2s, ↓e_l2i, ↓e_land, ↓e_lor, ↓e_lshl, ↓e_lshr, ↓e_lushr, ↓e_lcmp, ↓e_dupi, ↓e_dupr, ↓e_popi, ↓e_dup2, ↓e_goto, ↓e_if, ↓e_icmp, ↓e_tsw, ↓e_lsw, ↓e_getf, ↓e_putf, ↓e_gets, ↓e_iald, ↓e_cald, ↓e_iast, ↓e_aald, ↓e_aast, ↓e_len, ↓e_copy, ↓e_abs, ↓e_max, ↓e_min, ↓e_iret, ↓e_aret, ↓e_vret, ↓e_is0, ↓e_is1, ↓e_is2, ↓e_is3, ↓e_is4, ↓e_iv1, ↓e_iv2, ↓e_iv3, ↓e_iv4, ↓e_iv5, ↓e_iv6, ↓rt_X6_copyFrom, ↓reduceIte, Nat.reduceAdd, Nat.reduceEqDiff, ↓zcl0, ↓zclv, List.map_nil, List.sum_nil, List.map_cons, List.sum_cons, zcat, true_and, and_true, Nat.reduceLeDiff, Nat.reduceAdd, eq_self, forall_const, e_ok0, e_okss, e_ok1i, e_ok1r, e_ok1n, Int.reduceToNat, Int.reduceAdd, Int.reduceMul, Int.reduceSub, Int.reduceNeg, Int.reduceLT, Int.reduceLE, Int.reduceEq, not_false_eq_true, not_true_eq_false, false_implies, true_implies, implies_true, Int.reduceDiv, Int.reduceMod, zr8_zr, zr_zbo, z01_zbo, z01_0, z01_1, zbo_eq0, zup_eq, zup_o, zup_k, ne_eq, ↓ct_scpn_hcopy, ↓r_hcopy, ↓B_hcopy, ↓ct_scpn_ccopy, ↓r_ccopy, ↓B_ccopy, ↓ct_scpn_rcpy, ↓r_rcpy, ↓B_rcpy, ↓v_1, ↓g_1_0, ↓g_1_1, ↓g_1_2, ↓g_1_3, ↓g_1_4, ↓g_1_5, ↓g_1_6, ↓p_1_6, ↓v_26, ↓g_26_0, ↓g_26_1, ↓g_26_2, ↓g_26_3, ↓g_26_4, ↓g_26_5, ↓g_26_6, ↓p_26_6, ↓v_24, ↓g_24_0, ↓l_25, ↓s_25, ↓n_25, ↓g_24_1, ↓p_24_1, ↓v_49, ↓g_49_0, ↓l_50, ↓s_50, ↓n_50, ↓g_49_1, ↓p_49_1]
      have e1 : M1 49 1 = d9 5 := by rw [f 49 (by omega)]; exact w9.1
      rw [e1]
      refine ⟨20, (show rowb 24 20 from Or.inr (Or.inr (Or.inr (Or.inl ⟨rfl, rfl⟩)))), (show rowb 49 20 from Or.inr (Or.inr (Or.inr (Or.inr (Or.inr (Or.inr (Or.inr (Or.inl ⟨rfl, rfl⟩)))))))), by omega, by omega, by omega, fun M2 p1 p2 g => J78 M2 (HR_cg h (fun x p q => g x (by omega) (by omega)) (fun _ _ => rfl)) (CR_cg c (fun x p q => g x (by omega) (by omega)) (fun _ _ => rfl)) (LR_cg a v.1.1 (by omega) (fun x p q => g x (by omega) (by omega)) (fun _ _ => rfl)) (LR_cg b v.1.2 (by omega) (fun x p q => g x (by omega) (by omega)) (fun _ _ => rfl)) (TR_cg t (fun x p => g x (by omega) (by omega)) rfl (fun _ _ => rfl)) ⟨p1, fun k hk => ?_⟩ (fun x p => by rw [g x (by omega) (by omega), f x (by omega)])⟩
      rw [p2 k hk, f _ (by omega)]
      exact w9.2 k hk
    have J56 : ∀ M1 : ZMm, HR 2 M1 d9 → CR 10 M1 d9 (-1) → LR 14 M1 d9 0 → LR 18 M1 d9 1 → (∀ x, x < 2 ∨ 20 < x → M1 x = M x) → X 56 [some (.inr (.inr (.inl 1))), some (.inr (.inr (.inl 26)))] [] (zG, M1) (0, 0) := by
      intro M1 h c a b f
      refine bs_X6_copyFrom_56 hX ?_
      simp only [bk_X6_copyFrom_0, k_X6_copyFrom_0, bk_X6_copyFrom_22, k_X6_copyFrom_22, bk_X6_copyFrom_39, k_X6_copyFrom_39, bk_X6_copyFrom_56, k_X6_copyFrom_56, bk_X6_copyFrom_67, k_X6_copyFrom_67, bk_X6_copyFrom_78, k_X6_copyFrom_78, ↓e_rk1, ↓e_rk0, ↓e_sk0, ↓e_sks, ↓e_ldi0, ↓e_ldis, ↓e_ldl0, ↓e_ldls, ↓e_lda0, ↓e_ldas, ↓e_ok0, ↓e_okss, ↓e_ok1i, ↓e_ok1r, ↓e_ok1n, ↓e_sti, ↓e_sta, ↓e_1, ↓e_2, ↓e_l1, ↓e_l2, ↓e_li, ↓e_sw0, ↓e_sws, ↓e_ceq, ↓e_cne, ↓e_clt, ↓e_cge, ↓e_cgt, ↓e_cle, ↓e_nil, ↓e_cons, ↓e_iconst, ↓e_bipush, ↓e_sipush, ↓e_ldc, ↓e_ldcw, ↓e_ldc2, ↓e_lconst, ↓e_iloadn, ↓e_iload, ↓e_lloadn, ↓e_lload, ↓e_aloadn, ↓e_aload, ↓e_istoren, ↓e_istore, ↓e_astoren, ↓e_astore, ↓e_add, ↓e_iinc, ↓e_iadd, ↓e_isub, ↓e_imul, ↓e_iand, ↓e_ior, ↓e_ixor, ↓e_ishl, ↓e_iushr, ↓e_idiv, ↓e_irem, ↓e_ineg, ↓e_i2l, ↓e_i2b, ↓e_i2s, ↓e_l2i, ↓e_land, ↓e_lor, ↓e_lshl, ↓e_lshr, ↓e_lushr, ↓e_lcmp, ↓e_dupi, ↓e_dupr, ↓e_popi, ↓e_dup2, ↓e_goto, ↓e_if, ↓e_icmp, ↓e_tsw, ↓e_lsw, ↓e_getf, ↓e_putf, ↓e_gets, ↓e_iald, ↓e_cald, ↓e_iast, ↓e_aald, ↓e_aast, ↓e_len, ↓e_copy, ↓e_abs, ↓e_max, ↓e_min, ↓e_iret, ↓e_aret, ↓e_vret, ↓e_is0, ↓e_is1, ↓e_is2, ↓e_is3, ↓e_is4, ↓e_iv1, ↓e_iv2, ↓e_iv3, ↓e_iv4, ↓e_iv5, ↓e_iv6, ↓rt_X6_copyFrom, ↓reduceIte, Nat.reduceAdd, Nat.reduceEqDiff, ↓zcl0, ↓zclv, List.map_nil, List.sum_nil, List.map_cons, List.sum_cons, zcat, true_and, and_true, Nat.reduceLeDiff, Nat.reduceAdd, eq_self, forall_const, e_ok0, e_okss, e_ok1i, e_ok1r, e_ok1n, Int.reduceToNat, Int.reduceAdd, Int.reduceMul, Int.reduceSub, Int.reduceNeg, Int.reduceLT, Int.reduceLE, Int.reduceEq, not_false_eq_true, not_true_eq_false, false_implies, true_implies, implies_true, Int.reduceDiv, Int.reduceMod, zr8_zr, zr_zbo, z01_zbo, z01_0, z01_1, zbo_eq0, zup_eq, zup_o, zup_k, ne_eq, ↓ct_scpn_hcopy, ↓r_hcopy, ↓B_hcopy, ↓ct_scpn_ccopy, ↓r_ccopy, ↓B_ccopy, ↓ct_scpn_rcpy, ↓r_rcpy, ↓B_rcpy, ↓v_1, ↓g_1_0, ↓g_1_1, ↓g_1_2, ↓g_1_3, ↓g_1_4, ↓g_1_5, ↓g_1_6, ↓p_1_6, ↓v_26, ↓g_26_0, ↓g_26_1, ↓g_26_2, ↓g_26_3, ↓g_26_4, ↓g_26_5, ↓g_26_6, ↓p_26_6, ↓v_22, ↓g_22_0, ↓l_23, ↓s_23, ↓n_23, ↓g_22_1, ↓p_22_1, ↓v_47, ↓g_47_0, ↓l_48, ↓s_48, ↓n_48, ↓g_47_1, ↓p_47_1]
      have e1 : M1 47 1 = d9 4 := by rw [f 47 (by omega)]; exact t9.1
      rw [e1]
      refine ⟨50, (show rowb 22 50 from Or.inr (Or.inr (Or.inl ⟨rfl, rfl⟩))), (show rowb 47 50 from Or.inr (Or.inr (Or.inr (Or.inr (Or.inr (Or.inr (Or.inl ⟨rfl, rfl⟩))))))), by omega, by omega, by omega, fun M2 p1 p2 g => J67 M2 (HR_cg h (fun x p q => g x (by omega) (by omega)) (fun _ _ => rfl)) (CR_cg c (fun x p q => g x (by omega) (by omega)) (fun _ _ => rfl)) (LR_cg a v.1.1 (by omega) (fun x p q => g x (by omega) (by omega)) (fun _ _ => rfl)) (LR_cg b v.1.2 (by omega) (fun x p q => g x (by omega) (by omega)) (fun _ _ => rfl)) ⟨p1, fun k hk => ?_⟩ (fun x p => by rw [g x (by omega) (by omega), f x (by omega)])⟩
      rw [p2 k hk, f _ (by omega)]
      exact t9.2 k hk
    have J39 : ∀ M1 : ZMm, HR 2 M1 d9 → CR 10 M1 d9 (-1) → LR 14 M1 d9 0 → (∀ x, x < 2 ∨ 16 < x → M1 x = M x) → X 39 [some (.inr (.inr (.inl 1))), some (.inr (.inr (.inl 26)))] [] (zG, M1) (0, 0) := by
      intro M1 h c a f
      refine bs_X6_copyFrom_39 hX ?_
      simp only [bk_X6_copyFrom_0, k_X6_copyFrom_0, bk_X6_copyFrom_22, k_X6_copyFrom_22, bk_X6_copyFrom_39, k_X6_copyFrom_39, bk_X6_copyFrom_56, k_X6_copyFrom_56, bk_X6_copyFrom_67, k_X6_copyFrom_67, bk_X6_copyFrom_78, k_X6_copyFrom_78, ↓e_rk1, ↓e_rk0, ↓e_sk0, ↓e_sks, ↓e_ldi0, ↓e_ldis, ↓e_ldl0, ↓e_ldls, ↓e_lda0, ↓e_ldas, ↓e_ok0, ↓e_okss, ↓e_ok1i, ↓e_ok1r, ↓e_ok1n, ↓e_sti, ↓e_sta, ↓e_1, ↓e_2, ↓e_l1, ↓e_l2, ↓e_li, ↓e_sw0, ↓e_sws, ↓e_ceq, ↓e_cne, ↓e_clt, ↓e_cge, ↓e_cgt, ↓e_cle, ↓e_nil, ↓e_cons, ↓e_iconst, ↓e_bipush, ↓e_sipush, ↓e_ldc, ↓e_ldcw, ↓e_ldc2, ↓e_lconst, ↓e_iloadn, ↓e_iload, ↓e_lloadn, ↓e_lload, ↓e_aloadn, ↓e_aload, ↓e_istoren, ↓e_istore, ↓e_astoren, ↓e_astore, ↓e_add, ↓e_iinc, ↓e_iadd, ↓e_isub, ↓e_imul, ↓e_iand, ↓e_ior, ↓e_ixor, ↓e_ishl, ↓e_iushr, ↓e_idiv, ↓e_irem, ↓e_ineg, ↓e_i2l, ↓e_i2b, ↓e_i2s, ↓e_l2i, ↓e_land, ↓e_lor, ↓e_lshl, ↓e_lshr, ↓e_lushr, ↓e_lcmp, ↓e_dupi, ↓e_dupr, ↓e_popi, ↓e_dup2, ↓e_goto, ↓e_if, ↓e_icmp, ↓e_tsw, ↓e_lsw, ↓e_getf, ↓e_putf, ↓e_gets, ↓e_iald, ↓e_cald, ↓e_iast, ↓e_aald, ↓e_aast, ↓e_len, ↓e_copy, ↓e_abs, ↓e_max, ↓e_min, ↓e_iret, ↓e_aret, ↓e_vret, ↓e_is0, ↓e_is1, ↓e_is2, ↓e_is3, ↓e_is4, ↓e_iv1, ↓e_iv2, ↓e_iv3, ↓e_iv4, ↓e_iv5, ↓e_iv6, ↓rt_X6_copyFrom, ↓reduceIte, Nat.reduceAdd, Nat.reduceEqDiff, ↓zcl0, ↓zclv, List.map_nil, List.sum_nil, List.map_cons, List.sum_cons, zcat, true_and, and_true, Nat.reduceLeDiff, Nat.reduceAdd, eq_self, forall_const, e_ok0, e_okss, e_ok1i, e_ok1r, e_ok1n, Int.reduceToNat, Int.reduceAdd, Int.reduceMul, Int.reduceSub, Int.reduceNeg, Int.reduceLT, Int.reduceLE, Int.reduceEq, not_false_eq_true, not_true_eq_false, false_implies, true_implies, implies_true, Int.reduceDiv, Int.reduceMod, zr8_zr, zr_zbo, z01_zbo, z01_0, z01_1, zbo_eq0, zup_eq, zup_o, zup_k, ne_eq, ↓ct_scpn_hcopy, ↓r_hcopy, ↓B_hcopy, ↓ct_scpn_ccopy, ↓r_ccopy, ↓B_ccopy, ↓ct_scpn_rcpy, ↓r_rcpy, ↓B_rcpy, ↓v_1, ↓g_1_0, ↓g_1_1, ↓g_1_2, ↓g_1_3, ↓g_1_4, ↓g_1_5, ↓g_1_6, ↓p_1_6, ↓v_26, ↓g_26_0, ↓g_26_1, ↓g_26_2, ↓g_26_3, ↓g_26_4, ↓g_26_5, ↓g_26_6, ↓p_26_6, ↓v_18, ↓g_18_0, ↓g_18_1, ↓l_21, ↓s_21, ↓n_21, ↓v_43, ↓g_43_0, ↓g_43_1, ↓l_46, ↓s_46, ↓n_46, ↓v_19, ↓g_19_0, ↓l_20, ↓s_20, ↓n_20, ↓g_19_1, ↓p_19_1, ↓v_44, ↓g_44_0, ↓l_45, ↓s_45, ↓n_45, ↓g_44_1, ↓p_44_1]
      have e1 : M1 44 1 = d9 187 := by rw [f 44 (by omega)]; exact l2.1
      rw [e1]
      refine ⟨50, (show rowb 19 50 from Or.inr (Or.inl ⟨rfl, rfl⟩)), (show rowb 44 50 from Or.inr (Or.inr (Or.inr (Or.inr (Or.inr (Or.inl ⟨rfl, rfl⟩)))))), by omega, by omega, by omega, fun M2 p1 p2 g => J56 M2 (HR_cg h (fun x p q => g x (by omega) (by omega)) (fun _ _ => rfl)) (CR_cg c (fun x p q => g x (by omega) (by omega)) (fun _ _ => rfl)) (LR_cg a v.1.1 (by omega) (fun x p q => g x (by omega) (by omega)) (fun _ _ => rfl)) ⟨p1, fun k hk => ?_⟩ (fun x p => by rw [g x (by omega) (by omega), f x (by omega)])⟩
      have := p2 k hk
      rw [f _ (by omega)] at this
      exact this.trans (l2.2 k hk)
    have J22 : ∀ M1 : ZMm, HR 2 M1 d9 → CR 10 M1 d9 (-1) → (∀ x, x < 2 ∨ 13 < x → M1 x = M x) → X 22 [some (.inr (.inr (.inl 1))), some (.inr (.inr (.inl 26)))] [] (zG, M1) (0, 0) := by
      intro M1 h c f
      refine bs_X6_copyFrom_22 hX ?_
      simp only [bk_X6_copyFrom_0, k_X6_copyFrom_0, bk_X6_copyFrom_22, k_X6_copyFrom_22, bk_X6_copyFrom_39, k_X6_copyFrom_39, bk_X6_copyFrom_56, k_X6_copyFrom_56, bk_X6_copyFrom_67, k_X6_copyFrom_67, bk_X6_copyFrom_78, k_X6_copyFrom_78, ↓e_rk1, ↓e_rk0, ↓e_sk0, ↓e_sks, ↓e_ldi0, ↓e_ldis, ↓e_ldl0, ↓e_ldls, ↓e_lda0, ↓e_ldas, ↓e_ok0, ↓e_okss, ↓e_ok1i, ↓e_ok1r, ↓e_ok1n, ↓e_sti, ↓e_sta, ↓e_1, ↓e_2, ↓e_l1, ↓e_l2, ↓e_li, ↓e_sw0, ↓e_sws, ↓e_ceq, ↓e_cne, ↓e_clt, ↓e_cge, ↓e_cgt, ↓e_cle, ↓e_nil, ↓e_cons, ↓e_iconst, ↓e_bipush, ↓e_sipush, ↓e_ldc, ↓e_ldcw, ↓e_ldc2, ↓e_lconst, ↓e_iloadn, ↓e_iload, ↓e_lloadn, ↓e_lload, ↓e_aloadn, ↓e_aload, ↓e_istoren, ↓e_istore, ↓e_astoren, ↓e_astore, ↓e_add, ↓e_iinc, ↓e_iadd, ↓e_isub, ↓e_imul, ↓e_iand, ↓e_ior, ↓e_ixor, ↓e_ishl, ↓e_iushr, ↓e_idiv, ↓e_irem, ↓e_ineg, ↓e_i2l, ↓e_i2b, ↓e_i2s, ↓e_l2i, ↓e_land, ↓e_lor, ↓e_lshl, ↓e_lshr, ↓e_lushr, ↓e_lcmp, ↓e_dupi, ↓e_dupr, ↓e_popi, ↓e_dup2, ↓e_goto, ↓e_if, ↓e_icmp, ↓e_tsw, ↓e_lsw, ↓e_getf, ↓e_putf, ↓e_gets, ↓e_iald, ↓e_cald, ↓e_iast, ↓e_aald, ↓e_aast, ↓e_len, ↓e_copy, ↓e_abs, ↓e_max, ↓e_min, ↓e_iret, ↓e_aret, ↓e_vret, ↓e_is0, ↓e_is1, ↓e_is2, ↓e_is3, ↓e_is4, ↓e_iv1, ↓e_iv2, ↓e_iv3, ↓e_iv4, ↓e_iv5, ↓e_iv6, ↓rt_X6_copyFrom, ↓reduceIte, Nat.reduceAdd, Nat.reduceEqDiff, ↓zcl0, ↓zclv, List.map_nil, List.sum_nil, List.map_cons, List.sum_cons, zcat, true_and, and_true, Nat.reduceLeDiff, Nat.reduceAdd, eq_self, forall_const, e_ok0, e_okss, e_ok1i, e_ok1r, e_ok1n, Int.reduceToNat, Int.reduceAdd, Int.reduceMul, Int.reduceSub, Int.reduceNeg, Int.reduceLT, Int.reduceLE, Int.reduceEq, not_false_eq_true, not_true_eq_false, false_implies, true_implies, implies_true, Int.reduceDiv, Int.reduceMod, zr8_zr, zr_zbo, z01_zbo, z01_0, z01_1, zbo_eq0, zup_eq, zup_o, zup_k, ne_eq, ↓ct_scpn_hcopy, ↓r_hcopy, ↓B_hcopy, ↓ct_scpn_ccopy, ↓r_ccopy, ↓B_ccopy, ↓ct_scpn_rcpy, ↓r_rcpy, ↓B_rcpy, ↓v_1, ↓g_1_0, ↓g_1_1, ↓g_1_2, ↓g_1_3, ↓g_1_4, ↓g_1_5, ↓g_1_6, ↓p_1_6, ↓v_26, ↓g_26_0, ↓g_26_1, ↓g_26_2, ↓g_26_3, ↓g_26_4, ↓g_26_5, ↓g_26_6, ↓p_26_6, ↓v_14, ↓g_14_0, ↓g_14_1, ↓l_17, ↓s_17, ↓n_17, ↓v_39, ↓g_39_0, ↓g_39_1, ↓l_42, ↓s_42, ↓n_42, ↓v_15, ↓g_15_0, ↓l_16, ↓s_16, ↓n_16, ↓g_15_1, ↓p_15_1, ↓v_40, ↓g_40_0, ↓l_41, ↓s_41, ↓n_41, ↓g_40_1, ↓p_40_1]
      have e1 : M1 40 1 = d9 186 := by rw [f 40 (by omega)]; exact l1.1
      rw [e1]
      refine ⟨50, (show rowb 15 50 from Or.inl ⟨rfl, rfl⟩), (show rowb 40 50 from Or.inr (Or.inr (Or.inr (Or.inr (Or.inl ⟨rfl, rfl⟩))))), by omega, by omega, by omega, fun M2 p1 p2 g => J39 M2 (HR_cg h (fun x p q => g x (by omega) (by omega)) (fun _ _ => rfl)) (CR_cg c (fun x p q => g x (by omega) (by omega)) (fun _ _ => rfl)) ⟨p1, fun k hk => ?_⟩ (fun x p => by rw [g x (by omega) (by omega), f x (by omega)])⟩
      have := p2 k hk
      rw [f _ (by omega)] at this
      exact this.trans (l1.2 k hk)
    simp only [bk_X6_copyFrom_0, k_X6_copyFrom_0, bk_X6_copyFrom_22, k_X6_copyFrom_22, bk_X6_copyFrom_39, k_X6_copyFrom_39, bk_X6_copyFrom_56, k_X6_copyFrom_56, bk_X6_copyFrom_67, k_X6_copyFrom_67, bk_X6_copyFrom_78, k_X6_copyFrom_78, ↓e_rk1, ↓e_rk0, ↓e_sk0, ↓e_sks, ↓e_ldi0, ↓e_ldis, ↓e_ldl0, ↓e_ldls, ↓e_lda0, ↓e_ldas, ↓e_ok0, ↓e_okss, ↓e_ok1i, ↓e_ok1r, ↓e_ok1n, ↓e_sti, ↓e_sta, ↓e_1, ↓e_2, ↓e_l1, ↓e_l2, ↓e_li, ↓e_sw0, ↓e_sws, ↓e_ceq, ↓e_cne, ↓e_clt, ↓e_cge, ↓e_cgt, ↓e_cle, ↓e_nil, ↓e_cons, ↓e_iconst, ↓e_bipush, ↓e_sipush, ↓e_ldc, ↓e_ldcw, ↓e_ldc2, ↓e_lconst, ↓e_iloadn, ↓e_iload, ↓e_lloadn, ↓e_lload, ↓e_aloadn, ↓e_aload, ↓e_istoren, ↓e_istore, ↓e_astoren, ↓e_astore, ↓e_add, ↓e_iinc, ↓e_iadd, ↓e_isub, ↓e_imul, ↓e_iand, ↓e_ior, ↓e_ixor, ↓e_ishl, ↓e_iushr, ↓e_idiv, ↓e_irem, ↓e_ineg, ↓e_i2l, ↓e_i2b, ↓e_i2s, ↓e_l2i, ↓e_land, ↓e_lor, ↓e_lshl, ↓e_lshr, ↓e_lushr, ↓e_lcmp, ↓e_dupi, ↓e_dupr, ↓e_popi, ↓e_dup2, ↓e_goto, ↓e_if, ↓e_icmp, ↓e_tsw, ↓e_lsw, ↓e_getf, ↓e_putf, ↓e_gets, ↓e_iald, ↓e_cald, ↓e_iast, ↓e_aald, ↓e_aast, ↓e_len, ↓e_copy, ↓e_abs, ↓e_max, ↓e_min, ↓e_iret, ↓e_aret, ↓e_vret, ↓e_is0, ↓e_is1, ↓e_is2, ↓e_is3, ↓e_is4, ↓e_iv1, ↓e_iv2, ↓e_iv3, ↓e_iv4, ↓e_iv5, ↓e_iv6, ↓rt_X6_copyFrom, ↓reduceIte, Nat.reduceAdd, Nat.reduceEqDiff, ↓zcl0, ↓zclv, List.map_nil, List.sum_nil, List.map_cons, List.sum_cons, zcat, true_and, and_true, Nat.reduceLeDiff, Nat.reduceAdd, eq_self, forall_const, e_ok0, e_okss, e_ok1i, e_ok1r, e_ok1n, Int.reduceToNat, Int.reduceAdd, Int.reduceMul, Int.reduceSub, Int.reduceNeg, Int.reduceLT, Int.reduceLE, Int.reduceEq, not_false_eq_true, not_true_eq_false, false_implies, true_implies, implies_true, Int.reduceDiv, Int.reduceMod, zr8_zr, zr_zbo, z01_zbo, z01_0, z01_1, zbo_eq0, zup_eq, zup_o, zup_k, ne_eq, ↓ct_scpn_hcopy, ↓r_hcopy, ↓B_hcopy, ↓ct_scpn_ccopy, ↓r_ccopy, ↓B_ccopy, ↓ct_scpn_rcpy, ↓r_rcpy, ↓B_rcpy, ↓v_1, ↓g_1_0, ↓g_1_1, ↓g_1_2, ↓g_1_3, ↓g_1_4, ↓g_1_5, ↓g_1_6, ↓p_1_6, ↓v_26, ↓g_26_0, ↓g_26_1, ↓g_26_2, ↓g_26_3, ↓g_26_4, ↓g_26_5, ↓g_26_6, ↓p_26_6, ↓v_2, ↓g_2_0, ↓l_3, ↓s_3, ↓n_3, ↓g_2_1, ↓l_4, ↓s_4, ↓n_4, ↓g_2_2, ↓l_5, ↓s_5, ↓n_5, ↓g_2_3, ↓l_6, ↓s_6, ↓n_6, ↓g_2_4, ↓l_7, ↓s_7, ↓n_7, ↓g_2_5, ↓l_8, ↓s_8, ↓n_8, ↓g_2_6, ↓l_9, ↓s_9, ↓n_9, ↓g_2_7, ↓p_2_7, ↓g_2_8, ↓p_2_8, ↓g_2_9, ↓p_2_9, ↓v_27, ↓g_27_0, ↓l_28, ↓s_28, ↓n_28, ↓g_27_1, ↓l_29, ↓s_29, ↓n_29, ↓g_27_2, ↓l_30, ↓s_30, ↓n_30, ↓g_27_3, ↓l_31, ↓s_31, ↓n_31, ↓g_27_4, ↓l_32, ↓s_32, ↓n_32, ↓g_27_5, ↓l_33, ↓s_33, ↓n_33, ↓g_27_6, ↓l_34, ↓s_34, ↓n_34, ↓g_27_7, ↓p_27_7, ↓g_27_8, ↓p_27_8, ↓g_27_9, ↓p_27_9, ↓v_10, ↓g_10_0, ↓l_11, ↓s_11, ↓n_11, ↓g_10_1, ↓l_12, ↓s_12, ↓n_12, ↓g_10_2, ↓l_13, ↓s_13, ↓n_13, ↓g_10_3, ↓p_10_3, ↓v_35, ↓g_35_0, ↓l_36, ↓s_36, ↓n_36, ↓g_35_1, ↓l_37, ↓s_37, ↓n_37, ↓g_35_2, ↓l_38, ↓s_38, ↓n_38, ↓g_35_3, ↓p_35_3]
    refine ⟨Or.inl rfl, Or.inr (Or.inl rfl), d9, h9, fun M1 h1 f1 => ⟨Or.inl rfl, Or.inr (Or.inl rfl), d9, -1, CR_cg c9 (fun x p q => f1 x (by omega)) (fun _ _ => rfl), fun M2 c2 f2 => J22 M2 (HR_cg h1 (fun x p q => f2 x (by omega)) (fun _ _ => rfl)) c2 (fun x p => by rw [f2 x (by omega), f1 x (by omega)])⟩⟩
