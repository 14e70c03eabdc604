/-! THE CLASS: sheets -/
def k_X7_begin_0 : List ZI := [(.aload_n 0, 1, (0, [0], [])), (.iload_n 1, 1, (0, [1], [])), (.putfield 15, 3, (0, [7, 1], [])), (.aload_n 0, 1, (0, [0], [])), (.iload_n 2, 1, (0, [2], [])), (.putfield 19, 3, (0, [7, 2], [])), (.aload_n 0, 1, (0, [0], [])), (.getfield 9, 3, (0, [7, 0], [])), (.iconst 0, 1, (0, [], [])), (.invokestatic 22, 3, (0, [223, 2, 0, 0], [])), (.return_, 1, (0, [], []))]
theorem ok_X7_begin_0 : zOK cX7_begin 7 false 3 k_X7_begin_0 0 = true := zOK_by (by decide +kernel)
theorem rt_X7_begin {g : Nat} {post : Option ZV → ZH → Prop} {h : ZH} {b : ZB2} : zRt mX7_begin g post none h b = (post none h ∧ h.1.length = g) := by show (_ ∧ _ ∧ True) = _; simp
def bk_X7_begin_0 (E : ZE) (CT : Nat → ZC) (X : ZK) (Rt : ZR) (ls : ZL) (st : List ZV) (h : ZH) (b : ZB2) : Prop := zB E CT k_X7_begin_0 0 ls st h b (fun t ls st h b => X t ls st h b) Rt
theorem bs_X7_begin_0 {E : ZE} {CT : Nat → ZC} {X : ZK} {Rt : ZR} {ls : ZL} {st : List ZV} {h : ZH} {b : ZB2} (hX : zCl E mX7_begin 7 false CT Rt X) (q : bk_X7_begin_0 E CT X Rt ls st h b) : X 0 ls st h b := by
  refine hX k_X7_begin_0 0 ok_X7_begin_0 _ ?_ ls st h b q
  exact fun t ls st h b q => q
-- X7_begin: cuts []
def k_X7_write_0 : List ZI := [(.aload_n 0, 1, (0, [0], [])), (.getfield 9, 3, (0, [7, 0], [])), (.iload_n 1, 1, (0, [1], [])), (.aload_n 0, 1, (0, [0], [])), (.getfield 15, 3, (0, [7, 1], [])), (.bipush 32, 2, (0, [], [])), (.if_icmp .ne 7, 3, (0, [18], [])), (.iload_n 2, 1, (0, [2], [])), (.goto 13, 3, (0, [28], []))]
theorem ok_X7_write_0 : zOK cX7_write 7 false 3 k_X7_write_0 0 = true := zOK_by (by decide +kernel)
def k_X7_write_18 : List ZI := [(.iload_n 2, 1, (0, [2], [])), (.iconst 1, 1, (0, [], [])), (.aload_n 0, 1, (0, [0], [])), (.getfield 15, 3, (0, [7, 1], [])), (.ishl, 1, (0, [], [])), (.iconst 1, 1, (0, [], [])), (.isub, 1, (0, [], [])), (.iand, 1, (0, [], []))]
theorem ok_X7_write_18 : zOK cX7_write 7 false 3 k_X7_write_18 18 = true := zOK_by (by decide +kernel)
def k_X7_write_28 : List ZI := [(.iastore, 1, (0, [], [])), (.return_, 1, (0, [], []))]
theorem ok_X7_write_28 : zOK cX7_write 7 false 3 k_X7_write_28 28 = true := zOK_by (by decide +kernel)
theorem rt_X7_write {g : Nat} {post : Option ZV → ZH → Prop} {h : ZH} {b : ZB2} : zRt mX7_write g post none h b = (post none h ∧ h.1.length = g) := by show (_ ∧ _ ∧ True) = _; simp
def bk_X7_write_28 (E : ZE) (CT : Nat → ZC) (X : ZK) (Rt : ZR) (ls : ZL) (st : List ZV) (h : ZH) (b : ZB2) : Prop := zB E CT k_X7_write_28 28 ls st h b (fun t ls st h b => X t ls st h b) Rt
theorem bs_X7_write_28 {E : ZE} {CT : Nat → ZC} {X : ZK} {Rt : ZR} {ls : ZL} {st : List ZV} {h : ZH} {b : ZB2} (hX : zCl E mX7_write 7 false CT Rt X) (q : bk_X7_write_28 E CT X Rt ls st h b) : X 28 ls st h b := by
  refine hX k_X7_write_28 28 ok_X7_write_28 _ ?_ ls st h b q
  exact fun t ls st h b q => q
def bk_X7_write_18 (E : ZE) (CT : Nat → ZC) (X : ZK) (Rt : ZR) (ls : ZL) (st : List ZV) (h : ZH) (b : ZB2) : Prop := zB E CT k_X7_write_18 18 ls st h b (fun t ls st h b => if t = 28 then bk_X7_write_28 E CT X Rt ls st h b else X t ls st h b) Rt
theorem bs_X7_write_18 {E : ZE} {CT : Nat → ZC} {X : ZK} {Rt : ZR} {ls : ZL} {st : List ZV} {h : ZH} {b : ZB2} (hX : zCl E mX7_write 7 false CT Rt X) (q : bk_X7_write_18 E CT X Rt ls st h b) : X 18 ls st h b := by
  refine hX k_X7_write_18 18 ok_X7_write_18 _ ?_ ls st h b q
  exact by
    intro t ls st h b q
    by_cases c : t = 28
    · subst c; rw [if_pos rfl] at q; exact bs_X7_write_28 hX q
    rw [if_neg c] at q
    exact q
def bk_X7_write_0 (E : ZE) (CT : Nat → ZC) (X : ZK) (Rt : ZR) (ls : ZL) (st : List ZV) (h : ZH) (b : ZB2) : Prop := zB E CT k_X7_write_0 0 ls st h b (fun t ls st h b => if t = 18 then bk_X7_write_18 E CT X Rt ls st h b else if t = 28 then bk_X7_write_28 E CT X Rt ls st h b else X t ls st h b) Rt
theorem bs_X7_write_0 {E : ZE} {CT : Nat → ZC} {X : ZK} {Rt : ZR} {ls : ZL} {st : List ZV} {h : ZH} {b : ZB2} (hX : zCl E mX7_write 7 false CT Rt X) (q : bk_X7_write_0 E CT X Rt ls st h b) : X 0 ls st h b := by
  refine hX k_X7_write_0 0 ok_X7_write_0 _ ?_ ls st h b q
  exact by
    intro t ls st h b q
    by_cases c : t = 18
    · subst c; rw [if_pos rfl] at q; exact bs_X7_write_18 hX q
    rw [if_neg c] at q
    by_cases c : t = 28
    · subst c; rw [if_pos rfl] at q; exact bs_X7_write_28 hX q
    rw [if_neg c] at q
    exact q
-- X7_write: cuts []
def k_X7_holds_0 : List ZI := [(.iload_n 1, 1, (0, [1], [])), (.ifCond .lt 29, 3, (0, [30], [])), (.iload_n 2, 1, (0, [2], [])), (.ifCond .lt 25, 3, (0, [30], [])), (.iload_n 2, 1, (0, [2], [])), (.aload_n 0, 1, (0, [0], [])), (.getfield 19, 3, (0, [7, 2], [])), (.if_icmp .gt 17, 3, (0, [30], [])), (.iload_n 1, 1, (0, [1], [])), (.aload_n 0, 1, (0, [0], [])), (.getfield 19, 3, (0, [7, 2], [])), (.iload_n 2, 1, (0, [2], [])), (.isub, 1, (0, [], [])), (.if_icmp .gt 7, 3, (0, [30], [])), (.iconst 1, 1, (0, [], [])), (.goto 4, 3, (0, [31], []))]
theorem ok_X7_holds_0 : zOK cX7_holds 7 false 3 k_X7_holds_0 0 = true := zOK_by (by decide +kernel)
def k_X7_holds_30 : List ZI := [(.iconst 0, 1, (0, [], []))]
theorem ok_X7_holds_30 : zOK cX7_holds 7 false 3 k_X7_holds_30 30 = true := zOK_by (by decide +kernel)
def k_X7_holds_31 : List ZI := [(.ireturn, 1, (0, [], []))]
theorem ok_X7_holds_31 : zOK cX7_holds 7 false 3 k_X7_holds_31 31 = true := zOK_by (by decide +kernel)
theorem rt_X7_holds {g : Nat} {post : Option ZV → ZH → Prop} {h : ZH} {b : ZB2} {z : Int} : zRt mX7_holds g post (some (.inl z)) h b = (post (some (.inl z)) h ∧ h.1.length = g ∧ z01 z) := rfl
def bk_X7_holds_31 (E : ZE) (CT : Nat → ZC) (X : ZK) (Rt : ZR) (ls : ZL) (st : List ZV) (h : ZH) (b : ZB2) : Prop := zB E CT k_X7_holds_31 31 ls st h b (fun t ls st h b => X t ls st h b) Rt
theorem bs_X7_holds_31 {E : ZE} {CT : Nat → ZC} {X : ZK} {Rt : ZR} {ls : ZL} {st : List ZV} {h : ZH} {b : ZB2} (hX : zCl E mX7_holds 7 false CT Rt X) (q : bk_X7_holds_31 E CT X Rt ls st h b) : X 31 ls st h b := by
  refine hX k_X7_holds_31 31 ok_X7_holds_31 _ ?_ ls st h b q
  exact fun t ls st h b q => q
def bk_X7_holds_30 (E : ZE) (CT : Nat → ZC) (X : ZK) (Rt : ZR) (ls : ZL) (st : List ZV) (h : ZH) (b : ZB2) : Prop := zB E CT k_X7_holds_30 30 ls st h b (fun t ls st h b => if t = 31 then bk_X7_holds_31 E CT X Rt ls st h b else X t ls st h b) Rt
theorem bs_X7_holds_30 {E : ZE} {CT : Nat → ZC} {X : ZK} {Rt : ZR} {ls : ZL} {st : List ZV} {h : ZH} {b : ZB2} (hX : zCl E mX7_holds 7 false CT Rt X) (q : bk_X7_holds_30 E CT X Rt ls st h b) : X 30 ls st h b := by
  refine hX k_X7_holds_30 30 ok_X7_holds_30 _ ?_ ls st h b q
  exact by
    intro t ls st h b q
    by_cases c : t = 31
    · subst c; rw [if_pos rfl] at q; exact bs_X7_holds_31 hX q
    rw [if_neg c] at q
    exact q
def bk_X7_holds_0 (E : ZE) (CT : Nat → ZC) (X : ZK) (Rt : ZR) (ls : ZL) (st : List ZV) (h : ZH) (b : ZB2) : Prop := zB E CT k_X7_holds_0 0 ls st h b (fun t ls st h b => if t = 30 then bk_X7_holds_30 E CT X Rt ls st h b else if t = 31 then bk_X7_holds_31 E CT X Rt ls st h b else X t ls st h b) Rt
theorem bs_X7_holds_0 {E : ZE} {CT : Nat → ZC} {X : ZK} {Rt : ZR} {ls : ZL} {st : List ZV} {h : ZH} {b : ZB2} (hX : zCl E mX7_holds 7 false CT Rt X) (q : bk_X7_holds_0 E CT X Rt ls st h b) : X 0 ls st h b := by
  refine hX k_X7_holds_0 0 ok_X7_holds_0 _ ?_ ls st h b q
  exact by
    intro t ls st h b q
    by_cases c : t = 30
    · subst c; rw [if_pos rfl] at q; exact bs_X7_holds_30 hX q
    rw [if_neg c] at q
    by_cases c : t = 31
    · subst c; rw [if_pos rfl] at q; exact bs_X7_holds_31 hX q
    rw [if_neg c] at q
    exact q
-- X7_holds: cuts []
def k_X10_sheet_0 : List ZI := [(.iload_n 1, 1, (0, [1], [])), (.iconst 3, 1, (0, [], [])), (.invokestatic 92, 3, (0, [111, 2, 0, 10], [])), (.ifCond .ne 25, 3, (0, [30], []))]
theorem ok_X10_sheet_0 : zOK cX10_sheet 10 false 4 k_X10_sheet_0 0 = true := zOK_by (by decide +kernel)
def k_X10_sheet_8 : List ZI := [(.iload_n 2, 1, (0, [2], [])), (.ifCond .eq 28, 3, (0, [37], [])), (.iload_n 2, 1, (0, [2], [])), (.bipush 8, 2, (0, [], [])), (.if_icmp .eq 22, 3, (0, [37], [])), (.iload_n 2, 1, (0, [2], [])), (.bipush 16, 2, (0, [], [])), (.if_icmp .eq 16, 3, (0, [37], [])), (.iload_n 2, 1, (0, [2], [])), (.bipush 32, 2, (0, [], [])), (.if_icmp .eq 10, 3, (0, [37], []))]
theorem ok_X10_sheet_8 : zOK cX10_sheet 10 false 4 k_X10_sheet_8 8 = true := zOK_by (by decide +kernel)
def k_X10_sheet_30 : List ZI := [(.aload_n 0, 1, (0, [0], [])), (.ldc 96, 2, ((-1000000001), [], [])), (.invokevirtual 97, 3, (0, [110, 2, 0, 10], [])), (.ireturn, 1, (0, [], []))]
theorem ok_X10_sheet_30 : zOK cX10_sheet 10 false 4 k_X10_sheet_30 30 = true := zOK_by (by decide +kernel)
def k_X10_sheet_37 : List ZI := [(.iload_n 2, 1, (0, [2], [])), (.ifCond .ne 16, 3, (0, [54], [])), (.aload_n 0, 1, (0, [0], [])), (.getfield 83, 3, (0, [10, 7], [])), (.iload_n 1, 1, (0, [1], [])), (.aaload, 1, (0, [], [])), (.iconst 0, 1, (0, [], [])), (.iconst 0, 1, (0, [], [])), (.invokevirtual 256, 3, (0, [48, 3, 0, 7], [])), (.iconst 1, 1, (0, [], [])), (.ireturn, 1, (0, [], []))]
theorem ok_X10_sheet_37 : zOK cX10_sheet 10 false 4 k_X10_sheet_37 37 = true := zOK_by (by decide +kernel)
def k_X10_sheet_54 : List ZI := [(.iload_n 3, 1, (0, [3], [])), (.ifCond .ge 10, 3, (0, [65], [])), (.aload_n 0, 1, (0, [0], [])), (.ldc 107, 2, ((-1000000003), [], [])), (.invokevirtual 97, 3, (0, [110, 2, 0, 10], [])), (.ireturn, 1, (0, [], []))]
theorem ok_X10_sheet_54 : zOK cX10_sheet 10 false 4 k_X10_sheet_54 54 = true := zOK_by (by decide +kernel)
def k_X10_sheet_65 : List ZI := [(.iload_n 3, 1, (0, [3], [])), (.bipush 40, 2, (0, [], [])), (.if_icmp .le 10, 3, (0, [78], [])), (.aload_n 0, 1, (0, [0], [])), (.ldc 96, 2, ((-1000000001), [], [])), (.invokevirtual 97, 3, (0, [110, 2, 0, 10], [])), (.ireturn, 1, (0, [], []))]
theorem ok_X10_sheet_65 : zOK cX10_sheet 10 false 4 k_X10_sheet_65 65 = true := zOK_by (by decide +kernel)
def k_X10_sheet_78 : List ZI := [(.aload_n 0, 1, (0, [0], [])), (.getfield 83, 3, (0, [10, 7], [])), (.iload_n 1, 1, (0, [1], [])), (.aaload, 1, (0, [], [])), (.iload_n 2, 1, (0, [2], [])), (.iload_n 3, 1, (0, [3], [])), (.invokevirtual 256, 3, (0, [48, 3, 0, 7], [])), (.iconst 1, 1, (0, [], [])), (.ireturn, 1, (0, [], []))]
theorem ok_X10_sheet_78 : zOK cX10_sheet 10 false 4 k_X10_sheet_78 78 = true := zOK_by (by decide +kernel)
theorem rt_X10_sheet {g : Nat} {post : Option ZV → ZH → Prop} {h : ZH} {b : ZB2} {z : Int} : zRt mX10_sheet g post (some (.inl z)) h b = (post (some (.inl z)) h ∧ h.1.length = g) := by show (_ ∧ _ ∧ True) = _; simp
def bk_X10_sheet_0 (E : ZE) (CT : Nat → ZC) (X : ZK) (Rt : ZR) (ls : ZL) (st : List ZV) (h : ZH) (b : ZB2) : Prop := zB E CT k_X10_sheet_0 0 ls st h b (fun t ls st h b => X t ls st h b) Rt
theorem bs_X10_sheet_0 {E : ZE} {CT : Nat → ZC} {X : ZK} {Rt : ZR} {ls : ZL} {st : List ZV} {h : ZH} {b : ZB2} (hX : zCl E mX10_sheet 10 false CT Rt X) (q : bk_X10_sheet_0 E CT X Rt ls st h b) : X 0 ls st h b := by
  refine hX k_X10_sheet_0 0 ok_X10_sheet_0 _ ?_ ls st h b q
  exact fun t ls st h b q => q
def bk_X10_sheet_8 (E : ZE) (CT : Nat → ZC) (X : ZK) (Rt : ZR) (ls : ZL) (st : List ZV) (h : ZH) (b : ZB2) : Prop := zB E CT k_X10_sheet_8 8 ls st h b (fun t ls st h b => X t ls st h b) Rt
theorem bs_X10_sheet_8 {E : ZE} {CT : Nat → ZC} {X : ZK} {Rt : ZR} {ls : ZL} {st : List ZV} {h : ZH} {b : ZB2} (hX : zCl E mX10_sheet 10 false CT Rt X) (q : bk_X10_sheet_8 E CT X Rt ls st h b) : X 8 ls st h b := by
  refine hX k_X10_sheet_8 8 ok_X10_sheet_8 _ ?_ ls st h b q
  exact fun t ls st h b q => q
def bk_X10_sheet_30 (E : ZE) (CT : Nat → ZC) (X : ZK) (Rt : ZR) (ls : ZL) (st : List ZV) (h : ZH) (b : ZB2) : Prop := zB E CT k_X10_sheet_30 30 ls st h b (fun t ls st h b => X t ls st h b) Rt
theorem bs_X10_sheet_30 {E : ZE} {CT : Nat → ZC} {X : ZK} {Rt : ZR} {ls : ZL} {st : List ZV} {h : ZH} {b : ZB2} (hX : zCl E mX10_sheet 10 false CT Rt X) (q : bk_X10_sheet_30 E CT X Rt ls st h b) : X 30 ls st h b := by
  refine hX k_X10_sheet_30 30 ok_X10_sheet_30 _ ?_ ls st h b q
  exact fun t ls st h b q => q
def bk_X10_sheet_37 (E : ZE) (CT : Nat → ZC) (X : ZK) (Rt : ZR) (ls : ZL) (st : List ZV) (h : ZH) (b : ZB2) : Prop := zB E CT k_X10_sheet_37 37 ls st h b (fun t ls st h b => X t ls st h b) Rt
theorem bs_X10_sheet_37 {E : ZE} {CT : Nat → ZC} {X : ZK} {Rt : ZR} {ls : ZL} {st : List ZV} {h : ZH} {b : ZB2} (hX : zCl E mX10_sheet 10 false CT Rt X) (q : bk_X10_sheet_37 E CT X Rt ls st h b) : X 37 ls st h b := by
  refine hX k_X10_sheet_37 37 ok_X10_sheet_37 _ ?_ ls st h b q
  exact fun t ls st h b q => q
def bk_X10_sheet_54 (E : ZE) (CT : Nat → ZC) (X : ZK) (Rt : ZR) (ls : ZL) (st : List ZV) (h : ZH) (b : ZB2) : Prop := zB E CT k_X10_sheet_54 54 ls st h b (fun t ls st h b => X t ls st h b) Rt
theorem bs_X10_sheet_54 {E : ZE} {CT : Nat → ZC} {X : ZK} {Rt : ZR} {ls : ZL} {st : List ZV} {h : ZH} {b : ZB2} (hX : zCl E mX10_sheet 10 false CT Rt X) (q : bk_X10_sheet_54 E CT X Rt ls st h b) : X 54 ls st h b := by
  refine hX k_X10_sheet_54 54 ok_X10_sheet_54 _ ?_ ls st h b q
  exact fun t ls st h b q => q
def bk_X10_sheet_65 (E : ZE) (CT : Nat → ZC) (X : ZK) (Rt : ZR) (ls : ZL) (st : List ZV) (h : ZH) (b : ZB2) : Prop := zB E CT k_X10_sheet_65 65 ls st h b (fun t ls st h b => X t ls st h b) Rt
theorem bs_X10_sheet_65 {E : ZE} {CT : Nat → ZC} {X : ZK} {Rt : ZR} {ls : ZL} {st : List ZV} {h : ZH} {b : ZB2} (hX : zCl E mX10_sheet 10 false CT Rt X) (q : bk_X10_sheet_65 E CT X Rt ls st h b) : X 65 ls st h b := by
  refine hX k_X10_sheet_65 65 ok_X10_sheet_65 _ ?_ ls st h b q
  exact fun t ls st h b q => q
def bk_X10_sheet_78 (E : ZE) (CT : Nat → ZC) (X : ZK) (Rt : ZR) (ls : ZL) (st : List ZV) (h : ZH) (b : ZB2) : Prop := zB E CT k_X10_sheet_78 78 ls st h b (fun t ls st h b => X t ls st h b) Rt
theorem bs_X10_sheet_78 {E : ZE} {CT : Nat → ZC} {X : ZK} {Rt : ZR} {ls : ZL} {st : List ZV} {h : ZH} {b : ZB2} (hX : zCl E mX10_sheet 10 false CT Rt X) (q : bk_X10_sheet_78 E CT X Rt ls st h b) : X 78 ls st h b := by
  refine hX k_X10_sheet_78 78 ok_X10_sheet_78 _ ?_ ls st h b q
  exact fun t ls st h b q => q
-- X10_sheet: cuts [8, 30, 37, 54, 65, 78]
def k_X10_put_0 : List ZI := [(.iload_n 1, 1, (0, [1], [])), (.iconst 3, 1, (0, [], [])), (.invokestatic 92, 3, (0, [111, 2, 0, 10], [])), (.ifCond .eq 10, 3, (0, [15], []))]
theorem ok_X10_put_0 : zOK cX10_put 10 false 4 k_X10_put_0 0 = true := zOK_by (by decide +kernel)
def k_X10_put_8 : List ZI := [(.aload_n 0, 1, (0, [0], [])), (.ldc 96, 2, ((-1000000001), [], [])), (.invokevirtual 97, 3, (0, [110, 2, 0, 10], [])), (.ireturn, 1, (0, [], []))]
theorem ok_X10_put_8 : zOK cX10_put 10 false 4 k_X10_put_8 8 = true := zOK_by (by decide +kernel)
def k_X10_put_15 : List ZI := [(.aload_n 0, 1, (0, [0], [])), (.getfield 83, 3, (0, [10, 7], [])), (.iload_n 1, 1, (0, [1], [])), (.aaload, 1, (0, [], [])), (.getfield 219, 3, (0, [7, 1], [])), (.ifCond .ne 10, 3, (0, [34], [])), (.aload_n 0, 1, (0, [0], [])), (.ldc 217, 2, ((-1000000002), [], [])), (.invokevirtual 97, 3, (0, [110, 2, 0, 10], [])), (.ireturn, 1, (0, [], []))]
theorem ok_X10_put_15 : zOK cX10_put 10 false 4 k_X10_put_15 15 = true := zOK_by (by decide +kernel)
def k_X10_put_34 : List ZI := [(.iload_n 2, 1, (0, [2], [])), (.aload_n 0, 1, (0, [0], [])), (.getfield 83, 3, (0, [10, 7], [])), (.iload_n 1, 1, (0, [1], [])), (.aaload, 1, (0, [], [])), (.getfield 259, 3, (0, [7, 2], [])), (.iconst 1, 1, (0, [], [])), (.isub, 1, (0, [], [])), (.invokestatic 92, 3, (0, [111, 2, 0, 10], [])), (.ifCond .eq 10, 3, (0, [59], []))]
theorem ok_X10_put_34 : zOK cX10_put 10 false 4 k_X10_put_34 34 = true := zOK_by (by decide +kernel)
def k_X10_put_52 : List ZI := [(.aload_n 0, 1, (0, [0], [])), (.ldc 96, 2, ((-1000000001), [], [])), (.invokevirtual 97, 3, (0, [110, 2, 0, 10], [])), (.ireturn, 1, (0, [], []))]
theorem ok_X10_put_52 : zOK cX10_put 10 false 4 k_X10_put_52 52 = true := zOK_by (by decide +kernel)
def k_X10_put_59 : List ZI := [(.aload_n 0, 1, (0, [0], [])), (.getfield 83, 3, (0, [10, 7], [])), (.iload_n 1, 1, (0, [1], [])), (.aaload, 1, (0, [], [])), (.iload_n 2, 1, (0, [2], [])), (.iload_n 3, 1, (0, [3], [])), (.invokevirtual 260, 3, (0, [49, 3, 0, 7], [])), (.iconst 1, 1, (0, [], [])), (.ireturn, 1, (0, [], []))]
theorem ok_X10_put_59 : zOK cX10_put 10 false 4 k_X10_put_59 59 = true := zOK_by (by decide +kernel)
theorem rt_X10_put {g : Nat} {post : Option ZV → ZH → Prop} {h : ZH} {b : ZB2} {z : Int} : zRt mX10_put g post (some (.inl z)) h b = (post (some (.inl z)) h ∧ h.1.length = g) := by show (_ ∧ _ ∧ True) = _; simp
def bk_X10_put_0 (E : ZE) (CT : Nat → ZC) (X : ZK) (Rt : ZR) (ls : ZL) (st : List ZV) (h : ZH) (b : ZB2) : Prop := zB E CT k_X10_put_0 0 ls st h b (fun t ls st h b => X t ls st h b) Rt
theorem bs_X10_put_0 {E : ZE} {CT : Nat → ZC} {X : ZK} {Rt : ZR} {ls : ZL} {st : List ZV} {h : ZH} {b : ZB2} (hX : zCl E mX10_put 10 false CT Rt X) (q : bk_X10_put_0 E CT X Rt ls st h b) : X 0 ls st h b := by
  refine hX k_X10_put_0 0 ok_X10_put_0 _ ?_ ls st h b q
  exact fun t ls st h b q => q
def bk_X10_put_8 (E : ZE) (CT : Nat → ZC) (X : ZK) (Rt : ZR) (ls : ZL) (st : List ZV) (h : ZH) (b : ZB2) : Prop := zB E CT k_X10_put_8 8 ls st h b (fun t ls st h b => X t ls st h b) Rt
theorem bs_X10_put_8 {E : ZE} {CT : Nat → ZC} {X : ZK} {Rt : ZR} {ls : ZL} {st : List ZV} {h : ZH} {b : ZB2} (hX : zCl E mX10_put 10 false CT Rt X) (q : bk_X10_put_8 E CT X Rt ls st h b) : X 8 ls st h b := by
  refine hX k_X10_put_8 8 ok_X10_put_8 _ ?_ ls st h b q
  exact fun t ls st h b q => q
def bk_X10_put_15 (E : ZE) (CT : Nat → ZC) (X : ZK) (Rt : ZR) (ls : ZL) (st : List ZV) (h : ZH) (b : ZB2) : Prop := zB E CT k_X10_put_15 15 ls st h b (fun t ls st h b => X t ls st h b) Rt
theorem bs_X10_put_15 {E : ZE} {CT : Nat → ZC} {X : ZK} {Rt : ZR} {ls : ZL} {st : List ZV} {h : ZH} {b : ZB2} (hX : zCl E mX10_put 10 false CT Rt X) (q : bk_X10_put_15 E CT X Rt ls st h b) : X 15 ls st h b := by
  refine hX k_X10_put_15 15 ok_X10_put_15 _ ?_ ls st h b q
  exact fun t ls st h b q => q
def bk_X10_put_34 (E : ZE) (CT : Nat → ZC) (X : ZK) (Rt : ZR) (ls : ZL) (st : List ZV) (h : ZH) (b : ZB2) : Prop := zB E CT k_X10_put_34 34 ls st h b (fun t ls st h b => X t ls st h b) Rt
theorem bs_X10_put_34 {E : ZE} {CT : Nat → ZC} {X : ZK} {Rt : ZR} {ls : ZL} {st : List ZV} {h : ZH} {b : ZB2} (hX : zCl E mX10_put 10 false CT Rt X) (q : bk_X10_put_34 E CT X Rt ls st h b) : X 34 ls st h b := by
  refine hX k_X10_put_34 34 ok_X10_put_34 _ ?_ ls st h b q
  exact fun t ls st h b q => q
def bk_X10_put_52 (E : ZE) (CT : Nat → ZC) (X : ZK) (Rt : ZR) (ls : ZL) (st : List ZV) (h : ZH) (b : ZB2) : Prop := zB E CT k_X10_put_52 52 ls st h b (fun t ls st h b => X t ls st h b) Rt
theorem bs_X10_put_52 {E : ZE} {CT : Nat → ZC} {X : ZK} {Rt : ZR} {ls : ZL} {st : List ZV} {h : ZH} {b : ZB2} (hX : zCl E mX10_put 10 false CT Rt X) (q : bk_X10_put_52 E CT X Rt ls st h b) : X 52 ls st h b := by
  refine hX k_X10_put_52 52 ok_X10_put_52 _ ?_ ls st h b q
  exact fun t ls st h b q => q
def bk_X10_put_59 (E : ZE) (CT : Nat → ZC) (X : ZK) (Rt : ZR) (ls : ZL) (st : List ZV) (h : ZH) (b : ZB2) : Prop := zB E CT k_X10_put_59 59 ls st h b (fun t ls st h b => X t ls st h b) Rt
theorem bs_X10_put_59 {E : ZE} {CT : Nat → ZC} {X : ZK} {Rt : ZR} {ls : ZL} {st : List ZV} {h : ZH} {b : ZB2} (hX : zCl E mX10_put 10 false CT Rt X) (q : bk_X10_put_59 E CT X Rt ls st h b) : X 59 ls st h b := by
  refine hX k_X10_put_59 59 ok_X10_put_59 _ ?_ ls st h b q
  exact fun t ls st h b q => q
-- X10_put: cuts [8, 15, 34, 52, 59]
def k_X10_move_0 : List ZI := [(.iload_n 1, 1, (0, [1], [])), (.iconst 3, 1, (0, [], [])), (.invokestatic 92, 3, (0, [111, 2, 0, 10], [])), (.ifCond .ne 11, 3, (0, [16], []))]
theorem ok_X10_move_0 : zOK cX10_move 10 false 8 k_X10_move_0 0 = true := zOK_by (by decide +kernel)
def k_X10_move_8 : List ZI := [(.iload_n 3, 1, (0, [3], [])), (.iconst 3, 1, (0, [], [])), (.invokestatic 92, 3, (0, [111, 2, 0, 10], [])), (.ifCond .eq 10, 3, (0, [23], []))]
theorem ok_X10_move_8 : zOK cX10_move 10 false 8 k_X10_move_8 8 = true := zOK_by (by decide +kernel)
def k_X10_move_16 : List ZI := [(.aload_n 0, 1, (0, [0], [])), (.ldc 96, 2, ((-1000000001), [], [])), (.invokevirtual 97, 3, (0, [110, 2, 0, 10], [])), (.ireturn, 1, (0, [], []))]
theorem ok_X10_move_16 : zOK cX10_move 10 false 8 k_X10_move_16 16 = true := zOK_by (by decide +kernel)
def k_X10_move_23 : List ZI := [(.aload_n 0, 1, (0, [0], [])), (.getfield 83, 3, (0, [10, 7], [])), (.iload_n 1, 1, (0, [1], [])), (.aaload, 1, (0, [], [])), (.astore 6, 2, (0, [6], [])), (.aload_n 0, 1, (0, [0], [])), (.getfield 83, 3, (0, [10, 7], [])), (.iload_n 3, 1, (0, [3], [])), (.aaload, 1, (0, [], [])), (.astore 7, 2, (0, [7], []))]
theorem ok_X10_move_23 : zOK cX10_move 10 false 8 k_X10_move_23 23 = true := zOK_by (by decide +kernel)
def k_X10_move_39 : List ZI := [(.aload 6, 2, (0, [6], [])), (.getfield 219, 3, (0, [7, 1], [])), (.ifCond .eq 11, 3, (0, [55], [])), (.aload 7, 2, (0, [7], [])), (.getfield 219, 3, (0, [7, 1], [])), (.ifCond .ne 10, 3, (0, [62], []))]
theorem ok_X10_move_39 : zOK cX10_move 10 false 8 k_X10_move_39 39 = true := zOK_by (by decide +kernel)
def k_X10_move_55 : List ZI := [(.aload_n 0, 1, (0, [0], [])), (.ldc 217, 2, ((-1000000002), [], [])), (.invokevirtual 97, 3, (0, [110, 2, 0, 10], [])), (.ireturn, 1, (0, [], []))]
theorem ok_X10_move_55 : zOK cX10_move 10 false 8 k_X10_move_55 55 = true := zOK_by (by decide +kernel)
def k_X10_move_62 : List ZI := [(.aload 6, 2, (0, [6], [])), (.getfield 219, 3, (0, [7, 1], [])), (.aload 7, 2, (0, [7], [])), (.getfield 219, 3, (0, [7, 1], [])), (.if_icmp .eq 10, 3, (0, [82], [])), (.aload_n 0, 1, (0, [0], [])), (.ldc 170, 2, ((-1000000005), [], [])), (.invokevirtual 97, 3, (0, [110, 2, 0, 10], [])), (.ireturn, 1, (0, [], []))]
theorem ok_X10_move_62 : zOK cX10_move 10 false 8 k_X10_move_62 62 = true := zOK_by (by decide +kernel)
def k_X10_move_82 : List ZI := [(.aload 6, 2, (0, [6], [])), (.iload_n 2, 1, (0, [2], [])), (.iload 5, 2, (0, [5], [])), (.invokevirtual 263, 3, (0, [50, 3, 0, 7], [])), (.ifCond .eq 15, 3, (0, [105], []))]
theorem ok_X10_move_82 : zOK cX10_move 10 false 8 k_X10_move_82 82 = true := zOK_by (by decide +kernel)
def k_X10_move_93 : List ZI := [(.aload 7, 2, (0, [7], [])), (.iload 4, 2, (0, [4], [])), (.iload 5, 2, (0, [5], [])), (.invokevirtual 263, 3, (0, [50, 3, 0, 7], [])), (.ifCond .ne 10, 3, (0, [112], []))]
theorem ok_X10_move_93 : zOK cX10_move 10 false 8 k_X10_move_93 93 = true := zOK_by (by decide +kernel)
def k_X10_move_105 : List ZI := [(.aload_n 0, 1, (0, [0], [])), (.ldc 96, 2, ((-1000000001), [], [])), (.invokevirtual 97, 3, (0, [110, 2, 0, 10], [])), (.ireturn, 1, (0, [], []))]
theorem ok_X10_move_105 : zOK cX10_move 10 false 8 k_X10_move_105 105 = true := zOK_by (by decide +kernel)
def k_X10_move_112 : List ZI := [(.aload 6, 2, (0, [6], [])), (.getfield 266, 3, (0, [7, 0], [])), (.iload_n 2, 1, (0, [2], [])), (.aload 7, 2, (0, [7], [])), (.getfield 266, 3, (0, [7, 0], [])), (.iload 4, 2, (0, [4], [])), (.iload 5, 2, (0, [5], [])), (.invokestatic 267, 3, (0, [], [])), (.iload 5, 2, (0, [5], [])), (.ireturn, 1, (0, [], []))]
theorem ok_X10_move_112 : zOK cX10_move 10 false 8 k_X10_move_112 112 = true := zOK_by (by decide +kernel)
theorem rt_X10_move {g : Nat} {post : Option ZV → ZH → Prop} {h : ZH} {b : ZB2} {z : Int} : zRt mX10_move g post (some (.inl z)) h b = (post (some (.inl z)) h ∧ h.1.length = g) := by show (_ ∧ _ ∧ True) = _; simp
def bk_X10_move_0 (E : ZE) (CT : Nat → ZC) (X : ZK) (Rt : ZR) (ls : ZL) (st : List ZV) (h : ZH) (b : ZB2) : Prop := zB E CT k_X10_move_0 0 ls st h b (fun t ls st h b => X t ls st h b) Rt
theorem bs_X10_move_0 {E : ZE} {CT : Nat → ZC} {X : ZK} {Rt : ZR} {ls : ZL} {st : List ZV} {h : ZH} {b : ZB2} (hX : zCl E mX10_move 10 false CT Rt X) (q : bk_X10_move_0 E CT X Rt ls st h b) : X 0 ls st h b := by
  refine hX k_X10_move_0 0 ok_X10_move_0 _ ?_ ls st h b q
  exact fun t ls st h b q => q
def bk_X10_move_8 (E : ZE) (CT : Nat → ZC) (X : ZK) (Rt : ZR) (ls : ZL) (st : List ZV) (h : ZH) (b : ZB2) : Prop := zB E CT k_X10_move_8 8 ls st h b (fun t ls st h b => X t ls st h b) Rt
theorem bs_X10_move_8 {E : ZE} {CT : Nat → ZC} {X : ZK} {Rt : ZR} {ls : ZL} {st : List ZV} {h : ZH} {b : ZB2} (hX : zCl E mX10_move 10 false CT Rt X) (q : bk_X10_move_8 E CT X Rt ls st h b) : X 8 ls st h b := by
  refine hX k_X10_move_8 8 ok_X10_move_8 _ ?_ ls st h b q
  exact fun t ls st h b q => q
def bk_X10_move_16 (E : ZE) (CT : Nat → ZC) (X : ZK) (Rt : ZR) (ls : ZL) (st : List ZV) (h : ZH) (b : ZB2) : Prop := zB E CT k_X10_move_16 16 ls st h b (fun t ls st h b => X t ls st h b) Rt
theorem bs_X10_move_16 {E : ZE} {CT : Nat → ZC} {X : ZK} {Rt : ZR} {ls : ZL} {st : List ZV} {h : ZH} {b : ZB2} (hX : zCl E mX10_move 10 false CT Rt X) (q : bk_X10_move_16 E CT X Rt ls st h b) : X 16 ls st h b := by
  refine hX k_X10_move_16 16 ok_X10_move_16 _ ?_ ls st h b q
  exact fun t ls st h b q => q
def bk_X10_move_23 (E : ZE) (CT : Nat → ZC) (X : ZK) (Rt : ZR) (ls : ZL) (st : List ZV) (h : ZH) (b : ZB2) : Prop := zB E CT k_X10_move_23 23 ls st h b (fun t ls st h b => X t ls st h b) Rt
theorem bs_X10_move_23 {E : ZE} {CT : Nat → ZC} {X : ZK} {Rt : ZR} {ls : ZL} {st : List ZV} {h : ZH} {b : ZB2} (hX : zCl E mX10_move 10 false CT Rt X) (q : bk_X10_move_23 E CT X Rt ls st h b) : X 23 ls st h b := by
  refine hX k_X10_move_23 23 ok_X10_move_23 _ ?_ ls st h b q
  exact fun t ls st h b q => q
def bk_X10_move_39 (E : ZE) (CT : Nat → ZC) (X : ZK) (Rt : ZR) (ls : ZL) (st : List ZV) (h : ZH) (b : ZB2) : Prop := zB E CT k_X10_move_39 39 ls st h b (fun t ls st h b => X t ls st h b) Rt
theorem bs_X10_move_39 {E : ZE} {CT : Nat → ZC} {X : ZK} {Rt : ZR} {ls : ZL} {st : List ZV} {h : ZH} {b : ZB2} (hX : zCl E mX10_move 10 false CT Rt X) (q : bk_X10_move_39 E CT X Rt ls st h b) : X 39 ls st h b := by
  refine hX k_X10_move_39 39 ok_X10_move_39 _ ?_ ls st h b q
  exact fun t ls st h b q => q
def bk_X10_move_55 (E : ZE) (CT : Nat → ZC) (X : ZK) (Rt : ZR) (ls : ZL) (st : List ZV) (h : ZH) (b : ZB2) : Prop := zB E CT k_X10_move_55 55 ls st h b (fun t ls st h b => X t ls st h b) Rt
theorem bs_X10_move_55 {E : ZE} {CT : Nat → ZC} {X : ZK} {Rt : ZR} {ls : ZL} {st : List ZV} {h : ZH} {b : ZB2} (hX : zCl E mX10_move 10 false CT Rt X) (q : bk_X10_move_55 E CT X Rt ls st h b) : X 55 ls st h b := by
  refine hX k_X10_move_55 55 ok_X10_move_55 _ ?_ ls st h b q
  exact fun t ls st h b q => q
def bk_X10_move_62 (E : ZE) (CT : Nat → ZC) (X : ZK) (Rt : ZR) (ls : ZL) (st : List ZV) (h : ZH) (b : ZB2) : Prop := zB E CT k_X10_move_62 62 ls st h b (fun t ls st h b => X t ls st h b) Rt
theorem bs_X10_move_62 {E : ZE} {CT : Nat → ZC} {X : ZK} {Rt : ZR} {ls : ZL} {st : List ZV} {h : ZH} {b : ZB2} (hX : zCl E mX10_move 10 false CT Rt X) (q : bk_X10_move_62 E CT X Rt ls st h b) : X 62 ls st h b := by
  refine hX k_X10_move_62 62 ok_X10_move_62 _ ?_ ls st h b q
  exact fun t ls st h b q => q
def bk_X10_move_82 (E : ZE) (CT : Nat → ZC) (X : ZK) (Rt : ZR) (ls : ZL) (st : List ZV) (h : ZH) (b : ZB2) : Prop := zB E CT k_X10_move_82 82 ls st h b (fun t ls st h b => X t ls st h b) Rt
theorem bs_X10_move_82 {E : ZE} {CT : Nat → ZC} {X : ZK} {Rt : ZR} {ls : ZL} {st : List ZV} {h : ZH} {b : ZB2} (hX : zCl E mX10_move 10 false CT Rt X) (q : bk_X10_move_82 E CT X Rt ls st h b) : X 82 ls st h b := by
  refine hX k_X10_move_82 82 ok_X10_move_82 _ ?_ ls st h b q
  exact fun t ls st h b q => q
def bk_X10_move_93 (E : ZE) (CT : Nat → ZC) (X : ZK) (Rt : ZR) (ls : ZL) (st : List ZV) (h : ZH) (b : ZB2) : Prop := zB E CT k_X10_move_93 93 ls st h b (fun t ls st h b => X t ls st h b) Rt
theorem bs_X10_move_93 {E : ZE} {CT : Nat → ZC} {X : ZK} {Rt : ZR} {ls : ZL} {st : List ZV} {h : ZH} {b : ZB2} (hX : zCl E mX10_move 10 false CT Rt X) (q : bk_X10_move_93 E CT X Rt ls st h b) : X 93 ls st h b := by
  refine hX k_X10_move_93 93 ok_X10_move_93 _ ?_ ls st h b q
  exact fun t ls st h b q => q
def bk_X10_move_105 (E : ZE) (CT : Nat → ZC) (X : ZK) (Rt : ZR) (ls : ZL) (st : List ZV) (h : ZH) (b : ZB2) : Prop := zB E CT k_X10_move_105 105 ls st h b (fun t ls st h b => X t ls st h b) Rt
theorem bs_X10_move_105 {E : ZE} {CT : Nat → ZC} {X : ZK} {Rt : ZR} {ls : ZL} {st : List ZV} {h : ZH} {b : ZB2} (hX : zCl E mX10_move 10 false CT Rt X) (q : bk_X10_move_105 E CT X Rt ls st h b) : X 105 ls st h b := by
  refine hX k_X10_move_105 105 ok_X10_move_105 _ ?_ ls st h b q
  exact fun t ls st h b q => q
def bk_X10_move_112 (E : ZE) (CT : Nat → ZC) (X : ZK) (Rt : ZR) (ls : ZL) (st : List ZV) (h : ZH) (b : ZB2) : Prop := zB E CT k_X10_move_112 112 ls st h b (fun t ls st h b => X t ls st h b) Rt
theorem bs_X10_move_112 {E : ZE} {CT : Nat → ZC} {X : ZK} {Rt : ZR} {ls : ZL} {st : List ZV} {h : ZH} {b : ZB2} (hX : zCl E mX10_move 10 false CT Rt X) (q : bk_X10_move_112 E CT X Rt ls st h b) : X 112 ls st h b := by
  refine hX k_X10_move_112 112 ok_X10_move_112 _ ?_ ls st h b q
  exact fun t ls st h b q => q
-- X10_move: cuts [8, 16, 23, 39, 55, 62, 82, 93, 105, 112]
def k_X10_rocks_0 : List ZI := [(.iload_n 1, 1, (0, [1], [])), (.iconst 3, 1, (0, [], [])), (.invokestatic 92, 3, (0, [111, 2, 0, 10], [])), (.ifCond .eq 10, 3, (0, [15], []))]
theorem ok_X10_rocks_0 : zOK cX10_rocks 10 false 4 k_X10_rocks_0 0 = true := zOK_by (by decide +kernel)
def k_X10_rocks_8 : List ZI := [(.aload_n 0, 1, (0, [0], [])), (.ldc 96, 2, ((-1000000001), [], [])), (.invokevirtual 97, 3, (0, [110, 2, 0, 10], [])), (.ireturn, 1, (0, [], []))]
theorem ok_X10_rocks_8 : zOK cX10_rocks 10 false 4 k_X10_rocks_8 8 = true := zOK_by (by decide +kernel)
def k_X10_rocks_15 : List ZI := [(.aload_n 0, 1, (0, [0], [])), (.getfield 83, 3, (0, [10, 7], [])), (.iload_n 1, 1, (0, [1], [])), (.aaload, 1, (0, [], [])), (.astore_n 2, 1, (0, [2], []))]
theorem ok_X10_rocks_15 : zOK cX10_rocks 10 false 4 k_X10_rocks_15 15 = true := zOK_by (by decide +kernel)
def k_X10_rocks_22 : List ZI := [(.aload_n 2, 1, (0, [2], [])), (.getfield 219, 3, (0, [7, 1], [])), (.ifCond .ne 10, 3, (0, [36], [])), (.aload_n 0, 1, (0, [0], [])), (.ldc 217, 2, ((-1000000002), [], [])), (.invokevirtual 97, 3, (0, [110, 2, 0, 10], [])), (.ireturn, 1, (0, [], []))]
theorem ok_X10_rocks_22 : zOK cX10_rocks 10 false 4 k_X10_rocks_22 22 = true := zOK_by (by decide +kernel)
def k_X10_rocks_36 : List ZI := [(.iconst 0, 1, (0, [], [])), (.istore_n 3, 1, (0, [3], []))]
theorem ok_X10_rocks_36 : zOK cX10_rocks 10 false 4 k_X10_rocks_36 36 = true := zOK_by (by decide +kernel)
def k_X10_rocks_38 : List ZI := [(.iload_n 3, 1, (0, [3], [])), (.aload_n 2, 1, (0, [2], [])), (.getfield 259, 3, (0, [7, 2], [])), (.if_icmp .ge 43, 3, (0, [86], []))]
theorem ok_X10_rocks_38 : zOK cX10_rocks 10 false 4 k_X10_rocks_38 38 = true := zOK_by (by decide +kernel)
def k_X10_rocks_46 : List ZI := [(.aload_n 2, 1, (0, [2], [])), (.getfield 266, 3, (0, [7, 0], [])), (.iload_n 3, 1, (0, [3], [])), (.iaload, 1, (0, [], [])), (.bipush 9, 2, (0, [], [])), (.invokestatic 92, 3, (0, [111, 2, 0, 10], [])), (.ifCond .eq 5, 3, (0, [62], [])), (.iload_n 3, 1, (0, [3], [])), (.ireturn, 1, (0, [], []))]
theorem ok_X10_rocks_46 : zOK cX10_rocks 10 false 4 k_X10_rocks_46 46 = true := zOK_by (by decide +kernel)
def k_X10_rocks_62 : List ZI := [(.aload_n 0, 1, (0, [0], [])), (.getfield 12, 3, (0, [10, 0], [])), (.getfield 21, 3, (0, [6, 0], [])), (.getfield 101, 3, (0, [2, 0], [])), (.iload_n 3, 1, (0, [3], [])), (.aload_n 2, 1, (0, [2], [])), (.getfield 266, 3, (0, [7, 0], [])), (.iload_n 3, 1, (0, [3], [])), (.iaload, 1, (0, [], [])), (.iastore, 1, (0, [], [])), (.iinc 3 1, 3, (0, [3], [])), (.goto (-45), 3, (0, [38], []))]
theorem ok_X10_rocks_62 : zOK cX10_rocks 10 false 4 k_X10_rocks_62 62 = true := zOK_by (by decide +kernel)
def k_X10_rocks_86 : List ZI := [(.aload_n 2, 1, (0, [2], [])), (.getfield 259, 3, (0, [7, 2], [])), (.ireturn, 1, (0, [], []))]
theorem ok_X10_rocks_86 : zOK cX10_rocks 10 false 4 k_X10_rocks_86 86 = true := zOK_by (by decide +kernel)
theorem rt_X10_rocks {g : Nat} {post : Option ZV → ZH → Prop} {h : ZH} {b : ZB2} {z : Int} : zRt mX10_rocks g post (some (.inl z)) h b = (post (some (.inl z)) h ∧ h.1.length = g) := by show (_ ∧ _ ∧ True) = _; simp
def bk_X10_rocks_0 (E : ZE) (CT : Nat → ZC) (X : ZK) (Rt : ZR) (ls : ZL) (st : List ZV) (h : ZH) (b : ZB2) : Prop := zB E CT k_X10_rocks_0 0 ls st h b (fun t ls st h b => X t ls st h b) Rt
theorem bs_X10_rocks_0 {E : ZE} {CT : Nat → ZC} {X : ZK} {Rt : ZR} {ls : ZL} {st : List ZV} {h : ZH} {b : ZB2} (hX : zCl E mX10_rocks 10 false CT Rt X) (q : bk_X10_rocks_0 E CT X Rt ls st h b) : X 0 ls st h b := by
  refine hX k_X10_rocks_0 0 ok_X10_rocks_0 _ ?_ ls st h b q
  exact fun t ls st h b q => q
def bk_X10_rocks_8 (E : ZE) (CT : Nat → ZC) (X : ZK) (Rt : ZR) (ls : ZL) (st : List ZV) (h : ZH) (b : ZB2) : Prop := zB E CT k_X10_rocks_8 8 ls st h b (fun t ls st h b => X t ls st h b) Rt
theorem bs_X10_rocks_8 {E : ZE} {CT : Nat → ZC} {X : ZK} {Rt : ZR} {ls : ZL} {st : List ZV} {h : ZH} {b : ZB2} (hX : zCl E mX10_rocks 10 false CT Rt X) (q : bk_X10_rocks_8 E CT X Rt ls st h b) : X 8 ls st h b := by
  refine hX k_X10_rocks_8 8 ok_X10_rocks_8 _ ?_ ls st h b q
  exact fun t ls st h b q => q
def bk_X10_rocks_15 (E : ZE) (CT : Nat → ZC) (X : ZK) (Rt : ZR) (ls : ZL) (st : List ZV) (h : ZH) (b : ZB2) : Prop := zB E CT k_X10_rocks_15 15 ls st h b (fun t ls st h b => X t ls st h b) Rt
theorem bs_X10_rocks_15 {E : ZE} {CT : Nat → ZC} {X : ZK} {Rt : ZR} {ls : ZL} {st : List ZV} {h : ZH} {b : ZB2} (hX : zCl E mX10_rocks 10 false CT Rt X) (q : bk_X10_rocks_15 E CT X Rt ls st h b) : X 15 ls st h b := by
  refine hX k_X10_rocks_15 15 ok_X10_rocks_15 _ ?_ ls st h b q
  exact fun t ls st h b q => q
def bk_X10_rocks_22 (E : ZE) (CT : Nat → ZC) (X : ZK) (Rt : ZR) (ls : ZL) (st : List ZV) (h : ZH) (b : ZB2) : Prop := zB E CT k_X10_rocks_22 22 ls st h b (fun t ls st h b => X t ls st h b) Rt
theorem bs_X10_rocks_22 {E : ZE} {CT : Nat → ZC} {X : ZK} {Rt : ZR} {ls : ZL} {st : List ZV} {h : ZH} {b : ZB2} (hX : zCl E mX10_rocks 10 false CT Rt X) (q : bk_X10_rocks_22 E CT X Rt ls st h b) : X 22 ls st h b := by
  refine hX k_X10_rocks_22 22 ok_X10_rocks_22 _ ?_ ls st h b q
  exact fun t ls st h b q => q
def bk_X10_rocks_36 (E : ZE) (CT : Nat → ZC) (X : ZK) (Rt : ZR) (ls : ZL) (st : List ZV) (h : ZH) (b : ZB2) : Prop := zB E CT k_X10_rocks_36 36 ls st h b (fun t ls st h b => X t ls st h b) Rt
theorem bs_X10_rocks_36 {E : ZE} {CT : Nat → ZC} {X : ZK} {Rt : ZR} {ls : ZL} {st : List ZV} {h : ZH} {b : ZB2} (hX : zCl E mX10_rocks 10 false CT Rt X) (q : bk_X10_rocks_36 E CT X Rt ls st h b) : X 36 ls st h b := by
  refine hX k_X10_rocks_36 36 ok_X10_rocks_36 _ ?_ ls st h b q
  exact fun t ls st h b q => q
def bk_X10_rocks_38 (E : ZE) (CT : Nat → ZC) (X : ZK) (Rt : ZR) (ls : ZL) (st : List ZV) (h : ZH) (b : ZB2) : Prop := zB E CT k_X10_rocks_38 38 ls st h b (fun t ls st h b => X t ls st h b) Rt
theorem bs_X10_rocks_38 {E : ZE} {CT : Nat → ZC} {X : ZK} {Rt : ZR} {ls : ZL} {st : List ZV} {h : ZH} {b : ZB2} (hX : zCl E mX10_rocks 10 false CT Rt X) (q : bk_X10_rocks_38 E CT X Rt ls st h b) : X 38 ls st h b := by
  refine hX k_X10_rocks_38 38 ok_X10_rocks_38 _ ?_ ls st h b q
  exact fun t ls st h b q => q
def bk_X10_rocks_46 (E : ZE) (CT : Nat → ZC) (X : ZK) (Rt : ZR) (ls : ZL) (st : List ZV) (h : ZH) (b : ZB2) : Prop := zB E CT k_X10_rocks_46 46 ls st h b (fun t ls st h b => X t ls st h b) Rt
theorem bs_X10_rocks_46 {E : ZE} {CT : Nat → ZC} {X : ZK} {Rt : ZR} {ls : ZL} {st : List ZV} {h : ZH} {b : ZB2} (hX : zCl E mX10_rocks 10 false CT Rt X) (q : bk_X10_rocks_46 E CT X Rt ls st h b) : X 46 ls st h b := by
  refine hX k_X10_rocks_46 46 ok_X10_rocks_46 _ ?_ ls st h b q
  exact fun t ls st h b q => q
def bk_X10_rocks_62 (E : ZE) (CT : Nat → ZC) (X : ZK) (Rt : ZR) (ls : ZL) (st : List ZV) (h : ZH) (b : ZB2) : Prop := zB E CT k_X10_rocks_62 62 ls st h b (fun t ls st h b => X t ls st h b) Rt
theorem bs_X10_rocks_62 {E : ZE} {CT : Nat → ZC} {X : ZK} {Rt : ZR} {ls : ZL} {st : List ZV} {h : ZH} {b : ZB2} (hX : zCl E mX10_rocks 10 false CT Rt X) (q : bk_X10_rocks_62 E CT X Rt ls st h b) : X 62 ls st h b := by
  refine hX k_X10_rocks_62 62 ok_X10_rocks_62 _ ?_ ls st h b q
  exact fun t ls st h b q => q
def bk_X10_rocks_86 (E : ZE) (CT : Nat → ZC) (X : ZK) (Rt : ZR) (ls : ZL) (st : List ZV) (h : ZH) (b : ZB2) : Prop := zB E CT k_X10_rocks_86 86 ls st h b (fun t ls st h b => X t ls st h b) Rt
theorem bs_X10_rocks_86 {E : ZE} {CT : Nat → ZC} {X : ZK} {Rt : ZR} {ls : ZL} {st : List ZV} {h : ZH} {b : ZB2} (hX : zCl E mX10_rocks 10 false CT Rt X) (q : bk_X10_rocks_86 E CT X Rt ls st h b) : X 86 ls st h b := by
  refine hX k_X10_rocks_86 86 ok_X10_rocks_86 _ ?_ ls st h b q
  exact fun t ls st h b q => q
-- X10_rocks: cuts [8, 15, 22, 36, 38, 46, 62, 86]
def k_X10_judge_0 : List ZI := [(.iload_n 1, 1, (0, [1], [])), (.iconst 3, 1, (0, [], [])), (.invokestatic 92, 3, (0, [111, 2, 0, 10], [])), (.ifCond .eq 10, 3, (0, [15], []))]
theorem ok_X10_judge_0 : zOK cX10_judge 10 false 5 k_X10_judge_0 0 = true := zOK_by (by decide +kernel)
def k_X10_judge_8 : List ZI := [(.aload_n 0, 1, (0, [0], [])), (.ldc 96, 2, ((-1000000001), [], [])), (.invokevirtual 97, 3, (0, [110, 2, 0, 10], [])), (.ireturn, 1, (0, [], []))]
theorem ok_X10_judge_8 : zOK cX10_judge 10 false 5 k_X10_judge_8 8 = true := zOK_by (by decide +kernel)
def k_X10_judge_15 : List ZI := [(.aload_n 0, 1, (0, [0], [])), (.getfield 83, 3, (0, [10, 7], [])), (.iload_n 1, 1, (0, [1], [])), (.aaload, 1, (0, [], [])), (.astore_n 2, 1, (0, [2], []))]
theorem ok_X10_judge_15 : zOK cX10_judge 10 false 5 k_X10_judge_15 15 = true := zOK_by (by decide +kernel)
def k_X10_judge_22 : List ZI := [(.aload_n 2, 1, (0, [2], [])), (.getfield 219, 3, (0, [7, 1], [])), (.ifCond .ne 10, 3, (0, [36], [])), (.aload_n 0, 1, (0, [0], [])), (.ldc 217, 2, ((-1000000002), [], [])), (.invokevirtual 97, 3, (0, [110, 2, 0, 10], [])), (.ireturn, 1, (0, [], []))]
theorem ok_X10_judge_22 : zOK cX10_judge 10 false 5 k_X10_judge_22 22 = true := zOK_by (by decide +kernel)
def k_X10_judge_36 : List ZI := [(.aload_n 2, 1, (0, [2], [])), (.getfield 259, 3, (0, [7, 2], [])), (.aload_n 0, 1, (0, [0], [])), (.getfield 12, 3, (0, [10, 0], [])), (.getfield 25, 3, (0, [6, 1], [])), (.getfield 140, 3, (0, [0, 3], [])), (.invokestatic 273, 3, (0, [2], [])), (.istore_n 3, 1, (0, [3], []))]
theorem ok_X10_judge_36 : zOK cX10_judge 10 false 5 k_X10_judge_36 36 = true := zOK_by (by decide +kernel)
def k_X10_judge_54 : List ZI := [(.iconst 0, 1, (0, [], [])), (.istore 4, 2, (0, [4], []))]
theorem ok_X10_judge_54 : zOK cX10_judge 10 false 5 k_X10_judge_54 54 = true := zOK_by (by decide +kernel)
def k_X10_judge_57 : List ZI := [(.iload 4, 2, (0, [4], [])), (.iload_n 3, 1, (0, [3], [])), (.if_icmp .ge 35, 3, (0, [95], []))]
theorem ok_X10_judge_57 : zOK cX10_judge 10 false 5 k_X10_judge_57 57 = true := zOK_by (by decide +kernel)
def k_X10_judge_63 : List ZI := [(.aload_n 2, 1, (0, [2], [])), (.getfield 266, 3, (0, [7, 0], [])), (.iload 4, 2, (0, [4], [])), (.iaload, 1, (0, [], [])), (.aload_n 0, 1, (0, [0], [])), (.getfield 12, 3, (0, [10, 0], [])), (.getfield 25, 3, (0, [6, 1], [])), (.getfield 150, 3, (0, [0, 2], [])), (.iload 4, 2, (0, [4], [])), (.iaload, 1, (0, [], [])), (.if_icmp .eq 6, 3, (0, [89], [])), (.iload 4, 2, (0, [4], [])), (.ireturn, 1, (0, [], []))]
theorem ok_X10_judge_63 : zOK cX10_judge 10 false 5 k_X10_judge_63 63 = true := zOK_by (by decide +kernel)
def k_X10_judge_89 : List ZI := [(.iinc 4 1, 3, (0, [4], [])), (.goto (-35), 3, (0, [57], []))]
theorem ok_X10_judge_89 : zOK cX10_judge 10 false 5 k_X10_judge_89 89 = true := zOK_by (by decide +kernel)
def k_X10_judge_95 : List ZI := [(.aload_n 2, 1, (0, [2], [])), (.getfield 259, 3, (0, [7, 2], [])), (.aload_n 0, 1, (0, [0], [])), (.getfield 12, 3, (0, [10, 0], [])), (.getfield 25, 3, (0, [6, 1], [])), (.getfield 140, 3, (0, [0, 3], [])), (.if_icmp .ne 7, 3, (0, [116], [])), (.iconst (-1), 1, (0, [], [])), (.goto 4, 3, (0, [117], []))]
theorem ok_X10_judge_95 : zOK cX10_judge 10 false 5 k_X10_judge_95 95 = true := zOK_by (by decide +kernel)
def k_X10_judge_116 : List ZI := [(.iload_n 3, 1, (0, [3], []))]
theorem ok_X10_judge_116 : zOK cX10_judge 10 false 5 k_X10_judge_116 116 = true := zOK_by (by decide +kernel)
def k_X10_judge_117 : List ZI := [(.ireturn, 1, (0, [], []))]
theorem ok_X10_judge_117 : zOK cX10_judge 10 false 5 k_X10_judge_117 117 = true := zOK_by (by decide +kernel)
theorem rt_X10_judge {g : Nat} {post : Option ZV → ZH → Prop} {h : ZH} {b : ZB2} {z : Int} : zRt mX10_judge g post (some (.inl z)) h b = (post (some (.inl z)) h ∧ h.1.length = g) := by show (_ ∧ _ ∧ True) = _; simp
def bk_X10_judge_0 (E : ZE) (CT : Nat → ZC) (X : ZK) (Rt : ZR) (ls : ZL) (st : List ZV) (h : ZH) (b : ZB2) : Prop := zB E CT k_X10_judge_0 0 ls st h b (fun t ls st h b => X t ls st h b) Rt
theorem bs_X10_judge_0 {E : ZE} {CT : Nat → ZC} {X : ZK} {Rt : ZR} {ls : ZL} {st : List ZV} {h : ZH} {b : ZB2} (hX : zCl E mX10_judge 10 false CT Rt X) (q : bk_X10_judge_0 E CT X Rt ls st h b) : X 0 ls st h b := by
  refine hX k_X10_judge_0 0 ok_X10_judge_0 _ ?_ ls st h b q
  exact fun t ls st h b q => q
def bk_X10_judge_8 (E : ZE) (CT : Nat → ZC) (X : ZK) (Rt : ZR) (ls : ZL) (st : List ZV) (h : ZH) (b : ZB2) : Prop := zB E CT k_X10_judge_8 8 ls st h b (fun t ls st h b => X t ls st h b) Rt
theorem bs_X10_judge_8 {E : ZE} {CT : Nat → ZC} {X : ZK} {Rt : ZR} {ls : ZL} {st : List ZV} {h : ZH} {b : ZB2} (hX : zCl E mX10_judge 10 false CT Rt X) (q : bk_X10_judge_8 E CT X Rt ls st h b) : X 8 ls st h b := by
  refine hX k_X10_judge_8 8 ok_X10_judge_8 _ ?_ ls st h b q
  exact fun t ls st h b q => q
def bk_X10_judge_15 (E : ZE) (CT : Nat → ZC) (X : ZK) (Rt : ZR) (ls : ZL) (st : List ZV) (h : ZH) (b : ZB2) : Prop := zB E CT k_X10_judge_15 15 ls st h b (fun t ls st h b => X t ls st h b) Rt
theorem bs_X10_judge_15 {E : ZE} {CT : Nat → ZC} {X : ZK} {Rt : ZR} {ls : ZL} {st : List ZV} {h : ZH} {b : ZB2} (hX : zCl E mX10_judge 10 false CT Rt X) (q : bk_X10_judge_15 E CT X Rt ls st h b) : X 15 ls st h b := by
  refine hX k_X10_judge_15 15 ok_X10_judge_15 _ ?_ ls st h b q
  exact fun t ls st h b q => q
def bk_X10_judge_22 (E : ZE) (CT : Nat → ZC) (X : ZK) (Rt : ZR) (ls : ZL) (st : List ZV) (h : ZH) (b : ZB2) : Prop := zB E CT k_X10_judge_22 22 ls st h b (fun t ls st h b => X t ls st h b) Rt
theorem bs_X10_judge_22 {E : ZE} {CT : Nat → ZC} {X : ZK} {Rt : ZR} {ls : ZL} {st : List ZV} {h : ZH} {b : ZB2} (hX : zCl E mX10_judge 10 false CT Rt X) (q : bk_X10_judge_22 E CT X Rt ls st h b) : X 22 ls st h b := by
  refine hX k_X10_judge_22 22 ok_X10_judge_22 _ ?_ ls st h b q
  exact fun t ls st h b q => q
def bk_X10_judge_36 (E : ZE) (CT : Nat → ZC) (X : ZK) (Rt : ZR) (ls : ZL) (st : List ZV) (h : ZH) (b : ZB2) : Prop := zB E CT k_X10_judge_36 36 ls st h b (fun t ls st h b => X t ls st h b) Rt
theorem bs_X10_judge_36 {E : ZE} {CT : Nat → ZC} {X : ZK} {Rt : ZR} {ls : ZL} {st : List ZV} {h : ZH} {b : ZB2} (hX : zCl E mX10_judge 10 false CT Rt X) (q : bk_X10_judge_36 E CT X Rt ls st h b) : X 36 ls st h b := by
  refine hX k_X10_judge_36 36 ok_X10_judge_36 _ ?_ ls st h b q
  exact fun t ls st h b q => q
def bk_X10_judge_54 (E : ZE) (CT : Nat → ZC) (X : ZK) (Rt : ZR) (ls : ZL) (st : List ZV) (h : ZH) (b : ZB2) : Prop := zB E CT k_X10_judge_54 54 ls st h b (fun t ls st h b => X t ls st h b) Rt
theorem bs_X10_judge_54 {E : ZE} {CT : Nat → ZC} {X : ZK} {Rt : ZR} {ls : ZL} {st : List ZV} {h : ZH} {b : ZB2} (hX : zCl E mX10_judge 10 false CT Rt X) (q : bk_X10_judge_54 E CT X Rt ls st h b) : X 54 ls st h b := by
  refine hX k_X10_judge_54 54 ok_X10_judge_54 _ ?_ ls st h b q
  exact fun t ls st h b q => q
def bk_X10_judge_57 (E : ZE) (CT : Nat → ZC) (X : ZK) (Rt : ZR) (ls : ZL) (st : List ZV) (h : ZH) (b : ZB2) : Prop := zB E CT k_X10_judge_57 57 ls st h b (fun t ls st h b => X t ls st h b) Rt
theorem bs_X10_judge_57 {E : ZE} {CT : Nat → ZC} {X : ZK} {Rt : ZR} {ls : ZL} {st : List ZV} {h : ZH} {b : ZB2} (hX : zCl E mX10_judge 10 false CT Rt X) (q : bk_X10_judge_57 E CT X Rt ls st h b) : X 57 ls st h b := by
  refine hX k_X10_judge_57 57 ok_X10_judge_57 _ ?_ ls st h b q
  exact fun t ls st h b q => q
def bk_X10_judge_63 (E : ZE) (CT : Nat → ZC) (X : ZK) (Rt : ZR) (ls : ZL) (st : List ZV) (h : ZH) (b : ZB2) : Prop := zB E CT k_X10_judge_63 63 ls st h b (fun t ls st h b => X t ls st h b) Rt
theorem bs_X10_judge_63 {E : ZE} {CT : Nat → ZC} {X : ZK} {Rt : ZR} {ls : ZL} {st : List ZV} {h : ZH} {b : ZB2} (hX : zCl E mX10_judge 10 false CT Rt X) (q : bk_X10_judge_63 E CT X Rt ls st h b) : X 63 ls st h b := by
  refine hX k_X10_judge_63 63 ok_X10_judge_63 _ ?_ ls st h b q
  exact fun t ls st h b q => q
def bk_X10_judge_89 (E : ZE) (CT : Nat → ZC) (X : ZK) (Rt : ZR) (ls : ZL) (st : List ZV) (h : ZH) (b : ZB2) : Prop := zB E CT k_X10_judge_89 89 ls st h b (fun t ls st h b => X t ls st h b) Rt
theorem bs_X10_judge_89 {E : ZE} {CT : Nat → ZC} {X : ZK} {Rt : ZR} {ls : ZL} {st : List ZV} {h : ZH} {b : ZB2} (hX : zCl E mX10_judge 10 false CT Rt X) (q : bk_X10_judge_89 E CT X Rt ls st h b) : X 89 ls st h b := by
  refine hX k_X10_judge_89 89 ok_X10_judge_89 _ ?_ ls st h b q
  exact fun t ls st h b q => q
def bk_X10_judge_117 (E : ZE) (CT : Nat → ZC) (X : ZK) (Rt : ZR) (ls : ZL) (st : List ZV) (h : ZH) (b : ZB2) : Prop := zB E CT k_X10_judge_117 117 ls st h b (fun t ls st h b => X t ls st h b) Rt
theorem bs_X10_judge_117 {E : ZE} {CT : Nat → ZC} {X : ZK} {Rt : ZR} {ls : ZL} {st : List ZV} {h : ZH} {b : ZB2} (hX : zCl E mX10_judge 10 false CT Rt X) (q : bk_X10_judge_117 E CT X Rt ls st h b) : X 117 ls st h b := by
  refine hX k_X10_judge_117 117 ok_X10_judge_117 _ ?_ ls st h b q
  exact fun t ls st h b q => q
def bk_X10_judge_116 (E : ZE) (CT : Nat → ZC) (X : ZK) (Rt : ZR) (ls : ZL) (st : List ZV) (h : ZH) (b : ZB2) : Prop := zB E CT k_X10_judge_116 116 ls st h b (fun t ls st h b => if t = 117 then bk_X10_judge_117 E CT X Rt ls st h b else X t ls st h b) Rt
theorem bs_X10_judge_116 {E : ZE} {CT : Nat → ZC} {X : ZK} {Rt : ZR} {ls : ZL} {st : List ZV} {h : ZH} {b : ZB2} (hX : zCl E mX10_judge 10 false CT Rt X) (q : bk_X10_judge_116 E CT X Rt ls st h b) : X 116 ls st h b := by
  refine hX k_X10_judge_116 116 ok_X10_judge_116 _ ?_ ls st h b q
  exact by
    intro t ls st h b q
    by_cases c : t = 117
    · subst c; rw [if_pos rfl] at q; exact bs_X10_judge_117 hX q
    rw [if_neg c] at q
    exact q
def bk_X10_judge_95 (E : ZE) (CT : Nat → ZC) (X : ZK) (Rt : ZR) (ls : ZL) (st : List ZV) (h : ZH) (b : ZB2) : Prop := zB E CT k_X10_judge_95 95 ls st h b (fun t ls st h b => if t = 116 then bk_X10_judge_116 E CT X Rt ls st h b else if t = 117 then bk_X10_judge_117 E CT X Rt ls st h b else X t ls st h b) Rt
theorem bs_X10_judge_95 {E : ZE} {CT : Nat → ZC} {X : ZK} {Rt : ZR} {ls : ZL} {st : List ZV} {h : ZH} {b : ZB2} (hX : zCl E mX10_judge 10 false CT Rt X) (q : bk_X10_judge_95 E CT X Rt ls st h b) : X 95 ls st h b := by
  refine hX k_X10_judge_95 95 ok_X10_judge_95 _ ?_ ls st h b q
  exact by
    intro t ls st h b q
    by_cases c : t = 116
    · subst c; rw [if_pos rfl] at q; exact bs_X10_judge_116 hX q
    rw [if_neg c] at q
    by_cases c : t = 117
    · subst c; rw [if_pos rfl] at q; exact bs_X10_judge_117 hX q
    rw [if_neg c] at q
    exact q
-- X10_judge: cuts [8, 15, 22, 36, 54, 57, 63, 89, 95]
theorem zi2b_eq (v : Int) : zi2b v % 256 = v % 256 ∧ -128 ≤ zi2b v ∧ zi2b v ≤ 127 := by
  have e : zi2b v = (Int8.ofInt v).toInt := by
    unfold zi2b
    rw [Int32.toInt8_ofInt, Int8.toInt_toInt32]
  have h1 := Int8.le_toInt (Int8.ofInt v)
  have h2 := Int8.toInt_lt (Int8.ofInt v)
  rw [e]
  refine ⟨?_, by omega, by omega⟩
  rw [Int8.toInt_ofInt]
  exact Int.bmod_emod
theorem zi2s_eq (v : Int) : zi2s v % 65536 = v % 65536 ∧ -32768 ≤ zi2s v ∧ zi2s v ≤ 32767 := by
  have e : zi2s v = (Int16.ofInt v).toInt := by
    unfold zi2s
    rw [Int32.toInt16_ofInt, Int16.toInt_toInt32]
  have h1 := Int16.le_toInt (Int16.ofInt v)
  have h2 := Int16.toInt_lt (Int16.ofInt v)
  rw [e]
  refine ⟨?_, by omega, by omega⟩
  rw [Int16.toInt_ofInt]
  exact Int.bmod_emod
theorem zand_8 (v : Int) : zand v (zshl 1 8 - 1) = v % 256 := by
  have hm2 : (BitVec.ofInt 32 (zshl 1 8 - 1)).toNat = 2 ^ 8 - 1 := by decide
  have t : (BitVec.ofInt 32 v &&& BitVec.ofInt 32 (zshl 1 8 - 1)).toNat = (v % 4294967296).toNat % 2 ^ 8 := by
    rw [BitVec.toNat_and, hm2, Nat.and_two_pow_sub_one_eq_mod, BitVec.toNat_ofInt]
    rfl
  have e : zand v (zshl 1 8 - 1) = (BitVec.ofInt 32 v &&& BitVec.ofInt 32 (zshl 1 8 - 1)).toInt := rfl
  rw [e, BitVec.toInt_eq_toNat_of_lt (by rw [t]; omega), t]
  omega
theorem zand_16 (v : Int) : zand v (zshl 1 16 - 1) = v % 65536 := by
  have hm2 : (BitVec.ofInt 32 (zshl 1 16 - 1)).toNat = 2 ^ 16 - 1 := by decide
  have t : (BitVec.ofInt 32 v &&& BitVec.ofInt 32 (zshl 1 16 - 1)).toNat = (v % 4294967296).toNat % 2 ^ 16 := by
    rw [BitVec.toNat_and, hm2, Nat.and_two_pow_sub_one_eq_mod, BitVec.toNat_ofInt]
    rfl
  have e : zand v (zshl 1 16 - 1) = (BitVec.ofInt 32 v &&& BitVec.ofInt 32 (zshl 1 16 - 1)).toInt := rfl
  rw [e, BitVec.toInt_eq_toNat_of_lt (by rw [t]; omega), t]
  omega
def wrv (b v : Int) : Int := if b = 32 then v else if b = 8 then v % 256 else v % 65536
theorem wrv_cst {b v : Int} (hb : b = 8 ∨ b = 16 ∨ b = 32) : wrv b v = cvt b (cst b v) ∧ srg b (cst b v) := by
  have h8 := zi2b_eq v
  have h16 := zi2s_eq v
  rcases hb with e | e | e <;> subst e
  · exact ⟨h8.1.symm, fun _ => h8.2, fun q => by omega⟩
  · exact ⟨h16.1.symm, fun q => by omega, fun _ => h16.2⟩
  · exact ⟨rfl, fun q => by omega, fun q => by omega⟩
theorem cvt_eq {b x a : Int} (hb : b = 8 ∨ b = 16 ∨ b = 32) (hs : srg b x) (ha : 0 ≤ a ∧ a ≤ 100) : cvt b x = a ↔ x = a := by
  unfold cvt
  rcases hb with e | e | e <;> subst e
  · have := hs.1 rfl
    rw [if_pos rfl]; omega
  · have := hs.2 rfl
    rw [if_neg (by omega), if_pos rfl]; omega
  · rw [if_neg (by omega), if_neg (by omega)]
theorem cvt_in {b x : Int} (hb : b = 8 ∨ b = 16 ∨ b = 32) (hs : srg b x) : (0 ≤ cvt b x ∧ cvt b x ≤ 9) ↔ (0 ≤ x ∧ x ≤ 9) := by
  unfold cvt
  rcases hb with e | e | e <;> subst e
  · have := hs.1 rfl
    rw [if_pos rfl]; omega
  · have := hs.2 rfl
    rw [if_neg (by omega), if_pos rfl]; omega
  · rw [if_neg (by omega), if_neg (by omega)]
theorem cvt_rg {b x : Int} (h : rg x) : rg (cvt b x) := by
  obtain ⟨h1, h2⟩ := h
  unfold cvt
  refine ⟨?_, ?_⟩ <;> (repeat' split) <;> omega
theorem shq {S M : ZMm} (H : ShR S M) {s : Int} (h : 0 ≤ s ∧ s ≤ 3) : ∃ q, 79 + 2 * s.toNat = q ∧ shtb q ∧ (79 ≤ q ∧ q ≤ 85) ∧ M q 1 = S 98 s.toNat ∧ M q 2 = S 99 s.toNat ∧ ∀ k, k < 40 → M (q + 1) k = cvt (S 98 s.toNat) (S 100 (40 * s.toNat + k)) ∧ srg (S 98 s.toNat) (S 100 (40 * s.toNat + k)) := by
  obtain ⟨a, b, c⟩ := H s.toNat (by omega)
  refine ⟨79 + 2 * s.toNat, rfl, ?_, by omega, a, b, fun k hk => ?_⟩
  · unfold shtb; omega
  · have := c k hk
    rw [show 79 + 2 * s.toNat + 1 = 80 + 2 * s.toNat by omega]
    exact this
theorem Rc_sh {S S' M M' : ZMm} (H : Rc S M) (vd : Vd (S 88)) (e : ∀ x, ¬ x = 98 → ¬ x = 99 → ¬ x = 100 → S' x = S x) (f : ∀ x, x < 79 ∨ 86 < x → M' x = M x) (h : ShR S' M') : Rc S' M' := by
  obtain ⟨n, kp, i, er, v, s⟩ := H
  refine ⟨?_, fun q => ?_, ?_, fun j hj => ?_, ⟨?_, fun j hj => ?_⟩, h⟩
  · rw [e 88 (by decide) (by decide) (by decide)]
    exact SRn_cg n vd (fun x p _ _ => f x (by omega))
  · rw [e 87 (by decide) (by decide) (by decide)] at q
    rw [e 89 (by decide) (by decide) (by decide)]
    exact SRk_cg (kp q) (fun x p => f x (by omega))
  · rw [f 0 (by omega), e 87 (by decide) (by decide) (by decide)]; exact i
  · rw [f 78 (by omega), e 91 (by decide) (by decide) (by decide)]; exact er j hj
  · rw [f 75 (by omega), e 87 (by decide) (by decide) (by decide)]; exact v.1
  · rw [e 87 (by decide) (by decide) (by decide)] at hj
    rw [f 76 (by omega), e 97 (by decide) (by decide) (by decide)]; exact v.2 j hj
def B_sbegin (q : Nat) (b : Int) (n : Int) (M : Nat → Nat → Int) (post : Option ZV → (Nat → Nat → Int) → Prop) : Prop := shtb q ∧ ∀ M2 : ZMm, M2 q 1 = b → M2 q 2 = n → (∀ k, k < 40 → M2 (q + 1) k = 0) → (∀ x, ¬ x = q → ¬ x = q + 1 → M2 x = M x) → post none M2
def C_sbegin : ZC := fun as h post => match as with
  | [.inr (.inr (.inl q)), .inl b, .inl n] => h.1 = zG ∧ B_sbegin q b n h.2 (fun v M => post v (zG, M))
  | _ => False
theorem r_sbegin {q : Nat} {b : Int} {n : Int} {M : Nat → Nat → Int} {post : Option ZV → ZH → Prop} : C_sbegin [.inr (.inr (.inl q)), .inl b, .inl n] (zG, M) post = B_sbegin q b n M (fun v M => post v (zG, M)) := by show (zG = zG ∧ _) = _; simp
def ct_sbegin : Nat → ZC := fun n => if n = 223 then C_fill else fun _ _ _ => False
theorem ct_sbegin_fill {as : List ZV} {h : ZH} {post : Option ZV → ZH → Prop} : ct_sbegin 223 as h post = C_fill as h post := rfl
theorem c_sbegin {E : ZE} {d : Nat} (hd : 2 ≤ d) : zMet E d mX7_begin C_sbegin := by
  refine zmet_of (o := 7) (ini := false) (CT := ct_sbegin) gd_X7_begin rfl (fun h => by cases h) (by omega) ?_ ?_
  · intro n as h post hh
    unfold ct_sbegin at hh
    by_cases c : n = 223
    · subst c; exact ⟨gd_J7_fill_53178, 1, by omega, c_fill (by omega)⟩
    rw [if_neg c] at hh
    exact hh.elim
  intro as h post hC
  match as, hC with
  | [.inr (.inr (.inl q)), .inl b, .inl n], hC =>
    refine ⟨Nat.le_of_ble_eq_true rfl, fun X hX => bs_X7_begin_0 hX ?_⟩
    obtain ⟨G, M⟩ := h
    obtain ⟨hG, hC⟩ := hC
    dsimp only at hG
    subst hG
    simp only [B_sbegin] at hC
    show bk_X7_begin_0 E ct_sbegin X _ [some (.inr (.inr (.inl q))), some (.inl b), some (.inl n)] [] (zG, M) (0, 0)
    obtain ⟨hb, hC⟩ := hC
    simp only [bk_X7_begin_0, k_X7_begin_0, ↓e_rk1, ↓e_rk0, ↓e_sk0, ↓e_sks, ↓e_ldi0, ↓e_ldis, ↓e_ldl0, ↓e_ldls, ↓e_lda0, ↓e_ldas, ↓e_ok0, ↓e_okss, ↓e_ok1i, ↓e_ok1r, ↓e_ok1n, ↓e_sti, ↓e_sta, ↓e_1, ↓e_2, ↓e_l1, ↓e_l2, ↓e_li, ↓e_sw0, ↓e_sws, ↓e_ceq, ↓e_cne, ↓e_clt, ↓e_cge, ↓e_cgt, ↓e_cle, ↓e_nil, ↓e_cons, ↓e_iconst, ↓e_bipush, ↓e_sipush, ↓e_ldc, ↓e_ldcw, ↓e_ldc2, ↓e_lconst, ↓e_iloadn, ↓e_iload, ↓e_lloadn, ↓e_lload, ↓e_aloadn, ↓e_aload, ↓e_istoren, ↓e_istore, ↓e_astoren, ↓e_astore, ↓e_add, ↓e_iinc, ↓e_iadd, ↓e_isub, ↓e_imul, ↓e_iand, ↓e_ior, ↓e_ixor, ↓e_ishl, ↓e_iushr, ↓e_idiv, ↓e_irem, ↓e_ineg, ↓e_i2l, ↓e_i2b, ↓e_i2s, ↓e_l2i, ↓e_land, ↓e_lor, ↓e_lshl, ↓e_lshr, ↓e_lushr, ↓e_lcmp, ↓e_dupi, ↓e_dupr, ↓e_popi, ↓e_dup2, ↓e_goto, ↓e_if, ↓e_icmp, ↓e_tsw, ↓e_lsw, ↓e_getf, ↓e_putf, ↓e_gets, ↓e_iald, ↓e_cald, ↓e_iast, ↓e_aald, ↓e_aast, ↓e_len, ↓e_copy, ↓e_abs, ↓e_max, ↓e_min, ↓e_iret, ↓e_aret, ↓e_vret, ↓e_is0, ↓e_is1, ↓e_is2, ↓e_is3, ↓e_is4, ↓e_iv1, ↓e_iv2, ↓e_iv3, ↓e_iv4, ↓e_iv5, ↓e_iv6, ↓rt_X7_begin, ↓reduceIte, Nat.reduceAdd, Nat.reduceEqDiff, ↓zcl0, ↓zclv, List.map_nil, List.sum_nil, List.map_cons, List.sum_cons, zcat, true_and, and_true, Nat.reduceLeDiff, Nat.reduceAdd, eq_self, forall_const, e_ok0, e_okss, e_ok1i, e_ok1r, e_ok1n, zl_0, Int.reduceToNat, Int.reduceAdd, Int.reduceMul, Int.reduceSub, Int.reduceNeg, Int.reduceLT, Int.reduceLE, Int.reduceEq, not_false_eq_true, not_true_eq_false, false_implies, true_implies, implies_true, Int.reduceDiv, Int.reduceMod, zr8_zr, zr_zbo, z01_zbo, z01_0, z01_1, zbo_eq0, zup_eq, zup_o, zup_k, ne_eq, ↓ct_sbegin_fill, ↓r_fill, ↓B_fill, ↓vS hb, ↓gS_0 hb, ↓gS_1 hb, ↓gS_2 hb, ↓pS_1 hb, ↓pS_2 hb, ↓lS_1 hb, ↓sS_1 hb]
    refine ⟨40, aS_1 hb, by omega, fun M2 e2 f2 => hC M2 ?_ ?_ (fun k hk => ?_) (fun x p p2 => by rw [f2 x p2, zup_ne _ p, zup_ne _ p])⟩
    · rw [f2 q (by omega), zup_k (by decide), zup_eq]
    · rw [f2 q (by omega), zup_eq]
    · rw [e2]
      dsimp only
      rw [if_pos hk]
def B_swrite (q : Nat) (i : Int) (v : Int) (M : Nat → Nat → Int) (post : Option ZV → (Nat → Nat → Int) → Prop) : Prop := shtb q ∧ (0 ≤ i ∧ i < 40) ∧ (M q 1 = 8 ∨ M q 1 = 16 ∨ M q 1 = 32) ∧ post none (zup M (q + 1) i.toNat (wrv (M q 1) v))
def C_swrite : ZC := fun as h post => match as with
  | [.inr (.inr (.inl q)), .inl i, .inl v] => h.1 = zG ∧ B_swrite q i v h.2 (fun v M => post v (zG, M))
  | _ => False
theorem r_swrite {q : Nat} {i : Int} {v : Int} {M : Nat → Nat → Int} {post : Option ZV → ZH → Prop} : C_swrite [.inr (.inr (.inl q)), .inl i, .inl v] (zG, M) post = B_swrite q i v M (fun v M => post v (zG, M)) := by show (zG = zG ∧ _) = _; simp
def ct_swrite : Nat → ZC := fun n => fun _ _ _ => False
theorem c_swrite {E : ZE} {d : Nat} (hd : 1 ≤ d) : zMet E d mX7_write C_swrite := by
  refine zmet_of (o := 7) (ini := false) (CT := ct_swrite) gd_X7_write rfl (fun h => by cases h) (by omega) ?_ ?_
  · intro n as h post hh
    unfold ct_swrite at hh
    exact hh.elim
  intro as h post hC
  match as, hC with
  | [.inr (.inr (.inl q)), .inl i, .inl v], hC =>
    refine ⟨Nat.le_of_ble_eq_true rfl, fun X hX => bs_X7_write_0 hX ?_⟩
    obtain ⟨G, M⟩ := h
    obtain ⟨hG, hC⟩ := hC
    dsimp only at hG
    subst hG
    simp only [B_swrite] at hC
    show bk_X7_write_0 E ct_swrite X _ [some (.inr (.inr (.inl q))), some (.inl i), some (.inl v)] [] (zG, M) (0, 0)
    obtain ⟨hb, hi, hbits, hC⟩ := hC
    have zi : zr i = i := zr_of (by omega) (by omega)
    have fin : ∀ w, w = wrv (M q 1) v → post none (zG, zup M (q + 1) i.toNat w) := fun w hw => by rw [hw]; exact hC
    have z8 : zr 8 = 8 := rfl
    have z16 : zr 16 = 16 := rfl
    rcases hbits with e | e | e
    · rw [e] at fin
      simp only [bk_X7_write_0, k_X7_write_0, bk_X7_write_18, k_X7_write_18, bk_X7_write_28, k_X7_write_28, ↓e_rk1, ↓e_rk0, ↓e_sk0, ↓e_sks, ↓e_ldi0, ↓e_ldis, ↓e_ldl0, ↓e_ldls, ↓e_lda0, ↓e_ldas, ↓e_ok0, ↓e_okss, ↓e_ok1i, ↓e_ok1r, ↓e_ok1n, ↓e_sti, ↓e_sta, ↓e_1, ↓e_2, ↓e_l1, ↓e_l2, ↓e_li, ↓e_sw0, ↓e_sws, ↓e_ceq, ↓e_cne, ↓e_clt, ↓e_cge, ↓e_cgt, ↓e_cle, ↓e_nil, ↓e_cons, ↓e_iconst, ↓e_bipush, ↓e_sipush, ↓e_ldc, ↓e_ldcw, ↓e_ldc2, ↓e_lconst, ↓e_iloadn, ↓e_iload, ↓e_lloadn, ↓e_lload, ↓e_aloadn, ↓e_aload, ↓e_istoren, ↓e_istore, ↓e_astoren, ↓e_astore, ↓e_add, ↓e_iinc, ↓e_iadd, ↓e_isub, ↓e_imul, ↓e_iand, ↓e_ior, ↓e_ixor, ↓e_ishl, ↓e_iushr, ↓e_idiv, ↓e_irem, ↓e_ineg, ↓e_i2l, ↓e_i2b, ↓e_i2s, ↓e_l2i, ↓e_land, ↓e_lor, ↓e_lshl, ↓e_lshr, ↓e_lushr, ↓e_lcmp, ↓e_dupi, ↓e_dupr, ↓e_popi, ↓e_dup2, ↓e_goto, ↓e_if, ↓e_icmp, ↓e_tsw, ↓e_lsw, ↓e_getf, ↓e_putf, ↓e_gets, ↓e_iald, ↓e_cald, ↓e_iast, ↓e_aald, ↓e_aast, ↓e_len, ↓e_copy, ↓e_abs, ↓e_max, ↓e_min, ↓e_iret, ↓e_aret, ↓e_vret, ↓e_is0, ↓e_is1, ↓e_is2, ↓e_is3, ↓e_is4, ↓e_iv1, ↓e_iv2, ↓e_iv3, ↓e_iv4, ↓e_iv5, ↓e_iv6, ↓rt_X7_write, ↓reduceIte, Nat.reduceAdd, Nat.reduceEqDiff, ↓zcl0, ↓zclv, List.map_nil, List.sum_nil, List.map_cons, List.sum_cons, zcat, true_and, and_true, Nat.reduceLeDiff, Nat.reduceAdd, eq_self, forall_const, e_ok0, e_okss, e_ok1i, e_ok1r, e_ok1n, zl_1, zl_32, Int.reduceToNat, Int.reduceAdd, Int.reduceMul, Int.reduceSub, Int.reduceNeg, Int.reduceLT, Int.reduceLE, Int.reduceEq, not_false_eq_true, not_true_eq_false, false_implies, true_implies, implies_true, Int.reduceDiv, Int.reduceMod, zr8_zr, zr_zbo, z01_zbo, z01_0, z01_1, zbo_eq0, zup_eq, zup_o, zup_k, ne_eq, ↓vS hb, ↓gS_0 hb, ↓gS_1 hb, ↓gS_2 hb, ↓pS_1 hb, ↓pS_2 hb, ↓lS_1 hb, ↓sS_1 hb, e, zi, z8, zand_8]
      exact ⟨by omega, by omega, fin _ rfl⟩
    · rw [e] at fin
      simp only [bk_X7_write_0, k_X7_write_0, bk_X7_write_18, k_X7_write_18, bk_X7_write_28, k_X7_write_28, ↓e_rk1, ↓e_rk0, ↓e_sk0, ↓e_sks, ↓e_ldi0, ↓e_ldis, ↓e_ldl0, ↓e_ldls, ↓e_lda0, ↓e_ldas, ↓e_ok0, ↓e_okss, ↓e_ok1i, ↓e_ok1r, ↓e_ok1n, ↓e_sti, ↓e_sta, ↓e_1, ↓e_2, ↓e_l1, ↓e_l2, ↓e_li, ↓e_sw0, ↓e_sws, ↓e_ceq, ↓e_cne, ↓e_clt, ↓e_cge, ↓e_cgt, ↓e_cle, ↓e_nil, ↓e_cons, ↓e_iconst, ↓e_bipush, ↓e_sipush, ↓e_ldc, ↓e_ldcw, ↓e_ldc2, ↓e_lconst, ↓e_iloadn, ↓e_iload, ↓e_lloadn, ↓e_lload, ↓e_aloadn, ↓e_aload, ↓e_istoren, ↓e_istore, ↓e_astoren, ↓e_astore, ↓e_add, ↓e_iinc, ↓e_iadd, ↓e_isub, ↓e_imul, ↓e_iand, ↓e_ior, ↓e_ixor, ↓e_ishl, ↓e_iushr, ↓e_idiv, ↓e_irem, ↓e_ineg, ↓e_i2l, ↓e_i2b, ↓e_i2s, ↓e_l2i, ↓e_land, ↓e_lor, ↓e_lshl, ↓e_lshr, ↓e_lushr, ↓e_lcmp, ↓e_dupi, ↓e_dupr, ↓e_popi, ↓e_dup2, ↓e_goto, ↓e_if, ↓e_icmp, ↓e_tsw, ↓e_lsw, ↓e_getf, ↓e_putf, ↓e_gets, ↓e_iald, ↓e_cald, ↓e_iast, ↓e_aald, ↓e_aast, ↓e_len, ↓e_copy, ↓e_abs, ↓e_max, ↓e_min, ↓e_iret, ↓e_aret, ↓e_vret, ↓e_is0, ↓e_is1, ↓e_is2, ↓e_is3, ↓e_is4, ↓e_iv1, ↓e_iv2, ↓e_iv3, ↓e_iv4, ↓e_iv5, ↓e_iv6, ↓rt_X7_write, ↓reduceIte, Nat.reduceAdd, Nat.reduceEqDiff, ↓zcl0, ↓zclv, List.map_nil, List.sum_nil, List.map_cons, List.sum_cons, zcat, true_and, and_true, Nat.reduceLeDiff, Nat.reduceAdd, eq_self, forall_const, e_ok0, e_okss, e_ok1i, e_ok1r, e_ok1n, zl_1, zl_32, Int.reduceToNat, Int.reduceAdd, Int.reduceMul, Int.reduceSub, Int.reduceNeg, Int.reduceLT, Int.reduceLE, Int.reduceEq, not_false_eq_true, not_true_eq_false, false_implies, true_implies, implies_true, Int.reduceDiv, Int.reduceMod, zr8_zr, zr_zbo, z01_zbo, z01_0, z01_1, zbo_eq0, zup_eq, zup_o, zup_k, ne_eq, ↓vS hb, ↓gS_0 hb, ↓gS_1 hb, ↓gS_2 hb, ↓pS_1 hb, ↓pS_2 hb, ↓lS_1 hb, ↓sS_1 hb, e, zi, z16, zand_16]
      exact ⟨by omega, by omega, fin _ rfl⟩
    · rw [e] at fin
      simp only [bk_X7_write_0, k_X7_write_0, bk_X7_write_18, k_X7_write_18, bk_X7_write_28, k_X7_write_28, ↓e_rk1, ↓e_rk0, ↓e_sk0, ↓e_sks, ↓e_ldi0, ↓e_ldis, ↓e_ldl0, ↓e_ldls, ↓e_lda0, ↓e_ldas, ↓e_ok0, ↓e_okss, ↓e_ok1i, ↓e_ok1r, ↓e_ok1n, ↓e_sti, ↓e_sta, ↓e_1, ↓e_2, ↓e_l1, ↓e_l2, ↓e_li, ↓e_sw0, ↓e_sws, ↓e_ceq, ↓e_cne, ↓e_clt, ↓e_cge, ↓e_cgt, ↓e_cle, ↓e_nil, ↓e_cons, ↓e_iconst, ↓e_bipush, ↓e_sipush, ↓e_ldc, ↓e_ldcw, ↓e_ldc2, ↓e_lconst, ↓e_iloadn, ↓e_iload, ↓e_lloadn, ↓e_lload, ↓e_aloadn, ↓e_aload, ↓e_istoren, ↓e_istore, ↓e_astoren, ↓e_astore, ↓e_add, ↓e_iinc, ↓e_iadd, ↓e_isub, ↓e_imul, ↓e_iand, ↓e_ior, ↓e_ixor, ↓e_ishl, ↓e_iushr, ↓e_idiv, ↓e_irem, ↓e_ineg, ↓e_i2l, ↓e_i2b, ↓e_i2s, ↓e_l2i, ↓e_land, ↓e_lor, ↓e_lshl, ↓e_lshr, ↓e_lushr, ↓e_lcmp, ↓e_dupi, ↓e_dupr, ↓e_popi, ↓e_dup2, ↓e_goto, ↓e_if, ↓e_icmp, ↓e_tsw, ↓e_lsw, ↓e_getf, ↓e_putf, ↓e_gets, ↓e_iald, ↓e_cald, ↓e_iast, ↓e_aald, ↓e_aast, ↓e_len, ↓e_copy, ↓e_abs, ↓e_max, ↓e_min, ↓e_iret, ↓e_aret, ↓e_vret, ↓e_is0, ↓e_is1, ↓e_is2, ↓e_is3, ↓e_is4, ↓e_iv1, ↓e_iv2, ↓e_iv3, ↓e_iv4, ↓e_iv5, ↓e_iv6, ↓rt_X7_write, ↓reduceIte, Nat.reduceAdd, Nat.reduceEqDiff, ↓zcl0, ↓zclv, List.map_nil, List.sum_nil, List.map_cons, List.sum_cons, zcat, true_and, and_true, Nat.reduceLeDiff, Nat.reduceAdd, eq_self, forall_const, e_ok0, e_okss, e_ok1i, e_ok1r, e_ok1n, zl_1, zl_32, Int.reduceToNat, Int.reduceAdd, Int.reduceMul, Int.reduceSub, Int.reduceNeg, Int.reduceLT, Int.reduceLE, Int.reduceEq, not_false_eq_true, not_true_eq_false, false_implies, true_implies, implies_true, Int.reduceDiv, Int.reduceMod, zr8_zr, zr_zbo, z01_zbo, z01_0, z01_1, zbo_eq0, zup_eq, zup_o, zup_k, ne_eq, ↓vS hb, ↓gS_0 hb, ↓gS_1 hb, ↓gS_2 hb, ↓pS_1 hb, ↓pS_2 hb, ↓lS_1 hb, ↓sS_1 hb, e, zi]
      exact ⟨by omega, by omega, fin _ rfl⟩
def B_sholds (q : Nat) (i : Int) (n : Int) (M : Nat → Nat → Int) (post : Option ZV → (Nat → Nat → Int) → Prop) : Prop := shtb q ∧ rg i ∧ rg n ∧ (0 ≤ M q 2 ∧ M q 2 ≤ 40) ∧ post (some (.inl (zbo ((0 ≤ n ∧ 0 ≤ i) ∧ n ≤ M q 2 - i)))) M
def C_sholds : ZC := fun as h post => match as with
  | [.inr (.inr (.inl q)), .inl i, .inl n] => h.1 = zG ∧ B_sholds q i n h.2 (fun v M => post v (zG, M))
  | _ => False
theorem r_sholds {q : Nat} {i : Int} {n : Int} {M : Nat → Nat → Int} {post : Option ZV → ZH → Prop} : C_sholds [.inr (.inr (.inl q)), .inl i, .inl n] (zG, M) post = B_sholds q i n M (fun v M => post v (zG, M)) := by show (zG = zG ∧ _) = _; simp
def ct_sholds : Nat → ZC := fun n => fun _ _ _ => False
theorem c_sholds {E : ZE} {d : Nat} (hd : 1 ≤ d) : zMet E d mX7_holds C_sholds := by
  refine zmet_of (o := 7) (ini := false) (CT := ct_sholds) gd_X7_holds rfl (fun h => by cases h) (by omega) ?_ ?_
  · intro n as h post hh
    unfold ct_sholds at hh
    exact hh.elim
  intro as h post hC
  match as, hC with
  | [.inr (.inr (.inl q)), .inl i, .inl n], hC =>
    refine ⟨Nat.le_of_ble_eq_true rfl, fun X hX => bs_X7_holds_0 hX ?_⟩
    obtain ⟨G, M⟩ := h
    obtain ⟨hG, hC⟩ := hC
    dsimp only at hG
    subst hG
    simp only [B_sholds] at hC
    show bk_X7_holds_0 E ct_sholds X _ [some (.inr (.inr (.inl q))), some (.inl i), some (.inl n)] [] (zG, M) (0, 0)
    obtain ⟨hb, h1, h2, hs, hC⟩ := hC
    have z2 : zr (M q 2) = M q 2 := zr_of (by omega) (by omega)
    have i1 := h1.1
    have i2 := h1.2
    have n1 := h2.1
    have n2 := h2.2
    by_cases hn : 0 ≤ n
    · have zs : zr (M q 2 - n) = M q 2 - n := zr_of (by omega) (by omega)
      simp only [bk_X7_holds_0, k_X7_holds_0, bk_X7_holds_30, k_X7_holds_30, bk_X7_holds_31, k_X7_holds_31, ↓e_rk1, ↓e_rk0, ↓e_sk0, ↓e_sks, ↓e_ldi0, ↓e_ldis, ↓e_ldl0, ↓e_ldls, ↓e_lda0, ↓e_ldas, ↓e_ok0, ↓e_okss, ↓e_ok1i, ↓e_ok1r, ↓e_ok1n, ↓e_sti, ↓e_sta, ↓e_1, ↓e_2, ↓e_l1, ↓e_l2, ↓e_li, ↓e_sw0, ↓e_sws, ↓e_ceq, ↓e_cne, ↓e_clt, ↓e_cge, ↓e_cgt, ↓e_cle, ↓e_nil, ↓e_cons, ↓e_iconst, ↓e_bipush, ↓e_sipush, ↓e_ldc, ↓e_ldcw, ↓e_ldc2, ↓e_lconst, ↓e_iloadn, ↓e_iload, ↓e_lloadn, ↓e_lload, ↓e_aloadn, ↓e_aload, ↓e_istoren, ↓e_istore, ↓e_astoren, ↓e_astore, ↓e_add, ↓e_iinc, ↓e_iadd, ↓e_isub, ↓e_imul, ↓e_iand, ↓e_ior, ↓e_ixor, ↓e_ishl, ↓e_iushr, ↓e_idiv, ↓e_irem, ↓e_ineg, ↓e_i2l, ↓e_i2b, ↓e_i2s, ↓e_l2i, ↓e_land, ↓e_lor, ↓e_lshl, ↓e_lshr, ↓e_lushr, ↓e_lcmp, ↓e_dupi, ↓e_dupr, ↓e_popi, ↓e_dup2, ↓e_goto, ↓e_if, ↓e_icmp, ↓e_tsw, ↓e_lsw, ↓e_getf, ↓e_putf, ↓e_gets, ↓e_iald, ↓e_cald, ↓e_iast, ↓e_aald, ↓e_aast, ↓e_len, ↓e_copy, ↓e_abs, ↓e_max, ↓e_min, ↓e_iret, ↓e_aret, ↓e_vret, ↓e_is0, ↓e_is1, ↓e_is2, ↓e_is3, ↓e_is4, ↓e_iv1, ↓e_iv2, ↓e_iv3, ↓e_iv4, ↓e_iv5, ↓e_iv6, ↓rt_X7_holds, ↓reduceIte, Nat.reduceAdd, Nat.reduceEqDiff, ↓zcl0, ↓zclv, List.map_nil, List.sum_nil, List.map_cons, List.sum_cons, zcat, true_and, and_true, Nat.reduceLeDiff, Nat.reduceAdd, eq_self, forall_const, e_ok0, e_okss, e_ok1i, e_ok1r, e_ok1n, zl_0, zl_1, Int.reduceToNat, Int.reduceAdd, Int.reduceMul, Int.reduceSub, Int.reduceNeg, Int.reduceLT, Int.reduceLE, Int.reduceEq, not_false_eq_true, not_true_eq_false, false_implies, true_implies, implies_true, Int.reduceDiv, Int.reduceMod, zr8_zr, zr_zbo, z01_zbo, z01_0, z01_1, zbo_eq0, zup_eq, zup_o, zup_k, ne_eq, ↓vS hb, ↓gS_0 hb, ↓gS_1 hb, ↓gS_2 hb, ↓pS_1 hb, ↓pS_2 hb, ↓lS_1 hb, ↓sS_1 hb, z2, zs, zr_rg, h1, zr_rg, h2]
      repeat' (first | assumption | apply And.intro | intro _)
      all_goals first | omega | exact zpost hC (zbo_t (by omega)) | exact zpost hC (zbo_f (by omega))
    · have hn' : (n < 0) = True := eq_true (by omega)
      simp only [bk_X7_holds_0, k_X7_holds_0, bk_X7_holds_30, k_X7_holds_30, bk_X7_holds_31, k_X7_holds_31, ↓e_rk1, ↓e_rk0, ↓e_sk0, ↓e_sks, ↓e_ldi0, ↓e_ldis, ↓e_ldl0, ↓e_ldls, ↓e_lda0, ↓e_ldas, ↓e_ok0, ↓e_okss, ↓e_ok1i, ↓e_ok1r, ↓e_ok1n, ↓e_sti, ↓e_sta, ↓e_1, ↓e_2, ↓e_l1, ↓e_l2, ↓e_li, ↓e_sw0, ↓e_sws, ↓e_ceq, ↓e_cne, ↓e_clt, ↓e_cge, ↓e_cgt, ↓e_cle, ↓e_nil, ↓e_cons, ↓e_iconst, ↓e_bipush, ↓e_sipush, ↓e_ldc, ↓e_ldcw, ↓e_ldc2, ↓e_lconst, ↓e_iloadn, ↓e_iload, ↓e_lloadn, ↓e_lload, ↓e_aloadn, ↓e_aload, ↓e_istoren, ↓e_istore, ↓e_astoren, ↓e_astore, ↓e_add, ↓e_iinc, ↓e_iadd, ↓e_isub, ↓e_imul, ↓e_iand, ↓e_ior, ↓e_ixor, ↓e_ishl, ↓e_iushr, ↓e_idiv, ↓e_irem, ↓e_ineg, ↓e_i2l, ↓e_i2b, ↓e_i2s, ↓e_l2i, ↓e_land, ↓e_lor, ↓e_lshl, ↓e_lshr, ↓e_lushr, ↓e_lcmp, ↓e_dupi, ↓e_dupr, ↓e_popi, ↓e_dup2, ↓e_goto, ↓e_if, ↓e_icmp, ↓e_tsw, ↓e_lsw, ↓e_getf, ↓e_putf, ↓e_gets, ↓e_iald, ↓e_cald, ↓e_iast, ↓e_aald, ↓e_aast, ↓e_len, ↓e_copy, ↓e_abs, ↓e_max, ↓e_min, ↓e_iret, ↓e_aret, ↓e_vret, ↓e_is0, ↓e_is1, ↓e_is2, ↓e_is3, ↓e_is4, ↓e_iv1, ↓e_iv2, ↓e_iv3, ↓e_iv4, ↓e_iv5, ↓e_iv6, ↓rt_X7_holds, ↓reduceIte, Nat.reduceAdd, Nat.reduceEqDiff, ↓zcl0, ↓zclv, List.map_nil, List.sum_nil, List.map_cons, List.sum_cons, zcat, true_and, and_true, Nat.reduceLeDiff, Nat.reduceAdd, eq_self, forall_const, e_ok0, e_okss, e_ok1i, e_ok1r, e_ok1n, zl_0, zl_1, Int.reduceToNat, Int.reduceAdd, Int.reduceMul, Int.reduceSub, Int.reduceNeg, Int.reduceLT, Int.reduceLE, Int.reduceEq, not_false_eq_true, not_true_eq_false, false_implies, true_implies, implies_true, Int.reduceDiv, Int.reduceMod, zr8_zr, zr_zbo, z01_zbo, z01_0, z01_1, zbo_eq0, zup_eq, zup_o, zup_k, ne_eq, ↓vS hb, ↓gS_0 hb, ↓gS_1 hb, ↓gS_2 hb, ↓pS_1 hb, ↓pS_2 hb, ↓lS_1 hb, ↓sS_1 hb, z2, zr_rg, h1, zr_rg, h2, hn']
      repeat' (first | assumption | apply And.intro | intro _)
      all_goals first | omega | exact zpost hC (zbo_t (by omega)) | exact zpost hC (zbo_f (by omega))
