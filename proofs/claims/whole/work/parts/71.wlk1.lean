/-! THE CLASS: walks: hand, join -/
def k_X9_isDug_0 : List ZI := [(.iload_n 1, 1, (0, [1], [])), (.iconst (-1), 1, (0, [], [])), (.if_icmp .eq 20, 3, (0, [22], [])), (.aload_n 0, 1, (0, [0], [])), (.getfield 21, 3, (0, [9, 0], [])), (.getfield 51, 3, (0, [2, 1], [])), (.iload_n 1, 1, (0, [1], [])), (.iaload, 1, (0, [], [])), (.iconst 1, 1, (0, [], [])), (.if_icmp .ne 7, 3, (0, [22], [])), (.iconst 1, 1, (0, [], [])), (.goto 4, 3, (0, [23], []))]
theorem ok_X9_isDug_0 : zOK cX9_isDug 9 false 2 k_X9_isDug_0 0 = true := zOK_by (by decide +kernel)
def k_X9_isDug_22 : List ZI := [(.iconst 0, 1, (0, [], []))]
theorem ok_X9_isDug_22 : zOK cX9_isDug 9 false 2 k_X9_isDug_22 22 = true := zOK_by (by decide +kernel)
def k_X9_isDug_23 : List ZI := [(.ireturn, 1, (0, [], []))]
theorem ok_X9_isDug_23 : zOK cX9_isDug 9 false 2 k_X9_isDug_23 23 = true := zOK_by (by decide +kernel)
theorem rt_X9_isDug {g : Nat} {post : Option ZV → ZH → Prop} {h : ZH} {b : ZB2} {z : Int} : zRt mX9_isDug g post (some (.inl z)) h b = (post (some (.inl z)) h ∧ h.1.length = g ∧ z01 z) := rfl
def bk_X9_isDug_23 (E : ZE) (CT : Nat → ZC) (X : ZK) (Rt : ZR) (ls : ZL) (st : List ZV) (h : ZH) (b : ZB2) : Prop := zB E CT k_X9_isDug_23 23 ls st h b (fun t ls st h b => X t ls st h b) Rt
theorem bs_X9_isDug_23 {E : ZE} {CT : Nat → ZC} {X : ZK} {Rt : ZR} {ls : ZL} {st : List ZV} {h : ZH} {b : ZB2} (hX : zCl E mX9_isDug 9 false CT Rt X) (q : bk_X9_isDug_23 E CT X Rt ls st h b) : X 23 ls st h b := by
  refine hX k_X9_isDug_23 23 ok_X9_isDug_23 _ ?_ ls st h b q
  exact fun t ls st h b q => q
def bk_X9_isDug_22 (E : ZE) (CT : Nat → ZC) (X : ZK) (Rt : ZR) (ls : ZL) (st : List ZV) (h : ZH) (b : ZB2) : Prop := zB E CT k_X9_isDug_22 22 ls st h b (fun t ls st h b => if t = 23 then bk_X9_isDug_23 E CT X Rt ls st h b else X t ls st h b) Rt
theorem bs_X9_isDug_22 {E : ZE} {CT : Nat → ZC} {X : ZK} {Rt : ZR} {ls : ZL} {st : List ZV} {h : ZH} {b : ZB2} (hX : zCl E mX9_isDug 9 false CT Rt X) (q : bk_X9_isDug_22 E CT X Rt ls st h b) : X 22 ls st h b := by
  refine hX k_X9_isDug_22 22 ok_X9_isDug_22 _ ?_ ls st h b q
  exact by
    intro t ls st h b q
    by_cases c : t = 23
    · subst c; rw [if_pos rfl] at q; exact bs_X9_isDug_23 hX q
    rw [if_neg c] at q
    exact q
def bk_X9_isDug_0 (E : ZE) (CT : Nat → ZC) (X : ZK) (Rt : ZR) (ls : ZL) (st : List ZV) (h : ZH) (b : ZB2) : Prop := zB E CT k_X9_isDug_0 0 ls st h b (fun t ls st h b => if t = 22 then bk_X9_isDug_22 E CT X Rt ls st h b else if t = 23 then bk_X9_isDug_23 E CT X Rt ls st h b else X t ls st h b) Rt
theorem bs_X9_isDug_0 {E : ZE} {CT : Nat → ZC} {X : ZK} {Rt : ZR} {ls : ZL} {st : List ZV} {h : ZH} {b : ZB2} (hX : zCl E mX9_isDug 9 false CT Rt X) (q : bk_X9_isDug_0 E CT X Rt ls st h b) : X 0 ls st h b := by
  refine hX k_X9_isDug_0 0 ok_X9_isDug_0 _ ?_ ls st h b q
  exact by
    intro t ls st h b q
    by_cases c : t = 22
    · subst c; rw [if_pos rfl] at q; exact bs_X9_isDug_22 hX q
    rw [if_neg c] at q
    by_cases c : t = 23
    · subst c; rw [if_pos rfl] at q; exact bs_X9_isDug_23 hX q
    rw [if_neg c] at q
    exact q
-- X9_isDug: cuts []
def k_X9_wayAlongLeft_0 : List ZI := [(.iconst 3, 1, (0, [], [])), (.istore_n 3, 1, (0, [3], []))]
theorem ok_X9_wayAlongLeft_0 : zOK cX9_wayAlongLeft 9 false 5 k_X9_wayAlongLeft_0 0 = true := zOK_by (by decide +kernel)
def k_X9_wayAlongLeft_2 : List ZI := [(.iload_n 3, 1, (0, [3], [])), (.bipush 6, 2, (0, [], [])), (.if_icmp .gt 32, 3, (0, [37], []))]
theorem ok_X9_wayAlongLeft_2 : zOK cX9_wayAlongLeft 9 false 5 k_X9_wayAlongLeft_2 2 = true := zOK_by (by decide +kernel)
def k_X9_wayAlongLeft_8 : List ZI := [(.iload_n 2, 1, (0, [2], [])), (.iload_n 3, 1, (0, [3], [])), (.iadd, 1, (0, [], [])), (.iconst 4, 1, (0, [], [])), (.irem, 1, (0, [], [])), (.istore 4, 2, (0, [4], []))]
theorem ok_X9_wayAlongLeft_8 : zOK cX9_wayAlongLeft 9 false 5 k_X9_wayAlongLeft_8 8 = true := zOK_by (by decide +kernel)
def k_X9_wayAlongLeft_15 : List ZI := [(.aload_n 0, 1, (0, [0], [])), (.iload_n 1, 1, (0, [1], [])), (.iload 4, 2, (0, [4], [])), (.invokestatic 40, 3, (0, [16, 2, 0, 2], [])), (.invokevirtual 61, 3, (0, [62, 2, 0, 9], [])), (.ifCond .eq 6, 3, (0, [31], [])), (.iload 4, 2, (0, [4], [])), (.ireturn, 1, (0, [], []))]
theorem ok_X9_wayAlongLeft_15 : zOK cX9_wayAlongLeft 9 false 5 k_X9_wayAlongLeft_15 15 = true := zOK_by (by decide +kernel)
def k_X9_wayAlongLeft_31 : List ZI := [(.iinc 3 1, 3, (0, [3], [])), (.goto (-32), 3, (0, [2], []))]
theorem ok_X9_wayAlongLeft_31 : zOK cX9_wayAlongLeft 9 false 5 k_X9_wayAlongLeft_31 31 = true := zOK_by (by decide +kernel)
def k_X9_wayAlongLeft_37 : List ZI := [(.iconst 4, 1, (0, [], [])), (.ireturn, 1, (0, [], []))]
theorem ok_X9_wayAlongLeft_37 : zOK cX9_wayAlongLeft 9 false 5 k_X9_wayAlongLeft_37 37 = true := zOK_by (by decide +kernel)
theorem rt_X9_wayAlongLeft {g : Nat} {post : Option ZV → ZH → Prop} {h : ZH} {b : ZB2} {z : Int} : zRt mX9_wayAlongLeft g post (some (.inl z)) h b = (post (some (.inl z)) h ∧ h.1.length = g) := by show (_ ∧ _ ∧ True) = _; simp
def bk_X9_wayAlongLeft_0 (E : ZE) (CT : Nat → ZC) (X : ZK) (Rt : ZR) (ls : ZL) (st : List ZV) (h : ZH) (b : ZB2) : Prop := zB E CT k_X9_wayAlongLeft_0 0 ls st h b (fun t ls st h b => X t ls st h b) Rt
theorem bs_X9_wayAlongLeft_0 {E : ZE} {CT : Nat → ZC} {X : ZK} {Rt : ZR} {ls : ZL} {st : List ZV} {h : ZH} {b : ZB2} (hX : zCl E mX9_wayAlongLeft 9 false CT Rt X) (q : bk_X9_wayAlongLeft_0 E CT X Rt ls st h b) : X 0 ls st h b := by
  refine hX k_X9_wayAlongLeft_0 0 ok_X9_wayAlongLeft_0 _ ?_ ls st h b q
  exact fun t ls st h b q => q
def bk_X9_wayAlongLeft_2 (E : ZE) (CT : Nat → ZC) (X : ZK) (Rt : ZR) (ls : ZL) (st : List ZV) (h : ZH) (b : ZB2) : Prop := zB E CT k_X9_wayAlongLeft_2 2 ls st h b (fun t ls st h b => X t ls st h b) Rt
theorem bs_X9_wayAlongLeft_2 {E : ZE} {CT : Nat → ZC} {X : ZK} {Rt : ZR} {ls : ZL} {st : List ZV} {h : ZH} {b : ZB2} (hX : zCl E mX9_wayAlongLeft 9 false CT Rt X) (q : bk_X9_wayAlongLeft_2 E CT X Rt ls st h b) : X 2 ls st h b := by
  refine hX k_X9_wayAlongLeft_2 2 ok_X9_wayAlongLeft_2 _ ?_ ls st h b q
  exact fun t ls st h b q => q
def bk_X9_wayAlongLeft_8 (E : ZE) (CT : Nat → ZC) (X : ZK) (Rt : ZR) (ls : ZL) (st : List ZV) (h : ZH) (b : ZB2) : Prop := zB E CT k_X9_wayAlongLeft_8 8 ls st h b (fun t ls st h b => X t ls st h b) Rt
theorem bs_X9_wayAlongLeft_8 {E : ZE} {CT : Nat → ZC} {X : ZK} {Rt : ZR} {ls : ZL} {st : List ZV} {h : ZH} {b : ZB2} (hX : zCl E mX9_wayAlongLeft 9 false CT Rt X) (q : bk_X9_wayAlongLeft_8 E CT X Rt ls st h b) : X 8 ls st h b := by
  refine hX k_X9_wayAlongLeft_8 8 ok_X9_wayAlongLeft_8 _ ?_ ls st h b q
  exact fun t ls st h b q => q
def bk_X9_wayAlongLeft_15 (E : ZE) (CT : Nat → ZC) (X : ZK) (Rt : ZR) (ls : ZL) (st : List ZV) (h : ZH) (b : ZB2) : Prop := zB E CT k_X9_wayAlongLeft_15 15 ls st h b (fun t ls st h b => X t ls st h b) Rt
theorem bs_X9_wayAlongLeft_15 {E : ZE} {CT : Nat → ZC} {X : ZK} {Rt : ZR} {ls : ZL} {st : List ZV} {h : ZH} {b : ZB2} (hX : zCl E mX9_wayAlongLeft 9 false CT Rt X) (q : bk_X9_wayAlongLeft_15 E CT X Rt ls st h b) : X 15 ls st h b := by
  refine hX k_X9_wayAlongLeft_15 15 ok_X9_wayAlongLeft_15 _ ?_ ls st h b q
  exact fun t ls st h b q => q
def bk_X9_wayAlongLeft_31 (E : ZE) (CT : Nat → ZC) (X : ZK) (Rt : ZR) (ls : ZL) (st : List ZV) (h : ZH) (b : ZB2) : Prop := zB E CT k_X9_wayAlongLeft_31 31 ls st h b (fun t ls st h b => X t ls st h b) Rt
theorem bs_X9_wayAlongLeft_31 {E : ZE} {CT : Nat → ZC} {X : ZK} {Rt : ZR} {ls : ZL} {st : List ZV} {h : ZH} {b : ZB2} (hX : zCl E mX9_wayAlongLeft 9 false CT Rt X) (q : bk_X9_wayAlongLeft_31 E CT X Rt ls st h b) : X 31 ls st h b := by
  refine hX k_X9_wayAlongLeft_31 31 ok_X9_wayAlongLeft_31 _ ?_ ls st h b q
  exact fun t ls st h b q => q
def bk_X9_wayAlongLeft_37 (E : ZE) (CT : Nat → ZC) (X : ZK) (Rt : ZR) (ls : ZL) (st : List ZV) (h : ZH) (b : ZB2) : Prop := zB E CT k_X9_wayAlongLeft_37 37 ls st h b (fun t ls st h b => X t ls st h b) Rt
theorem bs_X9_wayAlongLeft_37 {E : ZE} {CT : Nat → ZC} {X : ZK} {Rt : ZR} {ls : ZL} {st : List ZV} {h : ZH} {b : ZB2} (hX : zCl E mX9_wayAlongLeft 9 false CT Rt X) (q : bk_X9_wayAlongLeft_37 E CT X Rt ls st h b) : X 37 ls st h b := by
  refine hX k_X9_wayAlongLeft_37 37 ok_X9_wayAlongLeft_37 _ ?_ ls st h b q
  exact fun t ls st h b q => q
-- X9_wayAlongLeft: cuts [2, 8, 15, 31, 37]
def k_X9_alongLeft_0 : List ZI := [(.iload_n 1, 1, (0, [1], [])), (.istore 4, 2, (0, [4], [])), (.iload_n 2, 1, (0, [2], [])), (.istore 5, 2, (0, [5], [])), (.iconst 0, 1, (0, [], [])), (.istore 6, 2, (0, [6], []))]
theorem ok_X9_alongLeft_0 : zOK cX9_alongLeft 9 false 8 k_X9_alongLeft_0 0 = true := zOK_by (by decide +kernel)
def k_X9_alongLeft_9 : List ZI := [(.iload 6, 2, (0, [6], [])), (.iload_n 3, 1, (0, [3], [])), (.if_icmp .ge 41, 3, (0, [53], []))]
theorem ok_X9_alongLeft_9 : zOK cX9_alongLeft 9 false 8 k_X9_alongLeft_9 9 = true := zOK_by (by decide +kernel)
def k_X9_alongLeft_15 : List ZI := [(.aload_n 0, 1, (0, [0], [])), (.iload 4, 2, (0, [4], [])), (.iload 5, 2, (0, [5], [])), (.invokevirtual 65, 3, (0, [64, 3, 0, 9], [])), (.istore 7, 2, (0, [7], []))]
theorem ok_X9_alongLeft_15 : zOK cX9_alongLeft 9 false 8 k_X9_alongLeft_15 15 = true := zOK_by (by decide +kernel)
def k_X9_alongLeft_25 : List ZI := [(.iload 7, 2, (0, [7], [])), (.iconst 4, 1, (0, [], [])), (.if_icmp .ne 6, 3, (0, [34], [])), (.goto 22, 3, (0, [53], []))]
theorem ok_X9_alongLeft_25 : zOK cX9_alongLeft 9 false 8 k_X9_alongLeft_25 25 = true := zOK_by (by decide +kernel)
def k_X9_alongLeft_34 : List ZI := [(.iload 7, 2, (0, [7], [])), (.istore 5, 2, (0, [5], [])), (.iload 4, 2, (0, [4], [])), (.iload 5, 2, (0, [5], [])), (.invokestatic 40, 3, (0, [16, 2, 0, 2], [])), (.istore 4, 2, (0, [4], [])), (.iinc 6 1, 3, (0, [6], [])), (.goto (-41), 3, (0, [9], []))]
theorem ok_X9_alongLeft_34 : zOK cX9_alongLeft 9 false 8 k_X9_alongLeft_34 34 = true := zOK_by (by decide +kernel)
def k_X9_alongLeft_53 : List ZI := [(.iload 4, 2, (0, [4], [])), (.ireturn, 1, (0, [], []))]
theorem ok_X9_alongLeft_53 : zOK cX9_alongLeft 9 false 8 k_X9_alongLeft_53 53 = true := zOK_by (by decide +kernel)
theorem rt_X9_alongLeft {g : Nat} {post : Option ZV → ZH → Prop} {h : ZH} {b : ZB2} {z : Int} : zRt mX9_alongLeft g post (some (.inl z)) h b = (post (some (.inl z)) h ∧ h.1.length = g) := by show (_ ∧ _ ∧ True) = _; simp
def bk_X9_alongLeft_0 (E : ZE) (CT : Nat → ZC) (X : ZK) (Rt : ZR) (ls : ZL) (st : List ZV) (h : ZH) (b : ZB2) : Prop := zB E CT k_X9_alongLeft_0 0 ls st h b (fun t ls st h b => X t ls st h b) Rt
theorem bs_X9_alongLeft_0 {E : ZE} {CT : Nat → ZC} {X : ZK} {Rt : ZR} {ls : ZL} {st : List ZV} {h : ZH} {b : ZB2} (hX : zCl E mX9_alongLeft 9 false CT Rt X) (q : bk_X9_alongLeft_0 E CT X Rt ls st h b) : X 0 ls st h b := by
  refine hX k_X9_alongLeft_0 0 ok_X9_alongLeft_0 _ ?_ ls st h b q
  exact fun t ls st h b q => q
def bk_X9_alongLeft_9 (E : ZE) (CT : Nat → ZC) (X : ZK) (Rt : ZR) (ls : ZL) (st : List ZV) (h : ZH) (b : ZB2) : Prop := zB E CT k_X9_alongLeft_9 9 ls st h b (fun t ls st h b => X t ls st h b) Rt
theorem bs_X9_alongLeft_9 {E : ZE} {CT : Nat → ZC} {X : ZK} {Rt : ZR} {ls : ZL} {st : List ZV} {h : ZH} {b : ZB2} (hX : zCl E mX9_alongLeft 9 false CT Rt X) (q : bk_X9_alongLeft_9 E CT X Rt ls st h b) : X 9 ls st h b := by
  refine hX k_X9_alongLeft_9 9 ok_X9_alongLeft_9 _ ?_ ls st h b q
  exact fun t ls st h b q => q
def bk_X9_alongLeft_15 (E : ZE) (CT : Nat → ZC) (X : ZK) (Rt : ZR) (ls : ZL) (st : List ZV) (h : ZH) (b : ZB2) : Prop := zB E CT k_X9_alongLeft_15 15 ls st h b (fun t ls st h b => X t ls st h b) Rt
theorem bs_X9_alongLeft_15 {E : ZE} {CT : Nat → ZC} {X : ZK} {Rt : ZR} {ls : ZL} {st : List ZV} {h : ZH} {b : ZB2} (hX : zCl E mX9_alongLeft 9 false CT Rt X) (q : bk_X9_alongLeft_15 E CT X Rt ls st h b) : X 15 ls st h b := by
  refine hX k_X9_alongLeft_15 15 ok_X9_alongLeft_15 _ ?_ ls st h b q
  exact fun t ls st h b q => q
def bk_X9_alongLeft_25 (E : ZE) (CT : Nat → ZC) (X : ZK) (Rt : ZR) (ls : ZL) (st : List ZV) (h : ZH) (b : ZB2) : Prop := zB E CT k_X9_alongLeft_25 25 ls st h b (fun t ls st h b => X t ls st h b) Rt
theorem bs_X9_alongLeft_25 {E : ZE} {CT : Nat → ZC} {X : ZK} {Rt : ZR} {ls : ZL} {st : List ZV} {h : ZH} {b : ZB2} (hX : zCl E mX9_alongLeft 9 false CT Rt X) (q : bk_X9_alongLeft_25 E CT X Rt ls st h b) : X 25 ls st h b := by
  refine hX k_X9_alongLeft_25 25 ok_X9_alongLeft_25 _ ?_ ls st h b q
  exact fun t ls st h b q => q
def bk_X9_alongLeft_34 (E : ZE) (CT : Nat → ZC) (X : ZK) (Rt : ZR) (ls : ZL) (st : List ZV) (h : ZH) (b : ZB2) : Prop := zB E CT k_X9_alongLeft_34 34 ls st h b (fun t ls st h b => X t ls st h b) Rt
theorem bs_X9_alongLeft_34 {E : ZE} {CT : Nat → ZC} {X : ZK} {Rt : ZR} {ls : ZL} {st : List ZV} {h : ZH} {b : ZB2} (hX : zCl E mX9_alongLeft 9 false CT Rt X) (q : bk_X9_alongLeft_34 E CT X Rt ls st h b) : X 34 ls st h b := by
  refine hX k_X9_alongLeft_34 34 ok_X9_alongLeft_34 _ ?_ ls st h b q
  exact fun t ls st h b q => q
def bk_X9_alongLeft_53 (E : ZE) (CT : Nat → ZC) (X : ZK) (Rt : ZR) (ls : ZL) (st : List ZV) (h : ZH) (b : ZB2) : Prop := zB E CT k_X9_alongLeft_53 53 ls st h b (fun t ls st h b => X t ls st h b) Rt
theorem bs_X9_alongLeft_53 {E : ZE} {CT : Nat → ZC} {X : ZK} {Rt : ZR} {ls : ZL} {st : List ZV} {h : ZH} {b : ZB2} (hX : zCl E mX9_alongLeft 9 false CT Rt X) (q : bk_X9_alongLeft_53 E CT X Rt ls st h b) : X 53 ls st h b := by
  refine hX k_X9_alongLeft_53 53 ok_X9_alongLeft_53 _ ?_ ls st h b q
  exact fun t ls st h b q => q
-- X9_alongLeft: cuts [9, 15, 25, 34, 53]
def k_X9_toll_0 : List ZI := [(.aload_n 0, 1, (0, [0], [])), (.getfield 21, 3, (0, [9, 0], [])), (.getfield 51, 3, (0, [2, 1], [])), (.iload_n 1, 1, (0, [1], [])), (.iaload, 1, (0, [], [])), (.iconst 1, 1, (0, [], [])), (.if_icmp .ne 7, 3, (0, [17], [])), (.iconst 0, 1, (0, [], [])), (.goto 12, 3, (0, [26], []))]
theorem ok_X9_toll_0 : zOK cX9_toll 9 false 2 k_X9_toll_0 0 = true := zOK_by (by decide +kernel)
def k_X9_toll_17 : List ZI := [(.aload_n 0, 1, (0, [0], [])), (.getfield 21, 3, (0, [9, 0], [])), (.getfield 54, 3, (0, [2, 0], [])), (.iload_n 1, 1, (0, [1], [])), (.iaload, 1, (0, [], []))]
theorem ok_X9_toll_17 : zOK cX9_toll 9 false 2 k_X9_toll_17 17 = true := zOK_by (by decide +kernel)
def k_X9_toll_26 : List ZI := [(.ireturn, 1, (0, [], []))]
theorem ok_X9_toll_26 : zOK cX9_toll 9 false 2 k_X9_toll_26 26 = true := zOK_by (by decide +kernel)
theorem rt_X9_toll {g : Nat} {post : Option ZV → ZH → Prop} {h : ZH} {b : ZB2} {z : Int} : zRt mX9_toll g post (some (.inl z)) h b = (post (some (.inl z)) h ∧ h.1.length = g) := by show (_ ∧ _ ∧ True) = _; simp
def bk_X9_toll_26 (E : ZE) (CT : Nat → ZC) (X : ZK) (Rt : ZR) (ls : ZL) (st : List ZV) (h : ZH) (b : ZB2) : Prop := zB E CT k_X9_toll_26 26 ls st h b (fun t ls st h b => X t ls st h b) Rt
theorem bs_X9_toll_26 {E : ZE} {CT : Nat → ZC} {X : ZK} {Rt : ZR} {ls : ZL} {st : List ZV} {h : ZH} {b : ZB2} (hX : zCl E mX9_toll 9 false CT Rt X) (q : bk_X9_toll_26 E CT X Rt ls st h b) : X 26 ls st h b := by
  refine hX k_X9_toll_26 26 ok_X9_toll_26 _ ?_ ls st h b q
  exact fun t ls st h b q => q
def bk_X9_toll_17 (E : ZE) (CT : Nat → ZC) (X : ZK) (Rt : ZR) (ls : ZL) (st : List ZV) (h : ZH) (b : ZB2) : Prop := zB E CT k_X9_toll_17 17 ls st h b (fun t ls st h b => if t = 26 then bk_X9_toll_26 E CT X Rt ls st h b else X t ls st h b) Rt
theorem bs_X9_toll_17 {E : ZE} {CT : Nat → ZC} {X : ZK} {Rt : ZR} {ls : ZL} {st : List ZV} {h : ZH} {b : ZB2} (hX : zCl E mX9_toll 9 false CT Rt X) (q : bk_X9_toll_17 E CT X Rt ls st h b) : X 17 ls st h b := by
  refine hX k_X9_toll_17 17 ok_X9_toll_17 _ ?_ ls st h b q
  exact by
    intro t ls st h b q
    by_cases c : t = 26
    · subst c; rw [if_pos rfl] at q; exact bs_X9_toll_26 hX q
    rw [if_neg c] at q
    exact q
def bk_X9_toll_0 (E : ZE) (CT : Nat → ZC) (X : ZK) (Rt : ZR) (ls : ZL) (st : List ZV) (h : ZH) (b : ZB2) : Prop := zB E CT k_X9_toll_0 0 ls st h b (fun t ls st h b => if t = 17 then bk_X9_toll_17 E CT X Rt ls st h b else if t = 26 then bk_X9_toll_26 E CT X Rt ls st h b else X t ls st h b) Rt
theorem bs_X9_toll_0 {E : ZE} {CT : Nat → ZC} {X : ZK} {Rt : ZR} {ls : ZL} {st : List ZV} {h : ZH} {b : ZB2} (hX : zCl E mX9_toll 9 false CT Rt X) (q : bk_X9_toll_0 E CT X Rt ls st h b) : X 0 ls st h b := by
  refine hX k_X9_toll_0 0 ok_X9_toll_0 _ ?_ ls st h b q
  exact by
    intro t ls st h b q
    by_cases c : t = 17
    · subst c; rw [if_pos rfl] at q; exact bs_X9_toll_17 hX q
    rw [if_neg c] at q
    by_cases c : t = 26
    · subst c; rw [if_pos rfl] at q; exact bs_X9_toll_26 hX q
    rw [if_neg c] at q
    exact q
-- X9_toll: cuts []
def k_X9_cheapest_0 : List ZI := [(.iconst (-1), 1, (0, [], [])), (.istore_n 1, 1, (0, [1], [])), (.ldc 25, 2, (1000000, [], [])), (.istore_n 2, 1, (0, [2], [])), (.iconst 0, 1, (0, [], [])), (.istore_n 3, 1, (0, [3], []))]
theorem ok_X9_cheapest_0 : zOK cX9_cheapest 9 false 4 k_X9_cheapest_0 0 = true := zOK_by (by decide +kernel)
def k_X9_cheapest_7 : List ZI := [(.iload_n 3, 1, (0, [3], [])), (.bipush 64, 2, (0, [], [])), (.if_icmp .ge 37, 3, (0, [47], []))]
theorem ok_X9_cheapest_7 : zOK cX9_cheapest 9 false 4 k_X9_cheapest_7 7 = true := zOK_by (by decide +kernel)
def k_X9_cheapest_13 : List ZI := [(.aload_n 0, 1, (0, [0], [])), (.getfield 15, 3, (0, [9, 2], [])), (.iload_n 3, 1, (0, [3], [])), (.iaload, 1, (0, [], [])), (.ifCond .ne 22, 3, (0, [41], []))]
theorem ok_X9_cheapest_13 : zOK cX9_cheapest 9 false 4 k_X9_cheapest_13 13 = true := zOK_by (by decide +kernel)
def k_X9_cheapest_22 : List ZI := [(.aload_n 0, 1, (0, [0], [])), (.getfield 9, 3, (0, [9, 1], [])), (.iload_n 3, 1, (0, [3], [])), (.iaload, 1, (0, [], [])), (.iload_n 2, 1, (0, [2], [])), (.if_icmp .ge 12, 3, (0, [41], [])), (.aload_n 0, 1, (0, [0], [])), (.getfield 9, 3, (0, [9, 1], [])), (.iload_n 3, 1, (0, [3], [])), (.iaload, 1, (0, [], [])), (.istore_n 2, 1, (0, [2], [])), (.iload_n 3, 1, (0, [3], [])), (.istore_n 1, 1, (0, [1], []))]
theorem ok_X9_cheapest_22 : zOK cX9_cheapest 9 false 4 k_X9_cheapest_22 22 = true := zOK_by (by decide +kernel)
def k_X9_cheapest_41 : List ZI := [(.iinc 3 1, 3, (0, [3], [])), (.goto (-37), 3, (0, [7], []))]
theorem ok_X9_cheapest_41 : zOK cX9_cheapest 9 false 4 k_X9_cheapest_41 41 = true := zOK_by (by decide +kernel)
def k_X9_cheapest_47 : List ZI := [(.iload_n 1, 1, (0, [1], [])), (.ireturn, 1, (0, [], []))]
theorem ok_X9_cheapest_47 : zOK cX9_cheapest 9 false 4 k_X9_cheapest_47 47 = true := zOK_by (by decide +kernel)
theorem rt_X9_cheapest {g : Nat} {post : Option ZV → ZH → Prop} {h : ZH} {b : ZB2} {z : Int} : zRt mX9_cheapest g post (some (.inl z)) h b = (post (some (.inl z)) h ∧ h.1.length = g) := by show (_ ∧ _ ∧ True) = _; simp
def bk_X9_cheapest_0 (E : ZE) (CT : Nat → ZC) (X : ZK) (Rt : ZR) (ls : ZL) (st : List ZV) (h : ZH) (b : ZB2) : Prop := zB E CT k_X9_cheapest_0 0 ls st h b (fun t ls st h b => X t ls st h b) Rt
theorem bs_X9_cheapest_0 {E : ZE} {CT : Nat → ZC} {X : ZK} {Rt : ZR} {ls : ZL} {st : List ZV} {h : ZH} {b : ZB2} (hX : zCl E mX9_cheapest 9 false CT Rt X) (q : bk_X9_cheapest_0 E CT X Rt ls st h b) : X 0 ls st h b := by
  refine hX k_X9_cheapest_0 0 ok_X9_cheapest_0 _ ?_ ls st h b q
  exact fun t ls st h b q => q
def bk_X9_cheapest_7 (E : ZE) (CT : Nat → ZC) (X : ZK) (Rt : ZR) (ls : ZL) (st : List ZV) (h : ZH) (b : ZB2) : Prop := zB E CT k_X9_cheapest_7 7 ls st h b (fun t ls st h b => X t ls st h b) Rt
theorem bs_X9_cheapest_7 {E : ZE} {CT : Nat → ZC} {X : ZK} {Rt : ZR} {ls : ZL} {st : List ZV} {h : ZH} {b : ZB2} (hX : zCl E mX9_cheapest 9 false CT Rt X) (q : bk_X9_cheapest_7 E CT X Rt ls st h b) : X 7 ls st h b := by
  refine hX k_X9_cheapest_7 7 ok_X9_cheapest_7 _ ?_ ls st h b q
  exact fun t ls st h b q => q
def bk_X9_cheapest_13 (E : ZE) (CT : Nat → ZC) (X : ZK) (Rt : ZR) (ls : ZL) (st : List ZV) (h : ZH) (b : ZB2) : Prop := zB E CT k_X9_cheapest_13 13 ls st h b (fun t ls st h b => X t ls st h b) Rt
theorem bs_X9_cheapest_13 {E : ZE} {CT : Nat → ZC} {X : ZK} {Rt : ZR} {ls : ZL} {st : List ZV} {h : ZH} {b : ZB2} (hX : zCl E mX9_cheapest 9 false CT Rt X) (q : bk_X9_cheapest_13 E CT X Rt ls st h b) : X 13 ls st h b := by
  refine hX k_X9_cheapest_13 13 ok_X9_cheapest_13 _ ?_ ls st h b q
  exact fun t ls st h b q => q
def bk_X9_cheapest_22 (E : ZE) (CT : Nat → ZC) (X : ZK) (Rt : ZR) (ls : ZL) (st : List ZV) (h : ZH) (b : ZB2) : Prop := zB E CT k_X9_cheapest_22 22 ls st h b (fun t ls st h b => X t ls st h b) Rt
theorem bs_X9_cheapest_22 {E : ZE} {CT : Nat → ZC} {X : ZK} {Rt : ZR} {ls : ZL} {st : List ZV} {h : ZH} {b : ZB2} (hX : zCl E mX9_cheapest 9 false CT Rt X) (q : bk_X9_cheapest_22 E CT X Rt ls st h b) : X 22 ls st h b := by
  refine hX k_X9_cheapest_22 22 ok_X9_cheapest_22 _ ?_ ls st h b q
  exact fun t ls st h b q => q
def bk_X9_cheapest_41 (E : ZE) (CT : Nat → ZC) (X : ZK) (Rt : ZR) (ls : ZL) (st : List ZV) (h : ZH) (b : ZB2) : Prop := zB E CT k_X9_cheapest_41 41 ls st h b (fun t ls st h b => X t ls st h b) Rt
theorem bs_X9_cheapest_41 {E : ZE} {CT : Nat → ZC} {X : ZK} {Rt : ZR} {ls : ZL} {st : List ZV} {h : ZH} {b : ZB2} (hX : zCl E mX9_cheapest 9 false CT Rt X) (q : bk_X9_cheapest_41 E CT X Rt ls st h b) : X 41 ls st h b := by
  refine hX k_X9_cheapest_41 41 ok_X9_cheapest_41 _ ?_ ls st h b q
  exact fun t ls st h b q => q
def bk_X9_cheapest_47 (E : ZE) (CT : Nat → ZC) (X : ZK) (Rt : ZR) (ls : ZL) (st : List ZV) (h : ZH) (b : ZB2) : Prop := zB E CT k_X9_cheapest_47 47 ls st h b (fun t ls st h b => X t ls st h b) Rt
theorem bs_X9_cheapest_47 {E : ZE} {CT : Nat → ZC} {X : ZK} {Rt : ZR} {ls : ZL} {st : List ZV} {h : ZH} {b : ZB2} (hX : zCl E mX9_cheapest 9 false CT Rt X) (q : bk_X9_cheapest_47 E CT X Rt ls st h b) : X 47 ls st h b := by
  refine hX k_X9_cheapest_47 47 ok_X9_cheapest_47 _ ?_ ls st h b q
  exact fun t ls st h b q => q
-- X9_cheapest: cuts [7, 13, 22, 41, 47]
def k_X9_leastRock_0 : List ZI := [(.aload_n 0, 1, (0, [0], [])), (.getfield 9, 3, (0, [9, 1], [])), (.ldc 25, 2, (1000000, [], [])), (.invokestatic 26, 3, (0, [223, 2, 0, 0], []))]
theorem ok_X9_leastRock_0 : zOK cX9_leastRock 9 false 7 k_X9_leastRock_0 0 = true := zOK_by (by decide +kernel)
def k_X9_leastRock_9 : List ZI := [(.aload_n 0, 1, (0, [0], [])), (.getfield 15, 3, (0, [9, 2], [])), (.iconst 0, 1, (0, [], [])), (.invokestatic 26, 3, (0, [223, 2, 0, 0], []))]
theorem ok_X9_leastRock_9 : zOK cX9_leastRock 9 false 7 k_X9_leastRock_9 9 = true := zOK_by (by decide +kernel)
def k_X9_leastRock_17 : List ZI := [(.aload_n 0, 1, (0, [0], [])), (.getfield 9, 3, (0, [9, 1], [])), (.iload_n 1, 1, (0, [1], [])), (.aload_n 0, 1, (0, [0], [])), (.iload_n 1, 1, (0, [1], [])), (.invokevirtual 32, 3, (0, [57, 2, 0, 9], [])), (.iastore, 1, (0, [], []))]
theorem ok_X9_leastRock_17 : zOK cX9_leastRock 9 false 7 k_X9_leastRock_17 17 = true := zOK_by (by decide +kernel)
def k_X9_leastRock_28 : List ZI := [(.iconst 0, 1, (0, [], [])), (.istore_n 3, 1, (0, [3], []))]
theorem ok_X9_leastRock_28 : zOK cX9_leastRock 9 false 7 k_X9_leastRock_28 28 = true := zOK_by (by decide +kernel)
def k_X9_leastRock_30 : List ZI := [(.iload_n 3, 1, (0, [3], [])), (.bipush 64, 2, (0, [], [])), (.if_icmp .ge 99, 3, (0, [132], []))]
theorem ok_X9_leastRock_30 : zOK cX9_leastRock 9 false 7 k_X9_leastRock_30 30 = true := zOK_by (by decide +kernel)
def k_X9_leastRock_36 : List ZI := [(.aload_n 0, 1, (0, [0], [])), (.invokevirtual 36, 3, (0, [58, 1, 0, 9], [])), (.istore 4, 2, (0, [4], []))]
theorem ok_X9_leastRock_36 : zOK cX9_leastRock 9 false 7 k_X9_leastRock_36 36 = true := zOK_by (by decide +kernel)
def k_X9_leastRock_42 : List ZI := [(.iload 4, 2, (0, [4], [])), (.iconst (-1), 1, (0, [], [])), (.if_icmp .eq 87, 3, (0, [132], [])), (.iload 4, 2, (0, [4], [])), (.iload_n 2, 1, (0, [2], [])), (.if_icmp .ne 6, 3, (0, [57], [])), (.goto 78, 3, (0, [132], []))]
theorem ok_X9_leastRock_42 : zOK cX9_leastRock 9 false 7 k_X9_leastRock_42 42 = true := zOK_by (by decide +kernel)
def k_X9_leastRock_57 : List ZI := [(.aload_n 0, 1, (0, [0], [])), (.getfield 15, 3, (0, [9, 2], [])), (.iload 4, 2, (0, [4], [])), (.iconst 1, 1, (0, [], [])), (.iastore, 1, (0, [], []))]
theorem ok_X9_leastRock_57 : zOK cX9_leastRock 9 false 7 k_X9_leastRock_57 57 = true := zOK_by (by decide +kernel)
def k_X9_leastRock_65 : List ZI := [(.iconst 0, 1, (0, [], [])), (.istore 5, 2, (0, [5], []))]
theorem ok_X9_leastRock_65 : zOK cX9_leastRock 9 false 7 k_X9_leastRock_65 65 = true := zOK_by (by decide +kernel)
def k_X9_leastRock_68 : List ZI := [(.iload 5, 2, (0, [5], [])), (.iconst 4, 1, (0, [], [])), (.if_icmp .ge 55, 3, (0, [126], []))]
theorem ok_X9_leastRock_68 : zOK cX9_leastRock 9 false 7 k_X9_leastRock_68 68 = true := zOK_by (by decide +kernel)
def k_X9_leastRock_74 : List ZI := [(.iload 4, 2, (0, [4], [])), (.iload 5, 2, (0, [5], [])), (.invokestatic 40, 3, (0, [16, 2, 0, 2], [])), (.istore 6, 2, (0, [6], []))]
theorem ok_X9_leastRock_74 : zOK cX9_leastRock 9 false 7 k_X9_leastRock_74 74 = true := zOK_by (by decide +kernel)
def k_X9_leastRock_83 : List ZI := [(.iload 6, 2, (0, [6], [])), (.iconst (-1), 1, (0, [], [])), (.if_icmp .eq 34, 3, (0, [120], []))]
theorem ok_X9_leastRock_83 : zOK cX9_leastRock 9 false 7 k_X9_leastRock_83 83 = true := zOK_by (by decide +kernel)
def k_X9_leastRock_89 : List ZI := [(.aload_n 0, 1, (0, [0], [])), (.getfield 9, 3, (0, [9, 1], [])), (.iload 6, 2, (0, [6], [])), (.aload_n 0, 1, (0, [0], [])), (.getfield 9, 3, (0, [9, 1], [])), (.iload 6, 2, (0, [6], [])), (.iaload, 1, (0, [], [])), (.aload_n 0, 1, (0, [0], [])), (.getfield 9, 3, (0, [9, 1], [])), (.iload 4, 2, (0, [4], [])), (.iaload, 1, (0, [], [])), (.aload_n 0, 1, (0, [0], [])), (.iload 6, 2, (0, [6], [])), (.invokevirtual 32, 3, (0, [57, 2, 0, 9], [])), (.iadd, 1, (0, [], [])), (.invokestatic 46, 3, (0, [2], [])), (.iastore, 1, (0, [], []))]
theorem ok_X9_leastRock_89 : zOK cX9_leastRock 9 false 7 k_X9_leastRock_89 89 = true := zOK_by (by decide +kernel)
def k_X9_leastRock_120 : List ZI := [(.iinc 5 1, 3, (0, [5], [])), (.goto (-55), 3, (0, [68], []))]
theorem ok_X9_leastRock_120 : zOK cX9_leastRock 9 false 7 k_X9_leastRock_120 120 = true := zOK_by (by decide +kernel)
def k_X9_leastRock_126 : List ZI := [(.iinc 3 1, 3, (0, [3], [])), (.goto (-99), 3, (0, [30], []))]
theorem ok_X9_leastRock_126 : zOK cX9_leastRock 9 false 7 k_X9_leastRock_126 126 = true := zOK_by (by decide +kernel)
def k_X9_leastRock_132 : List ZI := [(.aload_n 0, 1, (0, [0], [])), (.getfield 9, 3, (0, [9, 1], [])), (.iload_n 2, 1, (0, [2], [])), (.iaload, 1, (0, [], [])), (.ireturn, 1, (0, [], []))]
theorem ok_X9_leastRock_132 : zOK cX9_leastRock 9 false 7 k_X9_leastRock_132 132 = true := zOK_by (by decide +kernel)
theorem rt_X9_leastRock {g : Nat} {post : Option ZV → ZH → Prop} {h : ZH} {b : ZB2} {z : Int} : zRt mX9_leastRock g post (some (.inl z)) h b = (post (some (.inl z)) h ∧ h.1.length = g) := by show (_ ∧ _ ∧ True) = _; simp
def bk_X9_leastRock_0 (E : ZE) (CT : Nat → ZC) (X : ZK) (Rt : ZR) (ls : ZL) (st : List ZV) (h : ZH) (b : ZB2) : Prop := zB E CT k_X9_leastRock_0 0 ls st h b (fun t ls st h b => X t ls st h b) Rt
theorem bs_X9_leastRock_0 {E : ZE} {CT : Nat → ZC} {X : ZK} {Rt : ZR} {ls : ZL} {st : List ZV} {h : ZH} {b : ZB2} (hX : zCl E mX9_leastRock 9 false CT Rt X) (q : bk_X9_leastRock_0 E CT X Rt ls st h b) : X 0 ls st h b := by
  refine hX k_X9_leastRock_0 0 ok_X9_leastRock_0 _ ?_ ls st h b q
  exact fun t ls st h b q => q
def bk_X9_leastRock_9 (E : ZE) (CT : Nat → ZC) (X : ZK) (Rt : ZR) (ls : ZL) (st : List ZV) (h : ZH) (b : ZB2) : Prop := zB E CT k_X9_leastRock_9 9 ls st h b (fun t ls st h b => X t ls st h b) Rt
theorem bs_X9_leastRock_9 {E : ZE} {CT : Nat → ZC} {X : ZK} {Rt : ZR} {ls : ZL} {st : List ZV} {h : ZH} {b : ZB2} (hX : zCl E mX9_leastRock 9 false CT Rt X) (q : bk_X9_leastRock_9 E CT X Rt ls st h b) : X 9 ls st h b := by
  refine hX k_X9_leastRock_9 9 ok_X9_leastRock_9 _ ?_ ls st h b q
  exact fun t ls st h b q => q
def bk_X9_leastRock_17 (E : ZE) (CT : Nat → ZC) (X : ZK) (Rt : ZR) (ls : ZL) (st : List ZV) (h : ZH) (b : ZB2) : Prop := zB E CT k_X9_leastRock_17 17 ls st h b (fun t ls st h b => X t ls st h b) Rt
theorem bs_X9_leastRock_17 {E : ZE} {CT : Nat → ZC} {X : ZK} {Rt : ZR} {ls : ZL} {st : List ZV} {h : ZH} {b : ZB2} (hX : zCl E mX9_leastRock 9 false CT Rt X) (q : bk_X9_leastRock_17 E CT X Rt ls st h b) : X 17 ls st h b := by
  refine hX k_X9_leastRock_17 17 ok_X9_leastRock_17 _ ?_ ls st h b q
  exact fun t ls st h b q => q
def bk_X9_leastRock_28 (E : ZE) (CT : Nat → ZC) (X : ZK) (Rt : ZR) (ls : ZL) (st : List ZV) (h : ZH) (b : ZB2) : Prop := zB E CT k_X9_leastRock_28 28 ls st h b (fun t ls st h b => X t ls st h b) Rt
theorem bs_X9_leastRock_28 {E : ZE} {CT : Nat → ZC} {X : ZK} {Rt : ZR} {ls : ZL} {st : List ZV} {h : ZH} {b : ZB2} (hX : zCl E mX9_leastRock 9 false CT Rt X) (q : bk_X9_leastRock_28 E CT X Rt ls st h b) : X 28 ls st h b := by
  refine hX k_X9_leastRock_28 28 ok_X9_leastRock_28 _ ?_ ls st h b q
  exact fun t ls st h b q => q
def bk_X9_leastRock_30 (E : ZE) (CT : Nat → ZC) (X : ZK) (Rt : ZR) (ls : ZL) (st : List ZV) (h : ZH) (b : ZB2) : Prop := zB E CT k_X9_leastRock_30 30 ls st h b (fun t ls st h b => X t ls st h b) Rt
theorem bs_X9_leastRock_30 {E : ZE} {CT : Nat → ZC} {X : ZK} {Rt : ZR} {ls : ZL} {st : List ZV} {h : ZH} {b : ZB2} (hX : zCl E mX9_leastRock 9 false CT Rt X) (q : bk_X9_leastRock_30 E CT X Rt ls st h b) : X 30 ls st h b := by
  refine hX k_X9_leastRock_30 30 ok_X9_leastRock_30 _ ?_ ls st h b q
  exact fun t ls st h b q => q
def bk_X9_leastRock_36 (E : ZE) (CT : Nat → ZC) (X : ZK) (Rt : ZR) (ls : ZL) (st : List ZV) (h : ZH) (b : ZB2) : Prop := zB E CT k_X9_leastRock_36 36 ls st h b (fun t ls st h b => X t ls st h b) Rt
theorem bs_X9_leastRock_36 {E : ZE} {CT : Nat → ZC} {X : ZK} {Rt : ZR} {ls : ZL} {st : List ZV} {h : ZH} {b : ZB2} (hX : zCl E mX9_leastRock 9 false CT Rt X) (q : bk_X9_leastRock_36 E CT X Rt ls st h b) : X 36 ls st h b := by
  refine hX k_X9_leastRock_36 36 ok_X9_leastRock_36 _ ?_ ls st h b q
  exact fun t ls st h b q => q
def bk_X9_leastRock_42 (E : ZE) (CT : Nat → ZC) (X : ZK) (Rt : ZR) (ls : ZL) (st : List ZV) (h : ZH) (b : ZB2) : Prop := zB E CT k_X9_leastRock_42 42 ls st h b (fun t ls st h b => X t ls st h b) Rt
theorem bs_X9_leastRock_42 {E : ZE} {CT : Nat → ZC} {X : ZK} {Rt : ZR} {ls : ZL} {st : List ZV} {h : ZH} {b : ZB2} (hX : zCl E mX9_leastRock 9 false CT Rt X) (q : bk_X9_leastRock_42 E CT X Rt ls st h b) : X 42 ls st h b := by
  refine hX k_X9_leastRock_42 42 ok_X9_leastRock_42 _ ?_ ls st h b q
  exact fun t ls st h b q => q
def bk_X9_leastRock_57 (E : ZE) (CT : Nat → ZC) (X : ZK) (Rt : ZR) (ls : ZL) (st : List ZV) (h : ZH) (b : ZB2) : Prop := zB E CT k_X9_leastRock_57 57 ls st h b (fun t ls st h b => X t ls st h b) Rt
theorem bs_X9_leastRock_57 {E : ZE} {CT : Nat → ZC} {X : ZK} {Rt : ZR} {ls : ZL} {st : List ZV} {h : ZH} {b : ZB2} (hX : zCl E mX9_leastRock 9 false CT Rt X) (q : bk_X9_leastRock_57 E CT X Rt ls st h b) : X 57 ls st h b := by
  refine hX k_X9_leastRock_57 57 ok_X9_leastRock_57 _ ?_ ls st h b q
  exact fun t ls st h b q => q
def bk_X9_leastRock_65 (E : ZE) (CT : Nat → ZC) (X : ZK) (Rt : ZR) (ls : ZL) (st : List ZV) (h : ZH) (b : ZB2) : Prop := zB E CT k_X9_leastRock_65 65 ls st h b (fun t ls st h b => X t ls st h b) Rt
theorem bs_X9_leastRock_65 {E : ZE} {CT : Nat → ZC} {X : ZK} {Rt : ZR} {ls : ZL} {st : List ZV} {h : ZH} {b : ZB2} (hX : zCl E mX9_leastRock 9 false CT Rt X) (q : bk_X9_leastRock_65 E CT X Rt ls st h b) : X 65 ls st h b := by
  refine hX k_X9_leastRock_65 65 ok_X9_leastRock_65 _ ?_ ls st h b q
  exact fun t ls st h b q => q
def bk_X9_leastRock_68 (E : ZE) (CT : Nat → ZC) (X : ZK) (Rt : ZR) (ls : ZL) (st : List ZV) (h : ZH) (b : ZB2) : Prop := zB E CT k_X9_leastRock_68 68 ls st h b (fun t ls st h b => X t ls st h b) Rt
theorem bs_X9_leastRock_68 {E : ZE} {CT : Nat → ZC} {X : ZK} {Rt : ZR} {ls : ZL} {st : List ZV} {h : ZH} {b : ZB2} (hX : zCl E mX9_leastRock 9 false CT Rt X) (q : bk_X9_leastRock_68 E CT X Rt ls st h b) : X 68 ls st h b := by
  refine hX k_X9_leastRock_68 68 ok_X9_leastRock_68 _ ?_ ls st h b q
  exact fun t ls st h b q => q
def bk_X9_leastRock_74 (E : ZE) (CT : Nat → ZC) (X : ZK) (Rt : ZR) (ls : ZL) (st : List ZV) (h : ZH) (b : ZB2) : Prop := zB E CT k_X9_leastRock_74 74 ls st h b (fun t ls st h b => X t ls st h b) Rt
theorem bs_X9_leastRock_74 {E : ZE} {CT : Nat → ZC} {X : ZK} {Rt : ZR} {ls : ZL} {st : List ZV} {h : ZH} {b : ZB2} (hX : zCl E mX9_leastRock 9 false CT Rt X) (q : bk_X9_leastRock_74 E CT X Rt ls st h b) : X 74 ls st h b := by
  refine hX k_X9_leastRock_74 74 ok_X9_leastRock_74 _ ?_ ls st h b q
  exact fun t ls st h b q => q
def bk_X9_leastRock_83 (E : ZE) (CT : Nat → ZC) (X : ZK) (Rt : ZR) (ls : ZL) (st : List ZV) (h : ZH) (b : ZB2) : Prop := zB E CT k_X9_leastRock_83 83 ls st h b (fun t ls st h b => X t ls st h b) Rt
theorem bs_X9_leastRock_83 {E : ZE} {CT : Nat → ZC} {X : ZK} {Rt : ZR} {ls : ZL} {st : List ZV} {h : ZH} {b : ZB2} (hX : zCl E mX9_leastRock 9 false CT Rt X) (q : bk_X9_leastRock_83 E CT X Rt ls st h b) : X 83 ls st h b := by
  refine hX k_X9_leastRock_83 83 ok_X9_leastRock_83 _ ?_ ls st h b q
  exact fun t ls st h b q => q
def bk_X9_leastRock_89 (E : ZE) (CT : Nat → ZC) (X : ZK) (Rt : ZR) (ls : ZL) (st : List ZV) (h : ZH) (b : ZB2) : Prop := zB E CT k_X9_leastRock_89 89 ls st h b (fun t ls st h b => X t ls st h b) Rt
theorem bs_X9_leastRock_89 {E : ZE} {CT : Nat → ZC} {X : ZK} {Rt : ZR} {ls : ZL} {st : List ZV} {h : ZH} {b : ZB2} (hX : zCl E mX9_leastRock 9 false CT Rt X) (q : bk_X9_leastRock_89 E CT X Rt ls st h b) : X 89 ls st h b := by
  refine hX k_X9_leastRock_89 89 ok_X9_leastRock_89 _ ?_ ls st h b q
  exact fun t ls st h b q => q
def bk_X9_leastRock_120 (E : ZE) (CT : Nat → ZC) (X : ZK) (Rt : ZR) (ls : ZL) (st : List ZV) (h : ZH) (b : ZB2) : Prop := zB E CT k_X9_leastRock_120 120 ls st h b (fun t ls st h b => X t ls st h b) Rt
theorem bs_X9_leastRock_120 {E : ZE} {CT : Nat → ZC} {X : ZK} {Rt : ZR} {ls : ZL} {st : List ZV} {h : ZH} {b : ZB2} (hX : zCl E mX9_leastRock 9 false CT Rt X) (q : bk_X9_leastRock_120 E CT X Rt ls st h b) : X 120 ls st h b := by
  refine hX k_X9_leastRock_120 120 ok_X9_leastRock_120 _ ?_ ls st h b q
  exact fun t ls st h b q => q
def bk_X9_leastRock_126 (E : ZE) (CT : Nat → ZC) (X : ZK) (Rt : ZR) (ls : ZL) (st : List ZV) (h : ZH) (b : ZB2) : Prop := zB E CT k_X9_leastRock_126 126 ls st h b (fun t ls st h b => X t ls st h b) Rt
theorem bs_X9_leastRock_126 {E : ZE} {CT : Nat → ZC} {X : ZK} {Rt : ZR} {ls : ZL} {st : List ZV} {h : ZH} {b : ZB2} (hX : zCl E mX9_leastRock 9 false CT Rt X) (q : bk_X9_leastRock_126 E CT X Rt ls st h b) : X 126 ls st h b := by
  refine hX k_X9_leastRock_126 126 ok_X9_leastRock_126 _ ?_ ls st h b q
  exact fun t ls st h b q => q
def bk_X9_leastRock_132 (E : ZE) (CT : Nat → ZC) (X : ZK) (Rt : ZR) (ls : ZL) (st : List ZV) (h : ZH) (b : ZB2) : Prop := zB E CT k_X9_leastRock_132 132 ls st h b (fun t ls st h b => X t ls st h b) Rt
theorem bs_X9_leastRock_132 {E : ZE} {CT : Nat → ZC} {X : ZK} {Rt : ZR} {ls : ZL} {st : List ZV} {h : ZH} {b : ZB2} (hX : zCl E mX9_leastRock 9 false CT Rt X) (q : bk_X9_leastRock_132 E CT X Rt ls st h b) : X 132 ls st h b := by
  refine hX k_X9_leastRock_132 132 ok_X9_leastRock_132 _ ?_ ls st h b q
  exact fun t ls st h b q => q
-- X9_leastRock: cuts [9, 17, 28, 30, 36, 42, 57, 65, 68, 74, 83, 89, 120, 126, 132]
def k_X10_hand_0 : List ZI := [(.iload_n 1, 1, (0, [1], [])), (.bipush 63, 2, (0, [], [])), (.invokestatic 92, 3, (0, [111, 2, 0, 10], [])), (.ifCond .ne 21, 3, (0, [27], []))]
theorem ok_X10_hand_0 : zOK cX10_hand 10 false 4 k_X10_hand_0 0 = true := zOK_by (by decide +kernel)
def k_X10_hand_9 : List ZI := [(.iload_n 2, 1, (0, [2], [])), (.iconst 3, 1, (0, [], [])), (.invokestatic 92, 3, (0, [111, 2, 0, 10], [])), (.ifCond .ne 13, 3, (0, [27], []))]
theorem ok_X10_hand_9 : zOK cX10_hand 10 false 4 k_X10_hand_9 9 = true := zOK_by (by decide +kernel)
def k_X10_hand_17 : List ZI := [(.iload_n 3, 1, (0, [3], [])), (.sipush 200, 3, (0, [], [])), (.invokestatic 92, 3, (0, [111, 2, 0, 10], [])), (.ifCond .eq 10, 3, (0, [34], []))]
theorem ok_X10_hand_17 : zOK cX10_hand 10 false 4 k_X10_hand_17 17 = true := zOK_by (by decide +kernel)
def k_X10_hand_27 : List ZI := [(.aload_n 0, 1, (0, [0], [])), (.ldc 96, 2, ((-1000000001), [], [])), (.invokevirtual 97, 3, (0, [110, 2, 0, 10], [])), (.ireturn, 1, (0, [], []))]
theorem ok_X10_hand_27 : zOK cX10_hand 10 false 4 k_X10_hand_27 27 = true := zOK_by (by decide +kernel)
def k_X10_hand_34 : List ZI := [(.aload_n 0, 1, (0, [0], [])), (.getfield 12, 3, (0, [10, 0], [])), (.getfield 21, 3, (0, [6, 0], [])), (.getfield 108, 3, (0, [2, 1], [])), (.iload_n 1, 1, (0, [1], [])), (.iaload, 1, (0, [], [])), (.ifCond .ne 10, 3, (0, [56], [])), (.aload_n 0, 1, (0, [0], [])), (.ldc 107, 2, ((-1000000003), [], [])), (.invokevirtual 97, 3, (0, [110, 2, 0, 10], [])), (.ireturn, 1, (0, [], []))]
theorem ok_X10_hand_34 : zOK cX10_hand 10 false 4 k_X10_hand_34 34 = true := zOK_by (by decide +kernel)
def k_X10_hand_56 : List ZI := [(.aload_n 0, 1, (0, [0], [])), (.getfield 70, 3, (0, [10, 5], [])), (.iload_n 1, 1, (0, [1], [])), (.iload_n 2, 1, (0, [2], [])), (.iload_n 3, 1, (0, [3], [])), (.invokevirtual 234, 3, (0, [63, 4, 0, 9], [])), (.ireturn, 1, (0, [], []))]
theorem ok_X10_hand_56 : zOK cX10_hand 10 false 4 k_X10_hand_56 56 = true := zOK_by (by decide +kernel)
theorem rt_X10_hand {g : Nat} {post : Option ZV → ZH → Prop} {h : ZH} {b : ZB2} {z : Int} : zRt mX10_hand g post (some (.inl z)) h b = (post (some (.inl z)) h ∧ h.1.length = g) := by show (_ ∧ _ ∧ True) = _; simp
def bk_X10_hand_0 (E : ZE) (CT : Nat → ZC) (X : ZK) (Rt : ZR) (ls : ZL) (st : List ZV) (h : ZH) (b : ZB2) : Prop := zB E CT k_X10_hand_0 0 ls st h b (fun t ls st h b => X t ls st h b) Rt
theorem bs_X10_hand_0 {E : ZE} {CT : Nat → ZC} {X : ZK} {Rt : ZR} {ls : ZL} {st : List ZV} {h : ZH} {b : ZB2} (hX : zCl E mX10_hand 10 false CT Rt X) (q : bk_X10_hand_0 E CT X Rt ls st h b) : X 0 ls st h b := by
  refine hX k_X10_hand_0 0 ok_X10_hand_0 _ ?_ ls st h b q
  exact fun t ls st h b q => q
def bk_X10_hand_9 (E : ZE) (CT : Nat → ZC) (X : ZK) (Rt : ZR) (ls : ZL) (st : List ZV) (h : ZH) (b : ZB2) : Prop := zB E CT k_X10_hand_9 9 ls st h b (fun t ls st h b => X t ls st h b) Rt
theorem bs_X10_hand_9 {E : ZE} {CT : Nat → ZC} {X : ZK} {Rt : ZR} {ls : ZL} {st : List ZV} {h : ZH} {b : ZB2} (hX : zCl E mX10_hand 10 false CT Rt X) (q : bk_X10_hand_9 E CT X Rt ls st h b) : X 9 ls st h b := by
  refine hX k_X10_hand_9 9 ok_X10_hand_9 _ ?_ ls st h b q
  exact fun t ls st h b q => q
def bk_X10_hand_17 (E : ZE) (CT : Nat → ZC) (X : ZK) (Rt : ZR) (ls : ZL) (st : List ZV) (h : ZH) (b : ZB2) : Prop := zB E CT k_X10_hand_17 17 ls st h b (fun t ls st h b => X t ls st h b) Rt
theorem bs_X10_hand_17 {E : ZE} {CT : Nat → ZC} {X : ZK} {Rt : ZR} {ls : ZL} {st : List ZV} {h : ZH} {b : ZB2} (hX : zCl E mX10_hand 10 false CT Rt X) (q : bk_X10_hand_17 E CT X Rt ls st h b) : X 17 ls st h b := by
  refine hX k_X10_hand_17 17 ok_X10_hand_17 _ ?_ ls st h b q
  exact fun t ls st h b q => q
def bk_X10_hand_27 (E : ZE) (CT : Nat → ZC) (X : ZK) (Rt : ZR) (ls : ZL) (st : List ZV) (h : ZH) (b : ZB2) : Prop := zB E CT k_X10_hand_27 27 ls st h b (fun t ls st h b => X t ls st h b) Rt
theorem bs_X10_hand_27 {E : ZE} {CT : Nat → ZC} {X : ZK} {Rt : ZR} {ls : ZL} {st : List ZV} {h : ZH} {b : ZB2} (hX : zCl E mX10_hand 10 false CT Rt X) (q : bk_X10_hand_27 E CT X Rt ls st h b) : X 27 ls st h b := by
  refine hX k_X10_hand_27 27 ok_X10_hand_27 _ ?_ ls st h b q
  exact fun t ls st h b q => q
def bk_X10_hand_34 (E : ZE) (CT : Nat → ZC) (X : ZK) (Rt : ZR) (ls : ZL) (st : List ZV) (h : ZH) (b : ZB2) : Prop := zB E CT k_X10_hand_34 34 ls st h b (fun t ls st h b => X t ls st h b) Rt
theorem bs_X10_hand_34 {E : ZE} {CT : Nat → ZC} {X : ZK} {Rt : ZR} {ls : ZL} {st : List ZV} {h : ZH} {b : ZB2} (hX : zCl E mX10_hand 10 false CT Rt X) (q : bk_X10_hand_34 E CT X Rt ls st h b) : X 34 ls st h b := by
  refine hX k_X10_hand_34 34 ok_X10_hand_34 _ ?_ ls st h b q
  exact fun t ls st h b q => q
def bk_X10_hand_56 (E : ZE) (CT : Nat → ZC) (X : ZK) (Rt : ZR) (ls : ZL) (st : List ZV) (h : ZH) (b : ZB2) : Prop := zB E CT k_X10_hand_56 56 ls st h b (fun t ls st h b => X t ls st h b) Rt
theorem bs_X10_hand_56 {E : ZE} {CT : Nat → ZC} {X : ZK} {Rt : ZR} {ls : ZL} {st : List ZV} {h : ZH} {b : ZB2} (hX : zCl E mX10_hand 10 false CT Rt X) (q : bk_X10_hand_56 E CT X Rt ls st h b) : X 56 ls st h b := by
  refine hX k_X10_hand_56 56 ok_X10_hand_56 _ ?_ ls st h b q
  exact fun t ls st h b q => q
-- X10_hand: cuts [9, 17, 27, 34, 56]
def k_X10_join_0 : List ZI := [(.iload_n 1, 1, (0, [1], [])), (.bipush 63, 2, (0, [], [])), (.invokestatic 92, 3, (0, [111, 2, 0, 10], [])), (.ifCond .ne 12, 3, (0, [18], []))]
theorem ok_X10_join_0 : zOK cX10_join 10 false 3 k_X10_join_0 0 = true := zOK_by (by decide +kernel)
def k_X10_join_9 : List ZI := [(.iload_n 2, 1, (0, [2], [])), (.bipush 63, 2, (0, [], [])), (.invokestatic 92, 3, (0, [111, 2, 0, 10], [])), (.ifCond .eq 10, 3, (0, [25], []))]
theorem ok_X10_join_9 : zOK cX10_join 10 false 3 k_X10_join_9 9 = true := zOK_by (by decide +kernel)
def k_X10_join_18 : List ZI := [(.aload_n 0, 1, (0, [0], [])), (.ldc 96, 2, ((-1000000001), [], [])), (.invokevirtual 97, 3, (0, [110, 2, 0, 10], [])), (.ireturn, 1, (0, [], []))]
theorem ok_X10_join_18 : zOK cX10_join 10 false 3 k_X10_join_18 18 = true := zOK_by (by decide +kernel)
def k_X10_join_25 : List ZI := [(.aload_n 0, 1, (0, [0], [])), (.getfield 70, 3, (0, [10, 5], [])), (.iload_n 1, 1, (0, [1], [])), (.iload_n 2, 1, (0, [2], [])), (.invokevirtual 226, 3, (0, [56, 3, 0, 9], [])), (.ireturn, 1, (0, [], []))]
theorem ok_X10_join_25 : zOK cX10_join 10 false 3 k_X10_join_25 25 = true := zOK_by (by decide +kernel)
theorem rt_X10_join {g : Nat} {post : Option ZV → ZH → Prop} {h : ZH} {b : ZB2} {z : Int} : zRt mX10_join g post (some (.inl z)) h b = (post (some (.inl z)) h ∧ h.1.length = g) := by show (_ ∧ _ ∧ True) = _; simp
def bk_X10_join_0 (E : ZE) (CT : Nat → ZC) (X : ZK) (Rt : ZR) (ls : ZL) (st : List ZV) (h : ZH) (b : ZB2) : Prop := zB E CT k_X10_join_0 0 ls st h b (fun t ls st h b => X t ls st h b) Rt
theorem bs_X10_join_0 {E : ZE} {CT : Nat → ZC} {X : ZK} {Rt : ZR} {ls : ZL} {st : List ZV} {h : ZH} {b : ZB2} (hX : zCl E mX10_join 10 false CT Rt X) (q : bk_X10_join_0 E CT X Rt ls st h b) : X 0 ls st h b := by
  refine hX k_X10_join_0 0 ok_X10_join_0 _ ?_ ls st h b q
  exact fun t ls st h b q => q
def bk_X10_join_9 (E : ZE) (CT : Nat → ZC) (X : ZK) (Rt : ZR) (ls : ZL) (st : List ZV) (h : ZH) (b : ZB2) : Prop := zB E CT k_X10_join_9 9 ls st h b (fun t ls st h b => X t ls st h b) Rt
theorem bs_X10_join_9 {E : ZE} {CT : Nat → ZC} {X : ZK} {Rt : ZR} {ls : ZL} {st : List ZV} {h : ZH} {b : ZB2} (hX : zCl E mX10_join 10 false CT Rt X) (q : bk_X10_join_9 E CT X Rt ls st h b) : X 9 ls st h b := by
  refine hX k_X10_join_9 9 ok_X10_join_9 _ ?_ ls st h b q
  exact fun t ls st h b q => q
def bk_X10_join_18 (E : ZE) (CT : Nat → ZC) (X : ZK) (Rt : ZR) (ls : ZL) (st : List ZV) (h : ZH) (b : ZB2) : Prop := zB E CT k_X10_join_18 18 ls st h b (fun t ls st h b => X t ls st h b) Rt
theorem bs_X10_join_18 {E : ZE} {CT : Nat → ZC} {X : ZK} {Rt : ZR} {ls : ZL} {st : List ZV} {h : ZH} {b : ZB2} (hX : zCl E mX10_join 10 false CT Rt X) (q : bk_X10_join_18 E CT X Rt ls st h b) : X 18 ls st h b := by
  refine hX k_X10_join_18 18 ok_X10_join_18 _ ?_ ls st h b q
  exact fun t ls st h b q => q
def bk_X10_join_25 (E : ZE) (CT : Nat → ZC) (X : ZK) (Rt : ZR) (ls : ZL) (st : List ZV) (h : ZH) (b : ZB2) : Prop := zB E CT k_X10_join_25 25 ls st h b (fun t ls st h b => X t ls st h b) Rt
theorem bs_X10_join_25 {E : ZE} {CT : Nat → ZC} {X : ZK} {Rt : ZR} {ls : ZL} {st : List ZV} {h : ZH} {b : ZB2} (hX : zCl E mX10_join 10 false CT Rt X) (q : bk_X10_join_25 E CT X Rt ls st h b) : X 25 ls st h b := by
  refine hX k_X10_join_25 25 ok_X10_join_25 _ ?_ ls st h b q
  exact fun t ls st h b q => q
-- X10_join: cuts [9, 18, 25]
def B_wdug (c : Int) (M : Nat → Nat → Int) (post : Option ZV → (Nat → Nat → Int) → Prop) : Prop := (-1 ≤ c ∧ c ≤ 63) ∧ ∃ d : Nat → Int, HR 2 M d ∧ Vd d ∧ post (some (.inl (zbo (0 ≤ c ∧ d (70 + c).toNat = 1)))) M
def C_wdug : ZC := fun as h post => match as with
  | [.inr (.inr (.inl 70)), .inl c] => h.1 = zG ∧ B_wdug c h.2 (fun v M => post v (zG, M))
  | _ => False
theorem r_wdug {c : Int} {M : Nat → Nat → Int} {post : Option ZV → ZH → Prop} : C_wdug [.inr (.inr (.inl 70)), .inl c] (zG, M) post = B_wdug c M (fun v M => post v (zG, M)) := by show (zG = zG ∧ _) = _; simp
def ct_wdug : Nat → ZC := fun n => fun _ _ _ => False
theorem c_wdug {E : ZE} {d : Nat} (hd : 1 ≤ d) : zMet E d mX9_isDug C_wdug := by
  refine zmet_of (o := 9) (ini := false) (CT := ct_wdug) gd_X9_isDug rfl (fun h => by cases h) (by omega) ?_ ?_
  · intro n as h post hh
    unfold ct_wdug at hh
    exact hh.elim
  intro as h post hC
  match as, hC with
  | [.inr (.inr (.inl 70)), .inl c], hC =>
    refine ⟨Nat.le_of_ble_eq_true rfl, fun X hX => bs_X9_isDug_0 hX ?_⟩
    obtain ⟨G, M⟩ := h
    obtain ⟨hG, hC⟩ := hC
    dsimp only at hG
    subst hG
    simp only [B_wdug] at hC
    show bk_X9_isDug_0 E ct_wdug X _ [some (.inr (.inr (.inl 70))), some (.inl c)] [] (zG, M) (0, 0)
    obtain ⟨hc, d9, H, vd, hC⟩ := hC
    have zc9 : zr c = c := zr_of (by omega) (by omega)
    by_cases q : c = -1
    · have q' : (c = -1) = True := eq_true q
      simp only [bk_X9_isDug_0, k_X9_isDug_0, bk_X9_isDug_22, k_X9_isDug_22, bk_X9_isDug_23, k_X9_isDug_23, ↓e_rk1, ↓e_rk0, ↓e_sk0, ↓e_sks, ↓e_ldi0, ↓e_ldis, ↓e_ldl0, ↓e_ldls, ↓e_lda0, ↓e_ldas, ↓e_ok0, ↓e_okss, ↓e_ok1i, ↓e_ok1r, ↓e_ok1n, ↓e_sti, ↓e_sta, ↓e_1, ↓e_2, ↓e_l1, ↓e_l2, ↓e_li, ↓e_sw0, ↓e_sws, ↓e_ceq, ↓e_cne, ↓e_clt, ↓e_cge, ↓e_cgt, ↓e_cle, ↓e_nil, ↓e_cons, ↓e_iconst, ↓e_bipush, ↓e_sipush, ↓e_ldc, ↓e_ldcw, ↓e_ldc2, ↓e_lconst, ↓e_iloadn, ↓e_iload, ↓e_lloadn, ↓e_lload, ↓e_aloadn, ↓e_aload, ↓e_istoren, ↓e_istore, ↓e_astoren, ↓e_astore, ↓e_add, ↓e_iinc, ↓e_iadd, ↓e_isub, ↓e_imul, ↓e_iand, ↓e_ior, ↓e_ixor, ↓e_ishl, ↓e_iushr, ↓e_idiv, ↓e_irem, ↓e_ineg, ↓e_i2l, ↓e_i2b, ↓e_i2s, ↓e_l2i, ↓e_land, ↓e_lor, ↓e_lshl, ↓e_lshr, ↓e_lushr, ↓e_lcmp, ↓e_dupi, ↓e_dupr, ↓e_popi, ↓e_dup2, ↓e_goto, ↓e_if, ↓e_icmp, ↓e_tsw, ↓e_lsw, ↓e_getf, ↓e_putf, ↓e_gets, ↓e_iald, ↓e_cald, ↓e_iast, ↓e_aald, ↓e_aast, ↓e_len, ↓e_copy, ↓e_abs, ↓e_max, ↓e_min, ↓e_iret, ↓e_aret, ↓e_vret, ↓e_is0, ↓e_is1, ↓e_is2, ↓e_is3, ↓e_is4, ↓e_iv1, ↓e_iv2, ↓e_iv3, ↓e_iv4, ↓e_iv5, ↓e_iv6, ↓rt_X9_isDug, ↓reduceIte, Nat.reduceAdd, Nat.reduceEqDiff, ↓zcl0, ↓zclv, List.map_nil, List.sum_nil, List.map_cons, List.sum_cons, zcat, true_and, and_true, Nat.reduceLeDiff, Nat.reduceAdd, eq_self, forall_const, e_ok0, e_okss, e_ok1i, e_ok1r, e_ok1n, zl_m1, zl_0, zl_1, Int.reduceToNat, Int.reduceAdd, Int.reduceMul, Int.reduceSub, Int.reduceNeg, Int.reduceLT, Int.reduceLE, Int.reduceEq, not_false_eq_true, not_true_eq_false, false_implies, true_implies, implies_true, Int.reduceDiv, Int.reduceMod, zr8_zr, zr_zbo, z01_zbo, z01_0, z01_1, zbo_eq0, zup_eq, zup_o, zup_k, ne_eq, ↓v_70, ↓g_70_0, ↓g_70_1, ↓l_71, ↓s_71, ↓n_71, ↓g_70_2, ↓l_72, ↓s_72, ↓n_72, ↓g_70_3, ↓l_73, ↓s_73, ↓n_73, ↓v_2, ↓g_2_0, ↓l_3, ↓s_3, ↓n_3, ↓g_2_1, ↓l_4, ↓s_4, ↓n_4, ↓g_2_2, ↓l_5, ↓s_5, ↓n_5, ↓g_2_3, ↓l_6, ↓s_6, ↓n_6, ↓g_2_4, ↓l_7, ↓s_7, ↓n_7, ↓g_2_5, ↓l_8, ↓s_8, ↓n_8, ↓g_2_6, ↓l_9, ↓s_9, ↓n_9, ↓g_2_7, ↓p_2_7, ↓g_2_8, ↓p_2_8, ↓g_2_9, ↓p_2_9, zc9, q']
      exact zpost hC (zbo_f (by omega))
    · have q' : (c = -1) = False := eq_false q
      have e1 : M 4 c.toNat = d9 (70 + c).toNat := by rw [H.2.1 c.toNat (by omega), show (70 + c).toNat = 70 + c.toNat by omega]
      have bd := vd.2.2.2.2.2.2.1 (70 + c).toNat (by omega) (by omega)
      have zd : zr (d9 (70 + c).toNat) = d9 (70 + c).toNat := zr_of (by omega) (by omega)
      simp only [bk_X9_isDug_0, k_X9_isDug_0, bk_X9_isDug_22, k_X9_isDug_22, bk_X9_isDug_23, k_X9_isDug_23, ↓e_rk1, ↓e_rk0, ↓e_sk0, ↓e_sks, ↓e_ldi0, ↓e_ldis, ↓e_ldl0, ↓e_ldls, ↓e_lda0, ↓e_ldas, ↓e_ok0, ↓e_okss, ↓e_ok1i, ↓e_ok1r, ↓e_ok1n, ↓e_sti, ↓e_sta, ↓e_1, ↓e_2, ↓e_l1, ↓e_l2, ↓e_li, ↓e_sw0, ↓e_sws, ↓e_ceq, ↓e_cne, ↓e_clt, ↓e_cge, ↓e_cgt, ↓e_cle, ↓e_nil, ↓e_cons, ↓e_iconst, ↓e_bipush, ↓e_sipush, ↓e_ldc, ↓e_ldcw, ↓e_ldc2, ↓e_lconst, ↓e_iloadn, ↓e_iload, ↓e_lloadn, ↓e_lload, ↓e_aloadn, ↓e_aload, ↓e_istoren, ↓e_istore, ↓e_astoren, ↓e_astore, ↓e_add, ↓e_iinc, ↓e_iadd, ↓e_isub, ↓e_imul, ↓e_iand, ↓e_ior, ↓e_ixor, ↓e_ishl, ↓e_iushr, ↓e_idiv, ↓e_irem, ↓e_ineg, ↓e_i2l, ↓e_i2b, ↓e_i2s, ↓e_l2i, ↓e_land, ↓e_lor, ↓e_lshl, ↓e_lshr, ↓e_lushr, ↓e_lcmp, ↓e_dupi, ↓e_dupr, ↓e_popi, ↓e_dup2, ↓e_goto, ↓e_if, ↓e_icmp, ↓e_tsw, ↓e_lsw, ↓e_getf, ↓e_putf, ↓e_gets, ↓e_iald, ↓e_cald, ↓e_iast, ↓e_aald, ↓e_aast, ↓e_len, ↓e_copy, ↓e_abs, ↓e_max, ↓e_min, ↓e_iret, ↓e_aret, ↓e_vret, ↓e_is0, ↓e_is1, ↓e_is2, ↓e_is3, ↓e_is4, ↓e_iv1, ↓e_iv2, ↓e_iv3, ↓e_iv4, ↓e_iv5, ↓e_iv6, ↓rt_X9_isDug, ↓reduceIte, Nat.reduceAdd, Nat.reduceEqDiff, ↓zcl0, ↓zclv, List.map_nil, List.sum_nil, List.map_cons, List.sum_cons, zcat, true_and, and_true, Nat.reduceLeDiff, Nat.reduceAdd, eq_self, forall_const, e_ok0, e_okss, e_ok1i, e_ok1r, e_ok1n, zl_m1, zl_0, zl_1, Int.reduceToNat, Int.reduceAdd, Int.reduceMul, Int.reduceSub, Int.reduceNeg, Int.reduceLT, Int.reduceLE, Int.reduceEq, not_false_eq_true, not_true_eq_false, false_implies, true_implies, implies_true, Int.reduceDiv, Int.reduceMod, zr8_zr, zr_zbo, z01_zbo, z01_0, z01_1, zbo_eq0, zup_eq, zup_o, zup_k, ne_eq, ↓v_70, ↓g_70_0, ↓g_70_1, ↓l_71, ↓s_71, ↓n_71, ↓g_70_2, ↓l_72, ↓s_72, ↓n_72, ↓g_70_3, ↓l_73, ↓s_73, ↓n_73, ↓v_2, ↓g_2_0, ↓l_3, ↓s_3, ↓n_3, ↓g_2_1, ↓l_4, ↓s_4, ↓n_4, ↓g_2_2, ↓l_5, ↓s_5, ↓n_5, ↓g_2_3, ↓l_6, ↓s_6, ↓n_6, ↓g_2_4, ↓l_7, ↓s_7, ↓n_7, ↓g_2_5, ↓l_8, ↓s_8, ↓n_8, ↓g_2_6, ↓l_9, ↓s_9, ↓n_9, ↓g_2_7, ↓p_2_7, ↓g_2_8, ↓p_2_8, ↓g_2_9, ↓p_2_9, zc9, q', e1, zd]
      repeat' (first | assumption | apply And.intro | intro _)
      all_goals first | omega | exact zpost hC (zbo_t (by omega)) | exact zpost hC (zbo_f (by omega))
def B_wway (c : Int) (w : Int) (M : Nat → Nat → Int) (post : Option ZV → (Nat → Nat → Int) → Prop) : Prop := (0 ≤ c ∧ c ≤ 63) ∧ (0 ≤ w ∧ w ≤ 3) ∧ ∃ d : Nat → Int, HR 2 M d ∧ Vd d ∧ post (some (.inl (hto d c w))) M
def C_wway : ZC := fun as h post => match as with
  | [.inr (.inr (.inl 70)), .inl c, .inl w] => h.1 = zG ∧ B_wway c w h.2 (fun v M => post v (zG, M))
  | _ => False
theorem r_wway {c : Int} {w : Int} {M : Nat → Nat → Int} {post : Option ZV → ZH → Prop} : C_wway [.inr (.inr (.inl 70)), .inl c, .inl w] (zG, M) post = B_wway c w M (fun v M => post v (zG, M)) := by show (zG = zG ∧ _) = _; simp
def ct_wway : Nat → ZC := fun n => if n = 16 then C_hbeside else if n = 62 then C_wdug else fun _ _ _ => False
theorem ct_wway_hbeside {as : List ZV} {h : ZH} {post : Option ZV → ZH → Prop} : ct_wway 16 as h post = C_hbeside as h post := rfl
theorem ct_wway_wdug {as : List ZV} {h : ZH} {post : Option ZV → ZH → Prop} : ct_wway 62 as h post = C_wdug as h post := rfl
theorem c_wway {E : ZE} {d : Nat} (hd : 2 ≤ d) : zMet E d mX9_wayAlongLeft C_wway := by
  refine zmet_of (o := 9) (ini := false) (CT := ct_wway) gd_X9_wayAlongLeft rfl (fun h => by cases h) (by omega) ?_ ?_
  · intro n as h post hh
    unfold ct_wway at hh
    by_cases c : n = 16
    · subst c; exact ⟨gd_X2_beside, 1, by omega, c_hbeside (by omega)⟩
    rw [if_neg c] at hh
    by_cases c : n = 62
    · subst c; exact ⟨gd_X9_isDug, 1, by omega, c_wdug (by omega)⟩
    rw [if_neg c] at hh
    exact hh.elim
  intro as h post hC
  match as, hC with
  | [.inr (.inr (.inl 70)), .inl c, .inl w], hC =>
    refine ⟨Nat.le_of_ble_eq_true rfl, fun X hX => bs_X9_wayAlongLeft_0 hX ?_⟩
    obtain ⟨G, M⟩ := h
    obtain ⟨hG, hC⟩ := hC
    dsimp only at hG
    subst hG
    simp only [B_wway] at hC
    show bk_X9_wayAlongLeft_0 E ct_wway X _ [some (.inr (.inr (.inl 70))), some (.inl c), some (.inl w), none, none] [] (zG, M) (0, 0)
    obtain ⟨hc, hw, d9, H, vd, hC⟩ := hC
    have J37 : ¬ opd d9 c ((w + 3) % 4) → ¬ opd d9 c w → ¬ opd d9 c ((w + 1) % 4) → ¬ opd d9 c ((w + 2) % 4) → ∀ (i x4 : Int), X 37 [some (.inr (.inr (.inl 70))), some (.inl c), some (.inl w), some (.inl i), some (.inl x4)] [] (zG, M) (0, 0) := by
      intro a1 a2 a3 a4 i x4
      refine bs_X9_wayAlongLeft_37 hX ?_
      simp only [bk_X9_wayAlongLeft_0, k_X9_wayAlongLeft_0, bk_X9_wayAlongLeft_2, k_X9_wayAlongLeft_2, bk_X9_wayAlongLeft_8, k_X9_wayAlongLeft_8, bk_X9_wayAlongLeft_15, k_X9_wayAlongLeft_15, bk_X9_wayAlongLeft_31, k_X9_wayAlongLeft_31, bk_X9_wayAlongLeft_37, k_X9_wayAlongLeft_37, ↓e_rk1, ↓e_rk0, ↓e_sk0, ↓e_sks, ↓e_ldi0, ↓e_ldis, ↓e_ldl0, ↓e_ldls, ↓e_lda0, ↓e_ldas, ↓e_ok0, ↓e_okss, ↓e_ok1i, ↓e_ok1r, ↓e_ok1n, ↓e_sti, ↓e_sta, ↓e_1, ↓e_2, ↓e_l1, ↓e_l2, ↓e_li, ↓e_sw0, ↓e_sws, ↓e_ceq, ↓e_cne, ↓e_clt, ↓e_cge, ↓e_cgt, ↓e_cle, ↓e_nil, ↓e_cons, ↓e_iconst, ↓e_bipush, ↓e_sipush, ↓e_ldc, ↓e_ldcw, ↓e_ldc2, ↓e_lconst, ↓e_iloadn, ↓e_iload, ↓e_lloadn, ↓e_lload, ↓e_aloadn, ↓e_aload, ↓e_istoren, ↓e_istore, ↓e_astoren, ↓e_astore, ↓e_add, ↓e_iinc, ↓e_iadd, ↓e_isub, ↓e_imul, ↓e_iand, ↓e_ior, ↓e_ixor, ↓e_ishl, ↓e_iushr, ↓e_idiv, ↓e_irem, ↓e_ineg, ↓e_i2l, ↓e_i2b, ↓e_i2s, ↓e_l2i, ↓e_land, ↓e_lor, ↓e_lshl, ↓e_lshr, ↓e_lushr, ↓e_lcmp, ↓e_dupi, ↓e_dupr, ↓e_popi, ↓e_dup2, ↓e_goto, ↓e_if, ↓e_icmp, ↓e_tsw, ↓e_lsw, ↓e_getf, ↓e_putf, ↓e_gets, ↓e_iald, ↓e_cald, ↓e_iast, ↓e_aald, ↓e_aast, ↓e_len, ↓e_copy, ↓e_abs, ↓e_max, ↓e_min, ↓e_iret, ↓e_aret, ↓e_vret, ↓e_is0, ↓e_is1, ↓e_is2, ↓e_is3, ↓e_is4, ↓e_iv1, ↓e_iv2, ↓e_iv3, ↓e_iv4, ↓e_iv5, ↓e_iv6, ↓rt_X9_wayAlongLeft, ↓reduceIte, Nat.reduceAdd, Nat.reduceEqDiff, ↓zcl0, ↓zclv, List.map_nil, List.sum_nil, List.map_cons, List.sum_cons, zcat, true_and, and_true, Nat.reduceLeDiff, Nat.reduceAdd, eq_self, forall_const, e_ok0, e_okss, e_ok1i, e_ok1r, e_ok1n, zl_3, zl_4, zl_6, Int.reduceToNat, Int.reduceAdd, Int.reduceMul, Int.reduceSub, Int.reduceNeg, Int.reduceLT, Int.reduceLE, Int.reduceEq, not_false_eq_true, not_true_eq_false, false_implies, true_implies, implies_true, Int.reduceDiv, Int.reduceMod, zr8_zr, zr_zbo, z01_zbo, z01_0, z01_1, zbo_eq0, zup_eq, zup_o, zup_k, ne_eq, ↓ct_wway_hbeside, ↓r_hbeside, ↓B_hbeside, ↓ct_wway_wdug, ↓r_wdug, ↓B_wdug, ↓v_70, ↓g_70_0, ↓g_70_1, ↓l_71, ↓s_71, ↓n_71, ↓g_70_2, ↓l_72, ↓s_72, ↓n_72, ↓g_70_3, ↓l_73, ↓s_73, ↓n_73]
      exact zpost hC (by unfold hto; rw [if_neg a1, if_neg a2, if_neg a3, if_neg a4])
    have step : ∀ (i : Int) (x4 : Option ZV) (v : Int), (3 ≤ i ∧ i ≤ 6) → v = (w + i) % 4 → (opd d9 c v → hto d9 c w = v) → (¬ opd d9 c v → X 31 [some (.inr (.inr (.inl 70))), some (.inl c), some (.inl w), some (.inl i), some (.inl v)] [] (zG, M) (0, 0)) → X 2 [some (.inr (.inr (.inl 70))), some (.inl c), some (.inl w), some (.inl i), x4] [] (zG, M) (0, 0) := by
      intro i x4 v hi hv s1 s2
      have zi : zr i = i := zr_of (by omega) (by omega)
      have li : (6 < i) = False := eq_false (by omega)
      have zx : zr (w + i) = w + i := zr_of (by omega) (by omega)
      have tm : (w + i).tmod 4 = v := by rw [tm_of (by omega), hv]
      refine bs_X9_wayAlongLeft_2 hX ?_
      simp only [bk_X9_wayAlongLeft_0, k_X9_wayAlongLeft_0, bk_X9_wayAlongLeft_2, k_X9_wayAlongLeft_2, bk_X9_wayAlongLeft_8, k_X9_wayAlongLeft_8, bk_X9_wayAlongLeft_15, k_X9_wayAlongLeft_15, bk_X9_wayAlongLeft_31, k_X9_wayAlongLeft_31, bk_X9_wayAlongLeft_37, k_X9_wayAlongLeft_37, ↓e_rk1, ↓e_rk0, ↓e_sk0, ↓e_sks, ↓e_ldi0, ↓e_ldis, ↓e_ldl0, ↓e_ldls, ↓e_lda0, ↓e_ldas, ↓e_ok0, ↓e_okss, ↓e_ok1i, ↓e_ok1r, ↓e_ok1n, ↓e_sti, ↓e_sta, ↓e_1, ↓e_2, ↓e_l1, ↓e_l2, ↓e_li, ↓e_sw0, ↓e_sws, ↓e_ceq, ↓e_cne, ↓e_clt, ↓e_cge, ↓e_cgt, ↓e_cle, ↓e_nil, ↓e_cons, ↓e_iconst, ↓e_bipush, ↓e_sipush, ↓e_ldc, ↓e_ldcw, ↓e_ldc2, ↓e_lconst, ↓e_iloadn, ↓e_iload, ↓e_lloadn, ↓e_lload, ↓e_aloadn, ↓e_aload, ↓e_istoren, ↓e_istore, ↓e_astoren, ↓e_astore, ↓e_add, ↓e_iinc, ↓e_iadd, ↓e_isub, ↓e_imul, ↓e_iand, ↓e_ior, ↓e_ixor, ↓e_ishl, ↓e_iushr, ↓e_idiv, ↓e_irem, ↓e_ineg, ↓e_i2l, ↓e_i2b, ↓e_i2s, ↓e_l2i, ↓e_land, ↓e_lor, ↓e_lshl, ↓e_lshr, ↓e_lushr, ↓e_lcmp, ↓e_dupi, ↓e_dupr, ↓e_popi, ↓e_dup2, ↓e_goto, ↓e_if, ↓e_icmp, ↓e_tsw, ↓e_lsw, ↓e_getf, ↓e_putf, ↓e_gets, ↓e_iald, ↓e_cald, ↓e_iast, ↓e_aald, ↓e_aast, ↓e_len, ↓e_copy, ↓e_abs, ↓e_max, ↓e_min, ↓e_iret, ↓e_aret, ↓e_vret, ↓e_is0, ↓e_is1, ↓e_is2, ↓e_is3, ↓e_is4, ↓e_iv1, ↓e_iv2, ↓e_iv3, ↓e_iv4, ↓e_iv5, ↓e_iv6, ↓rt_X9_wayAlongLeft, ↓reduceIte, Nat.reduceAdd, Nat.reduceEqDiff, ↓zcl0, ↓zclv, List.map_nil, List.sum_nil, List.map_cons, List.sum_cons, zcat, true_and, and_true, Nat.reduceLeDiff, Nat.reduceAdd, eq_self, forall_const, e_ok0, e_okss, e_ok1i, e_ok1r, e_ok1n, zl_3, zl_4, zl_6, Int.reduceToNat, Int.reduceAdd, Int.reduceMul, Int.reduceSub, Int.reduceNeg, Int.reduceLT, Int.reduceLE, Int.reduceEq, not_false_eq_true, not_true_eq_false, false_implies, true_implies, implies_true, Int.reduceDiv, Int.reduceMod, zr8_zr, zr_zbo, z01_zbo, z01_0, z01_1, zbo_eq0, zup_eq, zup_o, zup_k, ne_eq, ↓ct_wway_hbeside, ↓r_hbeside, ↓B_hbeside, ↓ct_wway_wdug, ↓r_wdug, ↓B_wdug, ↓v_70, ↓g_70_0, ↓g_70_1, ↓l_71, ↓s_71, ↓n_71, ↓g_70_2, ↓l_72, ↓s_72, ↓n_72, ↓g_70_3, ↓l_73, ↓s_73, ↓n_73, zi, li]
      refine bs_X9_wayAlongLeft_8 hX ?_
      simp only [bk_X9_wayAlongLeft_0, k_X9_wayAlongLeft_0, bk_X9_wayAlongLeft_2, k_X9_wayAlongLeft_2, bk_X9_wayAlongLeft_8, k_X9_wayAlongLeft_8, bk_X9_wayAlongLeft_15, k_X9_wayAlongLeft_15, bk_X9_wayAlongLeft_31, k_X9_wayAlongLeft_31, bk_X9_wayAlongLeft_37, k_X9_wayAlongLeft_37, ↓e_rk1, ↓e_rk0, ↓e_sk0, ↓e_sks, ↓e_ldi0, ↓e_ldis, ↓e_ldl0, ↓e_ldls, ↓e_lda0, ↓e_ldas, ↓e_ok0, ↓e_okss, ↓e_ok1i, ↓e_ok1r, ↓e_ok1n, ↓e_sti, ↓e_sta, ↓e_1, ↓e_2, ↓e_l1, ↓e_l2, ↓e_li, ↓e_sw0, ↓e_sws, ↓e_ceq, ↓e_cne, ↓e_clt, ↓e_cge, ↓e_cgt, ↓e_cle, ↓e_nil, ↓e_cons, ↓e_iconst, ↓e_bipush, ↓e_sipush, ↓e_ldc, ↓e_ldcw, ↓e_ldc2, ↓e_lconst, ↓e_iloadn, ↓e_iload, ↓e_lloadn, ↓e_lload, ↓e_aloadn, ↓e_aload, ↓e_istoren, ↓e_istore, ↓e_astoren, ↓e_astore, ↓e_add, ↓e_iinc, ↓e_iadd, ↓e_isub, ↓e_imul, ↓e_iand, ↓e_ior, ↓e_ixor, ↓e_ishl, ↓e_iushr, ↓e_idiv, ↓e_irem, ↓e_ineg, ↓e_i2l, ↓e_i2b, ↓e_i2s, ↓e_l2i, ↓e_land, ↓e_lor, ↓e_lshl, ↓e_lshr, ↓e_lushr, ↓e_lcmp, ↓e_dupi, ↓e_dupr, ↓e_popi, ↓e_dup2, ↓e_goto, ↓e_if, ↓e_icmp, ↓e_tsw, ↓e_lsw, ↓e_getf, ↓e_putf, ↓e_gets, ↓e_iald, ↓e_cald, ↓e_iast, ↓e_aald, ↓e_aast, ↓e_len, ↓e_copy, ↓e_abs, ↓e_max, ↓e_min, ↓e_iret, ↓e_aret, ↓e_vret, ↓e_is0, ↓e_is1, ↓e_is2, ↓e_is3, ↓e_is4, ↓e_iv1, ↓e_iv2, ↓e_iv3, ↓e_iv4, ↓e_iv5, ↓e_iv6, ↓rt_X9_wayAlongLeft, ↓reduceIte, Nat.reduceAdd, Nat.reduceEqDiff, ↓zcl0, ↓zclv, List.map_nil, List.sum_nil, List.map_cons, List.sum_cons, zcat, true_and, and_true, Nat.reduceLeDiff, Nat.reduceAdd, eq_self, forall_const, e_ok0, e_okss, e_ok1i, e_ok1r, e_ok1n, zl_3, zl_4, zl_6, Int.reduceToNat, Int.reduceAdd, Int.reduceMul, Int.reduceSub, Int.reduceNeg, Int.reduceLT, Int.reduceLE, Int.reduceEq, not_false_eq_true, not_true_eq_false, false_implies, true_implies, implies_true, Int.reduceDiv, Int.reduceMod, zr8_zr, zr_zbo, z01_zbo, z01_0, z01_1, zbo_eq0, zup_eq, zup_o, zup_k, ne_eq, ↓ct_wway_hbeside, ↓r_hbeside, ↓B_hbeside, ↓ct_wway_wdug, ↓r_wdug, ↓B_wdug, ↓v_70, ↓g_70_0, ↓g_70_1, ↓l_71, ↓s_71, ↓n_71, ↓g_70_2, ↓l_72, ↓s_72, ↓n_72, ↓g_70_3, ↓l_73, ↓s_73, ↓n_73, zx, tm]
      refine bs_X9_wayAlongLeft_15 hX ?_
      simp only [bk_X9_wayAlongLeft_0, k_X9_wayAlongLeft_0, bk_X9_wayAlongLeft_2, k_X9_wayAlongLeft_2, bk_X9_wayAlongLeft_8, k_X9_wayAlongLeft_8, bk_X9_wayAlongLeft_15, k_X9_wayAlongLeft_15, bk_X9_wayAlongLeft_31, k_X9_wayAlongLeft_31, bk_X9_wayAlongLeft_37, k_X9_wayAlongLeft_37, ↓e_rk1, ↓e_rk0, ↓e_sk0, ↓e_sks, ↓e_ldi0, ↓e_ldis, ↓e_ldl0, ↓e_ldls, ↓e_lda0, ↓e_ldas, ↓e_ok0, ↓e_okss, ↓e_ok1i, ↓e_ok1r, ↓e_ok1n, ↓e_sti, ↓e_sta, ↓e_1, ↓e_2, ↓e_l1, ↓e_l2, ↓e_li, ↓e_sw0, ↓e_sws, ↓e_ceq, ↓e_cne, ↓e_clt, ↓e_cge, ↓e_cgt, ↓e_cle, ↓e_nil, ↓e_cons, ↓e_iconst, ↓e_bipush, ↓e_sipush, ↓e_ldc, ↓e_ldcw, ↓e_ldc2, ↓e_lconst, ↓e_iloadn, ↓e_iload, ↓e_lloadn, ↓e_lload, ↓e_aloadn, ↓e_aload, ↓e_istoren, ↓e_istore, ↓e_astoren, ↓e_astore, ↓e_add, ↓e_iinc, ↓e_iadd, ↓e_isub, ↓e_imul, ↓e_iand, ↓e_ior, ↓e_ixor, ↓e_ishl, ↓e_iushr, ↓e_idiv, ↓e_irem, ↓e_ineg, ↓e_i2l, ↓e_i2b, ↓e_i2s, ↓e_l2i, ↓e_land, ↓e_lor, ↓e_lshl, ↓e_lshr, ↓e_lushr, ↓e_lcmp, ↓e_dupi, ↓e_dupr, ↓e_popi, ↓e_dup2, ↓e_goto, ↓e_if, ↓e_icmp, ↓e_tsw, ↓e_lsw, ↓e_getf, ↓e_putf, ↓e_gets, ↓e_iald, ↓e_cald, ↓e_iast, ↓e_aald, ↓e_aast, ↓e_len, ↓e_copy, ↓e_abs, ↓e_max, ↓e_min, ↓e_iret, ↓e_aret, ↓e_vret, ↓e_is0, ↓e_is1, ↓e_is2, ↓e_is3, ↓e_is4, ↓e_iv1, ↓e_iv2, ↓e_iv3, ↓e_iv4, ↓e_iv5, ↓e_iv6, ↓rt_X9_wayAlongLeft, ↓reduceIte, Nat.reduceAdd, Nat.reduceEqDiff, ↓zcl0, ↓zclv, List.map_nil, List.sum_nil, List.map_cons, List.sum_cons, zcat, true_and, and_true, Nat.reduceLeDiff, Nat.reduceAdd, eq_self, forall_const, e_ok0, e_okss, e_ok1i, e_ok1r, e_ok1n, zl_3, zl_4, zl_6, Int.reduceToNat, Int.reduceAdd, Int.reduceMul, Int.reduceSub, Int.reduceNeg, Int.reduceLT, Int.reduceLE, Int.reduceEq, not_false_eq_true, not_true_eq_false, false_implies, true_implies, implies_true, Int.reduceDiv, Int.reduceMod, zr8_zr, zr_zbo, z01_zbo, z01_0, z01_1, zbo_eq0, zup_eq, zup_o, zup_k, ne_eq, ↓ct_wway_hbeside, ↓r_hbeside, ↓B_hbeside, ↓ct_wway_wdug, ↓r_wdug, ↓B_wdug, ↓v_70, ↓g_70_0, ↓g_70_1, ↓l_71, ↓s_71, ↓n_71, ↓g_70_2, ↓l_72, ↓s_72, ↓n_72, ↓g_70_3, ↓l_73, ↓s_73, ↓n_73, zr_zbo, zbo_eq0]
      have br := bsd_rng (w := v) hc.1 hc.2
      refine ⟨hc.1, hc.2, ⟨by omega, by omega⟩, br, d9, H, vd, fun e => ?_, fun e => ?_⟩
      · exact s2 e
      · exact zpost hC (s1 (Classical.byContradiction e))
    have nxt : ∀ (i v : Int), X 2 [some (.inr (.inr (.inl 70))), some (.inl c), some (.inl w), some (.inl (i + 1)), some (.inl v)] [] (zG, M) (0, 0) → X 31 [some (.inr (.inr (.inl 70))), some (.inl c), some (.inl w), some (.inl i), some (.inl v)] [] (zG, M) (0, 0) := by
      intro i v h9
      refine bs_X9_wayAlongLeft_31 hX ?_
      simp only [bk_X9_wayAlongLeft_0, k_X9_wayAlongLeft_0, bk_X9_wayAlongLeft_2, k_X9_wayAlongLeft_2, bk_X9_wayAlongLeft_8, k_X9_wayAlongLeft_8, bk_X9_wayAlongLeft_15, k_X9_wayAlongLeft_15, bk_X9_wayAlongLeft_31, k_X9_wayAlongLeft_31, bk_X9_wayAlongLeft_37, k_X9_wayAlongLeft_37, ↓e_rk1, ↓e_rk0, ↓e_sk0, ↓e_sks, ↓e_ldi0, ↓e_ldis, ↓e_ldl0, ↓e_ldls, ↓e_lda0, ↓e_ldas, ↓e_ok0, ↓e_okss, ↓e_ok1i, ↓e_ok1r, ↓e_ok1n, ↓e_sti, ↓e_sta, ↓e_1, ↓e_2, ↓e_l1, ↓e_l2, ↓e_li, ↓e_sw0, ↓e_sws, ↓e_ceq, ↓e_cne, ↓e_clt, ↓e_cge, ↓e_cgt, ↓e_cle, ↓e_nil, ↓e_cons, ↓e_iconst, ↓e_bipush, ↓e_sipush, ↓e_ldc, ↓e_ldcw, ↓e_ldc2, ↓e_lconst, ↓e_iloadn, ↓e_iload, ↓e_lloadn, ↓e_lload, ↓e_aloadn, ↓e_aload, ↓e_istoren, ↓e_istore, ↓e_astoren, ↓e_astore, ↓e_add, ↓e_iinc, ↓e_iadd, ↓e_isub, ↓e_imul, ↓e_iand, ↓e_ior, ↓e_ixor, ↓e_ishl, ↓e_iushr, ↓e_idiv, ↓e_irem, ↓e_ineg, ↓e_i2l, ↓e_i2b, ↓e_i2s, ↓e_l2i, ↓e_land, ↓e_lor, ↓e_lshl, ↓e_lshr, ↓e_lushr, ↓e_lcmp, ↓e_dupi, ↓e_dupr, ↓e_popi, ↓e_dup2, ↓e_goto, ↓e_if, ↓e_icmp, ↓e_tsw, ↓e_lsw, ↓e_getf, ↓e_putf, ↓e_gets, ↓e_iald, ↓e_cald, ↓e_iast, ↓e_aald, ↓e_aast, ↓e_len, ↓e_copy, ↓e_abs, ↓e_max, ↓e_min, ↓e_iret, ↓e_aret, ↓e_vret, ↓e_is0, ↓e_is1, ↓e_is2, ↓e_is3, ↓e_is4, ↓e_iv1, ↓e_iv2, ↓e_iv3, ↓e_iv4, ↓e_iv5, ↓e_iv6, ↓rt_X9_wayAlongLeft, ↓reduceIte, Nat.reduceAdd, Nat.reduceEqDiff, ↓zcl0, ↓zclv, List.map_nil, List.sum_nil, List.map_cons, List.sum_cons, zcat, true_and, and_true, Nat.reduceLeDiff, Nat.reduceAdd, eq_self, forall_const, e_ok0, e_okss, e_ok1i, e_ok1r, e_ok1n, zl_3, zl_4, zl_6, Int.reduceToNat, Int.reduceAdd, Int.reduceMul, Int.reduceSub, Int.reduceNeg, Int.reduceLT, Int.reduceLE, Int.reduceEq, not_false_eq_true, not_true_eq_false, false_implies, true_implies, implies_true, Int.reduceDiv, Int.reduceMod, zr8_zr, zr_zbo, z01_zbo, z01_0, z01_1, zbo_eq0, zup_eq, zup_o, zup_k, ne_eq, ↓ct_wway_hbeside, ↓r_hbeside, ↓B_hbeside, ↓ct_wway_wdug, ↓r_wdug, ↓B_wdug, ↓v_70, ↓g_70_0, ↓g_70_1, ↓l_71, ↓s_71, ↓n_71, ↓g_70_2, ↓l_72, ↓s_72, ↓n_72, ↓g_70_3, ↓l_73, ↓s_73, ↓n_73]
      exact h9
    have lst : ∀ v : Int, ¬ opd d9 c ((w + 3) % 4) → ¬ opd d9 c w → ¬ opd d9 c ((w + 1) % 4) → ¬ opd d9 c ((w + 2) % 4) → X 2 [some (.inr (.inr (.inl 70))), some (.inl c), some (.inl w), some (.inl ((7 : Int))), some (.inl v)] [] (zG, M) (0, 0) := by
      intro v a1 a2 a3 a4
      refine bs_X9_wayAlongLeft_2 hX ?_
      have z7 : zr 7 = 7 := rfl
      simp only [bk_X9_wayAlongLeft_0, k_X9_wayAlongLeft_0, bk_X9_wayAlongLeft_2, k_X9_wayAlongLeft_2, bk_X9_wayAlongLeft_8, k_X9_wayAlongLeft_8, bk_X9_wayAlongLeft_15, k_X9_wayAlongLeft_15, bk_X9_wayAlongLeft_31, k_X9_wayAlongLeft_31, bk_X9_wayAlongLeft_37, k_X9_wayAlongLeft_37, ↓e_rk1, ↓e_rk0, ↓e_sk0, ↓e_sks, ↓e_ldi0, ↓e_ldis, ↓e_ldl0, ↓e_ldls, ↓e_lda0, ↓e_ldas, ↓e_ok0, ↓e_okss, ↓e_ok1i, ↓e_ok1r, ↓e_ok1n, ↓e_sti, ↓e_sta, ↓e_1, ↓e_2, ↓e_l1, ↓e_l2, ↓e_li, ↓e_sw0, ↓e_sws, ↓e_ceq, ↓e_cne, ↓e_clt, ↓e_cge, ↓e_cgt, ↓e_cle, ↓e_nil, ↓e_cons, ↓e_iconst, ↓e_bipush, ↓e_sipush, ↓e_ldc, ↓e_ldcw, ↓e_ldc2, ↓e_lconst, ↓e_iloadn, ↓e_iload, ↓e_lloadn, ↓e_lload, ↓e_aloadn, ↓e_aload, ↓e_istoren, ↓e_istore, ↓e_astoren, ↓e_astore, ↓e_add, ↓e_iinc, ↓e_iadd, ↓e_isub, ↓e_imul, ↓e_iand, ↓e_ior, ↓e_ixor, ↓e_ishl, ↓e_iushr, ↓e_idiv, ↓e_irem, ↓e_ineg, ↓e_i2l, ↓e_i2b, ↓e_i2s, ↓e_l2i, ↓e_land, ↓e_lor, ↓e_lshl, ↓e_lshr, ↓e_lushr, ↓e_lcmp, ↓e_dupi, ↓e_dupr, ↓e_popi, ↓e_dup2, ↓e_goto, ↓e_if, ↓e_icmp, ↓e_tsw, ↓e_lsw, ↓e_getf, ↓e_putf, ↓e_gets, ↓e_iald, ↓e_cald, ↓e_iast, ↓e_aald, ↓e_aast, ↓e_len, ↓e_copy, ↓e_abs, ↓e_max, ↓e_min, ↓e_iret, ↓e_aret, ↓e_vret, ↓e_is0, ↓e_is1, ↓e_is2, ↓e_is3, ↓e_is4, ↓e_iv1, ↓e_iv2, ↓e_iv3, ↓e_iv4, ↓e_iv5, ↓e_iv6, ↓rt_X9_wayAlongLeft, ↓reduceIte, Nat.reduceAdd, Nat.reduceEqDiff, ↓zcl0, ↓zclv, List.map_nil, List.sum_nil, List.map_cons, List.sum_cons, zcat, true_and, and_true, Nat.reduceLeDiff, Nat.reduceAdd, eq_self, forall_const, e_ok0, e_okss, e_ok1i, e_ok1r, e_ok1n, zl_3, zl_4, zl_6, Int.reduceToNat, Int.reduceAdd, Int.reduceMul, Int.reduceSub, Int.reduceNeg, Int.reduceLT, Int.reduceLE, Int.reduceEq, not_false_eq_true, not_true_eq_false, false_implies, true_implies, implies_true, Int.reduceDiv, Int.reduceMod, zr8_zr, zr_zbo, z01_zbo, z01_0, z01_1, zbo_eq0, zup_eq, zup_o, zup_k, ne_eq, ↓ct_wway_hbeside, ↓r_hbeside, ↓B_hbeside, ↓ct_wway_wdug, ↓r_wdug, ↓B_wdug, ↓v_70, ↓g_70_0, ↓g_70_1, ↓l_71, ↓s_71, ↓n_71, ↓g_70_2, ↓l_72, ↓s_72, ↓n_72, ↓g_70_3, ↓l_73, ↓s_73, ↓n_73, z7]
      exact J37 a1 a2 a3 a4 _ _
    simp only [bk_X9_wayAlongLeft_0, k_X9_wayAlongLeft_0, bk_X9_wayAlongLeft_2, k_X9_wayAlongLeft_2, bk_X9_wayAlongLeft_8, k_X9_wayAlongLeft_8, bk_X9_wayAlongLeft_15, k_X9_wayAlongLeft_15, bk_X9_wayAlongLeft_31, k_X9_wayAlongLeft_31, bk_X9_wayAlongLeft_37, k_X9_wayAlongLeft_37, ↓e_rk1, ↓e_rk0, ↓e_sk0, ↓e_sks, ↓e_ldi0, ↓e_ldis, ↓e_ldl0, ↓e_ldls, ↓e_lda0, ↓e_ldas, ↓e_ok0, ↓e_okss, ↓e_ok1i, ↓e_ok1r, ↓e_ok1n, ↓e_sti, ↓e_sta, ↓e_1, ↓e_2, ↓e_l1, ↓e_l2, ↓e_li, ↓e_sw0, ↓e_sws, ↓e_ceq, ↓e_cne, ↓e_clt, ↓e_cge, ↓e_cgt, ↓e_cle, ↓e_nil, ↓e_cons, ↓e_iconst, ↓e_bipush, ↓e_sipush, ↓e_ldc, ↓e_ldcw, ↓e_ldc2, ↓e_lconst, ↓e_iloadn, ↓e_iload, ↓e_lloadn, ↓e_lload, ↓e_aloadn, ↓e_aload, ↓e_istoren, ↓e_istore, ↓e_astoren, ↓e_astore, ↓e_add, ↓e_iinc, ↓e_iadd, ↓e_isub, ↓e_imul, ↓e_iand, ↓e_ior, ↓e_ixor, ↓e_ishl, ↓e_iushr, ↓e_idiv, ↓e_irem, ↓e_ineg, ↓e_i2l, ↓e_i2b, ↓e_i2s, ↓e_l2i, ↓e_land, ↓e_lor, ↓e_lshl, ↓e_lshr, ↓e_lushr, ↓e_lcmp, ↓e_dupi, ↓e_dupr, ↓e_popi, ↓e_dup2, ↓e_goto, ↓e_if, ↓e_icmp, ↓e_tsw, ↓e_lsw, ↓e_getf, ↓e_putf, ↓e_gets, ↓e_iald, ↓e_cald, ↓e_iast, ↓e_aald, ↓e_aast, ↓e_len, ↓e_copy, ↓e_abs, ↓e_max, ↓e_min, ↓e_iret, ↓e_aret, ↓e_vret, ↓e_is0, ↓e_is1, ↓e_is2, ↓e_is3, ↓e_is4, ↓e_iv1, ↓e_iv2, ↓e_iv3, ↓e_iv4, ↓e_iv5, ↓e_iv6, ↓rt_X9_wayAlongLeft, ↓reduceIte, Nat.reduceAdd, Nat.reduceEqDiff, ↓zcl0, ↓zclv, List.map_nil, List.sum_nil, List.map_cons, List.sum_cons, zcat, true_and, and_true, Nat.reduceLeDiff, Nat.reduceAdd, eq_self, forall_const, e_ok0, e_okss, e_ok1i, e_ok1r, e_ok1n, zl_3, zl_4, zl_6, Int.reduceToNat, Int.reduceAdd, Int.reduceMul, Int.reduceSub, Int.reduceNeg, Int.reduceLT, Int.reduceLE, Int.reduceEq, not_false_eq_true, not_true_eq_false, false_implies, true_implies, implies_true, Int.reduceDiv, Int.reduceMod, zr8_zr, zr_zbo, z01_zbo, z01_0, z01_1, zbo_eq0, zup_eq, zup_o, zup_k, ne_eq, ↓ct_wway_hbeside, ↓r_hbeside, ↓B_hbeside, ↓ct_wway_wdug, ↓r_wdug, ↓B_wdug, ↓v_70, ↓g_70_0, ↓g_70_1, ↓l_71, ↓s_71, ↓n_71, ↓g_70_2, ↓l_72, ↓s_72, ↓n_72, ↓g_70_3, ↓l_73, ↓s_73, ↓n_73]
    refine step 3 _ ((w + 3) % 4) (by omega) rfl (fun a => by unfold hto; rw [if_pos a]) (fun a1 => nxt 3 _ ?_)
    refine step 4 _ w (by omega) (by omega) (fun a => by unfold hto; rw [if_neg a1, if_pos a]) (fun a2 => nxt 4 _ ?_)
    refine step 5 _ ((w + 1) % 4) (by omega) (by omega) (fun a => by unfold hto; rw [if_neg a1, if_neg a2, if_pos a]) (fun a3 => nxt 5 _ ?_)
    refine step 6 _ ((w + 2) % 4) (by omega) (by omega) (fun a => by unfold hto; rw [if_neg a1, if_neg a2, if_neg a3, if_pos a]) (fun a4 => nxt 6 _ ?_)
    exact lst _ a1 a2 a3 a4
theorem hnd_fix {d : Nat → Int} {p : Int × Int} {k : Nat} (h : hto d (hnd d p k).1 (hnd d p k).2 = 4) : ∀ j : Nat, hnd d p (k + j) = hnd d p k
  | 0 => rfl
  | j + 1 => by
    have i := hnd_fix h j
    show hst d (hnd d p (k + j)) = _
    rw [i]
    unfold hst
    rw [if_pos h]
def B_walong (c : Int) (w : Int) (n : Int) (M : Nat → Nat → Int) (post : Option ZV → (Nat → Nat → Int) → Prop) : Prop := (0 ≤ c ∧ c ≤ 63) ∧ (0 ≤ w ∧ w ≤ 3) ∧ (0 ≤ n ∧ n ≤ 200) ∧ ∃ d : Nat → Int, HR 2 M d ∧ Vd d ∧ post (some (.inl (hnd d (c, w) n.toNat).1)) M
def C_walong : ZC := fun as h post => match as with
  | [.inr (.inr (.inl 70)), .inl c, .inl w, .inl n] => h.1 = zG ∧ B_walong c w n h.2 (fun v M => post v (zG, M))
  | _ => False
theorem r_walong {c : Int} {w : Int} {n : Int} {M : Nat → Nat → Int} {post : Option ZV → ZH → Prop} : C_walong [.inr (.inr (.inl 70)), .inl c, .inl w, .inl n] (zG, M) post = B_walong c w n M (fun v M => post v (zG, M)) := by show (zG = zG ∧ _) = _; simp
def ct_walong : Nat → ZC := fun n => if n = 64 then C_wway else if n = 16 then C_hbeside else fun _ _ _ => False
theorem ct_walong_wway {as : List ZV} {h : ZH} {post : Option ZV → ZH → Prop} : ct_walong 64 as h post = C_wway as h post := rfl
theorem ct_walong_hbeside {as : List ZV} {h : ZH} {post : Option ZV → ZH → Prop} : ct_walong 16 as h post = C_hbeside as h post := rfl
theorem c_walong {E : ZE} {d : Nat} (hd : 3 ≤ d) : zMet E d mX9_alongLeft C_walong := by
  refine zmet_of (o := 9) (ini := false) (CT := ct_walong) gd_X9_alongLeft rfl (fun h => by cases h) (by omega) ?_ ?_
  · intro n as h post hh
    unfold ct_walong at hh
    by_cases c : n = 64
    · subst c; exact ⟨gd_X9_wayAlongLeft, 2, by omega, c_wway (by omega)⟩
    rw [if_neg c] at hh
    by_cases c : n = 16
    · subst c; exact ⟨gd_X2_beside, 1, by omega, c_hbeside (by omega)⟩
    rw [if_neg c] at hh
    exact hh.elim
  intro as h post hC
  match as, hC with
  | [.inr (.inr (.inl 70)), .inl c, .inl w, .inl n], hC =>
    refine ⟨Nat.le_of_ble_eq_true rfl, fun X hX => bs_X9_alongLeft_0 hX ?_⟩
    obtain ⟨G, M⟩ := h
    obtain ⟨hG, hC⟩ := hC
    dsimp only at hG
    subst hG
    simp only [B_walong] at hC
    show bk_X9_alongLeft_0 E ct_walong X _ [some (.inr (.inr (.inl 70))), some (.inl c), some (.inl w), some (.inl n), none, none, none, none] [] (zG, M) (0, 0)
    obtain ⟨hc, hw, hn, d9, H, vd, hC⟩ := hC
    have zn : zr n = n := zr_of (by omega) (by omega)
    have J53 : ∀ (k : Nat) (a b : Int) (x7 : Option ZV), hnd d9 (c, w) n.toNat = (a, b) → X 53 [some (.inr (.inr (.inl 70))), some (.inl c), some (.inl w), some (.inl n), some (.inl a), some (.inl b), some (.inl ((k : Int))), x7] [] (zG, M) (0, 0) := by
      intro k a b x7 e
      refine bs_X9_alongLeft_53 hX ?_
      simp only [bk_X9_alongLeft_0, k_X9_alongLeft_0, bk_X9_alongLeft_9, k_X9_alongLeft_9, bk_X9_alongLeft_15, k_X9_alongLeft_15, bk_X9_alongLeft_25, k_X9_alongLeft_25, bk_X9_alongLeft_34, k_X9_alongLeft_34, bk_X9_alongLeft_53, k_X9_alongLeft_53, ↓e_rk1, ↓e_rk0, ↓e_sk0, ↓e_sks, ↓e_ldi0, ↓e_ldis, ↓e_ldl0, ↓e_ldls, ↓e_lda0, ↓e_ldas, ↓e_ok0, ↓e_okss, ↓e_ok1i, ↓e_ok1r, ↓e_ok1n, ↓e_sti, ↓e_sta, ↓e_1, ↓e_2, ↓e_l1, ↓e_l2, ↓e_li, ↓e_sw0, ↓e_sws, ↓e_ceq, ↓e_cne, ↓e_clt, ↓e_cge, ↓e_cgt, ↓e_cle, ↓e_nil, ↓e_cons, ↓e_iconst, ↓e_bipush, ↓e_sipush, ↓e_ldc, ↓e_ldcw, ↓e_ldc2, ↓e_lconst, ↓e_iloadn, ↓e_iload, ↓e_lloadn, ↓e_lload, ↓e_aloadn, ↓e_aload, ↓e_istoren, ↓e_istore, ↓e_astoren, ↓e_astore, ↓e_add, ↓e_iinc, ↓e_iadd, ↓e_isub, ↓e_imul, ↓e_iand, ↓e_ior, ↓e_ixor, ↓e_ishl, ↓e_iushr, ↓e_idiv, ↓e_irem, ↓e_ineg, ↓e_i2l, ↓e_i2b, ↓e_i2s, ↓e_l2i, ↓e_land, ↓e_lor, ↓e_lshl, ↓e_lshr, ↓e_lushr, ↓e_lcmp, ↓e_dupi, ↓e_dupr, ↓e_popi, ↓e_dup2, ↓e_goto, ↓e_if, ↓e_icmp, ↓e_tsw, ↓e_lsw, ↓e_getf, ↓e_putf, ↓e_gets, ↓e_iald, ↓e_cald, ↓e_iast, ↓e_aald, ↓e_aast, ↓e_len, ↓e_copy, ↓e_abs, ↓e_max, ↓e_min, ↓e_iret, ↓e_aret, ↓e_vret, ↓e_is0, ↓e_is1, ↓e_is2, ↓e_is3, ↓e_is4, ↓e_iv1, ↓e_iv2, ↓e_iv3, ↓e_iv4, ↓e_iv5, ↓e_iv6, ↓rt_X9_alongLeft, ↓reduceIte, Nat.reduceAdd, Nat.reduceEqDiff, ↓zcl0, ↓zclv, List.map_nil, List.sum_nil, List.map_cons, List.sum_cons, zcat, true_and, and_true, Nat.reduceLeDiff, Nat.reduceAdd, eq_self, forall_const, e_ok0, e_okss, e_ok1i, e_ok1r, e_ok1n, zl_0, zl_4, Int.reduceToNat, Int.reduceAdd, Int.reduceMul, Int.reduceSub, Int.reduceNeg, Int.reduceLT, Int.reduceLE, Int.reduceEq, not_false_eq_true, not_true_eq_false, false_implies, true_implies, implies_true, Int.reduceDiv, Int.reduceMod, zr8_zr, zr_zbo, z01_zbo, z01_0, z01_1, zbo_eq0, zup_eq, zup_o, zup_k, ne_eq, ↓ct_walong_wway, ↓r_wway, ↓B_wway, ↓ct_walong_hbeside, ↓r_hbeside, ↓B_hbeside, ↓v_70, ↓g_70_0, ↓g_70_1, ↓l_71, ↓s_71, ↓n_71, ↓g_70_2, ↓l_72, ↓s_72, ↓n_72, ↓g_70_3, ↓l_73, ↓s_73, ↓n_73]
      exact zpost hC (by rw [e])
    have lp : ∀ (j k : Nat) (x7 : Option ZV), j + k = n.toNat → X 9 [some (.inr (.inr (.inl 70))), some (.inl c), some (.inl w), some (.inl n), some (.inl ((hnd d9 (c, w) k).1)), some (.inl ((hnd d9 (c, w) k).2)), some (.inl ((k : Int))), x7] [] (zG, M) (0, 0) := by
      intro j
      induction j with
      | zero =>
        intro k x7 hk
        refine bs_X9_alongLeft_9 hX ?_
        have zk : zr (k : Int) = k := zr_of (by omega) (by omega)
        have lk : ((k : Int) < n) = False := eq_false (by omega)
        simp only [bk_X9_alongLeft_0, k_X9_alongLeft_0, bk_X9_alongLeft_9, k_X9_alongLeft_9, bk_X9_alongLeft_15, k_X9_alongLeft_15, bk_X9_alongLeft_25, k_X9_alongLeft_25, bk_X9_alongLeft_34, k_X9_alongLeft_34, bk_X9_alongLeft_53, k_X9_alongLeft_53, ↓e_rk1, ↓e_rk0, ↓e_sk0, ↓e_sks, ↓e_ldi0, ↓e_ldis, ↓e_ldl0, ↓e_ldls, ↓e_lda0, ↓e_ldas, ↓e_ok0, ↓e_okss, ↓e_ok1i, ↓e_ok1r, ↓e_ok1n, ↓e_sti, ↓e_sta, ↓e_1, ↓e_2, ↓e_l1, ↓e_l2, ↓e_li, ↓e_sw0, ↓e_sws, ↓e_ceq, ↓e_cne, ↓e_clt, ↓e_cge, ↓e_cgt, ↓e_cle, ↓e_nil, ↓e_cons, ↓e_iconst, ↓e_bipush, ↓e_sipush, ↓e_ldc, ↓e_ldcw, ↓e_ldc2, ↓e_lconst, ↓e_iloadn, ↓e_iload, ↓e_lloadn, ↓e_lload, ↓e_aloadn, ↓e_aload, ↓e_istoren, ↓e_istore, ↓e_astoren, ↓e_astore, ↓e_add, ↓e_iinc, ↓e_iadd, ↓e_isub, ↓e_imul, ↓e_iand, ↓e_ior, ↓e_ixor, ↓e_ishl, ↓e_iushr, ↓e_idiv, ↓e_irem, ↓e_ineg, ↓e_i2l, ↓e_i2b, ↓e_i2s, ↓e_l2i, ↓e_land, ↓e_lor, ↓e_lshl, ↓e_lshr, ↓e_lushr, ↓e_lcmp, ↓e_dupi, ↓e_dupr, ↓e_popi, ↓e_dup2, ↓e_goto, ↓e_if, ↓e_icmp, ↓e_tsw, ↓e_lsw, ↓e_getf, ↓e_putf, ↓e_gets, ↓e_iald, ↓e_cald, ↓e_iast, ↓e_aald, ↓e_aast, ↓e_len, ↓e_copy, ↓e_abs, ↓e_max, ↓e_min, ↓e_iret, ↓e_aret, ↓e_vret, ↓e_is0, ↓e_is1, ↓e_is2, ↓e_is3, ↓e_is4, ↓e_iv1, ↓e_iv2, ↓e_iv3, ↓e_iv4, ↓e_iv5, ↓e_iv6, ↓rt_X9_alongLeft, ↓reduceIte, Nat.reduceAdd, Nat.reduceEqDiff, ↓zcl0, ↓zclv, List.map_nil, List.sum_nil, List.map_cons, List.sum_cons, zcat, true_and, and_true, Nat.reduceLeDiff, Nat.reduceAdd, eq_self, forall_const, e_ok0, e_okss, e_ok1i, e_ok1r, e_ok1n, zl_0, zl_4, Int.reduceToNat, Int.reduceAdd, Int.reduceMul, Int.reduceSub, Int.reduceNeg, Int.reduceLT, Int.reduceLE, Int.reduceEq, not_false_eq_true, not_true_eq_false, false_implies, true_implies, implies_true, Int.reduceDiv, Int.reduceMod, zr8_zr, zr_zbo, z01_zbo, z01_0, z01_1, zbo_eq0, zup_eq, zup_o, zup_k, ne_eq, ↓ct_walong_wway, ↓r_wway, ↓B_wway, ↓ct_walong_hbeside, ↓r_hbeside, ↓B_hbeside, ↓v_70, ↓g_70_0, ↓g_70_1, ↓l_71, ↓s_71, ↓n_71, ↓g_70_2, ↓l_72, ↓s_72, ↓n_72, ↓g_70_3, ↓l_73, ↓s_73, ↓n_73, zk, zn, lk]
        exact J53 k _ _ _ (by rw [show n.toNat = k by omega])
      | succ j ih =>
        intro k x7 hk
        refine bs_X9_alongLeft_9 hX ?_
        have zk : zr (k : Int) = k := zr_of (by omega) (by omega)
        have lk : ((k : Int) < n) = True := eq_true (by omega)
        have hr := hnd_rng (d := d9) (p := (c, w)) ⟨hc, hw⟩ k
        have nx := fun x7 => ih (k + 1) x7 (by omega)
        have es : hnd d9 (c, w) (k + 1) = hst d9 (hnd d9 (c, w) k) := rfl
        have fx := hnd_fix (d := d9) (p := (c, w)) (k := k)
        rw [es] at nx
        obtain ⟨p, hp⟩ : ∃ p, hnd d9 (c, w) k = p := ⟨_, rfl⟩
        rw [hp] at hr nx fx ⊢
        obtain ⟨pc, pw⟩ := p
        dsimp only at hr fx ⊢
        have tr := hto_rng (d := d9) (c := pc) hr.2.1 hr.2.2
        obtain ⟨t, ht⟩ : ∃ t, hto d9 pc pw = t := ⟨_, rfl⟩
        have zt : zr t = t := zr_of (by omega) (by omega)
        simp only [bk_X9_alongLeft_0, k_X9_alongLeft_0, bk_X9_alongLeft_9, k_X9_alongLeft_9, bk_X9_alongLeft_15, k_X9_alongLeft_15, bk_X9_alongLeft_25, k_X9_alongLeft_25, bk_X9_alongLeft_34, k_X9_alongLeft_34, bk_X9_alongLeft_53, k_X9_alongLeft_53, ↓e_rk1, ↓e_rk0, ↓e_sk0, ↓e_sks, ↓e_ldi0, ↓e_ldis, ↓e_ldl0, ↓e_ldls, ↓e_lda0, ↓e_ldas, ↓e_ok0, ↓e_okss, ↓e_ok1i, ↓e_ok1r, ↓e_ok1n, ↓e_sti, ↓e_sta, ↓e_1, ↓e_2, ↓e_l1, ↓e_l2, ↓e_li, ↓e_sw0, ↓e_sws, ↓e_ceq, ↓e_cne, ↓e_clt, ↓e_cge, ↓e_cgt, ↓e_cle, ↓e_nil, ↓e_cons, ↓e_iconst, ↓e_bipush, ↓e_sipush, ↓e_ldc, ↓e_ldcw, ↓e_ldc2, ↓e_lconst, ↓e_iloadn, ↓e_iload, ↓e_lloadn, ↓e_lload, ↓e_aloadn, ↓e_aload, ↓e_istoren, ↓e_istore, ↓e_astoren, ↓e_astore, ↓e_add, ↓e_iinc, ↓e_iadd, ↓e_isub, ↓e_imul, ↓e_iand, ↓e_ior, ↓e_ixor, ↓e_ishl, ↓e_iushr, ↓e_idiv, ↓e_irem, ↓e_ineg, ↓e_i2l, ↓e_i2b, ↓e_i2s, ↓e_l2i, ↓e_land, ↓e_lor, ↓e_lshl, ↓e_lshr, ↓e_lushr, ↓e_lcmp, ↓e_dupi, ↓e_dupr, ↓e_popi, ↓e_dup2, ↓e_goto, ↓e_if, ↓e_icmp, ↓e_tsw, ↓e_lsw, ↓e_getf, ↓e_putf, ↓e_gets, ↓e_iald, ↓e_cald, ↓e_iast, ↓e_aald, ↓e_aast, ↓e_len, ↓e_copy, ↓e_abs, ↓e_max, ↓e_min, ↓e_iret, ↓e_aret, ↓e_vret, ↓e_is0, ↓e_is1, ↓e_is2, ↓e_is3, ↓e_is4, ↓e_iv1, ↓e_iv2, ↓e_iv3, ↓e_iv4, ↓e_iv5, ↓e_iv6, ↓rt_X9_alongLeft, ↓reduceIte, Nat.reduceAdd, Nat.reduceEqDiff, ↓zcl0, ↓zclv, List.map_nil, List.sum_nil, List.map_cons, List.sum_cons, zcat, true_and, and_true, Nat.reduceLeDiff, Nat.reduceAdd, eq_self, forall_const, e_ok0, e_okss, e_ok1i, e_ok1r, e_ok1n, zl_0, zl_4, Int.reduceToNat, Int.reduceAdd, Int.reduceMul, Int.reduceSub, Int.reduceNeg, Int.reduceLT, Int.reduceLE, Int.reduceEq, not_false_eq_true, not_true_eq_false, false_implies, true_implies, implies_true, Int.reduceDiv, Int.reduceMod, zr8_zr, zr_zbo, z01_zbo, z01_0, z01_1, zbo_eq0, zup_eq, zup_o, zup_k, ne_eq, ↓ct_walong_wway, ↓r_wway, ↓B_wway, ↓ct_walong_hbeside, ↓r_hbeside, ↓B_hbeside, ↓v_70, ↓g_70_0, ↓g_70_1, ↓l_71, ↓s_71, ↓n_71, ↓g_70_2, ↓l_72, ↓s_72, ↓n_72, ↓g_70_3, ↓l_73, ↓s_73, ↓n_73, zk, zn, lk]
        refine bs_X9_alongLeft_15 hX ?_
        simp only [bk_X9_alongLeft_0, k_X9_alongLeft_0, bk_X9_alongLeft_9, k_X9_alongLeft_9, bk_X9_alongLeft_15, k_X9_alongLeft_15, bk_X9_alongLeft_25, k_X9_alongLeft_25, bk_X9_alongLeft_34, k_X9_alongLeft_34, bk_X9_alongLeft_53, k_X9_alongLeft_53, ↓e_rk1, ↓e_rk0, ↓e_sk0, ↓e_sks, ↓e_ldi0, ↓e_ldis, ↓e_ldl0, ↓e_ldls, ↓e_lda0, ↓e_ldas, ↓e_ok0, ↓e_okss, ↓e_ok1i, ↓e_ok1r, ↓e_ok1n, ↓e_sti, ↓e_sta, ↓e_1, ↓e_2, ↓e_l1, ↓e_l2, ↓e_li, ↓e_sw0, ↓e_sws, ↓e_ceq, ↓e_cne, ↓e_clt, ↓e_cge, ↓e_cgt, ↓e_cle, ↓e_nil, ↓e_cons, ↓e_iconst, ↓e_bipush, ↓e_sipush, ↓e_ldc, ↓e_ldcw, ↓e_ldc2, ↓e_lconst, ↓e_iloadn, ↓e_iload, ↓e_lloadn, ↓e_lload, ↓e_aloadn, ↓e_aload, ↓e_istoren, ↓e_istore, ↓e_astoren, ↓e_astore, ↓e_add, ↓e_iinc, ↓e_iadd, ↓e_isub, ↓e_imul, ↓e_iand, ↓e_ior, ↓e_ixor, ↓e_ishl, ↓e_iushr, ↓e_idiv, ↓e_irem, ↓e_ineg, ↓e_i2l, ↓e_i2b, ↓e_i2s, ↓e_l2i, ↓e_land, ↓e_lor, ↓e_lshl, ↓e_lshr, ↓e_lushr, ↓e_lcmp, ↓e_dupi, ↓e_dupr, ↓e_popi, ↓e_dup2, ↓e_goto, ↓e_if, ↓e_icmp, ↓e_tsw, ↓e_lsw, ↓e_getf, ↓e_putf, ↓e_gets, ↓e_iald, ↓e_cald, ↓e_iast, ↓e_aald, ↓e_aast, ↓e_len, ↓e_copy, ↓e_abs, ↓e_max, ↓e_min, ↓e_iret, ↓e_aret, ↓e_vret, ↓e_is0, ↓e_is1, ↓e_is2, ↓e_is3, ↓e_is4, ↓e_iv1, ↓e_iv2, ↓e_iv3, ↓e_iv4, ↓e_iv5, ↓e_iv6, ↓rt_X9_alongLeft, ↓reduceIte, Nat.reduceAdd, Nat.reduceEqDiff, ↓zcl0, ↓zclv, List.map_nil, List.sum_nil, List.map_cons, List.sum_cons, zcat, true_and, and_true, Nat.reduceLeDiff, Nat.reduceAdd, eq_self, forall_const, e_ok0, e_okss, e_ok1i, e_ok1r, e_ok1n, zl_0, zl_4, Int.reduceToNat, Int.reduceAdd, Int.reduceMul, Int.reduceSub, Int.reduceNeg, Int.reduceLT, Int.reduceLE, Int.reduceEq, not_false_eq_true, not_true_eq_false, false_implies, true_implies, implies_true, Int.reduceDiv, Int.reduceMod, zr8_zr, zr_zbo, z01_zbo, z01_0, z01_1, zbo_eq0, zup_eq, zup_o, zup_k, ne_eq, ↓ct_walong_wway, ↓r_wway, ↓B_wway, ↓ct_walong_hbeside, ↓r_hbeside, ↓B_hbeside, ↓v_70, ↓g_70_0, ↓g_70_1, ↓l_71, ↓s_71, ↓n_71, ↓g_70_2, ↓l_72, ↓s_72, ↓n_72, ↓g_70_3, ↓l_73, ↓s_73, ↓n_73]
        refine ⟨hr.1, hr.2, d9, H, vd, ?_⟩
        rw [ht] at tr fx ⊢
        refine bs_X9_alongLeft_25 hX ?_
        unfold hst at nx
        dsimp only at nx
        rw [ht] at nx
        have J34 : ¬ t = 4 → X 34 [some (.inr (.inr (.inl 70))), some (.inl c), some (.inl w), some (.inl n), some (.inl pc), some (.inl pw), some (.inl ((k : Int))), some (.inl t)] [] (zG, M) (0, 0) := by
          intro e
          rw [if_neg e] at nx
          refine bs_X9_alongLeft_34 hX ?_
          simp only [bk_X9_alongLeft_0, k_X9_alongLeft_0, bk_X9_alongLeft_9, k_X9_alongLeft_9, bk_X9_alongLeft_15, k_X9_alongLeft_15, bk_X9_alongLeft_25, k_X9_alongLeft_25, bk_X9_alongLeft_34, k_X9_alongLeft_34, bk_X9_alongLeft_53, k_X9_alongLeft_53, ↓e_rk1, ↓e_rk0, ↓e_sk0, ↓e_sks, ↓e_ldi0, ↓e_ldis, ↓e_ldl0, ↓e_ldls, ↓e_lda0, ↓e_ldas, ↓e_ok0, ↓e_okss, ↓e_ok1i, ↓e_ok1r, ↓e_ok1n, ↓e_sti, ↓e_sta, ↓e_1, ↓e_2, ↓e_l1, ↓e_l2, ↓e_li, ↓e_sw0, ↓e_sws, ↓e_ceq, ↓e_cne, ↓e_clt, ↓e_cge, ↓e_cgt, ↓e_cle, ↓e_nil, ↓e_cons, ↓e_iconst, ↓e_bipush, ↓e_sipush, ↓e_ldc, ↓e_ldcw, ↓e_ldc2, ↓e_lconst, ↓e_iloadn, ↓e_iload, ↓e_lloadn, ↓e_lload, ↓e_aloadn, ↓e_aload, ↓e_istoren, ↓e_istore, ↓e_astoren, ↓e_astore, ↓e_add, ↓e_iinc, ↓e_iadd, ↓e_isub, ↓e_imul, ↓e_iand, ↓e_ior, ↓e_ixor, ↓e_ishl, ↓e_iushr, ↓e_idiv, ↓e_irem, ↓e_ineg, ↓e_i2l, ↓e_i2b, ↓e_i2s, ↓e_l2i, ↓e_land, ↓e_lor, ↓e_lshl, ↓e_lshr, ↓e_lushr, ↓e_lcmp, ↓e_dupi, ↓e_dupr, ↓e_popi, ↓e_dup2, ↓e_goto, ↓e_if, ↓e_icmp, ↓e_tsw, ↓e_lsw, ↓e_getf, ↓e_putf, ↓e_gets, ↓e_iald, ↓e_cald, ↓e_iast, ↓e_aald, ↓e_aast, ↓e_len, ↓e_copy, ↓e_abs, ↓e_max, ↓e_min, ↓e_iret, ↓e_aret, ↓e_vret, ↓e_is0, ↓e_is1, ↓e_is2, ↓e_is3, ↓e_is4, ↓e_iv1, ↓e_iv2, ↓e_iv3, ↓e_iv4, ↓e_iv5, ↓e_iv6, ↓rt_X9_alongLeft, ↓reduceIte, Nat.reduceAdd, Nat.reduceEqDiff, ↓zcl0, ↓zclv, List.map_nil, List.sum_nil, List.map_cons, List.sum_cons, zcat, true_and, and_true, Nat.reduceLeDiff, Nat.reduceAdd, eq_self, forall_const, e_ok0, e_okss, e_ok1i, e_ok1r, e_ok1n, zl_0, zl_4, Int.reduceToNat, Int.reduceAdd, Int.reduceMul, Int.reduceSub, Int.reduceNeg, Int.reduceLT, Int.reduceLE, Int.reduceEq, not_false_eq_true, not_true_eq_false, false_implies, true_implies, implies_true, Int.reduceDiv, Int.reduceMod, zr8_zr, zr_zbo, z01_zbo, z01_0, z01_1, zbo_eq0, zup_eq, zup_o, zup_k, ne_eq, ↓ct_walong_wway, ↓r_wway, ↓B_wway, ↓ct_walong_hbeside, ↓r_hbeside, ↓B_hbeside, ↓v_70, ↓g_70_0, ↓g_70_1, ↓l_71, ↓s_71, ↓n_71, ↓g_70_2, ↓l_72, ↓s_72, ↓n_72, ↓g_70_3, ↓l_73, ↓s_73, ↓n_73]
          exact ⟨hr.1.1, hr.1.2, ⟨by omega, by omega⟩, nx _⟩
        simp only [bk_X9_alongLeft_0, k_X9_alongLeft_0, bk_X9_alongLeft_9, k_X9_alongLeft_9, bk_X9_alongLeft_15, k_X9_alongLeft_15, bk_X9_alongLeft_25, k_X9_alongLeft_25, bk_X9_alongLeft_34, k_X9_alongLeft_34, bk_X9_alongLeft_53, k_X9_alongLeft_53, ↓e_rk1, ↓e_rk0, ↓e_sk0, ↓e_sks, ↓e_ldi0, ↓e_ldis, ↓e_ldl0, ↓e_ldls, ↓e_lda0, ↓e_ldas, ↓e_ok0, ↓e_okss, ↓e_ok1i, ↓e_ok1r, ↓e_ok1n, ↓e_sti, ↓e_sta, ↓e_1, ↓e_2, ↓e_l1, ↓e_l2, ↓e_li, ↓e_sw0, ↓e_sws, ↓e_ceq, ↓e_cne, ↓e_clt, ↓e_cge, ↓e_cgt, ↓e_cle, ↓e_nil, ↓e_cons, ↓e_iconst, ↓e_bipush, ↓e_sipush, ↓e_ldc, ↓e_ldcw, ↓e_ldc2, ↓e_lconst, ↓e_iloadn, ↓e_iload, ↓e_lloadn, ↓e_lload, ↓e_aloadn, ↓e_aload, ↓e_istoren, ↓e_istore, ↓e_astoren, ↓e_astore, ↓e_add, ↓e_iinc, ↓e_iadd, ↓e_isub, ↓e_imul, ↓e_iand, ↓e_ior, ↓e_ixor, ↓e_ishl, ↓e_iushr, ↓e_idiv, ↓e_irem, ↓e_ineg, ↓e_i2l, ↓e_i2b, ↓e_i2s, ↓e_l2i, ↓e_land, ↓e_lor, ↓e_lshl, ↓e_lshr, ↓e_lushr, ↓e_lcmp, ↓e_dupi, ↓e_dupr, ↓e_popi, ↓e_dup2, ↓e_goto, ↓e_if, ↓e_icmp, ↓e_tsw, ↓e_lsw, ↓e_getf, ↓e_putf, ↓e_gets, ↓e_iald, ↓e_cald, ↓e_iast, ↓e_aald, ↓e_aast, ↓e_len, ↓e_copy, ↓e_abs, ↓e_max, ↓e_min, ↓e_iret, ↓e_aret, ↓e_vret, ↓e_is0, ↓e_is1, ↓e_is2, ↓e_is3, ↓e_is4, ↓e_iv1, ↓e_iv2, ↓e_iv3, ↓e_iv4, ↓e_iv5, ↓e_iv6, ↓rt_X9_alongLeft, ↓reduceIte, Nat.reduceAdd, Nat.reduceEqDiff, ↓zcl0, ↓zclv, List.map_nil, List.sum_nil, List.map_cons, List.sum_cons, zcat, true_and, and_true, Nat.reduceLeDiff, Nat.reduceAdd, eq_self, forall_const, e_ok0, e_okss, e_ok1i, e_ok1r, e_ok1n, zl_0, zl_4, Int.reduceToNat, Int.reduceAdd, Int.reduceMul, Int.reduceSub, Int.reduceNeg, Int.reduceLT, Int.reduceLE, Int.reduceEq, not_false_eq_true, not_true_eq_false, false_implies, true_implies, implies_true, Int.reduceDiv, Int.reduceMod, zr8_zr, zr_zbo, z01_zbo, z01_0, z01_1, zbo_eq0, zup_eq, zup_o, zup_k, ne_eq, ↓ct_walong_wway, ↓r_wway, ↓B_wway, ↓ct_walong_hbeside, ↓r_hbeside, ↓B_hbeside, ↓v_70, ↓g_70_0, ↓g_70_1, ↓l_71, ↓s_71, ↓n_71, ↓g_70_2, ↓l_72, ↓s_72, ↓n_72, ↓g_70_3, ↓l_73, ↓s_73, ↓n_73, zt]
        refine ⟨fun e => ?_, fun e => ?_⟩
        · first | exact J34 e | (refine J53 k _ _ _ ?_; have := fx e (j + 1); rw [show k + (j + 1) = n.toNat by omega] at this; exact this)
        · first | exact J34 e | (refine J53 k _ _ _ ?_; have := fx e (j + 1); rw [show k + (j + 1) = n.toNat by omega] at this; exact this)
    simp only [bk_X9_alongLeft_0, k_X9_alongLeft_0, bk_X9_alongLeft_9, k_X9_alongLeft_9, bk_X9_alongLeft_15, k_X9_alongLeft_15, bk_X9_alongLeft_25, k_X9_alongLeft_25, bk_X9_alongLeft_34, k_X9_alongLeft_34, bk_X9_alongLeft_53, k_X9_alongLeft_53, ↓e_rk1, ↓e_rk0, ↓e_sk0, ↓e_sks, ↓e_ldi0, ↓e_ldis, ↓e_ldl0, ↓e_ldls, ↓e_lda0, ↓e_ldas, ↓e_ok0, ↓e_okss, ↓e_ok1i, ↓e_ok1r, ↓e_ok1n, ↓e_sti, ↓e_sta, ↓e_1, ↓e_2, ↓e_l1, ↓e_l2, ↓e_li, ↓e_sw0, ↓e_sws, ↓e_ceq, ↓e_cne, ↓e_clt, ↓e_cge, ↓e_cgt, ↓e_cle, ↓e_nil, ↓e_cons, ↓e_iconst, ↓e_bipush, ↓e_sipush, ↓e_ldc, ↓e_ldcw, ↓e_ldc2, ↓e_lconst, ↓e_iloadn, ↓e_iload, ↓e_lloadn, ↓e_lload, ↓e_aloadn, ↓e_aload, ↓e_istoren, ↓e_istore, ↓e_astoren, ↓e_astore, ↓e_add, ↓e_iinc, ↓e_iadd, ↓e_isub, ↓e_imul, ↓e_iand, ↓e_ior, ↓e_ixor, ↓e_ishl, ↓e_iushr, ↓e_idiv, ↓e_irem, ↓e_ineg, ↓e_i2l, ↓e_i2b, ↓e_i2s, ↓e_l2i, ↓e_land, ↓e_lor, ↓e_lshl, ↓e_lshr, ↓e_lushr, ↓e_lcmp, ↓e_dupi, ↓e_dupr, ↓e_popi, ↓e_dup2, ↓e_goto, ↓e_if, ↓e_icmp, ↓e_tsw, ↓e_lsw, ↓e_getf, ↓e_putf, ↓e_gets, ↓e_iald, ↓e_cald, ↓e_iast, ↓e_aald, ↓e_aast, ↓e_len, ↓e_copy, ↓e_abs, ↓e_max, ↓e_min, ↓e_iret, ↓e_aret, ↓e_vret, ↓e_is0, ↓e_is1, ↓e_is2, ↓e_is3, ↓e_is4, ↓e_iv1, ↓e_iv2, ↓e_iv3, ↓e_iv4, ↓e_iv5, ↓e_iv6, ↓rt_X9_alongLeft, ↓reduceIte, Nat.reduceAdd, Nat.reduceEqDiff, ↓zcl0, ↓zclv, List.map_nil, List.sum_nil, List.map_cons, List.sum_cons, zcat, true_and, and_true, Nat.reduceLeDiff, Nat.reduceAdd, eq_self, forall_const, e_ok0, e_okss, e_ok1i, e_ok1r, e_ok1n, zl_0, zl_4, Int.reduceToNat, Int.reduceAdd, Int.reduceMul, Int.reduceSub, Int.reduceNeg, Int.reduceLT, Int.reduceLE, Int.reduceEq, not_false_eq_true, not_true_eq_false, false_implies, true_implies, implies_true, Int.reduceDiv, Int.reduceMod, zr8_zr, zr_zbo, z01_zbo, z01_0, z01_1, zbo_eq0, zup_eq, zup_o, zup_k, ne_eq, ↓ct_walong_wway, ↓r_wway, ↓B_wway, ↓ct_walong_hbeside, ↓r_hbeside, ↓B_hbeside, ↓v_70, ↓g_70_0, ↓g_70_1, ↓l_71, ↓s_71, ↓n_71, ↓g_70_2, ↓l_72, ↓s_72, ↓n_72, ↓g_70_3, ↓l_73, ↓s_73, ↓n_73]
    exact lp n.toNat 0 _ (by omega)
def B_x_hand (c : Int) (w : Int) (n : Int) (M : Nat → Nat → Int) (post : Option ZV → (Nat → Nat → Int) → Prop) : Prop := rg c ∧ rg w ∧ rg n ∧ ∃ S : ZMm, Vs S ∧ Rc S M ∧ cp M (R_hand S c w n) post
def C_x_hand : ZC := fun as h post => match as with
  | [.inr (.inr (.inl 0)), .inl c, .inl w, .inl n] => h.1 = zG ∧ B_x_hand c w n h.2 (fun v M => post v (zG, M))
  | _ => False
theorem r_x_hand {c : Int} {w : Int} {n : Int} {M : Nat → Nat → Int} {post : Option ZV → ZH → Prop} : C_x_hand [.inr (.inr (.inl 0)), .inl c, .inl w, .inl n] (zG, M) post = B_x_hand c w n M (fun v M => post v (zG, M)) := by show (zG = zG ∧ _) = _; simp
def ct_x_hand : Nat → ZC := fun n => if n = 111 then C_cbey else if n = 110 then C_cfail else if n = 63 then C_walong else fun _ _ _ => False
theorem ct_x_hand_cbey {as : List ZV} {h : ZH} {post : Option ZV → ZH → Prop} : ct_x_hand 111 as h post = C_cbey as h post := rfl
theorem ct_x_hand_cfail {as : List ZV} {h : ZH} {post : Option ZV → ZH → Prop} : ct_x_hand 110 as h post = C_cfail as h post := rfl
theorem ct_x_hand_walong {as : List ZV} {h : ZH} {post : Option ZV → ZH → Prop} : ct_x_hand 63 as h post = C_walong as h post := rfl
theorem c_x_hand {E : ZE} {d : Nat} (hd : 4 ≤ d) : zMet E d mX10_hand C_x_hand := by
  refine zmet_of (o := 10) (ini := false) (CT := ct_x_hand) gd_X10_hand rfl (fun h => by cases h) (by omega) ?_ ?_
  · intro n as h post hh
    unfold ct_x_hand at hh
    by_cases c : n = 111
    · subst c; exact ⟨gd_X10_isBeyond, 1, by omega, c_cbey (by omega)⟩
    rw [if_neg c] at hh
    by_cases c : n = 110
    · subst c; exact ⟨gd_X10_failed, 1, by omega, c_cfail (by omega)⟩
    rw [if_neg c] at hh
    by_cases c : n = 63
    · subst c; exact ⟨gd_X9_alongLeft, 3, by omega, c_walong (by omega)⟩
    rw [if_neg c] at hh
    exact hh.elim
  intro as h post hC
  match as, hC with
  | [.inr (.inr (.inl 0)), .inl c, .inl w, .inl n], hC =>
    refine ⟨Nat.le_of_ble_eq_true rfl, fun X hX => bs_X10_hand_0 hX ?_⟩
    obtain ⟨G, M⟩ := h
    obtain ⟨hG, hC⟩ := hC
    dsimp only at hG
    subst hG
    simp only [B_x_hand] at hC
    show bk_X10_hand_0 E ct_x_hand X _ [some (.inr (.inr (.inl 0))), some (.inl c), some (.inl w), some (.inl n)] [] (zG, M) (0, 0)
    obtain ⟨h1, h2, h3, S, vs9, H, hC⟩ := hC
    have vd : Vd (S 88) := vs9.1
    have n9 := H.1
    have J27 : ¬ ((0 ≤ c ∧ c ≤ 63) ∧ (0 ≤ w ∧ w ≤ 3) ∧ 0 ≤ n ∧ n ≤ 200) → X 27 [some (.inr (.inr (.inl 0))), some (.inl c), some (.inl w), some (.inl n)] [] (zG, M) (0, 0) := by
      intro q
      refine bs_X10_hand_27 hX ?_
      simp only [bk_X10_hand_0, k_X10_hand_0, bk_X10_hand_9, k_X10_hand_9, bk_X10_hand_17, k_X10_hand_17, bk_X10_hand_27, k_X10_hand_27, bk_X10_hand_34, k_X10_hand_34, bk_X10_hand_56, k_X10_hand_56, ↓e_rk1, ↓e_rk0, ↓e_sk0, ↓e_sks, ↓e_ldi0, ↓e_ldis, ↓e_ldl0, ↓e_ldls, ↓e_lda0, ↓e_ldas, ↓e_ok0, ↓e_okss, ↓e_ok1i, ↓e_ok1r, ↓e_ok1n, ↓e_sti, ↓e_sta, ↓e_1, ↓e_2, ↓e_l1, ↓e_l2, ↓e_li, ↓e_sw0, ↓e_sws, ↓e_ceq, ↓e_cne, ↓e_clt, ↓e_cge, ↓e_cgt, ↓e_cle, ↓e_nil, ↓e_cons, ↓e_iconst, ↓e_bipush, ↓e_sipush, ↓e_ldc, ↓e_ldcw, ↓e_ldc2, ↓e_lconst, ↓e_iloadn, ↓e_iload, ↓e_lloadn, ↓e_lload, ↓e_aloadn, ↓e_aload, ↓e_istoren, ↓e_istore, ↓e_astoren, ↓e_astore, ↓e_add, ↓e_iinc, ↓e_iadd, ↓e_isub, ↓e_imul, ↓e_iand, ↓e_ior, ↓e_ixor, ↓e_ishl, ↓e_iushr, ↓e_idiv, ↓e_irem, ↓e_ineg, ↓e_i2l, ↓e_i2b, ↓e_i2s, ↓e_l2i, ↓e_land, ↓e_lor, ↓e_lshl, ↓e_lshr, ↓e_lushr, ↓e_lcmp, ↓e_dupi, ↓e_dupr, ↓e_popi, ↓e_dup2, ↓e_goto, ↓e_if, ↓e_icmp, ↓e_tsw, ↓e_lsw, ↓e_getf, ↓e_putf, ↓e_gets, ↓e_iald, ↓e_cald, ↓e_iast, ↓e_aald, ↓e_aast, ↓e_len, ↓e_copy, ↓e_abs, ↓e_max, ↓e_min, ↓e_iret, ↓e_aret, ↓e_vret, ↓e_is0, ↓e_is1, ↓e_is2, ↓e_is3, ↓e_is4, ↓e_iv1, ↓e_iv2, ↓e_iv3, ↓e_iv4, ↓e_iv5, ↓e_iv6, ↓rt_X10_hand, ↓reduceIte, Nat.reduceAdd, Nat.reduceEqDiff, ↓zcl0, ↓zclv, List.map_nil, List.sum_nil, List.map_cons, List.sum_cons, zcat, true_and, and_true, Nat.reduceLeDiff, Nat.reduceAdd, eq_self, forall_const, e_ok0, e_okss, e_ok1i, e_ok1r, e_ok1n, zl_m1000000003, zl_m1000000001, zl_3, zl_63, zl_200, Int.reduceToNat, Int.reduceAdd, Int.reduceMul, Int.reduceSub, Int.reduceNeg, Int.reduceLT, Int.reduceLE, Int.reduceEq, not_false_eq_true, not_true_eq_false, false_implies, true_implies, implies_true, Int.reduceDiv, Int.reduceMod, zr8_zr, zr_zbo, z01_zbo, z01_0, z01_1, zbo_eq0, zup_eq, zup_o, zup_k, ne_eq, ↓ct_x_hand_cbey, ↓r_cbey, ↓B_cbey, ↓ct_x_hand_cfail, ↓r_cfail, ↓B_cfail, ↓ct_x_hand_walong, ↓r_walong, ↓B_walong, ↓v_0, ↓g_0_0, ↓g_0_1, ↓g_0_2, ↓g_0_3, ↓g_0_4, ↓g_0_5, ↓g_0_6, ↓g_0_7, ↓g_0_8, ↓l_78, ↓s_78, ↓n_78, ↓g_0_9, ↓p_0_9]
      exact ⟨1, by omega, by omega, cp_no hC H vd (by omega) (by unfold R_hand; rw [if_neg (by omega)]) rfl⟩
    have J34 : ((0 ≤ c ∧ c ≤ 63) ∧ (0 ≤ w ∧ w ≤ 3) ∧ 0 ≤ n ∧ n ≤ 200) → X 34 [some (.inr (.inr (.inl 0))), some (.inl c), some (.inl w), some (.inl n)] [] (zG, M) (0, 0) := by
      intro q
      have zc9 : zr c = c := zr_rg h1
      have e1 : M 4 c.toNat = S 88 (70 + c).toNat := by rw [n9.1.2.1 c.toNat (by omega), show (70 + c).toNat = 70 + c.toNat by omega]
      have bd := vd.2.2.2.2.2.2.1 (70 + c).toNat (by omega) (by omega)
      have zd : zr (S 88 (70 + c).toNat) = S 88 (70 + c).toNat := zr_of (by omega) (by omega)
      have J56 : ¬ S 88 (70 + c).toNat = 0 → X 56 [some (.inr (.inr (.inl 0))), some (.inl c), some (.inl w), some (.inl n)] [] (zG, M) (0, 0) := by
        intro q2
        refine bs_X10_hand_56 hX ?_
        simp only [bk_X10_hand_0, k_X10_hand_0, bk_X10_hand_9, k_X10_hand_9, bk_X10_hand_17, k_X10_hand_17, bk_X10_hand_27, k_X10_hand_27, bk_X10_hand_34, k_X10_hand_34, bk_X10_hand_56, k_X10_hand_56, ↓e_rk1, ↓e_rk0, ↓e_sk0, ↓e_sks, ↓e_ldi0, ↓e_ldis, ↓e_ldl0, ↓e_ldls, ↓e_lda0, ↓e_ldas, ↓e_ok0, ↓e_okss, ↓e_ok1i, ↓e_ok1r, ↓e_ok1n, ↓e_sti, ↓e_sta, ↓e_1, ↓e_2, ↓e_l1, ↓e_l2, ↓e_li, ↓e_sw0, ↓e_sws, ↓e_ceq, ↓e_cne, ↓e_clt, ↓e_cge, ↓e_cgt, ↓e_cle, ↓e_nil, ↓e_cons, ↓e_iconst, ↓e_bipush, ↓e_sipush, ↓e_ldc, ↓e_ldcw, ↓e_ldc2, ↓e_lconst, ↓e_iloadn, ↓e_iload, ↓e_lloadn, ↓e_lload, ↓e_aloadn, ↓e_aload, ↓e_istoren, ↓e_istore, ↓e_astoren, ↓e_astore, ↓e_add, ↓e_iinc, ↓e_iadd, ↓e_isub, ↓e_imul, ↓e_iand, ↓e_ior, ↓e_ixor, ↓e_ishl, ↓e_iushr, ↓e_idiv, ↓e_irem, ↓e_ineg, ↓e_i2l, ↓e_i2b, ↓e_i2s, ↓e_l2i, ↓e_land, ↓e_lor, ↓e_lshl, ↓e_lshr, ↓e_lushr, ↓e_lcmp, ↓e_dupi, ↓e_dupr, ↓e_popi, ↓e_dup2, ↓e_goto, ↓e_if, ↓e_icmp, ↓e_tsw, ↓e_lsw, ↓e_getf, ↓e_putf, ↓e_gets, ↓e_iald, ↓e_cald, ↓e_iast, ↓e_aald, ↓e_aast, ↓e_len, ↓e_copy, ↓e_abs, ↓e_max, ↓e_min, ↓e_iret, ↓e_aret, ↓e_vret, ↓e_is0, ↓e_is1, ↓e_is2, ↓e_is3, ↓e_is4, ↓e_iv1, ↓e_iv2, ↓e_iv3, ↓e_iv4, ↓e_iv5, ↓e_iv6, ↓rt_X10_hand, ↓reduceIte, Nat.reduceAdd, Nat.reduceEqDiff, ↓zcl0, ↓zclv, List.map_nil, List.sum_nil, List.map_cons, List.sum_cons, zcat, true_and, and_true, Nat.reduceLeDiff, Nat.reduceAdd, eq_self, forall_const, e_ok0, e_okss, e_ok1i, e_ok1r, e_ok1n, zl_m1000000003, zl_m1000000001, zl_3, zl_63, zl_200, Int.reduceToNat, Int.reduceAdd, Int.reduceMul, Int.reduceSub, Int.reduceNeg, Int.reduceLT, Int.reduceLE, Int.reduceEq, not_false_eq_true, not_true_eq_false, false_implies, true_implies, implies_true, Int.reduceDiv, Int.reduceMod, zr8_zr, zr_zbo, z01_zbo, z01_0, z01_1, zbo_eq0, zup_eq, zup_o, zup_k, ne_eq, ↓ct_x_hand_cbey, ↓r_cbey, ↓B_cbey, ↓ct_x_hand_cfail, ↓r_cfail, ↓B_cfail, ↓ct_x_hand_walong, ↓r_walong, ↓B_walong, ↓v_0, ↓g_0_0, ↓g_0_1, ↓g_0_2, ↓g_0_3, ↓g_0_4, ↓g_0_5, ↓g_0_6, ↓g_0_7, ↓g_0_8, ↓l_78, ↓s_78, ↓n_78, ↓g_0_9, ↓p_0_9, ↓v_70, ↓g_70_0, ↓g_70_1, ↓l_71, ↓s_71, ↓n_71, ↓g_70_2, ↓l_72, ↓s_72, ↓n_72, ↓g_70_3, ↓l_73, ↓s_73, ↓n_73]
        refine ⟨by omega, by omega, by omega, S 88, n9.1, vd, cp_id hC H ?_⟩
        unfold R_hand
        rw [if_pos q, if_neg q2]
      refine bs_X10_hand_34 hX ?_
      simp only [bk_X10_hand_0, k_X10_hand_0, bk_X10_hand_9, k_X10_hand_9, bk_X10_hand_17, k_X10_hand_17, bk_X10_hand_27, k_X10_hand_27, bk_X10_hand_34, k_X10_hand_34, bk_X10_hand_56, k_X10_hand_56, ↓e_rk1, ↓e_rk0, ↓e_sk0, ↓e_sks, ↓e_ldi0, ↓e_ldis, ↓e_ldl0, ↓e_ldls, ↓e_lda0, ↓e_ldas, ↓e_ok0, ↓e_okss, ↓e_ok1i, ↓e_ok1r, ↓e_ok1n, ↓e_sti, ↓e_sta, ↓e_1, ↓e_2, ↓e_l1, ↓e_l2, ↓e_li, ↓e_sw0, ↓e_sws, ↓e_ceq, ↓e_cne, ↓e_clt, ↓e_cge, ↓e_cgt, ↓e_cle, ↓e_nil, ↓e_cons, ↓e_iconst, ↓e_bipush, ↓e_sipush, ↓e_ldc, ↓e_ldcw, ↓e_ldc2, ↓e_lconst, ↓e_iloadn, ↓e_iload, ↓e_lloadn, ↓e_lload, ↓e_aloadn, ↓e_aload, ↓e_istoren, ↓e_istore, ↓e_astoren, ↓e_astore, ↓e_add, ↓e_iinc, ↓e_iadd, ↓e_isub, ↓e_imul, ↓e_iand, ↓e_ior, ↓e_ixor, ↓e_ishl, ↓e_iushr, ↓e_idiv, ↓e_irem, ↓e_ineg, ↓e_i2l, ↓e_i2b, ↓e_i2s, ↓e_l2i, ↓e_land, ↓e_lor, ↓e_lshl, ↓e_lshr, ↓e_lushr, ↓e_lcmp, ↓e_dupi, ↓e_dupr, ↓e_popi, ↓e_dup2, ↓e_goto, ↓e_if, ↓e_icmp, ↓e_tsw, ↓e_lsw, ↓e_getf, ↓e_putf, ↓e_gets, ↓e_iald, ↓e_cald, ↓e_iast, ↓e_aald, ↓e_aast, ↓e_len, ↓e_copy, ↓e_abs, ↓e_max, ↓e_min, ↓e_iret, ↓e_aret, ↓e_vret, ↓e_is0, ↓e_is1, ↓e_is2, ↓e_is3, ↓e_is4, ↓e_iv1, ↓e_iv2, ↓e_iv3, ↓e_iv4, ↓e_iv5, ↓e_iv6, ↓rt_X10_hand, ↓reduceIte, Nat.reduceAdd, Nat.reduceEqDiff, ↓zcl0, ↓zclv, List.map_nil, List.sum_nil, List.map_cons, List.sum_cons, zcat, true_and, and_true, Nat.reduceLeDiff, Nat.reduceAdd, eq_self, forall_const, e_ok0, e_okss, e_ok1i, e_ok1r, e_ok1n, zl_m1000000003, zl_m1000000001, zl_3, zl_63, zl_200, Int.reduceToNat, Int.reduceAdd, Int.reduceMul, Int.reduceSub, Int.reduceNeg, Int.reduceLT, Int.reduceLE, Int.reduceEq, not_false_eq_true, not_true_eq_false, false_implies, true_implies, implies_true, Int.reduceDiv, Int.reduceMod, zr8_zr, zr_zbo, z01_zbo, z01_0, z01_1, zbo_eq0, zup_eq, zup_o, zup_k, ne_eq, ↓ct_x_hand_cbey, ↓r_cbey, ↓B_cbey, ↓ct_x_hand_cfail, ↓r_cfail, ↓B_cfail, ↓ct_x_hand_walong, ↓r_walong, ↓B_walong, ↓v_0, ↓g_0_0, ↓g_0_1, ↓g_0_2, ↓g_0_3, ↓g_0_4, ↓g_0_5, ↓g_0_6, ↓g_0_7, ↓g_0_8, ↓l_78, ↓s_78, ↓n_78, ↓g_0_9, ↓p_0_9, ↓v_1, ↓g_1_0, ↓g_1_1, ↓g_1_2, ↓g_1_3, ↓g_1_4, ↓g_1_5, ↓g_1_6, ↓p_1_6, ↓v_2, ↓g_2_0, ↓l_3, ↓s_3, ↓n_3, ↓g_2_1, ↓l_4, ↓s_4, ↓n_4, ↓g_2_2, ↓l_5, ↓s_5, ↓n_5, ↓g_2_3, ↓l_6, ↓s_6, ↓n_6, ↓g_2_4, ↓l_7, ↓s_7, ↓n_7, ↓g_2_5, ↓l_8, ↓s_8, ↓n_8, ↓g_2_6, ↓l_9, ↓s_9, ↓n_9, ↓g_2_7, ↓p_2_7, ↓g_2_8, ↓p_2_8, ↓g_2_9, ↓p_2_9, zc9, e1, zd]
      refine ⟨by omega, by omega, fun q2 => ?_, fun q2 => ?_⟩
      · first | exact J56 q2 | exact ⟨3, by omega, by omega, cp_no hC H vd (by omega) (by unfold R_hand; rw [if_pos q, if_pos q2]) rfl⟩
      · first | exact J56 q2 | exact ⟨3, by omega, by omega, cp_no hC H vd (by omega) (by unfold R_hand; rw [if_pos q, if_pos q2]) rfl⟩
    have J17 : (0 ≤ c ∧ c ≤ 63) ∧ (0 ≤ w ∧ w ≤ 3) → X 17 [some (.inr (.inr (.inl 0))), some (.inl c), some (.inl w), some (.inl n)] [] (zG, M) (0, 0) := by
      intro q
      refine bs_X10_hand_17 hX ?_
      simp only [bk_X10_hand_0, k_X10_hand_0, bk_X10_hand_9, k_X10_hand_9, bk_X10_hand_17, k_X10_hand_17, bk_X10_hand_27, k_X10_hand_27, bk_X10_hand_34, k_X10_hand_34, bk_X10_hand_56, k_X10_hand_56, ↓e_rk1, ↓e_rk0, ↓e_sk0, ↓e_sks, ↓e_ldi0, ↓e_ldis, ↓e_ldl0, ↓e_ldls, ↓e_lda0, ↓e_ldas, ↓e_ok0, ↓e_okss, ↓e_ok1i, ↓e_ok1r, ↓e_ok1n, ↓e_sti, ↓e_sta, ↓e_1, ↓e_2, ↓e_l1, ↓e_l2, ↓e_li, ↓e_sw0, ↓e_sws, ↓e_ceq, ↓e_cne, ↓e_clt, ↓e_cge, ↓e_cgt, ↓e_cle, ↓e_nil, ↓e_cons, ↓e_iconst, ↓e_bipush, ↓e_sipush, ↓e_ldc, ↓e_ldcw, ↓e_ldc2, ↓e_lconst, ↓e_iloadn, ↓e_iload, ↓e_lloadn, ↓e_lload, ↓e_aloadn, ↓e_aload, ↓e_istoren, ↓e_istore, ↓e_astoren, ↓e_astore, ↓e_add, ↓e_iinc, ↓e_iadd, ↓e_isub, ↓e_imul, ↓e_iand, ↓e_ior, ↓e_ixor, ↓e_ishl, ↓e_iushr, ↓e_idiv, ↓e_irem, ↓e_ineg, ↓e_i2l, ↓e_i2b, ↓e_i2s, ↓e_l2i, ↓e_land, ↓e_lor, ↓e_lshl, ↓e_lshr, ↓e_lushr, ↓e_lcmp, ↓e_dupi, ↓e_dupr, ↓e_popi, ↓e_dup2, ↓e_goto, ↓e_if, ↓e_icmp, ↓e_tsw, ↓e_lsw, ↓e_getf, ↓e_putf, ↓e_gets, ↓e_iald, ↓e_cald, ↓e_iast, ↓e_aald, ↓e_aast, ↓e_len, ↓e_copy, ↓e_abs, ↓e_max, ↓e_min, ↓e_iret, ↓e_aret, ↓e_vret, ↓e_is0, ↓e_is1, ↓e_is2, ↓e_is3, ↓e_is4, ↓e_iv1, ↓e_iv2, ↓e_iv3, ↓e_iv4, ↓e_iv5, ↓e_iv6, ↓rt_X10_hand, ↓reduceIte, Nat.reduceAdd, Nat.reduceEqDiff, ↓zcl0, ↓zclv, List.map_nil, List.sum_nil, List.map_cons, List.sum_cons, zcat, true_and, and_true, Nat.reduceLeDiff, Nat.reduceAdd, eq_self, forall_const, e_ok0, e_okss, e_ok1i, e_ok1r, e_ok1n, zl_m1000000003, zl_m1000000001, zl_3, zl_63, zl_200, Int.reduceToNat, Int.reduceAdd, Int.reduceMul, Int.reduceSub, Int.reduceNeg, Int.reduceLT, Int.reduceLE, Int.reduceEq, not_false_eq_true, not_true_eq_false, false_implies, true_implies, implies_true, Int.reduceDiv, Int.reduceMod, zr8_zr, zr_zbo, z01_zbo, z01_0, z01_1, zbo_eq0, zup_eq, zup_o, zup_k, ne_eq, ↓ct_x_hand_cbey, ↓r_cbey, ↓B_cbey, ↓ct_x_hand_cfail, ↓r_cfail, ↓B_cfail, ↓ct_x_hand_walong, ↓r_walong, ↓B_walong, ↓v_0, ↓g_0_0, ↓g_0_1, ↓g_0_2, ↓g_0_3, ↓g_0_4, ↓g_0_5, ↓g_0_6, ↓g_0_7, ↓g_0_8, ↓l_78, ↓s_78, ↓n_78, ↓g_0_9, ↓p_0_9, zr_zbo, zbo_eq0]
      repeat' (first | assumption | apply And.intro | intro _)
      all_goals first | omega | (apply J27; omega) | (apply J34; omega)
    have J9 : (0 ≤ c ∧ c ≤ 63) → X 9 [some (.inr (.inr (.inl 0))), some (.inl c), some (.inl w), some (.inl n)] [] (zG, M) (0, 0) := by
      intro q
      refine bs_X10_hand_9 hX ?_
      simp only [bk_X10_hand_0, k_X10_hand_0, bk_X10_hand_9, k_X10_hand_9, bk_X10_hand_17, k_X10_hand_17, bk_X10_hand_27, k_X10_hand_27, bk_X10_hand_34, k_X10_hand_34, bk_X10_hand_56, k_X10_hand_56, ↓e_rk1, ↓e_rk0, ↓e_sk0, ↓e_sks, ↓e_ldi0, ↓e_ldis, ↓e_ldl0, ↓e_ldls, ↓e_lda0, ↓e_ldas, ↓e_ok0, ↓e_okss, ↓e_ok1i, ↓e_ok1r, ↓e_ok1n, ↓e_sti, ↓e_sta, ↓e_1, ↓e_2, ↓e_l1, ↓e_l2, ↓e_li, ↓e_sw0, ↓e_sws, ↓e_ceq, ↓e_cne, ↓e_clt, ↓e_cge, ↓e_cgt, ↓e_cle, ↓e_nil, ↓e_cons, ↓e_iconst, ↓e_bipush, ↓e_sipush, ↓e_ldc, ↓e_ldcw, ↓e_ldc2, ↓e_lconst, ↓e_iloadn, ↓e_iload, ↓e_lloadn, ↓e_lload, ↓e_aloadn, ↓e_aload, ↓e_istoren, ↓e_istore, ↓e_astoren, ↓e_astore, ↓e_add, ↓e_iinc, ↓e_iadd, ↓e_isub, ↓e_imul, ↓e_iand, ↓e_ior, ↓e_ixor, ↓e_ishl, ↓e_iushr, ↓e_idiv, ↓e_irem, ↓e_ineg, ↓e_i2l, ↓e_i2b, ↓e_i2s, ↓e_l2i, ↓e_land, ↓e_lor, ↓e_lshl, ↓e_lshr, ↓e_lushr, ↓e_lcmp, ↓e_dupi, ↓e_dupr, ↓e_popi, ↓e_dup2, ↓e_goto, ↓e_if, ↓e_icmp, ↓e_tsw, ↓e_lsw, ↓e_getf, ↓e_putf, ↓e_gets, ↓e_iald, ↓e_cald, ↓e_iast, ↓e_aald, ↓e_aast, ↓e_len, ↓e_copy, ↓e_abs, ↓e_max, ↓e_min, ↓e_iret, ↓e_aret, ↓e_vret, ↓e_is0, ↓e_is1, ↓e_is2, ↓e_is3, ↓e_is4, ↓e_iv1, ↓e_iv2, ↓e_iv3, ↓e_iv4, ↓e_iv5, ↓e_iv6, ↓rt_X10_hand, ↓reduceIte, Nat.reduceAdd, Nat.reduceEqDiff, ↓zcl0, ↓zclv, List.map_nil, List.sum_nil, List.map_cons, List.sum_cons, zcat, true_and, and_true, Nat.reduceLeDiff, Nat.reduceAdd, eq_self, forall_const, e_ok0, e_okss, e_ok1i, e_ok1r, e_ok1n, zl_m1000000003, zl_m1000000001, zl_3, zl_63, zl_200, Int.reduceToNat, Int.reduceAdd, Int.reduceMul, Int.reduceSub, Int.reduceNeg, Int.reduceLT, Int.reduceLE, Int.reduceEq, not_false_eq_true, not_true_eq_false, false_implies, true_implies, implies_true, Int.reduceDiv, Int.reduceMod, zr8_zr, zr_zbo, z01_zbo, z01_0, z01_1, zbo_eq0, zup_eq, zup_o, zup_k, ne_eq, ↓ct_x_hand_cbey, ↓r_cbey, ↓B_cbey, ↓ct_x_hand_cfail, ↓r_cfail, ↓B_cfail, ↓ct_x_hand_walong, ↓r_walong, ↓B_walong, ↓v_0, ↓g_0_0, ↓g_0_1, ↓g_0_2, ↓g_0_3, ↓g_0_4, ↓g_0_5, ↓g_0_6, ↓g_0_7, ↓g_0_8, ↓l_78, ↓s_78, ↓n_78, ↓g_0_9, ↓p_0_9, zr_zbo, zbo_eq0]
      repeat' (first | assumption | apply And.intro | intro _)
      all_goals first | omega | (apply J27; omega) | (apply J17; omega)
    simp only [bk_X10_hand_0, k_X10_hand_0, bk_X10_hand_9, k_X10_hand_9, bk_X10_hand_17, k_X10_hand_17, bk_X10_hand_27, k_X10_hand_27, bk_X10_hand_34, k_X10_hand_34, bk_X10_hand_56, k_X10_hand_56, ↓e_rk1, ↓e_rk0, ↓e_sk0, ↓e_sks, ↓e_ldi0, ↓e_ldis, ↓e_ldl0, ↓e_ldls, ↓e_lda0, ↓e_ldas, ↓e_ok0, ↓e_okss, ↓e_ok1i, ↓e_ok1r, ↓e_ok1n, ↓e_sti, ↓e_sta, ↓e_1, ↓e_2, ↓e_l1, ↓e_l2, ↓e_li, ↓e_sw0, ↓e_sws, ↓e_ceq, ↓e_cne, ↓e_clt, ↓e_cge, ↓e_cgt, ↓e_cle, ↓e_nil, ↓e_cons, ↓e_iconst, ↓e_bipush, ↓e_sipush, ↓e_ldc, ↓e_ldcw, ↓e_ldc2, ↓e_lconst, ↓e_iloadn, ↓e_iload, ↓e_lloadn, ↓e_lload, ↓e_aloadn, ↓e_aload, ↓e_istoren, ↓e_istore, ↓e_astoren, ↓e_astore, ↓e_add, ↓e_iinc, ↓e_iadd, ↓e_isub, ↓e_imul, ↓e_iand, ↓e_ior, ↓e_ixor, ↓e_ishl, ↓e_iushr, ↓e_idiv, ↓e_irem, ↓e_ineg, ↓e_i2l, ↓e_i2b, ↓e_i2s, ↓e_l2i, ↓e_land, ↓e_lor, ↓e_lshl, ↓e_lshr, ↓e_lushr, ↓e_lcmp, ↓e_dupi, ↓e_dupr, ↓e_popi, ↓e_dup2, ↓e_goto, ↓e_if, ↓e_icmp, ↓e_tsw, ↓e_lsw, ↓e_getf, ↓e_putf, ↓e_gets, ↓e_iald, ↓e_cald, ↓e_iast, ↓e_aald, ↓e_aast, ↓e_len, ↓e_copy, ↓e_abs, ↓e_max, ↓e_min, ↓e_iret, ↓e_aret, ↓e_vret, ↓e_is0, ↓e_is1, ↓e_is2, ↓e_is3, ↓e_is4, ↓e_iv1, ↓e_iv2, ↓e_iv3, ↓e_iv4, ↓e_iv5, ↓e_iv6, ↓rt_X10_hand, ↓reduceIte, Nat.reduceAdd, Nat.reduceEqDiff, ↓zcl0, ↓zclv, List.map_nil, List.sum_nil, List.map_cons, List.sum_cons, zcat, true_and, and_true, Nat.reduceLeDiff, Nat.reduceAdd, eq_self, forall_const, e_ok0, e_okss, e_ok1i, e_ok1r, e_ok1n, zl_m1000000003, zl_m1000000001, zl_3, zl_63, zl_200, Int.reduceToNat, Int.reduceAdd, Int.reduceMul, Int.reduceSub, Int.reduceNeg, Int.reduceLT, Int.reduceLE, Int.reduceEq, not_false_eq_true, not_true_eq_false, false_implies, true_implies, implies_true, Int.reduceDiv, Int.reduceMod, zr8_zr, zr_zbo, z01_zbo, z01_0, z01_1, zbo_eq0, zup_eq, zup_o, zup_k, ne_eq, ↓ct_x_hand_cbey, ↓r_cbey, ↓B_cbey, ↓ct_x_hand_cfail, ↓r_cfail, ↓B_cfail, ↓ct_x_hand_walong, ↓r_walong, ↓B_walong, ↓v_0, ↓g_0_0, ↓g_0_1, ↓g_0_2, ↓g_0_3, ↓g_0_4, ↓g_0_5, ↓g_0_6, ↓g_0_7, ↓g_0_8, ↓l_78, ↓s_78, ↓n_78, ↓g_0_9, ↓p_0_9, zr_zbo, zbo_eq0]
    repeat' (first | assumption | apply And.intro | intro _)
    all_goals first | omega | (apply J27; omega) | (apply J9; omega)
