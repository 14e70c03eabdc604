/-! THE CLASS: how engineers point, what is hearkened to, a year -/
def k_X1_turned_0 : List ZI := [(.iload_n 0, 1, (0, [0], [])), (.iconst 4, 1, (0, [], [])), (.if_icmp .ne 7, 3, (0, [9], [])), (.iconst 4, 1, (0, [], [])), (.goto 8, 3, (0, [14], []))]
theorem ok_X1_turned_0 : zOK cX1_turned 1 false 2 k_X1_turned_0 0 = true := zOK_by (by decide +kernel)
def k_X1_turned_9 : List ZI := [(.iload_n 0, 1, (0, [0], [])), (.iload_n 1, 1, (0, [1], [])), (.iadd, 1, (0, [], [])), (.iconst 4, 1, (0, [], [])), (.irem, 1, (0, [], []))]
theorem ok_X1_turned_9 : zOK cX1_turned 1 false 2 k_X1_turned_9 9 = true := zOK_by (by decide +kernel)
def k_X1_turned_14 : List ZI := [(.ireturn, 1, (0, [], []))]
theorem ok_X1_turned_14 : zOK cX1_turned 1 false 2 k_X1_turned_14 14 = true := zOK_by (by decide +kernel)
theorem rt_X1_turned {g : Nat} {post : Option ZV → ZH → Prop} {h : ZH} {b : ZB2} {z : Int} : zRt mX1_turned g post (some (.inl z)) h b = (post (some (.inl z)) h ∧ h.1.length = g) := by show (_ ∧ _ ∧ True) = _; simp
def bk_X1_turned_14 (E : ZE) (CT : Nat → ZC) (X : ZK) (Rt : ZR) (ls : ZL) (st : List ZV) (h : ZH) (b : ZB2) : Prop := zB E CT k_X1_turned_14 14 ls st h b (fun t ls st h b => X t ls st h b) Rt
theorem bs_X1_turned_14 {E : ZE} {CT : Nat → ZC} {X : ZK} {Rt : ZR} {ls : ZL} {st : List ZV} {h : ZH} {b : ZB2} (hX : zCl E mX1_turned 1 false CT Rt X) (q : bk_X1_turned_14 E CT X Rt ls st h b) : X 14 ls st h b := by
  refine hX k_X1_turned_14 14 ok_X1_turned_14 _ ?_ ls st h b q
  exact fun t ls st h b q => q
def bk_X1_turned_9 (E : ZE) (CT : Nat → ZC) (X : ZK) (Rt : ZR) (ls : ZL) (st : List ZV) (h : ZH) (b : ZB2) : Prop := zB E CT k_X1_turned_9 9 ls st h b (fun t ls st h b => if t = 14 then bk_X1_turned_14 E CT X Rt ls st h b else X t ls st h b) Rt
theorem bs_X1_turned_9 {E : ZE} {CT : Nat → ZC} {X : ZK} {Rt : ZR} {ls : ZL} {st : List ZV} {h : ZH} {b : ZB2} (hX : zCl E mX1_turned 1 false CT Rt X) (q : bk_X1_turned_9 E CT X Rt ls st h b) : X 9 ls st h b := by
  refine hX k_X1_turned_9 9 ok_X1_turned_9 _ ?_ ls st h b q
  exact by
    intro t ls st h b q
    by_cases c : t = 14
    · subst c; rw [if_pos rfl] at q; exact bs_X1_turned_14 hX q
    rw [if_neg c] at q
    exact q
def bk_X1_turned_0 (E : ZE) (CT : Nat → ZC) (X : ZK) (Rt : ZR) (ls : ZL) (st : List ZV) (h : ZH) (b : ZB2) : Prop := zB E CT k_X1_turned_0 0 ls st h b (fun t ls st h b => if t = 9 then bk_X1_turned_9 E CT X Rt ls st h b else if t = 14 then bk_X1_turned_14 E CT X Rt ls st h b else X t ls st h b) Rt
theorem bs_X1_turned_0 {E : ZE} {CT : Nat → ZC} {X : ZK} {Rt : ZR} {ls : ZL} {st : List ZV} {h : ZH} {b : ZB2} (hX : zCl E mX1_turned 1 false CT Rt X) (q : bk_X1_turned_0 E CT X Rt ls st h b) : X 0 ls st h b := by
  refine hX k_X1_turned_0 0 ok_X1_turned_0 _ ?_ ls st h b q
  exact by
    intro t ls st h b q
    by_cases c : t = 9
    · subst c; rw [if_pos rfl] at q; exact bs_X1_turned_9 hX q
    rw [if_neg c] at q
    by_cases c : t = 14
    · subst c; rw [if_pos rfl] at q; exact bs_X1_turned_14 hX q
    rw [if_neg c] at q
    exact q
-- X1_turned: cuts []
def k_X1_pointAsEngineer_0 : List ZI := [(.aload_n 0, 1, (0, [0], [])), (.getfield 90, 3, (0, [1, 8], [])), (.ifCond .ne 5, 3, (0, [9], [])), (.iconst 4, 1, (0, [], [])), (.ireturn, 1, (0, [], []))]
theorem ok_X1_pointAsEngineer_0 : zOK cX1_pointAsEngineer 1 false 1 k_X1_pointAsEngineer_0 0 = true := zOK_by (by decide +kernel)
def k_X1_pointAsEngineer_9 : List ZI := [(.aload_n 0, 1, (0, [0], [])), (.getfield 93, 3, (0, [1, 9], [])), (.ifCond .eq 16, 3, (0, [29], [])), (.aload_n 0, 1, (0, [0], [])), (.getfield 79, 3, (0, [1, 6], [])), (.ifCond .le 7, 3, (0, [27], [])), (.iconst 1, 1, (0, [], [])), (.goto 4, 3, (0, [28], []))]
theorem ok_X1_pointAsEngineer_9 : zOK cX1_pointAsEngineer 1 false 1 k_X1_pointAsEngineer_9 9 = true := zOK_by (by decide +kernel)
def k_X1_pointAsEngineer_27 : List ZI := [(.iconst 3, 1, (0, [], []))]
theorem ok_X1_pointAsEngineer_27 : zOK cX1_pointAsEngineer 1 false 1 k_X1_pointAsEngineer_27 27 = true := zOK_by (by decide +kernel)
def k_X1_pointAsEngineer_28 : List ZI := [(.ireturn, 1, (0, [], []))]
theorem ok_X1_pointAsEngineer_28 : zOK cX1_pointAsEngineer 1 false 1 k_X1_pointAsEngineer_28 28 = true := zOK_by (by decide +kernel)
def k_X1_pointAsEngineer_29 : List ZI := [(.aload_n 0, 1, (0, [0], [])), (.getfield 82, 3, (0, [1, 7], [])), (.ifCond .le 7, 3, (0, [40], [])), (.iconst 2, 1, (0, [], [])), (.goto 4, 3, (0, [41], []))]
theorem ok_X1_pointAsEngineer_29 : zOK cX1_pointAsEngineer 1 false 1 k_X1_pointAsEngineer_29 29 = true := zOK_by (by decide +kernel)
def k_X1_pointAsEngineer_40 : List ZI := [(.iconst 0, 1, (0, [], []))]
theorem ok_X1_pointAsEngineer_40 : zOK cX1_pointAsEngineer 1 false 1 k_X1_pointAsEngineer_40 40 = true := zOK_by (by decide +kernel)
def k_X1_pointAsEngineer_41 : List ZI := [(.ireturn, 1, (0, [], []))]
theorem ok_X1_pointAsEngineer_41 : zOK cX1_pointAsEngineer 1 false 1 k_X1_pointAsEngineer_41 41 = true := zOK_by (by decide +kernel)
theorem rt_X1_pointAsEngineer {g : Nat} {post : Option ZV → ZH → Prop} {h : ZH} {b : ZB2} {z : Int} : zRt mX1_pointAsEngineer g post (some (.inl z)) h b = (post (some (.inl z)) h ∧ h.1.length = g) := by show (_ ∧ _ ∧ True) = _; simp
def bk_X1_pointAsEngineer_28 (E : ZE) (CT : Nat → ZC) (X : ZK) (Rt : ZR) (ls : ZL) (st : List ZV) (h : ZH) (b : ZB2) : Prop := zB E CT k_X1_pointAsEngineer_28 28 ls st h b (fun t ls st h b => X t ls st h b) Rt
theorem bs_X1_pointAsEngineer_28 {E : ZE} {CT : Nat → ZC} {X : ZK} {Rt : ZR} {ls : ZL} {st : List ZV} {h : ZH} {b : ZB2} (hX : zCl E mX1_pointAsEngineer 1 false CT Rt X) (q : bk_X1_pointAsEngineer_28 E CT X Rt ls st h b) : X 28 ls st h b := by
  refine hX k_X1_pointAsEngineer_28 28 ok_X1_pointAsEngineer_28 _ ?_ ls st h b q
  exact fun t ls st h b q => q
def bk_X1_pointAsEngineer_27 (E : ZE) (CT : Nat → ZC) (X : ZK) (Rt : ZR) (ls : ZL) (st : List ZV) (h : ZH) (b : ZB2) : Prop := zB E CT k_X1_pointAsEngineer_27 27 ls st h b (fun t ls st h b => if t = 28 then bk_X1_pointAsEngineer_28 E CT X Rt ls st h b else X t ls st h b) Rt
theorem bs_X1_pointAsEngineer_27 {E : ZE} {CT : Nat → ZC} {X : ZK} {Rt : ZR} {ls : ZL} {st : List ZV} {h : ZH} {b : ZB2} (hX : zCl E mX1_pointAsEngineer 1 false CT Rt X) (q : bk_X1_pointAsEngineer_27 E CT X Rt ls st h b) : X 27 ls st h b := by
  refine hX k_X1_pointAsEngineer_27 27 ok_X1_pointAsEngineer_27 _ ?_ ls st h b q
  exact by
    intro t ls st h b q
    by_cases c : t = 28
    · subst c; rw [if_pos rfl] at q; exact bs_X1_pointAsEngineer_28 hX q
    rw [if_neg c] at q
    exact q
def bk_X1_pointAsEngineer_41 (E : ZE) (CT : Nat → ZC) (X : ZK) (Rt : ZR) (ls : ZL) (st : List ZV) (h : ZH) (b : ZB2) : Prop := zB E CT k_X1_pointAsEngineer_41 41 ls st h b (fun t ls st h b => X t ls st h b) Rt
theorem bs_X1_pointAsEngineer_41 {E : ZE} {CT : Nat → ZC} {X : ZK} {Rt : ZR} {ls : ZL} {st : List ZV} {h : ZH} {b : ZB2} (hX : zCl E mX1_pointAsEngineer 1 false CT Rt X) (q : bk_X1_pointAsEngineer_41 E CT X Rt ls st h b) : X 41 ls st h b := by
  refine hX k_X1_pointAsEngineer_41 41 ok_X1_pointAsEngineer_41 _ ?_ ls st h b q
  exact fun t ls st h b q => q
def bk_X1_pointAsEngineer_40 (E : ZE) (CT : Nat → ZC) (X : ZK) (Rt : ZR) (ls : ZL) (st : List ZV) (h : ZH) (b : ZB2) : Prop := zB E CT k_X1_pointAsEngineer_40 40 ls st h b (fun t ls st h b => if t = 41 then bk_X1_pointAsEngineer_41 E CT X Rt ls st h b else X t ls st h b) Rt
theorem bs_X1_pointAsEngineer_40 {E : ZE} {CT : Nat → ZC} {X : ZK} {Rt : ZR} {ls : ZL} {st : List ZV} {h : ZH} {b : ZB2} (hX : zCl E mX1_pointAsEngineer 1 false CT Rt X) (q : bk_X1_pointAsEngineer_40 E CT X Rt ls st h b) : X 40 ls st h b := by
  refine hX k_X1_pointAsEngineer_40 40 ok_X1_pointAsEngineer_40 _ ?_ ls st h b q
  exact by
    intro t ls st h b q
    by_cases c : t = 41
    · subst c; rw [if_pos rfl] at q; exact bs_X1_pointAsEngineer_41 hX q
    rw [if_neg c] at q
    exact q
def bk_X1_pointAsEngineer_29 (E : ZE) (CT : Nat → ZC) (X : ZK) (Rt : ZR) (ls : ZL) (st : List ZV) (h : ZH) (b : ZB2) : Prop := zB E CT k_X1_pointAsEngineer_29 29 ls st h b (fun t ls st h b => if t = 40 then bk_X1_pointAsEngineer_40 E CT X Rt ls st h b else if t = 41 then bk_X1_pointAsEngineer_41 E CT X Rt ls st h b else X t ls st h b) Rt
theorem bs_X1_pointAsEngineer_29 {E : ZE} {CT : Nat → ZC} {X : ZK} {Rt : ZR} {ls : ZL} {st : List ZV} {h : ZH} {b : ZB2} (hX : zCl E mX1_pointAsEngineer 1 false CT Rt X) (q : bk_X1_pointAsEngineer_29 E CT X Rt ls st h b) : X 29 ls st h b := by
  refine hX k_X1_pointAsEngineer_29 29 ok_X1_pointAsEngineer_29 _ ?_ ls st h b q
  exact by
    intro t ls st h b q
    by_cases c : t = 40
    · subst c; rw [if_pos rfl] at q; exact bs_X1_pointAsEngineer_40 hX q
    rw [if_neg c] at q
    by_cases c : t = 41
    · subst c; rw [if_pos rfl] at q; exact bs_X1_pointAsEngineer_41 hX q
    rw [if_neg c] at q
    exact q
def bk_X1_pointAsEngineer_9 (E : ZE) (CT : Nat → ZC) (X : ZK) (Rt : ZR) (ls : ZL) (st : List ZV) (h : ZH) (b : ZB2) : Prop := zB E CT k_X1_pointAsEngineer_9 9 ls st h b (fun t ls st h b => if t = 27 then bk_X1_pointAsEngineer_27 E CT X Rt ls st h b else if t = 28 then bk_X1_pointAsEngineer_28 E CT X Rt ls st h b else if t = 29 then bk_X1_pointAsEngineer_29 E CT X Rt ls st h b else X t ls st h b) Rt
theorem bs_X1_pointAsEngineer_9 {E : ZE} {CT : Nat → ZC} {X : ZK} {Rt : ZR} {ls : ZL} {st : List ZV} {h : ZH} {b : ZB2} (hX : zCl E mX1_pointAsEngineer 1 false CT Rt X) (q : bk_X1_pointAsEngineer_9 E CT X Rt ls st h b) : X 9 ls st h b := by
  refine hX k_X1_pointAsEngineer_9 9 ok_X1_pointAsEngineer_9 _ ?_ ls st h b q
  exact by
    intro t ls st h b q
    by_cases c : t = 27
    · subst c; rw [if_pos rfl] at q; exact bs_X1_pointAsEngineer_27 hX q
    rw [if_neg c] at q
    by_cases c : t = 28
    · subst c; rw [if_pos rfl] at q; exact bs_X1_pointAsEngineer_28 hX q
    rw [if_neg c] at q
    by_cases c : t = 29
    · subst c; rw [if_pos rfl] at q; exact bs_X1_pointAsEngineer_29 hX q
    rw [if_neg c] at q
    exact q
def bk_X1_pointAsEngineer_0 (E : ZE) (CT : Nat → ZC) (X : ZK) (Rt : ZR) (ls : ZL) (st : List ZV) (h : ZH) (b : ZB2) : Prop := zB E CT k_X1_pointAsEngineer_0 0 ls st h b (fun t ls st h b => if t = 9 then bk_X1_pointAsEngineer_9 E CT X Rt ls st h b else X t ls st h b) Rt
theorem bs_X1_pointAsEngineer_0 {E : ZE} {CT : Nat → ZC} {X : ZK} {Rt : ZR} {ls : ZL} {st : List ZV} {h : ZH} {b : ZB2} (hX : zCl E mX1_pointAsEngineer 1 false CT Rt X) (q : bk_X1_pointAsEngineer_0 E CT X Rt ls st h b) : X 0 ls st h b := by
  refine hX k_X1_pointAsEngineer_0 0 ok_X1_pointAsEngineer_0 _ ?_ ls st h b q
  exact by
    intro t ls st h b q
    by_cases c : t = 9
    · subst c; rw [if_pos rfl] at q; exact bs_X1_pointAsEngineer_9 hX q
    rw [if_neg c] at q
    exact q
-- X1_pointAsEngineer: cuts []
def k_X1_pointAsSurveyor_0 : List ZI := [(.aload_n 0, 1, (0, [0], [])), (.getfield 82, 3, (0, [1, 7], [])), (.ifCond .ne 8, 3, (0, [12], [])), (.aload_n 0, 1, (0, [0], [])), (.invokevirtual 120, 3, (0, [8, 1, 0, 1], [])), (.ireturn, 1, (0, [], []))]
theorem ok_X1_pointAsSurveyor_0 : zOK cX1_pointAsSurveyor 1 false 1 k_X1_pointAsSurveyor_0 0 = true := zOK_by (by decide +kernel)
def k_X1_pointAsSurveyor_12 : List ZI := [(.aload_n 0, 1, (0, [0], [])), (.getfield 82, 3, (0, [1, 7], [])), (.ifCond .le 7, 3, (0, [23], [])), (.iconst 2, 1, (0, [], [])), (.goto 4, 3, (0, [24], []))]
theorem ok_X1_pointAsSurveyor_12 : zOK cX1_pointAsSurveyor 1 false 1 k_X1_pointAsSurveyor_12 12 = true := zOK_by (by decide +kernel)
def k_X1_pointAsSurveyor_23 : List ZI := [(.iconst 0, 1, (0, [], []))]
theorem ok_X1_pointAsSurveyor_23 : zOK cX1_pointAsSurveyor 1 false 1 k_X1_pointAsSurveyor_23 23 = true := zOK_by (by decide +kernel)
def k_X1_pointAsSurveyor_24 : List ZI := [(.ireturn, 1, (0, [], []))]
theorem ok_X1_pointAsSurveyor_24 : zOK cX1_pointAsSurveyor 1 false 1 k_X1_pointAsSurveyor_24 24 = true := zOK_by (by decide +kernel)
theorem rt_X1_pointAsSurveyor {g : Nat} {post : Option ZV → ZH → Prop} {h : ZH} {b : ZB2} {z : Int} : zRt mX1_pointAsSurveyor g post (some (.inl z)) h b = (post (some (.inl z)) h ∧ h.1.length = g) := by show (_ ∧ _ ∧ True) = _; simp
def bk_X1_pointAsSurveyor_24 (E : ZE) (CT : Nat → ZC) (X : ZK) (Rt : ZR) (ls : ZL) (st : List ZV) (h : ZH) (b : ZB2) : Prop := zB E CT k_X1_pointAsSurveyor_24 24 ls st h b (fun t ls st h b => X t ls st h b) Rt
theorem bs_X1_pointAsSurveyor_24 {E : ZE} {CT : Nat → ZC} {X : ZK} {Rt : ZR} {ls : ZL} {st : List ZV} {h : ZH} {b : ZB2} (hX : zCl E mX1_pointAsSurveyor 1 false CT Rt X) (q : bk_X1_pointAsSurveyor_24 E CT X Rt ls st h b) : X 24 ls st h b := by
  refine hX k_X1_pointAsSurveyor_24 24 ok_X1_pointAsSurveyor_24 _ ?_ ls st h b q
  exact fun t ls st h b q => q
def bk_X1_pointAsSurveyor_23 (E : ZE) (CT : Nat → ZC) (X : ZK) (Rt : ZR) (ls : ZL) (st : List ZV) (h : ZH) (b : ZB2) : Prop := zB E CT k_X1_pointAsSurveyor_23 23 ls st h b (fun t ls st h b => if t = 24 then bk_X1_pointAsSurveyor_24 E CT X Rt ls st h b else X t ls st h b) Rt
theorem bs_X1_pointAsSurveyor_23 {E : ZE} {CT : Nat → ZC} {X : ZK} {Rt : ZR} {ls : ZL} {st : List ZV} {h : ZH} {b : ZB2} (hX : zCl E mX1_pointAsSurveyor 1 false CT Rt X) (q : bk_X1_pointAsSurveyor_23 E CT X Rt ls st h b) : X 23 ls st h b := by
  refine hX k_X1_pointAsSurveyor_23 23 ok_X1_pointAsSurveyor_23 _ ?_ ls st h b q
  exact by
    intro t ls st h b q
    by_cases c : t = 24
    · subst c; rw [if_pos rfl] at q; exact bs_X1_pointAsSurveyor_24 hX q
    rw [if_neg c] at q
    exact q
def bk_X1_pointAsSurveyor_12 (E : ZE) (CT : Nat → ZC) (X : ZK) (Rt : ZR) (ls : ZL) (st : List ZV) (h : ZH) (b : ZB2) : Prop := zB E CT k_X1_pointAsSurveyor_12 12 ls st h b (fun t ls st h b => if t = 23 then bk_X1_pointAsSurveyor_23 E CT X Rt ls st h b else if t = 24 then bk_X1_pointAsSurveyor_24 E CT X Rt ls st h b else X t ls st h b) Rt
theorem bs_X1_pointAsSurveyor_12 {E : ZE} {CT : Nat → ZC} {X : ZK} {Rt : ZR} {ls : ZL} {st : List ZV} {h : ZH} {b : ZB2} (hX : zCl E mX1_pointAsSurveyor 1 false CT Rt X) (q : bk_X1_pointAsSurveyor_12 E CT X Rt ls st h b) : X 12 ls st h b := by
  refine hX k_X1_pointAsSurveyor_12 12 ok_X1_pointAsSurveyor_12 _ ?_ ls st h b q
  exact by
    intro t ls st h b q
    by_cases c : t = 23
    · subst c; rw [if_pos rfl] at q; exact bs_X1_pointAsSurveyor_23 hX q
    rw [if_neg c] at q
    by_cases c : t = 24
    · subst c; rw [if_pos rfl] at q; exact bs_X1_pointAsSurveyor_24 hX q
    rw [if_neg c] at q
    exact q
def bk_X1_pointAsSurveyor_0 (E : ZE) (CT : Nat → ZC) (X : ZK) (Rt : ZR) (ls : ZL) (st : List ZV) (h : ZH) (b : ZB2) : Prop := zB E CT k_X1_pointAsSurveyor_0 0 ls st h b (fun t ls st h b => if t = 12 then bk_X1_pointAsSurveyor_12 E CT X Rt ls st h b else X t ls st h b) Rt
theorem bs_X1_pointAsSurveyor_0 {E : ZE} {CT : Nat → ZC} {X : ZK} {Rt : ZR} {ls : ZL} {st : List ZV} {h : ZH} {b : ZB2} (hX : zCl E mX1_pointAsSurveyor 1 false CT Rt X) (q : bk_X1_pointAsSurveyor_0 E CT X Rt ls st h b) : X 0 ls st h b := by
  refine hX k_X1_pointAsSurveyor_0 0 ok_X1_pointAsSurveyor_0 _ ?_ ls st h b q
  exact by
    intro t ls st h b q
    by_cases c : t = 12
    · subst c; rw [if_pos rfl] at q; exact bs_X1_pointAsSurveyor_12 hX q
    rw [if_neg c] at q
    exact q
-- X1_pointAsSurveyor: cuts []
def k_X1_pointAsDreamer_0 : List ZI := [(.aload_n 0, 1, (0, [0], [])), (.invokevirtual 120, 3, (0, [8, 1, 0, 1], [])), (.istore_n 2, 1, (0, [2], []))]
theorem ok_X1_pointAsDreamer_0 : zOK cX1_pointAsDreamer 1 false 3 k_X1_pointAsDreamer_0 0 = true := zOK_by (by decide +kernel)
def k_X1_pointAsDreamer_5 : List ZI := [(.aload_n 0, 1, (0, [0], [])), (.getfield 15, 3, (0, [1, 0], [])), (.getfield 117, 3, (0, [2, 9], [])), (.iconst 5, 1, (0, [], [])), (.irem, 1, (0, [], [])), (.iload_n 1, 1, (0, [1], [])), (.iconst 5, 1, (0, [], [])), (.irem, 1, (0, [], [])), (.if_icmp .ne 11, 3, (0, [28], [])), (.iload_n 2, 1, (0, [2], [])), (.iconst 2, 1, (0, [], [])), (.invokestatic 113, 3, (0, [12, 2, 0, 1], [])), (.goto 4, 3, (0, [29], []))]
theorem ok_X1_pointAsDreamer_5 : zOK cX1_pointAsDreamer 1 false 3 k_X1_pointAsDreamer_5 5 = true := zOK_by (by decide +kernel)
def k_X1_pointAsDreamer_28 : List ZI := [(.iload_n 2, 1, (0, [2], []))]
theorem ok_X1_pointAsDreamer_28 : zOK cX1_pointAsDreamer 1 false 3 k_X1_pointAsDreamer_28 28 = true := zOK_by (by decide +kernel)
def k_X1_pointAsDreamer_29 : List ZI := [(.ireturn, 1, (0, [], []))]
theorem ok_X1_pointAsDreamer_29 : zOK cX1_pointAsDreamer 1 false 3 k_X1_pointAsDreamer_29 29 = true := zOK_by (by decide +kernel)
theorem rt_X1_pointAsDreamer {g : Nat} {post : Option ZV → ZH → Prop} {h : ZH} {b : ZB2} {z : Int} : zRt mX1_pointAsDreamer g post (some (.inl z)) h b = (post (some (.inl z)) h ∧ h.1.length = g) := by show (_ ∧ _ ∧ True) = _; simp
def bk_X1_pointAsDreamer_0 (E : ZE) (CT : Nat → ZC) (X : ZK) (Rt : ZR) (ls : ZL) (st : List ZV) (h : ZH) (b : ZB2) : Prop := zB E CT k_X1_pointAsDreamer_0 0 ls st h b (fun t ls st h b => X t ls st h b) Rt
theorem bs_X1_pointAsDreamer_0 {E : ZE} {CT : Nat → ZC} {X : ZK} {Rt : ZR} {ls : ZL} {st : List ZV} {h : ZH} {b : ZB2} (hX : zCl E mX1_pointAsDreamer 1 false CT Rt X) (q : bk_X1_pointAsDreamer_0 E CT X Rt ls st h b) : X 0 ls st h b := by
  refine hX k_X1_pointAsDreamer_0 0 ok_X1_pointAsDreamer_0 _ ?_ ls st h b q
  exact fun t ls st h b q => q
def bk_X1_pointAsDreamer_29 (E : ZE) (CT : Nat → ZC) (X : ZK) (Rt : ZR) (ls : ZL) (st : List ZV) (h : ZH) (b : ZB2) : Prop := zB E CT k_X1_pointAsDreamer_29 29 ls st h b (fun t ls st h b => X t ls st h b) Rt
theorem bs_X1_pointAsDreamer_29 {E : ZE} {CT : Nat → ZC} {X : ZK} {Rt : ZR} {ls : ZL} {st : List ZV} {h : ZH} {b : ZB2} (hX : zCl E mX1_pointAsDreamer 1 false CT Rt X) (q : bk_X1_pointAsDreamer_29 E CT X Rt ls st h b) : X 29 ls st h b := by
  refine hX k_X1_pointAsDreamer_29 29 ok_X1_pointAsDreamer_29 _ ?_ ls st h b q
  exact fun t ls st h b q => q
def bk_X1_pointAsDreamer_28 (E : ZE) (CT : Nat → ZC) (X : ZK) (Rt : ZR) (ls : ZL) (st : List ZV) (h : ZH) (b : ZB2) : Prop := zB E CT k_X1_pointAsDreamer_28 28 ls st h b (fun t ls st h b => if t = 29 then bk_X1_pointAsDreamer_29 E CT X Rt ls st h b else X t ls st h b) Rt
theorem bs_X1_pointAsDreamer_28 {E : ZE} {CT : Nat → ZC} {X : ZK} {Rt : ZR} {ls : ZL} {st : List ZV} {h : ZH} {b : ZB2} (hX : zCl E mX1_pointAsDreamer 1 false CT Rt X) (q : bk_X1_pointAsDreamer_28 E CT X Rt ls st h b) : X 28 ls st h b := by
  refine hX k_X1_pointAsDreamer_28 28 ok_X1_pointAsDreamer_28 _ ?_ ls st h b q
  exact by
    intro t ls st h b q
    by_cases c : t = 29
    · subst c; rw [if_pos rfl] at q; exact bs_X1_pointAsDreamer_29 hX q
    rw [if_neg c] at q
    exact q
def bk_X1_pointAsDreamer_5 (E : ZE) (CT : Nat → ZC) (X : ZK) (Rt : ZR) (ls : ZL) (st : List ZV) (h : ZH) (b : ZB2) : Prop := zB E CT k_X1_pointAsDreamer_5 5 ls st h b (fun t ls st h b => if t = 28 then bk_X1_pointAsDreamer_28 E CT X Rt ls st h b else if t = 29 then bk_X1_pointAsDreamer_29 E CT X Rt ls st h b else X t ls st h b) Rt
theorem bs_X1_pointAsDreamer_5 {E : ZE} {CT : Nat → ZC} {X : ZK} {Rt : ZR} {ls : ZL} {st : List ZV} {h : ZH} {b : ZB2} (hX : zCl E mX1_pointAsDreamer 1 false CT Rt X) (q : bk_X1_pointAsDreamer_5 E CT X Rt ls st h b) : X 5 ls st h b := by
  refine hX k_X1_pointAsDreamer_5 5 ok_X1_pointAsDreamer_5 _ ?_ ls st h b q
  exact by
    intro t ls st h b q
    by_cases c : t = 28
    · subst c; rw [if_pos rfl] at q; exact bs_X1_pointAsDreamer_28 hX q
    rw [if_neg c] at q
    by_cases c : t = 29
    · subst c; rw [if_pos rfl] at q; exact bs_X1_pointAsDreamer_29 hX q
    rw [if_neg c] at q
    exact q
-- X1_pointAsDreamer: cuts [5]
def k_X1_pointAsForeman_0 : List ZI := [(.aload_n 0, 1, (0, [0], [])), (.invokevirtual 120, 3, (0, [8, 1, 0, 1], [])), (.istore_n 2, 1, (0, [2], []))]
theorem ok_X1_pointAsForeman_0 : zOK cX1_pointAsForeman 1 false 3 k_X1_pointAsForeman_0 0 = true := zOK_by (by decide +kernel)
def k_X1_pointAsForeman_5 : List ZI := [(.iload_n 1, 1, (0, [1], [])), (.aload_n 0, 1, (0, [0], [])), (.getfield 15, 3, (0, [1, 0], [])), (.getfield 117, 3, (0, [2, 9], [])), (.bipush 10, 2, (0, [], [])), (.irem, 1, (0, [], [])), (.if_icmp .le 11, 3, (0, [27], [])), (.iload_n 2, 1, (0, [2], [])), (.iconst 1, 1, (0, [], [])), (.invokestatic 113, 3, (0, [12, 2, 0, 1], [])), (.goto 4, 3, (0, [28], []))]
theorem ok_X1_pointAsForeman_5 : zOK cX1_pointAsForeman 1 false 3 k_X1_pointAsForeman_5 5 = true := zOK_by (by decide +kernel)
def k_X1_pointAsForeman_27 : List ZI := [(.iload_n 2, 1, (0, [2], []))]
theorem ok_X1_pointAsForeman_27 : zOK cX1_pointAsForeman 1 false 3 k_X1_pointAsForeman_27 27 = true := zOK_by (by decide +kernel)
def k_X1_pointAsForeman_28 : List ZI := [(.ireturn, 1, (0, [], []))]
theorem ok_X1_pointAsForeman_28 : zOK cX1_pointAsForeman 1 false 3 k_X1_pointAsForeman_28 28 = true := zOK_by (by decide +kernel)
theorem rt_X1_pointAsForeman {g : Nat} {post : Option ZV → ZH → Prop} {h : ZH} {b : ZB2} {z : Int} : zRt mX1_pointAsForeman g post (some (.inl z)) h b = (post (some (.inl z)) h ∧ h.1.length = g) := by show (_ ∧ _ ∧ True) = _; simp
def bk_X1_pointAsForeman_0 (E : ZE) (CT : Nat → ZC) (X : ZK) (Rt : ZR) (ls : ZL) (st : List ZV) (h : ZH) (b : ZB2) : Prop := zB E CT k_X1_pointAsForeman_0 0 ls st h b (fun t ls st h b => X t ls st h b) Rt
theorem bs_X1_pointAsForeman_0 {E : ZE} {CT : Nat → ZC} {X : ZK} {Rt : ZR} {ls : ZL} {st : List ZV} {h : ZH} {b : ZB2} (hX : zCl E mX1_pointAsForeman 1 false CT Rt X) (q : bk_X1_pointAsForeman_0 E CT X Rt ls st h b) : X 0 ls st h b := by
  refine hX k_X1_pointAsForeman_0 0 ok_X1_pointAsForeman_0 _ ?_ ls st h b q
  exact fun t ls st h b q => q
def bk_X1_pointAsForeman_28 (E : ZE) (CT : Nat → ZC) (X : ZK) (Rt : ZR) (ls : ZL) (st : List ZV) (h : ZH) (b : ZB2) : Prop := zB E CT k_X1_pointAsForeman_28 28 ls st h b (fun t ls st h b => X t ls st h b) Rt
theorem bs_X1_pointAsForeman_28 {E : ZE} {CT : Nat → ZC} {X : ZK} {Rt : ZR} {ls : ZL} {st : List ZV} {h : ZH} {b : ZB2} (hX : zCl E mX1_pointAsForeman 1 false CT Rt X) (q : bk_X1_pointAsForeman_28 E CT X Rt ls st h b) : X 28 ls st h b := by
  refine hX k_X1_pointAsForeman_28 28 ok_X1_pointAsForeman_28 _ ?_ ls st h b q
  exact fun t ls st h b q => q
def bk_X1_pointAsForeman_27 (E : ZE) (CT : Nat → ZC) (X : ZK) (Rt : ZR) (ls : ZL) (st : List ZV) (h : ZH) (b : ZB2) : Prop := zB E CT k_X1_pointAsForeman_27 27 ls st h b (fun t ls st h b => if t = 28 then bk_X1_pointAsForeman_28 E CT X Rt ls st h b else X t ls st h b) Rt
theorem bs_X1_pointAsForeman_27 {E : ZE} {CT : Nat → ZC} {X : ZK} {Rt : ZR} {ls : ZL} {st : List ZV} {h : ZH} {b : ZB2} (hX : zCl E mX1_pointAsForeman 1 false CT Rt X) (q : bk_X1_pointAsForeman_27 E CT X Rt ls st h b) : X 27 ls st h b := by
  refine hX k_X1_pointAsForeman_27 27 ok_X1_pointAsForeman_27 _ ?_ ls st h b q
  exact by
    intro t ls st h b q
    by_cases c : t = 28
    · subst c; rw [if_pos rfl] at q; exact bs_X1_pointAsForeman_28 hX q
    rw [if_neg c] at q
    exact q
def bk_X1_pointAsForeman_5 (E : ZE) (CT : Nat → ZC) (X : ZK) (Rt : ZR) (ls : ZL) (st : List ZV) (h : ZH) (b : ZB2) : Prop := zB E CT k_X1_pointAsForeman_5 5 ls st h b (fun t ls st h b => if t = 27 then bk_X1_pointAsForeman_27 E CT X Rt ls st h b else if t = 28 then bk_X1_pointAsForeman_28 E CT X Rt ls st h b else X t ls st h b) Rt
theorem bs_X1_pointAsForeman_5 {E : ZE} {CT : Nat → ZC} {X : ZK} {Rt : ZR} {ls : ZL} {st : List ZV} {h : ZH} {b : ZB2} (hX : zCl E mX1_pointAsForeman 1 false CT Rt X) (q : bk_X1_pointAsForeman_5 E CT X Rt ls st h b) : X 5 ls st h b := by
  refine hX k_X1_pointAsForeman_5 5 ok_X1_pointAsForeman_5 _ ?_ ls st h b q
  exact by
    intro t ls st h b q
    by_cases c : t = 27
    · subst c; rw [if_pos rfl] at q; exact bs_X1_pointAsForeman_27 hX q
    rw [if_neg c] at q
    by_cases c : t = 28
    · subst c; rw [if_pos rfl] at q; exact bs_X1_pointAsForeman_28 hX q
    rw [if_neg c] at q
    exact q
-- X1_pointAsForeman: cuts [5]
def k_X1_pointOf_0 : List ZI := [(.aload_n 0, 1, (0, [0], [])), (.getfield 19, 3, (0, [1, 1], [])), (.getfield 97, 3, (0, [0, 1], [])), (.iload_n 1, 1, (0, [1], [])), (.iaload, 1, (0, [], [])), (.istore_n 2, 1, (0, [2], [])), (.aload_n 0, 1, (0, [0], [])), (.getfield 19, 3, (0, [1, 1], [])), (.getfield 100, 3, (0, [0, 0], [])), (.iload_n 1, 1, (0, [1], [])), (.iaload, 1, (0, [], []))]
theorem ok_X1_pointOf_0 : zOK cX1_pointOf 1 false 3 k_X1_pointOf_0 0 = true := zOK_by (by decide +kernel)
def k_X1_pointOf_19 : List ZI := [(.tableswitch 114 1 6 #[37, 42, 48, 54, 82, 92], 37, (0, [133], [(1, 56), (2, 61), (3, 67), (4, 73), (5, 101), (6, 111)]))]
theorem ok_X1_pointOf_19 : zOK cX1_pointOf 1 false 3 k_X1_pointOf_19 19 = true := zOK_by (by decide +kernel)
def k_X1_pointOf_56 : List ZI := [(.aload_n 0, 1, (0, [0], [])), (.invokevirtual 103, 3, (0, [9, 1, 0, 1], [])), (.ireturn, 1, (0, [], []))]
theorem ok_X1_pointOf_56 : zOK cX1_pointOf 1 false 3 k_X1_pointOf_56 56 = true := zOK_by (by decide +kernel)
def k_X1_pointOf_61 : List ZI := [(.aload_n 0, 1, (0, [0], [])), (.iload_n 2, 1, (0, [2], [])), (.invokevirtual 107, 3, (0, [10, 2, 0, 1], [])), (.ireturn, 1, (0, [], []))]
theorem ok_X1_pointOf_61 : zOK cX1_pointOf 1 false 3 k_X1_pointOf_61 61 = true := zOK_by (by decide +kernel)
def k_X1_pointOf_67 : List ZI := [(.aload_n 0, 1, (0, [0], [])), (.iload_n 2, 1, (0, [2], [])), (.invokevirtual 110, 3, (0, [11, 2, 0, 1], [])), (.ireturn, 1, (0, [], []))]
theorem ok_X1_pointOf_67 : zOK cX1_pointOf 1 false 3 k_X1_pointOf_67 67 = true := zOK_by (by decide +kernel)
def k_X1_pointOf_73 : List ZI := [(.aload_n 0, 1, (0, [0], [])), (.getfield 90, 3, (0, [1, 8], [])), (.iload_n 2, 1, (0, [2], [])), (.if_icmp .le 18, 3, (0, [96], [])), (.aload_n 0, 1, (0, [0], [])), (.getfield 77, 3, (0, [1, 5], [])), (.iconst 4, 1, (0, [], [])), (.if_icmp .eq 10, 3, (0, [96], [])), (.aload_n 0, 1, (0, [0], [])), (.getfield 77, 3, (0, [1, 5], [])), (.goto 7, 3, (0, [100], []))]
theorem ok_X1_pointOf_73 : zOK cX1_pointOf 1 false 3 k_X1_pointOf_73 73 = true := zOK_by (by decide +kernel)
def k_X1_pointOf_96 : List ZI := [(.aload_n 0, 1, (0, [0], [])), (.invokevirtual 103, 3, (0, [9, 1, 0, 1], []))]
theorem ok_X1_pointOf_96 : zOK cX1_pointOf 1 false 3 k_X1_pointOf_96 96 = true := zOK_by (by decide +kernel)
def k_X1_pointOf_100 : List ZI := [(.ireturn, 1, (0, [], []))]
theorem ok_X1_pointOf_100 : zOK cX1_pointOf 1 false 3 k_X1_pointOf_100 100 = true := zOK_by (by decide +kernel)
def k_X1_pointOf_101 : List ZI := [(.aload_n 0, 1, (0, [0], [])), (.iload_n 2, 1, (0, [2], [])), (.invokevirtual 107, 3, (0, [10, 2, 0, 1], [])), (.iconst 2, 1, (0, [], [])), (.invokestatic 113, 3, (0, [12, 2, 0, 1], [])), (.ireturn, 1, (0, [], []))]
theorem ok_X1_pointOf_101 : zOK cX1_pointOf 1 false 3 k_X1_pointOf_101 101 = true := zOK_by (by decide +kernel)
def k_X1_pointOf_111 : List ZI := [(.aload_n 0, 1, (0, [0], [])), (.getfield 15, 3, (0, [1, 0], [])), (.getfield 117, 3, (0, [2, 9], [])), (.iconst 2, 1, (0, [], [])), (.irem, 1, (0, [], [])), (.ifCond .ne 7, 3, (0, [127], [])), (.iconst 4, 1, (0, [], [])), (.goto 8, 3, (0, [132], []))]
theorem ok_X1_pointOf_111 : zOK cX1_pointOf 1 false 3 k_X1_pointOf_111 111 = true := zOK_by (by decide +kernel)
def k_X1_pointOf_127 : List ZI := [(.aload_n 0, 1, (0, [0], [])), (.iload_n 2, 1, (0, [2], [])), (.invokevirtual 110, 3, (0, [11, 2, 0, 1], []))]
theorem ok_X1_pointOf_127 : zOK cX1_pointOf 1 false 3 k_X1_pointOf_127 127 = true := zOK_by (by decide +kernel)
def k_X1_pointOf_132 : List ZI := [(.ireturn, 1, (0, [], []))]
theorem ok_X1_pointOf_132 : zOK cX1_pointOf 1 false 3 k_X1_pointOf_132 132 = true := zOK_by (by decide +kernel)
def k_X1_pointOf_133 : List ZI := [(.aload_n 0, 1, (0, [0], [])), (.invokevirtual 120, 3, (0, [8, 1, 0, 1], [])), (.ireturn, 1, (0, [], []))]
theorem ok_X1_pointOf_133 : zOK cX1_pointOf 1 false 3 k_X1_pointOf_133 133 = true := zOK_by (by decide +kernel)
theorem rt_X1_pointOf {g : Nat} {post : Option ZV → ZH → Prop} {h : ZH} {b : ZB2} {z : Int} : zRt mX1_pointOf g post (some (.inl z)) h b = (post (some (.inl z)) h ∧ h.1.length = g) := by show (_ ∧ _ ∧ True) = _; simp
def bk_X1_pointOf_0 (E : ZE) (CT : Nat → ZC) (X : ZK) (Rt : ZR) (ls : ZL) (st : List ZV) (h : ZH) (b : ZB2) : Prop := zB E CT k_X1_pointOf_0 0 ls st h b (fun t ls st h b => X t ls st h b) Rt
theorem bs_X1_pointOf_0 {E : ZE} {CT : Nat → ZC} {X : ZK} {Rt : ZR} {ls : ZL} {st : List ZV} {h : ZH} {b : ZB2} (hX : zCl E mX1_pointOf 1 false CT Rt X) (q : bk_X1_pointOf_0 E CT X Rt ls st h b) : X 0 ls st h b := by
  refine hX k_X1_pointOf_0 0 ok_X1_pointOf_0 _ ?_ ls st h b q
  exact fun t ls st h b q => q
def bk_X1_pointOf_19 (E : ZE) (CT : Nat → ZC) (X : ZK) (Rt : ZR) (ls : ZL) (st : List ZV) (h : ZH) (b : ZB2) : Prop := zB E CT k_X1_pointOf_19 19 ls st h b (fun t ls st h b => X t ls st h b) Rt
theorem bs_X1_pointOf_19 {E : ZE} {CT : Nat → ZC} {X : ZK} {Rt : ZR} {ls : ZL} {st : List ZV} {h : ZH} {b : ZB2} (hX : zCl E mX1_pointOf 1 false CT Rt X) (q : bk_X1_pointOf_19 E CT X Rt ls st h b) : X 19 ls st h b := by
  refine hX k_X1_pointOf_19 19 ok_X1_pointOf_19 _ ?_ ls st h b q
  exact fun t ls st h b q => q
def bk_X1_pointOf_56 (E : ZE) (CT : Nat → ZC) (X : ZK) (Rt : ZR) (ls : ZL) (st : List ZV) (h : ZH) (b : ZB2) : Prop := zB E CT k_X1_pointOf_56 56 ls st h b (fun t ls st h b => X t ls st h b) Rt
theorem bs_X1_pointOf_56 {E : ZE} {CT : Nat → ZC} {X : ZK} {Rt : ZR} {ls : ZL} {st : List ZV} {h : ZH} {b : ZB2} (hX : zCl E mX1_pointOf 1 false CT Rt X) (q : bk_X1_pointOf_56 E CT X Rt ls st h b) : X 56 ls st h b := by
  refine hX k_X1_pointOf_56 56 ok_X1_pointOf_56 _ ?_ ls st h b q
  exact fun t ls st h b q => q
def bk_X1_pointOf_61 (E : ZE) (CT : Nat → ZC) (X : ZK) (Rt : ZR) (ls : ZL) (st : List ZV) (h : ZH) (b : ZB2) : Prop := zB E CT k_X1_pointOf_61 61 ls st h b (fun t ls st h b => X t ls st h b) Rt
theorem bs_X1_pointOf_61 {E : ZE} {CT : Nat → ZC} {X : ZK} {Rt : ZR} {ls : ZL} {st : List ZV} {h : ZH} {b : ZB2} (hX : zCl E mX1_pointOf 1 false CT Rt X) (q : bk_X1_pointOf_61 E CT X Rt ls st h b) : X 61 ls st h b := by
  refine hX k_X1_pointOf_61 61 ok_X1_pointOf_61 _ ?_ ls st h b q
  exact fun t ls st h b q => q
def bk_X1_pointOf_67 (E : ZE) (CT : Nat → ZC) (X : ZK) (Rt : ZR) (ls : ZL) (st : List ZV) (h : ZH) (b : ZB2) : Prop := zB E CT k_X1_pointOf_67 67 ls st h b (fun t ls st h b => X t ls st h b) Rt
theorem bs_X1_pointOf_67 {E : ZE} {CT : Nat → ZC} {X : ZK} {Rt : ZR} {ls : ZL} {st : List ZV} {h : ZH} {b : ZB2} (hX : zCl E mX1_pointOf 1 false CT Rt X) (q : bk_X1_pointOf_67 E CT X Rt ls st h b) : X 67 ls st h b := by
  refine hX k_X1_pointOf_67 67 ok_X1_pointOf_67 _ ?_ ls st h b q
  exact fun t ls st h b q => q
def bk_X1_pointOf_100 (E : ZE) (CT : Nat → ZC) (X : ZK) (Rt : ZR) (ls : ZL) (st : List ZV) (h : ZH) (b : ZB2) : Prop := zB E CT k_X1_pointOf_100 100 ls st h b (fun t ls st h b => X t ls st h b) Rt
theorem bs_X1_pointOf_100 {E : ZE} {CT : Nat → ZC} {X : ZK} {Rt : ZR} {ls : ZL} {st : List ZV} {h : ZH} {b : ZB2} (hX : zCl E mX1_pointOf 1 false CT Rt X) (q : bk_X1_pointOf_100 E CT X Rt ls st h b) : X 100 ls st h b := by
  refine hX k_X1_pointOf_100 100 ok_X1_pointOf_100 _ ?_ ls st h b q
  exact fun t ls st h b q => q
def bk_X1_pointOf_73 (E : ZE) (CT : Nat → ZC) (X : ZK) (Rt : ZR) (ls : ZL) (st : List ZV) (h : ZH) (b : ZB2) : Prop := zB E CT k_X1_pointOf_73 73 ls st h b (fun t ls st h b => if t = 100 then bk_X1_pointOf_100 E CT X Rt ls st h b else X t ls st h b) Rt
theorem bs_X1_pointOf_73 {E : ZE} {CT : Nat → ZC} {X : ZK} {Rt : ZR} {ls : ZL} {st : List ZV} {h : ZH} {b : ZB2} (hX : zCl E mX1_pointOf 1 false CT Rt X) (q : bk_X1_pointOf_73 E CT X Rt ls st h b) : X 73 ls st h b := by
  refine hX k_X1_pointOf_73 73 ok_X1_pointOf_73 _ ?_ ls st h b q
  exact by
    intro t ls st h b q
    by_cases c : t = 100
    · subst c; rw [if_pos rfl] at q; exact bs_X1_pointOf_100 hX q
    rw [if_neg c] at q
    exact q
def bk_X1_pointOf_96 (E : ZE) (CT : Nat → ZC) (X : ZK) (Rt : ZR) (ls : ZL) (st : List ZV) (h : ZH) (b : ZB2) : Prop := zB E CT k_X1_pointOf_96 96 ls st h b (fun t ls st h b => if t = 100 then bk_X1_pointOf_100 E CT X Rt ls st h b else X t ls st h b) Rt
theorem bs_X1_pointOf_96 {E : ZE} {CT : Nat → ZC} {X : ZK} {Rt : ZR} {ls : ZL} {st : List ZV} {h : ZH} {b : ZB2} (hX : zCl E mX1_pointOf 1 false CT Rt X) (q : bk_X1_pointOf_96 E CT X Rt ls st h b) : X 96 ls st h b := by
  refine hX k_X1_pointOf_96 96 ok_X1_pointOf_96 _ ?_ ls st h b q
  exact by
    intro t ls st h b q
    by_cases c : t = 100
    · subst c; rw [if_pos rfl] at q; exact bs_X1_pointOf_100 hX q
    rw [if_neg c] at q
    exact q
def bk_X1_pointOf_101 (E : ZE) (CT : Nat → ZC) (X : ZK) (Rt : ZR) (ls : ZL) (st : List ZV) (h : ZH) (b : ZB2) : Prop := zB E CT k_X1_pointOf_101 101 ls st h b (fun t ls st h b => X t ls st h b) Rt
theorem bs_X1_pointOf_101 {E : ZE} {CT : Nat → ZC} {X : ZK} {Rt : ZR} {ls : ZL} {st : List ZV} {h : ZH} {b : ZB2} (hX : zCl E mX1_pointOf 1 false CT Rt X) (q : bk_X1_pointOf_101 E CT X Rt ls st h b) : X 101 ls st h b := by
  refine hX k_X1_pointOf_101 101 ok_X1_pointOf_101 _ ?_ ls st h b q
  exact fun t ls st h b q => q
def bk_X1_pointOf_132 (E : ZE) (CT : Nat → ZC) (X : ZK) (Rt : ZR) (ls : ZL) (st : List ZV) (h : ZH) (b : ZB2) : Prop := zB E CT k_X1_pointOf_132 132 ls st h b (fun t ls st h b => X t ls st h b) Rt
theorem bs_X1_pointOf_132 {E : ZE} {CT : Nat → ZC} {X : ZK} {Rt : ZR} {ls : ZL} {st : List ZV} {h : ZH} {b : ZB2} (hX : zCl E mX1_pointOf 1 false CT Rt X) (q : bk_X1_pointOf_132 E CT X Rt ls st h b) : X 132 ls st h b := by
  refine hX k_X1_pointOf_132 132 ok_X1_pointOf_132 _ ?_ ls st h b q
  exact fun t ls st h b q => q
def bk_X1_pointOf_111 (E : ZE) (CT : Nat → ZC) (X : ZK) (Rt : ZR) (ls : ZL) (st : List ZV) (h : ZH) (b : ZB2) : Prop := zB E CT k_X1_pointOf_111 111 ls st h b (fun t ls st h b => if t = 132 then bk_X1_pointOf_132 E CT X Rt ls st h b else X t ls st h b) Rt
theorem bs_X1_pointOf_111 {E : ZE} {CT : Nat → ZC} {X : ZK} {Rt : ZR} {ls : ZL} {st : List ZV} {h : ZH} {b : ZB2} (hX : zCl E mX1_pointOf 1 false CT Rt X) (q : bk_X1_pointOf_111 E CT X Rt ls st h b) : X 111 ls st h b := by
  refine hX k_X1_pointOf_111 111 ok_X1_pointOf_111 _ ?_ ls st h b q
  exact by
    intro t ls st h b q
    by_cases c : t = 132
    · subst c; rw [if_pos rfl] at q; exact bs_X1_pointOf_132 hX q
    rw [if_neg c] at q
    exact q
def bk_X1_pointOf_127 (E : ZE) (CT : Nat → ZC) (X : ZK) (Rt : ZR) (ls : ZL) (st : List ZV) (h : ZH) (b : ZB2) : Prop := zB E CT k_X1_pointOf_127 127 ls st h b (fun t ls st h b => if t = 132 then bk_X1_pointOf_132 E CT X Rt ls st h b else X t ls st h b) Rt
theorem bs_X1_pointOf_127 {E : ZE} {CT : Nat → ZC} {X : ZK} {Rt : ZR} {ls : ZL} {st : List ZV} {h : ZH} {b : ZB2} (hX : zCl E mX1_pointOf 1 false CT Rt X) (q : bk_X1_pointOf_127 E CT X Rt ls st h b) : X 127 ls st h b := by
  refine hX k_X1_pointOf_127 127 ok_X1_pointOf_127 _ ?_ ls st h b q
  exact by
    intro t ls st h b q
    by_cases c : t = 132
    · subst c; rw [if_pos rfl] at q; exact bs_X1_pointOf_132 hX q
    rw [if_neg c] at q
    exact q
def bk_X1_pointOf_133 (E : ZE) (CT : Nat → ZC) (X : ZK) (Rt : ZR) (ls : ZL) (st : List ZV) (h : ZH) (b : ZB2) : Prop := zB E CT k_X1_pointOf_133 133 ls st h b (fun t ls st h b => X t ls st h b) Rt
theorem bs_X1_pointOf_133 {E : ZE} {CT : Nat → ZC} {X : ZK} {Rt : ZR} {ls : ZL} {st : List ZV} {h : ZH} {b : ZB2} (hX : zCl E mX1_pointOf 1 false CT Rt X) (q : bk_X1_pointOf_133 E CT X Rt ls st h b) : X 133 ls st h b := by
  refine hX k_X1_pointOf_133 133 ok_X1_pointOf_133 _ ?_ ls st h b q
  exact fun t ls st h b q => q
-- X1_pointOf: cuts [19, 56, 61, 67, 73, 96, 101, 111, 127, 133]
def k_X1_earsOf_0 : List ZI := [(.iload_n 1, 1, (0, [1], [])), (.tableswitch 83 1 5 #[35, 41, 43, 45, 69], 35, (0, [84], [(1, 36), (2, 42), (3, 44), (4, 46), (5, 70)]))]
theorem ok_X1_earsOf_0 : zOK cX1_earsOf 1 false 3 k_X1_earsOf_0 0 = true := zOK_by (by decide +kernel)
def k_X1_earsOf_36 : List ZI := [(.iconst 2, 1, (0, [], [])), (.iload_n 2, 1, (0, [2], [])), (.iconst 3, 1, (0, [], [])), (.idiv, 1, (0, [], [])), (.iadd, 1, (0, [], [])), (.ireturn, 1, (0, [], []))]
theorem ok_X1_earsOf_36 : zOK cX1_earsOf 1 false 3 k_X1_earsOf_36 36 = true := zOK_by (by decide +kernel)
def k_X1_earsOf_42 : List ZI := [(.iconst 1, 1, (0, [], [])), (.ireturn, 1, (0, [], []))]
theorem ok_X1_earsOf_42 : zOK cX1_earsOf 1 false 3 k_X1_earsOf_42 42 = true := zOK_by (by decide +kernel)
def k_X1_earsOf_44 : List ZI := [(.iconst 4, 1, (0, [], [])), (.ireturn, 1, (0, [], []))]
theorem ok_X1_earsOf_44 : zOK cX1_earsOf 1 false 3 k_X1_earsOf_44 44 = true := zOK_by (by decide +kernel)
def k_X1_earsOf_46 : List ZI := [(.iconst 2, 1, (0, [], [])), (.iload_n 2, 1, (0, [2], [])), (.iconst 3, 1, (0, [], [])), (.idiv, 1, (0, [], [])), (.iadd, 1, (0, [], [])), (.aload_n 0, 1, (0, [0], [])), (.getfield 15, 3, (0, [1, 0], [])), (.getfield 117, 3, (0, [2, 9], [])), (.iconst 2, 1, (0, [], [])), (.irem, 1, (0, [], [])), (.ifCond .ne 7, 3, (0, [67], [])), (.iconst 1, 1, (0, [], [])), (.goto 4, 3, (0, [68], []))]
theorem ok_X1_earsOf_46 : zOK cX1_earsOf 1 false 3 k_X1_earsOf_46 46 = true := zOK_by (by decide +kernel)
def k_X1_earsOf_67 : List ZI := [(.iconst 0, 1, (0, [], []))]
theorem ok_X1_earsOf_67 : zOK cX1_earsOf 1 false 3 k_X1_earsOf_67 67 = true := zOK_by (by decide +kernel)
def k_X1_earsOf_68 : List ZI := [(.iadd, 1, (0, [], [])), (.ireturn, 1, (0, [], []))]
theorem ok_X1_earsOf_68 : zOK cX1_earsOf 1 false 3 k_X1_earsOf_68 68 = true := zOK_by (by decide +kernel)
def k_X1_earsOf_70 : List ZI := [(.aload_n 0, 1, (0, [0], [])), (.getfield 90, 3, (0, [1, 8], [])), (.iload_n 2, 1, (0, [2], [])), (.if_icmp .le 7, 3, (0, [82], [])), (.iconst 1, 1, (0, [], [])), (.goto 4, 3, (0, [83], []))]
theorem ok_X1_earsOf_70 : zOK cX1_earsOf 1 false 3 k_X1_earsOf_70 70 = true := zOK_by (by decide +kernel)
def k_X1_earsOf_82 : List ZI := [(.iconst 0, 1, (0, [], []))]
theorem ok_X1_earsOf_82 : zOK cX1_earsOf 1 false 3 k_X1_earsOf_82 82 = true := zOK_by (by decide +kernel)
def k_X1_earsOf_83 : List ZI := [(.ireturn, 1, (0, [], []))]
theorem ok_X1_earsOf_83 : zOK cX1_earsOf 1 false 3 k_X1_earsOf_83 83 = true := zOK_by (by decide +kernel)
def k_X1_earsOf_84 : List ZI := [(.iconst 2, 1, (0, [], [])), (.ireturn, 1, (0, [], []))]
theorem ok_X1_earsOf_84 : zOK cX1_earsOf 1 false 3 k_X1_earsOf_84 84 = true := zOK_by (by decide +kernel)
theorem rt_X1_earsOf {g : Nat} {post : Option ZV → ZH → Prop} {h : ZH} {b : ZB2} {z : Int} : zRt mX1_earsOf g post (some (.inl z)) h b = (post (some (.inl z)) h ∧ h.1.length = g) := by show (_ ∧ _ ∧ True) = _; simp
def bk_X1_earsOf_0 (E : ZE) (CT : Nat → ZC) (X : ZK) (Rt : ZR) (ls : ZL) (st : List ZV) (h : ZH) (b : ZB2) : Prop := zB E CT k_X1_earsOf_0 0 ls st h b (fun t ls st h b => X t ls st h b) Rt
theorem bs_X1_earsOf_0 {E : ZE} {CT : Nat → ZC} {X : ZK} {Rt : ZR} {ls : ZL} {st : List ZV} {h : ZH} {b : ZB2} (hX : zCl E mX1_earsOf 1 false CT Rt X) (q : bk_X1_earsOf_0 E CT X Rt ls st h b) : X 0 ls st h b := by
  refine hX k_X1_earsOf_0 0 ok_X1_earsOf_0 _ ?_ ls st h b q
  exact fun t ls st h b q => q
def bk_X1_earsOf_36 (E : ZE) (CT : Nat → ZC) (X : ZK) (Rt : ZR) (ls : ZL) (st : List ZV) (h : ZH) (b : ZB2) : Prop := zB E CT k_X1_earsOf_36 36 ls st h b (fun t ls st h b => X t ls st h b) Rt
theorem bs_X1_earsOf_36 {E : ZE} {CT : Nat → ZC} {X : ZK} {Rt : ZR} {ls : ZL} {st : List ZV} {h : ZH} {b : ZB2} (hX : zCl E mX1_earsOf 1 false CT Rt X) (q : bk_X1_earsOf_36 E CT X Rt ls st h b) : X 36 ls st h b := by
  refine hX k_X1_earsOf_36 36 ok_X1_earsOf_36 _ ?_ ls st h b q
  exact fun t ls st h b q => q
def bk_X1_earsOf_42 (E : ZE) (CT : Nat → ZC) (X : ZK) (Rt : ZR) (ls : ZL) (st : List ZV) (h : ZH) (b : ZB2) : Prop := zB E CT k_X1_earsOf_42 42 ls st h b (fun t ls st h b => X t ls st h b) Rt
theorem bs_X1_earsOf_42 {E : ZE} {CT : Nat → ZC} {X : ZK} {Rt : ZR} {ls : ZL} {st : List ZV} {h : ZH} {b : ZB2} (hX : zCl E mX1_earsOf 1 false CT Rt X) (q : bk_X1_earsOf_42 E CT X Rt ls st h b) : X 42 ls st h b := by
  refine hX k_X1_earsOf_42 42 ok_X1_earsOf_42 _ ?_ ls st h b q
  exact fun t ls st h b q => q
def bk_X1_earsOf_44 (E : ZE) (CT : Nat → ZC) (X : ZK) (Rt : ZR) (ls : ZL) (st : List ZV) (h : ZH) (b : ZB2) : Prop := zB E CT k_X1_earsOf_44 44 ls st h b (fun t ls st h b => X t ls st h b) Rt
theorem bs_X1_earsOf_44 {E : ZE} {CT : Nat → ZC} {X : ZK} {Rt : ZR} {ls : ZL} {st : List ZV} {h : ZH} {b : ZB2} (hX : zCl E mX1_earsOf 1 false CT Rt X) (q : bk_X1_earsOf_44 E CT X Rt ls st h b) : X 44 ls st h b := by
  refine hX k_X1_earsOf_44 44 ok_X1_earsOf_44 _ ?_ ls st h b q
  exact fun t ls st h b q => q
def bk_X1_earsOf_68 (E : ZE) (CT : Nat → ZC) (X : ZK) (Rt : ZR) (ls : ZL) (st : List ZV) (h : ZH) (b : ZB2) : Prop := zB E CT k_X1_earsOf_68 68 ls st h b (fun t ls st h b => X t ls st h b) Rt
theorem bs_X1_earsOf_68 {E : ZE} {CT : Nat → ZC} {X : ZK} {Rt : ZR} {ls : ZL} {st : List ZV} {h : ZH} {b : ZB2} (hX : zCl E mX1_earsOf 1 false CT Rt X) (q : bk_X1_earsOf_68 E CT X Rt ls st h b) : X 68 ls st h b := by
  refine hX k_X1_earsOf_68 68 ok_X1_earsOf_68 _ ?_ ls st h b q
  exact fun t ls st h b q => q
def bk_X1_earsOf_67 (E : ZE) (CT : Nat → ZC) (X : ZK) (Rt : ZR) (ls : ZL) (st : List ZV) (h : ZH) (b : ZB2) : Prop := zB E CT k_X1_earsOf_67 67 ls st h b (fun t ls st h b => if t = 68 then bk_X1_earsOf_68 E CT X Rt ls st h b else X t ls st h b) Rt
theorem bs_X1_earsOf_67 {E : ZE} {CT : Nat → ZC} {X : ZK} {Rt : ZR} {ls : ZL} {st : List ZV} {h : ZH} {b : ZB2} (hX : zCl E mX1_earsOf 1 false CT Rt X) (q : bk_X1_earsOf_67 E CT X Rt ls st h b) : X 67 ls st h b := by
  refine hX k_X1_earsOf_67 67 ok_X1_earsOf_67 _ ?_ ls st h b q
  exact by
    intro t ls st h b q
    by_cases c : t = 68
    · subst c; rw [if_pos rfl] at q; exact bs_X1_earsOf_68 hX q
    rw [if_neg c] at q
    exact q
def bk_X1_earsOf_46 (E : ZE) (CT : Nat → ZC) (X : ZK) (Rt : ZR) (ls : ZL) (st : List ZV) (h : ZH) (b : ZB2) : Prop := zB E CT k_X1_earsOf_46 46 ls st h b (fun t ls st h b => if t = 67 then bk_X1_earsOf_67 E CT X Rt ls st h b else if t = 68 then bk_X1_earsOf_68 E CT X Rt ls st h b else X t ls st h b) Rt
theorem bs_X1_earsOf_46 {E : ZE} {CT : Nat → ZC} {X : ZK} {Rt : ZR} {ls : ZL} {st : List ZV} {h : ZH} {b : ZB2} (hX : zCl E mX1_earsOf 1 false CT Rt X) (q : bk_X1_earsOf_46 E CT X Rt ls st h b) : X 46 ls st h b := by
  refine hX k_X1_earsOf_46 46 ok_X1_earsOf_46 _ ?_ ls st h b q
  exact by
    intro t ls st h b q
    by_cases c : t = 67
    · subst c; rw [if_pos rfl] at q; exact bs_X1_earsOf_67 hX q
    rw [if_neg c] at q
    by_cases c : t = 68
    · subst c; rw [if_pos rfl] at q; exact bs_X1_earsOf_68 hX q
    rw [if_neg c] at q
    exact q
def bk_X1_earsOf_83 (E : ZE) (CT : Nat → ZC) (X : ZK) (Rt : ZR) (ls : ZL) (st : List ZV) (h : ZH) (b : ZB2) : Prop := zB E CT k_X1_earsOf_83 83 ls st h b (fun t ls st h b => X t ls st h b) Rt
theorem bs_X1_earsOf_83 {E : ZE} {CT : Nat → ZC} {X : ZK} {Rt : ZR} {ls : ZL} {st : List ZV} {h : ZH} {b : ZB2} (hX : zCl E mX1_earsOf 1 false CT Rt X) (q : bk_X1_earsOf_83 E CT X Rt ls st h b) : X 83 ls st h b := by
  refine hX k_X1_earsOf_83 83 ok_X1_earsOf_83 _ ?_ ls st h b q
  exact fun t ls st h b q => q
def bk_X1_earsOf_82 (E : ZE) (CT : Nat → ZC) (X : ZK) (Rt : ZR) (ls : ZL) (st : List ZV) (h : ZH) (b : ZB2) : Prop := zB E CT k_X1_earsOf_82 82 ls st h b (fun t ls st h b => if t = 83 then bk_X1_earsOf_83 E CT X Rt ls st h b else X t ls st h b) Rt
theorem bs_X1_earsOf_82 {E : ZE} {CT : Nat → ZC} {X : ZK} {Rt : ZR} {ls : ZL} {st : List ZV} {h : ZH} {b : ZB2} (hX : zCl E mX1_earsOf 1 false CT Rt X) (q : bk_X1_earsOf_82 E CT X Rt ls st h b) : X 82 ls st h b := by
  refine hX k_X1_earsOf_82 82 ok_X1_earsOf_82 _ ?_ ls st h b q
  exact by
    intro t ls st h b q
    by_cases c : t = 83
    · subst c; rw [if_pos rfl] at q; exact bs_X1_earsOf_83 hX q
    rw [if_neg c] at q
    exact q
def bk_X1_earsOf_70 (E : ZE) (CT : Nat → ZC) (X : ZK) (Rt : ZR) (ls : ZL) (st : List ZV) (h : ZH) (b : ZB2) : Prop := zB E CT k_X1_earsOf_70 70 ls st h b (fun t ls st h b => if t = 82 then bk_X1_earsOf_82 E CT X Rt ls st h b else if t = 83 then bk_X1_earsOf_83 E CT X Rt ls st h b else X t ls st h b) Rt
theorem bs_X1_earsOf_70 {E : ZE} {CT : Nat → ZC} {X : ZK} {Rt : ZR} {ls : ZL} {st : List ZV} {h : ZH} {b : ZB2} (hX : zCl E mX1_earsOf 1 false CT Rt X) (q : bk_X1_earsOf_70 E CT X Rt ls st h b) : X 70 ls st h b := by
  refine hX k_X1_earsOf_70 70 ok_X1_earsOf_70 _ ?_ ls st h b q
  exact by
    intro t ls st h b q
    by_cases c : t = 82
    · subst c; rw [if_pos rfl] at q; exact bs_X1_earsOf_82 hX q
    rw [if_neg c] at q
    by_cases c : t = 83
    · subst c; rw [if_pos rfl] at q; exact bs_X1_earsOf_83 hX q
    rw [if_neg c] at q
    exact q
def bk_X1_earsOf_84 (E : ZE) (CT : Nat → ZC) (X : ZK) (Rt : ZR) (ls : ZL) (st : List ZV) (h : ZH) (b : ZB2) : Prop := zB E CT k_X1_earsOf_84 84 ls st h b (fun t ls st h b => X t ls st h b) Rt
theorem bs_X1_earsOf_84 {E : ZE} {CT : Nat → ZC} {X : ZK} {Rt : ZR} {ls : ZL} {st : List ZV} {h : ZH} {b : ZB2} (hX : zCl E mX1_earsOf 1 false CT Rt X) (q : bk_X1_earsOf_84 E CT X Rt ls st h b) : X 84 ls st h b := by
  refine hX k_X1_earsOf_84 84 ok_X1_earsOf_84 _ ?_ ls st h b q
  exact fun t ls st h b q => q
-- X1_earsOf: cuts [36, 42, 44, 46, 70, 84]
def k_X1_weightOf_0 : List ZI := [(.aload_n 0, 1, (0, [0], [])), (.getfield 23, 3, (0, [1, 2], [])), (.aload_n 0, 1, (0, [0], [])), (.aload_n 0, 1, (0, [0], [])), (.getfield 19, 3, (0, [1, 1], [])), (.getfield 100, 3, (0, [0, 0], [])), (.iload_n 1, 1, (0, [1], [])), (.iaload, 1, (0, [], [])), (.aload_n 0, 1, (0, [0], [])), (.getfield 19, 3, (0, [1, 1], [])), (.getfield 97, 3, (0, [0, 1], [])), (.iload_n 1, 1, (0, [1], [])), (.iaload, 1, (0, [], [])), (.invokevirtual 123, 3, (0, [14, 3, 0, 1], [])), (.aload_n 0, 1, (0, [0], [])), (.getfield 90, 3, (0, [1, 8], [])), (.aload_n 0, 1, (0, [0], [])), (.getfield 15, 3, (0, [1, 0], [])), (.getfield 117, 3, (0, [2, 9], [])), (.bipush 8, 2, (0, [], [])), (.irem, 1, (0, [], [])), (.invokevirtual 126, 3, (0, [26, 4, 0, 3], [])), (.ireturn, 1, (0, [], []))]
theorem ok_X1_weightOf_0 : zOK cX1_weightOf 1 false 2 k_X1_weightOf_0 0 = true := zOK_by (by decide +kernel)
theorem rt_X1_weightOf {g : Nat} {post : Option ZV → ZH → Prop} {h : ZH} {b : ZB2} {z : Int} : zRt mX1_weightOf g post (some (.inl z)) h b = (post (some (.inl z)) h ∧ h.1.length = g) := by show (_ ∧ _ ∧ True) = _; simp
def bk_X1_weightOf_0 (E : ZE) (CT : Nat → ZC) (X : ZK) (Rt : ZR) (ls : ZL) (st : List ZV) (h : ZH) (b : ZB2) : Prop := zB E CT k_X1_weightOf_0 0 ls st h b (fun t ls st h b => X t ls st h b) Rt
theorem bs_X1_weightOf_0 {E : ZE} {CT : Nat → ZC} {X : ZK} {Rt : ZR} {ls : ZL} {st : List ZV} {h : ZH} {b : ZB2} (hX : zCl E mX1_weightOf 1 false CT Rt X) (q : bk_X1_weightOf_0 E CT X Rt ls st h b) : X 0 ls st h b := by
  refine hX k_X1_weightOf_0 0 ok_X1_weightOf_0 _ ?_ ls st h b q
  exact fun t ls st h b q => q
-- X1_weightOf: cuts []
def k_X1_listen_0 : List ZI := [(.aload_n 0, 1, (0, [0], [])), (.getfield 15, 3, (0, [1, 0], [])), (.getfield 30, 3, (0, [2, 2], [])), (.iload_n 1, 1, (0, [1], [])), (.iaload, 1, (0, [], [])), (.istore_n 2, 1, (0, [2], [])), (.aload_n 0, 1, (0, [0], [])), (.getfield 15, 3, (0, [1, 0], [])), (.iload_n 1, 1, (0, [1], [])), (.invokevirtual 71, 3, (0, [21, 2, 0, 2], [])), (.istore_n 3, 1, (0, [3], []))]
theorem ok_X1_listen_0 : zOK cX1_listen 1 false 4 k_X1_listen_0 0 = true := zOK_by (by decide +kernel)
def k_X1_listen_19 : List ZI := [(.aload_n 0, 1, (0, [0], [])), (.aload_n 0, 1, (0, [0], [])), (.getfield 15, 3, (0, [1, 0], [])), (.getfield 74, 3, (0, [2, 5], [])), (.iload_n 1, 1, (0, [1], [])), (.iaload, 1, (0, [], [])), (.putfield 77, 3, (0, [1, 5], [])), (.aload_n 0, 1, (0, [0], [])), (.iload_n 3, 1, (0, [3], [])), (.bipush 8, 2, (0, [], [])), (.irem, 1, (0, [], [])), (.iload_n 2, 1, (0, [2], [])), (.bipush 8, 2, (0, [], [])), (.irem, 1, (0, [], [])), (.isub, 1, (0, [], [])), (.putfield 79, 3, (0, [1, 6], [])), (.aload_n 0, 1, (0, [0], [])), (.iload_n 3, 1, (0, [3], [])), (.bipush 8, 2, (0, [], [])), (.idiv, 1, (0, [], [])), (.iload_n 2, 1, (0, [2], [])), (.bipush 8, 2, (0, [], [])), (.idiv, 1, (0, [], [])), (.isub, 1, (0, [], [])), (.putfield 82, 3, (0, [1, 7], []))]
theorem ok_X1_listen_19 : zOK cX1_listen 1 false 4 k_X1_listen_19 19 = true := zOK_by (by decide +kernel)
def k_X1_listen_58 : List ZI := [(.aload_n 0, 1, (0, [0], [])), (.aload_n 0, 1, (0, [0], [])), (.getfield 79, 3, (0, [1, 6], [])), (.invokestatic 85, 3, (0, [0], [])), (.aload_n 0, 1, (0, [0], [])), (.getfield 82, 3, (0, [1, 7], [])), (.invokestatic 85, 3, (0, [0], [])), (.iadd, 1, (0, [], [])), (.putfield 90, 3, (0, [1, 8], []))]
theorem ok_X1_listen_58 : zOK cX1_listen 1 false 4 k_X1_listen_58 58 = true := zOK_by (by decide +kernel)
def k_X1_listen_77 : List ZI := [(.aload_n 0, 1, (0, [0], [])), (.aload_n 0, 1, (0, [0], [])), (.getfield 79, 3, (0, [1, 6], [])), (.invokestatic 85, 3, (0, [0], [])), (.aload_n 0, 1, (0, [0], [])), (.getfield 82, 3, (0, [1, 7], [])), (.invokestatic 85, 3, (0, [0], [])), (.if_icmp .lt 7, 3, (0, [99], [])), (.iconst 1, 1, (0, [], [])), (.goto 4, 3, (0, [100], []))]
theorem ok_X1_listen_77 : zOK cX1_listen 1 false 4 k_X1_listen_77 77 = true := zOK_by (by decide +kernel)
def k_X1_listen_99 : List ZI := [(.iconst 0, 1, (0, [], []))]
theorem ok_X1_listen_99 : zOK cX1_listen 1 false 4 k_X1_listen_99 99 = true := zOK_by (by decide +kernel)
def k_X1_listen_100 : List ZI := [(.putfield 93, 3, (1, [1, 9], [])), (.return_, 1, (0, [], []))]
theorem ok_X1_listen_100 : zOK cX1_listen 1 false 4 k_X1_listen_100 100 = true := zOK_by (by decide +kernel)
theorem rt_X1_listen {g : Nat} {post : Option ZV → ZH → Prop} {h : ZH} {b : ZB2} : zRt mX1_listen g post none h b = (post none h ∧ h.1.length = g) := by show (_ ∧ _ ∧ True) = _; simp
def bk_X1_listen_0 (E : ZE) (CT : Nat → ZC) (X : ZK) (Rt : ZR) (ls : ZL) (st : List ZV) (h : ZH) (b : ZB2) : Prop := zB E CT k_X1_listen_0 0 ls st h b (fun t ls st h b => X t ls st h b) Rt
theorem bs_X1_listen_0 {E : ZE} {CT : Nat → ZC} {X : ZK} {Rt : ZR} {ls : ZL} {st : List ZV} {h : ZH} {b : ZB2} (hX : zCl E mX1_listen 1 false CT Rt X) (q : bk_X1_listen_0 E CT X Rt ls st h b) : X 0 ls st h b := by
  refine hX k_X1_listen_0 0 ok_X1_listen_0 _ ?_ ls st h b q
  exact fun t ls st h b q => q
def bk_X1_listen_19 (E : ZE) (CT : Nat → ZC) (X : ZK) (Rt : ZR) (ls : ZL) (st : List ZV) (h : ZH) (b : ZB2) : Prop := zB E CT k_X1_listen_19 19 ls st h b (fun t ls st h b => X t ls st h b) Rt
theorem bs_X1_listen_19 {E : ZE} {CT : Nat → ZC} {X : ZK} {Rt : ZR} {ls : ZL} {st : List ZV} {h : ZH} {b : ZB2} (hX : zCl E mX1_listen 1 false CT Rt X) (q : bk_X1_listen_19 E CT X Rt ls st h b) : X 19 ls st h b := by
  refine hX k_X1_listen_19 19 ok_X1_listen_19 _ ?_ ls st h b q
  exact fun t ls st h b q => q
def bk_X1_listen_58 (E : ZE) (CT : Nat → ZC) (X : ZK) (Rt : ZR) (ls : ZL) (st : List ZV) (h : ZH) (b : ZB2) : Prop := zB E CT k_X1_listen_58 58 ls st h b (fun t ls st h b => X t ls st h b) Rt
theorem bs_X1_listen_58 {E : ZE} {CT : Nat → ZC} {X : ZK} {Rt : ZR} {ls : ZL} {st : List ZV} {h : ZH} {b : ZB2} (hX : zCl E mX1_listen 1 false CT Rt X) (q : bk_X1_listen_58 E CT X Rt ls st h b) : X 58 ls st h b := by
  refine hX k_X1_listen_58 58 ok_X1_listen_58 _ ?_ ls st h b q
  exact fun t ls st h b q => q
def bk_X1_listen_100 (E : ZE) (CT : Nat → ZC) (X : ZK) (Rt : ZR) (ls : ZL) (st : List ZV) (h : ZH) (b : ZB2) : Prop := zB E CT k_X1_listen_100 100 ls st h b (fun t ls st h b => X t ls st h b) Rt
theorem bs_X1_listen_100 {E : ZE} {CT : Nat → ZC} {X : ZK} {Rt : ZR} {ls : ZL} {st : List ZV} {h : ZH} {b : ZB2} (hX : zCl E mX1_listen 1 false CT Rt X) (q : bk_X1_listen_100 E CT X Rt ls st h b) : X 100 ls st h b := by
  refine hX k_X1_listen_100 100 ok_X1_listen_100 _ ?_ ls st h b q
  exact fun t ls st h b q => q
def bk_X1_listen_99 (E : ZE) (CT : Nat → ZC) (X : ZK) (Rt : ZR) (ls : ZL) (st : List ZV) (h : ZH) (b : ZB2) : Prop := zB E CT k_X1_listen_99 99 ls st h b (fun t ls st h b => if t = 100 then bk_X1_listen_100 E CT X Rt ls st h b else X t ls st h b) Rt
theorem bs_X1_listen_99 {E : ZE} {CT : Nat → ZC} {X : ZK} {Rt : ZR} {ls : ZL} {st : List ZV} {h : ZH} {b : ZB2} (hX : zCl E mX1_listen 1 false CT Rt X) (q : bk_X1_listen_99 E CT X Rt ls st h b) : X 99 ls st h b := by
  refine hX k_X1_listen_99 99 ok_X1_listen_99 _ ?_ ls st h b q
  exact by
    intro t ls st h b q
    by_cases c : t = 100
    · subst c; rw [if_pos rfl] at q; exact bs_X1_listen_100 hX q
    rw [if_neg c] at q
    exact q
def bk_X1_listen_77 (E : ZE) (CT : Nat → ZC) (X : ZK) (Rt : ZR) (ls : ZL) (st : List ZV) (h : ZH) (b : ZB2) : Prop := zB E CT k_X1_listen_77 77 ls st h b (fun t ls st h b => if t = 99 then bk_X1_listen_99 E CT X Rt ls st h b else if t = 100 then bk_X1_listen_100 E CT X Rt ls st h b else X t ls st h b) Rt
theorem bs_X1_listen_77 {E : ZE} {CT : Nat → ZC} {X : ZK} {Rt : ZR} {ls : ZL} {st : List ZV} {h : ZH} {b : ZB2} (hX : zCl E mX1_listen 1 false CT Rt X) (q : bk_X1_listen_77 E CT X Rt ls st h b) : X 77 ls st h b := by
  refine hX k_X1_listen_77 77 ok_X1_listen_77 _ ?_ ls st h b q
  exact by
    intro t ls st h b q
    by_cases c : t = 99
    · subst c; rw [if_pos rfl] at q; exact bs_X1_listen_99 hX q
    rw [if_neg c] at q
    by_cases c : t = 100
    · subst c; rw [if_pos rfl] at q; exact bs_X1_listen_100 hX q
    rw [if_neg c] at q
    exact q
-- X1_listen: cuts [19, 58, 77]
def k_X1_hearkens_0 : List ZI := [(.aload_n 0, 1, (0, [0], [])), (.iload_n 1, 1, (0, [1], [])), (.invokevirtual 46, 3, (0, [6, 2, 0, 1], []))]
theorem ok_X1_hearkens_0 : zOK cX1_hearkens 1 false 5 k_X1_hearkens_0 0 = true := zOK_by (by decide +kernel)
def k_X1_hearkens_5 : List ZI := [(.aload_n 0, 1, (0, [0], [])), (.getfield 9, 3, (0, [1, 4], [])), (.iconst 0, 1, (0, [], [])), (.invokestatic 50, 3, (0, [223, 2, 0, 0], [])), (.iconst 0, 1, (0, [], [])), (.istore_n 2, 1, (0, [2], []))]
theorem ok_X1_hearkens_5 : zOK cX1_hearkens 1 false 5 k_X1_hearkens_5 5 = true := zOK_by (by decide +kernel)
def k_X1_hearkens_15 : List ZI := [(.iload_n 2, 1, (0, [2], [])), (.aload_n 0, 1, (0, [0], [])), (.getfield 19, 3, (0, [1, 1], [])), (.getfield 56, 3, (0, [0, 3], [])), (.if_icmp .ge 51, 3, (0, [74], []))]
theorem ok_X1_hearkens_15 : zOK cX1_hearkens 1 false 5 k_X1_hearkens_15 15 = true := zOK_by (by decide +kernel)
def k_X1_hearkens_26 : List ZI := [(.aload_n 0, 1, (0, [0], [])), (.getfield 19, 3, (0, [1, 1], [])), (.getfield 62, 3, (0, [0, 2], [])), (.iload_n 2, 1, (0, [2], [])), (.iaload, 1, (0, [], [])), (.iload_n 1, 1, (0, [1], [])), (.if_icmp .ne 32, 3, (0, [68], []))]
theorem ok_X1_hearkens_26 : zOK cX1_hearkens 1 false 5 k_X1_hearkens_26 26 = true := zOK_by (by decide +kernel)
def k_X1_hearkens_39 : List ZI := [(.aload_n 0, 1, (0, [0], [])), (.iload_n 2, 1, (0, [2], [])), (.invokevirtual 65, 3, (0, [7, 2, 0, 1], [])), (.istore_n 3, 1, (0, [3], [])), (.iload_n 3, 1, (0, [3], [])), (.ifCond .lt 22, 3, (0, [68], [])), (.iload_n 3, 1, (0, [3], [])), (.iconst 4, 1, (0, [], [])), (.if_icmp .ge 17, 3, (0, [68], [])), (.aload_n 0, 1, (0, [0], [])), (.getfield 9, 3, (0, [1, 4], [])), (.iload_n 3, 1, (0, [3], [])), (.dup2, 1, (0, [], [])), (.iaload, 1, (0, [], [])), (.aload_n 0, 1, (0, [0], [])), (.iload_n 2, 1, (0, [2], [])), (.invokevirtual 68, 3, (0, [13, 2, 0, 1], [])), (.iadd, 1, (0, [], [])), (.iastore, 1, (0, [], []))]
theorem ok_X1_hearkens_39 : zOK cX1_hearkens 1 false 5 k_X1_hearkens_39 39 = true := zOK_by (by decide +kernel)
def k_X1_hearkens_68 : List ZI := [(.iinc 2 1, 3, (0, [2], [])), (.goto (-56), 3, (0, [15], []))]
theorem ok_X1_hearkens_68 : zOK cX1_hearkens 1 false 5 k_X1_hearkens_68 68 = true := zOK_by (by decide +kernel)
def k_X1_hearkens_74 : List ZI := [(.iconst 4, 1, (0, [], [])), (.istore_n 2, 1, (0, [2], [])), (.iconst 0, 1, (0, [], [])), (.istore_n 3, 1, (0, [3], [])), (.iconst 0, 1, (0, [], [])), (.istore 4, 2, (0, [4], []))]
theorem ok_X1_hearkens_74 : zOK cX1_hearkens 1 false 5 k_X1_hearkens_74 74 = true := zOK_by (by decide +kernel)
def k_X1_hearkens_81 : List ZI := [(.iload 4, 2, (0, [4], [])), (.iconst 4, 1, (0, [], [])), (.if_icmp .ge 31, 3, (0, [115], [])), (.aload_n 0, 1, (0, [0], [])), (.getfield 9, 3, (0, [1, 4], [])), (.iload 4, 2, (0, [4], [])), (.iaload, 1, (0, [], [])), (.iload_n 3, 1, (0, [3], [])), (.if_icmp .le 14, 3, (0, [109], [])), (.aload_n 0, 1, (0, [0], [])), (.getfield 9, 3, (0, [1, 4], [])), (.iload 4, 2, (0, [4], [])), (.iaload, 1, (0, [], [])), (.istore_n 3, 1, (0, [3], [])), (.iload 4, 2, (0, [4], [])), (.istore_n 2, 1, (0, [2], []))]
theorem ok_X1_hearkens_81 : zOK cX1_hearkens 1 false 5 k_X1_hearkens_81 81 = true := zOK_by (by decide +kernel)
def k_X1_hearkens_109 : List ZI := [(.iinc 4 1, 3, (0, [4], [])), (.goto (-31), 3, (0, [81], []))]
theorem ok_X1_hearkens_109 : zOK cX1_hearkens 1 false 5 k_X1_hearkens_109 109 = true := zOK_by (by decide +kernel)
def k_X1_hearkens_115 : List ZI := [(.iload_n 2, 1, (0, [2], [])), (.ireturn, 1, (0, [], []))]
theorem ok_X1_hearkens_115 : zOK cX1_hearkens 1 false 5 k_X1_hearkens_115 115 = true := zOK_by (by decide +kernel)
theorem rt_X1_hearkens {g : Nat} {post : Option ZV → ZH → Prop} {h : ZH} {b : ZB2} {z : Int} : zRt mX1_hearkens g post (some (.inl z)) h b = (post (some (.inl z)) h ∧ h.1.length = g) := by show (_ ∧ _ ∧ True) = _; simp
def bk_X1_hearkens_0 (E : ZE) (CT : Nat → ZC) (X : ZK) (Rt : ZR) (ls : ZL) (st : List ZV) (h : ZH) (b : ZB2) : Prop := zB E CT k_X1_hearkens_0 0 ls st h b (fun t ls st h b => X t ls st h b) Rt
theorem bs_X1_hearkens_0 {E : ZE} {CT : Nat → ZC} {X : ZK} {Rt : ZR} {ls : ZL} {st : List ZV} {h : ZH} {b : ZB2} (hX : zCl E mX1_hearkens 1 false CT Rt X) (q : bk_X1_hearkens_0 E CT X Rt ls st h b) : X 0 ls st h b := by
  refine hX k_X1_hearkens_0 0 ok_X1_hearkens_0 _ ?_ ls st h b q
  exact fun t ls st h b q => q
def bk_X1_hearkens_5 (E : ZE) (CT : Nat → ZC) (X : ZK) (Rt : ZR) (ls : ZL) (st : List ZV) (h : ZH) (b : ZB2) : Prop := zB E CT k_X1_hearkens_5 5 ls st h b (fun t ls st h b => X t ls st h b) Rt
theorem bs_X1_hearkens_5 {E : ZE} {CT : Nat → ZC} {X : ZK} {Rt : ZR} {ls : ZL} {st : List ZV} {h : ZH} {b : ZB2} (hX : zCl E mX1_hearkens 1 false CT Rt X) (q : bk_X1_hearkens_5 E CT X Rt ls st h b) : X 5 ls st h b := by
  refine hX k_X1_hearkens_5 5 ok_X1_hearkens_5 _ ?_ ls st h b q
  exact fun t ls st h b q => q
def bk_X1_hearkens_15 (E : ZE) (CT : Nat → ZC) (X : ZK) (Rt : ZR) (ls : ZL) (st : List ZV) (h : ZH) (b : ZB2) : Prop := zB E CT k_X1_hearkens_15 15 ls st h b (fun t ls st h b => X t ls st h b) Rt
theorem bs_X1_hearkens_15 {E : ZE} {CT : Nat → ZC} {X : ZK} {Rt : ZR} {ls : ZL} {st : List ZV} {h : ZH} {b : ZB2} (hX : zCl E mX1_hearkens 1 false CT Rt X) (q : bk_X1_hearkens_15 E CT X Rt ls st h b) : X 15 ls st h b := by
  refine hX k_X1_hearkens_15 15 ok_X1_hearkens_15 _ ?_ ls st h b q
  exact fun t ls st h b q => q
def bk_X1_hearkens_26 (E : ZE) (CT : Nat → ZC) (X : ZK) (Rt : ZR) (ls : ZL) (st : List ZV) (h : ZH) (b : ZB2) : Prop := zB E CT k_X1_hearkens_26 26 ls st h b (fun t ls st h b => X t ls st h b) Rt
theorem bs_X1_hearkens_26 {E : ZE} {CT : Nat → ZC} {X : ZK} {Rt : ZR} {ls : ZL} {st : List ZV} {h : ZH} {b : ZB2} (hX : zCl E mX1_hearkens 1 false CT Rt X) (q : bk_X1_hearkens_26 E CT X Rt ls st h b) : X 26 ls st h b := by
  refine hX k_X1_hearkens_26 26 ok_X1_hearkens_26 _ ?_ ls st h b q
  exact fun t ls st h b q => q
def bk_X1_hearkens_39 (E : ZE) (CT : Nat → ZC) (X : ZK) (Rt : ZR) (ls : ZL) (st : List ZV) (h : ZH) (b : ZB2) : Prop := zB E CT k_X1_hearkens_39 39 ls st h b (fun t ls st h b => X t ls st h b) Rt
theorem bs_X1_hearkens_39 {E : ZE} {CT : Nat → ZC} {X : ZK} {Rt : ZR} {ls : ZL} {st : List ZV} {h : ZH} {b : ZB2} (hX : zCl E mX1_hearkens 1 false CT Rt X) (q : bk_X1_hearkens_39 E CT X Rt ls st h b) : X 39 ls st h b := by
  refine hX k_X1_hearkens_39 39 ok_X1_hearkens_39 _ ?_ ls st h b q
  exact fun t ls st h b q => q
def bk_X1_hearkens_68 (E : ZE) (CT : Nat → ZC) (X : ZK) (Rt : ZR) (ls : ZL) (st : List ZV) (h : ZH) (b : ZB2) : Prop := zB E CT k_X1_hearkens_68 68 ls st h b (fun t ls st h b => X t ls st h b) Rt
theorem bs_X1_hearkens_68 {E : ZE} {CT : Nat → ZC} {X : ZK} {Rt : ZR} {ls : ZL} {st : List ZV} {h : ZH} {b : ZB2} (hX : zCl E mX1_hearkens 1 false CT Rt X) (q : bk_X1_hearkens_68 E CT X Rt ls st h b) : X 68 ls st h b := by
  refine hX k_X1_hearkens_68 68 ok_X1_hearkens_68 _ ?_ ls st h b q
  exact fun t ls st h b q => q
def bk_X1_hearkens_74 (E : ZE) (CT : Nat → ZC) (X : ZK) (Rt : ZR) (ls : ZL) (st : List ZV) (h : ZH) (b : ZB2) : Prop := zB E CT k_X1_hearkens_74 74 ls st h b (fun t ls st h b => X t ls st h b) Rt
theorem bs_X1_hearkens_74 {E : ZE} {CT : Nat → ZC} {X : ZK} {Rt : ZR} {ls : ZL} {st : List ZV} {h : ZH} {b : ZB2} (hX : zCl E mX1_hearkens 1 false CT Rt X) (q : bk_X1_hearkens_74 E CT X Rt ls st h b) : X 74 ls st h b := by
  refine hX k_X1_hearkens_74 74 ok_X1_hearkens_74 _ ?_ ls st h b q
  exact fun t ls st h b q => q
def bk_X1_hearkens_115 (E : ZE) (CT : Nat → ZC) (X : ZK) (Rt : ZR) (ls : ZL) (st : List ZV) (h : ZH) (b : ZB2) : Prop := zB E CT k_X1_hearkens_115 115 ls st h b (fun t ls st h b => X t ls st h b) Rt
theorem bs_X1_hearkens_115 {E : ZE} {CT : Nat → ZC} {X : ZK} {Rt : ZR} {ls : ZL} {st : List ZV} {h : ZH} {b : ZB2} (hX : zCl E mX1_hearkens 1 false CT Rt X) (q : bk_X1_hearkens_115 E CT X Rt ls st h b) : X 115 ls st h b := by
  refine hX k_X1_hearkens_115 115 ok_X1_hearkens_115 _ ?_ ls st h b q
  exact fun t ls st h b q => q
def bk_X1_hearkens_81 (E : ZE) (CT : Nat → ZC) (X : ZK) (Rt : ZR) (ls : ZL) (st : List ZV) (h : ZH) (b : ZB2) : Prop := zB E CT k_X1_hearkens_81 81 ls st h b (fun t ls st h b => if t = 115 then bk_X1_hearkens_115 E CT X Rt ls st h b else X t ls st h b) Rt
theorem bs_X1_hearkens_81 {E : ZE} {CT : Nat → ZC} {X : ZK} {Rt : ZR} {ls : ZL} {st : List ZV} {h : ZH} {b : ZB2} (hX : zCl E mX1_hearkens 1 false CT Rt X) (q : bk_X1_hearkens_81 E CT X Rt ls st h b) : X 81 ls st h b := by
  refine hX k_X1_hearkens_81 81 ok_X1_hearkens_81 _ ?_ ls st h b q
  exact by
    intro t ls st h b q
    by_cases c : t = 115
    · subst c; rw [if_pos rfl] at q; exact bs_X1_hearkens_115 hX q
    rw [if_neg c] at q
    exact q
def bk_X1_hearkens_109 (E : ZE) (CT : Nat → ZC) (X : ZK) (Rt : ZR) (ls : ZL) (st : List ZV) (h : ZH) (b : ZB2) : Prop := zB E CT k_X1_hearkens_109 109 ls st h b (fun t ls st h b => X t ls st h b) Rt
theorem bs_X1_hearkens_109 {E : ZE} {CT : Nat → ZC} {X : ZK} {Rt : ZR} {ls : ZL} {st : List ZV} {h : ZH} {b : ZB2} (hX : zCl E mX1_hearkens 1 false CT Rt X) (q : bk_X1_hearkens_109 E CT X Rt ls st h b) : X 109 ls st h b := by
  refine hX k_X1_hearkens_109 109 ok_X1_hearkens_109 _ ?_ ls st h b q
  exact fun t ls st h b q => q
-- X1_hearkens: cuts [5, 15, 26, 39, 68, 74, 81, 109]
def k_X1_goYear_0 : List ZI := [(.aload_n 0, 1, (0, [0], [])), (.getfield 15, 3, (0, [1, 0], [])), (.getfield 30, 3, (0, [2, 2], [])), (.iconst 0, 1, (0, [], [])), (.iaload, 1, (0, [], [])), (.aload_n 0, 1, (0, [0], [])), (.getfield 15, 3, (0, [1, 0], [])), (.getfield 30, 3, (0, [2, 2], [])), (.iconst 1, 1, (0, [], [])), (.iaload, 1, (0, [], [])), (.if_icmp .eq 41, 3, (0, [59], []))]
theorem ok_X1_goYear_0 : zOK cX1_goYear 1 false 3 k_X1_goYear_0 0 = true := zOK_by (by decide +kernel)
def k_X1_goYear_21 : List ZI := [(.aload_n 0, 1, (0, [0], [])), (.iconst 0, 1, (0, [], [])), (.invokevirtual 35, 3, (0, [5, 2, 0, 1], [])), (.istore_n 1, 1, (0, [1], [])), (.aload_n 0, 1, (0, [0], [])), (.iconst 1, 1, (0, [], [])), (.invokevirtual 35, 3, (0, [5, 2, 0, 1], [])), (.istore_n 2, 1, (0, [2], []))]
theorem ok_X1_goYear_21 : zOK cX1_goYear 1 false 3 k_X1_goYear_21 21 = true := zOK_by (by decide +kernel)
def k_X1_goYear_33 : List ZI := [(.aload_n 0, 1, (0, [0], [])), (.getfield 15, 3, (0, [1, 0], [])), (.iconst 0, 1, (0, [], [])), (.iload_n 1, 1, (0, [1], [])), (.aload_n 0, 1, (0, [0], [])), (.getfield 27, 3, (0, [1, 3], [])), (.invokevirtual 39, 3, (0, [22, 4, 0, 2], [])), (.aload_n 0, 1, (0, [0], [])), (.getfield 15, 3, (0, [1, 0], [])), (.iconst 1, 1, (0, [], [])), (.iload_n 2, 1, (0, [2], [])), (.aload_n 0, 1, (0, [0], [])), (.getfield 27, 3, (0, [1, 3], [])), (.invokevirtual 39, 3, (0, [22, 4, 0, 2], []))]
theorem ok_X1_goYear_33 : zOK cX1_goYear 1 false 3 k_X1_goYear_33 33 = true := zOK_by (by decide +kernel)
def k_X1_goYear_59 : List ZI := [(.aload_n 0, 1, (0, [0], [])), (.getfield 15, 3, (0, [1, 0], [])), (.invokevirtual 43, 3, (0, [23, 1, 0, 2], [])), (.return_, 1, (0, [], []))]
theorem ok_X1_goYear_59 : zOK cX1_goYear 1 false 3 k_X1_goYear_59 59 = true := zOK_by (by decide +kernel)
theorem rt_X1_goYear {g : Nat} {post : Option ZV → ZH → Prop} {h : ZH} {b : ZB2} : zRt mX1_goYear g post none h b = (post none h ∧ h.1.length = g) := by show (_ ∧ _ ∧ True) = _; simp
def bk_X1_goYear_0 (E : ZE) (CT : Nat → ZC) (X : ZK) (Rt : ZR) (ls : ZL) (st : List ZV) (h : ZH) (b : ZB2) : Prop := zB E CT k_X1_goYear_0 0 ls st h b (fun t ls st h b => X t ls st h b) Rt
theorem bs_X1_goYear_0 {E : ZE} {CT : Nat → ZC} {X : ZK} {Rt : ZR} {ls : ZL} {st : List ZV} {h : ZH} {b : ZB2} (hX : zCl E mX1_goYear 1 false CT Rt X) (q : bk_X1_goYear_0 E CT X Rt ls st h b) : X 0 ls st h b := by
  refine hX k_X1_goYear_0 0 ok_X1_goYear_0 _ ?_ ls st h b q
  exact fun t ls st h b q => q
def bk_X1_goYear_21 (E : ZE) (CT : Nat → ZC) (X : ZK) (Rt : ZR) (ls : ZL) (st : List ZV) (h : ZH) (b : ZB2) : Prop := zB E CT k_X1_goYear_21 21 ls st h b (fun t ls st h b => X t ls st h b) Rt
theorem bs_X1_goYear_21 {E : ZE} {CT : Nat → ZC} {X : ZK} {Rt : ZR} {ls : ZL} {st : List ZV} {h : ZH} {b : ZB2} (hX : zCl E mX1_goYear 1 false CT Rt X) (q : bk_X1_goYear_21 E CT X Rt ls st h b) : X 21 ls st h b := by
  refine hX k_X1_goYear_21 21 ok_X1_goYear_21 _ ?_ ls st h b q
  exact fun t ls st h b q => q
def bk_X1_goYear_33 (E : ZE) (CT : Nat → ZC) (X : ZK) (Rt : ZR) (ls : ZL) (st : List ZV) (h : ZH) (b : ZB2) : Prop := zB E CT k_X1_goYear_33 33 ls st h b (fun t ls st h b => X t ls st h b) Rt
theorem bs_X1_goYear_33 {E : ZE} {CT : Nat → ZC} {X : ZK} {Rt : ZR} {ls : ZL} {st : List ZV} {h : ZH} {b : ZB2} (hX : zCl E mX1_goYear 1 false CT Rt X) (q : bk_X1_goYear_33 E CT X Rt ls st h b) : X 33 ls st h b := by
  refine hX k_X1_goYear_33 33 ok_X1_goYear_33 _ ?_ ls st h b q
  exact fun t ls st h b q => q
def bk_X1_goYear_59 (E : ZE) (CT : Nat → ZC) (X : ZK) (Rt : ZR) (ls : ZL) (st : List ZV) (h : ZH) (b : ZB2) : Prop := zB E CT k_X1_goYear_59 59 ls st h b (fun t ls st h b => X t ls st h b) Rt
theorem bs_X1_goYear_59 {E : ZE} {CT : Nat → ZC} {X : ZK} {Rt : ZR} {ls : ZL} {st : List ZV} {h : ZH} {b : ZB2} (hX : zCl E mX1_goYear 1 false CT Rt X) (q : bk_X1_goYear_59 E CT X Rt ls st h b) : X 59 ls st h b := by
  refine hX k_X1_goYear_59 59 ok_X1_goYear_59 _ ?_ ls st h b q
  exact fun t ls st h b q => q
-- X1_goYear: cuts [21, 33, 59]
theorem ab_sz (x : Int) : (if 0 ≤ x then x else -x) = sz x := by
  unfold sz; (repeat' split) <;> omega
theorem fr_sz (a b : Int) : fr a b = sz (b % 8 - a % 8) + sz (b / 8 - a / 8) := by
  unfold fr sz; (repeat' split) <;> omega
theorem sz_le {x n : Int} (h1 : -n ≤ x) (h2 : x ≤ n) : 0 ≤ sz x ∧ sz x ≤ n := by
  unfold sz; split <;> omega
/-- what a digging has listened to -/
def LSt (g : Nat) (M : ZMm) (r dw la : Int) : Prop := (-7 ≤ r ∧ r ≤ 7) ∧ (-7 ≤ dw ∧ dw ≤ 7) ∧ (0 ≤ la ∧ la ≤ 4) ∧ M g 5 = la ∧ M g 6 = r ∧ M g 7 = dw ∧ M g 8 = sz r + sz dw ∧ M g 9 = zbo (sz dw ≤ sz r)
def B_dturned (w : Int) (q : Int) (post : Option ZV → Prop) : Prop := 0 ≤ w ∧ w ≤ 4 ∧ 0 ≤ q ∧ q ≤ 4 ∧ post (some (.inl (trn w q)))
def C_dturned : ZC := fun as h post => match as with
  | [.inl w, .inl q] => B_dturned w q (fun v => post v h)
  | _ => False
theorem r_dturned {w : Int} {q : Int} {h : ZH} {post : Option ZV → ZH → Prop} : C_dturned [.inl w, .inl q] h post = B_dturned w q (fun v => post v h) := rfl
def ct_dturned : Nat → ZC := fun n => fun _ _ _ => False
theorem c_dturned {E : ZE} {d : Nat} (hd : 1 ≤ d) : zMet E d mX1_turned C_dturned := by
  refine zmet_of (o := 1) (ini := false) (CT := ct_dturned) gd_X1_turned rfl (fun h => by cases h) (by omega) ?_ ?_
  · intro n as h post hh
    unfold ct_dturned at hh
    exact hh.elim
  intro as h post hC
  match as, hC with
  | [.inl w, .inl q], hC =>
    refine ⟨Nat.le_of_ble_eq_true rfl, fun X hX => bs_X1_turned_0 hX ?_⟩
    have hC : B_dturned w q (fun v => post v h) := hC
    simp only [B_dturned] at hC
    show bk_X1_turned_0 E ct_dturned X _ [some (.inl w), some (.inl q)] [] h (0, 0)
    obtain ⟨h1, h2, h3, h4, hC⟩ := hC
    have ha : zr w = w := zr_of (by omega) (by omega)
    have hb : zr (w + q) = w + q := zr_of (by omega) (by omega)
    simp only [bk_X1_turned_0, k_X1_turned_0, bk_X1_turned_9, k_X1_turned_9, bk_X1_turned_14, k_X1_turned_14, ↓e_rk1, ↓e_rk0, ↓e_sk0, ↓e_sks, ↓e_ldi0, ↓e_ldis, ↓e_ldl0, ↓e_ldls, ↓e_lda0, ↓e_ldas, ↓e_ok0, ↓e_okss, ↓e_ok1i, ↓e_ok1r, ↓e_ok1n, ↓e_sti, ↓e_sta, ↓e_1, ↓e_2, ↓e_l1, ↓e_l2, ↓e_li, ↓e_sw0, ↓e_sws, ↓e_ceq, ↓e_cne, ↓e_clt, ↓e_cge, ↓e_cgt, ↓e_cle, ↓e_nil, ↓e_cons, ↓e_iconst, ↓e_bipush, ↓e_sipush, ↓e_ldc, ↓e_ldcw, ↓e_ldc2, ↓e_lconst, ↓e_iloadn, ↓e_iload, ↓e_lloadn, ↓e_lload, ↓e_aloadn, ↓e_aload, ↓e_istoren, ↓e_istore, ↓e_astoren, ↓e_astore, ↓e_add, ↓e_iinc, ↓e_iadd, ↓e_isub, ↓e_imul, ↓e_iand, ↓e_ior, ↓e_ixor, ↓e_ishl, ↓e_iushr, ↓e_idiv, ↓e_irem, ↓e_ineg, ↓e_i2l, ↓e_i2b, ↓e_i2s, ↓e_l2i, ↓e_land, ↓e_lor, ↓e_lshl, ↓e_lshr, ↓e_lushr, ↓e_lcmp, ↓e_dupi, ↓e_dupr, ↓e_popi, ↓e_dup2, ↓e_goto, ↓e_if, ↓e_icmp, ↓e_tsw, ↓e_lsw, ↓e_getf, ↓e_putf, ↓e_gets, ↓e_iald, ↓e_cald, ↓e_iast, ↓e_aald, ↓e_aast, ↓e_len, ↓e_copy, ↓e_abs, ↓e_max, ↓e_min, ↓e_iret, ↓e_aret, ↓e_vret, ↓e_is0, ↓e_is1, ↓e_is2, ↓e_is3, ↓e_is4, ↓e_iv1, ↓e_iv2, ↓e_iv3, ↓e_iv4, ↓e_iv5, ↓e_iv6, ↓rt_X1_turned, ↓reduceIte, Nat.reduceAdd, Nat.reduceEqDiff, ↓zcl0, ↓zclv, List.map_nil, List.sum_nil, List.map_cons, List.sum_cons, zcat, true_and, and_true, Nat.reduceLeDiff, Nat.reduceAdd, eq_self, forall_const, e_ok0, e_okss, e_ok1i, e_ok1r, e_ok1n, zl_4, Int.reduceToNat, Int.reduceAdd, Int.reduceMul, Int.reduceSub, Int.reduceNeg, Int.reduceLT, Int.reduceLE, Int.reduceEq, not_false_eq_true, not_true_eq_false, false_implies, true_implies, implies_true, Int.reduceDiv, Int.reduceMod, zr8_zr, zr_zbo, z01_zbo, z01_0, z01_1, zbo_eq0, zup_eq, zup_o, zup_k, ne_eq, ha, hb]
    refine ⟨fun c1 => zpost hC ?_, fun c1 => zpost hC ?_⟩ <;> simp [trn, *]
    exact (tm_of (by omega)).symm
def B_peng (g : Nat) (M : Nat → Nat → Int) (post : Option ZV → (Nat → Nat → Int) → Prop) : Prop := ∃ (h c v : Nat) (r dw la : Int), digb g h c v ∧ LSt g M r dw la ∧ post (some (.inl (plain r dw))) M
def C_peng : ZC := fun as h post => match as with
  | [.inr (.inr (.inl g))] => h.1 = zG ∧ B_peng g h.2 (fun v M => post v (zG, M))
  | _ => False
theorem r_peng {g : Nat} {M : Nat → Nat → Int} {post : Option ZV → ZH → Prop} : C_peng [.inr (.inr (.inl g))] (zG, M) post = B_peng g M (fun v M => post v (zG, M)) := by show (zG = zG ∧ _) = _; simp
def ct_peng : Nat → ZC := fun n => fun _ _ _ => False
theorem c_peng {E : ZE} {d : Nat} (hd : 1 ≤ d) : zMet E d mX1_pointAsEngineer C_peng := by
  refine zmet_of (o := 1) (ini := false) (CT := ct_peng) gd_X1_pointAsEngineer rfl (fun h => by cases h) (by omega) ?_ ?_
  · intro n as h post hh
    unfold ct_peng at hh
    exact hh.elim
  intro as h post hC
  match as, hC with
  | [.inr (.inr (.inl g))], hC =>
    refine ⟨Nat.le_of_ble_eq_true rfl, fun X hX => bs_X1_pointAsEngineer_0 hX ?_⟩
    obtain ⟨G, M⟩ := h
    obtain ⟨hG, hC⟩ := hC
    dsimp only at hG
    subst hG
    simp only [B_peng] at hC
    show bk_X1_pointAsEngineer_0 E ct_peng X _ [some (.inr (.inr (.inl g)))] [] (zG, M) (0, 0)
    obtain ⟨hh, cc, vv, r9, dw, la, hb, ⟨b1, b2, b3, e5, e6, e7, e8, e9⟩, hC⟩ := hC
    have s1 := sz_le b1.1 b1.2
    have s2 := sz_le b2.1 b2.2
    have z8 : zr (sz r9 + sz dw) = sz r9 + sz dw := zr_of (by omega) (by omega)
    have z6 : zr r9 = r9 := zr_of (by omega) (by omega)
    have z7 : zr dw = dw := zr_of (by omega) (by omega)
    have i1 : sz r9 + sz dw = 0 ↔ (r9 = 0 ∧ dw = 0) := by
      unfold sz; (repeat' split) <;> omega
    simp only [bk_X1_pointAsEngineer_0, k_X1_pointAsEngineer_0, bk_X1_pointAsEngineer_9, k_X1_pointAsEngineer_9, bk_X1_pointAsEngineer_27, k_X1_pointAsEngineer_27, bk_X1_pointAsEngineer_28, k_X1_pointAsEngineer_28, bk_X1_pointAsEngineer_29, k_X1_pointAsEngineer_29, bk_X1_pointAsEngineer_40, k_X1_pointAsEngineer_40, bk_X1_pointAsEngineer_41, k_X1_pointAsEngineer_41, ↓e_rk1, ↓e_rk0, ↓e_sk0, ↓e_sks, ↓e_ldi0, ↓e_ldis, ↓e_ldl0, ↓e_ldls, ↓e_lda0, ↓e_ldas, ↓e_ok0, ↓e_okss, ↓e_ok1i, ↓e_ok1r, ↓e_ok1n, ↓e_sti, ↓e_sta, ↓e_1, ↓e_2, ↓e_l1, ↓e_l2, ↓e_li, ↓e_sw0, ↓e_sws, ↓e_ceq, ↓e_cne, ↓e_clt, ↓e_cge, ↓e_cgt, ↓e_cle, ↓e_nil, ↓e_cons, ↓e_iconst, ↓e_bipush, ↓e_sipush, ↓e_ldc, ↓e_ldcw, ↓e_ldc2, ↓e_lconst, ↓e_iloadn, ↓e_iload, ↓e_lloadn, ↓e_lload, ↓e_aloadn, ↓e_aload, ↓e_istoren, ↓e_istore, ↓e_astoren, ↓e_astore, ↓e_add, ↓e_iinc, ↓e_iadd, ↓e_isub, ↓e_imul, ↓e_iand, ↓e_ior, ↓e_ixor, ↓e_ishl, ↓e_iushr, ↓e_idiv, ↓e_irem, ↓e_ineg, ↓e_i2l, ↓e_i2b, ↓e_i2s, ↓e_l2i, ↓e_land, ↓e_lor, ↓e_lshl, ↓e_lshr, ↓e_lushr, ↓e_lcmp, ↓e_dupi, ↓e_dupr, ↓e_popi, ↓e_dup2, ↓e_goto, ↓e_if, ↓e_icmp, ↓e_tsw, ↓e_lsw, ↓e_getf, ↓e_putf, ↓e_gets, ↓e_iald, ↓e_cald, ↓e_iast, ↓e_aald, ↓e_aast, ↓e_len, ↓e_copy, ↓e_abs, ↓e_max, ↓e_min, ↓e_iret, ↓e_aret, ↓e_vret, ↓e_is0, ↓e_is1, ↓e_is2, ↓e_is3, ↓e_is4, ↓e_iv1, ↓e_iv2, ↓e_iv3, ↓e_iv4, ↓e_iv5, ↓e_iv6, ↓rt_X1_pointAsEngineer, ↓reduceIte, Nat.reduceAdd, Nat.reduceEqDiff, ↓zcl0, ↓zclv, List.map_nil, List.sum_nil, List.map_cons, List.sum_cons, zcat, true_and, and_true, Nat.reduceLeDiff, Nat.reduceAdd, eq_self, forall_const, e_ok0, e_okss, e_ok1i, e_ok1r, e_ok1n, zl_0, zl_1, zl_2, zl_3, zl_4, Int.reduceToNat, Int.reduceAdd, Int.reduceMul, Int.reduceSub, Int.reduceNeg, Int.reduceLT, Int.reduceLE, Int.reduceEq, not_false_eq_true, not_true_eq_false, false_implies, true_implies, implies_true, Int.reduceDiv, Int.reduceMod, zr8_zr, zr_zbo, z01_zbo, z01_0, z01_1, zbo_eq0, zup_eq, zup_o, zup_k, ne_eq, ↓vD hb, ↓gD_0 hb, ↓gD_1 hb, ↓gD_2 hb, ↓gD_3 hb, ↓gD_4 hb, ↓gD_5 hb, ↓gD_6 hb, ↓gD_7 hb, ↓gD_8 hb, ↓gD_9 hb, ↓pD_5 hb, ↓pD_6 hb, ↓pD_7 hb, ↓pD_8 hb, ↓pD_9 hb, ↓lD_v hb, ↓sD_v hb, e6, e7, e8, e9, z6, z7, z8, zr_zbo, zbo_eq0]
    unfold plain aly at hC
    repeat' (first | assumption | apply And.intro | intro _)
    all_goals (refine zpost hC ?_; (repeat' split) <;> first | rfl | omega)
def B_psrv (g : Nat) (M : Nat → Nat → Int) (post : Option ZV → (Nat → Nat → Int) → Prop) : Prop := ∃ (h c v : Nat) (r dw la : Int), digb g h c v ∧ LSt g M r dw la ∧ post (some (.inl (srv r dw))) M
def C_psrv : ZC := fun as h post => match as with
  | [.inr (.inr (.inl g))] => h.1 = zG ∧ B_psrv g h.2 (fun v M => post v (zG, M))
  | _ => False
theorem r_psrv {g : Nat} {M : Nat → Nat → Int} {post : Option ZV → ZH → Prop} : C_psrv [.inr (.inr (.inl g))] (zG, M) post = B_psrv g M (fun v M => post v (zG, M)) := by show (zG = zG ∧ _) = _; simp
def ct_psrv : Nat → ZC := fun n => if n = 8 then C_peng else fun _ _ _ => False
theorem ct_psrv_peng {as : List ZV} {h : ZH} {post : Option ZV → ZH → Prop} : ct_psrv 8 as h post = C_peng as h post := rfl
theorem c_psrv {E : ZE} {d : Nat} (hd : 2 ≤ d) : zMet E d mX1_pointAsSurveyor C_psrv := by
  refine zmet_of (o := 1) (ini := false) (CT := ct_psrv) gd_X1_pointAsSurveyor rfl (fun h => by cases h) (by omega) ?_ ?_
  · intro n as h post hh
    unfold ct_psrv at hh
    by_cases c : n = 8
    · subst c; exact ⟨gd_X1_pointAsEngineer, 1, by omega, c_peng (by omega)⟩
    rw [if_neg c] at hh
    exact hh.elim
  intro as h post hC
  match as, hC with
  | [.inr (.inr (.inl g))], hC =>
    refine ⟨Nat.le_of_ble_eq_true rfl, fun X hX => bs_X1_pointAsSurveyor_0 hX ?_⟩
    obtain ⟨G, M⟩ := h
    obtain ⟨hG, hC⟩ := hC
    dsimp only at hG
    subst hG
    simp only [B_psrv] at hC
    show bk_X1_pointAsSurveyor_0 E ct_psrv X _ [some (.inr (.inr (.inl g)))] [] (zG, M) (0, 0)
    obtain ⟨hh, cc, vv, r9, dw, la, hb, L, hC⟩ := hC
    have L9 := L
    obtain ⟨b1, b2, b3, e5, e6, e7, e8, e9⟩ := L
    have z7 : zr dw = dw := zr_of (by omega) (by omega)
    simp only [bk_X1_pointAsSurveyor_0, k_X1_pointAsSurveyor_0, bk_X1_pointAsSurveyor_12, k_X1_pointAsSurveyor_12, bk_X1_pointAsSurveyor_23, k_X1_pointAsSurveyor_23, bk_X1_pointAsSurveyor_24, k_X1_pointAsSurveyor_24, ↓e_rk1, ↓e_rk0, ↓e_sk0, ↓e_sks, ↓e_ldi0, ↓e_ldis, ↓e_ldl0, ↓e_ldls, ↓e_lda0, ↓e_ldas, ↓e_ok0, ↓e_okss, ↓e_ok1i, ↓e_ok1r, ↓e_ok1n, ↓e_sti, ↓e_sta, ↓e_1, ↓e_2, ↓e_l1, ↓e_l2, ↓e_li, ↓e_sw0, ↓e_sws, ↓e_ceq, ↓e_cne, ↓e_clt, ↓e_cge, ↓e_cgt, ↓e_cle, ↓e_nil, ↓e_cons, ↓e_iconst, ↓e_bipush, ↓e_sipush, ↓e_ldc, ↓e_ldcw, ↓e_ldc2, ↓e_lconst, ↓e_iloadn, ↓e_iload, ↓e_lloadn, ↓e_lload, ↓e_aloadn, ↓e_aload, ↓e_istoren, ↓e_istore, ↓e_astoren, ↓e_astore, ↓e_add, ↓e_iinc, ↓e_iadd, ↓e_isub, ↓e_imul, ↓e_iand, ↓e_ior, ↓e_ixor, ↓e_ishl, ↓e_iushr, ↓e_idiv, ↓e_irem, ↓e_ineg, ↓e_i2l, ↓e_i2b, ↓e_i2s, ↓e_l2i, ↓e_land, ↓e_lor, ↓e_lshl, ↓e_lshr, ↓e_lushr, ↓e_lcmp, ↓e_dupi, ↓e_dupr, ↓e_popi, ↓e_dup2, ↓e_goto, ↓e_if, ↓e_icmp, ↓e_tsw, ↓e_lsw, ↓e_getf, ↓e_putf, ↓e_gets, ↓e_iald, ↓e_cald, ↓e_iast, ↓e_aald, ↓e_aast, ↓e_len, ↓e_copy, ↓e_abs, ↓e_max, ↓e_min, ↓e_iret, ↓e_aret, ↓e_vret, ↓e_is0, ↓e_is1, ↓e_is2, ↓e_is3, ↓e_is4, ↓e_iv1, ↓e_iv2, ↓e_iv3, ↓e_iv4, ↓e_iv5, ↓e_iv6, ↓rt_X1_pointAsSurveyor, ↓reduceIte, Nat.reduceAdd, Nat.reduceEqDiff, ↓zcl0, ↓zclv, List.map_nil, List.sum_nil, List.map_cons, List.sum_cons, zcat, true_and, and_true, Nat.reduceLeDiff, Nat.reduceAdd, eq_self, forall_const, e_ok0, e_okss, e_ok1i, e_ok1r, e_ok1n, zl_0, zl_2, Int.reduceToNat, Int.reduceAdd, Int.reduceMul, Int.reduceSub, Int.reduceNeg, Int.reduceLT, Int.reduceLE, Int.reduceEq, not_false_eq_true, not_true_eq_false, false_implies, true_implies, implies_true, Int.reduceDiv, Int.reduceMod, zr8_zr, zr_zbo, z01_zbo, z01_0, z01_1, zbo_eq0, zup_eq, zup_o, zup_k, ne_eq, ↓ct_psrv_peng, ↓r_peng, ↓B_peng, ↓vD hb, ↓gD_0 hb, ↓gD_1 hb, ↓gD_2 hb, ↓gD_3 hb, ↓gD_4 hb, ↓gD_5 hb, ↓gD_6 hb, ↓gD_7 hb, ↓gD_8 hb, ↓gD_9 hb, ↓pD_5 hb, ↓pD_6 hb, ↓pD_7 hb, ↓pD_8 hb, ↓pD_9 hb, ↓lD_v hb, ↓sD_v hb, e7, z7]
    unfold srv at hC
    have gen : dw = 0 → ∃ (h c v : Nat) (r dw la : Int), digb g h c v ∧ LSt g M r dw la ∧ post (some (.inl (plain r dw))) (zG, M) := fun q => ⟨hh, cc, vv, r9, dw, la, hb, L9, zpost hC (by rw [if_pos q])⟩
    repeat' (first | assumption | apply And.intro | intro _)
    all_goals first | exact gen (by assumption) | (refine zpost hC ?_; unfold aly; (repeat' split) <;> first | rfl | omega)
theorem trn_0 {w : Int} (h1 : 0 ≤ w) (h2 : w ≤ 4) : trn w 0 = w := by
  unfold trn; split <;> omega
def B_pdrm (g : Nat) (m : Int) (M : Nat → Nat → Int) (post : Option ZV → (Nat → Nat → Int) → Prop) : Prop := (0 ≤ m ∧ m ≤ 9) ∧ ∃ (h c v : Nat) (r dw la yr : Int), digb g h c v ∧ LSt g M r dw la ∧ M h 9 = yr ∧ (0 ≤ yr ∧ yr ≤ 20000) ∧ post (some (.inl (drm m yr r dw))) M
def C_pdrm : ZC := fun as h post => match as with
  | [.inr (.inr (.inl g)), .inl m] => h.1 = zG ∧ B_pdrm g m h.2 (fun v M => post v (zG, M))
  | _ => False
theorem r_pdrm {g : Nat} {m : Int} {M : Nat → Nat → Int} {post : Option ZV → ZH → Prop} : C_pdrm [.inr (.inr (.inl g)), .inl m] (zG, M) post = B_pdrm g m M (fun v M => post v (zG, M)) := by show (zG = zG ∧ _) = _; simp
def ct_pdrm : Nat → ZC := fun n => if n = 8 then C_peng else if n = 12 then C_dturned else fun _ _ _ => False
theorem ct_pdrm_peng {as : List ZV} {h : ZH} {post : Option ZV → ZH → Prop} : ct_pdrm 8 as h post = C_peng as h post := rfl
theorem ct_pdrm_dturned {as : List ZV} {h : ZH} {post : Option ZV → ZH → Prop} : ct_pdrm 12 as h post = C_dturned as h post := rfl
theorem c_pdrm {E : ZE} {d : Nat} (hd : 2 ≤ d) : zMet E d mX1_pointAsDreamer C_pdrm := by
  refine zmet_of (o := 1) (ini := false) (CT := ct_pdrm) gd_X1_pointAsDreamer rfl (fun h => by cases h) (by omega) ?_ ?_
  · intro n as h post hh
    unfold ct_pdrm at hh
    by_cases c : n = 8
    · subst c; exact ⟨gd_X1_pointAsEngineer, 1, by omega, c_peng (by omega)⟩
    rw [if_neg c] at hh
    by_cases c : n = 12
    · subst c; exact ⟨gd_X1_turned, 1, by omega, c_dturned (by omega)⟩
    rw [if_neg c] at hh
    exact hh.elim
  intro as h post hC
  match as, hC with
  | [.inr (.inr (.inl g)), .inl m], hC =>
    refine ⟨Nat.le_of_ble_eq_true rfl, fun X hX => bs_X1_pointAsDreamer_0 hX ?_⟩
    obtain ⟨G, M⟩ := h
    obtain ⟨hG, hC⟩ := hC
    dsimp only at hG
    subst hG
    simp only [B_pdrm] at hC
    show bk_X1_pointAsDreamer_0 E ct_pdrm X _ [some (.inr (.inr (.inl g))), some (.inl m), none] [] (zG, M) (0, 0)
    obtain ⟨hm, hh, cc, vv, r9, dw, la, yr, hb, L, ey, hy, hC⟩ := hC
    have zy : zr yr = yr := zr_of (by omega) (by omega)
    have zm : zr m = m := zr_of (by omega) (by omega)
    have t1 : yr.tmod 5 = yr % 5 := tm_of (by omega)
    have t2 : m.tmod 5 = m % 5 := tm_of (by omega)
    have z1 : zr (yr % 5) = yr % 5 := zr_of (by omega) (by omega)
    have z2 : zr (m % 5) = m % 5 := zr_of (by omega) (by omega)
    have hbh := hD hb
    simp only [bk_X1_pointAsDreamer_0, k_X1_pointAsDreamer_0, bk_X1_pointAsDreamer_5, k_X1_pointAsDreamer_5, bk_X1_pointAsDreamer_28, k_X1_pointAsDreamer_28, bk_X1_pointAsDreamer_29, k_X1_pointAsDreamer_29, ↓e_rk1, ↓e_rk0, ↓e_sk0, ↓e_sks, ↓e_ldi0, ↓e_ldis, ↓e_ldl0, ↓e_ldls, ↓e_lda0, ↓e_ldas, ↓e_ok0, ↓e_okss, ↓e_ok1i, ↓e_ok1r, ↓e_ok1n, ↓e_sti, ↓e_sta, ↓e_1, ↓e_2, ↓e_l1, ↓e_l2, ↓e_li, ↓e_sw0, ↓e_sws, ↓e_ceq, ↓e_cne, ↓e_clt, ↓e_cge, ↓e_cgt, ↓e_cle, ↓e_nil, ↓e_cons, ↓e_iconst, ↓e_bipush, ↓e_sipush, ↓e_ldc, ↓e_ldcw, ↓e_ldc2, ↓e_lconst, ↓e_iloadn, ↓e_iload, ↓e_lloadn, ↓e_lload, ↓e_aloadn, ↓e_aload, ↓e_istoren, ↓e_istore, ↓e_astoren, ↓e_astore, ↓e_add, ↓e_iinc, ↓e_iadd, ↓e_isub, ↓e_imul, ↓e_iand, ↓e_ior, ↓e_ixor, ↓e_ishl, ↓e_iushr, ↓e_idiv, ↓e_irem, ↓e_ineg, ↓e_i2l, ↓e_i2b, ↓e_i2s, ↓e_l2i, ↓e_land, ↓e_lor, ↓e_lshl, ↓e_lshr, ↓e_lushr, ↓e_lcmp, ↓e_dupi, ↓e_dupr, ↓e_popi, ↓e_dup2, ↓e_goto, ↓e_if, ↓e_icmp, ↓e_tsw, ↓e_lsw, ↓e_getf, ↓e_putf, ↓e_gets, ↓e_iald, ↓e_cald, ↓e_iast, ↓e_aald, ↓e_aast, ↓e_len, ↓e_copy, ↓e_abs, ↓e_max, ↓e_min, ↓e_iret, ↓e_aret, ↓e_vret, ↓e_is0, ↓e_is1, ↓e_is2, ↓e_is3, ↓e_is4, ↓e_iv1, ↓e_iv2, ↓e_iv3, ↓e_iv4, ↓e_iv5, ↓e_iv6, ↓rt_X1_pointAsDreamer, ↓reduceIte, Nat.reduceAdd, Nat.reduceEqDiff, ↓zcl0, ↓zclv, List.map_nil, List.sum_nil, List.map_cons, List.sum_cons, zcat, true_and, and_true, Nat.reduceLeDiff, Nat.reduceAdd, eq_self, forall_const, e_ok0, e_okss, e_ok1i, e_ok1r, e_ok1n, zl_2, zl_5, Int.reduceToNat, Int.reduceAdd, Int.reduceMul, Int.reduceSub, Int.reduceNeg, Int.reduceLT, Int.reduceLE, Int.reduceEq, not_false_eq_true, not_true_eq_false, false_implies, true_implies, implies_true, Int.reduceDiv, Int.reduceMod, zr8_zr, zr_zbo, z01_zbo, z01_0, z01_1, zbo_eq0, zup_eq, zup_o, zup_k, ne_eq, ↓ct_pdrm_peng, ↓r_peng, ↓B_peng, ↓ct_pdrm_dturned, ↓r_dturned, ↓B_dturned, ↓vD hb, ↓gD_0 hb, ↓gD_1 hb, ↓gD_2 hb, ↓gD_3 hb, ↓gD_4 hb, ↓gD_5 hb, ↓gD_6 hb, ↓gD_7 hb, ↓gD_8 hb, ↓gD_9 hb, ↓pD_5 hb, ↓pD_6 hb, ↓pD_7 hb, ↓pD_8 hb, ↓pD_9 hb, ↓lD_v hb, ↓sD_v hb]
    have pr := plain_rng r9 dw
    refine ⟨hh, cc, vv, r9, dw, la, hb, L, ?_⟩
    refine bs_X1_pointAsDreamer_5 hX ?_
    simp only [bk_X1_pointAsDreamer_0, k_X1_pointAsDreamer_0, bk_X1_pointAsDreamer_5, k_X1_pointAsDreamer_5, bk_X1_pointAsDreamer_28, k_X1_pointAsDreamer_28, bk_X1_pointAsDreamer_29, k_X1_pointAsDreamer_29, ↓e_rk1, ↓e_rk0, ↓e_sk0, ↓e_sks, ↓e_ldi0, ↓e_ldis, ↓e_ldl0, ↓e_ldls, ↓e_lda0, ↓e_ldas, ↓e_ok0, ↓e_okss, ↓e_ok1i, ↓e_ok1r, ↓e_ok1n, ↓e_sti, ↓e_sta, ↓e_1, ↓e_2, ↓e_l1, ↓e_l2, ↓e_li, ↓e_sw0, ↓e_sws, ↓e_ceq, ↓e_cne, ↓e_clt, ↓e_cge, ↓e_cgt, ↓e_cle, ↓e_nil, ↓e_cons, ↓e_iconst, ↓e_bipush, ↓e_sipush, ↓e_ldc, ↓e_ldcw, ↓e_ldc2, ↓e_lconst, ↓e_iloadn, ↓e_iload, ↓e_lloadn, ↓e_lload, ↓e_aloadn, ↓e_aload, ↓e_istoren, ↓e_istore, ↓e_astoren, ↓e_astore, ↓e_add, ↓e_iinc, ↓e_iadd, ↓e_isub, ↓e_imul, ↓e_iand, ↓e_ior, ↓e_ixor, ↓e_ishl, ↓e_iushr, ↓e_idiv, ↓e_irem, ↓e_ineg, ↓e_i2l, ↓e_i2b, ↓e_i2s, ↓e_l2i, ↓e_land, ↓e_lor, ↓e_lshl, ↓e_lshr, ↓e_lushr, ↓e_lcmp, ↓e_dupi, ↓e_dupr, ↓e_popi, ↓e_dup2, ↓e_goto, ↓e_if, ↓e_icmp, ↓e_tsw, ↓e_lsw, ↓e_getf, ↓e_putf, ↓e_gets, ↓e_iald, ↓e_cald, ↓e_iast, ↓e_aald, ↓e_aast, ↓e_len, ↓e_copy, ↓e_abs, ↓e_max, ↓e_min, ↓e_iret, ↓e_aret, ↓e_vret, ↓e_is0, ↓e_is1, ↓e_is2, ↓e_is3, ↓e_is4, ↓e_iv1, ↓e_iv2, ↓e_iv3, ↓e_iv4, ↓e_iv5, ↓e_iv6, ↓rt_X1_pointAsDreamer, ↓reduceIte, Nat.reduceAdd, Nat.reduceEqDiff, ↓zcl0, ↓zclv, List.map_nil, List.sum_nil, List.map_cons, List.sum_cons, zcat, true_and, and_true, Nat.reduceLeDiff, Nat.reduceAdd, eq_self, forall_const, e_ok0, e_okss, e_ok1i, e_ok1r, e_ok1n, zl_2, zl_5, Int.reduceToNat, Int.reduceAdd, Int.reduceMul, Int.reduceSub, Int.reduceNeg, Int.reduceLT, Int.reduceLE, Int.reduceEq, not_false_eq_true, not_true_eq_false, false_implies, true_implies, implies_true, Int.reduceDiv, Int.reduceMod, zr8_zr, zr_zbo, z01_zbo, z01_0, z01_1, zbo_eq0, zup_eq, zup_o, zup_k, ne_eq, ↓ct_pdrm_peng, ↓r_peng, ↓B_peng, ↓ct_pdrm_dturned, ↓r_dturned, ↓B_dturned, ↓vD hb, ↓gD_0 hb, ↓gD_1 hb, ↓gD_2 hb, ↓gD_3 hb, ↓gD_4 hb, ↓gD_5 hb, ↓gD_6 hb, ↓gD_7 hb, ↓gD_8 hb, ↓gD_9 hb, ↓pD_5 hb, ↓pD_6 hb, ↓pD_7 hb, ↓pD_8 hb, ↓pD_9 hb, ↓lD_v hb, ↓sD_v hb, ↓vH hbh, ↓gH_0 hbh, ↓gH_1 hbh, ↓gH_2 hbh, ↓gH_3 hbh, ↓gH_4 hbh, ↓gH_5 hbh, ↓gH_6 hbh, ↓gH_7 hbh, ↓gH_8 hbh, ↓gH_9 hbh, ↓pH_7 hbh, ↓pH_8 hbh, ↓pH_9 hbh, ↓lH_1 hbh, ↓sH_1 hbh, ↓lH_2 hbh, ↓sH_2 hbh, ↓lH_3 hbh, ↓sH_3 hbh, ↓lH_4 hbh, ↓sH_4 hbh, ↓lH_5 hbh, ↓sH_5 hbh, ↓lH_6 hbh, ↓sH_6 hbh, ↓lH_7 hbh, ↓sH_7 hbh, ey, zy, zm, t1, t2, z1, z2]
    unfold drm at hC
    refine ⟨fun q => ?_, fun q => ?_⟩
    · first | exact ⟨pr.1, pr.2, zpost hC (by rw [if_pos q])⟩ | exact zpost hC (by rw [if_neg q, trn_0 pr.1 pr.2])
    · first | exact ⟨pr.1, pr.2, zpost hC (by rw [if_pos q])⟩ | exact zpost hC (by rw [if_neg q, trn_0 pr.1 pr.2])
def B_pfwd (g : Nat) (m : Int) (M : Nat → Nat → Int) (post : Option ZV → (Nat → Nat → Int) → Prop) : Prop := (0 ≤ m ∧ m ≤ 9) ∧ ∃ (h c v : Nat) (r dw la yr : Int), digb g h c v ∧ LSt g M r dw la ∧ M h 9 = yr ∧ (0 ≤ yr ∧ yr ≤ 20000) ∧ post (some (.inl (fwd m yr r dw))) M
def C_pfwd : ZC := fun as h post => match as with
  | [.inr (.inr (.inl g)), .inl m] => h.1 = zG ∧ B_pfwd g m h.2 (fun v M => post v (zG, M))
  | _ => False
theorem r_pfwd {g : Nat} {m : Int} {M : Nat → Nat → Int} {post : Option ZV → ZH → Prop} : C_pfwd [.inr (.inr (.inl g)), .inl m] (zG, M) post = B_pfwd g m M (fun v M => post v (zG, M)) := by show (zG = zG ∧ _) = _; simp
def ct_pfwd : Nat → ZC := fun n => if n = 8 then C_peng else if n = 12 then C_dturned else fun _ _ _ => False
theorem ct_pfwd_peng {as : List ZV} {h : ZH} {post : Option ZV → ZH → Prop} : ct_pfwd 8 as h post = C_peng as h post := rfl
theorem ct_pfwd_dturned {as : List ZV} {h : ZH} {post : Option ZV → ZH → Prop} : ct_pfwd 12 as h post = C_dturned as h post := rfl
theorem c_pfwd {E : ZE} {d : Nat} (hd : 2 ≤ d) : zMet E d mX1_pointAsForeman C_pfwd := by
  refine zmet_of (o := 1) (ini := false) (CT := ct_pfwd) gd_X1_pointAsForeman rfl (fun h => by cases h) (by omega) ?_ ?_
  · intro n as h post hh
    unfold ct_pfwd at hh
    by_cases c : n = 8
    · subst c; exact ⟨gd_X1_pointAsEngineer, 1, by omega, c_peng (by omega)⟩
    rw [if_neg c] at hh
    by_cases c : n = 12
    · subst c; exact ⟨gd_X1_turned, 1, by omega, c_dturned (by omega)⟩
    rw [if_neg c] at hh
    exact hh.elim
  intro as h post hC
  match as, hC with
  | [.inr (.inr (.inl g)), .inl m], hC =>
    refine ⟨Nat.le_of_ble_eq_true rfl, fun X hX => bs_X1_pointAsForeman_0 hX ?_⟩
    obtain ⟨G, M⟩ := h
    obtain ⟨hG, hC⟩ := hC
    dsimp only at hG
    subst hG
    simp only [B_pfwd] at hC
    show bk_X1_pointAsForeman_0 E ct_pfwd X _ [some (.inr (.inr (.inl g))), some (.inl m), none] [] (zG, M) (0, 0)
    obtain ⟨hm, hh, cc, vv, r9, dw, la, yr, hb, L, ey, hy, hC⟩ := hC
    have zy : zr yr = yr := zr_of (by omega) (by omega)
    have zm : zr m = m := zr_of (by omega) (by omega)
    have t1 : yr.tmod 10 = yr % 10 := tm_of (by omega)
    have z1 : zr (yr % 10) = yr % 10 := zr_of (by omega) (by omega)
    have hbh := hD hb
    simp only [bk_X1_pointAsForeman_0, k_X1_pointAsForeman_0, bk_X1_pointAsForeman_5, k_X1_pointAsForeman_5, bk_X1_pointAsForeman_27, k_X1_pointAsForeman_27, bk_X1_pointAsForeman_28, k_X1_pointAsForeman_28, ↓e_rk1, ↓e_rk0, ↓e_sk0, ↓e_sks, ↓e_ldi0, ↓e_ldis, ↓e_ldl0, ↓e_ldls, ↓e_lda0, ↓e_ldas, ↓e_ok0, ↓e_okss, ↓e_ok1i, ↓e_ok1r, ↓e_ok1n, ↓e_sti, ↓e_sta, ↓e_1, ↓e_2, ↓e_l1, ↓e_l2, ↓e_li, ↓e_sw0, ↓e_sws, ↓e_ceq, ↓e_cne, ↓e_clt, ↓e_cge, ↓e_cgt, ↓e_cle, ↓e_nil, ↓e_cons, ↓e_iconst, ↓e_bipush, ↓e_sipush, ↓e_ldc, ↓e_ldcw, ↓e_ldc2, ↓e_lconst, ↓e_iloadn, ↓e_iload, ↓e_lloadn, ↓e_lload, ↓e_aloadn, ↓e_aload, ↓e_istoren, ↓e_istore, ↓e_astoren, ↓e_astore, ↓e_add, ↓e_iinc, ↓e_iadd, ↓e_isub, ↓e_imul, ↓e_iand, ↓e_ior, ↓e_ixor, ↓e_ishl, ↓e_iushr, ↓e_idiv, ↓e_irem, ↓e_ineg, ↓e_i2l, ↓e_i2b, ↓e_i2s, ↓e_l2i, ↓e_land, ↓e_lor, ↓e_lshl, ↓e_lshr, ↓e_lushr, ↓e_lcmp, ↓e_dupi, ↓e_dupr, ↓e_popi, ↓e_dup2, ↓e_goto, ↓e_if, ↓e_icmp, ↓e_tsw, ↓e_lsw, ↓e_getf, ↓e_putf, ↓e_gets, ↓e_iald, ↓e_cald, ↓e_iast, ↓e_aald, ↓e_aast, ↓e_len, ↓e_copy, ↓e_abs, ↓e_max, ↓e_min, ↓e_iret, ↓e_aret, ↓e_vret, ↓e_is0, ↓e_is1, ↓e_is2, ↓e_is3, ↓e_is4, ↓e_iv1, ↓e_iv2, ↓e_iv3, ↓e_iv4, ↓e_iv5, ↓e_iv6, ↓rt_X1_pointAsForeman, ↓reduceIte, Nat.reduceAdd, Nat.reduceEqDiff, ↓zcl0, ↓zclv, List.map_nil, List.sum_nil, List.map_cons, List.sum_cons, zcat, true_and, and_true, Nat.reduceLeDiff, Nat.reduceAdd, eq_self, forall_const, e_ok0, e_okss, e_ok1i, e_ok1r, e_ok1n, zl_1, zl_10, Int.reduceToNat, Int.reduceAdd, Int.reduceMul, Int.reduceSub, Int.reduceNeg, Int.reduceLT, Int.reduceLE, Int.reduceEq, not_false_eq_true, not_true_eq_false, false_implies, true_implies, implies_true, Int.reduceDiv, Int.reduceMod, zr8_zr, zr_zbo, z01_zbo, z01_0, z01_1, zbo_eq0, zup_eq, zup_o, zup_k, ne_eq, ↓ct_pfwd_peng, ↓r_peng, ↓B_peng, ↓ct_pfwd_dturned, ↓r_dturned, ↓B_dturned, ↓vD hb, ↓gD_0 hb, ↓gD_1 hb, ↓gD_2 hb, ↓gD_3 hb, ↓gD_4 hb, ↓gD_5 hb, ↓gD_6 hb, ↓gD_7 hb, ↓gD_8 hb, ↓gD_9 hb, ↓pD_5 hb, ↓pD_6 hb, ↓pD_7 hb, ↓pD_8 hb, ↓pD_9 hb, ↓lD_v hb, ↓sD_v hb]
    have pr := plain_rng r9 dw
    refine ⟨hh, cc, vv, r9, dw, la, hb, L, ?_⟩
    refine bs_X1_pointAsForeman_5 hX ?_
    simp only [bk_X1_pointAsForeman_0, k_X1_pointAsForeman_0, bk_X1_pointAsForeman_5, k_X1_pointAsForeman_5, bk_X1_pointAsForeman_27, k_X1_pointAsForeman_27, bk_X1_pointAsForeman_28, k_X1_pointAsForeman_28, ↓e_rk1, ↓e_rk0, ↓e_sk0, ↓e_sks, ↓e_ldi0, ↓e_ldis, ↓e_ldl0, ↓e_ldls, ↓e_lda0, ↓e_ldas, ↓e_ok0, ↓e_okss, ↓e_ok1i, ↓e_ok1r, ↓e_ok1n, ↓e_sti, ↓e_sta, ↓e_1, ↓e_2, ↓e_l1, ↓e_l2, ↓e_li, ↓e_sw0, ↓e_sws, ↓e_ceq, ↓e_cne, ↓e_clt, ↓e_cge, ↓e_cgt, ↓e_cle, ↓e_nil, ↓e_cons, ↓e_iconst, ↓e_bipush, ↓e_sipush, ↓e_ldc, ↓e_ldcw, ↓e_ldc2, ↓e_lconst, ↓e_iloadn, ↓e_iload, ↓e_lloadn, ↓e_lload, ↓e_aloadn, ↓e_aload, ↓e_istoren, ↓e_istore, ↓e_astoren, ↓e_astore, ↓e_add, ↓e_iinc, ↓e_iadd, ↓e_isub, ↓e_imul, ↓e_iand, ↓e_ior, ↓e_ixor, ↓e_ishl, ↓e_iushr, ↓e_idiv, ↓e_irem, ↓e_ineg, ↓e_i2l, ↓e_i2b, ↓e_i2s, ↓e_l2i, ↓e_land, ↓e_lor, ↓e_lshl, ↓e_lshr, ↓e_lushr, ↓e_lcmp, ↓e_dupi, ↓e_dupr, ↓e_popi, ↓e_dup2, ↓e_goto, ↓e_if, ↓e_icmp, ↓e_tsw, ↓e_lsw, ↓e_getf, ↓e_putf, ↓e_gets, ↓e_iald, ↓e_cald, ↓e_iast, ↓e_aald, ↓e_aast, ↓e_len, ↓e_copy, ↓e_abs, ↓e_max, ↓e_min, ↓e_iret, ↓e_aret, ↓e_vret, ↓e_is0, ↓e_is1, ↓e_is2, ↓e_is3, ↓e_is4, ↓e_iv1, ↓e_iv2, ↓e_iv3, ↓e_iv4, ↓e_iv5, ↓e_iv6, ↓rt_X1_pointAsForeman, ↓reduceIte, Nat.reduceAdd, Nat.reduceEqDiff, ↓zcl0, ↓zclv, List.map_nil, List.sum_nil, List.map_cons, List.sum_cons, zcat, true_and, and_true, Nat.reduceLeDiff, Nat.reduceAdd, eq_self, forall_const, e_ok0, e_okss, e_ok1i, e_ok1r, e_ok1n, zl_1, zl_10, Int.reduceToNat, Int.reduceAdd, Int.reduceMul, Int.reduceSub, Int.reduceNeg, Int.reduceLT, Int.reduceLE, Int.reduceEq, not_false_eq_true, not_true_eq_false, false_implies, true_implies, implies_true, Int.reduceDiv, Int.reduceMod, zr8_zr, zr_zbo, z01_zbo, z01_0, z01_1, zbo_eq0, zup_eq, zup_o, zup_k, ne_eq, ↓ct_pfwd_peng, ↓r_peng, ↓B_peng, ↓ct_pfwd_dturned, ↓r_dturned, ↓B_dturned, ↓vD hb, ↓gD_0 hb, ↓gD_1 hb, ↓gD_2 hb, ↓gD_3 hb, ↓gD_4 hb, ↓gD_5 hb, ↓gD_6 hb, ↓gD_7 hb, ↓gD_8 hb, ↓gD_9 hb, ↓pD_5 hb, ↓pD_6 hb, ↓pD_7 hb, ↓pD_8 hb, ↓pD_9 hb, ↓lD_v hb, ↓sD_v hb, ↓vH hbh, ↓gH_0 hbh, ↓gH_1 hbh, ↓gH_2 hbh, ↓gH_3 hbh, ↓gH_4 hbh, ↓gH_5 hbh, ↓gH_6 hbh, ↓gH_7 hbh, ↓gH_8 hbh, ↓gH_9 hbh, ↓pH_7 hbh, ↓pH_8 hbh, ↓pH_9 hbh, ↓lH_1 hbh, ↓sH_1 hbh, ↓lH_2 hbh, ↓sH_2 hbh, ↓lH_3 hbh, ↓sH_3 hbh, ↓lH_4 hbh, ↓sH_4 hbh, ↓lH_5 hbh, ↓sH_5 hbh, ↓lH_6 hbh, ↓sH_6 hbh, ↓lH_7 hbh, ↓sH_7 hbh, ey, zy, zm, t1, z1]
    unfold fwd at hC
    refine ⟨fun q => ?_, fun q => ?_⟩
    · first | exact ⟨pr.1, pr.2, zpost hC (by rw [if_pos q])⟩ | exact zpost hC (by rw [if_neg q, trn_0 pr.1 pr.2])
    · first | exact ⟨pr.1, pr.2, zpost hC (by rw [if_pos q])⟩ | exact zpost hC (by rw [if_neg q, trn_0 pr.1 pr.2])
def B_pofe (g : Nat) (e : Int) (M : Nat → Nat → Int) (post : Option ZV → (Nat → Nat → Int) → Prop) : Prop := (0 ≤ e ∧ e < 8) ∧ ∃ (h c v : Nat) (r dw la yr kd m : Int), digb g h c v ∧ LSt g M r dw la ∧ M h 9 = yr ∧ (0 ≤ yr ∧ yr ≤ 20000) ∧ M (c + 1) e.toNat = kd ∧ (0 ≤ kd ∧ kd ≤ 6) ∧ M (c + 2) e.toNat = m ∧ (0 ≤ m ∧ m ≤ 9) ∧ post (some (.inl (ptk kd m yr r dw (sz r + sz dw) la))) M
def C_pofe : ZC := fun as h post => match as with
  | [.inr (.inr (.inl g)), .inl e] => h.1 = zG ∧ B_pofe g e h.2 (fun v M => post v (zG, M))
  | _ => False
theorem r_pofe {g : Nat} {e : Int} {M : Nat → Nat → Int} {post : Option ZV → ZH → Prop} : C_pofe [.inr (.inr (.inl g)), .inl e] (zG, M) post = B_pofe g e M (fun v M => post v (zG, M)) := by show (zG = zG ∧ _) = _; simp
def ct_pofe : Nat → ZC := fun n => if n = 8 then C_peng else if n = 9 then C_psrv else if n = 10 then C_pdrm else if n = 11 then C_pfwd else if n = 12 then C_dturned else fun _ _ _ => False
theorem ct_pofe_peng {as : List ZV} {h : ZH} {post : Option ZV → ZH → Prop} : ct_pofe 8 as h post = C_peng as h post := rfl
theorem ct_pofe_psrv {as : List ZV} {h : ZH} {post : Option ZV → ZH → Prop} : ct_pofe 9 as h post = C_psrv as h post := rfl
theorem ct_pofe_pdrm {as : List ZV} {h : ZH} {post : Option ZV → ZH → Prop} : ct_pofe 10 as h post = C_pdrm as h post := rfl
theorem ct_pofe_pfwd {as : List ZV} {h : ZH} {post : Option ZV → ZH → Prop} : ct_pofe 11 as h post = C_pfwd as h post := rfl
theorem ct_pofe_dturned {as : List ZV} {h : ZH} {post : Option ZV → ZH → Prop} : ct_pofe 12 as h post = C_dturned as h post := rfl
theorem c_pofe {E : ZE} {d : Nat} (hd : 3 ≤ d) : zMet E d mX1_pointOf C_pofe := by
  refine zmet_of (o := 1) (ini := false) (CT := ct_pofe) gd_X1_pointOf rfl (fun h => by cases h) (by omega) ?_ ?_
  · intro n as h post hh
    unfold ct_pofe at hh
    by_cases c : n = 8
    · subst c; exact ⟨gd_X1_pointAsEngineer, 1, by omega, c_peng (by omega)⟩
    rw [if_neg c] at hh
    by_cases c : n = 9
    · subst c; exact ⟨gd_X1_pointAsSurveyor, 2, by omega, c_psrv (by omega)⟩
    rw [if_neg c] at hh
    by_cases c : n = 10
    · subst c; exact ⟨gd_X1_pointAsDreamer, 2, by omega, c_pdrm (by omega)⟩
    rw [if_neg c] at hh
    by_cases c : n = 11
    · subst c; exact ⟨gd_X1_pointAsForeman, 2, by omega, c_pfwd (by omega)⟩
    rw [if_neg c] at hh
    by_cases c : n = 12
    · subst c; exact ⟨gd_X1_turned, 1, by omega, c_dturned (by omega)⟩
    rw [if_neg c] at hh
    exact hh.elim
  intro as h post hC
  match as, hC with
  | [.inr (.inr (.inl g)), .inl e], hC =>
    refine ⟨Nat.le_of_ble_eq_true rfl, fun X hX => bs_X1_pointOf_0 hX ?_⟩
    obtain ⟨G, M⟩ := h
    obtain ⟨hG, hC⟩ := hC
    dsimp only at hG
    subst hG
    simp only [B_pofe] at hC
    show bk_X1_pointOf_0 E ct_pofe X _ [some (.inr (.inr (.inl g))), some (.inl e), none] [] (zG, M) (0, 0)
    obtain ⟨he, hh, cc, vv, r9, dw, la, yr, kd, m9, hb, L, ey, hy, ek, hk, em, hm, hC⟩ := hC
    have hbh := hD hb
    have hbc := cD hb
    have ze : zr e = e := zr_of (by omega) (by omega)
    have zk : zr kd = kd := zr_of (by omega) (by omega)
    have zm : zr m9 = m9 := zr_of (by omega) (by omega)
    have zy : zr yr = yr := zr_of (by omega) (by omega)
    have L9 := L
    obtain ⟨b1, b2, b3, e5, e6, e7, e8, e9⟩ := L
    have s1 := sz_le b1.1 b1.2
    have s2 := sz_le b2.1 b2.2
    have z8 : zr (sz r9 + sz dw) = sz r9 + sz dw := zr_of (by omega) (by omega)
    have z5 : zr la = la := zr_of (by omega) (by omega)
    have t1 : yr.tmod 2 = yr % 2 := tm_of (by omega)
    have z1 : zr (yr % 2) = yr % 2 := zr_of (by omega) (by omega)
    simp only [bk_X1_pointOf_0, k_X1_pointOf_0, bk_X1_pointOf_19, k_X1_pointOf_19, bk_X1_pointOf_56, k_X1_pointOf_56, bk_X1_pointOf_61, k_X1_pointOf_61, bk_X1_pointOf_67, k_X1_pointOf_67, bk_X1_pointOf_73, k_X1_pointOf_73, bk_X1_pointOf_96, k_X1_pointOf_96, bk_X1_pointOf_100, k_X1_pointOf_100, bk_X1_pointOf_101, k_X1_pointOf_101, bk_X1_pointOf_111, k_X1_pointOf_111, bk_X1_pointOf_127, k_X1_pointOf_127, bk_X1_pointOf_132, k_X1_pointOf_132, bk_X1_pointOf_133, k_X1_pointOf_133, ↓e_rk1, ↓e_rk0, ↓e_sk0, ↓e_sks, ↓e_ldi0, ↓e_ldis, ↓e_ldl0, ↓e_ldls, ↓e_lda0, ↓e_ldas, ↓e_ok0, ↓e_okss, ↓e_ok1i, ↓e_ok1r, ↓e_ok1n, ↓e_sti, ↓e_sta, ↓e_1, ↓e_2, ↓e_l1, ↓e_l2, ↓e_li, ↓e_sw0, ↓e_sws, ↓e_ceq, ↓e_cne, ↓e_clt, ↓e_cge, ↓e_cgt, ↓e_cle, ↓e_nil, ↓e_cons, ↓e_iconst, ↓e_bipush, ↓e_sipush, ↓e_ldc, ↓e_ldcw, ↓e_ldc2, ↓e_lconst, ↓e_iloadn, ↓e_iload, ↓e_lloadn, ↓e_lload, ↓e_aloadn, ↓e_aload, ↓e_istoren, ↓e_istore, ↓e_astoren, ↓e_astore, ↓e_add, ↓e_iinc, ↓e_iadd, ↓e_isub, ↓e_imul, ↓e_iand, ↓e_ior, ↓e_ixor, ↓e_ishl, ↓e_iushr, ↓e_idiv, ↓e_irem, ↓e_ineg, ↓e_i2l, ↓e_i2b, ↓e_i2s, ↓e_l2i, ↓e_land, ↓e_lor, ↓e_lshl, ↓e_lshr, ↓e_lushr, ↓e_lcmp, ↓e_dupi, ↓e_dupr, ↓e_popi, ↓e_dup2, ↓e_goto, ↓e_if, ↓e_icmp, ↓e_tsw, ↓e_lsw, ↓e_getf, ↓e_putf, ↓e_gets, ↓e_iald, ↓e_cald, ↓e_iast, ↓e_aald, ↓e_aast, ↓e_len, ↓e_copy, ↓e_abs, ↓e_max, ↓e_min, ↓e_iret, ↓e_aret, ↓e_vret, ↓e_is0, ↓e_is1, ↓e_is2, ↓e_is3, ↓e_is4, ↓e_iv1, ↓e_iv2, ↓e_iv3, ↓e_iv4, ↓e_iv5, ↓e_iv6, ↓rt_X1_pointOf, ↓reduceIte, Nat.reduceAdd, Nat.reduceEqDiff, ↓zcl0, ↓zclv, List.map_nil, List.sum_nil, List.map_cons, List.sum_cons, zcat, true_and, and_true, Nat.reduceLeDiff, Nat.reduceAdd, eq_self, forall_const, e_ok0, e_okss, e_ok1i, e_ok1r, e_ok1n, zl_2, zl_4, Int.reduceToNat, Int.reduceAdd, Int.reduceMul, Int.reduceSub, Int.reduceNeg, Int.reduceLT, Int.reduceLE, Int.reduceEq, not_false_eq_true, not_true_eq_false, false_implies, true_implies, implies_true, Int.reduceDiv, Int.reduceMod, zr8_zr, zr_zbo, z01_zbo, z01_0, z01_1, zbo_eq0, zup_eq, zup_o, zup_k, ne_eq, ↓ct_pofe_peng, ↓r_peng, ↓B_peng, ↓ct_pofe_psrv, ↓r_psrv, ↓B_psrv, ↓ct_pofe_pdrm, ↓r_pdrm, ↓B_pdrm, ↓ct_pofe_pfwd, ↓r_pfwd, ↓B_pfwd, ↓ct_pofe_dturned, ↓r_dturned, ↓B_dturned, ↓vD hb, ↓gD_0 hb, ↓gD_1 hb, ↓gD_2 hb, ↓gD_3 hb, ↓gD_4 hb, ↓gD_5 hb, ↓gD_6 hb, ↓gD_7 hb, ↓gD_8 hb, ↓gD_9 hb, ↓pD_5 hb, ↓pD_6 hb, ↓pD_7 hb, ↓pD_8 hb, ↓pD_9 hb, ↓lD_v hb, ↓sD_v hb, ↓vC hbc, ↓gC_0 hbc, ↓gC_1 hbc, ↓gC_2 hbc, ↓gC_3 hbc, ↓pC_3 hbc, ↓lC_1 hbc, ↓sC_1 hbc, ↓lC_2 hbc, ↓sC_2 hbc, ↓lC_3 hbc, ↓sC_3 hbc, ze, ek, em, zk]
    repeat (refine And.intro (by omega) ?_)
    refine bs_X1_pointOf_19 hX ?_
    simp only [bk_X1_pointOf_0, k_X1_pointOf_0, bk_X1_pointOf_19, k_X1_pointOf_19, bk_X1_pointOf_56, k_X1_pointOf_56, bk_X1_pointOf_61, k_X1_pointOf_61, bk_X1_pointOf_67, k_X1_pointOf_67, bk_X1_pointOf_73, k_X1_pointOf_73, bk_X1_pointOf_96, k_X1_pointOf_96, bk_X1_pointOf_100, k_X1_pointOf_100, bk_X1_pointOf_101, k_X1_pointOf_101, bk_X1_pointOf_111, k_X1_pointOf_111, bk_X1_pointOf_127, k_X1_pointOf_127, bk_X1_pointOf_132, k_X1_pointOf_132, bk_X1_pointOf_133, k_X1_pointOf_133, ↓e_rk1, ↓e_rk0, ↓e_sk0, ↓e_sks, ↓e_ldi0, ↓e_ldis, ↓e_ldl0, ↓e_ldls, ↓e_lda0, ↓e_ldas, ↓e_ok0, ↓e_okss, ↓e_ok1i, ↓e_ok1r, ↓e_ok1n, ↓e_sti, ↓e_sta, ↓e_1, ↓e_2, ↓e_l1, ↓e_l2, ↓e_li, ↓e_sw0, ↓e_sws, ↓e_ceq, ↓e_cne, ↓e_clt, ↓e_cge, ↓e_cgt, ↓e_cle, ↓e_nil, ↓e_cons, ↓e_iconst, ↓e_bipush, ↓e_sipush, ↓e_ldc, ↓e_ldcw, ↓e_ldc2, ↓e_lconst, ↓e_iloadn, ↓e_iload, ↓e_lloadn, ↓e_lload, ↓e_aloadn, ↓e_aload, ↓e_istoren, ↓e_istore, ↓e_astoren, ↓e_astore, ↓e_add, ↓e_iinc, ↓e_iadd, ↓e_isub, ↓e_imul, ↓e_iand, ↓e_ior, ↓e_ixor, ↓e_ishl, ↓e_iushr, ↓e_idiv, ↓e_irem, ↓e_ineg, ↓e_i2l, ↓e_i2b, ↓e_i2s, ↓e_l2i, ↓e_land, ↓e_lor, ↓e_lshl, ↓e_lshr, ↓e_lushr, ↓e_lcmp, ↓e_dupi, ↓e_dupr, ↓e_popi, ↓e_dup2, ↓e_goto, ↓e_if, ↓e_icmp, ↓e_tsw, ↓e_lsw, ↓e_getf, ↓e_putf, ↓e_gets, ↓e_iald, ↓e_cald, ↓e_iast, ↓e_aald, ↓e_aast, ↓e_len, ↓e_copy, ↓e_abs, ↓e_max, ↓e_min, ↓e_iret, ↓e_aret, ↓e_vret, ↓e_is0, ↓e_is1, ↓e_is2, ↓e_is3, ↓e_is4, ↓e_iv1, ↓e_iv2, ↓e_iv3, ↓e_iv4, ↓e_iv5, ↓e_iv6, ↓rt_X1_pointOf, ↓reduceIte, Nat.reduceAdd, Nat.reduceEqDiff, ↓zcl0, ↓zclv, List.map_nil, List.sum_nil, List.map_cons, List.sum_cons, zcat, true_and, and_true, Nat.reduceLeDiff, Nat.reduceAdd, eq_self, forall_const, e_ok0, e_okss, e_ok1i, e_ok1r, e_ok1n, zl_2, zl_4, Int.reduceToNat, Int.reduceAdd, Int.reduceMul, Int.reduceSub, Int.reduceNeg, Int.reduceLT, Int.reduceLE, Int.reduceEq, not_false_eq_true, not_true_eq_false, false_implies, true_implies, implies_true, Int.reduceDiv, Int.reduceMod, zr8_zr, zr_zbo, z01_zbo, z01_0, z01_1, zbo_eq0, zup_eq, zup_o, zup_k, ne_eq, ↓ct_pofe_peng, ↓r_peng, ↓B_peng, ↓ct_pofe_psrv, ↓r_psrv, ↓B_psrv, ↓ct_pofe_pdrm, ↓r_pdrm, ↓B_pdrm, ↓ct_pofe_pfwd, ↓r_pfwd, ↓B_pfwd, ↓ct_pofe_dturned, ↓r_dturned, ↓B_dturned, ↓vD hb, ↓gD_0 hb, ↓gD_1 hb, ↓gD_2 hb, ↓gD_3 hb, ↓gD_4 hb, ↓gD_5 hb, ↓gD_6 hb, ↓gD_7 hb, ↓gD_8 hb, ↓gD_9 hb, ↓pD_5 hb, ↓pD_6 hb, ↓pD_7 hb, ↓pD_8 hb, ↓pD_9 hb, ↓lD_v hb, ↓sD_v hb, zk]
    unfold ptk at hC
    refine ⟨fun k1 => ?_, fun k1 => ⟨fun k2 => ?_, fun k2 => ⟨fun k3 => ?_, fun k3 => ⟨fun k4 => ?_, fun k4 => ⟨fun k5 => ?_, fun k5 => ⟨fun k6 => ?_, fun k6 => ?_⟩⟩⟩⟩⟩⟩
    · refine bs_X1_pointOf_56 hX ?_
      simp only [bk_X1_pointOf_0, k_X1_pointOf_0, bk_X1_pointOf_19, k_X1_pointOf_19, bk_X1_pointOf_56, k_X1_pointOf_56, bk_X1_pointOf_61, k_X1_pointOf_61, bk_X1_pointOf_67, k_X1_pointOf_67, bk_X1_pointOf_73, k_X1_pointOf_73, bk_X1_pointOf_96, k_X1_pointOf_96, bk_X1_pointOf_100, k_X1_pointOf_100, bk_X1_pointOf_101, k_X1_pointOf_101, bk_X1_pointOf_111, k_X1_pointOf_111, bk_X1_pointOf_127, k_X1_pointOf_127, bk_X1_pointOf_132, k_X1_pointOf_132, bk_X1_pointOf_133, k_X1_pointOf_133, ↓e_rk1, ↓e_rk0, ↓e_sk0, ↓e_sks, ↓e_ldi0, ↓e_ldis, ↓e_ldl0, ↓e_ldls, ↓e_lda0, ↓e_ldas, ↓e_ok0, ↓e_okss, ↓e_ok1i, ↓e_ok1r, ↓e_ok1n, ↓e_sti, ↓e_sta, ↓e_1, ↓e_2, ↓e_l1, ↓e_l2, ↓e_li, ↓e_sw0, ↓e_sws, ↓e_ceq, ↓e_cne, ↓e_clt, ↓e_cge, ↓e_cgt, ↓e_cle, ↓e_nil, ↓e_cons, ↓e_iconst, ↓e_bipush, ↓e_sipush, ↓e_ldc, ↓e_ldcw, ↓e_ldc2, ↓e_lconst, ↓e_iloadn, ↓e_iload, ↓e_lloadn, ↓e_lload, ↓e_aloadn, ↓e_aload, ↓e_istoren, ↓e_istore, ↓e_astoren, ↓e_astore, ↓e_add, ↓e_iinc, ↓e_iadd, ↓e_isub, ↓e_imul, ↓e_iand, ↓e_ior, ↓e_ixor, ↓e_ishl, ↓e_iushr, ↓e_idiv, ↓e_irem, ↓e_ineg, ↓e_i2l, ↓e_i2b, ↓e_i2s, ↓e_l2i, ↓e_land, ↓e_lor, ↓e_lshl, ↓e_lshr, ↓e_lushr, ↓e_lcmp, ↓e_dupi, ↓e_dupr, ↓e_popi, ↓e_dup2, ↓e_goto, ↓e_if, ↓e_icmp, ↓e_tsw, ↓e_lsw, ↓e_getf, ↓e_putf, ↓e_gets, ↓e_iald, ↓e_cald, ↓e_iast, ↓e_aald, ↓e_aast, ↓e_len, ↓e_copy, ↓e_abs, ↓e_max, ↓e_min, ↓e_iret, ↓e_aret, ↓e_vret, ↓e_is0, ↓e_is1, ↓e_is2, ↓e_is3, ↓e_is4, ↓e_iv1, ↓e_iv2, ↓e_iv3, ↓e_iv4, ↓e_iv5, ↓e_iv6, ↓rt_X1_pointOf, ↓reduceIte, Nat.reduceAdd, Nat.reduceEqDiff, ↓zcl0, ↓zclv, List.map_nil, List.sum_nil, List.map_cons, List.sum_cons, zcat, true_and, and_true, Nat.reduceLeDiff, Nat.reduceAdd, eq_self, forall_const, e_ok0, e_okss, e_ok1i, e_ok1r, e_ok1n, zl_2, zl_4, Int.reduceToNat, Int.reduceAdd, Int.reduceMul, Int.reduceSub, Int.reduceNeg, Int.reduceLT, Int.reduceLE, Int.reduceEq, not_false_eq_true, not_true_eq_false, false_implies, true_implies, implies_true, Int.reduceDiv, Int.reduceMod, zr8_zr, zr_zbo, z01_zbo, z01_0, z01_1, zbo_eq0, zup_eq, zup_o, zup_k, ne_eq, ↓ct_pofe_peng, ↓r_peng, ↓B_peng, ↓ct_pofe_psrv, ↓r_psrv, ↓B_psrv, ↓ct_pofe_pdrm, ↓r_pdrm, ↓B_pdrm, ↓ct_pofe_pfwd, ↓r_pfwd, ↓B_pfwd, ↓ct_pofe_dturned, ↓r_dturned, ↓B_dturned, ↓vD hb, ↓gD_0 hb, ↓gD_1 hb, ↓gD_2 hb, ↓gD_3 hb, ↓gD_4 hb, ↓gD_5 hb, ↓gD_6 hb, ↓gD_7 hb, ↓gD_8 hb, ↓gD_9 hb, ↓pD_5 hb, ↓pD_6 hb, ↓pD_7 hb, ↓pD_8 hb, ↓pD_9 hb, ↓lD_v hb, ↓sD_v hb]
      exact ⟨hh, cc, vv, r9, dw, la, hb, L9, zpost hC (by rw [if_pos k1])⟩
    · refine bs_X1_pointOf_61 hX ?_
      simp only [bk_X1_pointOf_0, k_X1_pointOf_0, bk_X1_pointOf_19, k_X1_pointOf_19, bk_X1_pointOf_56, k_X1_pointOf_56, bk_X1_pointOf_61, k_X1_pointOf_61, bk_X1_pointOf_67, k_X1_pointOf_67, bk_X1_pointOf_73, k_X1_pointOf_73, bk_X1_pointOf_96, k_X1_pointOf_96, bk_X1_pointOf_100, k_X1_pointOf_100, bk_X1_pointOf_101, k_X1_pointOf_101, bk_X1_pointOf_111, k_X1_pointOf_111, bk_X1_pointOf_127, k_X1_pointOf_127, bk_X1_pointOf_132, k_X1_pointOf_132, bk_X1_pointOf_133, k_X1_pointOf_133, ↓e_rk1, ↓e_rk0, ↓e_sk0, ↓e_sks, ↓e_ldi0, ↓e_ldis, ↓e_ldl0, ↓e_ldls, ↓e_lda0, ↓e_ldas, ↓e_ok0, ↓e_okss, ↓e_ok1i, ↓e_ok1r, ↓e_ok1n, ↓e_sti, ↓e_sta, ↓e_1, ↓e_2, ↓e_l1, ↓e_l2, ↓e_li, ↓e_sw0, ↓e_sws, ↓e_ceq, ↓e_cne, ↓e_clt, ↓e_cge, ↓e_cgt, ↓e_cle, ↓e_nil, ↓e_cons, ↓e_iconst, ↓e_bipush, ↓e_sipush, ↓e_ldc, ↓e_ldcw, ↓e_ldc2, ↓e_lconst, ↓e_iloadn, ↓e_iload, ↓e_lloadn, ↓e_lload, ↓e_aloadn, ↓e_aload, ↓e_istoren, ↓e_istore, ↓e_astoren, ↓e_astore, ↓e_add, ↓e_iinc, ↓e_iadd, ↓e_isub, ↓e_imul, ↓e_iand, ↓e_ior, ↓e_ixor, ↓e_ishl, ↓e_iushr, ↓e_idiv, ↓e_irem, ↓e_ineg, ↓e_i2l, ↓e_i2b, ↓e_i2s, ↓e_l2i, ↓e_land, ↓e_lor, ↓e_lshl, ↓e_lshr, ↓e_lushr, ↓e_lcmp, ↓e_dupi, ↓e_dupr, ↓e_popi, ↓e_dup2, ↓e_goto, ↓e_if, ↓e_icmp, ↓e_tsw, ↓e_lsw, ↓e_getf, ↓e_putf, ↓e_gets, ↓e_iald, ↓e_cald, ↓e_iast, ↓e_aald, ↓e_aast, ↓e_len, ↓e_copy, ↓e_abs, ↓e_max, ↓e_min, ↓e_iret, ↓e_aret, ↓e_vret, ↓e_is0, ↓e_is1, ↓e_is2, ↓e_is3, ↓e_is4, ↓e_iv1, ↓e_iv2, ↓e_iv3, ↓e_iv4, ↓e_iv5, ↓e_iv6, ↓rt_X1_pointOf, ↓reduceIte, Nat.reduceAdd, Nat.reduceEqDiff, ↓zcl0, ↓zclv, List.map_nil, List.sum_nil, List.map_cons, List.sum_cons, zcat, true_and, and_true, Nat.reduceLeDiff, Nat.reduceAdd, eq_self, forall_const, e_ok0, e_okss, e_ok1i, e_ok1r, e_ok1n, zl_2, zl_4, Int.reduceToNat, Int.reduceAdd, Int.reduceMul, Int.reduceSub, Int.reduceNeg, Int.reduceLT, Int.reduceLE, Int.reduceEq, not_false_eq_true, not_true_eq_false, false_implies, true_implies, implies_true, Int.reduceDiv, Int.reduceMod, zr8_zr, zr_zbo, z01_zbo, z01_0, z01_1, zbo_eq0, zup_eq, zup_o, zup_k, ne_eq, ↓ct_pofe_peng, ↓r_peng, ↓B_peng, ↓ct_pofe_psrv, ↓r_psrv, ↓B_psrv, ↓ct_pofe_pdrm, ↓r_pdrm, ↓B_pdrm, ↓ct_pofe_pfwd, ↓r_pfwd, ↓B_pfwd, ↓ct_pofe_dturned, ↓r_dturned, ↓B_dturned, ↓vD hb, ↓gD_0 hb, ↓gD_1 hb, ↓gD_2 hb, ↓gD_3 hb, ↓gD_4 hb, ↓gD_5 hb, ↓gD_6 hb, ↓gD_7 hb, ↓gD_8 hb, ↓gD_9 hb, ↓pD_5 hb, ↓pD_6 hb, ↓pD_7 hb, ↓pD_8 hb, ↓pD_9 hb, ↓lD_v hb, ↓sD_v hb]
      exact ⟨hm, hh, cc, vv, r9, dw, la, yr, hb, L9, ey, hy, zpost hC (by rw [if_neg k1, if_pos k2])⟩
    · refine bs_X1_pointOf_67 hX ?_
      simp only [bk_X1_pointOf_0, k_X1_pointOf_0, bk_X1_pointOf_19, k_X1_pointOf_19, bk_X1_pointOf_56, k_X1_pointOf_56, bk_X1_pointOf_61, k_X1_pointOf_61, bk_X1_pointOf_67, k_X1_pointOf_67, bk_X1_pointOf_73, k_X1_pointOf_73, bk_X1_pointOf_96, k_X1_pointOf_96, bk_X1_pointOf_100, k_X1_pointOf_100, bk_X1_pointOf_101, k_X1_pointOf_101, bk_X1_pointOf_111, k_X1_pointOf_111, bk_X1_pointOf_127, k_X1_pointOf_127, bk_X1_pointOf_132, k_X1_pointOf_132, bk_X1_pointOf_133, k_X1_pointOf_133, ↓e_rk1, ↓e_rk0, ↓e_sk0, ↓e_sks, ↓e_ldi0, ↓e_ldis, ↓e_ldl0, ↓e_ldls, ↓e_lda0, ↓e_ldas, ↓e_ok0, ↓e_okss, ↓e_ok1i, ↓e_ok1r, ↓e_ok1n, ↓e_sti, ↓e_sta, ↓e_1, ↓e_2, ↓e_l1, ↓e_l2, ↓e_li, ↓e_sw0, ↓e_sws, ↓e_ceq, ↓e_cne, ↓e_clt, ↓e_cge, ↓e_cgt, ↓e_cle, ↓e_nil, ↓e_cons, ↓e_iconst, ↓e_bipush, ↓e_sipush, ↓e_ldc, ↓e_ldcw, ↓e_ldc2, ↓e_lconst, ↓e_iloadn, ↓e_iload, ↓e_lloadn, ↓e_lload, ↓e_aloadn, ↓e_aload, ↓e_istoren, ↓e_istore, ↓e_astoren, ↓e_astore, ↓e_add, ↓e_iinc, ↓e_iadd, ↓e_isub, ↓e_imul, ↓e_iand, ↓e_ior, ↓e_ixor, ↓e_ishl, ↓e_iushr, ↓e_idiv, ↓e_irem, ↓e_ineg, ↓e_i2l, ↓e_i2b, ↓e_i2s, ↓e_l2i, ↓e_land, ↓e_lor, ↓e_lshl, ↓e_lshr, ↓e_lushr, ↓e_lcmp, ↓e_dupi, ↓e_dupr, ↓e_popi, ↓e_dup2, ↓e_goto, ↓e_if, ↓e_icmp, ↓e_tsw, ↓e_lsw, ↓e_getf, ↓e_putf, ↓e_gets, ↓e_iald, ↓e_cald, ↓e_iast, ↓e_aald, ↓e_aast, ↓e_len, ↓e_copy, ↓e_abs, ↓e_max, ↓e_min, ↓e_iret, ↓e_aret, ↓e_vret, ↓e_is0, ↓e_is1, ↓e_is2, ↓e_is3, ↓e_is4, ↓e_iv1, ↓e_iv2, ↓e_iv3, ↓e_iv4, ↓e_iv5, ↓e_iv6, ↓rt_X1_pointOf, ↓reduceIte, Nat.reduceAdd, Nat.reduceEqDiff, ↓zcl0, ↓zclv, List.map_nil, List.sum_nil, List.map_cons, List.sum_cons, zcat, true_and, and_true, Nat.reduceLeDiff, Nat.reduceAdd, eq_self, forall_const, e_ok0, e_okss, e_ok1i, e_ok1r, e_ok1n, zl_2, zl_4, Int.reduceToNat, Int.reduceAdd, Int.reduceMul, Int.reduceSub, Int.reduceNeg, Int.reduceLT, Int.reduceLE, Int.reduceEq, not_false_eq_true, not_true_eq_false, false_implies, true_implies, implies_true, Int.reduceDiv, Int.reduceMod, zr8_zr, zr_zbo, z01_zbo, z01_0, z01_1, zbo_eq0, zup_eq, zup_o, zup_k, ne_eq, ↓ct_pofe_peng, ↓r_peng, ↓B_peng, ↓ct_pofe_psrv, ↓r_psrv, ↓B_psrv, ↓ct_pofe_pdrm, ↓r_pdrm, ↓B_pdrm, ↓ct_pofe_pfwd, ↓r_pfwd, ↓B_pfwd, ↓ct_pofe_dturned, ↓r_dturned, ↓B_dturned, ↓vD hb, ↓gD_0 hb, ↓gD_1 hb, ↓gD_2 hb, ↓gD_3 hb, ↓gD_4 hb, ↓gD_5 hb, ↓gD_6 hb, ↓gD_7 hb, ↓gD_8 hb, ↓gD_9 hb, ↓pD_5 hb, ↓pD_6 hb, ↓pD_7 hb, ↓pD_8 hb, ↓pD_9 hb, ↓lD_v hb, ↓sD_v hb]
      exact ⟨hm, hh, cc, vv, r9, dw, la, yr, hb, L9, ey, hy, zpost hC (by rw [if_neg k1, if_neg k2, if_pos k3])⟩
    · rw [if_neg k1, if_neg k2, if_neg k3, if_pos k4] at hC
      have J96 : ¬ (m9 < sz r9 + sz dw ∧ ¬ la = 4) → X 96 [some (.inr (.inr (.inl g))), some (.inl e), some (.inl m9)] [] (zG, M) (0, 0) := by
        intro q
        refine bs_X1_pointOf_96 hX ?_
        simp only [bk_X1_pointOf_0, k_X1_pointOf_0, bk_X1_pointOf_19, k_X1_pointOf_19, bk_X1_pointOf_56, k_X1_pointOf_56, bk_X1_pointOf_61, k_X1_pointOf_61, bk_X1_pointOf_67, k_X1_pointOf_67, bk_X1_pointOf_73, k_X1_pointOf_73, bk_X1_pointOf_96, k_X1_pointOf_96, bk_X1_pointOf_100, k_X1_pointOf_100, bk_X1_pointOf_101, k_X1_pointOf_101, bk_X1_pointOf_111, k_X1_pointOf_111, bk_X1_pointOf_127, k_X1_pointOf_127, bk_X1_pointOf_132, k_X1_pointOf_132, bk_X1_pointOf_133, k_X1_pointOf_133, ↓e_rk1, ↓e_rk0, ↓e_sk0, ↓e_sks, ↓e_ldi0, ↓e_ldis, ↓e_ldl0, ↓e_ldls, ↓e_lda0, ↓e_ldas, ↓e_ok0, ↓e_okss, ↓e_ok1i, ↓e_ok1r, ↓e_ok1n, ↓e_sti, ↓e_sta, ↓e_1, ↓e_2, ↓e_l1, ↓e_l2, ↓e_li, ↓e_sw0, ↓e_sws, ↓e_ceq, ↓e_cne, ↓e_clt, ↓e_cge, ↓e_cgt, ↓e_cle, ↓e_nil, ↓e_cons, ↓e_iconst, ↓e_bipush, ↓e_sipush, ↓e_ldc, ↓e_ldcw, ↓e_ldc2, ↓e_lconst, ↓e_iloadn, ↓e_iload, ↓e_lloadn, ↓e_lload, ↓e_aloadn, ↓e_aload, ↓e_istoren, ↓e_istore, ↓e_astoren, ↓e_astore, ↓e_add, ↓e_iinc, ↓e_iadd, ↓e_isub, ↓e_imul, ↓e_iand, ↓e_ior, ↓e_ixor, ↓e_ishl, ↓e_iushr, ↓e_idiv, ↓e_irem, ↓e_ineg, ↓e_i2l, ↓e_i2b, ↓e_i2s, ↓e_l2i, ↓e_land, ↓e_lor, ↓e_lshl, ↓e_lshr, ↓e_lushr, ↓e_lcmp, ↓e_dupi, ↓e_dupr, ↓e_popi, ↓e_dup2, ↓e_goto, ↓e_if, ↓e_icmp, ↓e_tsw, ↓e_lsw, ↓e_getf, ↓e_putf, ↓e_gets, ↓e_iald, ↓e_cald, ↓e_iast, ↓e_aald, ↓e_aast, ↓e_len, ↓e_copy, ↓e_abs, ↓e_max, ↓e_min, ↓e_iret, ↓e_aret, ↓e_vret, ↓e_is0, ↓e_is1, ↓e_is2, ↓e_is3, ↓e_is4, ↓e_iv1, ↓e_iv2, ↓e_iv3, ↓e_iv4, ↓e_iv5, ↓e_iv6, ↓rt_X1_pointOf, ↓reduceIte, Nat.reduceAdd, Nat.reduceEqDiff, ↓zcl0, ↓zclv, List.map_nil, List.sum_nil, List.map_cons, List.sum_cons, zcat, true_and, and_true, Nat.reduceLeDiff, Nat.reduceAdd, eq_self, forall_const, e_ok0, e_okss, e_ok1i, e_ok1r, e_ok1n, zl_2, zl_4, Int.reduceToNat, Int.reduceAdd, Int.reduceMul, Int.reduceSub, Int.reduceNeg, Int.reduceLT, Int.reduceLE, Int.reduceEq, not_false_eq_true, not_true_eq_false, false_implies, true_implies, implies_true, Int.reduceDiv, Int.reduceMod, zr8_zr, zr_zbo, z01_zbo, z01_0, z01_1, zbo_eq0, zup_eq, zup_o, zup_k, ne_eq, ↓ct_pofe_peng, ↓r_peng, ↓B_peng, ↓ct_pofe_psrv, ↓r_psrv, ↓B_psrv, ↓ct_pofe_pdrm, ↓r_pdrm, ↓B_pdrm, ↓ct_pofe_pfwd, ↓r_pfwd, ↓B_pfwd, ↓ct_pofe_dturned, ↓r_dturned, ↓B_dturned, ↓vD hb, ↓gD_0 hb, ↓gD_1 hb, ↓gD_2 hb, ↓gD_3 hb, ↓gD_4 hb, ↓gD_5 hb, ↓gD_6 hb, ↓gD_7 hb, ↓gD_8 hb, ↓gD_9 hb, ↓pD_5 hb, ↓pD_6 hb, ↓pD_7 hb, ↓pD_8 hb, ↓pD_9 hb, ↓lD_v hb, ↓sD_v hb]
        exact ⟨hh, cc, vv, r9, dw, la, hb, L9, zpost hC (by rw [if_neg q])⟩
      refine bs_X1_pointOf_73 hX ?_
      simp only [bk_X1_pointOf_0, k_X1_pointOf_0, bk_X1_pointOf_19, k_X1_pointOf_19, bk_X1_pointOf_56, k_X1_pointOf_56, bk_X1_pointOf_61, k_X1_pointOf_61, bk_X1_pointOf_67, k_X1_pointOf_67, bk_X1_pointOf_73, k_X1_pointOf_73, bk_X1_pointOf_96, k_X1_pointOf_96, bk_X1_pointOf_100, k_X1_pointOf_100, bk_X1_pointOf_101, k_X1_pointOf_101, bk_X1_pointOf_111, k_X1_pointOf_111, bk_X1_pointOf_127, k_X1_pointOf_127, bk_X1_pointOf_132, k_X1_pointOf_132, bk_X1_pointOf_133, k_X1_pointOf_133, ↓e_rk1, ↓e_rk0, ↓e_sk0, ↓e_sks, ↓e_ldi0, ↓e_ldis, ↓e_ldl0, ↓e_ldls, ↓e_lda0, ↓e_ldas, ↓e_ok0, ↓e_okss, ↓e_ok1i, ↓e_ok1r, ↓e_ok1n, ↓e_sti, ↓e_sta, ↓e_1, ↓e_2, ↓e_l1, ↓e_l2, ↓e_li, ↓e_sw0, ↓e_sws, ↓e_ceq, ↓e_cne, ↓e_clt, ↓e_cge, ↓e_cgt, ↓e_cle, ↓e_nil, ↓e_cons, ↓e_iconst, ↓e_bipush, ↓e_sipush, ↓e_ldc, ↓e_ldcw, ↓e_ldc2, ↓e_lconst, ↓e_iloadn, ↓e_iload, ↓e_lloadn, ↓e_lload, ↓e_aloadn, ↓e_aload, ↓e_istoren, ↓e_istore, ↓e_astoren, ↓e_astore, ↓e_add, ↓e_iinc, ↓e_iadd, ↓e_isub, ↓e_imul, ↓e_iand, ↓e_ior, ↓e_ixor, ↓e_ishl, ↓e_iushr, ↓e_idiv, ↓e_irem, ↓e_ineg, ↓e_i2l, ↓e_i2b, ↓e_i2s, ↓e_l2i, ↓e_land, ↓e_lor, ↓e_lshl, ↓e_lshr, ↓e_lushr, ↓e_lcmp, ↓e_dupi, ↓e_dupr, ↓e_popi, ↓e_dup2, ↓e_goto, ↓e_if, ↓e_icmp, ↓e_tsw, ↓e_lsw, ↓e_getf, ↓e_putf, ↓e_gets, ↓e_iald, ↓e_cald, ↓e_iast, ↓e_aald, ↓e_aast, ↓e_len, ↓e_copy, ↓e_abs, ↓e_max, ↓e_min, ↓e_iret, ↓e_aret, ↓e_vret, ↓e_is0, ↓e_is1, ↓e_is2, ↓e_is3, ↓e_is4, ↓e_iv1, ↓e_iv2, ↓e_iv3, ↓e_iv4, ↓e_iv5, ↓e_iv6, ↓rt_X1_pointOf, ↓reduceIte, Nat.reduceAdd, Nat.reduceEqDiff, ↓zcl0, ↓zclv, List.map_nil, List.sum_nil, List.map_cons, List.sum_cons, zcat, true_and, and_true, Nat.reduceLeDiff, Nat.reduceAdd, eq_self, forall_const, e_ok0, e_okss, e_ok1i, e_ok1r, e_ok1n, zl_2, zl_4, Int.reduceToNat, Int.reduceAdd, Int.reduceMul, Int.reduceSub, Int.reduceNeg, Int.reduceLT, Int.reduceLE, Int.reduceEq, not_false_eq_true, not_true_eq_false, false_implies, true_implies, implies_true, Int.reduceDiv, Int.reduceMod, zr8_zr, zr_zbo, z01_zbo, z01_0, z01_1, zbo_eq0, zup_eq, zup_o, zup_k, ne_eq, ↓ct_pofe_peng, ↓r_peng, ↓B_peng, ↓ct_pofe_psrv, ↓r_psrv, ↓B_psrv, ↓ct_pofe_pdrm, ↓r_pdrm, ↓B_pdrm, ↓ct_pofe_pfwd, ↓r_pfwd, ↓B_pfwd, ↓ct_pofe_dturned, ↓r_dturned, ↓B_dturned, ↓vD hb, ↓gD_0 hb, ↓gD_1 hb, ↓gD_2 hb, ↓gD_3 hb, ↓gD_4 hb, ↓gD_5 hb, ↓gD_6 hb, ↓gD_7 hb, ↓gD_8 hb, ↓gD_9 hb, ↓pD_5 hb, ↓pD_6 hb, ↓pD_7 hb, ↓pD_8 hb, ↓pD_9 hb, ↓lD_v hb, ↓sD_v hb, e8, e5, z8, z5, zm]
      repeat' (first | assumption | apply And.intro | intro _)
      all_goals first | (apply J96; omega) | exact zpost hC (by rw [if_pos (by omega)])
    · refine bs_X1_pointOf_101 hX ?_
      simp only [bk_X1_pointOf_0, k_X1_pointOf_0, bk_X1_pointOf_19, k_X1_pointOf_19, bk_X1_pointOf_56, k_X1_pointOf_56, bk_X1_pointOf_61, k_X1_pointOf_61, bk_X1_pointOf_67, k_X1_pointOf_67, bk_X1_pointOf_73, k_X1_pointOf_73, bk_X1_pointOf_96, k_X1_pointOf_96, bk_X1_pointOf_100, k_X1_pointOf_100, bk_X1_pointOf_101, k_X1_pointOf_101, bk_X1_pointOf_111, k_X1_pointOf_111, bk_X1_pointOf_127, k_X1_pointOf_127, bk_X1_pointOf_132, k_X1_pointOf_132, bk_X1_pointOf_133, k_X1_pointOf_133, ↓e_rk1, ↓e_rk0, ↓e_sk0, ↓e_sks, ↓e_ldi0, ↓e_ldis, ↓e_ldl0, ↓e_ldls, ↓e_lda0, ↓e_ldas, ↓e_ok0, ↓e_okss, ↓e_ok1i, ↓e_ok1r, ↓e_ok1n, ↓e_sti, ↓e_sta, ↓e_1, ↓e_2, ↓e_l1, ↓e_l2, ↓e_li, ↓e_sw0, ↓e_sws, ↓e_ceq, ↓e_cne, ↓e_clt, ↓e_cge, ↓e_cgt, ↓e_cle, ↓e_nil, ↓e_cons, ↓e_iconst, ↓e_bipush, ↓e_sipush, ↓e_ldc, ↓e_ldcw, ↓e_ldc2, ↓e_lconst, ↓e_iloadn, ↓e_iload, ↓e_lloadn, ↓e_lload, ↓e_aloadn, ↓e_aload, ↓e_istoren, ↓e_istore, ↓e_astoren, ↓e_astore, ↓e_add, ↓e_iinc, ↓e_iadd, ↓e_isub, ↓e_imul, ↓e_iand, ↓e_ior, ↓e_ixor, ↓e_ishl, ↓e_iushr, ↓e_idiv, ↓e_irem, ↓e_ineg, ↓e_i2l, ↓e_i2b, ↓e_i2s, ↓e_l2i, ↓e_land, ↓e_lor, ↓e_lshl, ↓e_lshr, ↓e_lushr, ↓e_lcmp, ↓e_dupi, ↓e_dupr, ↓e_popi, ↓e_dup2, ↓e_goto, ↓e_if, ↓e_icmp, ↓e_tsw, ↓e_lsw, ↓e_getf, ↓e_putf, ↓e_gets, ↓e_iald, ↓e_cald, ↓e_iast, ↓e_aald, ↓e_aast, ↓e_len, ↓e_copy, ↓e_abs, ↓e_max, ↓e_min, ↓e_iret, ↓e_aret, ↓e_vret, ↓e_is0, ↓e_is1, ↓e_is2, ↓e_is3, ↓e_is4, ↓e_iv1, ↓e_iv2, ↓e_iv3, ↓e_iv4, ↓e_iv5, ↓e_iv6, ↓rt_X1_pointOf, ↓reduceIte, Nat.reduceAdd, Nat.reduceEqDiff, ↓zcl0, ↓zclv, List.map_nil, List.sum_nil, List.map_cons, List.sum_cons, zcat, true_and, and_true, Nat.reduceLeDiff, Nat.reduceAdd, eq_self, forall_const, e_ok0, e_okss, e_ok1i, e_ok1r, e_ok1n, zl_2, zl_4, Int.reduceToNat, Int.reduceAdd, Int.reduceMul, Int.reduceSub, Int.reduceNeg, Int.reduceLT, Int.reduceLE, Int.reduceEq, not_false_eq_true, not_true_eq_false, false_implies, true_implies, implies_true, Int.reduceDiv, Int.reduceMod, zr8_zr, zr_zbo, z01_zbo, z01_0, z01_1, zbo_eq0, zup_eq, zup_o, zup_k, ne_eq, ↓ct_pofe_peng, ↓r_peng, ↓B_peng, ↓ct_pofe_psrv, ↓r_psrv, ↓B_psrv, ↓ct_pofe_pdrm, ↓r_pdrm, ↓B_pdrm, ↓ct_pofe_pfwd, ↓r_pfwd, ↓B_pfwd, ↓ct_pofe_dturned, ↓r_dturned, ↓B_dturned, ↓vD hb, ↓gD_0 hb, ↓gD_1 hb, ↓gD_2 hb, ↓gD_3 hb, ↓gD_4 hb, ↓gD_5 hb, ↓gD_6 hb, ↓gD_7 hb, ↓gD_8 hb, ↓gD_9 hb, ↓pD_5 hb, ↓pD_6 hb, ↓pD_7 hb, ↓pD_8 hb, ↓pD_9 hb, ↓lD_v hb, ↓sD_v hb]
      have dr := trn_rng (w := plain r9 dw) (q := if yr % 5 = m9 % 5 then 2 else 0) (plain_rng r9 dw).1
      exact ⟨hm, hh, cc, vv, r9, dw, la, yr, hb, L9, ey, hy, dr.1, dr.2, zpost hC (by rw [if_neg k1, if_neg k2, if_neg k3, if_neg k4, if_pos k5])⟩
    · rw [if_neg k1, if_neg k2, if_neg k3, if_neg k4, if_neg k5, if_pos k6] at hC
      have J127 : ¬ yr % 2 = 0 → X 127 [some (.inr (.inr (.inl g))), some (.inl e), some (.inl m9)] [] (zG, M) (0, 0) := by
        intro q
        refine bs_X1_pointOf_127 hX ?_
        simp only [bk_X1_pointOf_0, k_X1_pointOf_0, bk_X1_pointOf_19, k_X1_pointOf_19, bk_X1_pointOf_56, k_X1_pointOf_56, bk_X1_pointOf_61, k_X1_pointOf_61, bk_X1_pointOf_67, k_X1_pointOf_67, bk_X1_pointOf_73, k_X1_pointOf_73, bk_X1_pointOf_96, k_X1_pointOf_96, bk_X1_pointOf_100, k_X1_pointOf_100, bk_X1_pointOf_101, k_X1_pointOf_101, bk_X1_pointOf_111, k_X1_pointOf_111, bk_X1_pointOf_127, k_X1_pointOf_127, bk_X1_pointOf_132, k_X1_pointOf_132, bk_X1_pointOf_133, k_X1_pointOf_133, ↓e_rk1, ↓e_rk0, ↓e_sk0, ↓e_sks, ↓e_ldi0, ↓e_ldis, ↓e_ldl0, ↓e_ldls, ↓e_lda0, ↓e_ldas, ↓e_ok0, ↓e_okss, ↓e_ok1i, ↓e_ok1r, ↓e_ok1n, ↓e_sti, ↓e_sta, ↓e_1, ↓e_2, ↓e_l1, ↓e_l2, ↓e_li, ↓e_sw0, ↓e_sws, ↓e_ceq, ↓e_cne, ↓e_clt, ↓e_cge, ↓e_cgt, ↓e_cle, ↓e_nil, ↓e_cons, ↓e_iconst, ↓e_bipush, ↓e_sipush, ↓e_ldc, ↓e_ldcw, ↓e_ldc2, ↓e_lconst, ↓e_iloadn, ↓e_iload, ↓e_lloadn, ↓e_lload, ↓e_aloadn, ↓e_aload, ↓e_istoren, ↓e_istore, ↓e_astoren, ↓e_astore, ↓e_add, ↓e_iinc, ↓e_iadd, ↓e_isub, ↓e_imul, ↓e_iand, ↓e_ior, ↓e_ixor, ↓e_ishl, ↓e_iushr, ↓e_idiv, ↓e_irem, ↓e_ineg, ↓e_i2l, ↓e_i2b, ↓e_i2s, ↓e_l2i, ↓e_land, ↓e_lor, ↓e_lshl, ↓e_lshr, ↓e_lushr, ↓e_lcmp, ↓e_dupi, ↓e_dupr, ↓e_popi, ↓e_dup2, ↓e_goto, ↓e_if, ↓e_icmp, ↓e_tsw, ↓e_lsw, ↓e_getf, ↓e_putf, ↓e_gets, ↓e_iald, ↓e_cald, ↓e_iast, ↓e_aald, ↓e_aast, ↓e_len, ↓e_copy, ↓e_abs, ↓e_max, ↓e_min, ↓e_iret, ↓e_aret, ↓e_vret, ↓e_is0, ↓e_is1, ↓e_is2, ↓e_is3, ↓e_is4, ↓e_iv1, ↓e_iv2, ↓e_iv3, ↓e_iv4, ↓e_iv5, ↓e_iv6, ↓rt_X1_pointOf, ↓reduceIte, Nat.reduceAdd, Nat.reduceEqDiff, ↓zcl0, ↓zclv, List.map_nil, List.sum_nil, List.map_cons, List.sum_cons, zcat, true_and, and_true, Nat.reduceLeDiff, Nat.reduceAdd, eq_self, forall_const, e_ok0, e_okss, e_ok1i, e_ok1r, e_ok1n, zl_2, zl_4, Int.reduceToNat, Int.reduceAdd, Int.reduceMul, Int.reduceSub, Int.reduceNeg, Int.reduceLT, Int.reduceLE, Int.reduceEq, not_false_eq_true, not_true_eq_false, false_implies, true_implies, implies_true, Int.reduceDiv, Int.reduceMod, zr8_zr, zr_zbo, z01_zbo, z01_0, z01_1, zbo_eq0, zup_eq, zup_o, zup_k, ne_eq, ↓ct_pofe_peng, ↓r_peng, ↓B_peng, ↓ct_pofe_psrv, ↓r_psrv, ↓B_psrv, ↓ct_pofe_pdrm, ↓r_pdrm, ↓B_pdrm, ↓ct_pofe_pfwd, ↓r_pfwd, ↓B_pfwd, ↓ct_pofe_dturned, ↓r_dturned, ↓B_dturned, ↓vD hb, ↓gD_0 hb, ↓gD_1 hb, ↓gD_2 hb, ↓gD_3 hb, ↓gD_4 hb, ↓gD_5 hb, ↓gD_6 hb, ↓gD_7 hb, ↓gD_8 hb, ↓gD_9 hb, ↓pD_5 hb, ↓pD_6 hb, ↓pD_7 hb, ↓pD_8 hb, ↓pD_9 hb, ↓lD_v hb, ↓sD_v hb]
        exact ⟨hm, hh, cc, vv, r9, dw, la, yr, hb, L9, ey, hy, zpost hC (by rw [if_neg q])⟩
      refine bs_X1_pointOf_111 hX ?_
      simp only [bk_X1_pointOf_0, k_X1_pointOf_0, bk_X1_pointOf_19, k_X1_pointOf_19, bk_X1_pointOf_56, k_X1_pointOf_56, bk_X1_pointOf_61, k_X1_pointOf_61, bk_X1_pointOf_67, k_X1_pointOf_67, bk_X1_pointOf_73, k_X1_pointOf_73, bk_X1_pointOf_96, k_X1_pointOf_96, bk_X1_pointOf_100, k_X1_pointOf_100, bk_X1_pointOf_101, k_X1_pointOf_101, bk_X1_pointOf_111, k_X1_pointOf_111, bk_X1_pointOf_127, k_X1_pointOf_127, bk_X1_pointOf_132, k_X1_pointOf_132, bk_X1_pointOf_133, k_X1_pointOf_133, ↓e_rk1, ↓e_rk0, ↓e_sk0, ↓e_sks, ↓e_ldi0, ↓e_ldis, ↓e_ldl0, ↓e_ldls, ↓e_lda0, ↓e_ldas, ↓e_ok0, ↓e_okss, ↓e_ok1i, ↓e_ok1r, ↓e_ok1n, ↓e_sti, ↓e_sta, ↓e_1, ↓e_2, ↓e_l1, ↓e_l2, ↓e_li, ↓e_sw0, ↓e_sws, ↓e_ceq, ↓e_cne, ↓e_clt, ↓e_cge, ↓e_cgt, ↓e_cle, ↓e_nil, ↓e_cons, ↓e_iconst, ↓e_bipush, ↓e_sipush, ↓e_ldc, ↓e_ldcw, ↓e_ldc2, ↓e_lconst, ↓e_iloadn, ↓e_iload, ↓e_lloadn, ↓e_lload, ↓e_aloadn, ↓e_aload, ↓e_istoren, ↓e_istore, ↓e_astoren, ↓e_astore, ↓e_add, ↓e_iinc, ↓e_iadd, ↓e_isub, ↓e_imul, ↓e_iand, ↓e_ior, ↓e_ixor, ↓e_ishl, ↓e_iushr, ↓e_idiv, ↓e_irem, ↓e_ineg, ↓e_i2l, ↓e_i2b, ↓e_i2s, ↓e_l2i, ↓e_land, ↓e_lor, ↓e_lshl, ↓e_lshr, ↓e_lushr, ↓e_lcmp, ↓e_dupi, ↓e_dupr, ↓e_popi, ↓e_dup2, ↓e_goto, ↓e_if, ↓e_icmp, ↓e_tsw, ↓e_lsw, ↓e_getf, ↓e_putf, ↓e_gets, ↓e_iald, ↓e_cald, ↓e_iast, ↓e_aald, ↓e_aast, ↓e_len, ↓e_copy, ↓e_abs, ↓e_max, ↓e_min, ↓e_iret, ↓e_aret, ↓e_vret, ↓e_is0, ↓e_is1, ↓e_is2, ↓e_is3, ↓e_is4, ↓e_iv1, ↓e_iv2, ↓e_iv3, ↓e_iv4, ↓e_iv5, ↓e_iv6, ↓rt_X1_pointOf, ↓reduceIte, Nat.reduceAdd, Nat.reduceEqDiff, ↓zcl0, ↓zclv, List.map_nil, List.sum_nil, List.map_cons, List.sum_cons, zcat, true_and, and_true, Nat.reduceLeDiff, Nat.reduceAdd, eq_self, forall_const, e_ok0, e_okss, e_ok1i, e_ok1r, e_ok1n, zl_2, zl_4, Int.reduceToNat, Int.reduceAdd, Int.reduceMul, Int.reduceSub, Int.reduceNeg, Int.reduceLT, Int.reduceLE, Int.reduceEq, not_false_eq_true, not_true_eq_false, false_implies, true_implies, implies_true, Int.reduceDiv, Int.reduceMod, zr8_zr, zr_zbo, z01_zbo, z01_0, z01_1, zbo_eq0, zup_eq, zup_o, zup_k, ne_eq, ↓ct_pofe_peng, ↓r_peng, ↓B_peng, ↓ct_pofe_psrv, ↓r_psrv, ↓B_psrv, ↓ct_pofe_pdrm, ↓r_pdrm, ↓B_pdrm, ↓ct_pofe_pfwd, ↓r_pfwd, ↓B_pfwd, ↓ct_pofe_dturned, ↓r_dturned, ↓B_dturned, ↓vD hb, ↓gD_0 hb, ↓gD_1 hb, ↓gD_2 hb, ↓gD_3 hb, ↓gD_4 hb, ↓gD_5 hb, ↓gD_6 hb, ↓gD_7 hb, ↓gD_8 hb, ↓gD_9 hb, ↓pD_5 hb, ↓pD_6 hb, ↓pD_7 hb, ↓pD_8 hb, ↓pD_9 hb, ↓lD_v hb, ↓sD_v hb, ↓vH hbh, ↓gH_0 hbh, ↓gH_1 hbh, ↓gH_2 hbh, ↓gH_3 hbh, ↓gH_4 hbh, ↓gH_5 hbh, ↓gH_6 hbh, ↓gH_7 hbh, ↓gH_8 hbh, ↓gH_9 hbh, ↓pH_7 hbh, ↓pH_8 hbh, ↓pH_9 hbh, ↓lH_1 hbh, ↓sH_1 hbh, ↓lH_2 hbh, ↓sH_2 hbh, ↓lH_3 hbh, ↓sH_3 hbh, ↓lH_4 hbh, ↓sH_4 hbh, ↓lH_5 hbh, ↓sH_5 hbh, ↓lH_6 hbh, ↓sH_6 hbh, ↓lH_7 hbh, ↓sH_7 hbh, ey, zy, t1, z1]
      repeat' (first | assumption | apply And.intro | intro _)
      all_goals first | (apply J127; assumption) | exact zpost hC (by rw [if_pos (by assumption)])
    · refine bs_X1_pointOf_133 hX ?_
      simp only [bk_X1_pointOf_0, k_X1_pointOf_0, bk_X1_pointOf_19, k_X1_pointOf_19, bk_X1_pointOf_56, k_X1_pointOf_56, bk_X1_pointOf_61, k_X1_pointOf_61, bk_X1_pointOf_67, k_X1_pointOf_67, bk_X1_pointOf_73, k_X1_pointOf_73, bk_X1_pointOf_96, k_X1_pointOf_96, bk_X1_pointOf_100, k_X1_pointOf_100, bk_X1_pointOf_101, k_X1_pointOf_101, bk_X1_pointOf_111, k_X1_pointOf_111, bk_X1_pointOf_127, k_X1_pointOf_127, bk_X1_pointOf_132, k_X1_pointOf_132, bk_X1_pointOf_133, k_X1_pointOf_133, ↓e_rk1, ↓e_rk0, ↓e_sk0, ↓e_sks, ↓e_ldi0, ↓e_ldis, ↓e_ldl0, ↓e_ldls, ↓e_lda0, ↓e_ldas, ↓e_ok0, ↓e_okss, ↓e_ok1i, ↓e_ok1r, ↓e_ok1n, ↓e_sti, ↓e_sta, ↓e_1, ↓e_2, ↓e_l1, ↓e_l2, ↓e_li, ↓e_sw0, ↓e_sws, ↓e_ceq, ↓e_cne, ↓e_clt, ↓e_cge, ↓e_cgt, ↓e_cle, ↓e_nil, ↓e_cons, ↓e_iconst, ↓e_bipush, ↓e_sipush, ↓e_ldc, ↓e_ldcw, ↓e_ldc2, ↓e_lconst, ↓e_iloadn, ↓e_iload, ↓e_lloadn, ↓e_lload, ↓e_aloadn, ↓e_aload, ↓e_istoren, ↓e_istore, ↓e_astoren, ↓e_astore, ↓e_add, ↓e_iinc, ↓e_iadd, ↓e_isub, ↓e_imul, ↓e_iand, ↓e_ior, ↓e_ixor, ↓e_ishl, ↓e_iushr, ↓e_idiv, ↓e_irem, ↓e_ineg, ↓e_i2l, ↓e_i2b, ↓e_i2s, ↓e_l2i, ↓e_land, ↓e_lor, ↓e_lshl, ↓e_lshr, ↓e_lushr, ↓e_lcmp, ↓e_dupi, ↓e_dupr, ↓e_popi, ↓e_dup2, ↓e_goto, ↓e_if, ↓e_icmp, ↓e_tsw, ↓e_lsw, ↓e_getf, ↓e_putf, ↓e_gets, ↓e_iald, ↓e_cald, ↓e_iast, ↓e_aald, ↓e_aast, ↓e_len, ↓e_copy, ↓e_abs, ↓e_max, ↓e_min, ↓e_iret, ↓e_aret, ↓e_vret, ↓e_is0, ↓e_is1, ↓e_is2, ↓e_is3, ↓e_is4, ↓e_iv1, ↓e_iv2, ↓e_iv3, ↓e_iv4, ↓e_iv5, ↓e_iv6, ↓rt_X1_pointOf, ↓reduceIte, Nat.reduceAdd, Nat.reduceEqDiff, ↓zcl0, ↓zclv, List.map_nil, List.sum_nil, List.map_cons, List.sum_cons, zcat, true_and, and_true, Nat.reduceLeDiff, Nat.reduceAdd, eq_self, forall_const, e_ok0, e_okss, e_ok1i, e_ok1r, e_ok1n, zl_2, zl_4, Int.reduceToNat, Int.reduceAdd, Int.reduceMul, Int.reduceSub, Int.reduceNeg, Int.reduceLT, Int.reduceLE, Int.reduceEq, not_false_eq_true, not_true_eq_false, false_implies, true_implies, implies_true, Int.reduceDiv, Int.reduceMod, zr8_zr, zr_zbo, z01_zbo, z01_0, z01_1, zbo_eq0, zup_eq, zup_o, zup_k, ne_eq, ↓ct_pofe_peng, ↓r_peng, ↓B_peng, ↓ct_pofe_psrv, ↓r_psrv, ↓B_psrv, ↓ct_pofe_pdrm, ↓r_pdrm, ↓B_pdrm, ↓ct_pofe_pfwd, ↓r_pfwd, ↓B_pfwd, ↓ct_pofe_dturned, ↓r_dturned, ↓B_dturned, ↓vD hb, ↓gD_0 hb, ↓gD_1 hb, ↓gD_2 hb, ↓gD_3 hb, ↓gD_4 hb, ↓gD_5 hb, ↓gD_6 hb, ↓gD_7 hb, ↓gD_8 hb, ↓gD_9 hb, ↓pD_5 hb, ↓pD_6 hb, ↓pD_7 hb, ↓pD_8 hb, ↓pD_9 hb, ↓lD_v hb, ↓sD_v hb]
      exact ⟨hh, cc, vv, r9, dw, la, hb, L9, zpost hC (by rw [if_neg k1, if_neg k2, if_neg k3, if_neg k4, if_neg k5, if_neg k6])⟩
def B_eofe (g : Nat) (k : Int) (m : Int) (M : Nat → Nat → Int) (post : Option ZV → (Nat → Nat → Int) → Prop) : Prop := (0 ≤ k ∧ k ≤ 6) ∧ (0 ≤ m ∧ m ≤ 9) ∧ ∃ (h c v : Nat) (r dw la yr : Int), digb g h c v ∧ LSt g M r dw la ∧ M h 9 = yr ∧ (0 ≤ yr ∧ yr ≤ 20000) ∧ post (some (.inl (eark k m yr (sz r + sz dw)))) M
def C_eofe : ZC := fun as h post => match as with
  | [.inr (.inr (.inl g)), .inl k, .inl m] => h.1 = zG ∧ B_eofe g k m h.2 (fun v M => post v (zG, M))
  | _ => False
theorem r_eofe {g : Nat} {k : Int} {m : Int} {M : Nat → Nat → Int} {post : Option ZV → ZH → Prop} : C_eofe [.inr (.inr (.inl g)), .inl k, .inl m] (zG, M) post = B_eofe g k m M (fun v M => post v (zG, M)) := by show (zG = zG ∧ _) = _; simp
def ct_eofe : Nat → ZC := fun n => fun _ _ _ => False
theorem c_eofe {E : ZE} {d : Nat} (hd : 1 ≤ d) : zMet E d mX1_earsOf C_eofe := by
  refine zmet_of (o := 1) (ini := false) (CT := ct_eofe) gd_X1_earsOf rfl (fun h => by cases h) (by omega) ?_ ?_
  · intro n as h post hh
    unfold ct_eofe at hh
    exact hh.elim
  intro as h post hC
  match as, hC with
  | [.inr (.inr (.inl g)), .inl k, .inl m], hC =>
    refine ⟨Nat.le_of_ble_eq_true rfl, fun X hX => bs_X1_earsOf_0 hX ?_⟩
    obtain ⟨G, M⟩ := h
    obtain ⟨hG, hC⟩ := hC
    dsimp only at hG
    subst hG
    simp only [B_eofe] at hC
    show bk_X1_earsOf_0 E ct_eofe X _ [some (.inr (.inr (.inl g))), some (.inl k), some (.inl m)] [] (zG, M) (0, 0)
    obtain ⟨hk, hm, hh, cc, vv, r9, dw, la, yr, hb, L, ey, hy, hC⟩ := hC
    have hbh := hD hb
    have zk : zr k = k := zr_of (by omega) (by omega)
    have zm : zr m = m := zr_of (by omega) (by omega)
    have zy : zr yr = yr := zr_of (by omega) (by omega)
    obtain ⟨b1, b2, b3, e5, e6, e7, e8, e9⟩ := L
    have s1 := sz_le b1.1 b1.2
    have s2 := sz_le b2.1 b2.2
    have z8 : zr (sz r9 + sz dw) = sz r9 + sz dw := zr_of (by omega) (by omega)
    have t1 : yr.tmod 2 = yr % 2 := tm_of (by omega)
    have z1 : zr (yr % 2) = yr % 2 := zr_of (by omega) (by omega)
    have t3 : m.tdiv 3 = m / 3 := td_of (by omega)
    simp only [bk_X1_earsOf_0, k_X1_earsOf_0, bk_X1_earsOf_36, k_X1_earsOf_36, bk_X1_earsOf_42, k_X1_earsOf_42, bk_X1_earsOf_44, k_X1_earsOf_44, bk_X1_earsOf_46, k_X1_earsOf_46, bk_X1_earsOf_67, k_X1_earsOf_67, bk_X1_earsOf_68, k_X1_earsOf_68, bk_X1_earsOf_70, k_X1_earsOf_70, bk_X1_earsOf_82, k_X1_earsOf_82, bk_X1_earsOf_83, k_X1_earsOf_83, bk_X1_earsOf_84, k_X1_earsOf_84, ↓e_rk1, ↓e_rk0, ↓e_sk0, ↓e_sks, ↓e_ldi0, ↓e_ldis, ↓e_ldl0, ↓e_ldls, ↓e_lda0, ↓e_ldas, ↓e_ok0, ↓e_okss, ↓e_ok1i, ↓e_ok1r, ↓e_ok1n, ↓e_sti, ↓e_sta, ↓e_1, ↓e_2, ↓e_l1, ↓e_l2, ↓e_li, ↓e_sw0, ↓e_sws, ↓e_ceq, ↓e_cne, ↓e_clt, ↓e_cge, ↓e_cgt, ↓e_cle, ↓e_nil, ↓e_cons, ↓e_iconst, ↓e_bipush, ↓e_sipush, ↓e_ldc, ↓e_ldcw, ↓e_ldc2, ↓e_lconst, ↓e_iloadn, ↓e_iload, ↓e_lloadn, ↓e_lload, ↓e_aloadn, ↓e_aload, ↓e_istoren, ↓e_istore, ↓e_astoren, ↓e_astore, ↓e_add, ↓e_iinc, ↓e_iadd, ↓e_isub, ↓e_imul, ↓e_iand, ↓e_ior, ↓e_ixor, ↓e_ishl, ↓e_iushr, ↓e_idiv, ↓e_irem, ↓e_ineg, ↓e_i2l, ↓e_i2b, ↓e_i2s, ↓e_l2i, ↓e_land, ↓e_lor, ↓e_lshl, ↓e_lshr, ↓e_lushr, ↓e_lcmp, ↓e_dupi, ↓e_dupr, ↓e_popi, ↓e_dup2, ↓e_goto, ↓e_if, ↓e_icmp, ↓e_tsw, ↓e_lsw, ↓e_getf, ↓e_putf, ↓e_gets, ↓e_iald, ↓e_cald, ↓e_iast, ↓e_aald, ↓e_aast, ↓e_len, ↓e_copy, ↓e_abs, ↓e_max, ↓e_min, ↓e_iret, ↓e_aret, ↓e_vret, ↓e_is0, ↓e_is1, ↓e_is2, ↓e_is3, ↓e_is4, ↓e_iv1, ↓e_iv2, ↓e_iv3, ↓e_iv4, ↓e_iv5, ↓e_iv6, ↓rt_X1_earsOf, ↓reduceIte, Nat.reduceAdd, Nat.reduceEqDiff, ↓zcl0, ↓zclv, List.map_nil, List.sum_nil, List.map_cons, List.sum_cons, zcat, true_and, and_true, Nat.reduceLeDiff, Nat.reduceAdd, eq_self, forall_const, e_ok0, e_okss, e_ok1i, e_ok1r, e_ok1n, zl_0, zl_1, zl_2, zl_3, zl_4, Int.reduceToNat, Int.reduceAdd, Int.reduceMul, Int.reduceSub, Int.reduceNeg, Int.reduceLT, Int.reduceLE, Int.reduceEq, not_false_eq_true, not_true_eq_false, false_implies, true_implies, implies_true, Int.reduceDiv, Int.reduceMod, zr8_zr, zr_zbo, z01_zbo, z01_0, z01_1, zbo_eq0, zup_eq, zup_o, zup_k, ne_eq, ↓vD hb, ↓gD_0 hb, ↓gD_1 hb, ↓gD_2 hb, ↓gD_3 hb, ↓gD_4 hb, ↓gD_5 hb, ↓gD_6 hb, ↓gD_7 hb, ↓gD_8 hb, ↓gD_9 hb, ↓pD_5 hb, ↓pD_6 hb, ↓pD_7 hb, ↓pD_8 hb, ↓pD_9 hb, ↓lD_v hb, ↓sD_v hb, zk]
    unfold eark at hC
    refine ⟨fun k1 => ?_, fun k1 => ⟨fun k2 => ?_, fun k2 => ⟨fun k3 => ?_, fun k3 => ⟨fun k4 => ?_, fun k4 => ⟨fun k5 => ?_, fun k5 => ?_⟩⟩⟩⟩⟩
    · refine bs_X1_earsOf_36 hX ?_
      simp only [bk_X1_earsOf_0, k_X1_earsOf_0, bk_X1_earsOf_36, k_X1_earsOf_36, bk_X1_earsOf_42, k_X1_earsOf_42, bk_X1_earsOf_44, k_X1_earsOf_44, bk_X1_earsOf_46, k_X1_earsOf_46, bk_X1_earsOf_67, k_X1_earsOf_67, bk_X1_earsOf_68, k_X1_earsOf_68, bk_X1_earsOf_70, k_X1_earsOf_70, bk_X1_earsOf_82, k_X1_earsOf_82, bk_X1_earsOf_83, k_X1_earsOf_83, bk_X1_earsOf_84, k_X1_earsOf_84, ↓e_rk1, ↓e_rk0, ↓e_sk0, ↓e_sks, ↓e_ldi0, ↓e_ldis, ↓e_ldl0, ↓e_ldls, ↓e_lda0, ↓e_ldas, ↓e_ok0, ↓e_okss, ↓e_ok1i, ↓e_ok1r, ↓e_ok1n, ↓e_sti, ↓e_sta, ↓e_1, ↓e_2, ↓e_l1, ↓e_l2, ↓e_li, ↓e_sw0, ↓e_sws, ↓e_ceq, ↓e_cne, ↓e_clt, ↓e_cge, ↓e_cgt, ↓e_cle, ↓e_nil, ↓e_cons, ↓e_iconst, ↓e_bipush, ↓e_sipush, ↓e_ldc, ↓e_ldcw, ↓e_ldc2, ↓e_lconst, ↓e_iloadn, ↓e_iload, ↓e_lloadn, ↓e_lload, ↓e_aloadn, ↓e_aload, ↓e_istoren, ↓e_istore, ↓e_astoren, ↓e_astore, ↓e_add, ↓e_iinc, ↓e_iadd, ↓e_isub, ↓e_imul, ↓e_iand, ↓e_ior, ↓e_ixor, ↓e_ishl, ↓e_iushr, ↓e_idiv, ↓e_irem, ↓e_ineg, ↓e_i2l, ↓e_i2b, ↓e_i2s, ↓e_l2i, ↓e_land, ↓e_lor, ↓e_lshl, ↓e_lshr, ↓e_lushr, ↓e_lcmp, ↓e_dupi, ↓e_dupr, ↓e_popi, ↓e_dup2, ↓e_goto, ↓e_if, ↓e_icmp, ↓e_tsw, ↓e_lsw, ↓e_getf, ↓e_putf, ↓e_gets, ↓e_iald, ↓e_cald, ↓e_iast, ↓e_aald, ↓e_aast, ↓e_len, ↓e_copy, ↓e_abs, ↓e_max, ↓e_min, ↓e_iret, ↓e_aret, ↓e_vret, ↓e_is0, ↓e_is1, ↓e_is2, ↓e_is3, ↓e_is4, ↓e_iv1, ↓e_iv2, ↓e_iv3, ↓e_iv4, ↓e_iv5, ↓e_iv6, ↓rt_X1_earsOf, ↓reduceIte, Nat.reduceAdd, Nat.reduceEqDiff, ↓zcl0, ↓zclv, List.map_nil, List.sum_nil, List.map_cons, List.sum_cons, zcat, true_and, and_true, Nat.reduceLeDiff, Nat.reduceAdd, eq_self, forall_const, e_ok0, e_okss, e_ok1i, e_ok1r, e_ok1n, zl_0, zl_1, zl_2, zl_3, zl_4, Int.reduceToNat, Int.reduceAdd, Int.reduceMul, Int.reduceSub, Int.reduceNeg, Int.reduceLT, Int.reduceLE, Int.reduceEq, not_false_eq_true, not_true_eq_false, false_implies, true_implies, implies_true, Int.reduceDiv, Int.reduceMod, zr8_zr, zr_zbo, z01_zbo, z01_0, z01_1, zbo_eq0, zup_eq, zup_o, zup_k, ne_eq, ↓vD hb, ↓gD_0 hb, ↓gD_1 hb, ↓gD_2 hb, ↓gD_3 hb, ↓gD_4 hb, ↓gD_5 hb, ↓gD_6 hb, ↓gD_7 hb, ↓gD_8 hb, ↓gD_9 hb, ↓pD_5 hb, ↓pD_6 hb, ↓pD_7 hb, ↓pD_8 hb, ↓pD_9 hb, ↓lD_v hb, ↓sD_v hb, zm, t3]
      exact zpost hC (by rw [if_pos k1])
    · refine bs_X1_earsOf_42 hX ?_
      simp only [bk_X1_earsOf_0, k_X1_earsOf_0, bk_X1_earsOf_36, k_X1_earsOf_36, bk_X1_earsOf_42, k_X1_earsOf_42, bk_X1_earsOf_44, k_X1_earsOf_44, bk_X1_earsOf_46, k_X1_earsOf_46, bk_X1_earsOf_67, k_X1_earsOf_67, bk_X1_earsOf_68, k_X1_earsOf_68, bk_X1_earsOf_70, k_X1_earsOf_70, bk_X1_earsOf_82, k_X1_earsOf_82, bk_X1_earsOf_83, k_X1_earsOf_83, bk_X1_earsOf_84, k_X1_earsOf_84, ↓e_rk1, ↓e_rk0, ↓e_sk0, ↓e_sks, ↓e_ldi0, ↓e_ldis, ↓e_ldl0, ↓e_ldls, ↓e_lda0, ↓e_ldas, ↓e_ok0, ↓e_okss, ↓e_ok1i, ↓e_ok1r, ↓e_ok1n, ↓e_sti, ↓e_sta, ↓e_1, ↓e_2, ↓e_l1, ↓e_l2, ↓e_li, ↓e_sw0, ↓e_sws, ↓e_ceq, ↓e_cne, ↓e_clt, ↓e_cge, ↓e_cgt, ↓e_cle, ↓e_nil, ↓e_cons, ↓e_iconst, ↓e_bipush, ↓e_sipush, ↓e_ldc, ↓e_ldcw, ↓e_ldc2, ↓e_lconst, ↓e_iloadn, ↓e_iload, ↓e_lloadn, ↓e_lload, ↓e_aloadn, ↓e_aload, ↓e_istoren, ↓e_istore, ↓e_astoren, ↓e_astore, ↓e_add, ↓e_iinc, ↓e_iadd, ↓e_isub, ↓e_imul, ↓e_iand, ↓e_ior, ↓e_ixor, ↓e_ishl, ↓e_iushr, ↓e_idiv, ↓e_irem, ↓e_ineg, ↓e_i2l, ↓e_i2b, ↓e_i2s, ↓e_l2i, ↓e_land, ↓e_lor, ↓e_lshl, ↓e_lshr, ↓e_lushr, ↓e_lcmp, ↓e_dupi, ↓e_dupr, ↓e_popi, ↓e_dup2, ↓e_goto, ↓e_if, ↓e_icmp, ↓e_tsw, ↓e_lsw, ↓e_getf, ↓e_putf, ↓e_gets, ↓e_iald, ↓e_cald, ↓e_iast, ↓e_aald, ↓e_aast, ↓e_len, ↓e_copy, ↓e_abs, ↓e_max, ↓e_min, ↓e_iret, ↓e_aret, ↓e_vret, ↓e_is0, ↓e_is1, ↓e_is2, ↓e_is3, ↓e_is4, ↓e_iv1, ↓e_iv2, ↓e_iv3, ↓e_iv4, ↓e_iv5, ↓e_iv6, ↓rt_X1_earsOf, ↓reduceIte, Nat.reduceAdd, Nat.reduceEqDiff, ↓zcl0, ↓zclv, List.map_nil, List.sum_nil, List.map_cons, List.sum_cons, zcat, true_and, and_true, Nat.reduceLeDiff, Nat.reduceAdd, eq_self, forall_const, e_ok0, e_okss, e_ok1i, e_ok1r, e_ok1n, zl_0, zl_1, zl_2, zl_3, zl_4, Int.reduceToNat, Int.reduceAdd, Int.reduceMul, Int.reduceSub, Int.reduceNeg, Int.reduceLT, Int.reduceLE, Int.reduceEq, not_false_eq_true, not_true_eq_false, false_implies, true_implies, implies_true, Int.reduceDiv, Int.reduceMod, zr8_zr, zr_zbo, z01_zbo, z01_0, z01_1, zbo_eq0, zup_eq, zup_o, zup_k, ne_eq, ↓vD hb, ↓gD_0 hb, ↓gD_1 hb, ↓gD_2 hb, ↓gD_3 hb, ↓gD_4 hb, ↓gD_5 hb, ↓gD_6 hb, ↓gD_7 hb, ↓gD_8 hb, ↓gD_9 hb, ↓pD_5 hb, ↓pD_6 hb, ↓pD_7 hb, ↓pD_8 hb, ↓pD_9 hb, ↓lD_v hb, ↓sD_v hb]
      exact zpost hC (by rw [if_neg k1, if_pos k2])
    · refine bs_X1_earsOf_44 hX ?_
      simp only [bk_X1_earsOf_0, k_X1_earsOf_0, bk_X1_earsOf_36, k_X1_earsOf_36, bk_X1_earsOf_42, k_X1_earsOf_42, bk_X1_earsOf_44, k_X1_earsOf_44, bk_X1_earsOf_46, k_X1_earsOf_46, bk_X1_earsOf_67, k_X1_earsOf_67, bk_X1_earsOf_68, k_X1_earsOf_68, bk_X1_earsOf_70, k_X1_earsOf_70, bk_X1_earsOf_82, k_X1_earsOf_82, bk_X1_earsOf_83, k_X1_earsOf_83, bk_X1_earsOf_84, k_X1_earsOf_84, ↓e_rk1, ↓e_rk0, ↓e_sk0, ↓e_sks, ↓e_ldi0, ↓e_ldis, ↓e_ldl0, ↓e_ldls, ↓e_lda0, ↓e_ldas, ↓e_ok0, ↓e_okss, ↓e_ok1i, ↓e_ok1r, ↓e_ok1n, ↓e_sti, ↓e_sta, ↓e_1, ↓e_2, ↓e_l1, ↓e_l2, ↓e_li, ↓e_sw0, ↓e_sws, ↓e_ceq, ↓e_cne, ↓e_clt, ↓e_cge, ↓e_cgt, ↓e_cle, ↓e_nil, ↓e_cons, ↓e_iconst, ↓e_bipush, ↓e_sipush, ↓e_ldc, ↓e_ldcw, ↓e_ldc2, ↓e_lconst, ↓e_iloadn, ↓e_iload, ↓e_lloadn, ↓e_lload, ↓e_aloadn, ↓e_aload, ↓e_istoren, ↓e_istore, ↓e_astoren, ↓e_astore, ↓e_add, ↓e_iinc, ↓e_iadd, ↓e_isub, ↓e_imul, ↓e_iand, ↓e_ior, ↓e_ixor, ↓e_ishl, ↓e_iushr, ↓e_idiv, ↓e_irem, ↓e_ineg, ↓e_i2l, ↓e_i2b, ↓e_i2s, ↓e_l2i, ↓e_land, ↓e_lor, ↓e_lshl, ↓e_lshr, ↓e_lushr, ↓e_lcmp, ↓e_dupi, ↓e_dupr, ↓e_popi, ↓e_dup2, ↓e_goto, ↓e_if, ↓e_icmp, ↓e_tsw, ↓e_lsw, ↓e_getf, ↓e_putf, ↓e_gets, ↓e_iald, ↓e_cald, ↓e_iast, ↓e_aald, ↓e_aast, ↓e_len, ↓e_copy, ↓e_abs, ↓e_max, ↓e_min, ↓e_iret, ↓e_aret, ↓e_vret, ↓e_is0, ↓e_is1, ↓e_is2, ↓e_is3, ↓e_is4, ↓e_iv1, ↓e_iv2, ↓e_iv3, ↓e_iv4, ↓e_iv5, ↓e_iv6, ↓rt_X1_earsOf, ↓reduceIte, Nat.reduceAdd, Nat.reduceEqDiff, ↓zcl0, ↓zclv, List.map_nil, List.sum_nil, List.map_cons, List.sum_cons, zcat, true_and, and_true, Nat.reduceLeDiff, Nat.reduceAdd, eq_self, forall_const, e_ok0, e_okss, e_ok1i, e_ok1r, e_ok1n, zl_0, zl_1, zl_2, zl_3, zl_4, Int.reduceToNat, Int.reduceAdd, Int.reduceMul, Int.reduceSub, Int.reduceNeg, Int.reduceLT, Int.reduceLE, Int.reduceEq, not_false_eq_true, not_true_eq_false, false_implies, true_implies, implies_true, Int.reduceDiv, Int.reduceMod, zr8_zr, zr_zbo, z01_zbo, z01_0, z01_1, zbo_eq0, zup_eq, zup_o, zup_k, ne_eq, ↓vD hb, ↓gD_0 hb, ↓gD_1 hb, ↓gD_2 hb, ↓gD_3 hb, ↓gD_4 hb, ↓gD_5 hb, ↓gD_6 hb, ↓gD_7 hb, ↓gD_8 hb, ↓gD_9 hb, ↓pD_5 hb, ↓pD_6 hb, ↓pD_7 hb, ↓pD_8 hb, ↓pD_9 hb, ↓lD_v hb, ↓sD_v hb]
      exact zpost hC (by rw [if_neg k1, if_neg k2, if_pos k3])
    · rw [if_neg k1, if_neg k2, if_neg k3, if_pos k4] at hC
      refine bs_X1_earsOf_46 hX ?_
      simp only [bk_X1_earsOf_0, k_X1_earsOf_0, bk_X1_earsOf_36, k_X1_earsOf_36, bk_X1_earsOf_42, k_X1_earsOf_42, bk_X1_earsOf_44, k_X1_earsOf_44, bk_X1_earsOf_46, k_X1_earsOf_46, bk_X1_earsOf_67, k_X1_earsOf_67, bk_X1_earsOf_68, k_X1_earsOf_68, bk_X1_earsOf_70, k_X1_earsOf_70, bk_X1_earsOf_82, k_X1_earsOf_82, bk_X1_earsOf_83, k_X1_earsOf_83, bk_X1_earsOf_84, k_X1_earsOf_84, ↓e_rk1, ↓e_rk0, ↓e_sk0, ↓e_sks, ↓e_ldi0, ↓e_ldis, ↓e_ldl0, ↓e_ldls, ↓e_lda0, ↓e_ldas, ↓e_ok0, ↓e_okss, ↓e_ok1i, ↓e_ok1r, ↓e_ok1n, ↓e_sti, ↓e_sta, ↓e_1, ↓e_2, ↓e_l1, ↓e_l2, ↓e_li, ↓e_sw0, ↓e_sws, ↓e_ceq, ↓e_cne, ↓e_clt, ↓e_cge, ↓e_cgt, ↓e_cle, ↓e_nil, ↓e_cons, ↓e_iconst, ↓e_bipush, ↓e_sipush, ↓e_ldc, ↓e_ldcw, ↓e_ldc2, ↓e_lconst, ↓e_iloadn, ↓e_iload, ↓e_lloadn, ↓e_lload, ↓e_aloadn, ↓e_aload, ↓e_istoren, ↓e_istore, ↓e_astoren, ↓e_astore, ↓e_add, ↓e_iinc, ↓e_iadd, ↓e_isub, ↓e_imul, ↓e_iand, ↓e_ior, ↓e_ixor, ↓e_ishl, ↓e_iushr, ↓e_idiv, ↓e_irem, ↓e_ineg, ↓e_i2l, ↓e_i2b, ↓e_i2s, ↓e_l2i, ↓e_land, ↓e_lor, ↓e_lshl, ↓e_lshr, ↓e_lushr, ↓e_lcmp, ↓e_dupi, ↓e_dupr, ↓e_popi, ↓e_dup2, ↓e_goto, ↓e_if, ↓e_icmp, ↓e_tsw, ↓e_lsw, ↓e_getf, ↓e_putf, ↓e_gets, ↓e_iald, ↓e_cald, ↓e_iast, ↓e_aald, ↓e_aast, ↓e_len, ↓e_copy, ↓e_abs, ↓e_max, ↓e_min, ↓e_iret, ↓e_aret, ↓e_vret, ↓e_is0, ↓e_is1, ↓e_is2, ↓e_is3, ↓e_is4, ↓e_iv1, ↓e_iv2, ↓e_iv3, ↓e_iv4, ↓e_iv5, ↓e_iv6, ↓rt_X1_earsOf, ↓reduceIte, Nat.reduceAdd, Nat.reduceEqDiff, ↓zcl0, ↓zclv, List.map_nil, List.sum_nil, List.map_cons, List.sum_cons, zcat, true_and, and_true, Nat.reduceLeDiff, Nat.reduceAdd, eq_self, forall_const, e_ok0, e_okss, e_ok1i, e_ok1r, e_ok1n, zl_0, zl_1, zl_2, zl_3, zl_4, Int.reduceToNat, Int.reduceAdd, Int.reduceMul, Int.reduceSub, Int.reduceNeg, Int.reduceLT, Int.reduceLE, Int.reduceEq, not_false_eq_true, not_true_eq_false, false_implies, true_implies, implies_true, Int.reduceDiv, Int.reduceMod, zr8_zr, zr_zbo, z01_zbo, z01_0, z01_1, zbo_eq0, zup_eq, zup_o, zup_k, ne_eq, ↓vD hb, ↓gD_0 hb, ↓gD_1 hb, ↓gD_2 hb, ↓gD_3 hb, ↓gD_4 hb, ↓gD_5 hb, ↓gD_6 hb, ↓gD_7 hb, ↓gD_8 hb, ↓gD_9 hb, ↓pD_5 hb, ↓pD_6 hb, ↓pD_7 hb, ↓pD_8 hb, ↓pD_9 hb, ↓lD_v hb, ↓sD_v hb, ↓vH hbh, ↓gH_0 hbh, ↓gH_1 hbh, ↓gH_2 hbh, ↓gH_3 hbh, ↓gH_4 hbh, ↓gH_5 hbh, ↓gH_6 hbh, ↓gH_7 hbh, ↓gH_8 hbh, ↓gH_9 hbh, ↓pH_7 hbh, ↓pH_8 hbh, ↓pH_9 hbh, ↓lH_1 hbh, ↓sH_1 hbh, ↓lH_2 hbh, ↓sH_2 hbh, ↓lH_3 hbh, ↓sH_3 hbh, ↓lH_4 hbh, ↓sH_4 hbh, ↓lH_5 hbh, ↓sH_5 hbh, ↓lH_6 hbh, ↓sH_6 hbh, ↓lH_7 hbh, ↓sH_7 hbh, zm, t3, ey, zy, t1, z1]
      repeat' (first | assumption | apply And.intro | intro _)
      all_goals first | exact zpost hC (by rw [if_pos (by assumption)]) | exact zpost hC (by rw [if_neg (by assumption)])
    · rw [if_neg k1, if_neg k2, if_neg k3, if_neg k4, if_pos k5] at hC
      refine bs_X1_earsOf_70 hX ?_
      simp only [bk_X1_earsOf_0, k_X1_earsOf_0, bk_X1_earsOf_36, k_X1_earsOf_36, bk_X1_earsOf_42, k_X1_earsOf_42, bk_X1_earsOf_44, k_X1_earsOf_44, bk_X1_earsOf_46, k_X1_earsOf_46, bk_X1_earsOf_67, k_X1_earsOf_67, bk_X1_earsOf_68, k_X1_earsOf_68, bk_X1_earsOf_70, k_X1_earsOf_70, bk_X1_earsOf_82, k_X1_earsOf_82, bk_X1_earsOf_83, k_X1_earsOf_83, bk_X1_earsOf_84, k_X1_earsOf_84, ↓e_rk1, ↓e_rk0, ↓e_sk0, ↓e_sks, ↓e_ldi0, ↓e_ldis, ↓e_ldl0, ↓e_ldls, ↓e_lda0, ↓e_ldas, ↓e_ok0, ↓e_okss, ↓e_ok1i, ↓e_ok1r, ↓e_ok1n, ↓e_sti, ↓e_sta, ↓e_1, ↓e_2, ↓e_l1, ↓e_l2, ↓e_li, ↓e_sw0, ↓e_sws, ↓e_ceq, ↓e_cne, ↓e_clt, ↓e_cge, ↓e_cgt, ↓e_cle, ↓e_nil, ↓e_cons, ↓e_iconst, ↓e_bipush, ↓e_sipush, ↓e_ldc, ↓e_ldcw, ↓e_ldc2, ↓e_lconst, ↓e_iloadn, ↓e_iload, ↓e_lloadn, ↓e_lload, ↓e_aloadn, ↓e_aload, ↓e_istoren, ↓e_istore, ↓e_astoren, ↓e_astore, ↓e_add, ↓e_iinc, ↓e_iadd, ↓e_isub, ↓e_imul, ↓e_iand, ↓e_ior, ↓e_ixor, ↓e_ishl, ↓e_iushr, ↓e_idiv, ↓e_irem, ↓e_ineg, ↓e_i2l, ↓e_i2b, ↓e_i2s, ↓e_l2i, ↓e_land, ↓e_lor, ↓e_lshl, ↓e_lshr, ↓e_lushr, ↓e_lcmp, ↓e_dupi, ↓e_dupr, ↓e_popi, ↓e_dup2, ↓e_goto, ↓e_if, ↓e_icmp, ↓e_tsw, ↓e_lsw, ↓e_getf, ↓e_putf, ↓e_gets, ↓e_iald, ↓e_cald, ↓e_iast, ↓e_aald, ↓e_aast, ↓e_len, ↓e_copy, ↓e_abs, ↓e_max, ↓e_min, ↓e_iret, ↓e_aret, ↓e_vret, ↓e_is0, ↓e_is1, ↓e_is2, ↓e_is3, ↓e_is4, ↓e_iv1, ↓e_iv2, ↓e_iv3, ↓e_iv4, ↓e_iv5, ↓e_iv6, ↓rt_X1_earsOf, ↓reduceIte, Nat.reduceAdd, Nat.reduceEqDiff, ↓zcl0, ↓zclv, List.map_nil, List.sum_nil, List.map_cons, List.sum_cons, zcat, true_and, and_true, Nat.reduceLeDiff, Nat.reduceAdd, eq_self, forall_const, e_ok0, e_okss, e_ok1i, e_ok1r, e_ok1n, zl_0, zl_1, zl_2, zl_3, zl_4, Int.reduceToNat, Int.reduceAdd, Int.reduceMul, Int.reduceSub, Int.reduceNeg, Int.reduceLT, Int.reduceLE, Int.reduceEq, not_false_eq_true, not_true_eq_false, false_implies, true_implies, implies_true, Int.reduceDiv, Int.reduceMod, zr8_zr, zr_zbo, z01_zbo, z01_0, z01_1, zbo_eq0, zup_eq, zup_o, zup_k, ne_eq, ↓vD hb, ↓gD_0 hb, ↓gD_1 hb, ↓gD_2 hb, ↓gD_3 hb, ↓gD_4 hb, ↓gD_5 hb, ↓gD_6 hb, ↓gD_7 hb, ↓gD_8 hb, ↓gD_9 hb, ↓pD_5 hb, ↓pD_6 hb, ↓pD_7 hb, ↓pD_8 hb, ↓pD_9 hb, ↓lD_v hb, ↓sD_v hb, zm, e8, z8]
      repeat' (first | assumption | apply And.intro | intro _)
      all_goals first | exact zpost hC (by rw [if_pos (by assumption)]) | exact zpost hC (by rw [if_neg (by assumption)])
    · refine bs_X1_earsOf_84 hX ?_
      simp only [bk_X1_earsOf_0, k_X1_earsOf_0, bk_X1_earsOf_36, k_X1_earsOf_36, bk_X1_earsOf_42, k_X1_earsOf_42, bk_X1_earsOf_44, k_X1_earsOf_44, bk_X1_earsOf_46, k_X1_earsOf_46, bk_X1_earsOf_67, k_X1_earsOf_67, bk_X1_earsOf_68, k_X1_earsOf_68, bk_X1_earsOf_70, k_X1_earsOf_70, bk_X1_earsOf_82, k_X1_earsOf_82, bk_X1_earsOf_83, k_X1_earsOf_83, bk_X1_earsOf_84, k_X1_earsOf_84, ↓e_rk1, ↓e_rk0, ↓e_sk0, ↓e_sks, ↓e_ldi0, ↓e_ldis, ↓e_ldl0, ↓e_ldls, ↓e_lda0, ↓e_ldas, ↓e_ok0, ↓e_okss, ↓e_ok1i, ↓e_ok1r, ↓e_ok1n, ↓e_sti, ↓e_sta, ↓e_1, ↓e_2, ↓e_l1, ↓e_l2, ↓e_li, ↓e_sw0, ↓e_sws, ↓e_ceq, ↓e_cne, ↓e_clt, ↓e_cge, ↓e_cgt, ↓e_cle, ↓e_nil, ↓e_cons, ↓e_iconst, ↓e_bipush, ↓e_sipush, ↓e_ldc, ↓e_ldcw, ↓e_ldc2, ↓e_lconst, ↓e_iloadn, ↓e_iload, ↓e_lloadn, ↓e_lload, ↓e_aloadn, ↓e_aload, ↓e_istoren, ↓e_istore, ↓e_astoren, ↓e_astore, ↓e_add, ↓e_iinc, ↓e_iadd, ↓e_isub, ↓e_imul, ↓e_iand, ↓e_ior, ↓e_ixor, ↓e_ishl, ↓e_iushr, ↓e_idiv, ↓e_irem, ↓e_ineg, ↓e_i2l, ↓e_i2b, ↓e_i2s, ↓e_l2i, ↓e_land, ↓e_lor, ↓e_lshl, ↓e_lshr, ↓e_lushr, ↓e_lcmp, ↓e_dupi, ↓e_dupr, ↓e_popi, ↓e_dup2, ↓e_goto, ↓e_if, ↓e_icmp, ↓e_tsw, ↓e_lsw, ↓e_getf, ↓e_putf, ↓e_gets, ↓e_iald, ↓e_cald, ↓e_iast, ↓e_aald, ↓e_aast, ↓e_len, ↓e_copy, ↓e_abs, ↓e_max, ↓e_min, ↓e_iret, ↓e_aret, ↓e_vret, ↓e_is0, ↓e_is1, ↓e_is2, ↓e_is3, ↓e_is4, ↓e_iv1, ↓e_iv2, ↓e_iv3, ↓e_iv4, ↓e_iv5, ↓e_iv6, ↓rt_X1_earsOf, ↓reduceIte, Nat.reduceAdd, Nat.reduceEqDiff, ↓zcl0, ↓zclv, List.map_nil, List.sum_nil, List.map_cons, List.sum_cons, zcat, true_and, and_true, Nat.reduceLeDiff, Nat.reduceAdd, eq_self, forall_const, e_ok0, e_okss, e_ok1i, e_ok1r, e_ok1n, zl_0, zl_1, zl_2, zl_3, zl_4, Int.reduceToNat, Int.reduceAdd, Int.reduceMul, Int.reduceSub, Int.reduceNeg, Int.reduceLT, Int.reduceLE, Int.reduceEq, not_false_eq_true, not_true_eq_false, false_implies, true_implies, implies_true, Int.reduceDiv, Int.reduceMod, zr8_zr, zr_zbo, z01_zbo, z01_0, z01_1, zbo_eq0, zup_eq, zup_o, zup_k, ne_eq, ↓vD hb, ↓gD_0 hb, ↓gD_1 hb, ↓gD_2 hb, ↓gD_3 hb, ↓gD_4 hb, ↓gD_5 hb, ↓gD_6 hb, ↓gD_7 hb, ↓gD_8 hb, ↓gD_9 hb, ↓pD_5 hb, ↓pD_6 hb, ↓pD_7 hb, ↓pD_8 hb, ↓pD_9 hb, ↓lD_v hb, ↓sD_v hb]
      exact zpost hC (by rw [if_neg k1, if_neg k2, if_neg k3, if_neg k4, if_neg k5])
/-- a digging, its hill and crew, under the row d -/
def DG (g h c v : Nat) (M : ZMm) (d : Nat → Int) (wo : Int) : Prop := digb g h c v ∧ HR h M d ∧ CR c M d wo ∧ LR 14 M d 0 ∧ LR 18 M d 1 ∧ Vd d
def rgt (d : Nat → Int) (q : Int) : Int := hb d q % 8 - hi4 d q 0 % 8
def dwn (d : Nat → Int) (q : Int) : Int := hb d q / 8 - hi4 d q 0 / 8
theorem hb_rng {d : Nat → Int} (vd : Vd d) {q : Int} (h0 : 0 ≤ q) (h1 : q < 2) : 0 ≤ hb d q ∧ hb d q ≤ 63 := by
  have v2 := vd.2.2.1
  exact vd.2.2.2.2.2.2.2.2.1 _ (by omega) (by omega)
def B_dlist (g : Nat) (q : Int) (M : Nat → Nat → Int) (post : Option ZV → (Nat → Nat → Int) → Prop) : Prop := (0 ≤ q ∧ q < 2) ∧ ∃ (h c v : Nat) (d : Nat → Int), digb g h c v ∧ HR h M d ∧ Vd d ∧ ∀ M2 : ZMm, LSt g M2 (rgt d q) (dwn d q) (hi4 d q 3) → (∀ x, ¬ x = g → M2 x = M x) → post none M2
def C_dlist : ZC := fun as h post => match as with
  | [.inr (.inr (.inl g)), .inl q] => h.1 = zG ∧ B_dlist g q h.2 (fun v M => post v (zG, M))
  | _ => False
theorem r_dlist {g : Nat} {q : Int} {M : Nat → Nat → Int} {post : Option ZV → ZH → Prop} : C_dlist [.inr (.inr (.inl g)), .inl q] (zG, M) post = B_dlist g q M (fun v M => post v (zG, M)) := by show (zG = zG ∧ _) = _; simp
def ct_dlist : Nat → ZC := fun n => if n = 21 then C_hhears else fun _ _ _ => False
theorem ct_dlist_hhears {as : List ZV} {h : ZH} {post : Option ZV → ZH → Prop} : ct_dlist 21 as h post = C_hhears as h post := rfl
theorem c_dlist {E : ZE} {d : Nat} (hd : 2 ≤ d) : zMet E d mX1_listen C_dlist := by
  refine zmet_of (o := 1) (ini := false) (CT := ct_dlist) gd_X1_listen rfl (fun h => by cases h) (by omega) ?_ ?_
  · intro n as h post hh
    unfold ct_dlist at hh
    by_cases c : n = 21
    · subst c; exact ⟨gd_X2_hears, 1, by omega, c_hhears (by omega)⟩
    rw [if_neg c] at hh
    exact hh.elim
  intro as h post hC
  match as, hC with
  | [.inr (.inr (.inl g)), .inl q], hC =>
    refine ⟨Nat.le_of_ble_eq_true rfl, fun X hX => bs_X1_listen_0 hX ?_⟩
    obtain ⟨G, M⟩ := h
    obtain ⟨hG, hC⟩ := hC
    dsimp only at hG
    subst hG
    simp only [B_dlist] at hC
    show bk_X1_listen_0 E ct_dlist X _ [some (.inr (.inr (.inl g))), some (.inl q), none, none] [] (zG, M) (0, 0)
    obtain ⟨hq, hh, cc, vv, d9, hb9, H, vd, hC⟩ := hC
    have hbh := hD hb9
    have vh := Vd_hi vd hq.1 hq.2
    have br := hb_rng vd hq.1 hq.2
    have ah := H.at hq.1 hq.2
    have zq : zr q = q := zr_of (by omega) (by omega)
    have zb : zr (hb d9 q) = hb d9 q := zr_of (by omega) (by omega)
    have za : zr (hi4 d9 q 0) = hi4 d9 q 0 := zr_of (by omega) (by omega)
    have rr : -7 ≤ rgt d9 q ∧ rgt d9 q ≤ 7 := by unfold rgt; omega
    have dr : -7 ≤ dwn d9 q ∧ dwn d9 q ≤ 7 := by unfold dwn; omega
    have zr9 : zr (rgt d9 q) = rgt d9 q := zr_of (by omega) (by omega)
    have zd9 : zr (dwn d9 q) = dwn d9 q := zr_of (by omega) (by omega)
    have sr := sz_le rr.1 rr.2
    have sd := sz_le dr.1 dr.2
    have zsr : zr (sz (rgt d9 q)) = sz (rgt d9 q) := zr_of (by omega) (by omega)
    have zsd : zr (sz (dwn d9 q)) = sz (dwn d9 q) := zr_of (by omega) (by omega)
    have t1 : (hb d9 q).tmod 8 = hb d9 q % 8 := tm_of br.1
    have t2 : (hi4 d9 q 0).tmod 8 = hi4 d9 q 0 % 8 := tm_of vh.1.1
    have t3 : (hb d9 q).tdiv 8 = hb d9 q / 8 := td_of br.1
    have t4 : (hi4 d9 q 0).tdiv 8 = hi4 d9 q 0 / 8 := td_of vh.1.1
    have er : hb d9 q % 8 - hi4 d9 q 0 % 8 = rgt d9 q := rfl
    have ed : hb d9 q / 8 - hi4 d9 q 0 / 8 = dwn d9 q := rfl
    have J77 : ∀ M1 : ZMm, M1 g 5 = hi4 d9 q 3 → M1 g 6 = rgt d9 q → M1 g 7 = dwn d9 q → M1 g 8 = sz (rgt d9 q) + sz (dwn d9 q) → (∀ x, ¬ x = g → M1 x = M x) → X 77 [some (.inr (.inr (.inl g))), some (.inl q), some (.inl (hi4 d9 q 0)), some (.inl (hb d9 q))] [] (zG, M1) (0, 0) := by
      intro M1 e5 e6 e7 e8 f1
      refine bs_X1_listen_77 hX ?_
      simp only [bk_X1_listen_0, k_X1_listen_0, bk_X1_listen_19, k_X1_listen_19, bk_X1_listen_58, k_X1_listen_58, bk_X1_listen_77, k_X1_listen_77, bk_X1_listen_99, k_X1_listen_99, bk_X1_listen_100, k_X1_listen_100, ↓e_rk1, ↓e_rk0, ↓e_sk0, ↓e_sks, ↓e_ldi0, ↓e_ldis, ↓e_ldl0, ↓e_ldls, ↓e_lda0, ↓e_ldas, ↓e_ok0, ↓e_okss, ↓e_ok1i, ↓e_ok1r, ↓e_ok1n, ↓e_sti, ↓e_sta, ↓e_1, ↓e_2, ↓e_l1, ↓e_l2, ↓e_li, ↓e_sw0, ↓e_sws, ↓e_ceq, ↓e_cne, ↓e_clt, ↓e_cge, ↓e_cgt, ↓e_cle, ↓e_nil, ↓e_cons, ↓e_iconst, ↓e_bipush, ↓e_sipush, ↓e_ldc, ↓e_ldcw, ↓e_ldc2, ↓e_lconst, ↓e_iloadn, ↓e_iload, ↓e_lloadn, ↓e_lload, ↓e_aloadn, ↓e_aload, ↓e_istoren, ↓e_istore, ↓e_astoren, ↓e_astore, ↓e_add, ↓e_iinc, ↓e_iadd, ↓e_isub, ↓e_imul, ↓e_iand, ↓e_ior, ↓e_ixor, ↓e_ishl, ↓e_iushr, ↓e_idiv, ↓e_irem, ↓e_ineg, ↓e_i2l, ↓e_i2b, ↓e_i2s, ↓e_l2i, ↓e_land, ↓e_lor, ↓e_lshl, ↓e_lshr, ↓e_lushr, ↓e_lcmp, ↓e_dupi, ↓e_dupr, ↓e_popi, ↓e_dup2, ↓e_goto, ↓e_if, ↓e_icmp, ↓e_tsw, ↓e_lsw, ↓e_getf, ↓e_putf, ↓e_gets, ↓e_iald, ↓e_cald, ↓e_iast, ↓e_aald, ↓e_aast, ↓e_len, ↓e_copy, ↓e_abs, ↓e_max, ↓e_min, ↓e_iret, ↓e_aret, ↓e_vret, ↓e_is0, ↓e_is1, ↓e_is2, ↓e_is3, ↓e_is4, ↓e_iv1, ↓e_iv2, ↓e_iv3, ↓e_iv4, ↓e_iv5, ↓e_iv6, ↓rt_X1_listen, ↓reduceIte, Nat.reduceAdd, Nat.reduceEqDiff, ↓zcl0, ↓zclv, List.map_nil, List.sum_nil, List.map_cons, List.sum_cons, zcat, true_and, and_true, Nat.reduceLeDiff, Nat.reduceAdd, eq_self, forall_const, e_ok0, e_okss, e_ok1i, e_ok1r, e_ok1n, zl_0, zl_1, zl_8, Int.reduceToNat, Int.reduceAdd, Int.reduceMul, Int.reduceSub, Int.reduceNeg, Int.reduceLT, Int.reduceLE, Int.reduceEq, not_false_eq_true, not_true_eq_false, false_implies, true_implies, implies_true, Int.reduceDiv, Int.reduceMod, zr8_zr, zr_zbo, z01_zbo, z01_0, z01_1, zbo_eq0, zup_eq, zup_o, zup_k, ne_eq, ↓ct_dlist_hhears, ↓r_hhears, ↓B_hhears, ↓vD hb9, ↓gD_0 hb9, ↓gD_1 hb9, ↓gD_2 hb9, ↓gD_3 hb9, ↓gD_4 hb9, ↓gD_5 hb9, ↓gD_6 hb9, ↓gD_7 hb9, ↓gD_8 hb9, ↓gD_9 hb9, ↓pD_5 hb9, ↓pD_6 hb9, ↓pD_7 hb9, ↓pD_8 hb9, ↓pD_9 hb9, ↓lD_v hb9, ↓sD_v hb9, e6, e7, zr9, zd9, ab_sz, zsr, zsd]
      have fin : ∀ v, v = zbo (sz (dwn d9 q) ≤ sz (rgt d9 q)) → post none (zG, zup M1 g 9 v) := by
        intro v hv
        refine hC _ ⟨rr, dr, vh.2.2.2, ?_, ?_, ?_, ?_, ?_⟩ (fun x qx => by rw [zup_ne _ qx, f1 x qx])
        · rw [zup_k (by decide)]; exact e5
        · rw [zup_k (by decide)]; exact e6
        · rw [zup_k (by decide)]; exact e7
        · rw [zup_k (by decide)]; exact e8
        · rw [zup_eq]; exact hv
      repeat' (first | assumption | apply And.intro | intro _)
      all_goals first | exact Or.inl trivial | exact Or.inr trivial | (apply fin; exact (zbo_t (by omega)).symm) | (apply fin; exact (zbo_f (by omega)).symm)
    have J58 : ∀ M1 : ZMm, M1 g 5 = hi4 d9 q 3 → M1 g 6 = rgt d9 q → M1 g 7 = dwn d9 q → (∀ x, ¬ x = g → M1 x = M x) → X 58 [some (.inr (.inr (.inl g))), some (.inl q), some (.inl (hi4 d9 q 0)), some (.inl (hb d9 q))] [] (zG, M1) (0, 0) := by
      intro M1 e5 e6 e7 f1
      refine bs_X1_listen_58 hX ?_
      simp only [bk_X1_listen_0, k_X1_listen_0, bk_X1_listen_19, k_X1_listen_19, bk_X1_listen_58, k_X1_listen_58, bk_X1_listen_77, k_X1_listen_77, bk_X1_listen_99, k_X1_listen_99, bk_X1_listen_100, k_X1_listen_100, ↓e_rk1, ↓e_rk0, ↓e_sk0, ↓e_sks, ↓e_ldi0, ↓e_ldis, ↓e_ldl0, ↓e_ldls, ↓e_lda0, ↓e_ldas, ↓e_ok0, ↓e_okss, ↓e_ok1i, ↓e_ok1r, ↓e_ok1n, ↓e_sti, ↓e_sta, ↓e_1, ↓e_2, ↓e_l1, ↓e_l2, ↓e_li, ↓e_sw0, ↓e_sws, ↓e_ceq, ↓e_cne, ↓e_clt, ↓e_cge, ↓e_cgt, ↓e_cle, ↓e_nil, ↓e_cons, ↓e_iconst, ↓e_bipush, ↓e_sipush, ↓e_ldc, ↓e_ldcw, ↓e_ldc2, ↓e_lconst, ↓e_iloadn, ↓e_iload, ↓e_lloadn, ↓e_lload, ↓e_aloadn, ↓e_aload, ↓e_istoren, ↓e_istore, ↓e_astoren, ↓e_astore, ↓e_add, ↓e_iinc, ↓e_iadd, ↓e_isub, ↓e_imul, ↓e_iand, ↓e_ior, ↓e_ixor, ↓e_ishl, ↓e_iushr, ↓e_idiv, ↓e_irem, ↓e_ineg, ↓e_i2l, ↓e_i2b, ↓e_i2s, ↓e_l2i, ↓e_land, ↓e_lor, ↓e_lshl, ↓e_lshr, ↓e_lushr, ↓e_lcmp, ↓e_dupi, ↓e_dupr, ↓e_popi, ↓e_dup2, ↓e_goto, ↓e_if, ↓e_icmp, ↓e_tsw, ↓e_lsw, ↓e_getf, ↓e_putf, ↓e_gets, ↓e_iald, ↓e_cald, ↓e_iast, ↓e_aald, ↓e_aast, ↓e_len, ↓e_copy, ↓e_abs, ↓e_max, ↓e_min, ↓e_iret, ↓e_aret, ↓e_vret, ↓e_is0, ↓e_is1, ↓e_is2, ↓e_is3, ↓e_is4, ↓e_iv1, ↓e_iv2, ↓e_iv3, ↓e_iv4, ↓e_iv5, ↓e_iv6, ↓rt_X1_listen, ↓reduceIte, Nat.reduceAdd, Nat.reduceEqDiff, ↓zcl0, ↓zclv, List.map_nil, List.sum_nil, List.map_cons, List.sum_cons, zcat, true_and, and_true, Nat.reduceLeDiff, Nat.reduceAdd, eq_self, forall_const, e_ok0, e_okss, e_ok1i, e_ok1r, e_ok1n, zl_0, zl_1, zl_8, Int.reduceToNat, Int.reduceAdd, Int.reduceMul, Int.reduceSub, Int.reduceNeg, Int.reduceLT, Int.reduceLE, Int.reduceEq, not_false_eq_true, not_true_eq_false, false_implies, true_implies, implies_true, Int.reduceDiv, Int.reduceMod, zr8_zr, zr_zbo, z01_zbo, z01_0, z01_1, zbo_eq0, zup_eq, zup_o, zup_k, ne_eq, ↓ct_dlist_hhears, ↓r_hhears, ↓B_hhears, ↓vD hb9, ↓gD_0 hb9, ↓gD_1 hb9, ↓gD_2 hb9, ↓gD_3 hb9, ↓gD_4 hb9, ↓gD_5 hb9, ↓gD_6 hb9, ↓gD_7 hb9, ↓gD_8 hb9, ↓gD_9 hb9, ↓pD_5 hb9, ↓pD_6 hb9, ↓pD_7 hb9, ↓pD_8 hb9, ↓pD_9 hb9, ↓lD_v hb9, ↓sD_v hb9, e6, e7, zr9, zd9, ab_sz, zsr, zsd]
      refine J77 _ ?_ ?_ ?_ ?_ (fun x qx => by rw [zup_ne _ qx, f1 x qx])
      · rw [zup_k (by decide)]; exact e5
      · rw [zup_k (by decide)]; exact e6
      · rw [zup_k (by decide)]; exact e7
      · rw [zup_eq]
    have J19 : X 19 [some (.inr (.inr (.inl g))), some (.inl q), some (.inl (hi4 d9 q 0)), some (.inl (hb d9 q))] [] (zG, M) (0, 0) := by
      refine bs_X1_listen_19 hX ?_
      have a3 : M (hh + 6) q.toNat = hi4 d9 q 3 := ah.2.2.2
      simp only [bk_X1_listen_0, k_X1_listen_0, bk_X1_listen_19, k_X1_listen_19, bk_X1_listen_58, k_X1_listen_58, bk_X1_listen_77, k_X1_listen_77, bk_X1_listen_99, k_X1_listen_99, bk_X1_listen_100, k_X1_listen_100, ↓e_rk1, ↓e_rk0, ↓e_sk0, ↓e_sks, ↓e_ldi0, ↓e_ldis, ↓e_ldl0, ↓e_ldls, ↓e_lda0, ↓e_ldas, ↓e_ok0, ↓e_okss, ↓e_ok1i, ↓e_ok1r, ↓e_ok1n, ↓e_sti, ↓e_sta, ↓e_1, ↓e_2, ↓e_l1, ↓e_l2, ↓e_li, ↓e_sw0, ↓e_sws, ↓e_ceq, ↓e_cne, ↓e_clt, ↓e_cge, ↓e_cgt, ↓e_cle, ↓e_nil, ↓e_cons, ↓e_iconst, ↓e_bipush, ↓e_sipush, ↓e_ldc, ↓e_ldcw, ↓e_ldc2, ↓e_lconst, ↓e_iloadn, ↓e_iload, ↓e_lloadn, ↓e_lload, ↓e_aloadn, ↓e_aload, ↓e_istoren, ↓e_istore, ↓e_astoren, ↓e_astore, ↓e_add, ↓e_iinc, ↓e_iadd, ↓e_isub, ↓e_imul, ↓e_iand, ↓e_ior, ↓e_ixor, ↓e_ishl, ↓e_iushr, ↓e_idiv, ↓e_irem, ↓e_ineg, ↓e_i2l, ↓e_i2b, ↓e_i2s, ↓e_l2i, ↓e_land, ↓e_lor, ↓e_lshl, ↓e_lshr, ↓e_lushr, ↓e_lcmp, ↓e_dupi, ↓e_dupr, ↓e_popi, ↓e_dup2, ↓e_goto, ↓e_if, ↓e_icmp, ↓e_tsw, ↓e_lsw, ↓e_getf, ↓e_putf, ↓e_gets, ↓e_iald, ↓e_cald, ↓e_iast, ↓e_aald, ↓e_aast, ↓e_len, ↓e_copy, ↓e_abs, ↓e_max, ↓e_min, ↓e_iret, ↓e_aret, ↓e_vret, ↓e_is0, ↓e_is1, ↓e_is2, ↓e_is3, ↓e_is4, ↓e_iv1, ↓e_iv2, ↓e_iv3, ↓e_iv4, ↓e_iv5, ↓e_iv6, ↓rt_X1_listen, ↓reduceIte, Nat.reduceAdd, Nat.reduceEqDiff, ↓zcl0, ↓zclv, List.map_nil, List.sum_nil, List.map_cons, List.sum_cons, zcat, true_and, and_true, Nat.reduceLeDiff, Nat.reduceAdd, eq_self, forall_const, e_ok0, e_okss, e_ok1i, e_ok1r, e_ok1n, zl_0, zl_1, zl_8, Int.reduceToNat, Int.reduceAdd, Int.reduceMul, Int.reduceSub, Int.reduceNeg, Int.reduceLT, Int.reduceLE, Int.reduceEq, not_false_eq_true, not_true_eq_false, false_implies, true_implies, implies_true, Int.reduceDiv, Int.reduceMod, zr8_zr, zr_zbo, z01_zbo, z01_0, z01_1, zbo_eq0, zup_eq, zup_o, zup_k, ne_eq, ↓ct_dlist_hhears, ↓r_hhears, ↓B_hhears, ↓vD hb9, ↓gD_0 hb9, ↓gD_1 hb9, ↓gD_2 hb9, ↓gD_3 hb9, ↓gD_4 hb9, ↓gD_5 hb9, ↓gD_6 hb9, ↓gD_7 hb9, ↓gD_8 hb9, ↓gD_9 hb9, ↓pD_5 hb9, ↓pD_6 hb9, ↓pD_7 hb9, ↓pD_8 hb9, ↓pD_9 hb9, ↓lD_v hb9, ↓sD_v hb9, ↓vH hbh, ↓gH_0 hbh, ↓gH_1 hbh, ↓gH_2 hbh, ↓gH_3 hbh, ↓gH_4 hbh, ↓gH_5 hbh, ↓gH_6 hbh, ↓gH_7 hbh, ↓gH_8 hbh, ↓gH_9 hbh, ↓pH_7 hbh, ↓pH_8 hbh, ↓pH_9 hbh, ↓lH_1 hbh, ↓sH_1 hbh, ↓lH_2 hbh, ↓sH_2 hbh, ↓lH_3 hbh, ↓sH_3 hbh, ↓lH_4 hbh, ↓sH_4 hbh, ↓lH_5 hbh, ↓sH_5 hbh, ↓lH_6 hbh, ↓sH_6 hbh, ↓lH_7 hbh, ↓sH_7 hbh, zq, a3, zb, za, t1, t2, t3, t4, er, ed]
      repeat (refine And.intro (by omega) ?_)
      refine J58 _ ?_ ?_ ?_ (fun x qx => by rw [zup_ne _ qx, zup_ne _ qx, zup_ne _ qx])
      · rw [zup_k (by decide), zup_k (by decide), zup_eq]
      · rw [zup_k (by decide), zup_eq]
      · rw [zup_eq]
    have a0 : M (hh + 3) q.toNat = hi4 d9 q 0 := ah.1
    simp only [bk_X1_listen_0, k_X1_listen_0, bk_X1_listen_19, k_X1_listen_19, bk_X1_listen_58, k_X1_listen_58, bk_X1_listen_77, k_X1_listen_77, bk_X1_listen_99, k_X1_listen_99, bk_X1_listen_100, k_X1_listen_100, ↓e_rk1, ↓e_rk0, ↓e_sk0, ↓e_sks, ↓e_ldi0, ↓e_ldis, ↓e_ldl0, ↓e_ldls, ↓e_lda0, ↓e_ldas, ↓e_ok0, ↓e_okss, ↓e_ok1i, ↓e_ok1r, ↓e_ok1n, ↓e_sti, ↓e_sta, ↓e_1, ↓e_2, ↓e_l1, ↓e_l2, ↓e_li, ↓e_sw0, ↓e_sws, ↓e_ceq, ↓e_cne, ↓e_clt, ↓e_cge, ↓e_cgt, ↓e_cle, ↓e_nil, ↓e_cons, ↓e_iconst, ↓e_bipush, ↓e_sipush, ↓e_ldc, ↓e_ldcw, ↓e_ldc2, ↓e_lconst, ↓e_iloadn, ↓e_iload, ↓e_lloadn, ↓e_lload, ↓e_aloadn, ↓e_aload, ↓e_istoren, ↓e_istore, ↓e_astoren, ↓e_astore, ↓e_add, ↓e_iinc, ↓e_iadd, ↓e_isub, ↓e_imul, ↓e_iand, ↓e_ior, ↓e_ixor, ↓e_ishl, ↓e_iushr, ↓e_idiv, ↓e_irem, ↓e_ineg, ↓e_i2l, ↓e_i2b, ↓e_i2s, ↓e_l2i, ↓e_land, ↓e_lor, ↓e_lshl, ↓e_lshr, ↓e_lushr, ↓e_lcmp, ↓e_dupi, ↓e_dupr, ↓e_popi, ↓e_dup2, ↓e_goto, ↓e_if, ↓e_icmp, ↓e_tsw, ↓e_lsw, ↓e_getf, ↓e_putf, ↓e_gets, ↓e_iald, ↓e_cald, ↓e_iast, ↓e_aald, ↓e_aast, ↓e_len, ↓e_copy, ↓e_abs, ↓e_max, ↓e_min, ↓e_iret, ↓e_aret, ↓e_vret, ↓e_is0, ↓e_is1, ↓e_is2, ↓e_is3, ↓e_is4, ↓e_iv1, ↓e_iv2, ↓e_iv3, ↓e_iv4, ↓e_iv5, ↓e_iv6, ↓rt_X1_listen, ↓reduceIte, Nat.reduceAdd, Nat.reduceEqDiff, ↓zcl0, ↓zclv, List.map_nil, List.sum_nil, List.map_cons, List.sum_cons, zcat, true_and, and_true, Nat.reduceLeDiff, Nat.reduceAdd, eq_self, forall_const, e_ok0, e_okss, e_ok1i, e_ok1r, e_ok1n, zl_0, zl_1, zl_8, Int.reduceToNat, Int.reduceAdd, Int.reduceMul, Int.reduceSub, Int.reduceNeg, Int.reduceLT, Int.reduceLE, Int.reduceEq, not_false_eq_true, not_true_eq_false, false_implies, true_implies, implies_true, Int.reduceDiv, Int.reduceMod, zr8_zr, zr_zbo, z01_zbo, z01_0, z01_1, zbo_eq0, zup_eq, zup_o, zup_k, ne_eq, ↓ct_dlist_hhears, ↓r_hhears, ↓B_hhears, ↓vD hb9, ↓gD_0 hb9, ↓gD_1 hb9, ↓gD_2 hb9, ↓gD_3 hb9, ↓gD_4 hb9, ↓gD_5 hb9, ↓gD_6 hb9, ↓gD_7 hb9, ↓gD_8 hb9, ↓gD_9 hb9, ↓pD_5 hb9, ↓pD_6 hb9, ↓pD_7 hb9, ↓pD_8 hb9, ↓pD_9 hb9, ↓lD_v hb9, ↓sD_v hb9, ↓vH hbh, ↓gH_0 hbh, ↓gH_1 hbh, ↓gH_2 hbh, ↓gH_3 hbh, ↓gH_4 hbh, ↓gH_5 hbh, ↓gH_6 hbh, ↓gH_7 hbh, ↓gH_8 hbh, ↓gH_9 hbh, ↓pH_7 hbh, ↓pH_8 hbh, ↓pH_9 hbh, ↓lH_1 hbh, ↓sH_1 hbh, ↓lH_2 hbh, ↓sH_2 hbh, ↓lH_3 hbh, ↓sH_3 hbh, ↓lH_4 hbh, ↓sH_4 hbh, ↓lH_5 hbh, ↓sH_5 hbh, ↓lH_6 hbh, ↓sH_6 hbh, ↓lH_7 hbh, ↓sH_7 hbh, zq, a0]
    repeat (refine And.intro (by omega) ?_)
    exact ⟨d9, H, vd, J19⟩
def B_wofe (g : Nat) (e : Int) (M : Nat → Nat → Int) (post : Option ZV → (Nat → Nat → Int) → Prop) : Prop := (0 ≤ e ∧ e < 8) ∧ ∃ (h c v : Nat) (d : Nat → Int) (r dw la kd m : Int), digb g h c v ∧ LSt g M r dw la ∧ M h 9 = d 1 ∧ (0 ≤ d 1 ∧ d 1 ≤ 20000) ∧ M (c + 1) e.toNat = kd ∧ (0 ≤ kd ∧ kd ≤ 6) ∧ M (c + 2) e.toNat = m ∧ (0 ≤ m ∧ m ≤ 9) ∧ LR 14 M d 0 ∧ Vt d 0 ∧ ∀ M2 : ZMm, (∀ x, ¬ x = 17 → M2 x = M x) → post (some (.inl (tgv d 0 (eark kd m (d 1) (sz r + sz dw)) (sz r + sz dw) (d 1 % 8)))) M2
def C_wofe : ZC := fun as h post => match as with
  | [.inr (.inr (.inl g)), .inl e] => h.1 = zG ∧ B_wofe g e h.2 (fun v M => post v (zG, M))
  | _ => False
theorem r_wofe {g : Nat} {e : Int} {M : Nat → Nat → Int} {post : Option ZV → ZH → Prop} : C_wofe [.inr (.inr (.inl g)), .inl e] (zG, M) post = B_wofe g e M (fun v M => post v (zG, M)) := by show (zG = zG ∧ _) = _; simp
def ct_wofe : Nat → ZC := fun n => if n = 14 then C_eofe else if n = 26 then C_lgives else fun _ _ _ => False
theorem ct_wofe_eofe {as : List ZV} {h : ZH} {post : Option ZV → ZH → Prop} : ct_wofe 14 as h post = C_eofe as h post := rfl
theorem ct_wofe_lgives {as : List ZV} {h : ZH} {post : Option ZV → ZH → Prop} : ct_wofe 26 as h post = C_lgives as h post := rfl
theorem c_wofe {E : ZE} {d : Nat} (hd : 3 ≤ d) : zMet E d mX1_weightOf C_wofe := by
  refine zmet_of (o := 1) (ini := false) (CT := ct_wofe) gd_X1_weightOf rfl (fun h => by cases h) (by omega) ?_ ?_
  · intro n as h post hh
    unfold ct_wofe at hh
    by_cases c : n = 14
    · subst c; exact ⟨gd_X1_earsOf, 1, by omega, c_eofe (by omega)⟩
    rw [if_neg c] at hh
    by_cases c : n = 26
    · subst c; exact ⟨gd_X3_gives, 2, by omega, c_lgives (by omega)⟩
    rw [if_neg c] at hh
    exact hh.elim
  intro as h post hC
  match as, hC with
  | [.inr (.inr (.inl g)), .inl e], hC =>
    refine ⟨Nat.le_of_ble_eq_true rfl, fun X hX => bs_X1_weightOf_0 hX ?_⟩
    obtain ⟨G, M⟩ := h
    obtain ⟨hG, hC⟩ := hC
    dsimp only at hG
    subst hG
    simp only [B_wofe] at hC
    show bk_X1_weightOf_0 E ct_wofe X _ [some (.inr (.inr (.inl g))), some (.inl e)] [] (zG, M) (0, 0)
    obtain ⟨he, hh, cc, vv, d9, r9, dw, la, kd, m9, hb9, L, ey, hy, ek, hk, em, hm, LR9, vt, hC⟩ := hC
    have hbh := hD hb9
    have hbc := cD hb9
    have ze : zr e = e := zr_of (by omega) (by omega)
    have zy : zr (d9 1) = d9 1 := zr_of (by omega) (by omega)
    have t1 : (d9 1).tmod 8 = d9 1 % 8 := tm_of hy.1
    have e8 : M g 8 = sz r9 + sz dw := L.2.2.2.2.2.2.1
    simp only [bk_X1_weightOf_0, k_X1_weightOf_0, ↓e_rk1, ↓e_rk0, ↓e_sk0, ↓e_sks, ↓e_ldi0, ↓e_ldis, ↓e_ldl0, ↓e_ldls, ↓e_lda0, ↓e_ldas, ↓e_ok0, ↓e_okss, ↓e_ok1i, ↓e_ok1r, ↓e_ok1n, ↓e_sti, ↓e_sta, ↓e_1, ↓e_2, ↓e_l1, ↓e_l2, ↓e_li, ↓e_sw0, ↓e_sws, ↓e_ceq, ↓e_cne, ↓e_clt, ↓e_cge, ↓e_cgt, ↓e_cle, ↓e_nil, ↓e_cons, ↓e_iconst, ↓e_bipush, ↓e_sipush, ↓e_ldc, ↓e_ldcw, ↓e_ldc2, ↓e_lconst, ↓e_iloadn, ↓e_iload, ↓e_lloadn, ↓e_lload, ↓e_aloadn, ↓e_aload, ↓e_istoren, ↓e_istore, ↓e_astoren, ↓e_astore, ↓e_add, ↓e_iinc, ↓e_iadd, ↓e_isub, ↓e_imul, ↓e_iand, ↓e_ior, ↓e_ixor, ↓e_ishl, ↓e_iushr, ↓e_idiv, ↓e_irem, ↓e_ineg, ↓e_i2l, ↓e_i2b, ↓e_i2s, ↓e_l2i, ↓e_land, ↓e_lor, ↓e_lshl, ↓e_lshr, ↓e_lushr, ↓e_lcmp, ↓e_dupi, ↓e_dupr, ↓e_popi, ↓e_dup2, ↓e_goto, ↓e_if, ↓e_icmp, ↓e_tsw, ↓e_lsw, ↓e_getf, ↓e_putf, ↓e_gets, ↓e_iald, ↓e_cald, ↓e_iast, ↓e_aald, ↓e_aast, ↓e_len, ↓e_copy, ↓e_abs, ↓e_max, ↓e_min, ↓e_iret, ↓e_aret, ↓e_vret, ↓e_is0, ↓e_is1, ↓e_is2, ↓e_is3, ↓e_is4, ↓e_iv1, ↓e_iv2, ↓e_iv3, ↓e_iv4, ↓e_iv5, ↓e_iv6, ↓rt_X1_weightOf, ↓reduceIte, Nat.reduceAdd, Nat.reduceEqDiff, ↓zcl0, ↓zclv, List.map_nil, List.sum_nil, List.map_cons, List.sum_cons, zcat, true_and, and_true, Nat.reduceLeDiff, Nat.reduceAdd, eq_self, forall_const, e_ok0, e_okss, e_ok1i, e_ok1r, e_ok1n, zl_8, Int.reduceToNat, Int.reduceAdd, Int.reduceMul, Int.reduceSub, Int.reduceNeg, Int.reduceLT, Int.reduceLE, Int.reduceEq, not_false_eq_true, not_true_eq_false, false_implies, true_implies, implies_true, Int.reduceDiv, Int.reduceMod, zr8_zr, zr_zbo, z01_zbo, z01_0, z01_1, zbo_eq0, zup_eq, zup_o, zup_k, ne_eq, ↓ct_wofe_eofe, ↓r_eofe, ↓B_eofe, ↓ct_wofe_lgives, ↓r_lgives, ↓B_lgives, ↓vD hb9, ↓gD_0 hb9, ↓gD_1 hb9, ↓gD_2 hb9, ↓gD_3 hb9, ↓gD_4 hb9, ↓gD_5 hb9, ↓gD_6 hb9, ↓gD_7 hb9, ↓gD_8 hb9, ↓gD_9 hb9, ↓pD_5 hb9, ↓pD_6 hb9, ↓pD_7 hb9, ↓pD_8 hb9, ↓pD_9 hb9, ↓lD_v hb9, ↓sD_v hb9, ↓vH hbh, ↓gH_0 hbh, ↓gH_1 hbh, ↓gH_2 hbh, ↓gH_3 hbh, ↓gH_4 hbh, ↓gH_5 hbh, ↓gH_6 hbh, ↓gH_7 hbh, ↓gH_8 hbh, ↓gH_9 hbh, ↓pH_7 hbh, ↓pH_8 hbh, ↓pH_9 hbh, ↓lH_1 hbh, ↓sH_1 hbh, ↓lH_2 hbh, ↓sH_2 hbh, ↓lH_3 hbh, ↓sH_3 hbh, ↓lH_4 hbh, ↓sH_4 hbh, ↓lH_5 hbh, ↓sH_5 hbh, ↓lH_6 hbh, ↓sH_6 hbh, ↓lH_7 hbh, ↓sH_7 hbh, ↓vC hbc, ↓gC_0 hbc, ↓gC_1 hbc, ↓gC_2 hbc, ↓gC_3 hbc, ↓pC_3 hbc, ↓lC_1 hbc, ↓sC_1 hbc, ↓lC_2 hbc, ↓sC_2 hbc, ↓lC_3 hbc, ↓sC_3 hbc, ↓v_14, ze, ek, em, ey, zy, t1, e8]
    repeat (refine And.intro (by omega) ?_)
    exact ⟨hh, cc, vv, r9, dw, la, d9 1, hb9, L, ey, hy, d9, 0, Or.inl ⟨rfl, rfl⟩, LR9, vt, fun M2 hM => hC M2 hM⟩
