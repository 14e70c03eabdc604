/-! THE REFERENCE: texts read, its small methods -/
def k_X11_here_0 : List ZI := [(.aload_n 0, 1, (0, [0], [])), (.getfield 67, 3, (0, [11, 6], [])), (.aload_n 0, 1, (0, [0], [])), (.getfield 70, 3, (0, [11, 7], [])), (.if_icmp .ge 27, 3, (0, [35], [])), (.aload_n 0, 1, (0, [0], [])), (.getfield 73, 3, (0, [11, 8], [])), (.ifCond .ge 20, 3, (0, [35], [])), (.aload_n 0, 1, (0, [0], [])), (.getfield 7, 3, (0, [11, 0], [])), (.aload_n 0, 1, (0, [0], [])), (.getfield 76, 3, (0, [11, 5], [])), (.aload_n 0, 1, (0, [0], [])), (.getfield 67, 3, (0, [11, 6], [])), (.iadd, 1, (0, [], [])), (.iaload, 1, (0, [], [])), (.goto 4, 3, (0, [36], []))]
theorem ok_X11_here_0 : zOK cX11_here 11 false 1 k_X11_here_0 0 = true := zOK_by (by decide +kernel)
def k_X11_here_35 : List ZI := [(.iconst (-1), 1, (0, [], []))]
theorem ok_X11_here_35 : zOK cX11_here 11 false 1 k_X11_here_35 35 = true := zOK_by (by decide +kernel)
def k_X11_here_36 : List ZI := [(.ireturn, 1, (0, [], []))]
theorem ok_X11_here_36 : zOK cX11_here 11 false 1 k_X11_here_36 36 = true := zOK_by (by decide +kernel)
theorem rt_X11_here {g : Nat} {post : Option ZV → ZH → Prop} {h : ZH} {b : ZB2} {z : Int} : zRt mX11_here g post (some (.inl z)) h b = (post (some (.inl z)) h ∧ h.1.length = g) := by show (_ ∧ _ ∧ True) = _; simp
def bk_X11_here_36 (E : ZE) (CT : Nat → ZC) (X : ZK) (Rt : ZR) (ls : ZL) (st : List ZV) (h : ZH) (b : ZB2) : Prop := zB E CT k_X11_here_36 36 ls st h b (fun t ls st h b => X t ls st h b) Rt
theorem bs_X11_here_36 {E : ZE} {CT : Nat → ZC} {X : ZK} {Rt : ZR} {ls : ZL} {st : List ZV} {h : ZH} {b : ZB2} (hX : zCl E mX11_here 11 false CT Rt X) (q : bk_X11_here_36 E CT X Rt ls st h b) : X 36 ls st h b := by
  refine hX k_X11_here_36 36 ok_X11_here_36 _ ?_ ls st h b q
  exact fun t ls st h b q => q
def bk_X11_here_35 (E : ZE) (CT : Nat → ZC) (X : ZK) (Rt : ZR) (ls : ZL) (st : List ZV) (h : ZH) (b : ZB2) : Prop := zB E CT k_X11_here_35 35 ls st h b (fun t ls st h b => if t = 36 then bk_X11_here_36 E CT X Rt ls st h b else X t ls st h b) Rt
theorem bs_X11_here_35 {E : ZE} {CT : Nat → ZC} {X : ZK} {Rt : ZR} {ls : ZL} {st : List ZV} {h : ZH} {b : ZB2} (hX : zCl E mX11_here 11 false CT Rt X) (q : bk_X11_here_35 E CT X Rt ls st h b) : X 35 ls st h b := by
  refine hX k_X11_here_35 35 ok_X11_here_35 _ ?_ ls st h b q
  exact by
    intro t ls st h b q
    by_cases c : t = 36
    · subst c; rw [if_pos rfl] at q; exact bs_X11_here_36 hX q
    rw [if_neg c] at q
    exact q
def bk_X11_here_0 (E : ZE) (CT : Nat → ZC) (X : ZK) (Rt : ZR) (ls : ZL) (st : List ZV) (h : ZH) (b : ZB2) : Prop := zB E CT k_X11_here_0 0 ls st h b (fun t ls st h b => if t = 35 then bk_X11_here_35 E CT X Rt ls st h b else if t = 36 then bk_X11_here_36 E CT X Rt ls st h b else X t ls st h b) Rt
theorem bs_X11_here_0 {E : ZE} {CT : Nat → ZC} {X : ZK} {Rt : ZR} {ls : ZL} {st : List ZV} {h : ZH} {b : ZB2} (hX : zCl E mX11_here 11 false CT Rt X) (q : bk_X11_here_0 E CT X Rt ls st h b) : X 0 ls st h b := by
  refine hX k_X11_here_0 0 ok_X11_here_0 _ ?_ ls st h b q
  exact by
    intro t ls st h b q
    by_cases c : t = 35
    · subst c; rw [if_pos rfl] at q; exact bs_X11_here_35 hX q
    rw [if_neg c] at q
    by_cases c : t = 36
    · subst c; rw [if_pos rfl] at q; exact bs_X11_here_36 hX q
    rw [if_neg c] at q
    exact q
-- X11_here: cuts []
def k_X11_wrong_0 : List ZI := [(.aload_n 0, 1, (0, [0], [])), (.aload_n 0, 1, (0, [0], [])), (.getfield 73, 3, (0, [11, 8], [])), (.ifCond .ge 10, 3, (0, [15], [])), (.aload_n 0, 1, (0, [0], [])), (.getfield 67, 3, (0, [11, 6], [])), (.goto 7, 3, (0, [19], []))]
theorem ok_X11_wrong_0 : zOK cX11_wrong 11 false 1 k_X11_wrong_0 0 = true := zOK_by (by decide +kernel)
def k_X11_wrong_15 : List ZI := [(.aload_n 0, 1, (0, [0], [])), (.getfield 73, 3, (0, [11, 8], []))]
theorem ok_X11_wrong_15 : zOK cX11_wrong 11 false 1 k_X11_wrong_15 15 = true := zOK_by (by decide +kernel)
def k_X11_wrong_19 : List ZI := [(.putfield 73, 3, (0, [11, 8], [])), (.return_, 1, (0, [], []))]
theorem ok_X11_wrong_19 : zOK cX11_wrong 11 false 1 k_X11_wrong_19 19 = true := zOK_by (by decide +kernel)
theorem rt_X11_wrong {g : Nat} {post : Option ZV → ZH → Prop} {h : ZH} {b : ZB2} : zRt mX11_wrong g post none h b = (post none h ∧ h.1.length = g) := by show (_ ∧ _ ∧ True) = _; simp
def bk_X11_wrong_19 (E : ZE) (CT : Nat → ZC) (X : ZK) (Rt : ZR) (ls : ZL) (st : List ZV) (h : ZH) (b : ZB2) : Prop := zB E CT k_X11_wrong_19 19 ls st h b (fun t ls st h b => X t ls st h b) Rt
theorem bs_X11_wrong_19 {E : ZE} {CT : Nat → ZC} {X : ZK} {Rt : ZR} {ls : ZL} {st : List ZV} {h : ZH} {b : ZB2} (hX : zCl E mX11_wrong 11 false CT Rt X) (q : bk_X11_wrong_19 E CT X Rt ls st h b) : X 19 ls st h b := by
  refine hX k_X11_wrong_19 19 ok_X11_wrong_19 _ ?_ ls st h b q
  exact fun t ls st h b q => q
def bk_X11_wrong_15 (E : ZE) (CT : Nat → ZC) (X : ZK) (Rt : ZR) (ls : ZL) (st : List ZV) (h : ZH) (b : ZB2) : Prop := zB E CT k_X11_wrong_15 15 ls st h b (fun t ls st h b => if t = 19 then bk_X11_wrong_19 E CT X Rt ls st h b else X t ls st h b) Rt
theorem bs_X11_wrong_15 {E : ZE} {CT : Nat → ZC} {X : ZK} {Rt : ZR} {ls : ZL} {st : List ZV} {h : ZH} {b : ZB2} (hX : zCl E mX11_wrong 11 false CT Rt X) (q : bk_X11_wrong_15 E CT X Rt ls st h b) : X 15 ls st h b := by
  refine hX k_X11_wrong_15 15 ok_X11_wrong_15 _ ?_ ls st h b q
  exact by
    intro t ls st h b q
    by_cases c : t = 19
    · subst c; rw [if_pos rfl] at q; exact bs_X11_wrong_19 hX q
    rw [if_neg c] at q
    exact q
def bk_X11_wrong_0 (E : ZE) (CT : Nat → ZC) (X : ZK) (Rt : ZR) (ls : ZL) (st : List ZV) (h : ZH) (b : ZB2) : Prop := zB E CT k_X11_wrong_0 0 ls st h b (fun t ls st h b => if t = 15 then bk_X11_wrong_15 E CT X Rt ls st h b else if t = 19 then bk_X11_wrong_19 E CT X Rt ls st h b else X t ls st h b) Rt
theorem bs_X11_wrong_0 {E : ZE} {CT : Nat → ZC} {X : ZK} {Rt : ZR} {ls : ZL} {st : List ZV} {h : ZH} {b : ZB2} (hX : zCl E mX11_wrong 11 false CT Rt X) (q : bk_X11_wrong_0 E CT X Rt ls st h b) : X 0 ls st h b := by
  refine hX k_X11_wrong_0 0 ok_X11_wrong_0 _ ?_ ls st h b q
  exact by
    intro t ls st h b q
    by_cases c : t = 15
    · subst c; rw [if_pos rfl] at q; exact bs_X11_wrong_15 hX q
    rw [if_neg c] at q
    by_cases c : t = 19
    · subst c; rw [if_pos rfl] at q; exact bs_X11_wrong_19 hX q
    rw [if_neg c] at q
    exact q
-- X11_wrong: cuts []
def k_X11_takes_0 : List ZI := [(.aload_n 0, 1, (0, [0], [])), (.invokevirtual 79, 3, (0, [132, 1, 0, 11], [])), (.iload_n 1, 1, (0, [1], [])), (.if_icmp .eq 5, 3, (0, [10], [])), (.iconst 0, 1, (0, [], [])), (.ireturn, 1, (0, [], []))]
theorem ok_X11_takes_0 : zOK cX11_takes 11 false 2 k_X11_takes_0 0 = true := zOK_by (by decide +kernel)
def k_X11_takes_10 : List ZI := [(.aload_n 0, 1, (0, [0], [])), (.dup, 1, (0, [], [])), (.getfield 67, 3, (0, [11, 6], [])), (.iconst 1, 1, (0, [], [])), (.iadd, 1, (0, [], [])), (.putfield 67, 3, (0, [11, 6], [])), (.iconst 1, 1, (0, [], [])), (.ireturn, 1, (0, [], []))]
theorem ok_X11_takes_10 : zOK cX11_takes 11 false 2 k_X11_takes_10 10 = true := zOK_by (by decide +kernel)
theorem rt_X11_takes {g : Nat} {post : Option ZV → ZH → Prop} {h : ZH} {b : ZB2} {z : Int} : zRt mX11_takes g post (some (.inl z)) h b = (post (some (.inl z)) h ∧ h.1.length = g ∧ z01 z) := rfl
def bk_X11_takes_10 (E : ZE) (CT : Nat → ZC) (X : ZK) (Rt : ZR) (ls : ZL) (st : List ZV) (h : ZH) (b : ZB2) : Prop := zB E CT k_X11_takes_10 10 ls st h b (fun t ls st h b => X t ls st h b) Rt
theorem bs_X11_takes_10 {E : ZE} {CT : Nat → ZC} {X : ZK} {Rt : ZR} {ls : ZL} {st : List ZV} {h : ZH} {b : ZB2} (hX : zCl E mX11_takes 11 false CT Rt X) (q : bk_X11_takes_10 E CT X Rt ls st h b) : X 10 ls st h b := by
  refine hX k_X11_takes_10 10 ok_X11_takes_10 _ ?_ ls st h b q
  exact fun t ls st h b q => q
def bk_X11_takes_0 (E : ZE) (CT : Nat → ZC) (X : ZK) (Rt : ZR) (ls : ZL) (st : List ZV) (h : ZH) (b : ZB2) : Prop := zB E CT k_X11_takes_0 0 ls st h b (fun t ls st h b => if t = 10 then bk_X11_takes_10 E CT X Rt ls st h b else X t ls st h b) Rt
theorem bs_X11_takes_0 {E : ZE} {CT : Nat → ZC} {X : ZK} {Rt : ZR} {ls : ZL} {st : List ZV} {h : ZH} {b : ZB2} (hX : zCl E mX11_takes 11 false CT Rt X) (q : bk_X11_takes_0 E CT X Rt ls st h b) : X 0 ls st h b := by
  refine hX k_X11_takes_0 0 ok_X11_takes_0 _ ?_ ls st h b q
  exact by
    intro t ls st h b q
    by_cases c : t = 10
    · subst c; rw [if_pos rfl] at q; exact bs_X11_takes_10 hX q
    rw [if_neg c] at q
    exact q
-- X11_takes: cuts []
def k_X11_nameOf_0 : List ZI := [(.iload_n 1, 1, (0, [1], [])), (.aload_n 0, 1, (0, [0], [])), (.getfield 83, 3, (0, [11, 10], [])), (.ifCond .eq 8, 3, (0, [13], [])), (.bipush 112, 2, (0, [], [])), (.goto 5, 3, (0, [15], []))]
theorem ok_X11_nameOf_0 : zOK cX11_nameOf 11 false 2 k_X11_nameOf_0 0 = true := zOK_by (by decide +kernel)
def k_X11_nameOf_13 : List ZI := [(.bipush 101, 2, (0, [], []))]
theorem ok_X11_nameOf_13 : zOK cX11_nameOf 11 false 2 k_X11_nameOf_13 13 = true := zOK_by (by decide +kernel)
def k_X11_nameOf_15 : List ZI := [(.if_icmp .ne 7, 3, (0, [22], [])), (.iconst 0, 1, (0, [], [])), (.goto 48, 3, (0, [67], []))]
theorem ok_X11_nameOf_15 : zOK cX11_nameOf 11 false 2 k_X11_nameOf_15 15 = true := zOK_by (by decide +kernel)
def k_X11_nameOf_22 : List ZI := [(.iload_n 1, 1, (0, [1], [])), (.aload_n 0, 1, (0, [0], [])), (.getfield 83, 3, (0, [11, 10], [])), (.ifCond .eq 8, 3, (0, [35], [])), (.bipush 114, 2, (0, [], [])), (.goto 5, 3, (0, [37], []))]
theorem ok_X11_nameOf_22 : zOK cX11_nameOf 11 false 2 k_X11_nameOf_22 22 = true := zOK_by (by decide +kernel)
def k_X11_nameOf_35 : List ZI := [(.bipush 100, 2, (0, [], []))]
theorem ok_X11_nameOf_35 : zOK cX11_nameOf 11 false 2 k_X11_nameOf_35 35 = true := zOK_by (by decide +kernel)
def k_X11_nameOf_37 : List ZI := [(.if_icmp .ne 7, 3, (0, [44], [])), (.iconst 1, 1, (0, [], [])), (.goto 26, 3, (0, [67], []))]
theorem ok_X11_nameOf_37 : zOK cX11_nameOf 11 false 2 k_X11_nameOf_37 37 = true := zOK_by (by decide +kernel)
def k_X11_nameOf_44 : List ZI := [(.iload_n 1, 1, (0, [1], [])), (.aload_n 0, 1, (0, [0], [])), (.getfield 83, 3, (0, [11, 10], [])), (.ifCond .eq 8, 3, (0, [57], [])), (.bipush 119, 2, (0, [], [])), (.goto 5, 3, (0, [59], []))]
theorem ok_X11_nameOf_44 : zOK cX11_nameOf 11 false 2 k_X11_nameOf_44 44 = true := zOK_by (by decide +kernel)
def k_X11_nameOf_57 : List ZI := [(.bipush 121, 2, (0, [], []))]
theorem ok_X11_nameOf_57 : zOK cX11_nameOf 11 false 2 k_X11_nameOf_57 57 = true := zOK_by (by decide +kernel)
def k_X11_nameOf_59 : List ZI := [(.if_icmp .ne 7, 3, (0, [66], [])), (.iconst 2, 1, (0, [], [])), (.goto 4, 3, (0, [67], []))]
theorem ok_X11_nameOf_59 : zOK cX11_nameOf 11 false 2 k_X11_nameOf_59 59 = true := zOK_by (by decide +kernel)
def k_X11_nameOf_66 : List ZI := [(.iconst (-1), 1, (0, [], []))]
theorem ok_X11_nameOf_66 : zOK cX11_nameOf 11 false 2 k_X11_nameOf_66 66 = true := zOK_by (by decide +kernel)
def k_X11_nameOf_67 : List ZI := [(.ireturn, 1, (0, [], []))]
theorem ok_X11_nameOf_67 : zOK cX11_nameOf 11 false 2 k_X11_nameOf_67 67 = true := zOK_by (by decide +kernel)
theorem rt_X11_nameOf {g : Nat} {post : Option ZV → ZH → Prop} {h : ZH} {b : ZB2} {z : Int} : zRt mX11_nameOf g post (some (.inl z)) h b = (post (some (.inl z)) h ∧ h.1.length = g) := by show (_ ∧ _ ∧ True) = _; simp
def bk_X11_nameOf_67 (E : ZE) (CT : Nat → ZC) (X : ZK) (Rt : ZR) (ls : ZL) (st : List ZV) (h : ZH) (b : ZB2) : Prop := zB E CT k_X11_nameOf_67 67 ls st h b (fun t ls st h b => X t ls st h b) Rt
theorem bs_X11_nameOf_67 {E : ZE} {CT : Nat → ZC} {X : ZK} {Rt : ZR} {ls : ZL} {st : List ZV} {h : ZH} {b : ZB2} (hX : zCl E mX11_nameOf 11 false CT Rt X) (q : bk_X11_nameOf_67 E CT X Rt ls st h b) : X 67 ls st h b := by
  refine hX k_X11_nameOf_67 67 ok_X11_nameOf_67 _ ?_ ls st h b q
  exact fun t ls st h b q => q
def bk_X11_nameOf_15 (E : ZE) (CT : Nat → ZC) (X : ZK) (Rt : ZR) (ls : ZL) (st : List ZV) (h : ZH) (b : ZB2) : Prop := zB E CT k_X11_nameOf_15 15 ls st h b (fun t ls st h b => if t = 67 then bk_X11_nameOf_67 E CT X Rt ls st h b else X t ls st h b) Rt
theorem bs_X11_nameOf_15 {E : ZE} {CT : Nat → ZC} {X : ZK} {Rt : ZR} {ls : ZL} {st : List ZV} {h : ZH} {b : ZB2} (hX : zCl E mX11_nameOf 11 false CT Rt X) (q : bk_X11_nameOf_15 E CT X Rt ls st h b) : X 15 ls st h b := by
  refine hX k_X11_nameOf_15 15 ok_X11_nameOf_15 _ ?_ ls st h b q
  exact by
    intro t ls st h b q
    by_cases c : t = 67
    · subst c; rw [if_pos rfl] at q; exact bs_X11_nameOf_67 hX q
    rw [if_neg c] at q
    exact q
def bk_X11_nameOf_13 (E : ZE) (CT : Nat → ZC) (X : ZK) (Rt : ZR) (ls : ZL) (st : List ZV) (h : ZH) (b : ZB2) : Prop := zB E CT k_X11_nameOf_13 13 ls st h b (fun t ls st h b => if t = 15 then bk_X11_nameOf_15 E CT X Rt ls st h b else X t ls st h b) Rt
theorem bs_X11_nameOf_13 {E : ZE} {CT : Nat → ZC} {X : ZK} {Rt : ZR} {ls : ZL} {st : List ZV} {h : ZH} {b : ZB2} (hX : zCl E mX11_nameOf 11 false CT Rt X) (q : bk_X11_nameOf_13 E CT X Rt ls st h b) : X 13 ls st h b := by
  refine hX k_X11_nameOf_13 13 ok_X11_nameOf_13 _ ?_ ls st h b q
  exact by
    intro t ls st h b q
    by_cases c : t = 15
    · subst c; rw [if_pos rfl] at q; exact bs_X11_nameOf_15 hX q
    rw [if_neg c] at q
    exact q
def bk_X11_nameOf_0 (E : ZE) (CT : Nat → ZC) (X : ZK) (Rt : ZR) (ls : ZL) (st : List ZV) (h : ZH) (b : ZB2) : Prop := zB E CT k_X11_nameOf_0 0 ls st h b (fun t ls st h b => if t = 13 then bk_X11_nameOf_13 E CT X Rt ls st h b else if t = 15 then bk_X11_nameOf_15 E CT X Rt ls st h b else X t ls st h b) Rt
theorem bs_X11_nameOf_0 {E : ZE} {CT : Nat → ZC} {X : ZK} {Rt : ZR} {ls : ZL} {st : List ZV} {h : ZH} {b : ZB2} (hX : zCl E mX11_nameOf 11 false CT Rt X) (q : bk_X11_nameOf_0 E CT X Rt ls st h b) : X 0 ls st h b := by
  refine hX k_X11_nameOf_0 0 ok_X11_nameOf_0 _ ?_ ls st h b q
  exact by
    intro t ls st h b q
    by_cases c : t = 13
    · subst c; rw [if_pos rfl] at q; exact bs_X11_nameOf_13 hX q
    rw [if_neg c] at q
    by_cases c : t = 15
    · subst c; rw [if_pos rfl] at q; exact bs_X11_nameOf_15 hX q
    rw [if_neg c] at q
    exact q
def bk_X11_nameOf_37 (E : ZE) (CT : Nat → ZC) (X : ZK) (Rt : ZR) (ls : ZL) (st : List ZV) (h : ZH) (b : ZB2) : Prop := zB E CT k_X11_nameOf_37 37 ls st h b (fun t ls st h b => if t = 67 then bk_X11_nameOf_67 E CT X Rt ls st h b else X t ls st h b) Rt
theorem bs_X11_nameOf_37 {E : ZE} {CT : Nat → ZC} {X : ZK} {Rt : ZR} {ls : ZL} {st : List ZV} {h : ZH} {b : ZB2} (hX : zCl E mX11_nameOf 11 false CT Rt X) (q : bk_X11_nameOf_37 E CT X Rt ls st h b) : X 37 ls st h b := by
  refine hX k_X11_nameOf_37 37 ok_X11_nameOf_37 _ ?_ ls st h b q
  exact by
    intro t ls st h b q
    by_cases c : t = 67
    · subst c; rw [if_pos rfl] at q; exact bs_X11_nameOf_67 hX q
    rw [if_neg c] at q
    exact q
def bk_X11_nameOf_35 (E : ZE) (CT : Nat → ZC) (X : ZK) (Rt : ZR) (ls : ZL) (st : List ZV) (h : ZH) (b : ZB2) : Prop := zB E CT k_X11_nameOf_35 35 ls st h b (fun t ls st h b => if t = 37 then bk_X11_nameOf_37 E CT X Rt ls st h b else X t ls st h b) Rt
theorem bs_X11_nameOf_35 {E : ZE} {CT : Nat → ZC} {X : ZK} {Rt : ZR} {ls : ZL} {st : List ZV} {h : ZH} {b : ZB2} (hX : zCl E mX11_nameOf 11 false CT Rt X) (q : bk_X11_nameOf_35 E CT X Rt ls st h b) : X 35 ls st h b := by
  refine hX k_X11_nameOf_35 35 ok_X11_nameOf_35 _ ?_ ls st h b q
  exact by
    intro t ls st h b q
    by_cases c : t = 37
    · subst c; rw [if_pos rfl] at q; exact bs_X11_nameOf_37 hX q
    rw [if_neg c] at q
    exact q
def bk_X11_nameOf_22 (E : ZE) (CT : Nat → ZC) (X : ZK) (Rt : ZR) (ls : ZL) (st : List ZV) (h : ZH) (b : ZB2) : Prop := zB E CT k_X11_nameOf_22 22 ls st h b (fun t ls st h b => if t = 35 then bk_X11_nameOf_35 E CT X Rt ls st h b else if t = 37 then bk_X11_nameOf_37 E CT X Rt ls st h b else X t ls st h b) Rt
theorem bs_X11_nameOf_22 {E : ZE} {CT : Nat → ZC} {X : ZK} {Rt : ZR} {ls : ZL} {st : List ZV} {h : ZH} {b : ZB2} (hX : zCl E mX11_nameOf 11 false CT Rt X) (q : bk_X11_nameOf_22 E CT X Rt ls st h b) : X 22 ls st h b := by
  refine hX k_X11_nameOf_22 22 ok_X11_nameOf_22 _ ?_ ls st h b q
  exact by
    intro t ls st h b q
    by_cases c : t = 35
    · subst c; rw [if_pos rfl] at q; exact bs_X11_nameOf_35 hX q
    rw [if_neg c] at q
    by_cases c : t = 37
    · subst c; rw [if_pos rfl] at q; exact bs_X11_nameOf_37 hX q
    rw [if_neg c] at q
    exact q
def bk_X11_nameOf_66 (E : ZE) (CT : Nat → ZC) (X : ZK) (Rt : ZR) (ls : ZL) (st : List ZV) (h : ZH) (b : ZB2) : Prop := zB E CT k_X11_nameOf_66 66 ls st h b (fun t ls st h b => if t = 67 then bk_X11_nameOf_67 E CT X Rt ls st h b else X t ls st h b) Rt
theorem bs_X11_nameOf_66 {E : ZE} {CT : Nat → ZC} {X : ZK} {Rt : ZR} {ls : ZL} {st : List ZV} {h : ZH} {b : ZB2} (hX : zCl E mX11_nameOf 11 false CT Rt X) (q : bk_X11_nameOf_66 E CT X Rt ls st h b) : X 66 ls st h b := by
  refine hX k_X11_nameOf_66 66 ok_X11_nameOf_66 _ ?_ ls st h b q
  exact by
    intro t ls st h b q
    by_cases c : t = 67
    · subst c; rw [if_pos rfl] at q; exact bs_X11_nameOf_67 hX q
    rw [if_neg c] at q
    exact q
def bk_X11_nameOf_59 (E : ZE) (CT : Nat → ZC) (X : ZK) (Rt : ZR) (ls : ZL) (st : List ZV) (h : ZH) (b : ZB2) : Prop := zB E CT k_X11_nameOf_59 59 ls st h b (fun t ls st h b => if t = 66 then bk_X11_nameOf_66 E CT X Rt ls st h b else if t = 67 then bk_X11_nameOf_67 E CT X Rt ls st h b else X t ls st h b) Rt
theorem bs_X11_nameOf_59 {E : ZE} {CT : Nat → ZC} {X : ZK} {Rt : ZR} {ls : ZL} {st : List ZV} {h : ZH} {b : ZB2} (hX : zCl E mX11_nameOf 11 false CT Rt X) (q : bk_X11_nameOf_59 E CT X Rt ls st h b) : X 59 ls st h b := by
  refine hX k_X11_nameOf_59 59 ok_X11_nameOf_59 _ ?_ ls st h b q
  exact by
    intro t ls st h b q
    by_cases c : t = 66
    · subst c; rw [if_pos rfl] at q; exact bs_X11_nameOf_66 hX q
    rw [if_neg c] at q
    by_cases c : t = 67
    · subst c; rw [if_pos rfl] at q; exact bs_X11_nameOf_67 hX q
    rw [if_neg c] at q
    exact q
def bk_X11_nameOf_57 (E : ZE) (CT : Nat → ZC) (X : ZK) (Rt : ZR) (ls : ZL) (st : List ZV) (h : ZH) (b : ZB2) : Prop := zB E CT k_X11_nameOf_57 57 ls st h b (fun t ls st h b => if t = 59 then bk_X11_nameOf_59 E CT X Rt ls st h b else X t ls st h b) Rt
theorem bs_X11_nameOf_57 {E : ZE} {CT : Nat → ZC} {X : ZK} {Rt : ZR} {ls : ZL} {st : List ZV} {h : ZH} {b : ZB2} (hX : zCl E mX11_nameOf 11 false CT Rt X) (q : bk_X11_nameOf_57 E CT X Rt ls st h b) : X 57 ls st h b := by
  refine hX k_X11_nameOf_57 57 ok_X11_nameOf_57 _ ?_ ls st h b q
  exact by
    intro t ls st h b q
    by_cases c : t = 59
    · subst c; rw [if_pos rfl] at q; exact bs_X11_nameOf_59 hX q
    rw [if_neg c] at q
    exact q
def bk_X11_nameOf_44 (E : ZE) (CT : Nat → ZC) (X : ZK) (Rt : ZR) (ls : ZL) (st : List ZV) (h : ZH) (b : ZB2) : Prop := zB E CT k_X11_nameOf_44 44 ls st h b (fun t ls st h b => if t = 57 then bk_X11_nameOf_57 E CT X Rt ls st h b else if t = 59 then bk_X11_nameOf_59 E CT X Rt ls st h b else X t ls st h b) Rt
theorem bs_X11_nameOf_44 {E : ZE} {CT : Nat → ZC} {X : ZK} {Rt : ZR} {ls : ZL} {st : List ZV} {h : ZH} {b : ZB2} (hX : zCl E mX11_nameOf 11 false CT Rt X) (q : bk_X11_nameOf_44 E CT X Rt ls st h b) : X 44 ls st h b := by
  refine hX k_X11_nameOf_44 44 ok_X11_nameOf_44 _ ?_ ls st h b q
  exact by
    intro t ls st h b q
    by_cases c : t = 57
    · subst c; rw [if_pos rfl] at q; exact bs_X11_nameOf_57 hX q
    rw [if_neg c] at q
    by_cases c : t = 59
    · subst c; rw [if_pos rfl] at q; exact bs_X11_nameOf_59 hX q
    rw [if_neg c] at q
    exact q
-- X11_nameOf: cuts [22, 44]
def k_X11_lay_0 : List ZI := [(.aload_n 0, 1, (0, [0], [])), (.getfield 73, 3, (0, [11, 8], [])), (.ifCond .ge 23, 3, (0, [27], [])), (.aload_n 0, 1, (0, [0], [])), (.getfield 25, 3, (0, [11, 12], [])), (.aload_n 0, 1, (0, [0], [])), (.getfield 87, 3, (0, [11, 13], [])), (.iload_n 1, 1, (0, [1], [])), (.iastore, 1, (0, [], [])), (.aload_n 0, 1, (0, [0], [])), (.dup, 1, (0, [], [])), (.getfield 87, 3, (0, [11, 13], [])), (.iconst 1, 1, (0, [], [])), (.iadd, 1, (0, [], [])), (.putfield 87, 3, (0, [11, 13], []))]
theorem ok_X11_lay_0 : zOK cX11_lay 11 false 2 k_X11_lay_0 0 = true := zOK_by (by decide +kernel)
def k_X11_lay_27 : List ZI := [(.return_, 1, (0, [], []))]
theorem ok_X11_lay_27 : zOK cX11_lay 11 false 2 k_X11_lay_27 27 = true := zOK_by (by decide +kernel)
theorem rt_X11_lay {g : Nat} {post : Option ZV → ZH → Prop} {h : ZH} {b : ZB2} : zRt mX11_lay g post none h b = (post none h ∧ h.1.length = g) := by show (_ ∧ _ ∧ True) = _; simp
def bk_X11_lay_27 (E : ZE) (CT : Nat → ZC) (X : ZK) (Rt : ZR) (ls : ZL) (st : List ZV) (h : ZH) (b : ZB2) : Prop := zB E CT k_X11_lay_27 27 ls st h b (fun t ls st h b => X t ls st h b) Rt
theorem bs_X11_lay_27 {E : ZE} {CT : Nat → ZC} {X : ZK} {Rt : ZR} {ls : ZL} {st : List ZV} {h : ZH} {b : ZB2} (hX : zCl E mX11_lay 11 false CT Rt X) (q : bk_X11_lay_27 E CT X Rt ls st h b) : X 27 ls st h b := by
  refine hX k_X11_lay_27 27 ok_X11_lay_27 _ ?_ ls st h b q
  exact fun t ls st h b q => q
def bk_X11_lay_0 (E : ZE) (CT : Nat → ZC) (X : ZK) (Rt : ZR) (ls : ZL) (st : List ZV) (h : ZH) (b : ZB2) : Prop := zB E CT k_X11_lay_0 0 ls st h b (fun t ls st h b => if t = 27 then bk_X11_lay_27 E CT X Rt ls st h b else X t ls st h b) Rt
theorem bs_X11_lay_0 {E : ZE} {CT : Nat → ZC} {X : ZK} {Rt : ZR} {ls : ZL} {st : List ZV} {h : ZH} {b : ZB2} (hX : zCl E mX11_lay 11 false CT Rt X) (q : bk_X11_lay_0 E CT X Rt ls st h b) : X 0 ls st h b := by
  refine hX k_X11_lay_0 0 ok_X11_lay_0 _ ?_ ls st h b q
  exact by
    intro t ls st h b q
    by_cases c : t = 27
    · subst c; rw [if_pos rfl] at q; exact bs_X11_lay_27 hX q
    rw [if_neg c] at q
    exact q
-- X11_lay: cuts []
def sP (M : ZMm) : PS := ((M 87 6).toNat, M 87 8, (List.range (M 87 13).toNat).map (M 93))
def tT (M : ZMm) : Nat → Int := fun k => M 88 (308 + k)
def tn (M : ZMm) : Nat := (M 87 7).toNat
def okM (M : ZMm) : Prop := okS (tn M) (sP M) ∧ 0 ≤ M 87 6 ∧ 0 ≤ M 87 13 ∧ (0 ≤ M 87 7 ∧ M 87 7 ≤ 50) ∧ M 87 5 = 308 ∧ (∀ k, k < 50 → rg (tT M k)) ∧ (M 87 10 = 0 ∨ M 87 10 = 1)
def Fx (M M' : ZMm) : Prop := ∀ x i, ¬ x = 93 → ¬ (x = 87 ∧ (i = 6 ∨ i = 8 ∨ i = 13)) → M' x i = M x i
theorem Fx.rf {M : ZMm} : Fx M M := fun _ _ _ _ => rfl
theorem Fx.trans {M M1 M2 : ZMm} (h : Fx M M1) (h2 : Fx M1 M2) : Fx M M2 := fun x i q1 q2 => (h2 x i q1 q2).trans (h x i q1 q2)
theorem Fx.eT {M M' : ZMm} (h : Fx M M') : tT M' = tT M := funext fun k => h 88 (308 + k) (by omega) (by omega)
theorem Fx.eN {M M' : ZMm} (h : Fx M M') : tn M' = tn M := congrArg Int.toNat (h 87 7 (by omega) (by omega))
theorem Fx.u {M M' : ZMm} (h : Fx M M') : M' 87 10 = M 87 10 := h 87 10 (by omega) (by omega)
theorem Fx.op {M M' : ZMm} (h : Fx M M') : M' 87 9 = M 87 9 := h 87 9 (by omega) (by omega)
theorem Fx.ok {M M' : ZMm} (h : Fx M M') (ho : okM M) (h1 : okS (tn M) (sP M')) (h2 : 0 ≤ M' 87 6) (h3 : 0 ≤ M' 87 13) : okM M' := by
  obtain ⟨_, _, _, a3, a4, a5, a6⟩ := ho
  refine ⟨by rw [h.eN]; exact h1, h2, h3, ?_, ?_, ?_, ?_⟩
  · rw [h 87 7 (by omega) (by omega)]; exact a3
  · rw [h 87 5 (by omega) (by omega)]; exact a4
  · rw [h.eT]; exact a5
  · rw [h.u]; exact a6
theorem okM.pl {M : ZMm} (h : okM M) : M 87 6 = ((sP M).1 : Int) := by
  have := h.2.1
  show M 87 6 = (((M 87 6).toNat : Nat) : Int)
  omega
theorem okM.sz {M : ZMm} (h : okM M) : M 87 7 = (tn M : Int) ∧ tn M ≤ 50 := by
  have := h.2.2.2.1
  unfold tn
  omega
theorem okM.ln {M : ZMm} (h : okM M) : M 87 13 = ((sP M).2.2.length : Int) := by
  have := h.2.2.1
  show M 87 13 = ((((List.range (M 87 13).toNat).map (M 93)).length : Nat) : Int)
  simp
  omega
theorem hre_rg {M : ZMm} (h : okM M) : rg (hre (tT M) (tn M) (sP M)) := by
  have n := h.sz
  unfold hre
  split
  · exact h.2.2.2.2.2.1 _ (by omega)
  · exact ⟨by omega, by omega⟩
/-- the place one on -/
theorem adv_M {M : ZMm} (h : okM M) (hl : (sP M).1 < tn M) : sP (zup M 87 6 (M 87 6 + 1)) = adv (sP M) ∧ okM (zup M 87 6 (M 87 6 + 1)) ∧ Fx M (zup M 87 6 (M 87 6 + 1)) := by
  have fx : Fx M (zup M 87 6 (M 87 6 + 1)) := fun x i _ q2 => by simp only [zup]; rw [if_neg (by omega)]
  have h6 := h.2.1
  have e : sP (zup M 87 6 (M 87 6 + 1)) = adv (sP M) := by
    unfold sP adv
    rw [zup_eq, zup_k (by decide), zup_k (by decide), zup_ne _ (by decide)]
    dsimp only
    rw [show (M 87 6 + 1).toNat = (M 87 6).toNat + 1 by omega]
  refine ⟨e, fx.ok h ?_ ?_ ?_, fx⟩
  · rw [e]; exact okS_adv h.1 hl
  · rw [zup_eq]; omega
  · rw [zup_k (by decide)]; exact h.2.2.1
def B_here (M : Nat → Nat → Int) (post : Option ZV → (Nat → Nat → Int) → Prop) : Prop := okM M ∧ post (some (.inl (hre (tT M) (tn M) (sP M)))) M
def C_here : ZC := fun as h post => match as with
  | [.inr (.inr (.inl 87))] => h.1 = zG ∧ B_here h.2 (fun v M => post v (zG, M))
  | _ => False
theorem r_here {M : Nat → Nat → Int} {post : Option ZV → ZH → Prop} : C_here [.inr (.inr (.inl 87))] (zG, M) post = B_here M (fun v M => post v (zG, M)) := by show (zG = zG ∧ _) = _; simp
def ct_here : Nat → ZC := fun n => fun _ _ _ => False
theorem c_here {E : ZE} {d : Nat} (hd : 1 ≤ d) : zMet E d mX11_here C_here := by
  refine zmet_of (o := 11) (ini := false) (CT := ct_here) gd_X11_here rfl (fun h => by cases h) (by omega) ?_ ?_
  · intro n as h post hh
    unfold ct_here at hh
    exact hh.elim
  intro as h post hC
  match as, hC with
  | [.inr (.inr (.inl 87))], hC =>
    refine ⟨Nat.le_of_ble_eq_true rfl, fun X hX => bs_X11_here_0 hX ?_⟩
    obtain ⟨G, M⟩ := h
    obtain ⟨hG, hC⟩ := hC
    dsimp only at hG
    subst hG
    simp only [B_here] at hC
    show bk_X11_here_0 E ct_here X _ [some (.inr (.inr (.inl 87)))] [] (zG, M) (0, 0)
    obtain ⟨ho, hC⟩ := hC
    have h1 := ho.1
    have ea := ho.pl
    have en := ho.sz
    have e5 : M 87 5 = 308 := ho.2.2.2.2.1
    obtain ⟨o1, o2, o3, o4⟩ := h1
    have e8 : (sP M).2.1 = M 87 8 := rfl
    have z6 : zr (M 87 6) = M 87 6 := zr_of (by omega) (by omega)
    have z7 : zr (M 87 7) = M 87 7 := zr_of (by omega) (by omega)
    have z8 : zr (M 87 8) = M 87 8 := zr_of (by omega) (by omega)
    unfold hre at hC
    have zi : zr (308 + M 87 6) = 308 + M 87 6 := zr_of (by omega) (by omega)
    simp only [bk_X11_here_0, k_X11_here_0, bk_X11_here_35, k_X11_here_35, bk_X11_here_36, k_X11_here_36, ↓e_rk1, ↓e_rk0, ↓e_sk0, ↓e_sks, ↓e_ldi0, ↓e_ldis, ↓e_ldl0, ↓e_ldls, ↓e_lda0, ↓e_ldas, ↓e_ok0, ↓e_okss, ↓e_ok1i, ↓e_ok1r, ↓e_ok1n, ↓e_sti, ↓e_sta, ↓e_1, ↓e_2, ↓e_l1, ↓e_l2, ↓e_li, ↓e_sw0, ↓e_sws, ↓e_ceq, ↓e_cne, ↓e_clt, ↓e_cge, ↓e_cgt, ↓e_cle, ↓e_nil, ↓e_cons, ↓e_iconst, ↓e_bipush, ↓e_sipush, ↓e_ldc, ↓e_ldcw, ↓e_ldc2, ↓e_lconst, ↓e_iloadn, ↓e_iload, ↓e_lloadn, ↓e_lload, ↓e_aloadn, ↓e_aload, ↓e_istoren, ↓e_istore, ↓e_astoren, ↓e_astore, ↓e_add, ↓e_iinc, ↓e_iadd, ↓e_isub, ↓e_imul, ↓e_iand, ↓e_ior, ↓e_ixor, ↓e_ishl, ↓e_iushr, ↓e_idiv, ↓e_irem, ↓e_ineg, ↓e_i2l, ↓e_i2b, ↓e_i2s, ↓e_l2i, ↓e_land, ↓e_lor, ↓e_lshl, ↓e_lshr, ↓e_lushr, ↓e_lcmp, ↓e_dupi, ↓e_dupr, ↓e_popi, ↓e_dup2, ↓e_goto, ↓e_if, ↓e_icmp, ↓e_tsw, ↓e_lsw, ↓e_getf, ↓e_putf, ↓e_gets, ↓e_iald, ↓e_cald, ↓e_iast, ↓e_aald, ↓e_aast, ↓e_len, ↓e_copy, ↓e_abs, ↓e_max, ↓e_min, ↓e_iret, ↓e_aret, ↓e_vret, ↓e_is0, ↓e_is1, ↓e_is2, ↓e_is3, ↓e_is4, ↓e_iv1, ↓e_iv2, ↓e_iv3, ↓e_iv4, ↓e_iv5, ↓e_iv6, ↓rt_X11_here, ↓reduceIte, Nat.reduceAdd, Nat.reduceEqDiff, ↓zcl0, ↓zclv, List.map_nil, List.sum_nil, List.map_cons, List.sum_cons, zcat, true_and, and_true, Nat.reduceLeDiff, Nat.reduceAdd, eq_self, forall_const, e_ok0, e_okss, e_ok1i, e_ok1r, e_ok1n, zl_m1, Int.reduceToNat, Int.reduceAdd, Int.reduceMul, Int.reduceSub, Int.reduceNeg, Int.reduceLT, Int.reduceLE, Int.reduceEq, not_false_eq_true, not_true_eq_false, false_implies, true_implies, implies_true, Int.reduceDiv, Int.reduceMod, zr8_zr, zr_zbo, z01_zbo, z01_0, z01_1, zbo_eq0, zup_eq, zup_o, zup_k, ne_eq, ↓v_87, ↓g_87_0, ↓l_88, ↓s_88, ↓n_88, ↓g_87_1, ↓l_89, ↓s_89, ↓n_89, ↓g_87_2, ↓l_90, ↓s_90, ↓n_90, ↓g_87_3, ↓p_87_3, ↓g_87_4, ↓l_91, ↓s_91, ↓n_91, ↓g_87_5, ↓p_87_5, ↓g_87_6, ↓p_87_6, ↓g_87_7, ↓p_87_7, ↓g_87_8, ↓p_87_8, ↓g_87_9, ↓p_87_9, ↓g_87_10, ↓p_87_10, ↓g_87_11, ↓l_92, ↓s_92, ↓n_92, ↓g_87_12, ↓l_93, ↓s_93, ↓n_93, ↓g_87_13, ↓p_87_13, ↓g_87_14, ↓l_94, ↓s_94, ↓n_94, ↓g_87_15, ↓p_87_15, ↓g_87_16, ↓l_95, ↓s_95, ↓n_95, ↓g_87_17, ↓l_96, ↓s_96, ↓n_96, ↓g_87_18, ↓l_97, ↓s_97, ↓n_97, ↓g_87_19, ↓p_87_19, ↓g_87_20, ↓p_87_20, ↓g_87_21, ↓l_98, ↓s_98, ↓n_98, ↓g_87_22, ↓l_99, ↓s_99, ↓n_99, ↓g_87_23, ↓l_100, ↓s_100, ↓n_100, ↓g_87_24, ↓l_101, ↓s_101, ↓n_101, z6, z7, z8, e5, zi]
    repeat' (first | assumption | apply And.intro | intro _)
    all_goals first | omega | (refine zpost hC ?_; rw [if_pos (by omega)]; unfold tT; congr 1; omega) | (refine zpost hC ?_; rw [if_neg (by omega)])
def B_wrong (M : Nat → Nat → Int) (post : Option ZV → (Nat → Nat → Int) → Prop) : Prop := okM M ∧ ∀ M2 : ZMm, sP M2 = wrg (sP M) → okM M2 → Fx M M2 → post none M2
def C_wrong : ZC := fun as h post => match as with
  | [.inr (.inr (.inl 87))] => h.1 = zG ∧ B_wrong h.2 (fun v M => post v (zG, M))
  | _ => False
theorem r_wrong {M : Nat → Nat → Int} {post : Option ZV → ZH → Prop} : C_wrong [.inr (.inr (.inl 87))] (zG, M) post = B_wrong M (fun v M => post v (zG, M)) := by show (zG = zG ∧ _) = _; simp
def ct_wrong : Nat → ZC := fun n => fun _ _ _ => False
theorem c_wrong {E : ZE} {d : Nat} (hd : 1 ≤ d) : zMet E d mX11_wrong C_wrong := by
  refine zmet_of (o := 11) (ini := false) (CT := ct_wrong) gd_X11_wrong rfl (fun h => by cases h) (by omega) ?_ ?_
  · intro n as h post hh
    unfold ct_wrong at hh
    exact hh.elim
  intro as h post hC
  match as, hC with
  | [.inr (.inr (.inl 87))], hC =>
    refine ⟨Nat.le_of_ble_eq_true rfl, fun X hX => bs_X11_wrong_0 hX ?_⟩
    obtain ⟨G, M⟩ := h
    obtain ⟨hG, hC⟩ := hC
    dsimp only at hG
    subst hG
    simp only [B_wrong] at hC
    show bk_X11_wrong_0 E ct_wrong X _ [some (.inr (.inr (.inl 87)))] [] (zG, M) (0, 0)
    obtain ⟨ho, hC⟩ := hC
    obtain ⟨o1, o2, o3, o4⟩ := ho.1
    have en := ho.sz
    have ea := ho.pl
    have e8 : (sP M).2.1 = M 87 8 := rfl
    have z8 : zr (M 87 8) = M 87 8 := zr_of (by omega) (by omega)
    have fin : ∀ v, v = (if M 87 8 < 0 then M 87 6 else M 87 8) → post none (zG, zup M 87 8 v) := by
      intro v hv
      have fx : Fx M (zup M 87 8 v) := fun x i _ q2 => by simp only [zup]; rw [if_neg (by omega)]
      have e : sP (zup M 87 8 v) = wrg (sP M) := by
        unfold wrg
        rw [e8, ← ea, ← hv]
        unfold sP
        rw [zup_eq, zup_k (by decide), zup_k (by decide), zup_ne _ (by decide)]
      refine hC _ e (fx.ok ho ?_ ?_ ?_) fx
      · rw [e]; exact okS_wrg ho.1
      · rw [zup_k (by decide)]; exact ho.2.1
      · rw [zup_k (by decide)]; exact ho.2.2.1
    simp only [bk_X11_wrong_0, k_X11_wrong_0, bk_X11_wrong_15, k_X11_wrong_15, bk_X11_wrong_19, k_X11_wrong_19, ↓e_rk1, ↓e_rk0, ↓e_sk0, ↓e_sks, ↓e_ldi0, ↓e_ldis, ↓e_ldl0, ↓e_ldls, ↓e_lda0, ↓e_ldas, ↓e_ok0, ↓e_okss, ↓e_ok1i, ↓e_ok1r, ↓e_ok1n, ↓e_sti, ↓e_sta, ↓e_1, ↓e_2, ↓e_l1, ↓e_l2, ↓e_li, ↓e_sw0, ↓e_sws, ↓e_ceq, ↓e_cne, ↓e_clt, ↓e_cge, ↓e_cgt, ↓e_cle, ↓e_nil, ↓e_cons, ↓e_iconst, ↓e_bipush, ↓e_sipush, ↓e_ldc, ↓e_ldcw, ↓e_ldc2, ↓e_lconst, ↓e_iloadn, ↓e_iload, ↓e_lloadn, ↓e_lload, ↓e_aloadn, ↓e_aload, ↓e_istoren, ↓e_istore, ↓e_astoren, ↓e_astore, ↓e_add, ↓e_iinc, ↓e_iadd, ↓e_isub, ↓e_imul, ↓e_iand, ↓e_ior, ↓e_ixor, ↓e_ishl, ↓e_iushr, ↓e_idiv, ↓e_irem, ↓e_ineg, ↓e_i2l, ↓e_i2b, ↓e_i2s, ↓e_l2i, ↓e_land, ↓e_lor, ↓e_lshl, ↓e_lshr, ↓e_lushr, ↓e_lcmp, ↓e_dupi, ↓e_dupr, ↓e_popi, ↓e_dup2, ↓e_goto, ↓e_if, ↓e_icmp, ↓e_tsw, ↓e_lsw, ↓e_getf, ↓e_putf, ↓e_gets, ↓e_iald, ↓e_cald, ↓e_iast, ↓e_aald, ↓e_aast, ↓e_len, ↓e_copy, ↓e_abs, ↓e_max, ↓e_min, ↓e_iret, ↓e_aret, ↓e_vret, ↓e_is0, ↓e_is1, ↓e_is2, ↓e_is3, ↓e_is4, ↓e_iv1, ↓e_iv2, ↓e_iv3, ↓e_iv4, ↓e_iv5, ↓e_iv6, ↓rt_X11_wrong, ↓reduceIte, Nat.reduceAdd, Nat.reduceEqDiff, ↓zcl0, ↓zclv, List.map_nil, List.sum_nil, List.map_cons, List.sum_cons, zcat, true_and, and_true, Nat.reduceLeDiff, Nat.reduceAdd, eq_self, forall_const, e_ok0, e_okss, e_ok1i, e_ok1r, e_ok1n, Int.reduceToNat, Int.reduceAdd, Int.reduceMul, Int.reduceSub, Int.reduceNeg, Int.reduceLT, Int.reduceLE, Int.reduceEq, not_false_eq_true, not_true_eq_false, false_implies, true_implies, implies_true, Int.reduceDiv, Int.reduceMod, zr8_zr, zr_zbo, z01_zbo, z01_0, z01_1, zbo_eq0, zup_eq, zup_o, zup_k, ne_eq, ↓v_87, ↓g_87_0, ↓l_88, ↓s_88, ↓n_88, ↓g_87_1, ↓l_89, ↓s_89, ↓n_89, ↓g_87_2, ↓l_90, ↓s_90, ↓n_90, ↓g_87_3, ↓p_87_3, ↓g_87_4, ↓l_91, ↓s_91, ↓n_91, ↓g_87_5, ↓p_87_5, ↓g_87_6, ↓p_87_6, ↓g_87_7, ↓p_87_7, ↓g_87_8, ↓p_87_8, ↓g_87_9, ↓p_87_9, ↓g_87_10, ↓p_87_10, ↓g_87_11, ↓l_92, ↓s_92, ↓n_92, ↓g_87_12, ↓l_93, ↓s_93, ↓n_93, ↓g_87_13, ↓p_87_13, ↓g_87_14, ↓l_94, ↓s_94, ↓n_94, ↓g_87_15, ↓p_87_15, ↓g_87_16, ↓l_95, ↓s_95, ↓n_95, ↓g_87_17, ↓l_96, ↓s_96, ↓n_96, ↓g_87_18, ↓l_97, ↓s_97, ↓n_97, ↓g_87_19, ↓p_87_19, ↓g_87_20, ↓p_87_20, ↓g_87_21, ↓l_98, ↓s_98, ↓n_98, ↓g_87_22, ↓l_99, ↓s_99, ↓n_99, ↓g_87_23, ↓l_100, ↓s_100, ↓n_100, ↓g_87_24, ↓l_101, ↓s_101, ↓n_101, z8]
    refine ⟨fun c => fin _ ?_, fun c => fin _ ?_⟩
    · first | rw [if_pos c] | rw [if_neg c]
    · first | rw [if_pos c] | rw [if_neg c]
def B_takes (c : Int) (M : Nat → Nat → Int) (post : Option ZV → (Nat → Nat → Int) → Prop) : Prop := okM M ∧ (0 ≤ c ∧ c ≤ 200) ∧ (hre (tT M) (tn M) (sP M) = c → ∀ M2 : ZMm, sP M2 = adv (sP M) → okM M2 → Fx M M2 → post (some (.inl 1)) M2) ∧ (¬ hre (tT M) (tn M) (sP M) = c → post (some (.inl 0)) M)
def C_takes : ZC := fun as h post => match as with
  | [.inr (.inr (.inl 87)), .inl c] => h.1 = zG ∧ B_takes c h.2 (fun v M => post v (zG, M))
  | _ => False
theorem r_takes {c : Int} {M : Nat → Nat → Int} {post : Option ZV → ZH → Prop} : C_takes [.inr (.inr (.inl 87)), .inl c] (zG, M) post = B_takes c M (fun v M => post v (zG, M)) := by show (zG = zG ∧ _) = _; simp
def ct_takes : Nat → ZC := fun n => if n = 132 then C_here else fun _ _ _ => False
theorem ct_takes_here {as : List ZV} {h : ZH} {post : Option ZV → ZH → Prop} : ct_takes 132 as h post = C_here as h post := rfl
theorem c_takes {E : ZE} {d : Nat} (hd : 2 ≤ d) : zMet E d mX11_takes C_takes := by
  refine zmet_of (o := 11) (ini := false) (CT := ct_takes) gd_X11_takes rfl (fun h => by cases h) (by omega) ?_ ?_
  · intro n as h post hh
    unfold ct_takes at hh
    by_cases c : n = 132
    · subst c; exact ⟨gd_X11_here, 1, by omega, c_here (by omega)⟩
    rw [if_neg c] at hh
    exact hh.elim
  intro as h post hC
  match as, hC with
  | [.inr (.inr (.inl 87)), .inl c], hC =>
    refine ⟨Nat.le_of_ble_eq_true rfl, fun X hX => bs_X11_takes_0 hX ?_⟩
    obtain ⟨G, M⟩ := h
    obtain ⟨hG, hC⟩ := hC
    dsimp only at hG
    subst hG
    simp only [B_takes] at hC
    show bk_X11_takes_0 E ct_takes X _ [some (.inr (.inr (.inl 87))), some (.inl c)] [] (zG, M) (0, 0)
    obtain ⟨ho, hc, hC1, hC2⟩ := hC
    have zh := zr_rg (hre_rg ho)
    have zc9 : zr c = c := zr_of (by omega) (by omega)
    simp only [bk_X11_takes_0, k_X11_takes_0, bk_X11_takes_10, k_X11_takes_10, ↓e_rk1, ↓e_rk0, ↓e_sk0, ↓e_sks, ↓e_ldi0, ↓e_ldis, ↓e_ldl0, ↓e_ldls, ↓e_lda0, ↓e_ldas, ↓e_ok0, ↓e_okss, ↓e_ok1i, ↓e_ok1r, ↓e_ok1n, ↓e_sti, ↓e_sta, ↓e_1, ↓e_2, ↓e_l1, ↓e_l2, ↓e_li, ↓e_sw0, ↓e_sws, ↓e_ceq, ↓e_cne, ↓e_clt, ↓e_cge, ↓e_cgt, ↓e_cle, ↓e_nil, ↓e_cons, ↓e_iconst, ↓e_bipush, ↓e_sipush, ↓e_ldc, ↓e_ldcw, ↓e_ldc2, ↓e_lconst, ↓e_iloadn, ↓e_iload, ↓e_lloadn, ↓e_lload, ↓e_aloadn, ↓e_aload, ↓e_istoren, ↓e_istore, ↓e_astoren, ↓e_astore, ↓e_add, ↓e_iinc, ↓e_iadd, ↓e_isub, ↓e_imul, ↓e_iand, ↓e_ior, ↓e_ixor, ↓e_ishl, ↓e_iushr, ↓e_idiv, ↓e_irem, ↓e_ineg, ↓e_i2l, ↓e_i2b, ↓e_i2s, ↓e_l2i, ↓e_land, ↓e_lor, ↓e_lshl, ↓e_lshr, ↓e_lushr, ↓e_lcmp, ↓e_dupi, ↓e_dupr, ↓e_popi, ↓e_dup2, ↓e_goto, ↓e_if, ↓e_icmp, ↓e_tsw, ↓e_lsw, ↓e_getf, ↓e_putf, ↓e_gets, ↓e_iald, ↓e_cald, ↓e_iast, ↓e_aald, ↓e_aast, ↓e_len, ↓e_copy, ↓e_abs, ↓e_max, ↓e_min, ↓e_iret, ↓e_aret, ↓e_vret, ↓e_is0, ↓e_is1, ↓e_is2, ↓e_is3, ↓e_is4, ↓e_iv1, ↓e_iv2, ↓e_iv3, ↓e_iv4, ↓e_iv5, ↓e_iv6, ↓rt_X11_takes, ↓reduceIte, Nat.reduceAdd, Nat.reduceEqDiff, ↓zcl0, ↓zclv, List.map_nil, List.sum_nil, List.map_cons, List.sum_cons, zcat, true_and, and_true, Nat.reduceLeDiff, Nat.reduceAdd, eq_self, forall_const, e_ok0, e_okss, e_ok1i, e_ok1r, e_ok1n, zl_0, zl_1, Int.reduceToNat, Int.reduceAdd, Int.reduceMul, Int.reduceSub, Int.reduceNeg, Int.reduceLT, Int.reduceLE, Int.reduceEq, not_false_eq_true, not_true_eq_false, false_implies, true_implies, implies_true, Int.reduceDiv, Int.reduceMod, zr8_zr, zr_zbo, z01_zbo, z01_0, z01_1, zbo_eq0, zup_eq, zup_o, zup_k, ne_eq, ↓ct_takes_here, ↓r_here, ↓B_here, ↓v_87, ↓g_87_0, ↓l_88, ↓s_88, ↓n_88, ↓g_87_1, ↓l_89, ↓s_89, ↓n_89, ↓g_87_2, ↓l_90, ↓s_90, ↓n_90, ↓g_87_3, ↓p_87_3, ↓g_87_4, ↓l_91, ↓s_91, ↓n_91, ↓g_87_5, ↓p_87_5, ↓g_87_6, ↓p_87_6, ↓g_87_7, ↓p_87_7, ↓g_87_8, ↓p_87_8, ↓g_87_9, ↓p_87_9, ↓g_87_10, ↓p_87_10, ↓g_87_11, ↓l_92, ↓s_92, ↓n_92, ↓g_87_12, ↓l_93, ↓s_93, ↓n_93, ↓g_87_13, ↓p_87_13, ↓g_87_14, ↓l_94, ↓s_94, ↓n_94, ↓g_87_15, ↓p_87_15, ↓g_87_16, ↓l_95, ↓s_95, ↓n_95, ↓g_87_17, ↓l_96, ↓s_96, ↓n_96, ↓g_87_18, ↓l_97, ↓s_97, ↓n_97, ↓g_87_19, ↓p_87_19, ↓g_87_20, ↓p_87_20, ↓g_87_21, ↓l_98, ↓s_98, ↓n_98, ↓g_87_22, ↓l_99, ↓s_99, ↓n_99, ↓g_87_23, ↓l_100, ↓s_100, ↓n_100, ↓g_87_24, ↓l_101, ↓s_101, ↓n_101, zh, zc9]
    have one : hre (tT M) (tn M) (sP M) = c → post (some (.inl 1)) (zG, zup M 87 6 (M 87 6 + 1)) := by
      intro e
      have hn := hre_nn (T := tT M) (n := tn M) (s := sP M) (by omega)
      obtain ⟨a1, a2, a3⟩ := adv_M ho hn.1
      exact hC1 e _ a1 a2 a3
    refine ⟨ho, fun e => ?_, fun e => ?_⟩
    · first | exact one e | exact hC2 e
    · first | exact one e | exact hC2 e
def B_nameOf (c : Int) (M : Nat → Nat → Int) (post : Option ZV → (Nat → Nat → Int) → Prop) : Prop := rg c ∧ (M 87 10 = 0 ∨ M 87 10 = 1) ∧ post (some (.inl (nmo (M 87 10) c))) M
def C_nameOf : ZC := fun as h post => match as with
  | [.inr (.inr (.inl 87)), .inl c] => h.1 = zG ∧ B_nameOf c h.2 (fun v M => post v (zG, M))
  | _ => False
theorem r_nameOf {c : Int} {M : Nat → Nat → Int} {post : Option ZV → ZH → Prop} : C_nameOf [.inr (.inr (.inl 87)), .inl c] (zG, M) post = B_nameOf c M (fun v M => post v (zG, M)) := by show (zG = zG ∧ _) = _; simp
def ct_nameOf : Nat → ZC := fun n => fun _ _ _ => False
theorem c_nameOf {E : ZE} {d : Nat} (hd : 1 ≤ d) : zMet E d mX11_nameOf C_nameOf := by
  refine zmet_of (o := 11) (ini := false) (CT := ct_nameOf) gd_X11_nameOf rfl (fun h => by cases h) (by omega) ?_ ?_
  · intro n as h post hh
    unfold ct_nameOf at hh
    exact hh.elim
  intro as h post hC
  match as, hC with
  | [.inr (.inr (.inl 87)), .inl c], hC =>
    refine ⟨Nat.le_of_ble_eq_true rfl, fun X hX => bs_X11_nameOf_0 hX ?_⟩
    obtain ⟨G, M⟩ := h
    obtain ⟨hG, hC⟩ := hC
    dsimp only at hG
    subst hG
    simp only [B_nameOf] at hC
    show bk_X11_nameOf_0 E ct_nameOf X _ [some (.inr (.inr (.inl 87))), some (.inl c)] [] (zG, M) (0, 0)
    obtain ⟨h1, hu, hC⟩ := hC
    have zu : zr (M 87 10) = M 87 10 := zr_of (by omega) (by omega)
    unfold nmo at hC
    have J44 : ¬ c = (if M 87 10 = 0 then 101 else 112) → ¬ c = (if M 87 10 = 0 then 100 else 114) → X 44 [some (.inr (.inr (.inl 87))), some (.inl c)] [] (zG, M) (0, 0) := by
      intro q1 q2
      rw [if_neg q1, if_neg q2] at hC
      refine bs_X11_nameOf_44 hX ?_
      simp only [bk_X11_nameOf_0, k_X11_nameOf_0, bk_X11_nameOf_13, k_X11_nameOf_13, bk_X11_nameOf_15, k_X11_nameOf_15, bk_X11_nameOf_22, k_X11_nameOf_22, bk_X11_nameOf_35, k_X11_nameOf_35, bk_X11_nameOf_37, k_X11_nameOf_37, bk_X11_nameOf_44, k_X11_nameOf_44, bk_X11_nameOf_57, k_X11_nameOf_57, bk_X11_nameOf_59, k_X11_nameOf_59, bk_X11_nameOf_66, k_X11_nameOf_66, bk_X11_nameOf_67, k_X11_nameOf_67, ↓e_rk1, ↓e_rk0, ↓e_sk0, ↓e_sks, ↓e_ldi0, ↓e_ldis, ↓e_ldl0, ↓e_ldls, ↓e_lda0, ↓e_ldas, ↓e_ok0, ↓e_okss, ↓e_ok1i, ↓e_ok1r, ↓e_ok1n, ↓e_sti, ↓e_sta, ↓e_1, ↓e_2, ↓e_l1, ↓e_l2, ↓e_li, ↓e_sw0, ↓e_sws, ↓e_ceq, ↓e_cne, ↓e_clt, ↓e_cge, ↓e_cgt, ↓e_cle, ↓e_nil, ↓e_cons, ↓e_iconst, ↓e_bipush, ↓e_sipush, ↓e_ldc, ↓e_ldcw, ↓e_ldc2, ↓e_lconst, ↓e_iloadn, ↓e_iload, ↓e_lloadn, ↓e_lload, ↓e_aloadn, ↓e_aload, ↓e_istoren, ↓e_istore, ↓e_astoren, ↓e_astore, ↓e_add, ↓e_iinc, ↓e_iadd, ↓e_isub, ↓e_imul, ↓e_iand, ↓e_ior, ↓e_ixor, ↓e_ishl, ↓e_iushr, ↓e_idiv, ↓e_irem, ↓e_ineg, ↓e_i2l, ↓e_i2b, ↓e_i2s, ↓e_l2i, ↓e_land, ↓e_lor, ↓e_lshl, ↓e_lshr, ↓e_lushr, ↓e_lcmp, ↓e_dupi, ↓e_dupr, ↓e_popi, ↓e_dup2, ↓e_goto, ↓e_if, ↓e_icmp, ↓e_tsw, ↓e_lsw, ↓e_getf, ↓e_putf, ↓e_gets, ↓e_iald, ↓e_cald, ↓e_iast, ↓e_aald, ↓e_aast, ↓e_len, ↓e_copy, ↓e_abs, ↓e_max, ↓e_min, ↓e_iret, ↓e_aret, ↓e_vret, ↓e_is0, ↓e_is1, ↓e_is2, ↓e_is3, ↓e_is4, ↓e_iv1, ↓e_iv2, ↓e_iv3, ↓e_iv4, ↓e_iv5, ↓e_iv6, ↓rt_X11_nameOf, ↓reduceIte, Nat.reduceAdd, Nat.reduceEqDiff, ↓zcl0, ↓zclv, List.map_nil, List.sum_nil, List.map_cons, List.sum_cons, zcat, true_and, and_true, Nat.reduceLeDiff, Nat.reduceAdd, eq_self, forall_const, e_ok0, e_okss, e_ok1i, e_ok1r, e_ok1n, zl_m1, zl_0, zl_1, zl_2, zl_100, zl_101, zl_112, zl_114, zl_119, zl_121, Int.reduceToNat, Int.reduceAdd, Int.reduceMul, Int.reduceSub, Int.reduceNeg, Int.reduceLT, Int.reduceLE, Int.reduceEq, not_false_eq_true, not_true_eq_false, false_implies, true_implies, implies_true, Int.reduceDiv, Int.reduceMod, zr8_zr, zr_zbo, z01_zbo, z01_0, z01_1, zbo_eq0, zup_eq, zup_o, zup_k, ne_eq, ↓v_87, ↓g_87_0, ↓l_88, ↓s_88, ↓n_88, ↓g_87_1, ↓l_89, ↓s_89, ↓n_89, ↓g_87_2, ↓l_90, ↓s_90, ↓n_90, ↓g_87_3, ↓p_87_3, ↓g_87_4, ↓l_91, ↓s_91, ↓n_91, ↓g_87_5, ↓p_87_5, ↓g_87_6, ↓p_87_6, ↓g_87_7, ↓p_87_7, ↓g_87_8, ↓p_87_8, ↓g_87_9, ↓p_87_9, ↓g_87_10, ↓p_87_10, ↓g_87_11, ↓l_92, ↓s_92, ↓n_92, ↓g_87_12, ↓l_93, ↓s_93, ↓n_93, ↓g_87_13, ↓p_87_13, ↓g_87_14, ↓l_94, ↓s_94, ↓n_94, ↓g_87_15, ↓p_87_15, ↓g_87_16, ↓l_95, ↓s_95, ↓n_95, ↓g_87_17, ↓l_96, ↓s_96, ↓n_96, ↓g_87_18, ↓l_97, ↓s_97, ↓n_97, ↓g_87_19, ↓p_87_19, ↓g_87_20, ↓p_87_20, ↓g_87_21, ↓l_98, ↓s_98, ↓n_98, ↓g_87_22, ↓l_99, ↓s_99, ↓n_99, ↓g_87_23, ↓l_100, ↓s_100, ↓n_100, ↓g_87_24, ↓l_101, ↓s_101, ↓n_101, zu, zr_rg, h1]
      rcases hu with hu | hu <;> rw [hu] at hC ⊢ <;> repeat' (first | assumption | apply And.intro | intro _)
      all_goals first | omega | (refine zpost hC ?_; (repeat' split) <;> first | rfl | omega)
    have J22 : ¬ c = (if M 87 10 = 0 then 101 else 112) → X 22 [some (.inr (.inr (.inl 87))), some (.inl c)] [] (zG, M) (0, 0) := by
      intro q1
      rw [if_neg q1] at hC
      refine bs_X11_nameOf_22 hX ?_
      simp only [bk_X11_nameOf_0, k_X11_nameOf_0, bk_X11_nameOf_13, k_X11_nameOf_13, bk_X11_nameOf_15, k_X11_nameOf_15, bk_X11_nameOf_22, k_X11_nameOf_22, bk_X11_nameOf_35, k_X11_nameOf_35, bk_X11_nameOf_37, k_X11_nameOf_37, bk_X11_nameOf_44, k_X11_nameOf_44, bk_X11_nameOf_57, k_X11_nameOf_57, bk_X11_nameOf_59, k_X11_nameOf_59, bk_X11_nameOf_66, k_X11_nameOf_66, bk_X11_nameOf_67, k_X11_nameOf_67, ↓e_rk1, ↓e_rk0, ↓e_sk0, ↓e_sks, ↓e_ldi0, ↓e_ldis, ↓e_ldl0, ↓e_ldls, ↓e_lda0, ↓e_ldas, ↓e_ok0, ↓e_okss, ↓e_ok1i, ↓e_ok1r, ↓e_ok1n, ↓e_sti, ↓e_sta, ↓e_1, ↓e_2, ↓e_l1, ↓e_l2, ↓e_li, ↓e_sw0, ↓e_sws, ↓e_ceq, ↓e_cne, ↓e_clt, ↓e_cge, ↓e_cgt, ↓e_cle, ↓e_nil, ↓e_cons, ↓e_iconst, ↓e_bipush, ↓e_sipush, ↓e_ldc, ↓e_ldcw, ↓e_ldc2, ↓e_lconst, ↓e_iloadn, ↓e_iload, ↓e_lloadn, ↓e_lload, ↓e_aloadn, ↓e_aload, ↓e_istoren, ↓e_istore, ↓e_astoren, ↓e_astore, ↓e_add, ↓e_iinc, ↓e_iadd, ↓e_isub, ↓e_imul, ↓e_iand, ↓e_ior, ↓e_ixor, ↓e_ishl, ↓e_iushr, ↓e_idiv, ↓e_irem, ↓e_ineg, ↓e_i2l, ↓e_i2b, ↓e_i2s, ↓e_l2i, ↓e_land, ↓e_lor, ↓e_lshl, ↓e_lshr, ↓e_lushr, ↓e_lcmp, ↓e_dupi, ↓e_dupr, ↓e_popi, ↓e_dup2, ↓e_goto, ↓e_if, ↓e_icmp, ↓e_tsw, ↓e_lsw, ↓e_getf, ↓e_putf, ↓e_gets, ↓e_iald, ↓e_cald, ↓e_iast, ↓e_aald, ↓e_aast, ↓e_len, ↓e_copy, ↓e_abs, ↓e_max, ↓e_min, ↓e_iret, ↓e_aret, ↓e_vret, ↓e_is0, ↓e_is1, ↓e_is2, ↓e_is3, ↓e_is4, ↓e_iv1, ↓e_iv2, ↓e_iv3, ↓e_iv4, ↓e_iv5, ↓e_iv6, ↓rt_X11_nameOf, ↓reduceIte, Nat.reduceAdd, Nat.reduceEqDiff, ↓zcl0, ↓zclv, List.map_nil, List.sum_nil, List.map_cons, List.sum_cons, zcat, true_and, and_true, Nat.reduceLeDiff, Nat.reduceAdd, eq_self, forall_const, e_ok0, e_okss, e_ok1i, e_ok1r, e_ok1n, zl_m1, zl_0, zl_1, zl_2, zl_100, zl_101, zl_112, zl_114, zl_119, zl_121, Int.reduceToNat, Int.reduceAdd, Int.reduceMul, Int.reduceSub, Int.reduceNeg, Int.reduceLT, Int.reduceLE, Int.reduceEq, not_false_eq_true, not_true_eq_false, false_implies, true_implies, implies_true, Int.reduceDiv, Int.reduceMod, zr8_zr, zr_zbo, z01_zbo, z01_0, z01_1, zbo_eq0, zup_eq, zup_o, zup_k, ne_eq, ↓v_87, ↓g_87_0, ↓l_88, ↓s_88, ↓n_88, ↓g_87_1, ↓l_89, ↓s_89, ↓n_89, ↓g_87_2, ↓l_90, ↓s_90, ↓n_90, ↓g_87_3, ↓p_87_3, ↓g_87_4, ↓l_91, ↓s_91, ↓n_91, ↓g_87_5, ↓p_87_5, ↓g_87_6, ↓p_87_6, ↓g_87_7, ↓p_87_7, ↓g_87_8, ↓p_87_8, ↓g_87_9, ↓p_87_9, ↓g_87_10, ↓p_87_10, ↓g_87_11, ↓l_92, ↓s_92, ↓n_92, ↓g_87_12, ↓l_93, ↓s_93, ↓n_93, ↓g_87_13, ↓p_87_13, ↓g_87_14, ↓l_94, ↓s_94, ↓n_94, ↓g_87_15, ↓p_87_15, ↓g_87_16, ↓l_95, ↓s_95, ↓n_95, ↓g_87_17, ↓l_96, ↓s_96, ↓n_96, ↓g_87_18, ↓l_97, ↓s_97, ↓n_97, ↓g_87_19, ↓p_87_19, ↓g_87_20, ↓p_87_20, ↓g_87_21, ↓l_98, ↓s_98, ↓n_98, ↓g_87_22, ↓l_99, ↓s_99, ↓n_99, ↓g_87_23, ↓l_100, ↓s_100, ↓n_100, ↓g_87_24, ↓l_101, ↓s_101, ↓n_101, zu, zr_rg, h1]
      rcases hu with hu | hu <;> rw [hu] at hC J44 q1 ⊢ <;> repeat' (first | assumption | apply And.intro | intro _)
      all_goals first | omega | (apply J44 <;> omega) | (refine zpost hC ?_; (repeat' split) <;> first | rfl | omega)
    simp only [bk_X11_nameOf_0, k_X11_nameOf_0, bk_X11_nameOf_13, k_X11_nameOf_13, bk_X11_nameOf_15, k_X11_nameOf_15, bk_X11_nameOf_22, k_X11_nameOf_22, bk_X11_nameOf_35, k_X11_nameOf_35, bk_X11_nameOf_37, k_X11_nameOf_37, bk_X11_nameOf_44, k_X11_nameOf_44, bk_X11_nameOf_57, k_X11_nameOf_57, bk_X11_nameOf_59, k_X11_nameOf_59, bk_X11_nameOf_66, k_X11_nameOf_66, bk_X11_nameOf_67, k_X11_nameOf_67, ↓e_rk1, ↓e_rk0, ↓e_sk0, ↓e_sks, ↓e_ldi0, ↓e_ldis, ↓e_ldl0, ↓e_ldls, ↓e_lda0, ↓e_ldas, ↓e_ok0, ↓e_okss, ↓e_ok1i, ↓e_ok1r, ↓e_ok1n, ↓e_sti, ↓e_sta, ↓e_1, ↓e_2, ↓e_l1, ↓e_l2, ↓e_li, ↓e_sw0, ↓e_sws, ↓e_ceq, ↓e_cne, ↓e_clt, ↓e_cge, ↓e_cgt, ↓e_cle, ↓e_nil, ↓e_cons, ↓e_iconst, ↓e_bipush, ↓e_sipush, ↓e_ldc, ↓e_ldcw, ↓e_ldc2, ↓e_lconst, ↓e_iloadn, ↓e_iload, ↓e_lloadn, ↓e_lload, ↓e_aloadn, ↓e_aload, ↓e_istoren, ↓e_istore, ↓e_astoren, ↓e_astore, ↓e_add, ↓e_iinc, ↓e_iadd, ↓e_isub, ↓e_imul, ↓e_iand, ↓e_ior, ↓e_ixor, ↓e_ishl, ↓e_iushr, ↓e_idiv, ↓e_irem, ↓e_ineg, ↓e_i2l, ↓e_i2b, ↓e_i2s, ↓e_l2i, ↓e_land, ↓e_lor, ↓e_lshl, ↓e_lshr, ↓e_lushr, ↓e_lcmp, ↓e_dupi, ↓e_dupr, ↓e_popi, ↓e_dup2, ↓e_goto, ↓e_if, ↓e_icmp, ↓e_tsw, ↓e_lsw, ↓e_getf, ↓e_putf, ↓e_gets, ↓e_iald, ↓e_cald, ↓e_iast, ↓e_aald, ↓e_aast, ↓e_len, ↓e_copy, ↓e_abs, ↓e_max, ↓e_min, ↓e_iret, ↓e_aret, ↓e_vret, ↓e_is0, ↓e_is1, ↓e_is2, ↓e_is3, ↓e_is4, ↓e_iv1, ↓e_iv2, ↓e_iv3, ↓e_iv4, ↓e_iv5, ↓e_iv6, ↓rt_X11_nameOf, ↓reduceIte, Nat.reduceAdd, Nat.reduceEqDiff, ↓zcl0, ↓zclv, List.map_nil, List.sum_nil, List.map_cons, List.sum_cons, zcat, true_and, and_true, Nat.reduceLeDiff, Nat.reduceAdd, eq_self, forall_const, e_ok0, e_okss, e_ok1i, e_ok1r, e_ok1n, zl_m1, zl_0, zl_1, zl_2, zl_100, zl_101, zl_112, zl_114, zl_119, zl_121, Int.reduceToNat, Int.reduceAdd, Int.reduceMul, Int.reduceSub, Int.reduceNeg, Int.reduceLT, Int.reduceLE, Int.reduceEq, not_false_eq_true, not_true_eq_false, false_implies, true_implies, implies_true, Int.reduceDiv, Int.reduceMod, zr8_zr, zr_zbo, z01_zbo, z01_0, z01_1, zbo_eq0, zup_eq, zup_o, zup_k, ne_eq, ↓v_87, ↓g_87_0, ↓l_88, ↓s_88, ↓n_88, ↓g_87_1, ↓l_89, ↓s_89, ↓n_89, ↓g_87_2, ↓l_90, ↓s_90, ↓n_90, ↓g_87_3, ↓p_87_3, ↓g_87_4, ↓l_91, ↓s_91, ↓n_91, ↓g_87_5, ↓p_87_5, ↓g_87_6, ↓p_87_6, ↓g_87_7, ↓p_87_7, ↓g_87_8, ↓p_87_8, ↓g_87_9, ↓p_87_9, ↓g_87_10, ↓p_87_10, ↓g_87_11, ↓l_92, ↓s_92, ↓n_92, ↓g_87_12, ↓l_93, ↓s_93, ↓n_93, ↓g_87_13, ↓p_87_13, ↓g_87_14, ↓l_94, ↓s_94, ↓n_94, ↓g_87_15, ↓p_87_15, ↓g_87_16, ↓l_95, ↓s_95, ↓n_95, ↓g_87_17, ↓l_96, ↓s_96, ↓n_96, ↓g_87_18, ↓l_97, ↓s_97, ↓n_97, ↓g_87_19, ↓p_87_19, ↓g_87_20, ↓p_87_20, ↓g_87_21, ↓l_98, ↓s_98, ↓n_98, ↓g_87_22, ↓l_99, ↓s_99, ↓n_99, ↓g_87_23, ↓l_100, ↓s_100, ↓n_100, ↓g_87_24, ↓l_101, ↓s_101, ↓n_101, zu, zr_rg, h1]
    rcases hu with hu | hu <;> rw [hu] at hC J22 ⊢ <;> repeat' (first | assumption | apply And.intro | intro _)
    all_goals first | omega | (apply J22; omega) | (refine zpost hC ?_; (repeat' split) <;> first | rfl | omega)
theorem lay_M {M : ZMm} {v : Int} (ho : okM M) (hf : (sP M).2.1 < 0) (hl : (sP M).2.2.length < (sP M).1) : sP (zup (zup M 93 (M 87 13).toNat v) 87 13 (M 87 13 + 1)) = lyy v (sP M) ∧ okM (zup (zup M 93 (M 87 13).toNat v) 87 13 (M 87 13 + 1)) ∧ Fx M (zup (zup M 93 (M 87 13).toNat v) 87 13 (M 87 13 + 1)) := by
  have fx : Fx M (zup (zup M 93 (M 87 13).toNat v) 87 13 (M 87 13 + 1)) := fun x i q1 q2 => by simp only [zup]; rw [if_neg (by omega), if_neg (by omega)]
  have h13 := ho.2.2.1
  have e : sP (zup (zup M 93 (M 87 13).toNat v) 87 13 (M 87 13 + 1)) = lyy v (sP M) := by
    unfold lyy
    rw [if_pos hf]
    have r6 : zup (zup M 93 (M 87 13).toNat v) 87 13 (M 87 13 + 1) 87 6 = M 87 6 := by rw [zup_k (by decide), zup_o (by decide)]
    have r8 : zup (zup M 93 (M 87 13).toNat v) 87 13 (M 87 13 + 1) 87 8 = M 87 8 := by rw [zup_k (by decide), zup_o (by decide)]
    unfold sP
    rw [r6, r8, zup_eq, show (M 87 13 + 1).toNat = (M 87 13).toNat + 1 by omega, List.range_succ, List.map_append]
    refine congrArg (Prod.mk _) (congrArg (Prod.mk _) ?_)
    dsimp only
    congr 1
    · refine List.map_congr_left (fun k hk => ?_)
      have := List.mem_range.mp hk
      rw [zup_o (by decide), zup_k (by omega)]
    · simp only [List.map_cons, List.map_nil]
      rw [zup_o (by decide), zup_eq]
  refine ⟨e, fx.ok ho ?_ ?_ ?_, fx⟩
  · rw [e]; exact okS_lyy ho.1 (fun _ => hl)
  · rw [zup_k (by decide), zup_o (by decide)]; exact ho.2.1
  · rw [zup_eq]; omega
def B_lay (v : Int) (M : Nat → Nat → Int) (post : Option ZV → (Nat → Nat → Int) → Prop) : Prop := okM M ∧ ((sP M).2.1 < 0 → (sP M).2.2.length < (sP M).1) ∧ ∀ M2 : ZMm, sP M2 = lyy v (sP M) → okM M2 → Fx M M2 → post none M2
def C_lay : ZC := fun as h post => match as with
  | [.inr (.inr (.inl 87)), .inl v] => h.1 = zG ∧ B_lay v h.2 (fun v M => post v (zG, M))
  | _ => False
theorem r_lay {v : Int} {M : Nat → Nat → Int} {post : Option ZV → ZH → Prop} : C_lay [.inr (.inr (.inl 87)), .inl v] (zG, M) post = B_lay v M (fun v M => post v (zG, M)) := by show (zG = zG ∧ _) = _; simp
def ct_lay : Nat → ZC := fun n => fun _ _ _ => False
theorem c_lay {E : ZE} {d : Nat} (hd : 1 ≤ d) : zMet E d mX11_lay C_lay := by
  refine zmet_of (o := 11) (ini := false) (CT := ct_lay) gd_X11_lay rfl (fun h => by cases h) (by omega) ?_ ?_
  · intro n as h post hh
    unfold ct_lay at hh
    exact hh.elim
  intro as h post hC
  match as, hC with
  | [.inr (.inr (.inl 87)), .inl v], hC =>
    refine ⟨Nat.le_of_ble_eq_true rfl, fun X hX => bs_X11_lay_0 hX ?_⟩
    obtain ⟨G, M⟩ := h
    obtain ⟨hG, hC⟩ := hC
    dsimp only at hG
    subst hG
    simp only [B_lay] at hC
    show bk_X11_lay_0 E ct_lay X _ [some (.inr (.inr (.inl 87))), some (.inl v)] [] (zG, M) (0, 0)
    obtain ⟨ho, hl, hC⟩ := hC
    obtain ⟨o1, o2, o3, o4⟩ := ho.1
    have en := ho.sz
    have el := ho.ln
    have e8 : (sP M).2.1 = M 87 8 := rfl
    have z8 : zr (M 87 8) = M 87 8 := zr_of (by omega) (by omega)
    have z13 : zr (M 87 13) = M 87 13 := zr_of (by omega) (by omega)
    simp only [bk_X11_lay_0, k_X11_lay_0, bk_X11_lay_27, k_X11_lay_27, ↓e_rk1, ↓e_rk0, ↓e_sk0, ↓e_sks, ↓e_ldi0, ↓e_ldis, ↓e_ldl0, ↓e_ldls, ↓e_lda0, ↓e_ldas, ↓e_ok0, ↓e_okss, ↓e_ok1i, ↓e_ok1r, ↓e_ok1n, ↓e_sti, ↓e_sta, ↓e_1, ↓e_2, ↓e_l1, ↓e_l2, ↓e_li, ↓e_sw0, ↓e_sws, ↓e_ceq, ↓e_cne, ↓e_clt, ↓e_cge, ↓e_cgt, ↓e_cle, ↓e_nil, ↓e_cons, ↓e_iconst, ↓e_bipush, ↓e_sipush, ↓e_ldc, ↓e_ldcw, ↓e_ldc2, ↓e_lconst, ↓e_iloadn, ↓e_iload, ↓e_lloadn, ↓e_lload, ↓e_aloadn, ↓e_aload, ↓e_istoren, ↓e_istore, ↓e_astoren, ↓e_astore, ↓e_add, ↓e_iinc, ↓e_iadd, ↓e_isub, ↓e_imul, ↓e_iand, ↓e_ior, ↓e_ixor, ↓e_ishl, ↓e_iushr, ↓e_idiv, ↓e_irem, ↓e_ineg, ↓e_i2l, ↓e_i2b, ↓e_i2s, ↓e_l2i, ↓e_land, ↓e_lor, ↓e_lshl, ↓e_lshr, ↓e_lushr, ↓e_lcmp, ↓e_dupi, ↓e_dupr, ↓e_popi, ↓e_dup2, ↓e_goto, ↓e_if, ↓e_icmp, ↓e_tsw, ↓e_lsw, ↓e_getf, ↓e_putf, ↓e_gets, ↓e_iald, ↓e_cald, ↓e_iast, ↓e_aald, ↓e_aast, ↓e_len, ↓e_copy, ↓e_abs, ↓e_max, ↓e_min, ↓e_iret, ↓e_aret, ↓e_vret, ↓e_is0, ↓e_is1, ↓e_is2, ↓e_is3, ↓e_is4, ↓e_iv1, ↓e_iv2, ↓e_iv3, ↓e_iv4, ↓e_iv5, ↓e_iv6, ↓rt_X11_lay, ↓reduceIte, Nat.reduceAdd, Nat.reduceEqDiff, ↓zcl0, ↓zclv, List.map_nil, List.sum_nil, List.map_cons, List.sum_cons, zcat, true_and, and_true, Nat.reduceLeDiff, Nat.reduceAdd, eq_self, forall_const, e_ok0, e_okss, e_ok1i, e_ok1r, e_ok1n, zl_1, Int.reduceToNat, Int.reduceAdd, Int.reduceMul, Int.reduceSub, Int.reduceNeg, Int.reduceLT, Int.reduceLE, Int.reduceEq, not_false_eq_true, not_true_eq_false, false_implies, true_implies, implies_true, Int.reduceDiv, Int.reduceMod, zr8_zr, zr_zbo, z01_zbo, z01_0, z01_1, zbo_eq0, zup_eq, zup_o, zup_k, ne_eq, ↓v_87, ↓g_87_0, ↓l_88, ↓s_88, ↓n_88, ↓g_87_1, ↓l_89, ↓s_89, ↓n_89, ↓g_87_2, ↓l_90, ↓s_90, ↓n_90, ↓g_87_3, ↓p_87_3, ↓g_87_4, ↓l_91, ↓s_91, ↓n_91, ↓g_87_5, ↓p_87_5, ↓g_87_6, ↓p_87_6, ↓g_87_7, ↓p_87_7, ↓g_87_8, ↓p_87_8, ↓g_87_9, ↓p_87_9, ↓g_87_10, ↓p_87_10, ↓g_87_11, ↓l_92, ↓s_92, ↓n_92, ↓g_87_12, ↓l_93, ↓s_93, ↓n_93, ↓g_87_13, ↓p_87_13, ↓g_87_14, ↓l_94, ↓s_94, ↓n_94, ↓g_87_15, ↓p_87_15, ↓g_87_16, ↓l_95, ↓s_95, ↓n_95, ↓g_87_17, ↓l_96, ↓s_96, ↓n_96, ↓g_87_18, ↓l_97, ↓s_97, ↓n_97, ↓g_87_19, ↓p_87_19, ↓g_87_20, ↓p_87_20, ↓g_87_21, ↓l_98, ↓s_98, ↓n_98, ↓g_87_22, ↓l_99, ↓s_99, ↓n_99, ↓g_87_23, ↓l_100, ↓s_100, ↓n_100, ↓g_87_24, ↓l_101, ↓s_101, ↓n_101, z8, z13]
    have no9 : ¬ M 87 8 < 0 → post none (zG, M) := by
      intro q
      refine hC M ?_ ho Fx.rf
      unfold lyy
      rw [if_neg (by omega)]
    have ye : M 87 8 < 0 → post none (zG, zup (zup M 93 (M 87 13).toNat v) 87 13 (M 87 13 + 1)) := by
      intro q
      obtain ⟨a1, a2, a3⟩ := lay_M (v := v) ho (by omega) (hl (by omega))
      exact hC _ a1 a2 a3
    repeat' (first | assumption | apply And.intro | intro _)
    all_goals first | omega | (apply no9; omega) | (apply ye; omega)
