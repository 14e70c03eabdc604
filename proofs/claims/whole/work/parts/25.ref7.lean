/-! THE REFERENCE: yearGoes and what goes on from it -/
def shp (d : Nat → Int) (h k : Nat) : Nat → Int := fun j => if 142 ≤ j ∧ j < 142 + 10 * h then shf d j else if 142 + 10 * h + k < j ∧ j < 142 + 10 * h + 10 then d (j - 1) else d j
def k_X11_yearGoes_0 : List ZI := [(.aload_n 0, 1, (0, [0], [])), (.iconst 0, 1, (0, [], [])), (.invokevirtual 191, 3, (0, [161, 2, 0, 11], [])), (.istore_n 1, 1, (0, [1], [])), (.aload_n 0, 1, (0, [0], [])), (.iconst 1, 1, (0, [], [])), (.invokevirtual 191, 3, (0, [161, 2, 0, 11], [])), (.istore_n 2, 1, (0, [2], [])), (.aload_n 0, 1, (0, [0], [])), (.invokevirtual 194, 3, (0, [153, 1, 0, 11], [])), (.ifCond .le 15, 3, (0, [31], [])), (.aload_n 0, 1, (0, [0], [])), (.iconst 0, 1, (0, [], [])), (.iload_n 1, 1, (0, [1], [])), (.invokevirtual 197, 3, (0, [162, 3, 0, 11], [])), (.aload_n 0, 1, (0, [0], [])), (.iconst 1, 1, (0, [], [])), (.iload_n 2, 1, (0, [2], [])), (.invokevirtual 197, 3, (0, [162, 3, 0, 11], []))]
theorem ok_X11_yearGoes_0 : zOK cX11_yearGoes 11 false 5 k_X11_yearGoes_0 0 = true := zOK_by (by decide +kernel)
def k_X11_yearGoes_31 : List ZI := [(.iconst 0, 1, (0, [], [])), (.istore_n 3, 1, (0, [3], []))]
theorem ok_X11_yearGoes_31 : zOK cX11_yearGoes 11 false 5 k_X11_yearGoes_31 31 = true := zOK_by (by decide +kernel)
def k_X11_yearGoes_33 : List ZI := [(.iload_n 3, 1, (0, [3], [])), (.iconst 2, 1, (0, [], [])), (.if_icmp .ge 77, 3, (0, [112], [])), (.bipush 9, 2, (0, [], [])), (.istore 4, 2, (0, [4], []))]
theorem ok_X11_yearGoes_33 : zOK cX11_yearGoes 11 false 5 k_X11_yearGoes_33 33 = true := zOK_by (by decide +kernel)
def k_X11_yearGoes_42 : List ZI := [(.iload 4, 2, (0, [4], [])), (.ifCond .le 43, 3, (0, [87], [])), (.aload_n 0, 1, (0, [0], [])), (.getfield 7, 3, (0, [11, 0], [])), (.sipush 142, 3, (0, [], [])), (.bipush 10, 2, (0, [], [])), (.iload_n 3, 1, (0, [3], [])), (.imul, 1, (0, [], [])), (.iadd, 1, (0, [], [])), (.iload 4, 2, (0, [4], [])), (.iadd, 1, (0, [], [])), (.aload_n 0, 1, (0, [0], [])), (.getfield 7, 3, (0, [11, 0], [])), (.sipush 142, 3, (0, [], [])), (.bipush 10, 2, (0, [], [])), (.iload_n 3, 1, (0, [3], [])), (.imul, 1, (0, [], [])), (.iadd, 1, (0, [], [])), (.iload 4, 2, (0, [4], [])), (.iadd, 1, (0, [], [])), (.iconst 1, 1, (0, [], [])), (.isub, 1, (0, [], [])), (.iaload, 1, (0, [], [])), (.iastore, 1, (0, [], [])), (.iinc 4 (-1), 3, (0, [4], [])), (.goto (-42), 3, (0, [42], []))]
theorem ok_X11_yearGoes_42 : zOK cX11_yearGoes 11 false 5 k_X11_yearGoes_42 42 = true := zOK_by (by decide +kernel)
def k_X11_yearGoes_87 : List ZI := [(.aload_n 0, 1, (0, [0], [])), (.getfield 7, 3, (0, [11, 0], [])), (.sipush 142, 3, (0, [], [])), (.bipush 10, 2, (0, [], [])), (.iload_n 3, 1, (0, [3], [])), (.imul, 1, (0, [], [])), (.iadd, 1, (0, [], [])), (.aload_n 0, 1, (0, [0], [])), (.iload_n 3, 1, (0, [3], [])), (.iconst 0, 1, (0, [], [])), (.invokevirtual 161, 3, (0, [127, 3, 0, 11], [])), (.iastore, 1, (0, [], [])), (.iinc 3 1, 3, (0, [3], [])), (.goto (-76), 3, (0, [33], []))]
theorem ok_X11_yearGoes_87 : zOK cX11_yearGoes 11 false 5 k_X11_yearGoes_87 87 = true := zOK_by (by decide +kernel)
def k_X11_yearGoes_112 : List ZI := [(.aload_n 0, 1, (0, [0], [])), (.getfield 7, 3, (0, [11, 0], [])), (.iconst 1, 1, (0, [], [])), (.dup2, 1, (0, [], [])), (.iaload, 1, (0, [], [])), (.iconst 1, 1, (0, [], [])), (.iadd, 1, (0, [], [])), (.iastore, 1, (0, [], [])), (.return_, 1, (0, [], []))]
theorem ok_X11_yearGoes_112 : zOK cX11_yearGoes 11 false 5 k_X11_yearGoes_112 112 = true := zOK_by (by decide +kernel)
theorem rt_X11_yearGoes {g : Nat} {post : Option ZV → ZH → Prop} {h : ZH} {b : ZB2} : zRt mX11_yearGoes g post none h b = (post none h ∧ h.1.length = g) := by show (_ ∧ _ ∧ True) = _; simp
def bk_X11_yearGoes_0 (E : ZE) (CT : Nat → ZC) (X : ZK) (Rt : ZR) (ls : ZL) (st : List ZV) (h : ZH) (b : ZB2) : Prop := zB E CT k_X11_yearGoes_0 0 ls st h b (fun t ls st h b => X t ls st h b) Rt
theorem bs_X11_yearGoes_0 {E : ZE} {CT : Nat → ZC} {X : ZK} {Rt : ZR} {ls : ZL} {st : List ZV} {h : ZH} {b : ZB2} (hX : zCl E mX11_yearGoes 11 false CT Rt X) (q : bk_X11_yearGoes_0 E CT X Rt ls st h b) : X 0 ls st h b := by
  refine hX k_X11_yearGoes_0 0 ok_X11_yearGoes_0 _ ?_ ls st h b q
  exact fun t ls st h b q => q
def bk_X11_yearGoes_31 (E : ZE) (CT : Nat → ZC) (X : ZK) (Rt : ZR) (ls : ZL) (st : List ZV) (h : ZH) (b : ZB2) : Prop := zB E CT k_X11_yearGoes_31 31 ls st h b (fun t ls st h b => X t ls st h b) Rt
theorem bs_X11_yearGoes_31 {E : ZE} {CT : Nat → ZC} {X : ZK} {Rt : ZR} {ls : ZL} {st : List ZV} {h : ZH} {b : ZB2} (hX : zCl E mX11_yearGoes 11 false CT Rt X) (q : bk_X11_yearGoes_31 E CT X Rt ls st h b) : X 31 ls st h b := by
  refine hX k_X11_yearGoes_31 31 ok_X11_yearGoes_31 _ ?_ ls st h b q
  exact fun t ls st h b q => q
def bk_X11_yearGoes_112 (E : ZE) (CT : Nat → ZC) (X : ZK) (Rt : ZR) (ls : ZL) (st : List ZV) (h : ZH) (b : ZB2) : Prop := zB E CT k_X11_yearGoes_112 112 ls st h b (fun t ls st h b => X t ls st h b) Rt
theorem bs_X11_yearGoes_112 {E : ZE} {CT : Nat → ZC} {X : ZK} {Rt : ZR} {ls : ZL} {st : List ZV} {h : ZH} {b : ZB2} (hX : zCl E mX11_yearGoes 11 false CT Rt X) (q : bk_X11_yearGoes_112 E CT X Rt ls st h b) : X 112 ls st h b := by
  refine hX k_X11_yearGoes_112 112 ok_X11_yearGoes_112 _ ?_ ls st h b q
  exact fun t ls st h b q => q
def bk_X11_yearGoes_33 (E : ZE) (CT : Nat → ZC) (X : ZK) (Rt : ZR) (ls : ZL) (st : List ZV) (h : ZH) (b : ZB2) : Prop := zB E CT k_X11_yearGoes_33 33 ls st h b (fun t ls st h b => if t = 112 then bk_X11_yearGoes_112 E CT X Rt ls st h b else X t ls st h b) Rt
theorem bs_X11_yearGoes_33 {E : ZE} {CT : Nat → ZC} {X : ZK} {Rt : ZR} {ls : ZL} {st : List ZV} {h : ZH} {b : ZB2} (hX : zCl E mX11_yearGoes 11 false CT Rt X) (q : bk_X11_yearGoes_33 E CT X Rt ls st h b) : X 33 ls st h b := by
  refine hX k_X11_yearGoes_33 33 ok_X11_yearGoes_33 _ ?_ ls st h b q
  exact by
    intro t ls st h b q
    by_cases c : t = 112
    · subst c; rw [if_pos rfl] at q; exact bs_X11_yearGoes_112 hX q
    rw [if_neg c] at q
    exact q
def bk_X11_yearGoes_87 (E : ZE) (CT : Nat → ZC) (X : ZK) (Rt : ZR) (ls : ZL) (st : List ZV) (h : ZH) (b : ZB2) : Prop := zB E CT k_X11_yearGoes_87 87 ls st h b (fun t ls st h b => X t ls st h b) Rt
theorem bs_X11_yearGoes_87 {E : ZE} {CT : Nat → ZC} {X : ZK} {Rt : ZR} {ls : ZL} {st : List ZV} {h : ZH} {b : ZB2} (hX : zCl E mX11_yearGoes 11 false CT Rt X) (q : bk_X11_yearGoes_87 E CT X Rt ls st h b) : X 87 ls st h b := by
  refine hX k_X11_yearGoes_87 87 ok_X11_yearGoes_87 _ ?_ ls st h b q
  exact fun t ls st h b q => q
def bk_X11_yearGoes_42 (E : ZE) (CT : Nat → ZC) (X : ZK) (Rt : ZR) (ls : ZL) (st : List ZV) (h : ZH) (b : ZB2) : Prop := zB E CT k_X11_yearGoes_42 42 ls st h b (fun t ls st h b => if t = 87 then bk_X11_yearGoes_87 E CT X Rt ls st h b else X t ls st h b) Rt
theorem bs_X11_yearGoes_42 {E : ZE} {CT : Nat → ZC} {X : ZK} {Rt : ZR} {ls : ZL} {st : List ZV} {h : ZH} {b : ZB2} (hX : zCl E mX11_yearGoes 11 false CT Rt X) (q : bk_X11_yearGoes_42 E CT X Rt ls st h b) : X 42 ls st h b := by
  refine hX k_X11_yearGoes_42 42 ok_X11_yearGoes_42 _ ?_ ls st h b q
  exact by
    intro t ls st h b q
    by_cases c : t = 87
    · subst c; rw [if_pos rfl] at q; exact bs_X11_yearGoes_87 hX q
    rw [if_neg c] at q
    exact q
-- X11_yearGoes: cuts [31, 33, 42]
def k_X11_yearsGo_0 : List ZI := [(.iconst 0, 1, (0, [], [])), (.istore_n 2, 1, (0, [2], []))]
theorem ok_X11_yearsGo_0 : zOK cX11_yearsGo 11 false 3 k_X11_yearsGo_0 0 = true := zOK_by (by decide +kernel)
def k_X11_yearsGo_2 : List ZI := [(.iload_n 2, 1, (0, [2], [])), (.iload_n 1, 1, (0, [1], [])), (.if_icmp .ge 13, 3, (0, [17], [])), (.aload_n 0, 1, (0, [0], [])), (.invokevirtual 200, 3, (0, [163, 1, 0, 11], [])), (.iinc 2 1, 3, (0, [2], [])), (.goto (-12), 3, (0, [2], []))]
theorem ok_X11_yearsGo_2 : zOK cX11_yearsGo 11 false 3 k_X11_yearsGo_2 2 = true := zOK_by (by decide +kernel)
def k_X11_yearsGo_17 : List ZI := [(.return_, 1, (0, [], []))]
theorem ok_X11_yearsGo_17 : zOK cX11_yearsGo 11 false 3 k_X11_yearsGo_17 17 = true := zOK_by (by decide +kernel)
theorem rt_X11_yearsGo {g : Nat} {post : Option ZV → ZH → Prop} {h : ZH} {b : ZB2} : zRt mX11_yearsGo g post none h b = (post none h ∧ h.1.length = g) := by show (_ ∧ _ ∧ True) = _; simp
def bk_X11_yearsGo_0 (E : ZE) (CT : Nat → ZC) (X : ZK) (Rt : ZR) (ls : ZL) (st : List ZV) (h : ZH) (b : ZB2) : Prop := zB E CT k_X11_yearsGo_0 0 ls st h b (fun t ls st h b => X t ls st h b) Rt
theorem bs_X11_yearsGo_0 {E : ZE} {CT : Nat → ZC} {X : ZK} {Rt : ZR} {ls : ZL} {st : List ZV} {h : ZH} {b : ZB2} (hX : zCl E mX11_yearsGo 11 false CT Rt X) (q : bk_X11_yearsGo_0 E CT X Rt ls st h b) : X 0 ls st h b := by
  refine hX k_X11_yearsGo_0 0 ok_X11_yearsGo_0 _ ?_ ls st h b q
  exact fun t ls st h b q => q
def bk_X11_yearsGo_17 (E : ZE) (CT : Nat → ZC) (X : ZK) (Rt : ZR) (ls : ZL) (st : List ZV) (h : ZH) (b : ZB2) : Prop := zB E CT k_X11_yearsGo_17 17 ls st h b (fun t ls st h b => X t ls st h b) Rt
theorem bs_X11_yearsGo_17 {E : ZE} {CT : Nat → ZC} {X : ZK} {Rt : ZR} {ls : ZL} {st : List ZV} {h : ZH} {b : ZB2} (hX : zCl E mX11_yearsGo 11 false CT Rt X) (q : bk_X11_yearsGo_17 E CT X Rt ls st h b) : X 17 ls st h b := by
  refine hX k_X11_yearsGo_17 17 ok_X11_yearsGo_17 _ ?_ ls st h b q
  exact fun t ls st h b q => q
def bk_X11_yearsGo_2 (E : ZE) (CT : Nat → ZC) (X : ZK) (Rt : ZR) (ls : ZL) (st : List ZV) (h : ZH) (b : ZB2) : Prop := zB E CT k_X11_yearsGo_2 2 ls st h b (fun t ls st h b => if t = 17 then bk_X11_yearsGo_17 E CT X Rt ls st h b else X t ls st h b) Rt
theorem bs_X11_yearsGo_2 {E : ZE} {CT : Nat → ZC} {X : ZK} {Rt : ZR} {ls : ZL} {st : List ZV} {h : ZH} {b : ZB2} (hX : zCl E mX11_yearsGo 11 false CT Rt X) (q : bk_X11_yearsGo_2 E CT X Rt ls st h b) : X 2 ls st h b := by
  refine hX k_X11_yearsGo_2 2 ok_X11_yearsGo_2 _ ?_ ls st h b q
  exact by
    intro t ls st h b q
    by_cases c : t = 17
    · subst c; rw [if_pos rfl] at q; exact bs_X11_yearsGo_17 hX q
    rw [if_neg c] at q
    exact q
-- X11_yearsGo: cuts [2]
def k_X11_keepAside_0 : List ZI := [(.iconst 0, 1, (0, [], [])), (.istore_n 1, 1, (0, [1], []))]
theorem ok_X11_keepAside_0 : zOK cX11_keepAside 11 false 2 k_X11_keepAside_0 0 = true := zOK_by (by decide +kernel)
def k_X11_keepAside_2 : List ZI := [(.iload_n 1, 1, (0, [1], [])), (.sipush 186, 3, (0, [], [])), (.if_icmp .ge 21, 3, (0, [27], [])), (.aload_n 0, 1, (0, [0], [])), (.getfield 16, 3, (0, [11, 2], [])), (.iload_n 1, 1, (0, [1], [])), (.aload_n 0, 1, (0, [0], [])), (.getfield 7, 3, (0, [11, 0], [])), (.iload_n 1, 1, (0, [1], [])), (.iaload, 1, (0, [], [])), (.iastore, 1, (0, [], [])), (.iinc 1 1, 3, (0, [1], [])), (.goto (-22), 3, (0, [2], []))]
theorem ok_X11_keepAside_2 : zOK cX11_keepAside 11 false 2 k_X11_keepAside_2 2 = true := zOK_by (by decide +kernel)
def k_X11_keepAside_27 : List ZI := [(.return_, 1, (0, [], []))]
theorem ok_X11_keepAside_27 : zOK cX11_keepAside 11 false 2 k_X11_keepAside_27 27 = true := zOK_by (by decide +kernel)
theorem rt_X11_keepAside {g : Nat} {post : Option ZV → ZH → Prop} {h : ZH} {b : ZB2} : zRt mX11_keepAside g post none h b = (post none h ∧ h.1.length = g) := by show (_ ∧ _ ∧ True) = _; simp
def bk_X11_keepAside_0 (E : ZE) (CT : Nat → ZC) (X : ZK) (Rt : ZR) (ls : ZL) (st : List ZV) (h : ZH) (b : ZB2) : Prop := zB E CT k_X11_keepAside_0 0 ls st h b (fun t ls st h b => X t ls st h b) Rt
theorem bs_X11_keepAside_0 {E : ZE} {CT : Nat → ZC} {X : ZK} {Rt : ZR} {ls : ZL} {st : List ZV} {h : ZH} {b : ZB2} (hX : zCl E mX11_keepAside 11 false CT Rt X) (q : bk_X11_keepAside_0 E CT X Rt ls st h b) : X 0 ls st h b := by
  refine hX k_X11_keepAside_0 0 ok_X11_keepAside_0 _ ?_ ls st h b q
  exact fun t ls st h b q => q
def bk_X11_keepAside_27 (E : ZE) (CT : Nat → ZC) (X : ZK) (Rt : ZR) (ls : ZL) (st : List ZV) (h : ZH) (b : ZB2) : Prop := zB E CT k_X11_keepAside_27 27 ls st h b (fun t ls st h b => X t ls st h b) Rt
theorem bs_X11_keepAside_27 {E : ZE} {CT : Nat → ZC} {X : ZK} {Rt : ZR} {ls : ZL} {st : List ZV} {h : ZH} {b : ZB2} (hX : zCl E mX11_keepAside 11 false CT Rt X) (q : bk_X11_keepAside_27 E CT X Rt ls st h b) : X 27 ls st h b := by
  refine hX k_X11_keepAside_27 27 ok_X11_keepAside_27 _ ?_ ls st h b q
  exact fun t ls st h b q => q
def bk_X11_keepAside_2 (E : ZE) (CT : Nat → ZC) (X : ZK) (Rt : ZR) (ls : ZL) (st : List ZV) (h : ZH) (b : ZB2) : Prop := zB E CT k_X11_keepAside_2 2 ls st h b (fun t ls st h b => if t = 27 then bk_X11_keepAside_27 E CT X Rt ls st h b else X t ls st h b) Rt
theorem bs_X11_keepAside_2 {E : ZE} {CT : Nat → ZC} {X : ZK} {Rt : ZR} {ls : ZL} {st : List ZV} {h : ZH} {b : ZB2} (hX : zCl E mX11_keepAside 11 false CT Rt X) (q : bk_X11_keepAside_2 E CT X Rt ls st h b) : X 2 ls st h b := by
  refine hX k_X11_keepAside_2 2 ok_X11_keepAside_2 _ ?_ ls st h b q
  exact by
    intro t ls st h b q
    by_cases c : t = 27
    · subst c; rw [if_pos rfl] at q; exact bs_X11_keepAside_27 hX q
    rw [if_neg c] at q
    exact q
-- X11_keepAside: cuts [2]
def k_X11_putBack_0 : List ZI := [(.iconst 0, 1, (0, [], [])), (.istore_n 1, 1, (0, [1], []))]
theorem ok_X11_putBack_0 : zOK cX11_putBack 11 false 2 k_X11_putBack_0 0 = true := zOK_by (by decide +kernel)
def k_X11_putBack_2 : List ZI := [(.iload_n 1, 1, (0, [1], [])), (.sipush 186, 3, (0, [], [])), (.if_icmp .ge 21, 3, (0, [27], [])), (.aload_n 0, 1, (0, [0], [])), (.getfield 7, 3, (0, [11, 0], [])), (.iload_n 1, 1, (0, [1], [])), (.aload_n 0, 1, (0, [0], [])), (.getfield 16, 3, (0, [11, 2], [])), (.iload_n 1, 1, (0, [1], [])), (.iaload, 1, (0, [], [])), (.iastore, 1, (0, [], [])), (.iinc 1 1, 3, (0, [1], [])), (.goto (-22), 3, (0, [2], []))]
theorem ok_X11_putBack_2 : zOK cX11_putBack 11 false 2 k_X11_putBack_2 2 = true := zOK_by (by decide +kernel)
def k_X11_putBack_27 : List ZI := [(.return_, 1, (0, [], []))]
theorem ok_X11_putBack_27 : zOK cX11_putBack 11 false 2 k_X11_putBack_27 27 = true := zOK_by (by decide +kernel)
theorem rt_X11_putBack {g : Nat} {post : Option ZV → ZH → Prop} {h : ZH} {b : ZB2} : zRt mX11_putBack g post none h b = (post none h ∧ h.1.length = g) := by show (_ ∧ _ ∧ True) = _; simp
def bk_X11_putBack_0 (E : ZE) (CT : Nat → ZC) (X : ZK) (Rt : ZR) (ls : ZL) (st : List ZV) (h : ZH) (b : ZB2) : Prop := zB E CT k_X11_putBack_0 0 ls st h b (fun t ls st h b => X t ls st h b) Rt
theorem bs_X11_putBack_0 {E : ZE} {CT : Nat → ZC} {X : ZK} {Rt : ZR} {ls : ZL} {st : List ZV} {h : ZH} {b : ZB2} (hX : zCl E mX11_putBack 11 false CT Rt X) (q : bk_X11_putBack_0 E CT X Rt ls st h b) : X 0 ls st h b := by
  refine hX k_X11_putBack_0 0 ok_X11_putBack_0 _ ?_ ls st h b q
  exact fun t ls st h b q => q
def bk_X11_putBack_27 (E : ZE) (CT : Nat → ZC) (X : ZK) (Rt : ZR) (ls : ZL) (st : List ZV) (h : ZH) (b : ZB2) : Prop := zB E CT k_X11_putBack_27 27 ls st h b (fun t ls st h b => X t ls st h b) Rt
theorem bs_X11_putBack_27 {E : ZE} {CT : Nat → ZC} {X : ZK} {Rt : ZR} {ls : ZL} {st : List ZV} {h : ZH} {b : ZB2} (hX : zCl E mX11_putBack 11 false CT Rt X) (q : bk_X11_putBack_27 E CT X Rt ls st h b) : X 27 ls st h b := by
  refine hX k_X11_putBack_27 27 ok_X11_putBack_27 _ ?_ ls st h b q
  exact fun t ls st h b q => q
def bk_X11_putBack_2 (E : ZE) (CT : Nat → ZC) (X : ZK) (Rt : ZR) (ls : ZL) (st : List ZV) (h : ZH) (b : ZB2) : Prop := zB E CT k_X11_putBack_2 2 ls st h b (fun t ls st h b => if t = 27 then bk_X11_putBack_27 E CT X Rt ls st h b else X t ls st h b) Rt
theorem bs_X11_putBack_2 {E : ZE} {CT : Nat → ZC} {X : ZK} {Rt : ZR} {ls : ZL} {st : List ZV} {h : ZH} {b : ZB2} (hX : zCl E mX11_putBack 11 false CT Rt X) (q : bk_X11_putBack_2 E CT X Rt ls st h b) : X 2 ls st h b := by
  refine hX k_X11_putBack_2 2 ok_X11_putBack_2 _ ?_ ls st h b q
  exact by
    intro t ls st h b q
    by_cases c : t = 27
    · subst c; rw [if_pos rfl] at q; exact bs_X11_putBack_27 hX q
    rw [if_neg c] at q
    exact q
-- X11_putBack: cuts [2]
def k_X11_apartBehind_0 : List ZI := [(.aload_n 0, 1, (0, [0], [])), (.iload_n 1, 1, (0, [1], [])), (.invokevirtual 245, 3, (0, [164, 2, 0, 11], [])), (.aload_n 0, 1, (0, [0], [])), (.invokevirtual 194, 3, (0, [153, 1, 0, 11], [])), (.istore_n 2, 1, (0, [2], [])), (.aload_n 0, 1, (0, [0], [])), (.invokevirtual 260, 3, (0, [131, 1, 0, 11], [])), (.iload_n 2, 1, (0, [2], [])), (.ireturn, 1, (0, [], []))]
theorem ok_X11_apartBehind_0 : zOK cX11_apartBehind 11 false 3 k_X11_apartBehind_0 0 = true := zOK_by (by decide +kernel)
theorem rt_X11_apartBehind {g : Nat} {post : Option ZV → ZH → Prop} {h : ZH} {b : ZB2} {z : Int} : zRt mX11_apartBehind g post (some (.inl z)) h b = (post (some (.inl z)) h ∧ h.1.length = g) := by show (_ ∧ _ ∧ True) = _; simp
def bk_X11_apartBehind_0 (E : ZE) (CT : Nat → ZC) (X : ZK) (Rt : ZR) (ls : ZL) (st : List ZV) (h : ZH) (b : ZB2) : Prop := zB E CT k_X11_apartBehind_0 0 ls st h b (fun t ls st h b => X t ls st h b) Rt
theorem bs_X11_apartBehind_0 {E : ZE} {CT : Nat → ZC} {X : ZK} {Rt : ZR} {ls : ZL} {st : List ZV} {h : ZH} {b : ZB2} (hX : zCl E mX11_apartBehind 11 false CT Rt X) (q : bk_X11_apartBehind_0 E CT X Rt ls st h b) : X 0 ls st h b := by
  refine hX k_X11_apartBehind_0 0 ok_X11_apartBehind_0 _ ?_ ls st h b q
  exact fun t ls st h b q => q
-- X11_apartBehind: cuts []
def B_yearGoes (M : Nat → Nat → Int) (post : Option ZV → (Nat → Nat → Int) → Prop) : Prop := rg (M 87 15) ∧ Vd (M 88) ∧ M 88 1 < 20000 ∧ ∀ M' : ZMm, M' 88 = yr1 (M 88) (M 87 15) → (∀ x, ¬ x = 88 → ¬ x = 92 → ¬ x = 94 → M' x = M x) → post none M'
def C_yearGoes : ZC := fun as h post => match as with
  | [.inr (.inr (.inl 87))] => h.1 = zG ∧ B_yearGoes h.2 (fun v M => post v (zG, M))
  | _ => False
theorem r_yearGoes {M : Nat → Nat → Int} {post : Option ZV → ZH → Prop} : C_yearGoes [.inr (.inr (.inl 87))] (zG, M) post = B_yearGoes M (fun v M => post v (zG, M)) := by show (zG = zG ∧ _) = _; simp
def ct_yearGoes : Nat → ZC := fun n => if n = 161 then C_hearkens else if n = 153 then C_heads else if n = 162 then C_goes else if n = 127 then C_its else fun _ _ _ => False
theorem ct_yearGoes_hearkens {as : List ZV} {h : ZH} {post : Option ZV → ZH → Prop} : ct_yearGoes 161 as h post = C_hearkens as h post := rfl
theorem ct_yearGoes_heads {as : List ZV} {h : ZH} {post : Option ZV → ZH → Prop} : ct_yearGoes 153 as h post = C_heads as h post := rfl
theorem ct_yearGoes_goes {as : List ZV} {h : ZH} {post : Option ZV → ZH → Prop} : ct_yearGoes 162 as h post = C_goes as h post := rfl
theorem ct_yearGoes_its {as : List ZV} {h : ZH} {post : Option ZV → ZH → Prop} : ct_yearGoes 127 as h post = C_its as h post := rfl
theorem c_yearGoes {E : ZE} {d : Nat} (hd : 7 ≤ d) : zMet E d mX11_yearGoes C_yearGoes := by
  refine zmet_of (o := 11) (ini := false) (CT := ct_yearGoes) gd_X11_yearGoes rfl (fun h => by cases h) (by omega) ?_ ?_
  · intro n as h post hh
    unfold ct_yearGoes at hh
    by_cases c : n = 161
    · subst c; exact ⟨gd_X11_hearkens, 6, by omega, c_hearkens (by omega)⟩
    rw [if_neg c] at hh
    by_cases c : n = 153
    · subst c; exact ⟨gd_X11_heads, 3, by omega, c_heads (by omega)⟩
    rw [if_neg c] at hh
    by_cases c : n = 162
    · subst c; exact ⟨gd_X11_goes, 4, by omega, c_goes (by omega)⟩
    rw [if_neg c] at hh
    by_cases c : n = 127
    · subst c; exact ⟨gd_X11_its, 1, by omega, c_its (by omega)⟩
    rw [if_neg c] at hh
    exact hh.elim
  intro as h post hC
  match as, hC with
  | [.inr (.inr (.inl 87))], hC =>
    refine ⟨Nat.le_of_ble_eq_true rfl, fun X hX => bs_X11_yearGoes_0 hX ?_⟩
    obtain ⟨G, M⟩ := h
    obtain ⟨hG, hC⟩ := hC
    dsimp only at hG
    subst hG
    simp only [B_yearGoes] at hC
    show bk_X11_yearGoes_0 E ct_yearGoes X _ [some (.inr (.inr (.inl 87))), none, none, none, none] [] (zG, M) (0, 0)
    obtain ⟨h1, h2, h3, hC⟩ := hC
    obtain ⟨wo, hwo⟩ : ∃ x, M 87 15 = x := ⟨_, rfl⟩
    rw [hwo] at h1
    obtain ⟨f1, hf1⟩ : ∃ x, hk (M 88) wo 0 = x := ⟨_, rfl⟩
    obtain ⟨f2, hf2⟩ : ∃ x, hk (M 88) wo 1 = x := ⟨_, rfl⟩
    have f1r := hk_rng (wo := wo) (h := 0) h2.1
    have f2r := hk_rng (wo := wo) (h := 1) h2.1
    rw [hf1] at f1r
    rw [hf2] at f2r
    have J31 : ∀ (M' : ZMm), M' 88 = yr0 (M 88) wo → (∀ x, ¬ x = 88 → ¬ x = 92 → ¬ x = 94 → M' x = M x) → X 31 [some (.inr (.inr (.inl 87))), some (.inl f1), some (.inl f2), none, none] [] (zG, M') (0, 0) := by
      intro M1 hd1 hM1
      have vd := Vd_yr0 h2 wo
      rw [← hd1] at vd
      have lp : ∀ (j h : Nat) (M' : ZMm) (x4 : Option ZV), j + h = 2 → M' 88 = shp (M1 88) h 9 → (∀ x, ¬ x = 88 → ¬ x = 92 → ¬ x = 94 → M' x = M x) → X 33 [some (.inr (.inr (.inl 87))), some (.inl f1), some (.inl f2), some (.inl (h : Int)), x4] [] (zG, M') (0, 0) := by
        intro j
        induction j with
        | zero =>
          intro h M' x4 hh hd hM
          have eh : h = 2 := by omega
          subst eh
          refine bs_X11_yearGoes_33 hX ?_
          have z2 : zr ((2 : Nat) : Int) = 2 := rfl
          simp only [bk_X11_yearGoes_0, k_X11_yearGoes_0, bk_X11_yearGoes_31, k_X11_yearGoes_31, bk_X11_yearGoes_33, k_X11_yearGoes_33, bk_X11_yearGoes_42, k_X11_yearGoes_42, bk_X11_yearGoes_87, k_X11_yearGoes_87, bk_X11_yearGoes_112, k_X11_yearGoes_112, ↓e_rk1, ↓e_rk0, ↓e_sk0, ↓e_sks, ↓e_ldi0, ↓e_ldis, ↓e_ldl0, ↓e_ldls, ↓e_lda0, ↓e_ldas, ↓e_ok0, ↓e_okss, ↓e_ok1i, ↓e_ok1r, ↓e_ok1n, ↓e_sti, ↓e_sta, ↓e_1, ↓e_2, ↓e_l1, ↓e_l2, ↓e_li, ↓e_sw0, ↓e_sws, ↓e_ceq, ↓e_cne, ↓e_clt, ↓e_cge, ↓e_cgt, ↓e_cle, ↓e_nil, ↓e_cons, ↓e_iconst, ↓e_bipush, ↓e_sipush, ↓e_ldc, ↓e_ldcw, ↓e_ldc2, ↓e_lconst, ↓e_iloadn, ↓e_iload, ↓e_lloadn, ↓e_lload, ↓e_aloadn, ↓e_aload, ↓e_istoren, ↓e_istore, ↓e_astoren, ↓e_astore, ↓e_add, ↓e_iinc, ↓e_iadd, ↓e_isub, ↓e_imul, ↓e_iand, ↓e_ior, ↓e_ixor, ↓e_ishl, ↓e_iushr, ↓e_idiv, ↓e_irem, ↓e_ineg, ↓e_i2l, ↓e_i2b, ↓e_i2s, ↓e_l2i, ↓e_land, ↓e_lor, ↓e_lshl, ↓e_lshr, ↓e_lushr, ↓e_lcmp, ↓e_dupi, ↓e_dupr, ↓e_popi, ↓e_dup2, ↓e_goto, ↓e_if, ↓e_icmp, ↓e_tsw, ↓e_lsw, ↓e_getf, ↓e_putf, ↓e_gets, ↓e_iald, ↓e_cald, ↓e_iast, ↓e_aald, ↓e_aast, ↓e_len, ↓e_copy, ↓e_abs, ↓e_max, ↓e_min, ↓e_iret, ↓e_aret, ↓e_vret, ↓e_is0, ↓e_is1, ↓e_is2, ↓e_is3, ↓e_is4, ↓e_iv1, ↓e_iv2, ↓e_iv3, ↓e_iv4, ↓e_iv5, ↓e_iv6, ↓rt_X11_yearGoes, ↓reduceIte, Nat.reduceAdd, Nat.reduceEqDiff, ↓zcl0, ↓zclv, List.map_nil, List.sum_nil, List.map_cons, List.sum_cons, zcat, true_and, and_true, Nat.reduceLeDiff, Nat.reduceAdd, eq_self, forall_const, e_ok0, e_okss, e_ok1i, e_ok1r, e_ok1n, zl_0, zl_1, zl_2, zl_9, zl_10, zl_142, Int.reduceToNat, Int.reduceAdd, Int.reduceMul, Int.reduceSub, Int.reduceNeg, Int.reduceLT, Int.reduceLE, Int.reduceEq, not_false_eq_true, not_true_eq_false, false_implies, true_implies, implies_true, Int.reduceDiv, Int.reduceMod, zr8_zr, zr_zbo, z01_zbo, z01_0, z01_1, zbo_eq0, zup_eq, zup_o, zup_k, ne_eq, ↓ct_yearGoes_hearkens, ↓r_hearkens, ↓B_hearkens, ↓ct_yearGoes_heads, ↓r_heads, ↓B_heads, ↓ct_yearGoes_goes, ↓r_goes, ↓B_goes, ↓ct_yearGoes_its, ↓r_its, ↓B_its, ↓v_87, ↓g_87_0, ↓l_88, ↓s_88, ↓n_88, ↓g_87_1, ↓l_89, ↓s_89, ↓n_89, ↓g_87_2, ↓l_90, ↓s_90, ↓n_90, ↓g_87_3, ↓p_87_3, ↓g_87_4, ↓l_91, ↓s_91, ↓n_91, ↓g_87_5, ↓p_87_5, ↓g_87_6, ↓p_87_6, ↓g_87_7, ↓p_87_7, ↓g_87_8, ↓p_87_8, ↓g_87_9, ↓p_87_9, ↓g_87_10, ↓p_87_10, ↓g_87_11, ↓l_92, ↓s_92, ↓n_92, ↓g_87_12, ↓l_93, ↓s_93, ↓n_93, ↓g_87_13, ↓p_87_13, ↓g_87_14, ↓l_94, ↓s_94, ↓n_94, ↓g_87_15, ↓p_87_15, ↓g_87_16, ↓l_95, ↓s_95, ↓n_95, ↓g_87_17, ↓l_96, ↓s_96, ↓n_96, ↓g_87_18, ↓l_97, ↓s_97, ↓n_97, ↓g_87_19, ↓p_87_19, ↓g_87_20, ↓p_87_20, ↓g_87_21, ↓l_98, ↓s_98, ↓n_98, ↓g_87_22, ↓l_99, ↓s_99, ↓n_99, ↓g_87_23, ↓l_100, ↓s_100, ↓n_100, ↓g_87_24, ↓l_101, ↓s_101, ↓n_101, z2]
          refine hC _ ?_ (fun x q1 q2 q3 => by rw [zup_ne _ q1]; exact hM x q1 q2 q3)
          rw [zup_up, hd, hwo]
          unfold yr1
          rw [← hd1]
          funext j
          unfold up1 shp
          by_cases q : j = 1
          · subst q
            simp [shf]
          · rw [if_neg q]
            by_cases q2 : 142 ≤ j ∧ j < 162
            · rw [if_pos (by omega)]
            · rw [if_neg (by omega), if_neg (by omega)]
              unfold shf
              rw [if_neg q, if_neg q2]
        | succ j ih =>
          intro h M' x4 hh hd hM
          refine bs_X11_yearGoes_33 hX ?_
          have zh : zr (h : Int) = h := zr_of (by omega) (by omega)
          have lh : ((h : Int) < 2) = True := eq_true (by omega)
          simp only [bk_X11_yearGoes_0, k_X11_yearGoes_0, bk_X11_yearGoes_31, k_X11_yearGoes_31, bk_X11_yearGoes_33, k_X11_yearGoes_33, bk_X11_yearGoes_42, k_X11_yearGoes_42, bk_X11_yearGoes_87, k_X11_yearGoes_87, bk_X11_yearGoes_112, k_X11_yearGoes_112, ↓e_rk1, ↓e_rk0, ↓e_sk0, ↓e_sks, ↓e_ldi0, ↓e_ldis, ↓e_ldl0, ↓e_ldls, ↓e_lda0, ↓e_ldas, ↓e_ok0, ↓e_okss, ↓e_ok1i, ↓e_ok1r, ↓e_ok1n, ↓e_sti, ↓e_sta, ↓e_1, ↓e_2, ↓e_l1, ↓e_l2, ↓e_li, ↓e_sw0, ↓e_sws, ↓e_ceq, ↓e_cne, ↓e_clt, ↓e_cge, ↓e_cgt, ↓e_cle, ↓e_nil, ↓e_cons, ↓e_iconst, ↓e_bipush, ↓e_sipush, ↓e_ldc, ↓e_ldcw, ↓e_ldc2, ↓e_lconst, ↓e_iloadn, ↓e_iload, ↓e_lloadn, ↓e_lload, ↓e_aloadn, ↓e_aload, ↓e_istoren, ↓e_istore, ↓e_astoren, ↓e_astore, ↓e_add, ↓e_iinc, ↓e_iadd, ↓e_isub, ↓e_imul, ↓e_iand, ↓e_ior, ↓e_ixor, ↓e_ishl, ↓e_iushr, ↓e_idiv, ↓e_irem, ↓e_ineg, ↓e_i2l, ↓e_i2b, ↓e_i2s, ↓e_l2i, ↓e_land, ↓e_lor, ↓e_lshl, ↓e_lshr, ↓e_lushr, ↓e_lcmp, ↓e_dupi, ↓e_dupr, ↓e_popi, ↓e_dup2, ↓e_goto, ↓e_if, ↓e_icmp, ↓e_tsw, ↓e_lsw, ↓e_getf, ↓e_putf, ↓e_gets, ↓e_iald, ↓e_cald, ↓e_iast, ↓e_aald, ↓e_aast, ↓e_len, ↓e_copy, ↓e_abs, ↓e_max, ↓e_min, ↓e_iret, ↓e_aret, ↓e_vret, ↓e_is0, ↓e_is1, ↓e_is2, ↓e_is3, ↓e_is4, ↓e_iv1, ↓e_iv2, ↓e_iv3, ↓e_iv4, ↓e_iv5, ↓e_iv6, ↓rt_X11_yearGoes, ↓reduceIte, Nat.reduceAdd, Nat.reduceEqDiff, ↓zcl0, ↓zclv, List.map_nil, List.sum_nil, List.map_cons, List.sum_cons, zcat, true_and, and_true, Nat.reduceLeDiff, Nat.reduceAdd, eq_self, forall_const, e_ok0, e_okss, e_ok1i, e_ok1r, e_ok1n, zl_0, zl_1, zl_2, zl_9, zl_10, zl_142, Int.reduceToNat, Int.reduceAdd, Int.reduceMul, Int.reduceSub, Int.reduceNeg, Int.reduceLT, Int.reduceLE, Int.reduceEq, not_false_eq_true, not_true_eq_false, false_implies, true_implies, implies_true, Int.reduceDiv, Int.reduceMod, zr8_zr, zr_zbo, z01_zbo, z01_0, z01_1, zbo_eq0, zup_eq, zup_o, zup_k, ne_eq, ↓ct_yearGoes_hearkens, ↓r_hearkens, ↓B_hearkens, ↓ct_yearGoes_heads, ↓r_heads, ↓B_heads, ↓ct_yearGoes_goes, ↓r_goes, ↓B_goes, ↓ct_yearGoes_its, ↓r_its, ↓B_its, ↓v_87, ↓g_87_0, ↓l_88, ↓s_88, ↓n_88, ↓g_87_1, ↓l_89, ↓s_89, ↓n_89, ↓g_87_2, ↓l_90, ↓s_90, ↓n_90, ↓g_87_3, ↓p_87_3, ↓g_87_4, ↓l_91, ↓s_91, ↓n_91, ↓g_87_5, ↓p_87_5, ↓g_87_6, ↓p_87_6, ↓g_87_7, ↓p_87_7, ↓g_87_8, ↓p_87_8, ↓g_87_9, ↓p_87_9, ↓g_87_10, ↓p_87_10, ↓g_87_11, ↓l_92, ↓s_92, ↓n_92, ↓g_87_12, ↓l_93, ↓s_93, ↓n_93, ↓g_87_13, ↓p_87_13, ↓g_87_14, ↓l_94, ↓s_94, ↓n_94, ↓g_87_15, ↓p_87_15, ↓g_87_16, ↓l_95, ↓s_95, ↓n_95, ↓g_87_17, ↓l_96, ↓s_96, ↓n_96, ↓g_87_18, ↓l_97, ↓s_97, ↓n_97, ↓g_87_19, ↓p_87_19, ↓g_87_20, ↓p_87_20, ↓g_87_21, ↓l_98, ↓s_98, ↓n_98, ↓g_87_22, ↓l_99, ↓s_99, ↓n_99, ↓g_87_23, ↓l_100, ↓s_100, ↓n_100, ↓g_87_24, ↓l_101, ↓s_101, ↓n_101, zh, lh]
          have inner : ∀ (k : Nat) (M' : ZMm), k ≤ 9 → M' 88 = shp (M1 88) h k → (∀ x, ¬ x = 88 → ¬ x = 92 → ¬ x = 94 → M' x = M x) → X 42 [some (.inr (.inr (.inl 87))), some (.inl f1), some (.inl f2), some (.inl (h : Int)), some (.inl (k : Int))] [] (zG, M') (0, 0) := by
            intro k
            induction k with
            | zero =>
              intro M' hk hd hM
              refine bs_X11_yearGoes_42 hX ?_
              have z0 : zr ((0 : Nat) : Int) = 0 := rfl
              have zi : zr (142 + 10 * (h : Int)) = 142 + 10 * h := zr_of (by omega) (by omega)
              simp only [bk_X11_yearGoes_0, k_X11_yearGoes_0, bk_X11_yearGoes_31, k_X11_yearGoes_31, bk_X11_yearGoes_33, k_X11_yearGoes_33, bk_X11_yearGoes_42, k_X11_yearGoes_42, bk_X11_yearGoes_87, k_X11_yearGoes_87, bk_X11_yearGoes_112, k_X11_yearGoes_112, ↓e_rk1, ↓e_rk0, ↓e_sk0, ↓e_sks, ↓e_ldi0, ↓e_ldis, ↓e_ldl0, ↓e_ldls, ↓e_lda0, ↓e_ldas, ↓e_ok0, ↓e_okss, ↓e_ok1i, ↓e_ok1r, ↓e_ok1n, ↓e_sti, ↓e_sta, ↓e_1, ↓e_2, ↓e_l1, ↓e_l2, ↓e_li, ↓e_sw0, ↓e_sws, ↓e_ceq, ↓e_cne, ↓e_clt, ↓e_cge, ↓e_cgt, ↓e_cle, ↓e_nil, ↓e_cons, ↓e_iconst, ↓e_bipush, ↓e_sipush, ↓e_ldc, ↓e_ldcw, ↓e_ldc2, ↓e_lconst, ↓e_iloadn, ↓e_iload, ↓e_lloadn, ↓e_lload, ↓e_aloadn, ↓e_aload, ↓e_istoren, ↓e_istore, ↓e_astoren, ↓e_astore, ↓e_add, ↓e_iinc, ↓e_iadd, ↓e_isub, ↓e_imul, ↓e_iand, ↓e_ior, ↓e_ixor, ↓e_ishl, ↓e_iushr, ↓e_idiv, ↓e_irem, ↓e_ineg, ↓e_i2l, ↓e_i2b, ↓e_i2s, ↓e_l2i, ↓e_land, ↓e_lor, ↓e_lshl, ↓e_lshr, ↓e_lushr, ↓e_lcmp, ↓e_dupi, ↓e_dupr, ↓e_popi, ↓e_dup2, ↓e_goto, ↓e_if, ↓e_icmp, ↓e_tsw, ↓e_lsw, ↓e_getf, ↓e_putf, ↓e_gets, ↓e_iald, ↓e_cald, ↓e_iast, ↓e_aald, ↓e_aast, ↓e_len, ↓e_copy, ↓e_abs, ↓e_max, ↓e_min, ↓e_iret, ↓e_aret, ↓e_vret, ↓e_is0, ↓e_is1, ↓e_is2, ↓e_is3, ↓e_is4, ↓e_iv1, ↓e_iv2, ↓e_iv3, ↓e_iv4, ↓e_iv5, ↓e_iv6, ↓rt_X11_yearGoes, ↓reduceIte, Nat.reduceAdd, Nat.reduceEqDiff, ↓zcl0, ↓zclv, List.map_nil, List.sum_nil, List.map_cons, List.sum_cons, zcat, true_and, and_true, Nat.reduceLeDiff, Nat.reduceAdd, eq_self, forall_const, e_ok0, e_okss, e_ok1i, e_ok1r, e_ok1n, zl_0, zl_1, zl_2, zl_9, zl_10, zl_142, Int.reduceToNat, Int.reduceAdd, Int.reduceMul, Int.reduceSub, Int.reduceNeg, Int.reduceLT, Int.reduceLE, Int.reduceEq, not_false_eq_true, not_true_eq_false, false_implies, true_implies, implies_true, Int.reduceDiv, Int.reduceMod, zr8_zr, zr_zbo, z01_zbo, z01_0, z01_1, zbo_eq0, zup_eq, zup_o, zup_k, ne_eq, ↓ct_yearGoes_hearkens, ↓r_hearkens, ↓B_hearkens, ↓ct_yearGoes_heads, ↓r_heads, ↓B_heads, ↓ct_yearGoes_goes, ↓r_goes, ↓B_goes, ↓ct_yearGoes_its, ↓r_its, ↓B_its, ↓v_87, ↓g_87_0, ↓l_88, ↓s_88, ↓n_88, ↓g_87_1, ↓l_89, ↓s_89, ↓n_89, ↓g_87_2, ↓l_90, ↓s_90, ↓n_90, ↓g_87_3, ↓p_87_3, ↓g_87_4, ↓l_91, ↓s_91, ↓n_91, ↓g_87_5, ↓p_87_5, ↓g_87_6, ↓p_87_6, ↓g_87_7, ↓p_87_7, ↓g_87_8, ↓p_87_8, ↓g_87_9, ↓p_87_9, ↓g_87_10, ↓p_87_10, ↓g_87_11, ↓l_92, ↓s_92, ↓n_92, ↓g_87_12, ↓l_93, ↓s_93, ↓n_93, ↓g_87_13, ↓p_87_13, ↓g_87_14, ↓l_94, ↓s_94, ↓n_94, ↓g_87_15, ↓p_87_15, ↓g_87_16, ↓l_95, ↓s_95, ↓n_95, ↓g_87_17, ↓l_96, ↓s_96, ↓n_96, ↓g_87_18, ↓l_97, ↓s_97, ↓n_97, ↓g_87_19, ↓p_87_19, ↓g_87_20, ↓p_87_20, ↓g_87_21, ↓l_98, ↓s_98, ↓n_98, ↓g_87_22, ↓l_99, ↓s_99, ↓n_99, ↓g_87_23, ↓l_100, ↓s_100, ↓n_100, ↓g_87_24, ↓l_101, ↓s_101, ↓n_101, z0, zi]
              refine ⟨by omega, by omega, by omega, by omega, ?_⟩
              have nx := ih (h + 1) (zup M' 88 (142 + 10 * (h : Int)).toNat (M' 88 (134 + 4 * (h : Int) + 0).toNat)) (some (.inl ((0 : Nat) : Int))) (by omega) (by
                rw [zup_up, hd]
                funext j
                unfold up1
                by_cases q : j = (142 + 10 * (h : Int)).toNat
                · rw [if_pos q]
                  unfold shp
                  rw [if_neg (by omega), if_neg (by omega), if_pos (by omega)]
                  unfold shf
                  rw [if_neg (by omega), if_pos (by omega), if_pos (by omega)]
                  congr 1
                  omega
                · rw [if_neg q]
                  unfold shp
                  by_cases q1 : 142 ≤ j ∧ j < 142 + 10 * h
                  · rw [if_pos q1, if_pos (by omega)]
                  · rw [if_neg q1]
                    by_cases q2 : 142 + 10 * h + 0 < j ∧ j < 142 + 10 * h + 10
                    · rw [if_pos q2, if_pos (by omega)]
                      unfold shf
                      rw [if_neg (by omega), if_pos (by omega), if_neg (by omega)]
                    · rw [if_neg q2, if_neg (by omega), if_neg (by omega)]) (fun x q1 q2 q3 => by rw [zup_ne _ q1]; exact hM x q1 q2 q3)
              exact nx
            | succ k ihk =>
              intro M' hk hd hM
              refine bs_X11_yearGoes_42 hX ?_
              have zk : zr ((k + 1 : Nat) : Int) = k + 1 := by rw [zr_of (by omega) (by omega)]; omega
              have lk : (0 < (k : Int) + 1) = True := eq_true (by omega)
              have ek : ((k + 1 : Nat) : Int) = (k : Int) + 1 := by omega
              have zi : zr (142 + 10 * (h : Int) + ((k : Int) + 1)) = 142 + 10 * h + ((k : Int) + 1) := zr_of (by omega) (by omega)
              have zi2 : zr (142 + 10 * (h : Int) + ((k : Int) + 1) - 1) = 142 + 10 * h + ((k : Int) + 1) - 1 := zr_of (by omega) (by omega)
              rw [ek] at zk ⊢
              simp only [bk_X11_yearGoes_0, k_X11_yearGoes_0, bk_X11_yearGoes_31, k_X11_yearGoes_31, bk_X11_yearGoes_33, k_X11_yearGoes_33, bk_X11_yearGoes_42, k_X11_yearGoes_42, bk_X11_yearGoes_87, k_X11_yearGoes_87, bk_X11_yearGoes_112, k_X11_yearGoes_112, ↓e_rk1, ↓e_rk0, ↓e_sk0, ↓e_sks, ↓e_ldi0, ↓e_ldis, ↓e_ldl0, ↓e_ldls, ↓e_lda0, ↓e_ldas, ↓e_ok0, ↓e_okss, ↓e_ok1i, ↓e_ok1r, ↓e_ok1n, ↓e_sti, ↓e_sta, ↓e_1, ↓e_2, ↓e_l1, ↓e_l2, ↓e_li, ↓e_sw0, ↓e_sws, ↓e_ceq, ↓e_cne, ↓e_clt, ↓e_cge, ↓e_cgt, ↓e_cle, ↓e_nil, ↓e_cons, ↓e_iconst, ↓e_bipush, ↓e_sipush, ↓e_ldc, ↓e_ldcw, ↓e_ldc2, ↓e_lconst, ↓e_iloadn, ↓e_iload, ↓e_lloadn, ↓e_lload, ↓e_aloadn, ↓e_aload, ↓e_istoren, ↓e_istore, ↓e_astoren, ↓e_astore, ↓e_add, ↓e_iinc, ↓e_iadd, ↓e_isub, ↓e_imul, ↓e_iand, ↓e_ior, ↓e_ixor, ↓e_ishl, ↓e_iushr, ↓e_idiv, ↓e_irem, ↓e_ineg, ↓e_i2l, ↓e_i2b, ↓e_i2s, ↓e_l2i, ↓e_land, ↓e_lor, ↓e_lshl, ↓e_lshr, ↓e_lushr, ↓e_lcmp, ↓e_dupi, ↓e_dupr, ↓e_popi, ↓e_dup2, ↓e_goto, ↓e_if, ↓e_icmp, ↓e_tsw, ↓e_lsw, ↓e_getf, ↓e_putf, ↓e_gets, ↓e_iald, ↓e_cald, ↓e_iast, ↓e_aald, ↓e_aast, ↓e_len, ↓e_copy, ↓e_abs, ↓e_max, ↓e_min, ↓e_iret, ↓e_aret, ↓e_vret, ↓e_is0, ↓e_is1, ↓e_is2, ↓e_is3, ↓e_is4, ↓e_iv1, ↓e_iv2, ↓e_iv3, ↓e_iv4, ↓e_iv5, ↓e_iv6, ↓rt_X11_yearGoes, ↓reduceIte, Nat.reduceAdd, Nat.reduceEqDiff, ↓zcl0, ↓zclv, List.map_nil, List.sum_nil, List.map_cons, List.sum_cons, zcat, true_and, and_true, Nat.reduceLeDiff, Nat.reduceAdd, eq_self, forall_const, e_ok0, e_okss, e_ok1i, e_ok1r, e_ok1n, zl_0, zl_1, zl_2, zl_9, zl_10, zl_142, Int.reduceToNat, Int.reduceAdd, Int.reduceMul, Int.reduceSub, Int.reduceNeg, Int.reduceLT, Int.reduceLE, Int.reduceEq, not_false_eq_true, not_true_eq_false, false_implies, true_implies, implies_true, Int.reduceDiv, Int.reduceMod, zr8_zr, zr_zbo, z01_zbo, z01_0, z01_1, zbo_eq0, zup_eq, zup_o, zup_k, ne_eq, ↓ct_yearGoes_hearkens, ↓r_hearkens, ↓B_hearkens, ↓ct_yearGoes_heads, ↓r_heads, ↓B_heads, ↓ct_yearGoes_goes, ↓r_goes, ↓B_goes, ↓ct_yearGoes_its, ↓r_its, ↓B_its, ↓v_87, ↓g_87_0, ↓l_88, ↓s_88, ↓n_88, ↓g_87_1, ↓l_89, ↓s_89, ↓n_89, ↓g_87_2, ↓l_90, ↓s_90, ↓n_90, ↓g_87_3, ↓p_87_3, ↓g_87_4, ↓l_91, ↓s_91, ↓n_91, ↓g_87_5, ↓p_87_5, ↓g_87_6, ↓p_87_6, ↓g_87_7, ↓p_87_7, ↓g_87_8, ↓p_87_8, ↓g_87_9, ↓p_87_9, ↓g_87_10, ↓p_87_10, ↓g_87_11, ↓l_92, ↓s_92, ↓n_92, ↓g_87_12, ↓l_93, ↓s_93, ↓n_93, ↓g_87_13, ↓p_87_13, ↓g_87_14, ↓l_94, ↓s_94, ↓n_94, ↓g_87_15, ↓p_87_15, ↓g_87_16, ↓l_95, ↓s_95, ↓n_95, ↓g_87_17, ↓l_96, ↓s_96, ↓n_96, ↓g_87_18, ↓l_97, ↓s_97, ↓n_97, ↓g_87_19, ↓p_87_19, ↓g_87_20, ↓p_87_20, ↓g_87_21, ↓l_98, ↓s_98, ↓n_98, ↓g_87_22, ↓l_99, ↓s_99, ↓n_99, ↓g_87_23, ↓l_100, ↓s_100, ↓n_100, ↓g_87_24, ↓l_101, ↓s_101, ↓n_101, zk, lk, zi, zi2]
              repeat (refine And.intro (by omega) ?_)
              have nx := ihk (zup M' 88 (142 + 10 * (h : Int) + ((k : Int) + 1)).toNat (M' 88 (142 + 10 * (h : Int) + ((k : Int) + 1) - 1).toNat)) (by omega) (by
                rw [zup_up, hd]
                funext j
                unfold up1 shp
                by_cases q : j = (142 + 10 * (h : Int) + ((k : Int) + 1)).toNat
                · rw [if_pos q, if_neg (by omega), if_neg (by omega), if_neg (by omega), if_pos (by omega)]
                  congr 1
                  omega
                · rw [if_neg q]
                  by_cases q1 : 142 ≤ j ∧ j < 142 + 10 * h
                  · rw [if_pos q1, if_pos q1]
                  · rw [if_neg q1, if_neg q1]
                    by_cases q2 : 142 + 10 * h + (k + 1) < j ∧ j < 142 + 10 * h + 10
                    · rw [if_pos q2, if_pos (by omega)]
                    · rw [if_neg q2, if_neg (by omega)]) (fun x q1 q2 q3 => by rw [zup_ne _ q1]; exact hM x q1 q2 q3)
              have e9 : (k : Int) + 1 + -1 = k := by omega
              rw [e9]
              exact nx
          exact inner 9 M' (by omega) hd hM
      refine bs_X11_yearGoes_31 hX ?_
      simp only [bk_X11_yearGoes_0, k_X11_yearGoes_0, bk_X11_yearGoes_31, k_X11_yearGoes_31, bk_X11_yearGoes_33, k_X11_yearGoes_33, bk_X11_yearGoes_42, k_X11_yearGoes_42, bk_X11_yearGoes_87, k_X11_yearGoes_87, bk_X11_yearGoes_112, k_X11_yearGoes_112, ↓e_rk1, ↓e_rk0, ↓e_sk0, ↓e_sks, ↓e_ldi0, ↓e_ldis, ↓e_ldl0, ↓e_ldls, ↓e_lda0, ↓e_ldas, ↓e_ok0, ↓e_okss, ↓e_ok1i, ↓e_ok1r, ↓e_ok1n, ↓e_sti, ↓e_sta, ↓e_1, ↓e_2, ↓e_l1, ↓e_l2, ↓e_li, ↓e_sw0, ↓e_sws, ↓e_ceq, ↓e_cne, ↓e_clt, ↓e_cge, ↓e_cgt, ↓e_cle, ↓e_nil, ↓e_cons, ↓e_iconst, ↓e_bipush, ↓e_sipush, ↓e_ldc, ↓e_ldcw, ↓e_ldc2, ↓e_lconst, ↓e_iloadn, ↓e_iload, ↓e_lloadn, ↓e_lload, ↓e_aloadn, ↓e_aload, ↓e_istoren, ↓e_istore, ↓e_astoren, ↓e_astore, ↓e_add, ↓e_iinc, ↓e_iadd, ↓e_isub, ↓e_imul, ↓e_iand, ↓e_ior, ↓e_ixor, ↓e_ishl, ↓e_iushr, ↓e_idiv, ↓e_irem, ↓e_ineg, ↓e_i2l, ↓e_i2b, ↓e_i2s, ↓e_l2i, ↓e_land, ↓e_lor, ↓e_lshl, ↓e_lshr, ↓e_lushr, ↓e_lcmp, ↓e_dupi, ↓e_dupr, ↓e_popi, ↓e_dup2, ↓e_goto, ↓e_if, ↓e_icmp, ↓e_tsw, ↓e_lsw, ↓e_getf, ↓e_putf, ↓e_gets, ↓e_iald, ↓e_cald, ↓e_iast, ↓e_aald, ↓e_aast, ↓e_len, ↓e_copy, ↓e_abs, ↓e_max, ↓e_min, ↓e_iret, ↓e_aret, ↓e_vret, ↓e_is0, ↓e_is1, ↓e_is2, ↓e_is3, ↓e_is4, ↓e_iv1, ↓e_iv2, ↓e_iv3, ↓e_iv4, ↓e_iv5, ↓e_iv6, ↓rt_X11_yearGoes, ↓reduceIte, Nat.reduceAdd, Nat.reduceEqDiff, ↓zcl0, ↓zclv, List.map_nil, List.sum_nil, List.map_cons, List.sum_cons, zcat, true_and, and_true, Nat.reduceLeDiff, Nat.reduceAdd, eq_self, forall_const, e_ok0, e_okss, e_ok1i, e_ok1r, e_ok1n, zl_0, zl_1, zl_2, zl_9, zl_10, zl_142, Int.reduceToNat, Int.reduceAdd, Int.reduceMul, Int.reduceSub, Int.reduceNeg, Int.reduceLT, Int.reduceLE, Int.reduceEq, not_false_eq_true, not_true_eq_false, false_implies, true_implies, implies_true, Int.reduceDiv, Int.reduceMod, zr8_zr, zr_zbo, z01_zbo, z01_0, z01_1, zbo_eq0, zup_eq, zup_o, zup_k, ne_eq, ↓ct_yearGoes_hearkens, ↓r_hearkens, ↓B_hearkens, ↓ct_yearGoes_heads, ↓r_heads, ↓B_heads, ↓ct_yearGoes_goes, ↓r_goes, ↓B_goes, ↓ct_yearGoes_its, ↓r_its, ↓B_its, ↓v_87, ↓g_87_0, ↓l_88, ↓s_88, ↓n_88, ↓g_87_1, ↓l_89, ↓s_89, ↓n_89, ↓g_87_2, ↓l_90, ↓s_90, ↓n_90, ↓g_87_3, ↓p_87_3, ↓g_87_4, ↓l_91, ↓s_91, ↓n_91, ↓g_87_5, ↓p_87_5, ↓g_87_6, ↓p_87_6, ↓g_87_7, ↓p_87_7, ↓g_87_8, ↓p_87_8, ↓g_87_9, ↓p_87_9, ↓g_87_10, ↓p_87_10, ↓g_87_11, ↓l_92, ↓s_92, ↓n_92, ↓g_87_12, ↓l_93, ↓s_93, ↓n_93, ↓g_87_13, ↓p_87_13, ↓g_87_14, ↓l_94, ↓s_94, ↓n_94, ↓g_87_15, ↓p_87_15, ↓g_87_16, ↓l_95, ↓s_95, ↓n_95, ↓g_87_17, ↓l_96, ↓s_96, ↓n_96, ↓g_87_18, ↓l_97, ↓s_97, ↓n_97, ↓g_87_19, ↓p_87_19, ↓g_87_20, ↓p_87_20, ↓g_87_21, ↓l_98, ↓s_98, ↓n_98, ↓g_87_22, ↓l_99, ↓s_99, ↓n_99, ↓g_87_23, ↓l_100, ↓s_100, ↓n_100, ↓g_87_24, ↓l_101, ↓s_101, ↓n_101]
      refine lp 2 0 M1 none (by omega) ?_ hM1
      funext j
      unfold shp
      rw [if_neg (by omega), if_neg (by omega)]
    have q0 := (Vd_hi h2 (e := 0) (by omega) (by omega)).1
    have q1 := (Vd_hi h2 (e := 1) (by omega) (by omega)).1
    have a0 : M 88 134 = hi4 (M 88) 0 0 := rfl
    have a1 : M 88 138 = hi4 (M 88) 1 0 := rfl
    have fr0 := fr_rng q0.1 q0.2 q1.1 q1.2
    have zfr : zr (fr (hi4 (M 88) 0 0) (hi4 (M 88) 1 0)) = fr (hi4 (M 88) 0 0) (hi4 (M 88) 1 0) := zr_of (by omega) (by omega)
    simp only [bk_X11_yearGoes_0, k_X11_yearGoes_0, bk_X11_yearGoes_31, k_X11_yearGoes_31, bk_X11_yearGoes_33, k_X11_yearGoes_33, bk_X11_yearGoes_42, k_X11_yearGoes_42, bk_X11_yearGoes_87, k_X11_yearGoes_87, bk_X11_yearGoes_112, k_X11_yearGoes_112, ↓e_rk1, ↓e_rk0, ↓e_sk0, ↓e_sks, ↓e_ldi0, ↓e_ldis, ↓e_ldl0, ↓e_ldls, ↓e_lda0, ↓e_ldas, ↓e_ok0, ↓e_okss, ↓e_ok1i, ↓e_ok1r, ↓e_ok1n, ↓e_sti, ↓e_sta, ↓e_1, ↓e_2, ↓e_l1, ↓e_l2, ↓e_li, ↓e_sw0, ↓e_sws, ↓e_ceq, ↓e_cne, ↓e_clt, ↓e_cge, ↓e_cgt, ↓e_cle, ↓e_nil, ↓e_cons, ↓e_iconst, ↓e_bipush, ↓e_sipush, ↓e_ldc, ↓e_ldcw, ↓e_ldc2, ↓e_lconst, ↓e_iloadn, ↓e_iload, ↓e_lloadn, ↓e_lload, ↓e_aloadn, ↓e_aload, ↓e_istoren, ↓e_istore, ↓e_astoren, ↓e_astore, ↓e_add, ↓e_iinc, ↓e_iadd, ↓e_isub, ↓e_imul, ↓e_iand, ↓e_ior, ↓e_ixor, ↓e_ishl, ↓e_iushr, ↓e_idiv, ↓e_irem, ↓e_ineg, ↓e_i2l, ↓e_i2b, ↓e_i2s, ↓e_l2i, ↓e_land, ↓e_lor, ↓e_lshl, ↓e_lshr, ↓e_lushr, ↓e_lcmp, ↓e_dupi, ↓e_dupr, ↓e_popi, ↓e_dup2, ↓e_goto, ↓e_if, ↓e_icmp, ↓e_tsw, ↓e_lsw, ↓e_getf, ↓e_putf, ↓e_gets, ↓e_iald, ↓e_cald, ↓e_iast, ↓e_aald, ↓e_aast, ↓e_len, ↓e_copy, ↓e_abs, ↓e_max, ↓e_min, ↓e_iret, ↓e_aret, ↓e_vret, ↓e_is0, ↓e_is1, ↓e_is2, ↓e_is3, ↓e_is4, ↓e_iv1, ↓e_iv2, ↓e_iv3, ↓e_iv4, ↓e_iv5, ↓e_iv6, ↓rt_X11_yearGoes, ↓reduceIte, Nat.reduceAdd, Nat.reduceEqDiff, ↓zcl0, ↓zclv, List.map_nil, List.sum_nil, List.map_cons, List.sum_cons, zcat, true_and, and_true, Nat.reduceLeDiff, Nat.reduceAdd, eq_self, forall_const, e_ok0, e_okss, e_ok1i, e_ok1r, e_ok1n, zl_0, zl_1, zl_2, zl_9, zl_10, zl_142, Int.reduceToNat, Int.reduceAdd, Int.reduceMul, Int.reduceSub, Int.reduceNeg, Int.reduceLT, Int.reduceLE, Int.reduceEq, not_false_eq_true, not_true_eq_false, false_implies, true_implies, implies_true, Int.reduceDiv, Int.reduceMod, zr8_zr, zr_zbo, z01_zbo, z01_0, z01_1, zbo_eq0, zup_eq, zup_o, zup_k, ne_eq, ↓ct_yearGoes_hearkens, ↓r_hearkens, ↓B_hearkens, ↓ct_yearGoes_heads, ↓r_heads, ↓B_heads, ↓ct_yearGoes_goes, ↓r_goes, ↓B_goes, ↓ct_yearGoes_its, ↓r_its, ↓B_its, ↓v_87, ↓g_87_0, ↓l_88, ↓s_88, ↓n_88, ↓g_87_1, ↓l_89, ↓s_89, ↓n_89, ↓g_87_2, ↓l_90, ↓s_90, ↓n_90, ↓g_87_3, ↓p_87_3, ↓g_87_4, ↓l_91, ↓s_91, ↓n_91, ↓g_87_5, ↓p_87_5, ↓g_87_6, ↓p_87_6, ↓g_87_7, ↓p_87_7, ↓g_87_8, ↓p_87_8, ↓g_87_9, ↓p_87_9, ↓g_87_10, ↓p_87_10, ↓g_87_11, ↓l_92, ↓s_92, ↓n_92, ↓g_87_12, ↓l_93, ↓s_93, ↓n_93, ↓g_87_13, ↓p_87_13, ↓g_87_14, ↓l_94, ↓s_94, ↓n_94, ↓g_87_15, ↓p_87_15, ↓g_87_16, ↓l_95, ↓s_95, ↓n_95, ↓g_87_17, ↓l_96, ↓s_96, ↓n_96, ↓g_87_18, ↓l_97, ↓s_97, ↓n_97, ↓g_87_19, ↓p_87_19, ↓g_87_20, ↓p_87_20, ↓g_87_21, ↓l_98, ↓s_98, ↓n_98, ↓g_87_22, ↓l_99, ↓s_99, ↓n_99, ↓g_87_23, ↓l_100, ↓s_100, ↓n_100, ↓g_87_24, ↓l_101, ↓s_101, ↓n_101, hwo, hf1]
    refine ⟨h1, h2, fun M1 hM1 => ?_⟩
    have m88 := hM1 88 (by decide) (by decide)
    have m87 : M1 87 15 = wo := (congrFun (hM1 87 (by decide) (by decide)) 15).trans hwo
    rw [m87, m88, hf2]
    refine ⟨h1, h2, fun M2 hM2 => ?_⟩
    have n88 := (hM2 88 (by decide) (by decide)).trans m88
    rw [n88, a0, a1, zfr]
    have v1 := Vd_gos h2 (g := 0) (w := f1) (by omega) (by omega) f1r.1 f1r.2
    refine ⟨q0.1, q0.2, q1.1, q1.2, fun c => ⟨f1r.1, f1r.2, h2, fun M3 hd3 hM3 => ?_⟩, fun c => J31 M2 ?_ (fun x r1 r2 r3 => (hM2 x r2 r3).trans (hM1 x r2 r3))⟩
    · refine ⟨f2r.1, f2r.2, by rw [hd3]; exact v1, fun M4 hd4 hM4 => J31 M4 ?_ (fun x r1 r2 r3 => (hM4 x r1 r2 r3).trans ((hM3 x r1 r2 r3).trans ((hM2 x r2 r3).trans (hM1 x r2 r3))))⟩
      rw [hd4, hd3]
      unfold yr0
      rw [if_pos c, hf1, hf2]
    · rw [n88]
      unfold yr0
      rw [if_neg c]
