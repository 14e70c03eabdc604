/-! THE REFERENCE: heads, engineers, years -/
def k_X11_head_0 : List ZI := [(.iload_n 1, 1, (0, [1], [])), (.invokestatic 216, 3, (0, [125, 1, 0, 11], [])), (.ifCond .eq 48, 3, (0, [52], [])), (.iload_n 2, 1, (0, [2], [])), (.i2l, 1, (0, [], [])), (.lconst 0, 1, (0, [], [])), (.ldc2_w 214, 3, (2, [], [])), (.invokestatic 61, 3, (0, [120, 3, 0, 11], [])), (.ifCond .eq 36, 3, (0, [52], [])), (.iload_n 3, 1, (0, [3], [])), (.i2l, 1, (0, [], [])), (.lconst 0, 1, (0, [], [])), (.iload_n 2, 1, (0, [2], [])), (.ifCond .ne 9, 3, (0, [32], [])), (.ldc2_w 65, 3, (63, [], [])), (.goto 17, 3, (0, [46], []))]
theorem ok_X11_head_0 : zOK cX11_head 11 false 5 k_X11_head_0 0 = true := zOK_by (by decide +kernel)
def k_X11_head_32 : List ZI := [(.iload_n 2, 1, (0, [2], [])), (.iconst 1, 1, (0, [], [])), (.if_icmp .ne 9, 3, (0, [43], [])), (.ldc2_w 219, 3, (20, [], [])), (.goto 6, 3, (0, [46], []))]
theorem ok_X11_head_32 : zOK cX11_head 11 false 5 k_X11_head_32 32 = true := zOK_by (by decide +kernel)
def k_X11_head_43 : List ZI := [(.ldc2_w 221, 3, (99, [], []))]
theorem ok_X11_head_43 : zOK cX11_head 11 false 5 k_X11_head_43 43 = true := zOK_by (by decide +kernel)
def k_X11_head_46 : List ZI := [(.invokestatic 61, 3, (0, [120, 3, 0, 11], [])), (.ifCond .ne 9, 3, (0, [58], []))]
theorem ok_X11_head_46 : zOK cX11_head 11 false 5 k_X11_head_46 46 = true := zOK_by (by decide +kernel)
def k_X11_head_52 : List ZI := [(.aload_n 0, 1, (0, [0], [])), (.iconst 1, 1, (0, [], [])), (.invokevirtual 139, 3, (0, [119, 2, 0, 11], [])), (.ireturn, 1, (0, [], []))]
theorem ok_X11_head_52 : zOK cX11_head 11 false 5 k_X11_head_52 52 = true := zOK_by (by decide +kernel)
def k_X11_head_58 : List ZI := [(.aload_n 0, 1, (0, [0], [])), (.iload_n 1, 1, (0, [1], [])), (.iload_n 2, 1, (0, [2], [])), (.invokevirtual 161, 3, (0, [127, 3, 0, 11], [])), (.istore 4, 2, (0, [4], [])), (.iload_n 2, 1, (0, [2], [])), (.ifCond .ne 12, 3, (0, [79], [])), (.aload_n 0, 1, (0, [0], [])), (.iload_n 1, 1, (0, [1], [])), (.iload_n 3, 1, (0, [3], [])), (.invokevirtual 56, 3, (0, [154, 3, 0, 11], [])), (.goto 18, 3, (0, [94], []))]
theorem ok_X11_head_58 : zOK cX11_head 11 false 5 k_X11_head_58 58 = true := zOK_by (by decide +kernel)
def k_X11_head_79 : List ZI := [(.aload_n 0, 1, (0, [0], [])), (.getfield 7, 3, (0, [11, 0], [])), (.sipush 134, 3, (0, [], [])), (.iconst 4, 1, (0, [], [])), (.iload_n 1, 1, (0, [1], [])), (.imul, 1, (0, [], [])), (.iadd, 1, (0, [], [])), (.iload_n 2, 1, (0, [2], [])), (.iadd, 1, (0, [], [])), (.iload_n 3, 1, (0, [3], [])), (.iastore, 1, (0, [], []))]
theorem ok_X11_head_79 : zOK cX11_head 11 false 5 k_X11_head_79 79 = true := zOK_by (by decide +kernel)
def k_X11_head_94 : List ZI := [(.iload 4, 2, (0, [4], [])), (.ireturn, 1, (0, [], []))]
theorem ok_X11_head_94 : zOK cX11_head 11 false 5 k_X11_head_94 94 = true := zOK_by (by decide +kernel)
theorem rt_X11_head {g : Nat} {post : Option ZV → ZH → Prop} {h : ZH} {b : ZB2} {z : Int} : zRt mX11_head g post (some (.inl z)) h b = (post (some (.inl z)) h ∧ h.1.length = g) := by show (_ ∧ _ ∧ True) = _; simp
def bk_X11_head_52 (E : ZE) (CT : Nat → ZC) (X : ZK) (Rt : ZR) (ls : ZL) (st : List ZV) (h : ZH) (b : ZB2) : Prop := zB E CT k_X11_head_52 52 ls st h b (fun t ls st h b => X t ls st h b) Rt
theorem bs_X11_head_52 {E : ZE} {CT : Nat → ZC} {X : ZK} {Rt : ZR} {ls : ZL} {st : List ZV} {h : ZH} {b : ZB2} (hX : zCl E mX11_head 11 false CT Rt X) (q : bk_X11_head_52 E CT X Rt ls st h b) : X 52 ls st h b := by
  refine hX k_X11_head_52 52 ok_X11_head_52 _ ?_ ls st h b q
  exact fun t ls st h b q => q
def bk_X11_head_94 (E : ZE) (CT : Nat → ZC) (X : ZK) (Rt : ZR) (ls : ZL) (st : List ZV) (h : ZH) (b : ZB2) : Prop := zB E CT k_X11_head_94 94 ls st h b (fun t ls st h b => X t ls st h b) Rt
theorem bs_X11_head_94 {E : ZE} {CT : Nat → ZC} {X : ZK} {Rt : ZR} {ls : ZL} {st : List ZV} {h : ZH} {b : ZB2} (hX : zCl E mX11_head 11 false CT Rt X) (q : bk_X11_head_94 E CT X Rt ls st h b) : X 94 ls st h b := by
  refine hX k_X11_head_94 94 ok_X11_head_94 _ ?_ ls st h b q
  exact fun t ls st h b q => q
def bk_X11_head_79 (E : ZE) (CT : Nat → ZC) (X : ZK) (Rt : ZR) (ls : ZL) (st : List ZV) (h : ZH) (b : ZB2) : Prop := zB E CT k_X11_head_79 79 ls st h b (fun t ls st h b => if t = 94 then bk_X11_head_94 E CT X Rt ls st h b else X t ls st h b) Rt
theorem bs_X11_head_79 {E : ZE} {CT : Nat → ZC} {X : ZK} {Rt : ZR} {ls : ZL} {st : List ZV} {h : ZH} {b : ZB2} (hX : zCl E mX11_head 11 false CT Rt X) (q : bk_X11_head_79 E CT X Rt ls st h b) : X 79 ls st h b := by
  refine hX k_X11_head_79 79 ok_X11_head_79 _ ?_ ls st h b q
  exact by
    intro t ls st h b q
    by_cases c : t = 94
    · subst c; rw [if_pos rfl] at q; exact bs_X11_head_94 hX q
    rw [if_neg c] at q
    exact q
def bk_X11_head_58 (E : ZE) (CT : Nat → ZC) (X : ZK) (Rt : ZR) (ls : ZL) (st : List ZV) (h : ZH) (b : ZB2) : Prop := zB E CT k_X11_head_58 58 ls st h b (fun t ls st h b => if t = 79 then bk_X11_head_79 E CT X Rt ls st h b else if t = 94 then bk_X11_head_94 E CT X Rt ls st h b else X t ls st h b) Rt
theorem bs_X11_head_58 {E : ZE} {CT : Nat → ZC} {X : ZK} {Rt : ZR} {ls : ZL} {st : List ZV} {h : ZH} {b : ZB2} (hX : zCl E mX11_head 11 false CT Rt X) (q : bk_X11_head_58 E CT X Rt ls st h b) : X 58 ls st h b := by
  refine hX k_X11_head_58 58 ok_X11_head_58 _ ?_ ls st h b q
  exact by
    intro t ls st h b q
    by_cases c : t = 79
    · subst c; rw [if_pos rfl] at q; exact bs_X11_head_79 hX q
    rw [if_neg c] at q
    by_cases c : t = 94
    · subst c; rw [if_pos rfl] at q; exact bs_X11_head_94 hX q
    rw [if_neg c] at q
    exact q
def bk_X11_head_46 (E : ZE) (CT : Nat → ZC) (X : ZK) (Rt : ZR) (ls : ZL) (st : List ZV) (h : ZH) (b : ZB2) : Prop := zB E CT k_X11_head_46 46 ls st h b (fun t ls st h b => if t = 52 then bk_X11_head_52 E CT X Rt ls st h b else if t = 58 then bk_X11_head_58 E CT X Rt ls st h b else X t ls st h b) Rt
theorem bs_X11_head_46 {E : ZE} {CT : Nat → ZC} {X : ZK} {Rt : ZR} {ls : ZL} {st : List ZV} {h : ZH} {b : ZB2} (hX : zCl E mX11_head 11 false CT Rt X) (q : bk_X11_head_46 E CT X Rt ls st h b) : X 46 ls st h b := by
  refine hX k_X11_head_46 46 ok_X11_head_46 _ ?_ ls st h b q
  exact by
    intro t ls st h b q
    by_cases c : t = 52
    · subst c; rw [if_pos rfl] at q; exact bs_X11_head_52 hX q
    rw [if_neg c] at q
    by_cases c : t = 58
    · subst c; rw [if_pos rfl] at q; exact bs_X11_head_58 hX q
    rw [if_neg c] at q
    exact q
def bk_X11_head_43 (E : ZE) (CT : Nat → ZC) (X : ZK) (Rt : ZR) (ls : ZL) (st : List ZV) (h : ZH) (b : ZB2) : Prop := zB E CT k_X11_head_43 43 ls st h b (fun t ls st h b => if t = 46 then bk_X11_head_46 E CT X Rt ls st h b else X t ls st h b) Rt
theorem bs_X11_head_43 {E : ZE} {CT : Nat → ZC} {X : ZK} {Rt : ZR} {ls : ZL} {st : List ZV} {h : ZH} {b : ZB2} (hX : zCl E mX11_head 11 false CT Rt X) (q : bk_X11_head_43 E CT X Rt ls st h b) : X 43 ls st h b := by
  refine hX k_X11_head_43 43 ok_X11_head_43 _ ?_ ls st h b q
  exact by
    intro t ls st h b q
    by_cases c : t = 46
    · subst c; rw [if_pos rfl] at q; exact bs_X11_head_46 hX q
    rw [if_neg c] at q
    exact q
def bk_X11_head_32 (E : ZE) (CT : Nat → ZC) (X : ZK) (Rt : ZR) (ls : ZL) (st : List ZV) (h : ZH) (b : ZB2) : Prop := zB E CT k_X11_head_32 32 ls st h b (fun t ls st h b => if t = 43 then bk_X11_head_43 E CT X Rt ls st h b else if t = 46 then bk_X11_head_46 E CT X Rt ls st h b else X t ls st h b) Rt
theorem bs_X11_head_32 {E : ZE} {CT : Nat → ZC} {X : ZK} {Rt : ZR} {ls : ZL} {st : List ZV} {h : ZH} {b : ZB2} (hX : zCl E mX11_head 11 false CT Rt X) (q : bk_X11_head_32 E CT X Rt ls st h b) : X 32 ls st h b := by
  refine hX k_X11_head_32 32 ok_X11_head_32 _ ?_ ls st h b q
  exact by
    intro t ls st h b q
    by_cases c : t = 43
    · subst c; rw [if_pos rfl] at q; exact bs_X11_head_43 hX q
    rw [if_neg c] at q
    by_cases c : t = 46
    · subst c; rw [if_pos rfl] at q; exact bs_X11_head_46 hX q
    rw [if_neg c] at q
    exact q
def bk_X11_head_0 (E : ZE) (CT : Nat → ZC) (X : ZK) (Rt : ZR) (ls : ZL) (st : List ZV) (h : ZH) (b : ZB2) : Prop := zB E CT k_X11_head_0 0 ls st h b (fun t ls st h b => if t = 32 then bk_X11_head_32 E CT X Rt ls st h b else if t = 46 then bk_X11_head_46 E CT X Rt ls st h b else if t = 52 then bk_X11_head_52 E CT X Rt ls st h b else X t ls st h b) Rt
theorem bs_X11_head_0 {E : ZE} {CT : Nat → ZC} {X : ZK} {Rt : ZR} {ls : ZL} {st : List ZV} {h : ZH} {b : ZB2} (hX : zCl E mX11_head 11 false CT Rt X) (q : bk_X11_head_0 E CT X Rt ls st h b) : X 0 ls st h b := by
  refine hX k_X11_head_0 0 ok_X11_head_0 _ ?_ ls st h b q
  exact by
    intro t ls st h b q
    by_cases c : t = 32
    · subst c; rw [if_pos rfl] at q; exact bs_X11_head_32 hX q
    rw [if_neg c] at q
    by_cases c : t = 46
    · subst c; rw [if_pos rfl] at q; exact bs_X11_head_46 hX q
    rw [if_neg c] at q
    by_cases c : t = 52
    · subst c; rw [if_pos rfl] at q; exact bs_X11_head_52 hX q
    rw [if_neg c] at q
    exact q
-- X11_head: cuts []
def k_X11_ofHead_0 : List ZI := [(.iload_n 1, 1, (0, [1], [])), (.invokestatic 216, 3, (0, [125, 1, 0, 11], [])), (.ifCond .eq 15, 3, (0, [19], [])), (.iload_n 2, 1, (0, [2], [])), (.i2l, 1, (0, [], [])), (.lconst 0, 1, (0, [], [])), (.ldc2_w 223, 3, (5, [], [])), (.invokestatic 61, 3, (0, [120, 3, 0, 11], [])), (.ifCond .ne 9, 3, (0, [25], []))]
theorem ok_X11_ofHead_0 : zOK cX11_ofHead 11 false 3 k_X11_ofHead_0 0 = true := zOK_by (by decide +kernel)
def k_X11_ofHead_19 : List ZI := [(.aload_n 0, 1, (0, [0], [])), (.iconst 1, 1, (0, [], [])), (.invokevirtual 139, 3, (0, [119, 2, 0, 11], [])), (.ireturn, 1, (0, [], []))]
theorem ok_X11_ofHead_19 : zOK cX11_ofHead 11 false 3 k_X11_ofHead_19 19 = true := zOK_by (by decide +kernel)
def k_X11_ofHead_25 : List ZI := [(.iload_n 2, 1, (0, [2], [])), (.iconst 4, 1, (0, [], [])), (.if_icmp .ge 12, 3, (0, [39], [])), (.aload_n 0, 1, (0, [0], [])), (.iload_n 1, 1, (0, [1], [])), (.iload_n 2, 1, (0, [2], [])), (.invokevirtual 161, 3, (0, [127, 3, 0, 11], [])), (.goto 21, 3, (0, [57], []))]
theorem ok_X11_ofHead_25 : zOK cX11_ofHead 11 false 3 k_X11_ofHead_25 25 = true := zOK_by (by decide +kernel)
def k_X11_ofHead_39 : List ZI := [(.iload_n 2, 1, (0, [2], [])), (.iconst 4, 1, (0, [], [])), (.if_icmp .ne 11, 3, (0, [52], [])), (.aload_n 0, 1, (0, [0], [])), (.iload_n 1, 1, (0, [1], [])), (.invokevirtual 191, 3, (0, [161, 2, 0, 11], [])), (.goto 8, 3, (0, [57], []))]
theorem ok_X11_ofHead_39 : zOK cX11_ofHead 11 false 3 k_X11_ofHead_39 39 = true := zOK_by (by decide +kernel)
def k_X11_ofHead_52 : List ZI := [(.aload_n 0, 1, (0, [0], [])), (.iload_n 1, 1, (0, [1], [])), (.invokevirtual 170, 3, (0, [155, 2, 0, 11], []))]
theorem ok_X11_ofHead_52 : zOK cX11_ofHead 11 false 3 k_X11_ofHead_52 52 = true := zOK_by (by decide +kernel)
def k_X11_ofHead_57 : List ZI := [(.ireturn, 1, (0, [], []))]
theorem ok_X11_ofHead_57 : zOK cX11_ofHead 11 false 3 k_X11_ofHead_57 57 = true := zOK_by (by decide +kernel)
theorem rt_X11_ofHead {g : Nat} {post : Option ZV → ZH → Prop} {h : ZH} {b : ZB2} {z : Int} : zRt mX11_ofHead g post (some (.inl z)) h b = (post (some (.inl z)) h ∧ h.1.length = g) := by show (_ ∧ _ ∧ True) = _; simp
def bk_X11_ofHead_19 (E : ZE) (CT : Nat → ZC) (X : ZK) (Rt : ZR) (ls : ZL) (st : List ZV) (h : ZH) (b : ZB2) : Prop := zB E CT k_X11_ofHead_19 19 ls st h b (fun t ls st h b => X t ls st h b) Rt
theorem bs_X11_ofHead_19 {E : ZE} {CT : Nat → ZC} {X : ZK} {Rt : ZR} {ls : ZL} {st : List ZV} {h : ZH} {b : ZB2} (hX : zCl E mX11_ofHead 11 false CT Rt X) (q : bk_X11_ofHead_19 E CT X Rt ls st h b) : X 19 ls st h b := by
  refine hX k_X11_ofHead_19 19 ok_X11_ofHead_19 _ ?_ ls st h b q
  exact fun t ls st h b q => q
def bk_X11_ofHead_57 (E : ZE) (CT : Nat → ZC) (X : ZK) (Rt : ZR) (ls : ZL) (st : List ZV) (h : ZH) (b : ZB2) : Prop := zB E CT k_X11_ofHead_57 57 ls st h b (fun t ls st h b => X t ls st h b) Rt
theorem bs_X11_ofHead_57 {E : ZE} {CT : Nat → ZC} {X : ZK} {Rt : ZR} {ls : ZL} {st : List ZV} {h : ZH} {b : ZB2} (hX : zCl E mX11_ofHead 11 false CT Rt X) (q : bk_X11_ofHead_57 E CT X Rt ls st h b) : X 57 ls st h b := by
  refine hX k_X11_ofHead_57 57 ok_X11_ofHead_57 _ ?_ ls st h b q
  exact fun t ls st h b q => q
def bk_X11_ofHead_52 (E : ZE) (CT : Nat → ZC) (X : ZK) (Rt : ZR) (ls : ZL) (st : List ZV) (h : ZH) (b : ZB2) : Prop := zB E CT k_X11_ofHead_52 52 ls st h b (fun t ls st h b => if t = 57 then bk_X11_ofHead_57 E CT X Rt ls st h b else X t ls st h b) Rt
theorem bs_X11_ofHead_52 {E : ZE} {CT : Nat → ZC} {X : ZK} {Rt : ZR} {ls : ZL} {st : List ZV} {h : ZH} {b : ZB2} (hX : zCl E mX11_ofHead 11 false CT Rt X) (q : bk_X11_ofHead_52 E CT X Rt ls st h b) : X 52 ls st h b := by
  refine hX k_X11_ofHead_52 52 ok_X11_ofHead_52 _ ?_ ls st h b q
  exact by
    intro t ls st h b q
    by_cases c : t = 57
    · subst c; rw [if_pos rfl] at q; exact bs_X11_ofHead_57 hX q
    rw [if_neg c] at q
    exact q
def bk_X11_ofHead_39 (E : ZE) (CT : Nat → ZC) (X : ZK) (Rt : ZR) (ls : ZL) (st : List ZV) (h : ZH) (b : ZB2) : Prop := zB E CT k_X11_ofHead_39 39 ls st h b (fun t ls st h b => if t = 52 then bk_X11_ofHead_52 E CT X Rt ls st h b else if t = 57 then bk_X11_ofHead_57 E CT X Rt ls st h b else X t ls st h b) Rt
theorem bs_X11_ofHead_39 {E : ZE} {CT : Nat → ZC} {X : ZK} {Rt : ZR} {ls : ZL} {st : List ZV} {h : ZH} {b : ZB2} (hX : zCl E mX11_ofHead 11 false CT Rt X) (q : bk_X11_ofHead_39 E CT X Rt ls st h b) : X 39 ls st h b := by
  refine hX k_X11_ofHead_39 39 ok_X11_ofHead_39 _ ?_ ls st h b q
  exact by
    intro t ls st h b q
    by_cases c : t = 52
    · subst c; rw [if_pos rfl] at q; exact bs_X11_ofHead_52 hX q
    rw [if_neg c] at q
    by_cases c : t = 57
    · subst c; rw [if_pos rfl] at q; exact bs_X11_ofHead_57 hX q
    rw [if_neg c] at q
    exact q
def bk_X11_ofHead_25 (E : ZE) (CT : Nat → ZC) (X : ZK) (Rt : ZR) (ls : ZL) (st : List ZV) (h : ZH) (b : ZB2) : Prop := zB E CT k_X11_ofHead_25 25 ls st h b (fun t ls st h b => if t = 39 then bk_X11_ofHead_39 E CT X Rt ls st h b else if t = 57 then bk_X11_ofHead_57 E CT X Rt ls st h b else X t ls st h b) Rt
theorem bs_X11_ofHead_25 {E : ZE} {CT : Nat → ZC} {X : ZK} {Rt : ZR} {ls : ZL} {st : List ZV} {h : ZH} {b : ZB2} (hX : zCl E mX11_ofHead 11 false CT Rt X) (q : bk_X11_ofHead_25 E CT X Rt ls st h b) : X 25 ls st h b := by
  refine hX k_X11_ofHead_25 25 ok_X11_ofHead_25 _ ?_ ls st h b q
  exact by
    intro t ls st h b q
    by_cases c : t = 39
    · subst c; rw [if_pos rfl] at q; exact bs_X11_ofHead_39 hX q
    rw [if_neg c] at q
    by_cases c : t = 57
    · subst c; rw [if_pos rfl] at q; exact bs_X11_ofHead_57 hX q
    rw [if_neg c] at q
    exact q
def bk_X11_ofHead_0 (E : ZE) (CT : Nat → ZC) (X : ZK) (Rt : ZR) (ls : ZL) (st : List ZV) (h : ZH) (b : ZB2) : Prop := zB E CT k_X11_ofHead_0 0 ls st h b (fun t ls st h b => if t = 19 then bk_X11_ofHead_19 E CT X Rt ls st h b else if t = 25 then bk_X11_ofHead_25 E CT X Rt ls st h b else X t ls st h b) Rt
theorem bs_X11_ofHead_0 {E : ZE} {CT : Nat → ZC} {X : ZK} {Rt : ZR} {ls : ZL} {st : List ZV} {h : ZH} {b : ZB2} (hX : zCl E mX11_ofHead 11 false CT Rt X) (q : bk_X11_ofHead_0 E CT X Rt ls st h b) : X 0 ls st h b := by
  refine hX k_X11_ofHead_0 0 ok_X11_ofHead_0 _ ?_ ls st h b q
  exact by
    intro t ls st h b q
    by_cases c : t = 19
    · subst c; rw [if_pos rfl] at q; exact bs_X11_ofHead_19 hX q
    rw [if_neg c] at q
    by_cases c : t = 25
    · subst c; rw [if_pos rfl] at q; exact bs_X11_ofHead_25 hX q
    rw [if_neg c] at q
    exact q
-- X11_ofHead: cuts []
def k_X11_engineer_0 : List ZI := [(.iload_n 1, 1, (0, [1], [])), (.invokestatic 227, 3, (0, [172, 1, 0, 11], [])), (.ifCond .eq 10, 3, (0, [14], [])), (.iload_n 2, 1, (0, [2], [])), (.invokestatic 216, 3, (0, [125, 1, 0, 11], [])), (.ifCond .ne 9, 3, (0, [20], []))]
theorem ok_X11_engineer_0 : zOK cX11_engineer 11 false 4 k_X11_engineer_0 0 = true := zOK_by (by decide +kernel)
def k_X11_engineer_14 : List ZI := [(.aload_n 0, 1, (0, [0], [])), (.iconst 1, 1, (0, [], [])), (.invokevirtual 139, 3, (0, [119, 2, 0, 11], [])), (.ireturn, 1, (0, [], []))]
theorem ok_X11_engineer_14 : zOK cX11_engineer 11 false 4 k_X11_engineer_14 14 = true := zOK_by (by decide +kernel)
def k_X11_engineer_20 : List ZI := [(.aload_n 0, 1, (0, [0], [])), (.getfield 7, 3, (0, [11, 0], [])), (.iconst 0, 1, (0, [], [])), (.iaload, 1, (0, [], [])), (.bipush 8, 2, (0, [], [])), (.if_icmp .ne 9, 3, (0, [37], [])), (.aload_n 0, 1, (0, [0], [])), (.iconst 4, 1, (0, [], [])), (.invokevirtual 139, 3, (0, [119, 2, 0, 11], [])), (.ireturn, 1, (0, [], []))]
theorem ok_X11_engineer_20 : zOK cX11_engineer 11 false 4 k_X11_engineer_20 20 = true := zOK_by (by decide +kernel)
def k_X11_engineer_37 : List ZI := [(.aload_n 0, 1, (0, [0], [])), (.getfield 7, 3, (0, [11, 0], [])), (.iconst 0, 1, (0, [], [])), (.iaload, 1, (0, [], [])), (.istore_n 3, 1, (0, [3], [])), (.aload_n 0, 1, (0, [0], [])), (.getfield 7, 3, (0, [11, 0], [])), (.sipush 162, 3, (0, [], [])), (.iconst 3, 1, (0, [], [])), (.iload_n 3, 1, (0, [3], [])), (.imul, 1, (0, [], [])), (.iadd, 1, (0, [], [])), (.iload_n 1, 1, (0, [1], [])), (.bipush 10, 2, (0, [], [])), (.idiv, 1, (0, [], [])), (.iastore, 1, (0, [], [])), (.aload_n 0, 1, (0, [0], [])), (.getfield 7, 3, (0, [11, 0], [])), (.sipush 162, 3, (0, [], [])), (.iconst 3, 1, (0, [], [])), (.iload_n 3, 1, (0, [3], [])), (.imul, 1, (0, [], [])), (.iadd, 1, (0, [], [])), (.iconst 1, 1, (0, [], [])), (.iadd, 1, (0, [], [])), (.iload_n 1, 1, (0, [1], [])), (.bipush 10, 2, (0, [], [])), (.irem, 1, (0, [], [])), (.iastore, 1, (0, [], [])), (.aload_n 0, 1, (0, [0], [])), (.getfield 7, 3, (0, [11, 0], [])), (.sipush 162, 3, (0, [], [])), (.iconst 3, 1, (0, [], [])), (.iload_n 3, 1, (0, [3], [])), (.imul, 1, (0, [], [])), (.iadd, 1, (0, [], [])), (.iconst 2, 1, (0, [], [])), (.iadd, 1, (0, [], [])), (.iload_n 2, 1, (0, [2], [])), (.iastore, 1, (0, [], [])), (.aload_n 0, 1, (0, [0], [])), (.getfield 7, 3, (0, [11, 0], [])), (.iconst 0, 1, (0, [], [])), (.dup2, 1, (0, [], [])), (.iaload, 1, (0, [], [])), (.iconst 1, 1, (0, [], [])), (.iadd, 1, (0, [], [])), (.iastore, 1, (0, [], [])), (.iload_n 3, 1, (0, [3], [])), (.ireturn, 1, (0, [], []))]
theorem ok_X11_engineer_37 : zOK cX11_engineer 11 false 4 k_X11_engineer_37 37 = true := zOK_by (by decide +kernel)
theorem rt_X11_engineer {g : Nat} {post : Option ZV → ZH → Prop} {h : ZH} {b : ZB2} {z : Int} : zRt mX11_engineer g post (some (.inl z)) h b = (post (some (.inl z)) h ∧ h.1.length = g) := by show (_ ∧ _ ∧ True) = _; simp
def bk_X11_engineer_14 (E : ZE) (CT : Nat → ZC) (X : ZK) (Rt : ZR) (ls : ZL) (st : List ZV) (h : ZH) (b : ZB2) : Prop := zB E CT k_X11_engineer_14 14 ls st h b (fun t ls st h b => X t ls st h b) Rt
theorem bs_X11_engineer_14 {E : ZE} {CT : Nat → ZC} {X : ZK} {Rt : ZR} {ls : ZL} {st : List ZV} {h : ZH} {b : ZB2} (hX : zCl E mX11_engineer 11 false CT Rt X) (q : bk_X11_engineer_14 E CT X Rt ls st h b) : X 14 ls st h b := by
  refine hX k_X11_engineer_14 14 ok_X11_engineer_14 _ ?_ ls st h b q
  exact fun t ls st h b q => q
def bk_X11_engineer_37 (E : ZE) (CT : Nat → ZC) (X : ZK) (Rt : ZR) (ls : ZL) (st : List ZV) (h : ZH) (b : ZB2) : Prop := zB E CT k_X11_engineer_37 37 ls st h b (fun t ls st h b => X t ls st h b) Rt
theorem bs_X11_engineer_37 {E : ZE} {CT : Nat → ZC} {X : ZK} {Rt : ZR} {ls : ZL} {st : List ZV} {h : ZH} {b : ZB2} (hX : zCl E mX11_engineer 11 false CT Rt X) (q : bk_X11_engineer_37 E CT X Rt ls st h b) : X 37 ls st h b := by
  refine hX k_X11_engineer_37 37 ok_X11_engineer_37 _ ?_ ls st h b q
  exact fun t ls st h b q => q
def bk_X11_engineer_20 (E : ZE) (CT : Nat → ZC) (X : ZK) (Rt : ZR) (ls : ZL) (st : List ZV) (h : ZH) (b : ZB2) : Prop := zB E CT k_X11_engineer_20 20 ls st h b (fun t ls st h b => if t = 37 then bk_X11_engineer_37 E CT X Rt ls st h b else X t ls st h b) Rt
theorem bs_X11_engineer_20 {E : ZE} {CT : Nat → ZC} {X : ZK} {Rt : ZR} {ls : ZL} {st : List ZV} {h : ZH} {b : ZB2} (hX : zCl E mX11_engineer 11 false CT Rt X) (q : bk_X11_engineer_20 E CT X Rt ls st h b) : X 20 ls st h b := by
  refine hX k_X11_engineer_20 20 ok_X11_engineer_20 _ ?_ ls st h b q
  exact by
    intro t ls st h b q
    by_cases c : t = 37
    · subst c; rw [if_pos rfl] at q; exact bs_X11_engineer_37 hX q
    rw [if_neg c] at q
    exact q
def bk_X11_engineer_0 (E : ZE) (CT : Nat → ZC) (X : ZK) (Rt : ZR) (ls : ZL) (st : List ZV) (h : ZH) (b : ZB2) : Prop := zB E CT k_X11_engineer_0 0 ls st h b (fun t ls st h b => if t = 14 then bk_X11_engineer_14 E CT X Rt ls st h b else if t = 20 then bk_X11_engineer_20 E CT X Rt ls st h b else X t ls st h b) Rt
theorem bs_X11_engineer_0 {E : ZE} {CT : Nat → ZC} {X : ZK} {Rt : ZR} {ls : ZL} {st : List ZV} {h : ZH} {b : ZB2} (hX : zCl E mX11_engineer 11 false CT Rt X) (q : bk_X11_engineer_0 E CT X Rt ls st h b) : X 0 ls st h b := by
  refine hX k_X11_engineer_0 0 ok_X11_engineer_0 _ ?_ ls st h b q
  exact by
    intro t ls st h b q
    by_cases c : t = 14
    · subst c; rw [if_pos rfl] at q; exact bs_X11_engineer_14 hX q
    rw [if_neg c] at q
    by_cases c : t = 20
    · subst c; rw [if_pos rfl] at q; exact bs_X11_engineer_20 hX q
    rw [if_neg c] at q
    exact q
-- X11_engineer: cuts []
def k_X11_ofEngineer_0 : List ZI := [(.aload_n 0, 1, (0, [0], [])), (.iload_n 1, 1, (0, [1], [])), (.invokevirtual 230, 3, (0, [123, 2, 0, 11], [])), (.ifCond .eq 15, 3, (0, [20], [])), (.iload_n 2, 1, (0, [2], [])), (.i2l, 1, (0, [], [])), (.lconst 0, 1, (0, [], [])), (.ldc2_w 233, 3, (4, [], [])), (.invokestatic 61, 3, (0, [120, 3, 0, 11], [])), (.ifCond .ne 9, 3, (0, [26], []))]
theorem ok_X11_ofEngineer_0 : zOK cX11_ofEngineer 11 false 3 k_X11_ofEngineer_0 0 = true := zOK_by (by decide +kernel)
def k_X11_ofEngineer_20 : List ZI := [(.aload_n 0, 1, (0, [0], [])), (.iconst 1, 1, (0, [], [])), (.invokevirtual 139, 3, (0, [119, 2, 0, 11], [])), (.ireturn, 1, (0, [], []))]
theorem ok_X11_ofEngineer_20 : zOK cX11_ofEngineer 11 false 3 k_X11_ofEngineer_20 20 = true := zOK_by (by decide +kernel)
def k_X11_ofEngineer_26 : List ZI := [(.iload_n 2, 1, (0, [2], [])), (.iconst 3, 1, (0, [], [])), (.if_icmp .ge 12, 3, (0, [40], [])), (.aload_n 0, 1, (0, [0], [])), (.iload_n 1, 1, (0, [1], [])), (.iload_n 2, 1, (0, [2], [])), (.invokevirtual 167, 3, (0, [126, 3, 0, 11], [])), (.goto 21, 3, (0, [58], []))]
theorem ok_X11_ofEngineer_26 : zOK cX11_ofEngineer 11 false 3 k_X11_ofEngineer_26 26 = true := zOK_by (by decide +kernel)
def k_X11_ofEngineer_40 : List ZI := [(.iload_n 2, 1, (0, [2], [])), (.iconst 3, 1, (0, [], [])), (.if_icmp .ne 11, 3, (0, [53], [])), (.aload_n 0, 1, (0, [0], [])), (.iload_n 1, 1, (0, [1], [])), (.invokevirtual 182, 3, (0, [158, 2, 0, 11], [])), (.goto 8, 3, (0, [58], []))]
theorem ok_X11_ofEngineer_40 : zOK cX11_ofEngineer 11 false 3 k_X11_ofEngineer_40 40 = true := zOK_by (by decide +kernel)
def k_X11_ofEngineer_53 : List ZI := [(.aload_n 0, 1, (0, [0], [])), (.iload_n 1, 1, (0, [1], [])), (.invokevirtual 185, 3, (0, [160, 2, 0, 11], []))]
theorem ok_X11_ofEngineer_53 : zOK cX11_ofEngineer 11 false 3 k_X11_ofEngineer_53 53 = true := zOK_by (by decide +kernel)
def k_X11_ofEngineer_58 : List ZI := [(.ireturn, 1, (0, [], []))]
theorem ok_X11_ofEngineer_58 : zOK cX11_ofEngineer 11 false 3 k_X11_ofEngineer_58 58 = true := zOK_by (by decide +kernel)
theorem rt_X11_ofEngineer {g : Nat} {post : Option ZV → ZH → Prop} {h : ZH} {b : ZB2} {z : Int} : zRt mX11_ofEngineer g post (some (.inl z)) h b = (post (some (.inl z)) h ∧ h.1.length = g) := by show (_ ∧ _ ∧ True) = _; simp
def bk_X11_ofEngineer_20 (E : ZE) (CT : Nat → ZC) (X : ZK) (Rt : ZR) (ls : ZL) (st : List ZV) (h : ZH) (b : ZB2) : Prop := zB E CT k_X11_ofEngineer_20 20 ls st h b (fun t ls st h b => X t ls st h b) Rt
theorem bs_X11_ofEngineer_20 {E : ZE} {CT : Nat → ZC} {X : ZK} {Rt : ZR} {ls : ZL} {st : List ZV} {h : ZH} {b : ZB2} (hX : zCl E mX11_ofEngineer 11 false CT Rt X) (q : bk_X11_ofEngineer_20 E CT X Rt ls st h b) : X 20 ls st h b := by
  refine hX k_X11_ofEngineer_20 20 ok_X11_ofEngineer_20 _ ?_ ls st h b q
  exact fun t ls st h b q => q
def bk_X11_ofEngineer_58 (E : ZE) (CT : Nat → ZC) (X : ZK) (Rt : ZR) (ls : ZL) (st : List ZV) (h : ZH) (b : ZB2) : Prop := zB E CT k_X11_ofEngineer_58 58 ls st h b (fun t ls st h b => X t ls st h b) Rt
theorem bs_X11_ofEngineer_58 {E : ZE} {CT : Nat → ZC} {X : ZK} {Rt : ZR} {ls : ZL} {st : List ZV} {h : ZH} {b : ZB2} (hX : zCl E mX11_ofEngineer 11 false CT Rt X) (q : bk_X11_ofEngineer_58 E CT X Rt ls st h b) : X 58 ls st h b := by
  refine hX k_X11_ofEngineer_58 58 ok_X11_ofEngineer_58 _ ?_ ls st h b q
  exact fun t ls st h b q => q
def bk_X11_ofEngineer_53 (E : ZE) (CT : Nat → ZC) (X : ZK) (Rt : ZR) (ls : ZL) (st : List ZV) (h : ZH) (b : ZB2) : Prop := zB E CT k_X11_ofEngineer_53 53 ls st h b (fun t ls st h b => if t = 58 then bk_X11_ofEngineer_58 E CT X Rt ls st h b else X t ls st h b) Rt
theorem bs_X11_ofEngineer_53 {E : ZE} {CT : Nat → ZC} {X : ZK} {Rt : ZR} {ls : ZL} {st : List ZV} {h : ZH} {b : ZB2} (hX : zCl E mX11_ofEngineer 11 false CT Rt X) (q : bk_X11_ofEngineer_53 E CT X Rt ls st h b) : X 53 ls st h b := by
  refine hX k_X11_ofEngineer_53 53 ok_X11_ofEngineer_53 _ ?_ ls st h b q
  exact by
    intro t ls st h b q
    by_cases c : t = 58
    · subst c; rw [if_pos rfl] at q; exact bs_X11_ofEngineer_58 hX q
    rw [if_neg c] at q
    exact q
def bk_X11_ofEngineer_40 (E : ZE) (CT : Nat → ZC) (X : ZK) (Rt : ZR) (ls : ZL) (st : List ZV) (h : ZH) (b : ZB2) : Prop := zB E CT k_X11_ofEngineer_40 40 ls st h b (fun t ls st h b => if t = 53 then bk_X11_ofEngineer_53 E CT X Rt ls st h b else if t = 58 then bk_X11_ofEngineer_58 E CT X Rt ls st h b else X t ls st h b) Rt
theorem bs_X11_ofEngineer_40 {E : ZE} {CT : Nat → ZC} {X : ZK} {Rt : ZR} {ls : ZL} {st : List ZV} {h : ZH} {b : ZB2} (hX : zCl E mX11_ofEngineer 11 false CT Rt X) (q : bk_X11_ofEngineer_40 E CT X Rt ls st h b) : X 40 ls st h b := by
  refine hX k_X11_ofEngineer_40 40 ok_X11_ofEngineer_40 _ ?_ ls st h b q
  exact by
    intro t ls st h b q
    by_cases c : t = 53
    · subst c; rw [if_pos rfl] at q; exact bs_X11_ofEngineer_53 hX q
    rw [if_neg c] at q
    by_cases c : t = 58
    · subst c; rw [if_pos rfl] at q; exact bs_X11_ofEngineer_58 hX q
    rw [if_neg c] at q
    exact q
def bk_X11_ofEngineer_26 (E : ZE) (CT : Nat → ZC) (X : ZK) (Rt : ZR) (ls : ZL) (st : List ZV) (h : ZH) (b : ZB2) : Prop := zB E CT k_X11_ofEngineer_26 26 ls st h b (fun t ls st h b => if t = 40 then bk_X11_ofEngineer_40 E CT X Rt ls st h b else if t = 58 then bk_X11_ofEngineer_58 E CT X Rt ls st h b else X t ls st h b) Rt
theorem bs_X11_ofEngineer_26 {E : ZE} {CT : Nat → ZC} {X : ZK} {Rt : ZR} {ls : ZL} {st : List ZV} {h : ZH} {b : ZB2} (hX : zCl E mX11_ofEngineer 11 false CT Rt X) (q : bk_X11_ofEngineer_26 E CT X Rt ls st h b) : X 26 ls st h b := by
  refine hX k_X11_ofEngineer_26 26 ok_X11_ofEngineer_26 _ ?_ ls st h b q
  exact by
    intro t ls st h b q
    by_cases c : t = 40
    · subst c; rw [if_pos rfl] at q; exact bs_X11_ofEngineer_40 hX q
    rw [if_neg c] at q
    by_cases c : t = 58
    · subst c; rw [if_pos rfl] at q; exact bs_X11_ofEngineer_58 hX q
    rw [if_neg c] at q
    exact q
def bk_X11_ofEngineer_0 (E : ZE) (CT : Nat → ZC) (X : ZK) (Rt : ZR) (ls : ZL) (st : List ZV) (h : ZH) (b : ZB2) : Prop := zB E CT k_X11_ofEngineer_0 0 ls st h b (fun t ls st h b => if t = 20 then bk_X11_ofEngineer_20 E CT X Rt ls st h b else if t = 26 then bk_X11_ofEngineer_26 E CT X Rt ls st h b else X t ls st h b) Rt
theorem bs_X11_ofEngineer_0 {E : ZE} {CT : Nat → ZC} {X : ZK} {Rt : ZR} {ls : ZL} {st : List ZV} {h : ZH} {b : ZB2} (hX : zCl E mX11_ofEngineer 11 false CT Rt X) (q : bk_X11_ofEngineer_0 E CT X Rt ls st h b) : X 0 ls st h b := by
  refine hX k_X11_ofEngineer_0 0 ok_X11_ofEngineer_0 _ ?_ ls st h b q
  exact by
    intro t ls st h b q
    by_cases c : t = 20
    · subst c; rw [if_pos rfl] at q; exact bs_X11_ofEngineer_20 hX q
    rw [if_neg c] at q
    by_cases c : t = 26
    · subst c; rw [if_pos rfl] at q; exact bs_X11_ofEngineer_26 hX q
    rw [if_neg c] at q
    exact q
-- X11_ofEngineer: cuts []
def k_X11_become_0 : List ZI := [(.aload_n 0, 1, (0, [0], [])), (.iload_n 1, 1, (0, [1], [])), (.invokevirtual 230, 3, (0, [123, 2, 0, 11], [])), (.ifCond .eq 10, 3, (0, [15], [])), (.iload_n 2, 1, (0, [2], [])), (.invokestatic 227, 3, (0, [172, 1, 0, 11], [])), (.ifCond .ne 9, 3, (0, [21], []))]
theorem ok_X11_become_0 : zOK cX11_become 11 false 3 k_X11_become_0 0 = true := zOK_by (by decide +kernel)
def k_X11_become_15 : List ZI := [(.aload_n 0, 1, (0, [0], [])), (.iconst 1, 1, (0, [], [])), (.invokevirtual 139, 3, (0, [119, 2, 0, 11], [])), (.ireturn, 1, (0, [], []))]
theorem ok_X11_become_15 : zOK cX11_become 11 false 3 k_X11_become_15 15 = true := zOK_by (by decide +kernel)
def k_X11_become_21 : List ZI := [(.aload_n 0, 1, (0, [0], [])), (.getfield 7, 3, (0, [11, 0], [])), (.sipush 162, 3, (0, [], [])), (.iconst 3, 1, (0, [], [])), (.iload_n 1, 1, (0, [1], [])), (.imul, 1, (0, [], [])), (.iadd, 1, (0, [], [])), (.iconst 1, 1, (0, [], [])), (.iadd, 1, (0, [], [])), (.iload_n 2, 1, (0, [2], [])), (.bipush 10, 2, (0, [], [])), (.irem, 1, (0, [], [])), (.iastore, 1, (0, [], [])), (.aload_n 0, 1, (0, [0], [])), (.sipush 162, 3, (0, [], [])), (.iconst 3, 1, (0, [], [])), (.iload_n 1, 1, (0, [1], [])), (.imul, 1, (0, [], [])), (.iadd, 1, (0, [], [])), (.iload_n 2, 1, (0, [2], [])), (.bipush 10, 2, (0, [], [])), (.idiv, 1, (0, [], [])), (.invokevirtual 208, 3, (0, [129, 3, 0, 11], [])), (.ireturn, 1, (0, [], []))]
theorem ok_X11_become_21 : zOK cX11_become 11 false 3 k_X11_become_21 21 = true := zOK_by (by decide +kernel)
theorem rt_X11_become {g : Nat} {post : Option ZV → ZH → Prop} {h : ZH} {b : ZB2} {z : Int} : zRt mX11_become g post (some (.inl z)) h b = (post (some (.inl z)) h ∧ h.1.length = g) := by show (_ ∧ _ ∧ True) = _; simp
def bk_X11_become_15 (E : ZE) (CT : Nat → ZC) (X : ZK) (Rt : ZR) (ls : ZL) (st : List ZV) (h : ZH) (b : ZB2) : Prop := zB E CT k_X11_become_15 15 ls st h b (fun t ls st h b => X t ls st h b) Rt
theorem bs_X11_become_15 {E : ZE} {CT : Nat → ZC} {X : ZK} {Rt : ZR} {ls : ZL} {st : List ZV} {h : ZH} {b : ZB2} (hX : zCl E mX11_become 11 false CT Rt X) (q : bk_X11_become_15 E CT X Rt ls st h b) : X 15 ls st h b := by
  refine hX k_X11_become_15 15 ok_X11_become_15 _ ?_ ls st h b q
  exact fun t ls st h b q => q
def bk_X11_become_21 (E : ZE) (CT : Nat → ZC) (X : ZK) (Rt : ZR) (ls : ZL) (st : List ZV) (h : ZH) (b : ZB2) : Prop := zB E CT k_X11_become_21 21 ls st h b (fun t ls st h b => X t ls st h b) Rt
theorem bs_X11_become_21 {E : ZE} {CT : Nat → ZC} {X : ZK} {Rt : ZR} {ls : ZL} {st : List ZV} {h : ZH} {b : ZB2} (hX : zCl E mX11_become 11 false CT Rt X) (q : bk_X11_become_21 E CT X Rt ls st h b) : X 21 ls st h b := by
  refine hX k_X11_become_21 21 ok_X11_become_21 _ ?_ ls st h b q
  exact fun t ls st h b q => q
def bk_X11_become_0 (E : ZE) (CT : Nat → ZC) (X : ZK) (Rt : ZR) (ls : ZL) (st : List ZV) (h : ZH) (b : ZB2) : Prop := zB E CT k_X11_become_0 0 ls st h b (fun t ls st h b => if t = 15 then bk_X11_become_15 E CT X Rt ls st h b else if t = 21 then bk_X11_become_21 E CT X Rt ls st h b else X t ls st h b) Rt
theorem bs_X11_become_0 {E : ZE} {CT : Nat → ZC} {X : ZK} {Rt : ZR} {ls : ZL} {st : List ZV} {h : ZH} {b : ZB2} (hX : zCl E mX11_become 11 false CT Rt X) (q : bk_X11_become_0 E CT X Rt ls st h b) : X 0 ls st h b := by
  refine hX k_X11_become_0 0 ok_X11_become_0 _ ?_ ls st h b q
  exact by
    intro t ls st h b q
    by_cases c : t = 15
    · subst c; rw [if_pos rfl] at q; exact bs_X11_become_15 hX q
    rw [if_neg c] at q
    by_cases c : t = 21
    · subst c; rw [if_pos rfl] at q; exact bs_X11_become_21 hX q
    rw [if_neg c] at q
    exact q
-- X11_become: cuts []
def k_X11_as_0 : List ZI := [(.aload_n 0, 1, (0, [0], [])), (.iload_n 1, 1, (0, [1], [])), (.invokevirtual 230, 3, (0, [123, 2, 0, 11], [])), (.ifCond .eq 15, 3, (0, [20], [])), (.iload_n 2, 1, (0, [2], [])), (.i2l, 1, (0, [], [])), (.lconst 0, 1, (0, [], [])), (.ldc2_w 235, 3, (6, [], [])), (.invokestatic 61, 3, (0, [120, 3, 0, 11], [])), (.ifCond .ne 9, 3, (0, [26], []))]
theorem ok_X11_as_0 : zOK cX11_as 11 false 4 k_X11_as_0 0 = true := zOK_by (by decide +kernel)
def k_X11_as_20 : List ZI := [(.aload_n 0, 1, (0, [0], [])), (.iconst 1, 1, (0, [], [])), (.invokevirtual 139, 3, (0, [119, 2, 0, 11], [])), (.ireturn, 1, (0, [], []))]
theorem ok_X11_as_20 : zOK cX11_as 11 false 4 k_X11_as_20 20 = true := zOK_by (by decide +kernel)
def k_X11_as_26 : List ZI := [(.aload_n 0, 1, (0, [0], [])), (.iload_n 1, 1, (0, [1], [])), (.iconst 0, 1, (0, [], [])), (.invokevirtual 167, 3, (0, [126, 3, 0, 11], [])), (.istore_n 3, 1, (0, [3], [])), (.iload_n 2, 1, (0, [2], [])), (.ifCond .eq 16, 3, (0, [50], [])), (.iload_n 2, 1, (0, [2], [])), (.iload_n 3, 1, (0, [3], [])), (.if_icmp .eq 11, 3, (0, [50], [])), (.iload_n 2, 1, (0, [2], [])), (.iload_n 3, 1, (0, [3], [])), (.invokestatic 237, 3, (0, [128, 1, 0, 11], [])), (.if_icmp .ne 12, 3, (0, [59], []))]
theorem ok_X11_as_26 : zOK cX11_as 11 false 4 k_X11_as_26 26 = true := zOK_by (by decide +kernel)
def k_X11_as_50 : List ZI := [(.aload_n 0, 1, (0, [0], [])), (.iload_n 1, 1, (0, [1], [])), (.iconst 1, 1, (0, [], [])), (.invokevirtual 167, 3, (0, [126, 3, 0, 11], [])), (.goto 8, 3, (0, [64], []))]
theorem ok_X11_as_50 : zOK cX11_as 11 false 4 k_X11_as_50 50 = true := zOK_by (by decide +kernel)
def k_X11_as_59 : List ZI := [(.aload_n 0, 1, (0, [0], [])), (.iconst 5, 1, (0, [], [])), (.invokevirtual 139, 3, (0, [119, 2, 0, 11], []))]
theorem ok_X11_as_59 : zOK cX11_as 11 false 4 k_X11_as_59 59 = true := zOK_by (by decide +kernel)
def k_X11_as_64 : List ZI := [(.ireturn, 1, (0, [], []))]
theorem ok_X11_as_64 : zOK cX11_as 11 false 4 k_X11_as_64 64 = true := zOK_by (by decide +kernel)
theorem rt_X11_as {g : Nat} {post : Option ZV → ZH → Prop} {h : ZH} {b : ZB2} {z : Int} : zRt mX11_as g post (some (.inl z)) h b = (post (some (.inl z)) h ∧ h.1.length = g) := by show (_ ∧ _ ∧ True) = _; simp
def bk_X11_as_20 (E : ZE) (CT : Nat → ZC) (X : ZK) (Rt : ZR) (ls : ZL) (st : List ZV) (h : ZH) (b : ZB2) : Prop := zB E CT k_X11_as_20 20 ls st h b (fun t ls st h b => X t ls st h b) Rt
theorem bs_X11_as_20 {E : ZE} {CT : Nat → ZC} {X : ZK} {Rt : ZR} {ls : ZL} {st : List ZV} {h : ZH} {b : ZB2} (hX : zCl E mX11_as 11 false CT Rt X) (q : bk_X11_as_20 E CT X Rt ls st h b) : X 20 ls st h b := by
  refine hX k_X11_as_20 20 ok_X11_as_20 _ ?_ ls st h b q
  exact fun t ls st h b q => q
def bk_X11_as_64 (E : ZE) (CT : Nat → ZC) (X : ZK) (Rt : ZR) (ls : ZL) (st : List ZV) (h : ZH) (b : ZB2) : Prop := zB E CT k_X11_as_64 64 ls st h b (fun t ls st h b => X t ls st h b) Rt
theorem bs_X11_as_64 {E : ZE} {CT : Nat → ZC} {X : ZK} {Rt : ZR} {ls : ZL} {st : List ZV} {h : ZH} {b : ZB2} (hX : zCl E mX11_as 11 false CT Rt X) (q : bk_X11_as_64 E CT X Rt ls st h b) : X 64 ls st h b := by
  refine hX k_X11_as_64 64 ok_X11_as_64 _ ?_ ls st h b q
  exact fun t ls st h b q => q
def bk_X11_as_50 (E : ZE) (CT : Nat → ZC) (X : ZK) (Rt : ZR) (ls : ZL) (st : List ZV) (h : ZH) (b : ZB2) : Prop := zB E CT k_X11_as_50 50 ls st h b (fun t ls st h b => if t = 64 then bk_X11_as_64 E CT X Rt ls st h b else X t ls st h b) Rt
theorem bs_X11_as_50 {E : ZE} {CT : Nat → ZC} {X : ZK} {Rt : ZR} {ls : ZL} {st : List ZV} {h : ZH} {b : ZB2} (hX : zCl E mX11_as 11 false CT Rt X) (q : bk_X11_as_50 E CT X Rt ls st h b) : X 50 ls st h b := by
  refine hX k_X11_as_50 50 ok_X11_as_50 _ ?_ ls st h b q
  exact by
    intro t ls st h b q
    by_cases c : t = 64
    · subst c; rw [if_pos rfl] at q; exact bs_X11_as_64 hX q
    rw [if_neg c] at q
    exact q
def bk_X11_as_59 (E : ZE) (CT : Nat → ZC) (X : ZK) (Rt : ZR) (ls : ZL) (st : List ZV) (h : ZH) (b : ZB2) : Prop := zB E CT k_X11_as_59 59 ls st h b (fun t ls st h b => if t = 64 then bk_X11_as_64 E CT X Rt ls st h b else X t ls st h b) Rt
theorem bs_X11_as_59 {E : ZE} {CT : Nat → ZC} {X : ZK} {Rt : ZR} {ls : ZL} {st : List ZV} {h : ZH} {b : ZB2} (hX : zCl E mX11_as 11 false CT Rt X) (q : bk_X11_as_59 E CT X Rt ls st h b) : X 59 ls st h b := by
  refine hX k_X11_as_59 59 ok_X11_as_59 _ ?_ ls st h b q
  exact by
    intro t ls st h b q
    by_cases c : t = 64
    · subst c; rw [if_pos rfl] at q; exact bs_X11_as_64 hX q
    rw [if_neg c] at q
    exact q
def bk_X11_as_26 (E : ZE) (CT : Nat → ZC) (X : ZK) (Rt : ZR) (ls : ZL) (st : List ZV) (h : ZH) (b : ZB2) : Prop := zB E CT k_X11_as_26 26 ls st h b (fun t ls st h b => if t = 50 then bk_X11_as_50 E CT X Rt ls st h b else if t = 59 then bk_X11_as_59 E CT X Rt ls st h b else X t ls st h b) Rt
theorem bs_X11_as_26 {E : ZE} {CT : Nat → ZC} {X : ZK} {Rt : ZR} {ls : ZL} {st : List ZV} {h : ZH} {b : ZB2} (hX : zCl E mX11_as 11 false CT Rt X) (q : bk_X11_as_26 E CT X Rt ls st h b) : X 26 ls st h b := by
  refine hX k_X11_as_26 26 ok_X11_as_26 _ ?_ ls st h b q
  exact by
    intro t ls st h b q
    by_cases c : t = 50
    · subst c; rw [if_pos rfl] at q; exact bs_X11_as_50 hX q
    rw [if_neg c] at q
    by_cases c : t = 59
    · subst c; rw [if_pos rfl] at q; exact bs_X11_as_59 hX q
    rw [if_neg c] at q
    exact q
def bk_X11_as_0 (E : ZE) (CT : Nat → ZC) (X : ZK) (Rt : ZR) (ls : ZL) (st : List ZV) (h : ZH) (b : ZB2) : Prop := zB E CT k_X11_as_0 0 ls st h b (fun t ls st h b => if t = 20 then bk_X11_as_20 E CT X Rt ls st h b else if t = 26 then bk_X11_as_26 E CT X Rt ls st h b else X t ls st h b) Rt
theorem bs_X11_as_0 {E : ZE} {CT : Nat → ZC} {X : ZK} {Rt : ZR} {ls : ZL} {st : List ZV} {h : ZH} {b : ZB2} (hX : zCl E mX11_as 11 false CT Rt X) (q : bk_X11_as_0 E CT X Rt ls st h b) : X 0 ls st h b := by
  refine hX k_X11_as_0 0 ok_X11_as_0 _ ?_ ls st h b q
  exact by
    intro t ls st h b q
    by_cases c : t = 20
    · subst c; rw [if_pos rfl] at q; exact bs_X11_as_20 hX q
    rw [if_neg c] at q
    by_cases c : t = 26
    · subst c; rw [if_pos rfl] at q; exact bs_X11_as_26 hX q
    rw [if_neg c] at q
    exact q
-- X11_as: cuts []
def r88 (S : ZMm) (f : Nat → Int) : ZMm := fun x => if x = 88 then f else S x
theorem st_r88 {M M' : ZMm} (h : ∀ x, ¬ x = 88 → ¬ x = 90 → ¬ x = 92 → ¬ x = 94 → M' x = M x) : st M' = r88 (st M) (M' 88) := by
  funext x k
  unfold r88
  by_cases q : x = 88
  · subst q; rw [if_pos rfl, st88]
  · rw [if_neg q]
    unfold st
    by_cases q2 : kpt x k = true
    · rw [if_pos q2, if_pos q2]
      have : ¬ x = 90 ∧ ¬ x = 92 ∧ ¬ x = 94 := by
        refine ⟨fun e => ?_, fun e => ?_, fun e => ?_⟩ <;> (subst e; simp [kpt] at q2)
      rw [h x q this.1 this.2.1 this.2.2]
    · rw [if_neg q2, if_neg q2]
theorem pub_88 {M : ZMm} {R : Int × ZMm} {post : Option ZV → ZMm → Prop} (h : pub M R post) {a : Int} {M' : ZMm} (hM : ∀ x, ¬ x = 88 → ¬ x = 90 → ¬ x = 92 → ¬ x = 94 → M' x = M x) (e : R = (a, r88 (st M) (M' 88))) : post (some (.inl a)) M' :=
  pub_of h (by rw [e, st_r88 hM]) (by rw [hM 87 (by decide) (by decide) (by decide) (by decide)]) (fun x q => hM x (by omega) (by omega) (by omega) (by omega))
theorem r88_id (S : ZMm) : r88 S (S 88) = S := by
  funext x; unfold r88
  by_cases q : x = 88
  · subst q; rw [if_pos rfl]
  · rw [if_neg q]
theorem pub_sc {M : ZMm} {R : Int × ZMm} {post : Option ZV → ZMm → Prop} (h : pub M R post) {a : Int} {M' : ZMm} (hM : ∀ x, ¬ x = 92 → ¬ x = 94 → M' x = M x) (e : R = (a, st M)) : post (some (.inl a)) M' :=
  pub_88 h (fun x _ _ q1 q2 => hM x q1 q2) (by rw [e, hM 88 (by decide) (by decide), ← st88 M, r88_id])
theorem pub_pt {M : ZMm} {R : Int × ZMm} {post : Option ZV → ZMm → Prop} (h : pub M R post) {a : Int} {M' : ZMm} {f : Nat → Int} (hd : M' 88 = f) (hM : ∀ x, ¬ x = 88 → M' x = M x) (e : R = (a, r88 (st M) f)) : post (some (.inl a)) M' :=
  pub_88 h (fun x q _ _ _ => hM x q) (by rw [e, hd])
theorem pub_s8 {M : ZMm} {R : Int × ZMm} {post : Option ZV → ZMm → Prop} (h : pub M R post) {a : Int} {k : Nat} {v : Int} (e : R = (a, r88 (st M) (up1 (M 88) k v))) : post (some (.inl a)) (zup M 88 k v) :=
  pub_88 h (fun x q _ _ _ => by rw [zup_ne _ q]) (by rw [e, zup_up])
def ptd (d : Nat → Int) (g c : Int) : Nat → Int := fun k => if 142 + 10 * g ≤ k ∧ k < 152 + 10 * g then c else up1 (up1 d (134 + 4 * g).toNat c) (70 + c).toNat 1 k
def B_isPut (g : Int) (c : Int) (M : Nat → Nat → Int) (post : Option ZV → (Nat → Nat → Int) → Prop) : Prop := 0 ≤ g ∧ g < 2 ∧ 0 ≤ c ∧ c ≤ 63 ∧ ∀ M' : ZMm, M' 88 = ptd (M 88) g c → (∀ x, ¬ x = 88 → M' x = M x) → post none M'
def C_isPut : ZC := fun as h post => match as with
  | [.inr (.inr (.inl 87)), .inl g, .inl c] => h.1 = zG ∧ B_isPut g c h.2 (fun v M => post v (zG, M))
  | _ => False
theorem r_isPut {g : Int} {c : Int} {M : Nat → Nat → Int} {post : Option ZV → ZH → Prop} : C_isPut [.inr (.inr (.inl 87)), .inl g, .inl c] (zG, M) post = B_isPut g c M (fun v M => post v (zG, M)) := by show (zG = zG ∧ _) = _; simp
def ct_isPut : Nat → ZC := fun n => fun _ _ _ => False
theorem c_isPut {E : ZE} {d : Nat} (hd : 1 ≤ d) : zMet E d mX11_isPut C_isPut := by
  refine zmet_of (o := 11) (ini := false) (CT := ct_isPut) gd_X11_isPut rfl (fun h => by cases h) (by omega) ?_ ?_
  · intro n as h post hh
    unfold ct_isPut at hh
    exact hh.elim
  intro as h post hC
  match as, hC with
  | [.inr (.inr (.inl 87)), .inl g, .inl c], hC =>
    refine ⟨Nat.le_of_ble_eq_true rfl, fun X hX => bs_X11_isPut_0 hX ?_⟩
    obtain ⟨G, M⟩ := h
    obtain ⟨hG, hC⟩ := hC
    dsimp only at hG
    subst hG
    simp only [B_isPut] at hC
    show bk_X11_isPut_0 E ct_isPut X _ [some (.inr (.inr (.inl 87))), some (.inl g), some (.inl c), none] [] (zG, M) (0, 0)
    obtain ⟨h1, h2, h3, h4, hC⟩ := hC
    have za : zr (134 + 4 * g) = 134 + 4 * g := zr_of (by omega) (by omega)
    have zb : zr (70 + c) = 70 + c := zr_of (by omega) (by omega)
    simp only [bk_X11_isPut_0, k_X11_isPut_0, bk_X11_isPut_27, k_X11_isPut_27, bk_X11_isPut_55, k_X11_isPut_55, ↓e_rk1, ↓e_rk0, ↓e_sk0, ↓e_sks, ↓e_ldi0, ↓e_ldis, ↓e_ldl0, ↓e_ldls, ↓e_lda0, ↓e_ldas, ↓e_ok0, ↓e_okss, ↓e_ok1i, ↓e_ok1r, ↓e_ok1n, ↓e_sti, ↓e_sta, ↓e_1, ↓e_2, ↓e_l1, ↓e_l2, ↓e_li, ↓e_sw0, ↓e_sws, ↓e_ceq, ↓e_cne, ↓e_clt, ↓e_cge, ↓e_cgt, ↓e_cle, ↓e_nil, ↓e_cons, ↓e_iconst, ↓e_bipush, ↓e_sipush, ↓e_ldc, ↓e_ldcw, ↓e_ldc2, ↓e_lconst, ↓e_iloadn, ↓e_iload, ↓e_lloadn, ↓e_lload, ↓e_aloadn, ↓e_aload, ↓e_istoren, ↓e_istore, ↓e_astoren, ↓e_astore, ↓e_add, ↓e_iinc, ↓e_iadd, ↓e_isub, ↓e_imul, ↓e_iand, ↓e_ior, ↓e_ixor, ↓e_ishl, ↓e_iushr, ↓e_idiv, ↓e_irem, ↓e_ineg, ↓e_i2l, ↓e_i2b, ↓e_i2s, ↓e_l2i, ↓e_land, ↓e_lor, ↓e_lshl, ↓e_lshr, ↓e_lushr, ↓e_lcmp, ↓e_dupi, ↓e_dupr, ↓e_popi, ↓e_dup2, ↓e_goto, ↓e_if, ↓e_icmp, ↓e_tsw, ↓e_lsw, ↓e_getf, ↓e_putf, ↓e_gets, ↓e_iald, ↓e_cald, ↓e_iast, ↓e_aald, ↓e_aast, ↓e_len, ↓e_copy, ↓e_abs, ↓e_max, ↓e_min, ↓e_iret, ↓e_aret, ↓e_vret, ↓e_is0, ↓e_is1, ↓e_is2, ↓e_is3, ↓e_is4, ↓e_iv1, ↓e_iv2, ↓e_iv3, ↓e_iv4, ↓e_iv5, ↓e_iv6, ↓rt_X11_isPut, ↓reduceIte, Nat.reduceAdd, Nat.reduceEqDiff, ↓zcl0, ↓zclv, List.map_nil, List.sum_nil, List.map_cons, List.sum_cons, zcat, true_and, and_true, Nat.reduceLeDiff, Nat.reduceAdd, eq_self, forall_const, e_ok0, e_okss, e_ok1i, e_ok1r, e_ok1n, zl_0, zl_1, zl_4, zl_10, zl_70, zl_134, zl_142, Int.reduceToNat, Int.reduceAdd, Int.reduceMul, Int.reduceSub, Int.reduceNeg, Int.reduceLT, Int.reduceLE, Int.reduceEq, not_false_eq_true, not_true_eq_false, false_implies, true_implies, implies_true, Int.reduceDiv, Int.reduceMod, zr8_zr, zr_zbo, z01_zbo, z01_0, z01_1, zbo_eq0, zup_eq, zup_o, zup_k, ne_eq, ↓v_87, ↓g_87_0, ↓l_88, ↓s_88, ↓n_88, ↓g_87_1, ↓l_89, ↓s_89, ↓n_89, ↓g_87_2, ↓l_90, ↓s_90, ↓n_90, ↓g_87_3, ↓p_87_3, ↓g_87_4, ↓l_91, ↓s_91, ↓n_91, ↓g_87_5, ↓p_87_5, ↓g_87_6, ↓p_87_6, ↓g_87_7, ↓p_87_7, ↓g_87_8, ↓p_87_8, ↓g_87_9, ↓p_87_9, ↓g_87_10, ↓p_87_10, ↓g_87_11, ↓l_92, ↓s_92, ↓n_92, ↓g_87_12, ↓l_93, ↓s_93, ↓n_93, ↓g_87_13, ↓p_87_13, ↓g_87_14, ↓l_94, ↓s_94, ↓n_94, ↓g_87_15, ↓p_87_15, ↓g_87_16, ↓l_95, ↓s_95, ↓n_95, ↓g_87_17, ↓l_96, ↓s_96, ↓n_96, ↓g_87_18, ↓l_97, ↓s_97, ↓n_97, ↓g_87_19, ↓p_87_19, ↓g_87_20, ↓p_87_20, ↓g_87_21, ↓l_98, ↓s_98, ↓n_98, ↓g_87_22, ↓l_99, ↓s_99, ↓n_99, ↓g_87_23, ↓l_100, ↓s_100, ↓n_100, ↓g_87_24, ↓l_101, ↓s_101, ↓n_101, za, zb, Int.add_zero]
    repeat (refine And.intro (by omega) ?_)
    have lp : ∀ (j k : Nat) (M' : ZMm), j + k = 10 → (∀ i : Nat, M' 88 i = if 142 + 10 * g ≤ i ∧ i < 142 + 10 * g + k then c else up1 (up1 (M 88) (134 + 4 * g).toNat c) (70 + c).toNat 1 i) → (∀ x, ¬ x = 88 → M' x = M x) → X 27 [some (.inr (.inr (.inl 87))), some (.inl g), some (.inl c), some (.inl (k : Int))] [] (zG, M') (0, 0) := by
      intro j
      induction j with
      | zero =>
        intro k M' hk hd hM
        refine bs_X11_isPut_27 hX ?_
        have zk : zr (k : Int) = k := zr_of (by omega) (by omega)
        have lk : ((k : Int) < 10) = False := eq_false (by omega)
        simp only [bk_X11_isPut_0, k_X11_isPut_0, bk_X11_isPut_27, k_X11_isPut_27, bk_X11_isPut_55, k_X11_isPut_55, ↓e_rk1, ↓e_rk0, ↓e_sk0, ↓e_sks, ↓e_ldi0, ↓e_ldis, ↓e_ldl0, ↓e_ldls, ↓e_lda0, ↓e_ldas, ↓e_ok0, ↓e_okss, ↓e_ok1i, ↓e_ok1r, ↓e_ok1n, ↓e_sti, ↓e_sta, ↓e_1, ↓e_2, ↓e_l1, ↓e_l2, ↓e_li, ↓e_sw0, ↓e_sws, ↓e_ceq, ↓e_cne, ↓e_clt, ↓e_cge, ↓e_cgt, ↓e_cle, ↓e_nil, ↓e_cons, ↓e_iconst, ↓e_bipush, ↓e_sipush, ↓e_ldc, ↓e_ldcw, ↓e_ldc2, ↓e_lconst, ↓e_iloadn, ↓e_iload, ↓e_lloadn, ↓e_lload, ↓e_aloadn, ↓e_aload, ↓e_istoren, ↓e_istore, ↓e_astoren, ↓e_astore, ↓e_add, ↓e_iinc, ↓e_iadd, ↓e_isub, ↓e_imul, ↓e_iand, ↓e_ior, ↓e_ixor, ↓e_ishl, ↓e_iushr, ↓e_idiv, ↓e_irem, ↓e_ineg, ↓e_i2l, ↓e_i2b, ↓e_i2s, ↓e_l2i, ↓e_land, ↓e_lor, ↓e_lshl, ↓e_lshr, ↓e_lushr, ↓e_lcmp, ↓e_dupi, ↓e_dupr, ↓e_popi, ↓e_dup2, ↓e_goto, ↓e_if, ↓e_icmp, ↓e_tsw, ↓e_lsw, ↓e_getf, ↓e_putf, ↓e_gets, ↓e_iald, ↓e_cald, ↓e_iast, ↓e_aald, ↓e_aast, ↓e_len, ↓e_copy, ↓e_abs, ↓e_max, ↓e_min, ↓e_iret, ↓e_aret, ↓e_vret, ↓e_is0, ↓e_is1, ↓e_is2, ↓e_is3, ↓e_is4, ↓e_iv1, ↓e_iv2, ↓e_iv3, ↓e_iv4, ↓e_iv5, ↓e_iv6, ↓rt_X11_isPut, ↓reduceIte, Nat.reduceAdd, Nat.reduceEqDiff, ↓zcl0, ↓zclv, List.map_nil, List.sum_nil, List.map_cons, List.sum_cons, zcat, true_and, and_true, Nat.reduceLeDiff, Nat.reduceAdd, eq_self, forall_const, e_ok0, e_okss, e_ok1i, e_ok1r, e_ok1n, zl_0, zl_1, zl_4, zl_10, zl_70, zl_134, zl_142, Int.reduceToNat, Int.reduceAdd, Int.reduceMul, Int.reduceSub, Int.reduceNeg, Int.reduceLT, Int.reduceLE, Int.reduceEq, not_false_eq_true, not_true_eq_false, false_implies, true_implies, implies_true, Int.reduceDiv, Int.reduceMod, zr8_zr, zr_zbo, z01_zbo, z01_0, z01_1, zbo_eq0, zup_eq, zup_o, zup_k, ne_eq, ↓v_87, ↓g_87_0, ↓l_88, ↓s_88, ↓n_88, ↓g_87_1, ↓l_89, ↓s_89, ↓n_89, ↓g_87_2, ↓l_90, ↓s_90, ↓n_90, ↓g_87_3, ↓p_87_3, ↓g_87_4, ↓l_91, ↓s_91, ↓n_91, ↓g_87_5, ↓p_87_5, ↓g_87_6, ↓p_87_6, ↓g_87_7, ↓p_87_7, ↓g_87_8, ↓p_87_8, ↓g_87_9, ↓p_87_9, ↓g_87_10, ↓p_87_10, ↓g_87_11, ↓l_92, ↓s_92, ↓n_92, ↓g_87_12, ↓l_93, ↓s_93, ↓n_93, ↓g_87_13, ↓p_87_13, ↓g_87_14, ↓l_94, ↓s_94, ↓n_94, ↓g_87_15, ↓p_87_15, ↓g_87_16, ↓l_95, ↓s_95, ↓n_95, ↓g_87_17, ↓l_96, ↓s_96, ↓n_96, ↓g_87_18, ↓l_97, ↓s_97, ↓n_97, ↓g_87_19, ↓p_87_19, ↓g_87_20, ↓p_87_20, ↓g_87_21, ↓l_98, ↓s_98, ↓n_98, ↓g_87_22, ↓l_99, ↓s_99, ↓n_99, ↓g_87_23, ↓l_100, ↓s_100, ↓n_100, ↓g_87_24, ↓l_101, ↓s_101, ↓n_101, zk, lk]
        refine hC M' ?_ hM
        funext i
        rw [hd i]
        unfold ptd
        have : k = 10 := by omega
        subst this
        by_cases q : 142 + 10 * g ≤ (i : Int) ∧ (i : Int) < 152 + 10 * g
        · rw [if_pos q, if_pos (by omega)]
        · rw [if_neg q, if_neg (by omega)]
      | succ j ih =>
        intro k M' hk hd hM
        refine bs_X11_isPut_27 hX ?_
        have zk : zr (k : Int) = k := zr_of (by omega) (by omega)
        have lk : ((k : Int) < 10) = True := eq_true (by omega)
        have zi : zr (142 + 10 * g + k) = 142 + 10 * g + k := zr_of (by omega) (by omega)
        simp only [bk_X11_isPut_0, k_X11_isPut_0, bk_X11_isPut_27, k_X11_isPut_27, bk_X11_isPut_55, k_X11_isPut_55, ↓e_rk1, ↓e_rk0, ↓e_sk0, ↓e_sks, ↓e_ldi0, ↓e_ldis, ↓e_ldl0, ↓e_ldls, ↓e_lda0, ↓e_ldas, ↓e_ok0, ↓e_okss, ↓e_ok1i, ↓e_ok1r, ↓e_ok1n, ↓e_sti, ↓e_sta, ↓e_1, ↓e_2, ↓e_l1, ↓e_l2, ↓e_li, ↓e_sw0, ↓e_sws, ↓e_ceq, ↓e_cne, ↓e_clt, ↓e_cge, ↓e_cgt, ↓e_cle, ↓e_nil, ↓e_cons, ↓e_iconst, ↓e_bipush, ↓e_sipush, ↓e_ldc, ↓e_ldcw, ↓e_ldc2, ↓e_lconst, ↓e_iloadn, ↓e_iload, ↓e_lloadn, ↓e_lload, ↓e_aloadn, ↓e_aload, ↓e_istoren, ↓e_istore, ↓e_astoren, ↓e_astore, ↓e_add, ↓e_iinc, ↓e_iadd, ↓e_isub, ↓e_imul, ↓e_iand, ↓e_ior, ↓e_ixor, ↓e_ishl, ↓e_iushr, ↓e_idiv, ↓e_irem, ↓e_ineg, ↓e_i2l, ↓e_i2b, ↓e_i2s, ↓e_l2i, ↓e_land, ↓e_lor, ↓e_lshl, ↓e_lshr, ↓e_lushr, ↓e_lcmp, ↓e_dupi, ↓e_dupr, ↓e_popi, ↓e_dup2, ↓e_goto, ↓e_if, ↓e_icmp, ↓e_tsw, ↓e_lsw, ↓e_getf, ↓e_putf, ↓e_gets, ↓e_iald, ↓e_cald, ↓e_iast, ↓e_aald, ↓e_aast, ↓e_len, ↓e_copy, ↓e_abs, ↓e_max, ↓e_min, ↓e_iret, ↓e_aret, ↓e_vret, ↓e_is0, ↓e_is1, ↓e_is2, ↓e_is3, ↓e_is4, ↓e_iv1, ↓e_iv2, ↓e_iv3, ↓e_iv4, ↓e_iv5, ↓e_iv6, ↓rt_X11_isPut, ↓reduceIte, Nat.reduceAdd, Nat.reduceEqDiff, ↓zcl0, ↓zclv, List.map_nil, List.sum_nil, List.map_cons, List.sum_cons, zcat, true_and, and_true, Nat.reduceLeDiff, Nat.reduceAdd, eq_self, forall_const, e_ok0, e_okss, e_ok1i, e_ok1r, e_ok1n, zl_0, zl_1, zl_4, zl_10, zl_70, zl_134, zl_142, Int.reduceToNat, Int.reduceAdd, Int.reduceMul, Int.reduceSub, Int.reduceNeg, Int.reduceLT, Int.reduceLE, Int.reduceEq, not_false_eq_true, not_true_eq_false, false_implies, true_implies, implies_true, Int.reduceDiv, Int.reduceMod, zr8_zr, zr_zbo, z01_zbo, z01_0, z01_1, zbo_eq0, zup_eq, zup_o, zup_k, ne_eq, ↓v_87, ↓g_87_0, ↓l_88, ↓s_88, ↓n_88, ↓g_87_1, ↓l_89, ↓s_89, ↓n_89, ↓g_87_2, ↓l_90, ↓s_90, ↓n_90, ↓g_87_3, ↓p_87_3, ↓g_87_4, ↓l_91, ↓s_91, ↓n_91, ↓g_87_5, ↓p_87_5, ↓g_87_6, ↓p_87_6, ↓g_87_7, ↓p_87_7, ↓g_87_8, ↓p_87_8, ↓g_87_9, ↓p_87_9, ↓g_87_10, ↓p_87_10, ↓g_87_11, ↓l_92, ↓s_92, ↓n_92, ↓g_87_12, ↓l_93, ↓s_93, ↓n_93, ↓g_87_13, ↓p_87_13, ↓g_87_14, ↓l_94, ↓s_94, ↓n_94, ↓g_87_15, ↓p_87_15, ↓g_87_16, ↓l_95, ↓s_95, ↓n_95, ↓g_87_17, ↓l_96, ↓s_96, ↓n_96, ↓g_87_18, ↓l_97, ↓s_97, ↓n_97, ↓g_87_19, ↓p_87_19, ↓g_87_20, ↓p_87_20, ↓g_87_21, ↓l_98, ↓s_98, ↓n_98, ↓g_87_22, ↓l_99, ↓s_99, ↓n_99, ↓g_87_23, ↓l_100, ↓s_100, ↓n_100, ↓g_87_24, ↓l_101, ↓s_101, ↓n_101, zk, lk, zi]
        repeat (refine And.intro (by omega) ?_)
        refine ih (k + 1) _ (by omega) (fun i => ?_) (fun x q => by rw [zup_ne _ q]; exact hM x q)
        by_cases q : i = (142 + 10 * g + (k : Int)).toNat
        · subst q
          rw [zup_eq, if_pos (by omega)]
        · rw [zup_k q, hd i]
          by_cases q2 : 142 + 10 * g ≤ (i : Int) ∧ (i : Int) < 142 + 10 * g + k
          · rw [if_pos q2, if_pos (by omega)]
          · rw [if_neg q2, if_neg (by omega)]
    refine lp 10 0 _ (by omega) (fun i => ?_) (fun x q => by rw [zup_ne _ q, zup_ne _ q])
    rw [if_neg (by omega), zup_up, zup_up]
def R_engineer (S : ZMm) (k s : Int) : Int × ZMm := if (0 ≤ k ∧ k ≤ 69) ∧ 0 ≤ s ∧ s ≤ 1 then (if S 88 0 = 8 then no S 4 else (S 88 0, r88 S (up1 (up1 (up1 (up1 (S 88) (162 + 3 * S 88 0).toNat (k / 10)) (162 + 3 * S 88 0 + 1).toNat (k % 10)) (162 + 3 * S 88 0 + 2).toNat s) 0 (S 88 0 + 1)))) else no S 1
def B_engineer (k : Int) (s : Int) (M : Nat → Nat → Int) (post : Option ZV → (Nat → Nat → Int) → Prop) : Prop := rg k ∧ rg s ∧ pub M (R_engineer (st M) k s) post
def C_engineer : ZC := fun as h post => match as with
  | [.inr (.inr (.inl 87)), .inl k, .inl s] => h.1 = zG ∧ B_engineer k s h.2 (fun v M => post v (zG, M))
  | _ => False
theorem r_engineer {k : Int} {s : Int} {M : Nat → Nat → Int} {post : Option ZV → ZH → Prop} : C_engineer [.inr (.inr (.inl 87)), .inl k, .inl s] (zG, M) post = B_engineer k s M (fun v M => post v (zG, M)) := by show (zG = zG ∧ _) = _; simp
def ct_engineer : Nat → ZC := fun n => if n = 172 then C_isKm else if n = 125 then C_isHead else if n = 119 then C_finds else fun _ _ _ => False
theorem ct_engineer_isKm {as : List ZV} {h : ZH} {post : Option ZV → ZH → Prop} : ct_engineer 172 as h post = C_isKm as h post := rfl
theorem ct_engineer_isHead {as : List ZV} {h : ZH} {post : Option ZV → ZH → Prop} : ct_engineer 125 as h post = C_isHead as h post := rfl
theorem ct_engineer_finds {as : List ZV} {h : ZH} {post : Option ZV → ZH → Prop} : ct_engineer 119 as h post = C_finds as h post := rfl
theorem c_engineer {E : ZE} {d : Nat} (hd : 3 ≤ d) : zMet E d mX11_engineer C_engineer := by
  refine zmet_of (o := 11) (ini := false) (CT := ct_engineer) gd_X11_engineer rfl (fun h => by cases h) (by omega) ?_ ?_
  · intro n as h post hh
    unfold ct_engineer at hh
    by_cases c : n = 172
    · subst c; exact ⟨gd_X11_isKm, 2, by omega, c_isKm (by omega)⟩
    rw [if_neg c] at hh
    by_cases c : n = 125
    · subst c; exact ⟨gd_X11_isHead, 2, by omega, c_isHead (by omega)⟩
    rw [if_neg c] at hh
    by_cases c : n = 119
    · subst c; exact ⟨gd_X11_finds, 1, by omega, c_finds (by omega)⟩
    rw [if_neg c] at hh
    exact hh.elim
  intro as h post hC
  match as, hC with
  | [.inr (.inr (.inl 87)), .inl k, .inl s], hC =>
    refine ⟨Nat.le_of_ble_eq_true rfl, fun X hX => bs_X11_engineer_0 hX ?_⟩
    obtain ⟨G, M⟩ := h
    obtain ⟨hG, hC⟩ := hC
    dsimp only at hG
    subst hG
    simp only [B_engineer] at hC
    show bk_X11_engineer_0 E ct_engineer X _ [some (.inr (.inr (.inl 87))), some (.inl k), some (.inl s), none] [] (zG, M) (0, 0)
    obtain ⟨h1, h2, hC⟩ := hC
    have vd : Vd (M 88) := hC.1.1
    have v0 := vd.1
    have s0 : st M 88 0 = M 88 0 := rfl
    have zN : zr (M 88 0) = M 88 0 := zr_of (by omega) (by omega)
    have z1 : zr (162 + 3 * M 88 0) = 162 + 3 * M 88 0 := zr_of (by omega) (by omega)
    have z2 : zr (162 + 3 * M 88 0 + 1) = 162 + 3 * M 88 0 + 1 := zr_of (by omega) (by omega)
    have z3 : zr (162 + 3 * M 88 0 + 2) = 162 + 3 * M 88 0 + 2 := zr_of (by omega) (by omega)
    simp only [bk_X11_engineer_0, k_X11_engineer_0, bk_X11_engineer_14, k_X11_engineer_14, bk_X11_engineer_20, k_X11_engineer_20, bk_X11_engineer_37, k_X11_engineer_37, ↓e_rk1, ↓e_rk0, ↓e_sk0, ↓e_sks, ↓e_ldi0, ↓e_ldis, ↓e_ldl0, ↓e_ldls, ↓e_lda0, ↓e_ldas, ↓e_ok0, ↓e_okss, ↓e_ok1i, ↓e_ok1r, ↓e_ok1n, ↓e_sti, ↓e_sta, ↓e_1, ↓e_2, ↓e_l1, ↓e_l2, ↓e_li, ↓e_sw0, ↓e_sws, ↓e_ceq, ↓e_cne, ↓e_clt, ↓e_cge, ↓e_cgt, ↓e_cle, ↓e_nil, ↓e_cons, ↓e_iconst, ↓e_bipush, ↓e_sipush, ↓e_ldc, ↓e_ldcw, ↓e_ldc2, ↓e_lconst, ↓e_iloadn, ↓e_iload, ↓e_lloadn, ↓e_lload, ↓e_aloadn, ↓e_aload, ↓e_istoren, ↓e_istore, ↓e_astoren, ↓e_astore, ↓e_add, ↓e_iinc, ↓e_iadd, ↓e_isub, ↓e_imul, ↓e_iand, ↓e_ior, ↓e_ixor, ↓e_ishl, ↓e_iushr, ↓e_idiv, ↓e_irem, ↓e_ineg, ↓e_i2l, ↓e_i2b, ↓e_i2s, ↓e_l2i, ↓e_land, ↓e_lor, ↓e_lshl, ↓e_lshr, ↓e_lushr, ↓e_lcmp, ↓e_dupi, ↓e_dupr, ↓e_popi, ↓e_dup2, ↓e_goto, ↓e_if, ↓e_icmp, ↓e_tsw, ↓e_lsw, ↓e_getf, ↓e_putf, ↓e_gets, ↓e_iald, ↓e_cald, ↓e_iast, ↓e_aald, ↓e_aast, ↓e_len, ↓e_copy, ↓e_abs, ↓e_max, ↓e_min, ↓e_iret, ↓e_aret, ↓e_vret, ↓e_is0, ↓e_is1, ↓e_is2, ↓e_is3, ↓e_is4, ↓e_iv1, ↓e_iv2, ↓e_iv3, ↓e_iv4, ↓e_iv5, ↓e_iv6, ↓rt_X11_engineer, ↓reduceIte, Nat.reduceAdd, Nat.reduceEqDiff, ↓zcl0, ↓zclv, List.map_nil, List.sum_nil, List.map_cons, List.sum_cons, zcat, true_and, and_true, Nat.reduceLeDiff, Nat.reduceAdd, eq_self, forall_const, e_ok0, e_okss, e_ok1i, e_ok1r, e_ok1n, zl_0, zl_1, zl_2, zl_3, zl_4, zl_8, zl_10, zl_162, Int.reduceToNat, Int.reduceAdd, Int.reduceMul, Int.reduceSub, Int.reduceNeg, Int.reduceLT, Int.reduceLE, Int.reduceEq, not_false_eq_true, not_true_eq_false, false_implies, true_implies, implies_true, Int.reduceDiv, Int.reduceMod, zr8_zr, zr_zbo, z01_zbo, z01_0, z01_1, zbo_eq0, zup_eq, zup_o, zup_k, ne_eq, ↓ct_engineer_isKm, ↓r_isKm, ↓B_isKm, ↓ct_engineer_isHead, ↓r_isHead, ↓B_isHead, ↓ct_engineer_finds, ↓r_finds, ↓B_finds, ↓v_87, ↓g_87_0, ↓l_88, ↓s_88, ↓n_88, ↓g_87_1, ↓l_89, ↓s_89, ↓n_89, ↓g_87_2, ↓l_90, ↓s_90, ↓n_90, ↓g_87_3, ↓p_87_3, ↓g_87_4, ↓l_91, ↓s_91, ↓n_91, ↓g_87_5, ↓p_87_5, ↓g_87_6, ↓p_87_6, ↓g_87_7, ↓p_87_7, ↓g_87_8, ↓p_87_8, ↓g_87_9, ↓p_87_9, ↓g_87_10, ↓p_87_10, ↓g_87_11, ↓l_92, ↓s_92, ↓n_92, ↓g_87_12, ↓l_93, ↓s_93, ↓n_93, ↓g_87_13, ↓p_87_13, ↓g_87_14, ↓l_94, ↓s_94, ↓n_94, ↓g_87_15, ↓p_87_15, ↓g_87_16, ↓l_95, ↓s_95, ↓n_95, ↓g_87_17, ↓l_96, ↓s_96, ↓n_96, ↓g_87_18, ↓l_97, ↓s_97, ↓n_97, ↓g_87_19, ↓p_87_19, ↓g_87_20, ↓p_87_20, ↓g_87_21, ↓l_98, ↓s_98, ↓n_98, ↓g_87_22, ↓l_99, ↓s_99, ↓n_99, ↓g_87_23, ↓l_100, ↓s_100, ↓n_100, ↓g_87_24, ↓l_101, ↓s_101, ↓n_101, zr_rg, h1, zr_rg, h2, zr8_rg, h1, zr8_rg, h2, zN, z1, z2, z3, zr8_zr, zr_zbo, zbo_01, zbo_eq0, zbo_eq1]
    repeat' (first | assumption | apply And.intro | intro _)
    all_goals first | omega | exact pub_no hC (by simp only [R_engineer]; (repeat' split) <;> first | rfl | omega) rfl | skip
    rename_i c1 c2 c3
    rw [td_of (by omega), tm_of (by omega), zup_k (by omega), zup_k (by omega), zup_k (by omega)]
    refine pub_88 hC (fun x q _ _ _ => by rw [zup_ne _ q, zup_ne _ q, zup_ne _ q, zup_ne _ q]) ?_
    unfold R_engineer
    rw [if_pos (by omega), if_neg (by omega), zup_up, zup_up, zup_up, zup_up]
    rfl
def R_become (S : ZMm) (e k : Int) : Int × ZMm := if (0 ≤ e ∧ e < S 88 0) ∧ 0 ≤ k ∧ k ≤ 69 then (ei (S 88) e 0, r88 S (up1 (up1 (S 88) (162 + 3 * e + 1).toNat (k % 10)) (162 + 3 * e).toNat (k / 10))) else no S 1
def B_become (e : Int) (k : Int) (M : Nat → Nat → Int) (post : Option ZV → (Nat → Nat → Int) → Prop) : Prop := rg e ∧ rg k ∧ pub M (R_become (st M) e k) post
def C_become : ZC := fun as h post => match as with
  | [.inr (.inr (.inl 87)), .inl e, .inl k] => h.1 = zG ∧ B_become e k h.2 (fun v M => post v (zG, M))
  | _ => False
theorem r_become {e : Int} {k : Int} {M : Nat → Nat → Int} {post : Option ZV → ZH → Prop} : C_become [.inr (.inr (.inl 87)), .inl e, .inl k] (zG, M) post = B_become e k M (fun v M => post v (zG, M)) := by show (zG = zG ∧ _) = _; simp
def ct_become : Nat → ZC := fun n => if n = 123 then C_isEngineer else if n = 172 then C_isKm else if n = 119 then C_finds else if n = 129 then C_becomes else fun _ _ _ => False
theorem ct_become_isEngineer {as : List ZV} {h : ZH} {post : Option ZV → ZH → Prop} : ct_become 123 as h post = C_isEngineer as h post := rfl
theorem ct_become_isKm {as : List ZV} {h : ZH} {post : Option ZV → ZH → Prop} : ct_become 172 as h post = C_isKm as h post := rfl
theorem ct_become_finds {as : List ZV} {h : ZH} {post : Option ZV → ZH → Prop} : ct_become 119 as h post = C_finds as h post := rfl
theorem ct_become_becomes {as : List ZV} {h : ZH} {post : Option ZV → ZH → Prop} : ct_become 129 as h post = C_becomes as h post := rfl
theorem c_become {E : ZE} {d : Nat} (hd : 3 ≤ d) : zMet E d mX11_become C_become := by
  refine zmet_of (o := 11) (ini := false) (CT := ct_become) gd_X11_become rfl (fun h => by cases h) (by omega) ?_ ?_
  · intro n as h post hh
    unfold ct_become at hh
    by_cases c : n = 123
    · subst c; exact ⟨gd_X11_isEngineer, 2, by omega, c_isEngineer (by omega)⟩
    rw [if_neg c] at hh
    by_cases c : n = 172
    · subst c; exact ⟨gd_X11_isKm, 2, by omega, c_isKm (by omega)⟩
    rw [if_neg c] at hh
    by_cases c : n = 119
    · subst c; exact ⟨gd_X11_finds, 1, by omega, c_finds (by omega)⟩
    rw [if_neg c] at hh
    by_cases c : n = 129
    · subst c; exact ⟨gd_X11_becomes, 1, by omega, c_becomes (by omega)⟩
    rw [if_neg c] at hh
    exact hh.elim
  intro as h post hC
  match as, hC with
  | [.inr (.inr (.inl 87)), .inl e, .inl k], hC =>
    refine ⟨Nat.le_of_ble_eq_true rfl, fun X hX => bs_X11_become_0 hX ?_⟩
    obtain ⟨G, M⟩ := h
    obtain ⟨hG, hC⟩ := hC
    dsimp only at hG
    subst hG
    simp only [B_become] at hC
    show bk_X11_become_0 E ct_become X _ [some (.inr (.inr (.inl 87))), some (.inl e), some (.inl k)] [] (zG, M) (0, 0)
    obtain ⟨h1, h2, hC⟩ := hC
    have vd : Vd (M 88) := hC.1.1
    have v0 := vd.1
    have s0 : st M 88 0 = M 88 0 := rfl
    simp only [bk_X11_become_0, k_X11_become_0, bk_X11_become_15, k_X11_become_15, bk_X11_become_21, k_X11_become_21, ↓e_rk1, ↓e_rk0, ↓e_sk0, ↓e_sks, ↓e_ldi0, ↓e_ldis, ↓e_ldl0, ↓e_ldls, ↓e_lda0, ↓e_ldas, ↓e_ok0, ↓e_okss, ↓e_ok1i, ↓e_ok1r, ↓e_ok1n, ↓e_sti, ↓e_sta, ↓e_1, ↓e_2, ↓e_l1, ↓e_l2, ↓e_li, ↓e_sw0, ↓e_sws, ↓e_ceq, ↓e_cne, ↓e_clt, ↓e_cge, ↓e_cgt, ↓e_cle, ↓e_nil, ↓e_cons, ↓e_iconst, ↓e_bipush, ↓e_sipush, ↓e_ldc, ↓e_ldcw, ↓e_ldc2, ↓e_lconst, ↓e_iloadn, ↓e_iload, ↓e_lloadn, ↓e_lload, ↓e_aloadn, ↓e_aload, ↓e_istoren, ↓e_istore, ↓e_astoren, ↓e_astore, ↓e_add, ↓e_iinc, ↓e_iadd, ↓e_isub, ↓e_imul, ↓e_iand, ↓e_ior, ↓e_ixor, ↓e_ishl, ↓e_iushr, ↓e_idiv, ↓e_irem, ↓e_ineg, ↓e_i2l, ↓e_i2b, ↓e_i2s, ↓e_l2i, ↓e_land, ↓e_lor, ↓e_lshl, ↓e_lshr, ↓e_lushr, ↓e_lcmp, ↓e_dupi, ↓e_dupr, ↓e_popi, ↓e_dup2, ↓e_goto, ↓e_if, ↓e_icmp, ↓e_tsw, ↓e_lsw, ↓e_getf, ↓e_putf, ↓e_gets, ↓e_iald, ↓e_cald, ↓e_iast, ↓e_aald, ↓e_aast, ↓e_len, ↓e_copy, ↓e_abs, ↓e_max, ↓e_min, ↓e_iret, ↓e_aret, ↓e_vret, ↓e_is0, ↓e_is1, ↓e_is2, ↓e_is3, ↓e_is4, ↓e_iv1, ↓e_iv2, ↓e_iv3, ↓e_iv4, ↓e_iv5, ↓e_iv6, ↓rt_X11_become, ↓reduceIte, Nat.reduceAdd, Nat.reduceEqDiff, ↓zcl0, ↓zclv, List.map_nil, List.sum_nil, List.map_cons, List.sum_cons, zcat, true_and, and_true, Nat.reduceLeDiff, Nat.reduceAdd, eq_self, forall_const, e_ok0, e_okss, e_ok1i, e_ok1r, e_ok1n, zl_1, zl_3, zl_10, zl_162, Int.reduceToNat, Int.reduceAdd, Int.reduceMul, Int.reduceSub, Int.reduceNeg, Int.reduceLT, Int.reduceLE, Int.reduceEq, not_false_eq_true, not_true_eq_false, false_implies, true_implies, implies_true, Int.reduceDiv, Int.reduceMod, zr8_zr, zr_zbo, z01_zbo, z01_0, z01_1, zbo_eq0, zup_eq, zup_o, zup_k, ne_eq, ↓ct_become_isEngineer, ↓r_isEngineer, ↓B_isEngineer, ↓ct_become_isKm, ↓r_isKm, ↓B_isKm, ↓ct_become_finds, ↓r_finds, ↓B_finds, ↓ct_become_becomes, ↓r_becomes, ↓B_becomes, ↓v_87, ↓g_87_0, ↓l_88, ↓s_88, ↓n_88, ↓g_87_1, ↓l_89, ↓s_89, ↓n_89, ↓g_87_2, ↓l_90, ↓s_90, ↓n_90, ↓g_87_3, ↓p_87_3, ↓g_87_4, ↓l_91, ↓s_91, ↓n_91, ↓g_87_5, ↓p_87_5, ↓g_87_6, ↓p_87_6, ↓g_87_7, ↓p_87_7, ↓g_87_8, ↓p_87_8, ↓g_87_9, ↓p_87_9, ↓g_87_10, ↓p_87_10, ↓g_87_11, ↓l_92, ↓s_92, ↓n_92, ↓g_87_12, ↓l_93, ↓s_93, ↓n_93, ↓g_87_13, ↓p_87_13, ↓g_87_14, ↓l_94, ↓s_94, ↓n_94, ↓g_87_15, ↓p_87_15, ↓g_87_16, ↓l_95, ↓s_95, ↓n_95, ↓g_87_17, ↓l_96, ↓s_96, ↓n_96, ↓g_87_18, ↓l_97, ↓s_97, ↓n_97, ↓g_87_19, ↓p_87_19, ↓g_87_20, ↓p_87_20, ↓g_87_21, ↓l_98, ↓s_98, ↓n_98, ↓g_87_22, ↓l_99, ↓s_99, ↓n_99, ↓g_87_23, ↓l_100, ↓s_100, ↓n_100, ↓g_87_24, ↓l_101, ↓s_101, ↓n_101, zr_rg, h1, zr_rg, h2, zr8_rg, h1, zr8_rg, h2, zr8_zr, zr_zbo, zbo_01, zbo_eq0, zbo_eq1]
    refine ⟨by omega, by omega, fun c1 => ?_, fun c1 => ⟨fun c2 => ?_, fun c2 => ?_⟩⟩
    · exact pub_no hC (by unfold R_become; rw [if_neg (by omega)]) rfl
    · exact pub_no hC (by unfold R_become; rw [if_neg (by omega)]) rfl
    rw [zr_of (by omega) (by omega), td_of (by omega), tm_of (by omega), zup_k (by omega)]
    repeat (refine And.intro (by omega) ?_)
    refine pub_88 hC (fun x q _ _ _ => by rw [zup_ne _ q, zup_ne _ q]) ?_
    unfold R_become
    rw [if_pos (by omega), zup_up, zup_up]
    unfold ei
    rw [show 162 + 3 * e + 0 = 162 + 3 * e by omega]
    rfl
def R_as (S : ZMm) (e k : Int) : Int × ZMm := if (0 ≤ e ∧ e < S 88 0) ∧ 0 ≤ k ∧ k ≤ 6 then (if k = 0 ∨ k = ei (S 88) e 0 ∨ k = abv (ei (S 88) e 0) then (ei (S 88) e 1, S) else no S 5) else no S 1
def B_as (e : Int) (k : Int) (M : Nat → Nat → Int) (post : Option ZV → (Nat → Nat → Int) → Prop) : Prop := rg e ∧ rg k ∧ pub M (R_as (st M) e k) post
def C_as : ZC := fun as h post => match as with
  | [.inr (.inr (.inl 87)), .inl e, .inl k] => h.1 = zG ∧ B_as e k h.2 (fun v M => post v (zG, M))
  | _ => False
theorem r_as {e : Int} {k : Int} {M : Nat → Nat → Int} {post : Option ZV → ZH → Prop} : C_as [.inr (.inr (.inl 87)), .inl e, .inl k] (zG, M) post = B_as e k M (fun v M => post v (zG, M)) := by show (zG = zG ∧ _) = _; simp
def ct_as : Nat → ZC := fun n => if n = 123 then C_isEngineer else if n = 120 then C_in else if n = 119 then C_finds else if n = 126 then C_of else if n = 128 then C_above else fun _ _ _ => False
theorem ct_as_isEngineer {as : List ZV} {h : ZH} {post : Option ZV → ZH → Prop} : ct_as 123 as h post = C_isEngineer as h post := rfl
theorem ct_as_in {as : List ZV} {h : ZH} {post : Option ZV → ZH → Prop} : ct_as 120 as h post = C_in as h post := rfl
theorem ct_as_finds {as : List ZV} {h : ZH} {post : Option ZV → ZH → Prop} : ct_as 119 as h post = C_finds as h post := rfl
theorem ct_as_of {as : List ZV} {h : ZH} {post : Option ZV → ZH → Prop} : ct_as 126 as h post = C_of as h post := rfl
theorem ct_as_above {as : List ZV} {h : ZH} {post : Option ZV → ZH → Prop} : ct_as 128 as h post = C_above as h post := rfl
theorem c_as {E : ZE} {d : Nat} (hd : 3 ≤ d) : zMet E d mX11_as C_as := by
  refine zmet_of (o := 11) (ini := false) (CT := ct_as) gd_X11_as rfl (fun h => by cases h) (by omega) ?_ ?_
  · intro n as h post hh
    unfold ct_as at hh
    by_cases c : n = 123
    · subst c; exact ⟨gd_X11_isEngineer, 2, by omega, c_isEngineer (by omega)⟩
    rw [if_neg c] at hh
    by_cases c : n = 120
    · subst c; exact ⟨gd_X11_in, 1, by omega, c_in (by omega)⟩
    rw [if_neg c] at hh
    by_cases c : n = 119
    · subst c; exact ⟨gd_X11_finds, 1, by omega, c_finds (by omega)⟩
    rw [if_neg c] at hh
    by_cases c : n = 126
    · subst c; exact ⟨gd_X11_of, 1, by omega, c_of (by omega)⟩
    rw [if_neg c] at hh
    by_cases c : n = 128
    · subst c; exact ⟨gd_X11_above, 1, by omega, c_above (by omega)⟩
    rw [if_neg c] at hh
    exact hh.elim
  intro as h post hC
  match as, hC with
  | [.inr (.inr (.inl 87)), .inl e, .inl k], hC =>
    refine ⟨Nat.le_of_ble_eq_true rfl, fun X hX => bs_X11_as_0 hX ?_⟩
    obtain ⟨G, M⟩ := h
    obtain ⟨hG, hC⟩ := hC
    dsimp only at hG
    subst hG
    simp only [B_as] at hC
    show bk_X11_as_0 E ct_as X _ [some (.inr (.inr (.inl 87))), some (.inl e), some (.inl k), none] [] (zG, M) (0, 0)
    obtain ⟨h1, h2, hC⟩ := hC
    have vd : Vd (M 88) := hC.1.1
    have v0 := vd.1
    have s0 : st M 88 0 = M 88 0 := rfl
    have e0 : M 88 (162 + 3 * e + 0).toNat = ei (st M 88) e 0 := rfl
    have e1 : M 88 (162 + 3 * e + 1).toNat = ei (st M 88) e 1 := rfl
    by_cases he : 0 ≤ e ∧ e < M 88 0
    · have ek := (Vd_ei vd (e := e) (by omega) (by omega)).1
      have e2 : ei (st M 88) e 0 = ei (M 88) e 0 := rfl
      have z0 : zr (ei (st M 88) e 0) = ei (st M 88) e 0 := zr_of (by omega) (by omega)
      have ab : abv (ei (st M 88) e 0) = if 3 < ei (st M 88) e 0 then ei (st M 88) e 0 - 3 else 0 := rfl
      have z1 : zr (abv (ei (st M 88) e 0)) = abv (ei (st M 88) e 0) := zr_of (by rw [ab]; split <;> omega) (by rw [ab]; split <;> omega)
      have r0 : rg (ei (st M 88) e 0) := ⟨by omega, by omega⟩
      simp only [bk_X11_as_0, k_X11_as_0, bk_X11_as_20, k_X11_as_20, bk_X11_as_26, k_X11_as_26, bk_X11_as_50, k_X11_as_50, bk_X11_as_59, k_X11_as_59, bk_X11_as_64, k_X11_as_64, ↓e_rk1, ↓e_rk0, ↓e_sk0, ↓e_sks, ↓e_ldi0, ↓e_ldis, ↓e_ldl0, ↓e_ldls, ↓e_lda0, ↓e_ldas, ↓e_ok0, ↓e_okss, ↓e_ok1i, ↓e_ok1r, ↓e_ok1n, ↓e_sti, ↓e_sta, ↓e_1, ↓e_2, ↓e_l1, ↓e_l2, ↓e_li, ↓e_sw0, ↓e_sws, ↓e_ceq, ↓e_cne, ↓e_clt, ↓e_cge, ↓e_cgt, ↓e_cle, ↓e_nil, ↓e_cons, ↓e_iconst, ↓e_bipush, ↓e_sipush, ↓e_ldc, ↓e_ldcw, ↓e_ldc2, ↓e_lconst, ↓e_iloadn, ↓e_iload, ↓e_lloadn, ↓e_lload, ↓e_aloadn, ↓e_aload, ↓e_istoren, ↓e_istore, ↓e_astoren, ↓e_astore, ↓e_add, ↓e_iinc, ↓e_iadd, ↓e_isub, ↓e_imul, ↓e_iand, ↓e_ior, ↓e_ixor, ↓e_ishl, ↓e_iushr, ↓e_idiv, ↓e_irem, ↓e_ineg, ↓e_i2l, ↓e_i2b, ↓e_i2s, ↓e_l2i, ↓e_land, ↓e_lor, ↓e_lshl, ↓e_lshr, ↓e_lushr, ↓e_lcmp, ↓e_dupi, ↓e_dupr, ↓e_popi, ↓e_dup2, ↓e_goto, ↓e_if, ↓e_icmp, ↓e_tsw, ↓e_lsw, ↓e_getf, ↓e_putf, ↓e_gets, ↓e_iald, ↓e_cald, ↓e_iast, ↓e_aald, ↓e_aast, ↓e_len, ↓e_copy, ↓e_abs, ↓e_max, ↓e_min, ↓e_iret, ↓e_aret, ↓e_vret, ↓e_is0, ↓e_is1, ↓e_is2, ↓e_is3, ↓e_is4, ↓e_iv1, ↓e_iv2, ↓e_iv3, ↓e_iv4, ↓e_iv5, ↓e_iv6, ↓rt_X11_as, ↓reduceIte, Nat.reduceAdd, Nat.reduceEqDiff, ↓zcl0, ↓zclv, List.map_nil, List.sum_nil, List.map_cons, List.sum_cons, zcat, true_and, and_true, Nat.reduceLeDiff, Nat.reduceAdd, eq_self, forall_const, e_ok0, e_okss, e_ok1i, e_ok1r, e_ok1n, zl_0, zl_1, zl_5, zq_0, zq_6, Int.reduceToNat, Int.reduceAdd, Int.reduceMul, Int.reduceSub, Int.reduceNeg, Int.reduceLT, Int.reduceLE, Int.reduceEq, not_false_eq_true, not_true_eq_false, false_implies, true_implies, implies_true, Int.reduceDiv, Int.reduceMod, zr8_zr, zr_zbo, z01_zbo, z01_0, z01_1, zbo_eq0, zup_eq, zup_o, zup_k, ne_eq, ↓ct_as_isEngineer, ↓r_isEngineer, ↓B_isEngineer, ↓ct_as_in, ↓r_in, ↓B_in, ↓ct_as_finds, ↓r_finds, ↓B_finds, ↓ct_as_of, ↓r_of, ↓B_of, ↓ct_as_above, ↓r_above, ↓B_above, ↓v_87, ↓g_87_0, ↓l_88, ↓s_88, ↓n_88, ↓g_87_1, ↓l_89, ↓s_89, ↓n_89, ↓g_87_2, ↓l_90, ↓s_90, ↓n_90, ↓g_87_3, ↓p_87_3, ↓g_87_4, ↓l_91, ↓s_91, ↓n_91, ↓g_87_5, ↓p_87_5, ↓g_87_6, ↓p_87_6, ↓g_87_7, ↓p_87_7, ↓g_87_8, ↓p_87_8, ↓g_87_9, ↓p_87_9, ↓g_87_10, ↓p_87_10, ↓g_87_11, ↓l_92, ↓s_92, ↓n_92, ↓g_87_12, ↓l_93, ↓s_93, ↓n_93, ↓g_87_13, ↓p_87_13, ↓g_87_14, ↓l_94, ↓s_94, ↓n_94, ↓g_87_15, ↓p_87_15, ↓g_87_16, ↓l_95, ↓s_95, ↓n_95, ↓g_87_17, ↓l_96, ↓s_96, ↓n_96, ↓g_87_18, ↓l_97, ↓s_97, ↓n_97, ↓g_87_19, ↓p_87_19, ↓g_87_20, ↓p_87_20, ↓g_87_21, ↓l_98, ↓s_98, ↓n_98, ↓g_87_22, ↓l_99, ↓s_99, ↓n_99, ↓g_87_23, ↓l_100, ↓s_100, ↓n_100, ↓g_87_24, ↓l_101, ↓s_101, ↓n_101, zr_rg, h1, zr_rg, h2, zr8_rg, h1, zr8_rg, h2, e0, e1, z0, z1, zr8_zr, zr_zbo, zbo_01, zbo_eq0, zbo_eq1]
      repeat' (first | assumption | apply And.intro | intro _)
      all_goals first | omega | (refine pub_no hC ?_ rfl; simp only [R_as]; (repeat' split) <;> first | rfl | omega) | (refine pub_id hC ?_; simp only [R_as]; (repeat' split) <;> first | rfl | omega) | (refine pub_sc hC (by assumption) ?_; simp only [R_as]; (repeat' split) <;> first | rfl | omega) | (refine pub_pt hC (by assumption) (by assumption) ?_; simp only [R_as]; (repeat' split) <;> first | rfl | omega) | (refine pub_s8 hC ?_; simp only [R_as]; (repeat' split) <;> first | rfl | omega) | (refine pub_sd hC ?_; simp only [R_as]; (repeat' split) <;> first | rfl | omega)
    · simp only [bk_X11_as_0, k_X11_as_0, bk_X11_as_20, k_X11_as_20, bk_X11_as_26, k_X11_as_26, bk_X11_as_50, k_X11_as_50, bk_X11_as_59, k_X11_as_59, bk_X11_as_64, k_X11_as_64, ↓e_rk1, ↓e_rk0, ↓e_sk0, ↓e_sks, ↓e_ldi0, ↓e_ldis, ↓e_ldl0, ↓e_ldls, ↓e_lda0, ↓e_ldas, ↓e_ok0, ↓e_okss, ↓e_ok1i, ↓e_ok1r, ↓e_ok1n, ↓e_sti, ↓e_sta, ↓e_1, ↓e_2, ↓e_l1, ↓e_l2, ↓e_li, ↓e_sw0, ↓e_sws, ↓e_ceq, ↓e_cne, ↓e_clt, ↓e_cge, ↓e_cgt, ↓e_cle, ↓e_nil, ↓e_cons, ↓e_iconst, ↓e_bipush, ↓e_sipush, ↓e_ldc, ↓e_ldcw, ↓e_ldc2, ↓e_lconst, ↓e_iloadn, ↓e_iload, ↓e_lloadn, ↓e_lload, ↓e_aloadn, ↓e_aload, ↓e_istoren, ↓e_istore, ↓e_astoren, ↓e_astore, ↓e_add, ↓e_iinc, ↓e_iadd, ↓e_isub, ↓e_imul, ↓e_iand, ↓e_ior, ↓e_ixor, ↓e_ishl, ↓e_iushr, ↓e_idiv, ↓e_irem, ↓e_ineg, ↓e_i2l, ↓e_i2b, ↓e_i2s, ↓e_l2i, ↓e_land, ↓e_lor, ↓e_lshl, ↓e_lshr, ↓e_lushr, ↓e_lcmp, ↓e_dupi, ↓e_dupr, ↓e_popi, ↓e_dup2, ↓e_goto, ↓e_if, ↓e_icmp, ↓e_tsw, ↓e_lsw, ↓e_getf, ↓e_putf, ↓e_gets, ↓e_iald, ↓e_cald, ↓e_iast, ↓e_aald, ↓e_aast, ↓e_len, ↓e_copy, ↓e_abs, ↓e_max, ↓e_min, ↓e_iret, ↓e_aret, ↓e_vret, ↓e_is0, ↓e_is1, ↓e_is2, ↓e_is3, ↓e_is4, ↓e_iv1, ↓e_iv2, ↓e_iv3, ↓e_iv4, ↓e_iv5, ↓e_iv6, ↓rt_X11_as, ↓reduceIte, Nat.reduceAdd, Nat.reduceEqDiff, ↓zcl0, ↓zclv, List.map_nil, List.sum_nil, List.map_cons, List.sum_cons, zcat, true_and, and_true, Nat.reduceLeDiff, Nat.reduceAdd, eq_self, forall_const, e_ok0, e_okss, e_ok1i, e_ok1r, e_ok1n, zl_0, zl_1, zl_5, zq_0, zq_6, Int.reduceToNat, Int.reduceAdd, Int.reduceMul, Int.reduceSub, Int.reduceNeg, Int.reduceLT, Int.reduceLE, Int.reduceEq, not_false_eq_true, not_true_eq_false, false_implies, true_implies, implies_true, Int.reduceDiv, Int.reduceMod, zr8_zr, zr_zbo, z01_zbo, z01_0, z01_1, zbo_eq0, zup_eq, zup_o, zup_k, ne_eq, ↓ct_as_isEngineer, ↓r_isEngineer, ↓B_isEngineer, ↓ct_as_in, ↓r_in, ↓B_in, ↓ct_as_finds, ↓r_finds, ↓B_finds, ↓ct_as_of, ↓r_of, ↓B_of, ↓ct_as_above, ↓r_above, ↓B_above, ↓v_87, ↓g_87_0, ↓l_88, ↓s_88, ↓n_88, ↓g_87_1, ↓l_89, ↓s_89, ↓n_89, ↓g_87_2, ↓l_90, ↓s_90, ↓n_90, ↓g_87_3, ↓p_87_3, ↓g_87_4, ↓l_91, ↓s_91, ↓n_91, ↓g_87_5, ↓p_87_5, ↓g_87_6, ↓p_87_6, ↓g_87_7, ↓p_87_7, ↓g_87_8, ↓p_87_8, ↓g_87_9, ↓p_87_9, ↓g_87_10, ↓p_87_10, ↓g_87_11, ↓l_92, ↓s_92, ↓n_92, ↓g_87_12, ↓l_93, ↓s_93, ↓n_93, ↓g_87_13, ↓p_87_13, ↓g_87_14, ↓l_94, ↓s_94, ↓n_94, ↓g_87_15, ↓p_87_15, ↓g_87_16, ↓l_95, ↓s_95, ↓n_95, ↓g_87_17, ↓l_96, ↓s_96, ↓n_96, ↓g_87_18, ↓l_97, ↓s_97, ↓n_97, ↓g_87_19, ↓p_87_19, ↓g_87_20, ↓p_87_20, ↓g_87_21, ↓l_98, ↓s_98, ↓n_98, ↓g_87_22, ↓l_99, ↓s_99, ↓n_99, ↓g_87_23, ↓l_100, ↓s_100, ↓n_100, ↓g_87_24, ↓l_101, ↓s_101, ↓n_101, zr_rg, h1, zr_rg, h2, zr8_rg, h1, zr8_rg, h2, e0, e1, zr8_zr, zr_zbo, zbo_01, zbo_eq0, zbo_eq1]
      refine ⟨by omega, by omega, fun c1 => ?_, fun c1 => absurd he c1⟩
      exact pub_no hC (by unfold R_as; rw [if_neg (by omega)]) rfl
def R_head (S : ZMm) (g w v : Int) : Int × ZMm := if ((0 ≤ g ∧ g ≤ 1) ∧ 0 ≤ w ∧ w ≤ 2) ∧ 0 ≤ v ∧ ((w = 0 ∧ v ≤ 63) ∨ (w = 1 ∧ v ≤ 20) ∨ (w = 2 ∧ v ≤ 99)) then (hi4 (S 88) g w, r88 S (if w = 0 then ptd (S 88) g v else up1 (S 88) (134 + 4 * g + w).toNat v)) else no S 1
def R_ofHead (S : ZMm) (g w : Int) : Int × ZMm := if (0 ≤ g ∧ g ≤ 1) ∧ 0 ≤ w ∧ w ≤ 5 then ((if w < 4 then hi4 (S 88) g w else if w = 4 then hk (S 88) (-1) g else hb (S 88) g), S) else no S 1
def R_ofEngineer (S : ZMm) (e w : Int) : Int × ZMm := if (0 ≤ e ∧ e < S 88 0) ∧ 0 ≤ w ∧ w ≤ 4 then ((if w < 3 then ei (S 88) e w else if w = 3 then pts (S 88) e else gvs (S 88) e), S) else no S 1
def B_head (g : Int) (w : Int) (v : Int) (M : Nat → Nat → Int) (post : Option ZV → (Nat → Nat → Int) → Prop) : Prop := rg g ∧ rg w ∧ rg v ∧ pub M (R_head (st M) g w v) post
def C_head : ZC := fun as h post => match as with
  | [.inr (.inr (.inl 87)), .inl g, .inl w, .inl v] => h.1 = zG ∧ B_head g w v h.2 (fun v M => post v (zG, M))
  | _ => False
theorem r_head {g : Int} {w : Int} {v : Int} {M : Nat → Nat → Int} {post : Option ZV → ZH → Prop} : C_head [.inr (.inr (.inl 87)), .inl g, .inl w, .inl v] (zG, M) post = B_head g w v M (fun v M => post v (zG, M)) := by show (zG = zG ∧ _) = _; simp
def ct_head : Nat → ZC := fun n => if n = 125 then C_isHead else if n = 120 then C_in else if n = 127 then C_its else if n = 154 then C_isPut else if n = 119 then C_finds else fun _ _ _ => False
theorem ct_head_isHead {as : List ZV} {h : ZH} {post : Option ZV → ZH → Prop} : ct_head 125 as h post = C_isHead as h post := rfl
theorem ct_head_in {as : List ZV} {h : ZH} {post : Option ZV → ZH → Prop} : ct_head 120 as h post = C_in as h post := rfl
theorem ct_head_its {as : List ZV} {h : ZH} {post : Option ZV → ZH → Prop} : ct_head 127 as h post = C_its as h post := rfl
theorem ct_head_isPut {as : List ZV} {h : ZH} {post : Option ZV → ZH → Prop} : ct_head 154 as h post = C_isPut as h post := rfl
theorem ct_head_finds {as : List ZV} {h : ZH} {post : Option ZV → ZH → Prop} : ct_head 119 as h post = C_finds as h post := rfl
theorem c_head {E : ZE} {d : Nat} (hd : 3 ≤ d) : zMet E d mX11_head C_head := by
  refine zmet_of (o := 11) (ini := false) (CT := ct_head) gd_X11_head rfl (fun h => by cases h) (by omega) ?_ ?_
  · intro n as h post hh
    unfold ct_head at hh
    by_cases c : n = 125
    · subst c; exact ⟨gd_X11_isHead, 2, by omega, c_isHead (by omega)⟩
    rw [if_neg c] at hh
    by_cases c : n = 120
    · subst c; exact ⟨gd_X11_in, 1, by omega, c_in (by omega)⟩
    rw [if_neg c] at hh
    by_cases c : n = 127
    · subst c; exact ⟨gd_X11_its, 1, by omega, c_its (by omega)⟩
    rw [if_neg c] at hh
    by_cases c : n = 154
    · subst c; exact ⟨gd_X11_isPut, 1, by omega, c_isPut (by omega)⟩
    rw [if_neg c] at hh
    by_cases c : n = 119
    · subst c; exact ⟨gd_X11_finds, 1, by omega, c_finds (by omega)⟩
    rw [if_neg c] at hh
    exact hh.elim
  intro as h post hC
  match as, hC with
  | [.inr (.inr (.inl 87)), .inl g, .inl w, .inl v], hC =>
    refine ⟨Nat.le_of_ble_eq_true rfl, fun X hX => bs_X11_head_0 hX ?_⟩
    obtain ⟨G, M⟩ := h
    obtain ⟨hG, hC⟩ := hC
    dsimp only at hG
    subst hG
    simp only [B_head] at hC
    show bk_X11_head_0 E ct_head X _ [some (.inr (.inr (.inl 87))), some (.inl g), some (.inl w), some (.inl v), none] [] (zG, M) (0, 0)
    obtain ⟨h1, h2, h3, hC⟩ := hC
    have vd : Vd (M 88) := hC.1.1
    by_cases hg : (0 ≤ g ∧ g ≤ 1) ∧ 0 ≤ w ∧ w ≤ 2
    · have za : zr (134 + 4 * g + w) = 134 + 4 * g + w := zr_of (by omega) (by omega)
      simp only [bk_X11_head_0, k_X11_head_0, bk_X11_head_32, k_X11_head_32, bk_X11_head_43, k_X11_head_43, bk_X11_head_46, k_X11_head_46, bk_X11_head_52, k_X11_head_52, bk_X11_head_58, k_X11_head_58, bk_X11_head_79, k_X11_head_79, bk_X11_head_94, k_X11_head_94, ↓e_rk1, ↓e_rk0, ↓e_sk0, ↓e_sks, ↓e_ldi0, ↓e_ldis, ↓e_ldl0, ↓e_ldls, ↓e_lda0, ↓e_ldas, ↓e_ok0, ↓e_okss, ↓e_ok1i, ↓e_ok1r, ↓e_ok1n, ↓e_sti, ↓e_sta, ↓e_1, ↓e_2, ↓e_l1, ↓e_l2, ↓e_li, ↓e_sw0, ↓e_sws, ↓e_ceq, ↓e_cne, ↓e_clt, ↓e_cge, ↓e_cgt, ↓e_cle, ↓e_nil, ↓e_cons, ↓e_iconst, ↓e_bipush, ↓e_sipush, ↓e_ldc, ↓e_ldcw, ↓e_ldc2, ↓e_lconst, ↓e_iloadn, ↓e_iload, ↓e_lloadn, ↓e_lload, ↓e_aloadn, ↓e_aload, ↓e_istoren, ↓e_istore, ↓e_astoren, ↓e_astore, ↓e_add, ↓e_iinc, ↓e_iadd, ↓e_isub, ↓e_imul, ↓e_iand, ↓e_ior, ↓e_ixor, ↓e_ishl, ↓e_iushr, ↓e_idiv, ↓e_irem, ↓e_ineg, ↓e_i2l, ↓e_i2b, ↓e_i2s, ↓e_l2i, ↓e_land, ↓e_lor, ↓e_lshl, ↓e_lshr, ↓e_lushr, ↓e_lcmp, ↓e_dupi, ↓e_dupr, ↓e_popi, ↓e_dup2, ↓e_goto, ↓e_if, ↓e_icmp, ↓e_tsw, ↓e_lsw, ↓e_getf, ↓e_putf, ↓e_gets, ↓e_iald, ↓e_cald, ↓e_iast, ↓e_aald, ↓e_aast, ↓e_len, ↓e_copy, ↓e_abs, ↓e_max, ↓e_min, ↓e_iret, ↓e_aret, ↓e_vret, ↓e_is0, ↓e_is1, ↓e_is2, ↓e_is3, ↓e_is4, ↓e_iv1, ↓e_iv2, ↓e_iv3, ↓e_iv4, ↓e_iv5, ↓e_iv6, ↓rt_X11_head, ↓reduceIte, Nat.reduceAdd, Nat.reduceEqDiff, ↓zcl0, ↓zclv, List.map_nil, List.sum_nil, List.map_cons, List.sum_cons, zcat, true_and, and_true, Nat.reduceLeDiff, Nat.reduceAdd, eq_self, forall_const, e_ok0, e_okss, e_ok1i, e_ok1r, e_ok1n, zl_1, zl_4, zl_134, zq_0, zq_2, zq_20, zq_63, zq_99, Int.reduceToNat, Int.reduceAdd, Int.reduceMul, Int.reduceSub, Int.reduceNeg, Int.reduceLT, Int.reduceLE, Int.reduceEq, not_false_eq_true, not_true_eq_false, false_implies, true_implies, implies_true, Int.reduceDiv, Int.reduceMod, zr8_zr, zr_zbo, z01_zbo, z01_0, z01_1, zbo_eq0, zup_eq, zup_o, zup_k, ne_eq, ↓ct_head_isHead, ↓r_isHead, ↓B_isHead, ↓ct_head_in, ↓r_in, ↓B_in, ↓ct_head_its, ↓r_its, ↓B_its, ↓ct_head_isPut, ↓r_isPut, ↓B_isPut, ↓ct_head_finds, ↓r_finds, ↓B_finds, ↓v_87, ↓g_87_0, ↓l_88, ↓s_88, ↓n_88, ↓g_87_1, ↓l_89, ↓s_89, ↓n_89, ↓g_87_2, ↓l_90, ↓s_90, ↓n_90, ↓g_87_3, ↓p_87_3, ↓g_87_4, ↓l_91, ↓s_91, ↓n_91, ↓g_87_5, ↓p_87_5, ↓g_87_6, ↓p_87_6, ↓g_87_7, ↓p_87_7, ↓g_87_8, ↓p_87_8, ↓g_87_9, ↓p_87_9, ↓g_87_10, ↓p_87_10, ↓g_87_11, ↓l_92, ↓s_92, ↓n_92, ↓g_87_12, ↓l_93, ↓s_93, ↓n_93, ↓g_87_13, ↓p_87_13, ↓g_87_14, ↓l_94, ↓s_94, ↓n_94, ↓g_87_15, ↓p_87_15, ↓g_87_16, ↓l_95, ↓s_95, ↓n_95, ↓g_87_17, ↓l_96, ↓s_96, ↓n_96, ↓g_87_18, ↓l_97, ↓s_97, ↓n_97, ↓g_87_19, ↓p_87_19, ↓g_87_20, ↓p_87_20, ↓g_87_21, ↓l_98, ↓s_98, ↓n_98, ↓g_87_22, ↓l_99, ↓s_99, ↓n_99, ↓g_87_23, ↓l_100, ↓s_100, ↓n_100, ↓g_87_24, ↓l_101, ↓s_101, ↓n_101, zr_rg, h1, zr_rg, h2, zr_rg, h3, zr8_rg, h1, zr8_rg, h2, zr8_rg, h3, zr8_zr, zr_zbo, zbo_01, zbo_eq0, zbo_eq1, za]
      repeat' (first | assumption | apply And.intro | intro _)
      all_goals first | omega | (refine pub_no hC ?_ rfl; simp only [R_head, hi4]; (repeat' split) <;> first | rfl | omega) | (refine pub_id hC ?_; simp only [R_head, hi4]; (repeat' split) <;> first | rfl | omega) | (refine pub_sc hC (by assumption) ?_; simp only [R_head, hi4]; (repeat' split) <;> first | rfl | omega) | (refine pub_pt hC (by assumption) (by assumption) ?_; simp only [R_head, hi4]; (repeat' split) <;> first | rfl | omega) | (refine pub_s8 hC ?_; simp only [R_head, hi4]; (repeat' split) <;> first | rfl | omega) | (refine pub_sd hC ?_; simp only [R_head, hi4]; (repeat' split) <;> first | rfl | omega)
    · simp only [bk_X11_head_0, k_X11_head_0, bk_X11_head_32, k_X11_head_32, bk_X11_head_43, k_X11_head_43, bk_X11_head_46, k_X11_head_46, bk_X11_head_52, k_X11_head_52, bk_X11_head_58, k_X11_head_58, bk_X11_head_79, k_X11_head_79, bk_X11_head_94, k_X11_head_94, ↓e_rk1, ↓e_rk0, ↓e_sk0, ↓e_sks, ↓e_ldi0, ↓e_ldis, ↓e_ldl0, ↓e_ldls, ↓e_lda0, ↓e_ldas, ↓e_ok0, ↓e_okss, ↓e_ok1i, ↓e_ok1r, ↓e_ok1n, ↓e_sti, ↓e_sta, ↓e_1, ↓e_2, ↓e_l1, ↓e_l2, ↓e_li, ↓e_sw0, ↓e_sws, ↓e_ceq, ↓e_cne, ↓e_clt, ↓e_cge, ↓e_cgt, ↓e_cle, ↓e_nil, ↓e_cons, ↓e_iconst, ↓e_bipush, ↓e_sipush, ↓e_ldc, ↓e_ldcw, ↓e_ldc2, ↓e_lconst, ↓e_iloadn, ↓e_iload, ↓e_lloadn, ↓e_lload, ↓e_aloadn, ↓e_aload, ↓e_istoren, ↓e_istore, ↓e_astoren, ↓e_astore, ↓e_add, ↓e_iinc, ↓e_iadd, ↓e_isub, ↓e_imul, ↓e_iand, ↓e_ior, ↓e_ixor, ↓e_ishl, ↓e_iushr, ↓e_idiv, ↓e_irem, ↓e_ineg, ↓e_i2l, ↓e_i2b, ↓e_i2s, ↓e_l2i, ↓e_land, ↓e_lor, ↓e_lshl, ↓e_lshr, ↓e_lushr, ↓e_lcmp, ↓e_dupi, ↓e_dupr, ↓e_popi, ↓e_dup2, ↓e_goto, ↓e_if, ↓e_icmp, ↓e_tsw, ↓e_lsw, ↓e_getf, ↓e_putf, ↓e_gets, ↓e_iald, ↓e_cald, ↓e_iast, ↓e_aald, ↓e_aast, ↓e_len, ↓e_copy, ↓e_abs, ↓e_max, ↓e_min, ↓e_iret, ↓e_aret, ↓e_vret, ↓e_is0, ↓e_is1, ↓e_is2, ↓e_is3, ↓e_is4, ↓e_iv1, ↓e_iv2, ↓e_iv3, ↓e_iv4, ↓e_iv5, ↓e_iv6, ↓rt_X11_head, ↓reduceIte, Nat.reduceAdd, Nat.reduceEqDiff, ↓zcl0, ↓zclv, List.map_nil, List.sum_nil, List.map_cons, List.sum_cons, zcat, true_and, and_true, Nat.reduceLeDiff, Nat.reduceAdd, eq_self, forall_const, e_ok0, e_okss, e_ok1i, e_ok1r, e_ok1n, zl_1, zl_4, zl_134, zq_0, zq_2, zq_20, zq_63, zq_99, Int.reduceToNat, Int.reduceAdd, Int.reduceMul, Int.reduceSub, Int.reduceNeg, Int.reduceLT, Int.reduceLE, Int.reduceEq, not_false_eq_true, not_true_eq_false, false_implies, true_implies, implies_true, Int.reduceDiv, Int.reduceMod, zr8_zr, zr_zbo, z01_zbo, z01_0, z01_1, zbo_eq0, zup_eq, zup_o, zup_k, ne_eq, ↓ct_head_isHead, ↓r_isHead, ↓B_isHead, ↓ct_head_in, ↓r_in, ↓B_in, ↓ct_head_its, ↓r_its, ↓B_its, ↓ct_head_isPut, ↓r_isPut, ↓B_isPut, ↓ct_head_finds, ↓r_finds, ↓B_finds, ↓v_87, ↓g_87_0, ↓l_88, ↓s_88, ↓n_88, ↓g_87_1, ↓l_89, ↓s_89, ↓n_89, ↓g_87_2, ↓l_90, ↓s_90, ↓n_90, ↓g_87_3, ↓p_87_3, ↓g_87_4, ↓l_91, ↓s_91, ↓n_91, ↓g_87_5, ↓p_87_5, ↓g_87_6, ↓p_87_6, ↓g_87_7, ↓p_87_7, ↓g_87_8, ↓p_87_8, ↓g_87_9, ↓p_87_9, ↓g_87_10, ↓p_87_10, ↓g_87_11, ↓l_92, ↓s_92, ↓n_92, ↓g_87_12, ↓l_93, ↓s_93, ↓n_93, ↓g_87_13, ↓p_87_13, ↓g_87_14, ↓l_94, ↓s_94, ↓n_94, ↓g_87_15, ↓p_87_15, ↓g_87_16, ↓l_95, ↓s_95, ↓n_95, ↓g_87_17, ↓l_96, ↓s_96, ↓n_96, ↓g_87_18, ↓l_97, ↓s_97, ↓n_97, ↓g_87_19, ↓p_87_19, ↓g_87_20, ↓p_87_20, ↓g_87_21, ↓l_98, ↓s_98, ↓n_98, ↓g_87_22, ↓l_99, ↓s_99, ↓n_99, ↓g_87_23, ↓l_100, ↓s_100, ↓n_100, ↓g_87_24, ↓l_101, ↓s_101, ↓n_101, zr_rg, h1, zr_rg, h2, zr_rg, h3, zr8_rg, h1, zr8_rg, h2, zr8_rg, h3, zr8_zr, zr_zbo, zbo_01, zbo_eq0, zbo_eq1]
      repeat' (first | assumption | apply And.intro | intro _)
      all_goals first | omega | exact pub_no hC (by unfold R_head; rw [if_neg (by omega)]) rfl
def B_ofHead (g : Int) (w : Int) (M : Nat → Nat → Int) (post : Option ZV → (Nat → Nat → Int) → Prop) : Prop := rg g ∧ rg w ∧ pub M (R_ofHead (st M) g w) post
def C_ofHead : ZC := fun as h post => match as with
  | [.inr (.inr (.inl 87)), .inl g, .inl w] => h.1 = zG ∧ B_ofHead g w h.2 (fun v M => post v (zG, M))
  | _ => False
theorem r_ofHead {g : Int} {w : Int} {M : Nat → Nat → Int} {post : Option ZV → ZH → Prop} : C_ofHead [.inr (.inr (.inl 87)), .inl g, .inl w] (zG, M) post = B_ofHead g w M (fun v M => post v (zG, M)) := by show (zG = zG ∧ _) = _; simp
def ct_ofHead : Nat → ZC := fun n => if n = 125 then C_isHead else if n = 120 then C_in else if n = 127 then C_its else if n = 161 then C_hearkens else if n = 155 then C_heardBy else if n = 119 then C_finds else fun _ _ _ => False
theorem ct_ofHead_isHead {as : List ZV} {h : ZH} {post : Option ZV → ZH → Prop} : ct_ofHead 125 as h post = C_isHead as h post := rfl
theorem ct_ofHead_in {as : List ZV} {h : ZH} {post : Option ZV → ZH → Prop} : ct_ofHead 120 as h post = C_in as h post := rfl
theorem ct_ofHead_its {as : List ZV} {h : ZH} {post : Option ZV → ZH → Prop} : ct_ofHead 127 as h post = C_its as h post := rfl
theorem ct_ofHead_hearkens {as : List ZV} {h : ZH} {post : Option ZV → ZH → Prop} : ct_ofHead 161 as h post = C_hearkens as h post := rfl
theorem ct_ofHead_heardBy {as : List ZV} {h : ZH} {post : Option ZV → ZH → Prop} : ct_ofHead 155 as h post = C_heardBy as h post := rfl
theorem ct_ofHead_finds {as : List ZV} {h : ZH} {post : Option ZV → ZH → Prop} : ct_ofHead 119 as h post = C_finds as h post := rfl
theorem c_ofHead {E : ZE} {d : Nat} (hd : 7 ≤ d) : zMet E d mX11_ofHead C_ofHead := by
  refine zmet_of (o := 11) (ini := false) (CT := ct_ofHead) gd_X11_ofHead rfl (fun h => by cases h) (by omega) ?_ ?_
  · intro n as h post hh
    unfold ct_ofHead at hh
    by_cases c : n = 125
    · subst c; exact ⟨gd_X11_isHead, 2, by omega, c_isHead (by omega)⟩
    rw [if_neg c] at hh
    by_cases c : n = 120
    · subst c; exact ⟨gd_X11_in, 1, by omega, c_in (by omega)⟩
    rw [if_neg c] at hh
    by_cases c : n = 127
    · subst c; exact ⟨gd_X11_its, 1, by omega, c_its (by omega)⟩
    rw [if_neg c] at hh
    by_cases c : n = 161
    · subst c; exact ⟨gd_X11_hearkens, 6, by omega, c_hearkens (by omega)⟩
    rw [if_neg c] at hh
    by_cases c : n = 155
    · subst c; exact ⟨gd_X11_heardBy, 1, by omega, c_heardBy (by omega)⟩
    rw [if_neg c] at hh
    by_cases c : n = 119
    · subst c; exact ⟨gd_X11_finds, 1, by omega, c_finds (by omega)⟩
    rw [if_neg c] at hh
    exact hh.elim
  intro as h post hC
  match as, hC with
  | [.inr (.inr (.inl 87)), .inl g, .inl w], hC =>
    refine ⟨Nat.le_of_ble_eq_true rfl, fun X hX => bs_X11_ofHead_0 hX ?_⟩
    obtain ⟨G, M⟩ := h
    obtain ⟨hG, hC⟩ := hC
    dsimp only at hG
    subst hG
    simp only [B_ofHead] at hC
    show bk_X11_ofHead_0 E ct_ofHead X _ [some (.inr (.inr (.inl 87))), some (.inl g), some (.inl w)] [] (zG, M) (0, 0)
    obtain ⟨h1, h2, hC⟩ := hC
    have vd : Vd (M 88) := hC.1.1
    have m15 : M 87 15 = -1 := hC.2.1
    have rm : rg (-1) := ⟨by omega, by omega⟩
    have v2 := vd.2.2.1
    simp only [bk_X11_ofHead_0, k_X11_ofHead_0, bk_X11_ofHead_19, k_X11_ofHead_19, bk_X11_ofHead_25, k_X11_ofHead_25, bk_X11_ofHead_39, k_X11_ofHead_39, bk_X11_ofHead_52, k_X11_ofHead_52, bk_X11_ofHead_57, k_X11_ofHead_57, ↓e_rk1, ↓e_rk0, ↓e_sk0, ↓e_sks, ↓e_ldi0, ↓e_ldis, ↓e_ldl0, ↓e_ldls, ↓e_lda0, ↓e_ldas, ↓e_ok0, ↓e_okss, ↓e_ok1i, ↓e_ok1r, ↓e_ok1n, ↓e_sti, ↓e_sta, ↓e_1, ↓e_2, ↓e_l1, ↓e_l2, ↓e_li, ↓e_sw0, ↓e_sws, ↓e_ceq, ↓e_cne, ↓e_clt, ↓e_cge, ↓e_cgt, ↓e_cle, ↓e_nil, ↓e_cons, ↓e_iconst, ↓e_bipush, ↓e_sipush, ↓e_ldc, ↓e_ldcw, ↓e_ldc2, ↓e_lconst, ↓e_iloadn, ↓e_iload, ↓e_lloadn, ↓e_lload, ↓e_aloadn, ↓e_aload, ↓e_istoren, ↓e_istore, ↓e_astoren, ↓e_astore, ↓e_add, ↓e_iinc, ↓e_iadd, ↓e_isub, ↓e_imul, ↓e_iand, ↓e_ior, ↓e_ixor, ↓e_ishl, ↓e_iushr, ↓e_idiv, ↓e_irem, ↓e_ineg, ↓e_i2l, ↓e_i2b, ↓e_i2s, ↓e_l2i, ↓e_land, ↓e_lor, ↓e_lshl, ↓e_lshr, ↓e_lushr, ↓e_lcmp, ↓e_dupi, ↓e_dupr, ↓e_popi, ↓e_dup2, ↓e_goto, ↓e_if, ↓e_icmp, ↓e_tsw, ↓e_lsw, ↓e_getf, ↓e_putf, ↓e_gets, ↓e_iald, ↓e_cald, ↓e_iast, ↓e_aald, ↓e_aast, ↓e_len, ↓e_copy, ↓e_abs, ↓e_max, ↓e_min, ↓e_iret, ↓e_aret, ↓e_vret, ↓e_is0, ↓e_is1, ↓e_is2, ↓e_is3, ↓e_is4, ↓e_iv1, ↓e_iv2, ↓e_iv3, ↓e_iv4, ↓e_iv5, ↓e_iv6, ↓rt_X11_ofHead, ↓reduceIte, Nat.reduceAdd, Nat.reduceEqDiff, ↓zcl0, ↓zclv, List.map_nil, List.sum_nil, List.map_cons, List.sum_cons, zcat, true_and, and_true, Nat.reduceLeDiff, Nat.reduceAdd, eq_self, forall_const, e_ok0, e_okss, e_ok1i, e_ok1r, e_ok1n, zl_1, zl_4, zq_0, zq_5, Int.reduceToNat, Int.reduceAdd, Int.reduceMul, Int.reduceSub, Int.reduceNeg, Int.reduceLT, Int.reduceLE, Int.reduceEq, not_false_eq_true, not_true_eq_false, false_implies, true_implies, implies_true, Int.reduceDiv, Int.reduceMod, zr8_zr, zr_zbo, z01_zbo, z01_0, z01_1, zbo_eq0, zup_eq, zup_o, zup_k, ne_eq, ↓ct_ofHead_isHead, ↓r_isHead, ↓B_isHead, ↓ct_ofHead_in, ↓r_in, ↓B_in, ↓ct_ofHead_its, ↓r_its, ↓B_its, ↓ct_ofHead_hearkens, ↓r_hearkens, ↓B_hearkens, ↓ct_ofHead_heardBy, ↓r_heardBy, ↓B_heardBy, ↓ct_ofHead_finds, ↓r_finds, ↓B_finds, ↓v_87, ↓g_87_0, ↓l_88, ↓s_88, ↓n_88, ↓g_87_1, ↓l_89, ↓s_89, ↓n_89, ↓g_87_2, ↓l_90, ↓s_90, ↓n_90, ↓g_87_3, ↓p_87_3, ↓g_87_4, ↓l_91, ↓s_91, ↓n_91, ↓g_87_5, ↓p_87_5, ↓g_87_6, ↓p_87_6, ↓g_87_7, ↓p_87_7, ↓g_87_8, ↓p_87_8, ↓g_87_9, ↓p_87_9, ↓g_87_10, ↓p_87_10, ↓g_87_11, ↓l_92, ↓s_92, ↓n_92, ↓g_87_12, ↓l_93, ↓s_93, ↓n_93, ↓g_87_13, ↓p_87_13, ↓g_87_14, ↓l_94, ↓s_94, ↓n_94, ↓g_87_15, ↓p_87_15, ↓g_87_16, ↓l_95, ↓s_95, ↓n_95, ↓g_87_17, ↓l_96, ↓s_96, ↓n_96, ↓g_87_18, ↓l_97, ↓s_97, ↓n_97, ↓g_87_19, ↓p_87_19, ↓g_87_20, ↓p_87_20, ↓g_87_21, ↓l_98, ↓s_98, ↓n_98, ↓g_87_22, ↓l_99, ↓s_99, ↓n_99, ↓g_87_23, ↓l_100, ↓s_100, ↓n_100, ↓g_87_24, ↓l_101, ↓s_101, ↓n_101, m15, zr_rg, h1, zr_rg, h2, zr8_rg, h1, zr8_rg, h2, zr8_zr, zr_zbo, zbo_01, zbo_eq0, zbo_eq1]
    repeat' (first | assumption | apply And.intro | intro _)
    all_goals first | omega | (refine pub_no hC ?_ rfl; simp only [R_ofHead, hi4, hb, pa]; (repeat' split) <;> first | rfl | omega) | (refine pub_id hC ?_; simp only [R_ofHead, hi4, hb, pa]; (repeat' split) <;> first | rfl | omega) | (refine pub_sc hC (by assumption) ?_; simp only [R_ofHead, hi4, hb, pa]; (repeat' split) <;> first | rfl | omega) | (refine pub_pt hC (by assumption) (by assumption) ?_; simp only [R_ofHead, hi4, hb, pa]; (repeat' split) <;> first | rfl | omega) | (refine pub_s8 hC ?_; simp only [R_ofHead, hi4, hb, pa]; (repeat' split) <;> first | rfl | omega) | (refine pub_sd hC ?_; simp only [R_ofHead, hi4, hb, pa]; (repeat' split) <;> first | rfl | omega)
def B_ofEngineer (e : Int) (w : Int) (M : Nat → Nat → Int) (post : Option ZV → (Nat → Nat → Int) → Prop) : Prop := rg e ∧ rg w ∧ pub M (R_ofEngineer (st M) e w) post
def C_ofEngineer : ZC := fun as h post => match as with
  | [.inr (.inr (.inl 87)), .inl e, .inl w] => h.1 = zG ∧ B_ofEngineer e w h.2 (fun v M => post v (zG, M))
  | _ => False
theorem r_ofEngineer {e : Int} {w : Int} {M : Nat → Nat → Int} {post : Option ZV → ZH → Prop} : C_ofEngineer [.inr (.inr (.inl 87)), .inl e, .inl w] (zG, M) post = B_ofEngineer e w M (fun v M => post v (zG, M)) := by show (zG = zG ∧ _) = _; simp
def ct_ofEngineer : Nat → ZC := fun n => if n = 123 then C_isEngineer else if n = 120 then C_in else if n = 126 then C_of else if n = 158 then C_points else if n = 160 then C_gives else if n = 119 then C_finds else fun _ _ _ => False
theorem ct_ofEngineer_isEngineer {as : List ZV} {h : ZH} {post : Option ZV → ZH → Prop} : ct_ofEngineer 123 as h post = C_isEngineer as h post := rfl
theorem ct_ofEngineer_in {as : List ZV} {h : ZH} {post : Option ZV → ZH → Prop} : ct_ofEngineer 120 as h post = C_in as h post := rfl
theorem ct_ofEngineer_of {as : List ZV} {h : ZH} {post : Option ZV → ZH → Prop} : ct_ofEngineer 126 as h post = C_of as h post := rfl
theorem ct_ofEngineer_points {as : List ZV} {h : ZH} {post : Option ZV → ZH → Prop} : ct_ofEngineer 158 as h post = C_points as h post := rfl
theorem ct_ofEngineer_gives {as : List ZV} {h : ZH} {post : Option ZV → ZH → Prop} : ct_ofEngineer 160 as h post = C_gives as h post := rfl
theorem ct_ofEngineer_finds {as : List ZV} {h : ZH} {post : Option ZV → ZH → Prop} : ct_ofEngineer 119 as h post = C_finds as h post := rfl
theorem c_ofEngineer {E : ZE} {d : Nat} (hd : 6 ≤ d) : zMet E d mX11_ofEngineer C_ofEngineer := by
  refine zmet_of (o := 11) (ini := false) (CT := ct_ofEngineer) gd_X11_ofEngineer rfl (fun h => by cases h) (by omega) ?_ ?_
  · intro n as h post hh
    unfold ct_ofEngineer at hh
    by_cases c : n = 123
    · subst c; exact ⟨gd_X11_isEngineer, 2, by omega, c_isEngineer (by omega)⟩
    rw [if_neg c] at hh
    by_cases c : n = 120
    · subst c; exact ⟨gd_X11_in, 1, by omega, c_in (by omega)⟩
    rw [if_neg c] at hh
    by_cases c : n = 126
    · subst c; exact ⟨gd_X11_of, 1, by omega, c_of (by omega)⟩
    rw [if_neg c] at hh
    by_cases c : n = 158
    · subst c; exact ⟨gd_X11_points, 4, by omega, c_points (by omega)⟩
    rw [if_neg c] at hh
    by_cases c : n = 160
    · subst c; exact ⟨gd_X11_gives, 5, by omega, c_gives (by omega)⟩
    rw [if_neg c] at hh
    by_cases c : n = 119
    · subst c; exact ⟨gd_X11_finds, 1, by omega, c_finds (by omega)⟩
    rw [if_neg c] at hh
    exact hh.elim
  intro as h post hC
  match as, hC with
  | [.inr (.inr (.inl 87)), .inl e, .inl w], hC =>
    refine ⟨Nat.le_of_ble_eq_true rfl, fun X hX => bs_X11_ofEngineer_0 hX ?_⟩
    obtain ⟨G, M⟩ := h
    obtain ⟨hG, hC⟩ := hC
    dsimp only at hG
    subst hG
    simp only [B_ofEngineer] at hC
    show bk_X11_ofEngineer_0 E ct_ofEngineer X _ [some (.inr (.inr (.inl 87))), some (.inl e), some (.inl w)] [] (zG, M) (0, 0)
    obtain ⟨h1, h2, hC⟩ := hC
    have vd : Vd (M 88) := hC.1.1
    have v0 := vd.1
    have s0 : st M 88 0 = M 88 0 := rfl
    simp only [bk_X11_ofEngineer_0, k_X11_ofEngineer_0, bk_X11_ofEngineer_20, k_X11_ofEngineer_20, bk_X11_ofEngineer_26, k_X11_ofEngineer_26, bk_X11_ofEngineer_40, k_X11_ofEngineer_40, bk_X11_ofEngineer_53, k_X11_ofEngineer_53, bk_X11_ofEngineer_58, k_X11_ofEngineer_58, ↓e_rk1, ↓e_rk0, ↓e_sk0, ↓e_sks, ↓e_ldi0, ↓e_ldis, ↓e_ldl0, ↓e_ldls, ↓e_lda0, ↓e_ldas, ↓e_ok0, ↓e_okss, ↓e_ok1i, ↓e_ok1r, ↓e_ok1n, ↓e_sti, ↓e_sta, ↓e_1, ↓e_2, ↓e_l1, ↓e_l2, ↓e_li, ↓e_sw0, ↓e_sws, ↓e_ceq, ↓e_cne, ↓e_clt, ↓e_cge, ↓e_cgt, ↓e_cle, ↓e_nil, ↓e_cons, ↓e_iconst, ↓e_bipush, ↓e_sipush, ↓e_ldc, ↓e_ldcw, ↓e_ldc2, ↓e_lconst, ↓e_iloadn, ↓e_iload, ↓e_lloadn, ↓e_lload, ↓e_aloadn, ↓e_aload, ↓e_istoren, ↓e_istore, ↓e_astoren, ↓e_astore, ↓e_add, ↓e_iinc, ↓e_iadd, ↓e_isub, ↓e_imul, ↓e_iand, ↓e_ior, ↓e_ixor, ↓e_ishl, ↓e_iushr, ↓e_idiv, ↓e_irem, ↓e_ineg, ↓e_i2l, ↓e_i2b, ↓e_i2s, ↓e_l2i, ↓e_land, ↓e_lor, ↓e_lshl, ↓e_lshr, ↓e_lushr, ↓e_lcmp, ↓e_dupi, ↓e_dupr, ↓e_popi, ↓e_dup2, ↓e_goto, ↓e_if, ↓e_icmp, ↓e_tsw, ↓e_lsw, ↓e_getf, ↓e_putf, ↓e_gets, ↓e_iald, ↓e_cald, ↓e_iast, ↓e_aald, ↓e_aast, ↓e_len, ↓e_copy, ↓e_abs, ↓e_max, ↓e_min, ↓e_iret, ↓e_aret, ↓e_vret, ↓e_is0, ↓e_is1, ↓e_is2, ↓e_is3, ↓e_is4, ↓e_iv1, ↓e_iv2, ↓e_iv3, ↓e_iv4, ↓e_iv5, ↓e_iv6, ↓rt_X11_ofEngineer, ↓reduceIte, Nat.reduceAdd, Nat.reduceEqDiff, ↓zcl0, ↓zclv, List.map_nil, List.sum_nil, List.map_cons, List.sum_cons, zcat, true_and, and_true, Nat.reduceLeDiff, Nat.reduceAdd, eq_self, forall_const, e_ok0, e_okss, e_ok1i, e_ok1r, e_ok1n, zl_1, zl_3, zq_0, zq_4, Int.reduceToNat, Int.reduceAdd, Int.reduceMul, Int.reduceSub, Int.reduceNeg, Int.reduceLT, Int.reduceLE, Int.reduceEq, not_false_eq_true, not_true_eq_false, false_implies, true_implies, implies_true, Int.reduceDiv, Int.reduceMod, zr8_zr, zr_zbo, z01_zbo, z01_0, z01_1, zbo_eq0, zup_eq, zup_o, zup_k, ne_eq, ↓ct_ofEngineer_isEngineer, ↓r_isEngineer, ↓B_isEngineer, ↓ct_ofEngineer_in, ↓r_in, ↓B_in, ↓ct_ofEngineer_of, ↓r_of, ↓B_of, ↓ct_ofEngineer_points, ↓r_points, ↓B_points, ↓ct_ofEngineer_gives, ↓r_gives, ↓B_gives, ↓ct_ofEngineer_finds, ↓r_finds, ↓B_finds, ↓v_87, ↓g_87_0, ↓l_88, ↓s_88, ↓n_88, ↓g_87_1, ↓l_89, ↓s_89, ↓n_89, ↓g_87_2, ↓l_90, ↓s_90, ↓n_90, ↓g_87_3, ↓p_87_3, ↓g_87_4, ↓l_91, ↓s_91, ↓n_91, ↓g_87_5, ↓p_87_5, ↓g_87_6, ↓p_87_6, ↓g_87_7, ↓p_87_7, ↓g_87_8, ↓p_87_8, ↓g_87_9, ↓p_87_9, ↓g_87_10, ↓p_87_10, ↓g_87_11, ↓l_92, ↓s_92, ↓n_92, ↓g_87_12, ↓l_93, ↓s_93, ↓n_93, ↓g_87_13, ↓p_87_13, ↓g_87_14, ↓l_94, ↓s_94, ↓n_94, ↓g_87_15, ↓p_87_15, ↓g_87_16, ↓l_95, ↓s_95, ↓n_95, ↓g_87_17, ↓l_96, ↓s_96, ↓n_96, ↓g_87_18, ↓l_97, ↓s_97, ↓n_97, ↓g_87_19, ↓p_87_19, ↓g_87_20, ↓p_87_20, ↓g_87_21, ↓l_98, ↓s_98, ↓n_98, ↓g_87_22, ↓l_99, ↓s_99, ↓n_99, ↓g_87_23, ↓l_100, ↓s_100, ↓n_100, ↓g_87_24, ↓l_101, ↓s_101, ↓n_101, zr_rg, h1, zr_rg, h2, zr8_rg, h1, zr8_rg, h2, zr8_zr, zr_zbo, zbo_01, zbo_eq0, zbo_eq1]
    repeat' (first | assumption | apply And.intro | intro _)
    all_goals first | omega | (refine pub_no hC ?_ rfl; simp only [R_ofEngineer, ei]; (repeat' split) <;> first | rfl | omega) | (refine pub_id hC ?_; simp only [R_ofEngineer, ei]; (repeat' split) <;> first | rfl | omega) | (refine pub_sc hC (by assumption) ?_; simp only [R_ofEngineer, ei]; (repeat' split) <;> first | rfl | omega) | (refine pub_pt hC (by assumption) (by assumption) ?_; simp only [R_ofEngineer, ei]; (repeat' split) <;> first | rfl | omega) | (refine pub_s8 hC ?_; simp only [R_ofEngineer, ei]; (repeat' split) <;> first | rfl | omega) | (refine pub_sd hC ?_; simp only [R_ofEngineer, ei]; (repeat' split) <;> first | rfl | omega)
