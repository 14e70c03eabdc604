/-! THE REFERENCE: years by draws, sums, counts, what was told -/
def k_X11_draw_0 : List ZI := [(.aload_n 0, 1, (0, [0], [])), (.getfield 7, 3, (0, [11, 0], [])), (.iconst 3, 1, (0, [], [])), (.aload_n 0, 1, (0, [0], [])), (.getfield 7, 3, (0, [11, 0], [])), (.iconst 3, 1, (0, [], [])), (.iaload, 1, (0, [], [])), (.ldc 248, 2, (1103515245, [], [])), (.imul, 1, (0, [], [])), (.sipush 12345, 3, (0, [], [])), (.iadd, 1, (0, [], [])), (.iastore, 1, (0, [], [])), (.aload_n 0, 1, (0, [0], [])), (.getfield 7, 3, (0, [11, 0], [])), (.iconst 3, 1, (0, [], [])), (.iaload, 1, (0, [], [])), (.bipush 8, 2, (0, [], [])), (.iushr, 1, (0, [], [])), (.ireturn, 1, (0, [], []))]
theorem ok_X11_draw_0 : zOK cX11_draw 11 false 1 k_X11_draw_0 0 = true := zOK_by (by decide +kernel)
theorem rt_X11_draw {g : Nat} {post : Option ZV → ZH → Prop} {h : ZH} {b : ZB2} {z : Int} : zRt mX11_draw g post (some (.inl z)) h b = (post (some (.inl z)) h ∧ h.1.length = g) := by show (_ ∧ _ ∧ True) = _; simp
def bk_X11_draw_0 (E : ZE) (CT : Nat → ZC) (X : ZK) (Rt : ZR) (ls : ZL) (st : List ZV) (h : ZH) (b : ZB2) : Prop := zB E CT k_X11_draw_0 0 ls st h b (fun t ls st h b => X t ls st h b) Rt
theorem bs_X11_draw_0 {E : ZE} {CT : Nat → ZC} {X : ZK} {Rt : ZR} {ls : ZL} {st : List ZV} {h : ZH} {b : ZB2} (hX : zCl E mX11_draw 11 false CT Rt X) (q : bk_X11_draw_0 E CT X Rt ls st h b) : X 0 ls st h b := by
  refine hX k_X11_draw_0 0 ok_X11_draw_0 _ ?_ ls st h b q
  exact fun t ls st h b q => q
-- X11_draw: cuts []
def k_X11_loose_0 : List ZI := [(.iload_n 1, 1, (0, [1], [])), (.i2l, 1, (0, [], [])), (.lconst 1, 1, (1, [], [])), (.ldc2_w 249, 3, (40, [], [])), (.invokestatic 61, 3, (0, [120, 3, 0, 11], [])), (.ifCond .ne 9, 3, (0, [18], [])), (.aload_n 0, 1, (0, [0], [])), (.iconst 1, 1, (0, [], [])), (.invokevirtual 139, 3, (0, [119, 2, 0, 11], [])), (.ireturn, 1, (0, [], []))]
theorem ok_X11_loose_0 : zOK cX11_loose 11 false 4 k_X11_loose_0 0 = true := zOK_by (by decide +kernel)
def k_X11_loose_18 : List ZI := [(.aload_n 0, 1, (0, [0], [])), (.iload_n 1, 1, (0, [1], [])), (.invokevirtual 242, 3, (0, [178, 2, 0, 11], [])), (.ifCond .eq 9, 3, (0, [32], [])), (.aload_n 0, 1, (0, [0], [])), (.iconst 3, 1, (0, [], [])), (.invokevirtual 139, 3, (0, [119, 2, 0, 11], [])), (.ireturn, 1, (0, [], []))]
theorem ok_X11_loose_18 : zOK cX11_loose 11 false 4 k_X11_loose_18 18 = true := zOK_by (by decide +kernel)
def k_X11_loose_32 : List ZI := [(.iconst 0, 1, (0, [], [])), (.istore_n 2, 1, (0, [2], []))]
theorem ok_X11_loose_32 : zOK cX11_loose 11 false 4 k_X11_loose_32 32 = true := zOK_by (by decide +kernel)
def k_X11_loose_34 : List ZI := [(.iload_n 2, 1, (0, [2], [])), (.iload_n 1, 1, (0, [1], [])), (.if_icmp .ge 37, 3, (0, [73], [])), (.aload_n 0, 1, (0, [0], [])), (.invokevirtual 251, 3, (0, [180, 1, 0, 11], [])), (.bipush 64, 2, (0, [], [])), (.irem, 1, (0, [], [])), (.istore_n 3, 1, (0, [3], [])), (.aload_n 0, 1, (0, [0], [])), (.getfield 7, 3, (0, [11, 0], [])), (.bipush 6, 2, (0, [], [])), (.iload_n 3, 1, (0, [3], [])), (.iadd, 1, (0, [], [])), (.aload_n 0, 1, (0, [0], [])), (.invokevirtual 251, 3, (0, [180, 1, 0, 11], [])), (.bipush 10, 2, (0, [], [])), (.irem, 1, (0, [], [])), (.iastore, 1, (0, [], [])), (.aload_n 0, 1, (0, [0], [])), (.invokevirtual 200, 3, (0, [163, 1, 0, 11], [])), (.iinc 2 1, 3, (0, [2], [])), (.goto (-36), 3, (0, [34], []))]
theorem ok_X11_loose_34 : zOK cX11_loose 11 false 4 k_X11_loose_34 34 = true := zOK_by (by decide +kernel)
def k_X11_loose_73 : List ZI := [(.aload_n 0, 1, (0, [0], [])), (.invokevirtual 194, 3, (0, [153, 1, 0, 11], [])), (.ireturn, 1, (0, [], []))]
theorem ok_X11_loose_73 : zOK cX11_loose 11 false 4 k_X11_loose_73 73 = true := zOK_by (by decide +kernel)
theorem rt_X11_loose {g : Nat} {post : Option ZV → ZH → Prop} {h : ZH} {b : ZB2} {z : Int} : zRt mX11_loose g post (some (.inl z)) h b = (post (some (.inl z)) h ∧ h.1.length = g) := by show (_ ∧ _ ∧ True) = _; simp
def bk_X11_loose_0 (E : ZE) (CT : Nat → ZC) (X : ZK) (Rt : ZR) (ls : ZL) (st : List ZV) (h : ZH) (b : ZB2) : Prop := zB E CT k_X11_loose_0 0 ls st h b (fun t ls st h b => X t ls st h b) Rt
theorem bs_X11_loose_0 {E : ZE} {CT : Nat → ZC} {X : ZK} {Rt : ZR} {ls : ZL} {st : List ZV} {h : ZH} {b : ZB2} (hX : zCl E mX11_loose 11 false CT Rt X) (q : bk_X11_loose_0 E CT X Rt ls st h b) : X 0 ls st h b := by
  refine hX k_X11_loose_0 0 ok_X11_loose_0 _ ?_ ls st h b q
  exact fun t ls st h b q => q
def bk_X11_loose_18 (E : ZE) (CT : Nat → ZC) (X : ZK) (Rt : ZR) (ls : ZL) (st : List ZV) (h : ZH) (b : ZB2) : Prop := zB E CT k_X11_loose_18 18 ls st h b (fun t ls st h b => X t ls st h b) Rt
theorem bs_X11_loose_18 {E : ZE} {CT : Nat → ZC} {X : ZK} {Rt : ZR} {ls : ZL} {st : List ZV} {h : ZH} {b : ZB2} (hX : zCl E mX11_loose 11 false CT Rt X) (q : bk_X11_loose_18 E CT X Rt ls st h b) : X 18 ls st h b := by
  refine hX k_X11_loose_18 18 ok_X11_loose_18 _ ?_ ls st h b q
  exact fun t ls st h b q => q
def bk_X11_loose_32 (E : ZE) (CT : Nat → ZC) (X : ZK) (Rt : ZR) (ls : ZL) (st : List ZV) (h : ZH) (b : ZB2) : Prop := zB E CT k_X11_loose_32 32 ls st h b (fun t ls st h b => X t ls st h b) Rt
theorem bs_X11_loose_32 {E : ZE} {CT : Nat → ZC} {X : ZK} {Rt : ZR} {ls : ZL} {st : List ZV} {h : ZH} {b : ZB2} (hX : zCl E mX11_loose 11 false CT Rt X) (q : bk_X11_loose_32 E CT X Rt ls st h b) : X 32 ls st h b := by
  refine hX k_X11_loose_32 32 ok_X11_loose_32 _ ?_ ls st h b q
  exact fun t ls st h b q => q
def bk_X11_loose_34 (E : ZE) (CT : Nat → ZC) (X : ZK) (Rt : ZR) (ls : ZL) (st : List ZV) (h : ZH) (b : ZB2) : Prop := zB E CT k_X11_loose_34 34 ls st h b (fun t ls st h b => X t ls st h b) Rt
theorem bs_X11_loose_34 {E : ZE} {CT : Nat → ZC} {X : ZK} {Rt : ZR} {ls : ZL} {st : List ZV} {h : ZH} {b : ZB2} (hX : zCl E mX11_loose 11 false CT Rt X) (q : bk_X11_loose_34 E CT X Rt ls st h b) : X 34 ls st h b := by
  refine hX k_X11_loose_34 34 ok_X11_loose_34 _ ?_ ls st h b q
  exact fun t ls st h b q => q
def bk_X11_loose_73 (E : ZE) (CT : Nat → ZC) (X : ZK) (Rt : ZR) (ls : ZL) (st : List ZV) (h : ZH) (b : ZB2) : Prop := zB E CT k_X11_loose_73 73 ls st h b (fun t ls st h b => X t ls st h b) Rt
theorem bs_X11_loose_73 {E : ZE} {CT : Nat → ZC} {X : ZK} {Rt : ZR} {ls : ZL} {st : List ZV} {h : ZH} {b : ZB2} (hX : zCl E mX11_loose 11 false CT Rt X) (q : bk_X11_loose_73 E CT X Rt ls st h b) : X 73 ls st h b := by
  refine hX k_X11_loose_73 73 ok_X11_loose_73 _ ?_ ls st h b q
  exact fun t ls st h b q => q
-- X11_loose: cuts [18, 32, 34, 73]
def k_X11_check_0 : List ZI := [(.aload_n 0, 1, (0, [0], [])), (.getfield 7, 3, (0, [11, 0], [])), (.iconst 5, 1, (0, [], [])), (.iaload, 1, (0, [], [])), (.istore_n 1, 1, (0, [1], [])), (.aload_n 0, 1, (0, [0], [])), (.getfield 7, 3, (0, [11, 0], [])), (.iconst 5, 1, (0, [], [])), (.iconst 0, 1, (0, [], [])), (.iastore, 1, (0, [], [])), (.aload_n 0, 1, (0, [0], [])), (.invokevirtual 257, 3, (0, [130, 1, 0, 11], [])), (.iconst 0, 1, (0, [], [])), (.istore_n 2, 1, (0, [2], [])), (.iconst 0, 1, (0, [], [])), (.istore_n 3, 1, (0, [3], []))]
theorem ok_X11_check_0 : zOK cX11_check 11 false 4 k_X11_check_0 0 = true := zOK_by (by decide +kernel)
def k_X11_check_22 : List ZI := [(.iload_n 3, 1, (0, [3], [])), (.iload_n 1, 1, (0, [1], [])), (.if_icmp .ge 42, 3, (0, [66], [])), (.iload_n 2, 1, (0, [2], [])), (.ifCond .ne 38, 3, (0, [66], [])), (.aload_n 0, 1, (0, [0], [])), (.invokevirtual 200, 3, (0, [163, 1, 0, 11], [])), (.aload_n 0, 1, (0, [0], [])), (.getfield 7, 3, (0, [11, 0], [])), (.sipush 188, 3, (0, [], [])), (.iload_n 3, 1, (0, [3], [])), (.iadd, 1, (0, [], [])), (.iaload, 1, (0, [], [])), (.aload_n 0, 1, (0, [0], [])), (.invokevirtual 194, 3, (0, [153, 1, 0, 11], [])), (.if_icmp .ne 7, 3, (0, [56], [])), (.iconst 0, 1, (0, [], [])), (.goto 6, 3, (0, [59], []))]
theorem ok_X11_check_22 : zOK cX11_check 11 false 4 k_X11_check_22 22 = true := zOK_by (by decide +kernel)
def k_X11_check_56 : List ZI := [(.iconst 1, 1, (0, [], [])), (.iload_n 3, 1, (0, [3], [])), (.iadd, 1, (0, [], []))]
theorem ok_X11_check_56 : zOK cX11_check 11 false 4 k_X11_check_56 56 = true := zOK_by (by decide +kernel)
def k_X11_check_59 : List ZI := [(.istore_n 2, 1, (0, [2], [])), (.iinc 3 1, 3, (0, [3], [])), (.goto (-41), 3, (0, [22], []))]
theorem ok_X11_check_59 : zOK cX11_check 11 false 4 k_X11_check_59 59 = true := zOK_by (by decide +kernel)
def k_X11_check_66 : List ZI := [(.aload_n 0, 1, (0, [0], [])), (.invokevirtual 260, 3, (0, [131, 1, 0, 11], [])), (.iload_n 2, 1, (0, [2], [])), (.ireturn, 1, (0, [], []))]
theorem ok_X11_check_66 : zOK cX11_check 11 false 4 k_X11_check_66 66 = true := zOK_by (by decide +kernel)
theorem rt_X11_check {g : Nat} {post : Option ZV → ZH → Prop} {h : ZH} {b : ZB2} {z : Int} : zRt mX11_check g post (some (.inl z)) h b = (post (some (.inl z)) h ∧ h.1.length = g) := by show (_ ∧ _ ∧ True) = _; simp
def bk_X11_check_0 (E : ZE) (CT : Nat → ZC) (X : ZK) (Rt : ZR) (ls : ZL) (st : List ZV) (h : ZH) (b : ZB2) : Prop := zB E CT k_X11_check_0 0 ls st h b (fun t ls st h b => X t ls st h b) Rt
theorem bs_X11_check_0 {E : ZE} {CT : Nat → ZC} {X : ZK} {Rt : ZR} {ls : ZL} {st : List ZV} {h : ZH} {b : ZB2} (hX : zCl E mX11_check 11 false CT Rt X) (q : bk_X11_check_0 E CT X Rt ls st h b) : X 0 ls st h b := by
  refine hX k_X11_check_0 0 ok_X11_check_0 _ ?_ ls st h b q
  exact fun t ls st h b q => q
def bk_X11_check_59 (E : ZE) (CT : Nat → ZC) (X : ZK) (Rt : ZR) (ls : ZL) (st : List ZV) (h : ZH) (b : ZB2) : Prop := zB E CT k_X11_check_59 59 ls st h b (fun t ls st h b => X t ls st h b) Rt
theorem bs_X11_check_59 {E : ZE} {CT : Nat → ZC} {X : ZK} {Rt : ZR} {ls : ZL} {st : List ZV} {h : ZH} {b : ZB2} (hX : zCl E mX11_check 11 false CT Rt X) (q : bk_X11_check_59 E CT X Rt ls st h b) : X 59 ls st h b := by
  refine hX k_X11_check_59 59 ok_X11_check_59 _ ?_ ls st h b q
  exact fun t ls st h b q => q
def bk_X11_check_56 (E : ZE) (CT : Nat → ZC) (X : ZK) (Rt : ZR) (ls : ZL) (st : List ZV) (h : ZH) (b : ZB2) : Prop := zB E CT k_X11_check_56 56 ls st h b (fun t ls st h b => if t = 59 then bk_X11_check_59 E CT X Rt ls st h b else X t ls st h b) Rt
theorem bs_X11_check_56 {E : ZE} {CT : Nat → ZC} {X : ZK} {Rt : ZR} {ls : ZL} {st : List ZV} {h : ZH} {b : ZB2} (hX : zCl E mX11_check 11 false CT Rt X) (q : bk_X11_check_56 E CT X Rt ls st h b) : X 56 ls st h b := by
  refine hX k_X11_check_56 56 ok_X11_check_56 _ ?_ ls st h b q
  exact by
    intro t ls st h b q
    by_cases c : t = 59
    · subst c; rw [if_pos rfl] at q; exact bs_X11_check_59 hX q
    rw [if_neg c] at q
    exact q
def bk_X11_check_22 (E : ZE) (CT : Nat → ZC) (X : ZK) (Rt : ZR) (ls : ZL) (st : List ZV) (h : ZH) (b : ZB2) : Prop := zB E CT k_X11_check_22 22 ls st h b (fun t ls st h b => if t = 56 then bk_X11_check_56 E CT X Rt ls st h b else if t = 59 then bk_X11_check_59 E CT X Rt ls st h b else X t ls st h b) Rt
theorem bs_X11_check_22 {E : ZE} {CT : Nat → ZC} {X : ZK} {Rt : ZR} {ls : ZL} {st : List ZV} {h : ZH} {b : ZB2} (hX : zCl E mX11_check 11 false CT Rt X) (q : bk_X11_check_22 E CT X Rt ls st h b) : X 22 ls st h b := by
  refine hX k_X11_check_22 22 ok_X11_check_22 _ ?_ ls st h b q
  exact by
    intro t ls st h b q
    by_cases c : t = 56
    · subst c; rw [if_pos rfl] at q; exact bs_X11_check_56 hX q
    rw [if_neg c] at q
    by_cases c : t = 59
    · subst c; rw [if_pos rfl] at q; exact bs_X11_check_59 hX q
    rw [if_neg c] at q
    exact q
def bk_X11_check_66 (E : ZE) (CT : Nat → ZC) (X : ZK) (Rt : ZR) (ls : ZL) (st : List ZV) (h : ZH) (b : ZB2) : Prop := zB E CT k_X11_check_66 66 ls st h b (fun t ls st h b => X t ls st h b) Rt
theorem bs_X11_check_66 {E : ZE} {CT : Nat → ZC} {X : ZK} {Rt : ZR} {ls : ZL} {st : List ZV} {h : ZH} {b : ZB2} (hX : zCl E mX11_check 11 false CT Rt X) (q : bk_X11_check_66 E CT X Rt ls st h b) : X 66 ls st h b := by
  refine hX k_X11_check_66 66 ok_X11_check_66 _ ?_ ls st h b q
  exact fun t ls st h b q => q
-- X11_check: cuts [22, 66]
def k_X11_sumOf_0 : List ZI := [(.iconst 0, 1, (0, [], [])), (.istore 4, 2, (0, [4], [])), (.iconst 0, 1, (0, [], [])), (.istore 5, 2, (0, [5], []))]
theorem ok_X11_sumOf_0 : zOK cX11_sumOf 11 false 6 k_X11_sumOf_0 0 = true := zOK_by (by decide +kernel)
def k_X11_sumOf_6 : List ZI := [(.iload 5, 2, (0, [5], [])), (.iload_n 2, 1, (0, [2], [])), (.if_icmp .ge 25, 3, (0, [34], [])), (.iload 4, 2, (0, [4], [])), (.aload_n 0, 1, (0, [0], [])), (.getfield 7, 3, (0, [11, 0], [])), (.iload_n 1, 1, (0, [1], [])), (.iload_n 3, 1, (0, [3], [])), (.iload 5, 2, (0, [5], [])), (.imul, 1, (0, [], [])), (.iadd, 1, (0, [], [])), (.iaload, 1, (0, [], [])), (.iadd, 1, (0, [], [])), (.istore 4, 2, (0, [4], [])), (.iinc 5 1, 3, (0, [5], [])), (.goto (-25), 3, (0, [6], []))]
theorem ok_X11_sumOf_6 : zOK cX11_sumOf 11 false 6 k_X11_sumOf_6 6 = true := zOK_by (by decide +kernel)
def k_X11_sumOf_34 : List ZI := [(.iload 4, 2, (0, [4], [])), (.ireturn, 1, (0, [], []))]
theorem ok_X11_sumOf_34 : zOK cX11_sumOf 11 false 6 k_X11_sumOf_34 34 = true := zOK_by (by decide +kernel)
theorem rt_X11_sumOf {g : Nat} {post : Option ZV → ZH → Prop} {h : ZH} {b : ZB2} {z : Int} : zRt mX11_sumOf g post (some (.inl z)) h b = (post (some (.inl z)) h ∧ h.1.length = g) := by show (_ ∧ _ ∧ True) = _; simp
def bk_X11_sumOf_0 (E : ZE) (CT : Nat → ZC) (X : ZK) (Rt : ZR) (ls : ZL) (st : List ZV) (h : ZH) (b : ZB2) : Prop := zB E CT k_X11_sumOf_0 0 ls st h b (fun t ls st h b => X t ls st h b) Rt
theorem bs_X11_sumOf_0 {E : ZE} {CT : Nat → ZC} {X : ZK} {Rt : ZR} {ls : ZL} {st : List ZV} {h : ZH} {b : ZB2} (hX : zCl E mX11_sumOf 11 false CT Rt X) (q : bk_X11_sumOf_0 E CT X Rt ls st h b) : X 0 ls st h b := by
  refine hX k_X11_sumOf_0 0 ok_X11_sumOf_0 _ ?_ ls st h b q
  exact fun t ls st h b q => q
def bk_X11_sumOf_34 (E : ZE) (CT : Nat → ZC) (X : ZK) (Rt : ZR) (ls : ZL) (st : List ZV) (h : ZH) (b : ZB2) : Prop := zB E CT k_X11_sumOf_34 34 ls st h b (fun t ls st h b => X t ls st h b) Rt
theorem bs_X11_sumOf_34 {E : ZE} {CT : Nat → ZC} {X : ZK} {Rt : ZR} {ls : ZL} {st : List ZV} {h : ZH} {b : ZB2} (hX : zCl E mX11_sumOf 11 false CT Rt X) (q : bk_X11_sumOf_34 E CT X Rt ls st h b) : X 34 ls st h b := by
  refine hX k_X11_sumOf_34 34 ok_X11_sumOf_34 _ ?_ ls st h b q
  exact fun t ls st h b q => q
def bk_X11_sumOf_6 (E : ZE) (CT : Nat → ZC) (X : ZK) (Rt : ZR) (ls : ZL) (st : List ZV) (h : ZH) (b : ZB2) : Prop := zB E CT k_X11_sumOf_6 6 ls st h b (fun t ls st h b => if t = 34 then bk_X11_sumOf_34 E CT X Rt ls st h b else X t ls st h b) Rt
theorem bs_X11_sumOf_6 {E : ZE} {CT : Nat → ZC} {X : ZK} {Rt : ZR} {ls : ZL} {st : List ZV} {h : ZH} {b : ZB2} (hX : zCl E mX11_sumOf 11 false CT Rt X) (q : bk_X11_sumOf_6 E CT X Rt ls st h b) : X 6 ls st h b := by
  refine hX k_X11_sumOf_6 6 ok_X11_sumOf_6 _ ?_ ls st h b q
  exact by
    intro t ls st h b q
    by_cases c : t = 34
    · subst c; rw [if_pos rfl] at q; exact bs_X11_sumOf_34 hX q
    rw [if_neg c] at q
    exact q
-- X11_sumOf: cuts [6]
def k_X11_count_0 : List ZI := [(.iload_n 1, 1, (0, [1], [])), (.tableswitch 132 0 10 #[59, 59, 59, 66, 71, 81, 91, 106, 113, 120, 125], 59, (0, [133], [(0, 60), (1, 60), (2, 60), (3, 67), (4, 72), (5, 82), (6, 92), (7, 107), (8, 114), (9, 121), (10, 126)]))]
theorem ok_X11_count_0 : zOK cX11_count 11 false 2 k_X11_count_0 0 = true := zOK_by (by decide +kernel)
def k_X11_count_60 : List ZI := [(.aload_n 0, 1, (0, [0], [])), (.getfield 7, 3, (0, [11, 0], [])), (.iload_n 1, 1, (0, [1], [])), (.iaload, 1, (0, [], [])), (.ireturn, 1, (0, [], []))]
theorem ok_X11_count_60 : zOK cX11_count 11 false 2 k_X11_count_60 60 = true := zOK_by (by decide +kernel)
def k_X11_count_67 : List ZI := [(.aload_n 0, 1, (0, [0], [])), (.invokevirtual 194, 3, (0, [153, 1, 0, 11], [])), (.ireturn, 1, (0, [], []))]
theorem ok_X11_count_67 : zOK cX11_count 11 false 2 k_X11_count_67 67 = true := zOK_by (by decide +kernel)
def k_X11_count_72 : List ZI := [(.aload_n 0, 1, (0, [0], [])), (.bipush 70, 2, (0, [], [])), (.bipush 64, 2, (0, [], [])), (.iconst 1, 1, (0, [], [])), (.invokevirtual 319, 3, (0, [220, 4, 0, 11], [])), (.ireturn, 1, (0, [], []))]
theorem ok_X11_count_72 : zOK cX11_count 11 false 2 k_X11_count_72 72 = true := zOK_by (by decide +kernel)
def k_X11_count_82 : List ZI := [(.aload_n 0, 1, (0, [0], [])), (.bipush 6, 2, (0, [], [])), (.bipush 64, 2, (0, [], [])), (.iconst 1, 1, (0, [], [])), (.invokevirtual 319, 3, (0, [220, 4, 0, 11], [])), (.ireturn, 1, (0, [], []))]
theorem ok_X11_count_82 : zOK cX11_count 11 false 2 k_X11_count_82 82 = true := zOK_by (by decide +kernel)
def k_X11_count_92 : List ZI := [(.aload_n 0, 1, (0, [0], [])), (.sipush 164, 3, (0, [], [])), (.aload_n 0, 1, (0, [0], [])), (.getfield 7, 3, (0, [11, 0], [])), (.iconst 0, 1, (0, [], [])), (.iaload, 1, (0, [], [])), (.iconst 3, 1, (0, [], [])), (.invokevirtual 319, 3, (0, [220, 4, 0, 11], [])), (.ireturn, 1, (0, [], []))]
theorem ok_X11_count_92 : zOK cX11_count 11 false 2 k_X11_count_92 92 = true := zOK_by (by decide +kernel)
def k_X11_count_107 : List ZI := [(.aload_n 0, 1, (0, [0], [])), (.getfield 7, 3, (0, [11, 0], [])), (.iconst 4, 1, (0, [], [])), (.iaload, 1, (0, [], [])), (.ireturn, 1, (0, [], []))]
theorem ok_X11_count_107 : zOK cX11_count 11 false 2 k_X11_count_107 107 = true := zOK_by (by decide +kernel)
def k_X11_count_114 : List ZI := [(.aload_n 0, 1, (0, [0], [])), (.getfield 7, 3, (0, [11, 0], [])), (.iconst 5, 1, (0, [], [])), (.iaload, 1, (0, [], [])), (.ireturn, 1, (0, [], []))]
theorem ok_X11_count_114 : zOK cX11_count 11 false 2 k_X11_count_114 114 = true := zOK_by (by decide +kernel)
def k_X11_count_121 : List ZI := [(.aload_n 0, 1, (0, [0], [])), (.getfield 295, 3, (0, [11, 19], [])), (.ireturn, 1, (0, [], []))]
theorem ok_X11_count_121 : zOK cX11_count 11 false 2 k_X11_count_121 121 = true := zOK_by (by decide +kernel)
def k_X11_count_126 : List ZI := [(.aload_n 0, 1, (0, [0], [])), (.getfield 7, 3, (0, [11, 0], [])), (.iconst 3, 1, (0, [], [])), (.iaload, 1, (0, [], [])), (.ireturn, 1, (0, [], []))]
theorem ok_X11_count_126 : zOK cX11_count 11 false 2 k_X11_count_126 126 = true := zOK_by (by decide +kernel)
def k_X11_count_133 : List ZI := [(.aload_n 0, 1, (0, [0], [])), (.iconst 1, 1, (0, [], [])), (.invokevirtual 139, 3, (0, [119, 2, 0, 11], [])), (.ireturn, 1, (0, [], []))]
theorem ok_X11_count_133 : zOK cX11_count 11 false 2 k_X11_count_133 133 = true := zOK_by (by decide +kernel)
theorem rt_X11_count {g : Nat} {post : Option ZV → ZH → Prop} {h : ZH} {b : ZB2} {z : Int} : zRt mX11_count g post (some (.inl z)) h b = (post (some (.inl z)) h ∧ h.1.length = g) := by show (_ ∧ _ ∧ True) = _; simp
def bk_X11_count_0 (E : ZE) (CT : Nat → ZC) (X : ZK) (Rt : ZR) (ls : ZL) (st : List ZV) (h : ZH) (b : ZB2) : Prop := zB E CT k_X11_count_0 0 ls st h b (fun t ls st h b => X t ls st h b) Rt
theorem bs_X11_count_0 {E : ZE} {CT : Nat → ZC} {X : ZK} {Rt : ZR} {ls : ZL} {st : List ZV} {h : ZH} {b : ZB2} (hX : zCl E mX11_count 11 false CT Rt X) (q : bk_X11_count_0 E CT X Rt ls st h b) : X 0 ls st h b := by
  refine hX k_X11_count_0 0 ok_X11_count_0 _ ?_ ls st h b q
  exact fun t ls st h b q => q
def bk_X11_count_60 (E : ZE) (CT : Nat → ZC) (X : ZK) (Rt : ZR) (ls : ZL) (st : List ZV) (h : ZH) (b : ZB2) : Prop := zB E CT k_X11_count_60 60 ls st h b (fun t ls st h b => X t ls st h b) Rt
theorem bs_X11_count_60 {E : ZE} {CT : Nat → ZC} {X : ZK} {Rt : ZR} {ls : ZL} {st : List ZV} {h : ZH} {b : ZB2} (hX : zCl E mX11_count 11 false CT Rt X) (q : bk_X11_count_60 E CT X Rt ls st h b) : X 60 ls st h b := by
  refine hX k_X11_count_60 60 ok_X11_count_60 _ ?_ ls st h b q
  exact fun t ls st h b q => q
def bk_X11_count_67 (E : ZE) (CT : Nat → ZC) (X : ZK) (Rt : ZR) (ls : ZL) (st : List ZV) (h : ZH) (b : ZB2) : Prop := zB E CT k_X11_count_67 67 ls st h b (fun t ls st h b => X t ls st h b) Rt
theorem bs_X11_count_67 {E : ZE} {CT : Nat → ZC} {X : ZK} {Rt : ZR} {ls : ZL} {st : List ZV} {h : ZH} {b : ZB2} (hX : zCl E mX11_count 11 false CT Rt X) (q : bk_X11_count_67 E CT X Rt ls st h b) : X 67 ls st h b := by
  refine hX k_X11_count_67 67 ok_X11_count_67 _ ?_ ls st h b q
  exact fun t ls st h b q => q
def bk_X11_count_72 (E : ZE) (CT : Nat → ZC) (X : ZK) (Rt : ZR) (ls : ZL) (st : List ZV) (h : ZH) (b : ZB2) : Prop := zB E CT k_X11_count_72 72 ls st h b (fun t ls st h b => X t ls st h b) Rt
theorem bs_X11_count_72 {E : ZE} {CT : Nat → ZC} {X : ZK} {Rt : ZR} {ls : ZL} {st : List ZV} {h : ZH} {b : ZB2} (hX : zCl E mX11_count 11 false CT Rt X) (q : bk_X11_count_72 E CT X Rt ls st h b) : X 72 ls st h b := by
  refine hX k_X11_count_72 72 ok_X11_count_72 _ ?_ ls st h b q
  exact fun t ls st h b q => q
def bk_X11_count_82 (E : ZE) (CT : Nat → ZC) (X : ZK) (Rt : ZR) (ls : ZL) (st : List ZV) (h : ZH) (b : ZB2) : Prop := zB E CT k_X11_count_82 82 ls st h b (fun t ls st h b => X t ls st h b) Rt
theorem bs_X11_count_82 {E : ZE} {CT : Nat → ZC} {X : ZK} {Rt : ZR} {ls : ZL} {st : List ZV} {h : ZH} {b : ZB2} (hX : zCl E mX11_count 11 false CT Rt X) (q : bk_X11_count_82 E CT X Rt ls st h b) : X 82 ls st h b := by
  refine hX k_X11_count_82 82 ok_X11_count_82 _ ?_ ls st h b q
  exact fun t ls st h b q => q
def bk_X11_count_92 (E : ZE) (CT : Nat → ZC) (X : ZK) (Rt : ZR) (ls : ZL) (st : List ZV) (h : ZH) (b : ZB2) : Prop := zB E CT k_X11_count_92 92 ls st h b (fun t ls st h b => X t ls st h b) Rt
theorem bs_X11_count_92 {E : ZE} {CT : Nat → ZC} {X : ZK} {Rt : ZR} {ls : ZL} {st : List ZV} {h : ZH} {b : ZB2} (hX : zCl E mX11_count 11 false CT Rt X) (q : bk_X11_count_92 E CT X Rt ls st h b) : X 92 ls st h b := by
  refine hX k_X11_count_92 92 ok_X11_count_92 _ ?_ ls st h b q
  exact fun t ls st h b q => q
def bk_X11_count_107 (E : ZE) (CT : Nat → ZC) (X : ZK) (Rt : ZR) (ls : ZL) (st : List ZV) (h : ZH) (b : ZB2) : Prop := zB E CT k_X11_count_107 107 ls st h b (fun t ls st h b => X t ls st h b) Rt
theorem bs_X11_count_107 {E : ZE} {CT : Nat → ZC} {X : ZK} {Rt : ZR} {ls : ZL} {st : List ZV} {h : ZH} {b : ZB2} (hX : zCl E mX11_count 11 false CT Rt X) (q : bk_X11_count_107 E CT X Rt ls st h b) : X 107 ls st h b := by
  refine hX k_X11_count_107 107 ok_X11_count_107 _ ?_ ls st h b q
  exact fun t ls st h b q => q
def bk_X11_count_114 (E : ZE) (CT : Nat → ZC) (X : ZK) (Rt : ZR) (ls : ZL) (st : List ZV) (h : ZH) (b : ZB2) : Prop := zB E CT k_X11_count_114 114 ls st h b (fun t ls st h b => X t ls st h b) Rt
theorem bs_X11_count_114 {E : ZE} {CT : Nat → ZC} {X : ZK} {Rt : ZR} {ls : ZL} {st : List ZV} {h : ZH} {b : ZB2} (hX : zCl E mX11_count 11 false CT Rt X) (q : bk_X11_count_114 E CT X Rt ls st h b) : X 114 ls st h b := by
  refine hX k_X11_count_114 114 ok_X11_count_114 _ ?_ ls st h b q
  exact fun t ls st h b q => q
def bk_X11_count_121 (E : ZE) (CT : Nat → ZC) (X : ZK) (Rt : ZR) (ls : ZL) (st : List ZV) (h : ZH) (b : ZB2) : Prop := zB E CT k_X11_count_121 121 ls st h b (fun t ls st h b => X t ls st h b) Rt
theorem bs_X11_count_121 {E : ZE} {CT : Nat → ZC} {X : ZK} {Rt : ZR} {ls : ZL} {st : List ZV} {h : ZH} {b : ZB2} (hX : zCl E mX11_count 11 false CT Rt X) (q : bk_X11_count_121 E CT X Rt ls st h b) : X 121 ls st h b := by
  refine hX k_X11_count_121 121 ok_X11_count_121 _ ?_ ls st h b q
  exact fun t ls st h b q => q
def bk_X11_count_126 (E : ZE) (CT : Nat → ZC) (X : ZK) (Rt : ZR) (ls : ZL) (st : List ZV) (h : ZH) (b : ZB2) : Prop := zB E CT k_X11_count_126 126 ls st h b (fun t ls st h b => X t ls st h b) Rt
theorem bs_X11_count_126 {E : ZE} {CT : Nat → ZC} {X : ZK} {Rt : ZR} {ls : ZL} {st : List ZV} {h : ZH} {b : ZB2} (hX : zCl E mX11_count 11 false CT Rt X) (q : bk_X11_count_126 E CT X Rt ls st h b) : X 126 ls st h b := by
  refine hX k_X11_count_126 126 ok_X11_count_126 _ ?_ ls st h b q
  exact fun t ls st h b q => q
def bk_X11_count_133 (E : ZE) (CT : Nat → ZC) (X : ZK) (Rt : ZR) (ls : ZL) (st : List ZV) (h : ZH) (b : ZB2) : Prop := zB E CT k_X11_count_133 133 ls st h b (fun t ls st h b => X t ls st h b) Rt
theorem bs_X11_count_133 {E : ZE} {CT : Nat → ZC} {X : ZK} {Rt : ZR} {ls : ZL} {st : List ZV} {h : ZH} {b : ZB2} (hX : zCl E mX11_count 11 false CT Rt X) (q : bk_X11_count_133 E CT X Rt ls st h b) : X 133 ls st h b := by
  refine hX k_X11_count_133 133 ok_X11_count_133 _ ?_ ls st h b q
  exact fun t ls st h b q => q
-- X11_count: cuts [60, 67, 72, 82, 92, 107, 114, 121, 126, 133]
theorem zushr8 (x : Int) : 0 ≤ zushr x 8 ∧ zushr x 8 < 16777216 := by
  unfold zushr
  have e : (Int32.ofInt 8).toUInt32 &&& Int32.toUInt32 31 = 8 := by decide
  rw [e]
  generalize (Int32.ofInt x).toUInt32 = u
  have h1 : (u >>> 8).toNat = u.toNat / 256 := by
    rw [UInt32.toNat_shiftRight]
    simp [Nat.shiftRight_eq_div_pow]
  have h2 := u.toNat_lt
  have h3 : (u >>> 8).toInt32.toInt = ((u >>> 8).toNat : Int) := by
    show (u >>> 8).toBitVec.toInt = _
    rw [BitVec.toInt_eq_toNat_of_lt]
    · rfl
    · show 2 * (u >>> 8).toNat < 2 ^ 32
      omega
  rw [h3, h1]
  omega
def zn1 (z : Int) : Int := z * 1103515245 + 12345
def B_draw (M : Nat → Nat → Int) (post : Option ZV → (Nat → Nat → Int) → Prop) : Prop := post (some (.inl (zushr (zn1 (M 88 3)) 8))) (zup M 88 3 (zn1 (M 88 3)))
def C_draw : ZC := fun as h post => match as with
  | [.inr (.inr (.inl 87))] => h.1 = zG ∧ B_draw h.2 (fun v M => post v (zG, M))
  | _ => False
theorem r_draw {M : Nat → Nat → Int} {post : Option ZV → ZH → Prop} : C_draw [.inr (.inr (.inl 87))] (zG, M) post = B_draw M (fun v M => post v (zG, M)) := by show (zG = zG ∧ _) = _; simp
def ct_draw : Nat → ZC := fun n => fun _ _ _ => False
theorem c_draw {E : ZE} {d : Nat} (hd : 1 ≤ d) : zMet E d mX11_draw C_draw := by
  refine zmet_of (o := 11) (ini := false) (CT := ct_draw) gd_X11_draw rfl (fun h => by cases h) (by omega) ?_ ?_
  · intro n as h post hh
    unfold ct_draw at hh
    exact hh.elim
  intro as h post hC
  match as, hC with
  | [.inr (.inr (.inl 87))], hC =>
    refine ⟨Nat.le_of_ble_eq_true rfl, fun X hX => bs_X11_draw_0 hX ?_⟩
    obtain ⟨G, M⟩ := h
    obtain ⟨hG, hC⟩ := hC
    dsimp only at hG
    subst hG
    simp only [B_draw] at hC
    show bk_X11_draw_0 E ct_draw X _ [some (.inr (.inr (.inl 87)))] [] (zG, M) (0, 0)
    simp only [bk_X11_draw_0, k_X11_draw_0, ↓e_rk1, ↓e_rk0, ↓e_sk0, ↓e_sks, ↓e_ldi0, ↓e_ldis, ↓e_ldl0, ↓e_ldls, ↓e_lda0, ↓e_ldas, ↓e_ok0, ↓e_okss, ↓e_ok1i, ↓e_ok1r, ↓e_ok1n, ↓e_sti, ↓e_sta, ↓e_1, ↓e_2, ↓e_l1, ↓e_l2, ↓e_li, ↓e_sw0, ↓e_sws, ↓e_ceq, ↓e_cne, ↓e_clt, ↓e_cge, ↓e_cgt, ↓e_cle, ↓e_nil, ↓e_cons, ↓e_iconst, ↓e_bipush, ↓e_sipush, ↓e_ldc, ↓e_ldcw, ↓e_ldc2, ↓e_lconst, ↓e_iloadn, ↓e_iload, ↓e_lloadn, ↓e_lload, ↓e_aloadn, ↓e_aload, ↓e_istoren, ↓e_istore, ↓e_astoren, ↓e_astore, ↓e_add, ↓e_iinc, ↓e_iadd, ↓e_isub, ↓e_imul, ↓e_iand, ↓e_ior, ↓e_ixor, ↓e_ishl, ↓e_iushr, ↓e_idiv, ↓e_irem, ↓e_ineg, ↓e_i2l, ↓e_i2b, ↓e_i2s, ↓e_l2i, ↓e_land, ↓e_lor, ↓e_lshl, ↓e_lshr, ↓e_lushr, ↓e_lcmp, ↓e_dupi, ↓e_dupr, ↓e_popi, ↓e_dup2, ↓e_goto, ↓e_if, ↓e_icmp, ↓e_tsw, ↓e_lsw, ↓e_getf, ↓e_putf, ↓e_gets, ↓e_iald, ↓e_cald, ↓e_iast, ↓e_aald, ↓e_aast, ↓e_len, ↓e_copy, ↓e_abs, ↓e_max, ↓e_min, ↓e_iret, ↓e_aret, ↓e_vret, ↓e_is0, ↓e_is1, ↓e_is2, ↓e_is3, ↓e_is4, ↓e_iv1, ↓e_iv2, ↓e_iv3, ↓e_iv4, ↓e_iv5, ↓e_iv6, ↓rt_X11_draw, ↓reduceIte, Nat.reduceAdd, Nat.reduceEqDiff, ↓zcl0, ↓zclv, List.map_nil, List.sum_nil, List.map_cons, List.sum_cons, zcat, true_and, and_true, Nat.reduceLeDiff, Nat.reduceAdd, eq_self, forall_const, e_ok0, e_okss, e_ok1i, e_ok1r, e_ok1n, zl_3, zl_8, zl_12345, zl_1103515245, Int.reduceToNat, Int.reduceAdd, Int.reduceMul, Int.reduceSub, Int.reduceNeg, Int.reduceLT, Int.reduceLE, Int.reduceEq, not_false_eq_true, not_true_eq_false, false_implies, true_implies, implies_true, Int.reduceDiv, Int.reduceMod, zr8_zr, zr_zbo, z01_zbo, z01_0, z01_1, zbo_eq0, zup_eq, zup_o, zup_k, ne_eq, ↓v_87, ↓g_87_0, ↓l_88, ↓s_88, ↓n_88, ↓g_87_1, ↓l_89, ↓s_89, ↓n_89, ↓g_87_2, ↓l_90, ↓s_90, ↓n_90, ↓g_87_3, ↓p_87_3, ↓g_87_4, ↓l_91, ↓s_91, ↓n_91, ↓g_87_5, ↓p_87_5, ↓g_87_6, ↓p_87_6, ↓g_87_7, ↓p_87_7, ↓g_87_8, ↓p_87_8, ↓g_87_9, ↓p_87_9, ↓g_87_10, ↓p_87_10, ↓g_87_11, ↓l_92, ↓s_92, ↓n_92, ↓g_87_12, ↓l_93, ↓s_93, ↓n_93, ↓g_87_13, ↓p_87_13, ↓g_87_14, ↓l_94, ↓s_94, ↓n_94, ↓g_87_15, ↓p_87_15, ↓g_87_16, ↓l_95, ↓s_95, ↓n_95, ↓g_87_17, ↓l_96, ↓s_96, ↓n_96, ↓g_87_18, ↓l_97, ↓s_97, ↓n_97, ↓g_87_19, ↓p_87_19, ↓g_87_20, ↓p_87_20, ↓g_87_21, ↓l_98, ↓s_98, ↓n_98, ↓g_87_22, ↓l_99, ↓s_99, ↓n_99, ↓g_87_23, ↓l_100, ↓s_100, ↓n_100, ↓g_87_24, ↓l_101, ↓s_101, ↓n_101]
    exact hC
/-- a year by draws -/
def lo0 (d : Nat → Int) : Nat → Int := up1 (up1 (up1 d 3 (zn1 (d 3))) 3 (zn1 (zn1 (d 3)))) (6 + zushr (zn1 (d 3)) 8 % 64).toNat (zushr (zn1 (zn1 (d 3))) 8 % 10)
def los (d : Nat → Int) : Nat → Nat → Int
  | 0 => d
  | n + 1 => yr1 (lo0 (los d n)) (-1)
theorem lo0_ok {d : Nat → Int} (h : Vd d) : Vd (lo0 d) ∧ lo0 d 1 = d 1 := by
  have h1 := zushr8 (zn1 (d 3))
  have h2 := zushr8 (zn1 (zn1 (d 3)))
  unfold lo0
  refine ⟨Vd_up (Vd_up (Vd_up h (by omega) (Or.inl rfl)) (by omega) (Or.inl rfl)) (by omega) (Or.inr ⟨by omega, ?_⟩), ?_⟩
  · rw [ub_rock (by omega) (by omega)]; omega
  · rw [up1_ne (by omega), up1_ne (by omega), up1_ne (by omega)]
theorem los_ok {d : Nat → Int} (h : Vd d) : ∀ n : Nat, d 1 + n ≤ 20000 → Vd (los d n) ∧ los d n 1 = d 1 + n
  | 0, _ => ⟨h, by simp [los]⟩
  | n + 1, hn => by
    obtain ⟨i1, i2⟩ := los_ok h n (by omega)
    obtain ⟨j1, j2⟩ := lo0_ok i1
    refine ⟨Vd_yr1 j1 (-1) (by omega), ?_⟩
    show yr1 (lo0 (los d n)) (-1) 1 = _
    rw [yr1_1 j1, j2, i2]
    omega
def R_loose (S : ZMm) (n : Int) : Int × ZMm := if 1 ≤ n ∧ n ≤ 40 then (if 9999 < S 88 1 + n then no S 3 else (gap (los (S 88) n.toNat), r88 S (los (S 88) n.toNat))) else no S 1
def B_loose (n : Int) (M : Nat → Nat → Int) (post : Option ZV → (Nat → Nat → Int) → Prop) : Prop := rg n ∧ pub M (R_loose (st M) n) post
def C_loose : ZC := fun as h post => match as with
  | [.inr (.inr (.inl 87)), .inl n] => h.1 = zG ∧ B_loose n h.2 (fun v M => post v (zG, M))
  | _ => False
theorem r_loose {n : Int} {M : Nat → Nat → Int} {post : Option ZV → ZH → Prop} : C_loose [.inr (.inr (.inl 87)), .inl n] (zG, M) post = B_loose n M (fun v M => post v (zG, M)) := by show (zG = zG ∧ _) = _; simp
def ct_loose : Nat → ZC := fun n => if n = 120 then C_in else if n = 178 then C_isLate else if n = 180 then C_draw else if n = 163 then C_yearGoes else if n = 153 then C_heads else if n = 119 then C_finds else fun _ _ _ => False
theorem ct_loose_in {as : List ZV} {h : ZH} {post : Option ZV → ZH → Prop} : ct_loose 120 as h post = C_in as h post := rfl
theorem ct_loose_isLate {as : List ZV} {h : ZH} {post : Option ZV → ZH → Prop} : ct_loose 178 as h post = C_isLate as h post := rfl
theorem ct_loose_draw {as : List ZV} {h : ZH} {post : Option ZV → ZH → Prop} : ct_loose 180 as h post = C_draw as h post := rfl
theorem ct_loose_yearGoes {as : List ZV} {h : ZH} {post : Option ZV → ZH → Prop} : ct_loose 163 as h post = C_yearGoes as h post := rfl
theorem ct_loose_heads {as : List ZV} {h : ZH} {post : Option ZV → ZH → Prop} : ct_loose 153 as h post = C_heads as h post := rfl
theorem ct_loose_finds {as : List ZV} {h : ZH} {post : Option ZV → ZH → Prop} : ct_loose 119 as h post = C_finds as h post := rfl
theorem c_loose {E : ZE} {d : Nat} (hd : 8 ≤ d) : zMet E d mX11_loose C_loose := by
  refine zmet_of (o := 11) (ini := false) (CT := ct_loose) gd_X11_loose rfl (fun h => by cases h) (by omega) ?_ ?_
  · intro n as h post hh
    unfold ct_loose at hh
    by_cases c : n = 120
    · subst c; exact ⟨gd_X11_in, 1, by omega, c_in (by omega)⟩
    rw [if_neg c] at hh
    by_cases c : n = 178
    · subst c; exact ⟨gd_X11_isLate, 1, by omega, c_isLate (by omega)⟩
    rw [if_neg c] at hh
    by_cases c : n = 180
    · subst c; exact ⟨gd_X11_draw, 1, by omega, c_draw (by omega)⟩
    rw [if_neg c] at hh
    by_cases c : n = 163
    · subst c; exact ⟨gd_X11_yearGoes, 7, by omega, c_yearGoes (by omega)⟩
    rw [if_neg c] at hh
    by_cases c : n = 153
    · subst c; exact ⟨gd_X11_heads, 3, by omega, c_heads (by omega)⟩
    rw [if_neg c] at hh
    by_cases c : n = 119
    · subst c; exact ⟨gd_X11_finds, 1, by omega, c_finds (by omega)⟩
    rw [if_neg c] at hh
    exact hh.elim
  intro as h post hC
  match as, hC with
  | [.inr (.inr (.inl 87)), .inl n], hC =>
    refine ⟨Nat.le_of_ble_eq_true rfl, fun X hX => bs_X11_loose_0 hX ?_⟩
    obtain ⟨G, M⟩ := h
    obtain ⟨hG, hC⟩ := hC
    dsimp only at hG
    subst hG
    simp only [B_loose] at hC
    show bk_X11_loose_0 E ct_loose X _ [some (.inr (.inr (.inl 87))), some (.inl n), none, none] [] (zG, M) (0, 0)
    obtain ⟨h1, hC⟩ := hC
    have vd : Vd (M 88) := hC.1.1
    have v1 := vd.2.1
    have m15 : M 87 15 = -1 := hC.2.1
    have s1 : st M 88 1 = M 88 1 := rfl
    have rm : rg (-1) := ⟨by omega, by omega⟩
    have J32 : (1 ≤ n ∧ n ≤ 40) → ¬ 9999 < M 88 1 + n → X 32 [some (.inr (.inr (.inl 87))), some (.inl n), none, none] [] (zG, M) (0, 0) := by
      intro q q9
      have zn : zr n = n := zr_of (by omega) (by omega)
      have lp : ∀ (j k : Nat) (x3 : Option ZV) (M' : ZMm), j + k = n.toNat → M' 88 = los (M 88) k → (∀ x, ¬ x = 88 → ¬ x = 92 → ¬ x = 94 → M' x = M x) → X 34 [some (.inr (.inr (.inl 87))), some (.inl n), some (.inl ((k : Int))), x3] [] (zG, M') (0, 0) := by
        intro j
        induction j with
        | zero =>
          intro k x3 M' hk hd hM
          refine bs_X11_loose_34 hX ?_
          have zk : zr (k : Int) = k := zr_of (by omega) (by omega)
          have lk : ((k : Int) < n) = False := eq_false (by omega)
          simp only [bk_X11_loose_0, k_X11_loose_0, bk_X11_loose_18, k_X11_loose_18, bk_X11_loose_32, k_X11_loose_32, bk_X11_loose_34, k_X11_loose_34, bk_X11_loose_73, k_X11_loose_73, ↓e_rk1, ↓e_rk0, ↓e_sk0, ↓e_sks, ↓e_ldi0, ↓e_ldis, ↓e_ldl0, ↓e_ldls, ↓e_lda0, ↓e_ldas, ↓e_ok0, ↓e_okss, ↓e_ok1i, ↓e_ok1r, ↓e_ok1n, ↓e_sti, ↓e_sta, ↓e_1, ↓e_2, ↓e_l1, ↓e_l2, ↓e_li, ↓e_sw0, ↓e_sws, ↓e_ceq, ↓e_cne, ↓e_clt, ↓e_cge, ↓e_cgt, ↓e_cle, ↓e_nil, ↓e_cons, ↓e_iconst, ↓e_bipush, ↓e_sipush, ↓e_ldc, ↓e_ldcw, ↓e_ldc2, ↓e_lconst, ↓e_iloadn, ↓e_iload, ↓e_lloadn, ↓e_lload, ↓e_aloadn, ↓e_aload, ↓e_istoren, ↓e_istore, ↓e_astoren, ↓e_astore, ↓e_add, ↓e_iinc, ↓e_iadd, ↓e_isub, ↓e_imul, ↓e_iand, ↓e_ior, ↓e_ixor, ↓e_ishl, ↓e_iushr, ↓e_idiv, ↓e_irem, ↓e_ineg, ↓e_i2l, ↓e_i2b, ↓e_i2s, ↓e_l2i, ↓e_land, ↓e_lor, ↓e_lshl, ↓e_lshr, ↓e_lushr, ↓e_lcmp, ↓e_dupi, ↓e_dupr, ↓e_popi, ↓e_dup2, ↓e_goto, ↓e_if, ↓e_icmp, ↓e_tsw, ↓e_lsw, ↓e_getf, ↓e_putf, ↓e_gets, ↓e_iald, ↓e_cald, ↓e_iast, ↓e_aald, ↓e_aast, ↓e_len, ↓e_copy, ↓e_abs, ↓e_max, ↓e_min, ↓e_iret, ↓e_aret, ↓e_vret, ↓e_is0, ↓e_is1, ↓e_is2, ↓e_is3, ↓e_is4, ↓e_iv1, ↓e_iv2, ↓e_iv3, ↓e_iv4, ↓e_iv5, ↓e_iv6, ↓rt_X11_loose, ↓reduceIte, Nat.reduceAdd, Nat.reduceEqDiff, ↓zcl0, ↓zclv, List.map_nil, List.sum_nil, List.map_cons, List.sum_cons, zcat, true_and, and_true, Nat.reduceLeDiff, Nat.reduceAdd, eq_self, forall_const, e_ok0, e_okss, e_ok1i, e_ok1r, e_ok1n, zl_0, zl_1, zl_3, zl_6, zl_10, zl_64, zq_1, zq_40, Int.reduceToNat, Int.reduceAdd, Int.reduceMul, Int.reduceSub, Int.reduceNeg, Int.reduceLT, Int.reduceLE, Int.reduceEq, not_false_eq_true, not_true_eq_false, false_implies, true_implies, implies_true, Int.reduceDiv, Int.reduceMod, zr8_zr, zr_zbo, z01_zbo, z01_0, z01_1, zbo_eq0, zup_eq, zup_o, zup_k, ne_eq, ↓ct_loose_in, ↓r_in, ↓B_in, ↓ct_loose_isLate, ↓r_isLate, ↓B_isLate, ↓ct_loose_draw, ↓r_draw, ↓B_draw, ↓ct_loose_yearGoes, ↓r_yearGoes, ↓B_yearGoes, ↓ct_loose_heads, ↓r_heads, ↓B_heads, ↓ct_loose_finds, ↓r_finds, ↓B_finds, ↓v_87, ↓g_87_0, ↓l_88, ↓s_88, ↓n_88, ↓g_87_1, ↓l_89, ↓s_89, ↓n_89, ↓g_87_2, ↓l_90, ↓s_90, ↓n_90, ↓g_87_3, ↓p_87_3, ↓g_87_4, ↓l_91, ↓s_91, ↓n_91, ↓g_87_5, ↓p_87_5, ↓g_87_6, ↓p_87_6, ↓g_87_7, ↓p_87_7, ↓g_87_8, ↓p_87_8, ↓g_87_9, ↓p_87_9, ↓g_87_10, ↓p_87_10, ↓g_87_11, ↓l_92, ↓s_92, ↓n_92, ↓g_87_12, ↓l_93, ↓s_93, ↓n_93, ↓g_87_13, ↓p_87_13, ↓g_87_14, ↓l_94, ↓s_94, ↓n_94, ↓g_87_15, ↓p_87_15, ↓g_87_16, ↓l_95, ↓s_95, ↓n_95, ↓g_87_17, ↓l_96, ↓s_96, ↓n_96, ↓g_87_18, ↓l_97, ↓s_97, ↓n_97, ↓g_87_19, ↓p_87_19, ↓g_87_20, ↓p_87_20, ↓g_87_21, ↓l_98, ↓s_98, ↓n_98, ↓g_87_22, ↓l_99, ↓s_99, ↓n_99, ↓g_87_23, ↓l_100, ↓s_100, ↓n_100, ↓g_87_24, ↓l_101, ↓s_101, ↓n_101, zn, zk, lk]
          refine bs_X11_loose_73 hX ?_
          simp only [bk_X11_loose_0, k_X11_loose_0, bk_X11_loose_18, k_X11_loose_18, bk_X11_loose_32, k_X11_loose_32, bk_X11_loose_34, k_X11_loose_34, bk_X11_loose_73, k_X11_loose_73, ↓e_rk1, ↓e_rk0, ↓e_sk0, ↓e_sks, ↓e_ldi0, ↓e_ldis, ↓e_ldl0, ↓e_ldls, ↓e_lda0, ↓e_ldas, ↓e_ok0, ↓e_okss, ↓e_ok1i, ↓e_ok1r, ↓e_ok1n, ↓e_sti, ↓e_sta, ↓e_1, ↓e_2, ↓e_l1, ↓e_l2, ↓e_li, ↓e_sw0, ↓e_sws, ↓e_ceq, ↓e_cne, ↓e_clt, ↓e_cge, ↓e_cgt, ↓e_cle, ↓e_nil, ↓e_cons, ↓e_iconst, ↓e_bipush, ↓e_sipush, ↓e_ldc, ↓e_ldcw, ↓e_ldc2, ↓e_lconst, ↓e_iloadn, ↓e_iload, ↓e_lloadn, ↓e_lload, ↓e_aloadn, ↓e_aload, ↓e_istoren, ↓e_istore, ↓e_astoren, ↓e_astore, ↓e_add, ↓e_iinc, ↓e_iadd, ↓e_isub, ↓e_imul, ↓e_iand, ↓e_ior, ↓e_ixor, ↓e_ishl, ↓e_iushr, ↓e_idiv, ↓e_irem, ↓e_ineg, ↓e_i2l, ↓e_i2b, ↓e_i2s, ↓e_l2i, ↓e_land, ↓e_lor, ↓e_lshl, ↓e_lshr, ↓e_lushr, ↓e_lcmp, ↓e_dupi, ↓e_dupr, ↓e_popi, ↓e_dup2, ↓e_goto, ↓e_if, ↓e_icmp, ↓e_tsw, ↓e_lsw, ↓e_getf, ↓e_putf, ↓e_gets, ↓e_iald, ↓e_cald, ↓e_iast, ↓e_aald, ↓e_aast, ↓e_len, ↓e_copy, ↓e_abs, ↓e_max, ↓e_min, ↓e_iret, ↓e_aret, ↓e_vret, ↓e_is0, ↓e_is1, ↓e_is2, ↓e_is3, ↓e_is4, ↓e_iv1, ↓e_iv2, ↓e_iv3, ↓e_iv4, ↓e_iv5, ↓e_iv6, ↓rt_X11_loose, ↓reduceIte, Nat.reduceAdd, Nat.reduceEqDiff, ↓zcl0, ↓zclv, List.map_nil, List.sum_nil, List.map_cons, List.sum_cons, zcat, true_and, and_true, Nat.reduceLeDiff, Nat.reduceAdd, eq_self, forall_const, e_ok0, e_okss, e_ok1i, e_ok1r, e_ok1n, zl_0, zl_1, zl_3, zl_6, zl_10, zl_64, zq_1, zq_40, Int.reduceToNat, Int.reduceAdd, Int.reduceMul, Int.reduceSub, Int.reduceNeg, Int.reduceLT, Int.reduceLE, Int.reduceEq, not_false_eq_true, not_true_eq_false, false_implies, true_implies, implies_true, Int.reduceDiv, Int.reduceMod, zr8_zr, zr_zbo, z01_zbo, z01_0, z01_1, zbo_eq0, zup_eq, zup_o, zup_k, ne_eq, ↓ct_loose_in, ↓r_in, ↓B_in, ↓ct_loose_isLate, ↓r_isLate, ↓B_isLate, ↓ct_loose_draw, ↓r_draw, ↓B_draw, ↓ct_loose_yearGoes, ↓r_yearGoes, ↓B_yearGoes, ↓ct_loose_heads, ↓r_heads, ↓B_heads, ↓ct_loose_finds, ↓r_finds, ↓B_finds, ↓v_87, ↓g_87_0, ↓l_88, ↓s_88, ↓n_88, ↓g_87_1, ↓l_89, ↓s_89, ↓n_89, ↓g_87_2, ↓l_90, ↓s_90, ↓n_90, ↓g_87_3, ↓p_87_3, ↓g_87_4, ↓l_91, ↓s_91, ↓n_91, ↓g_87_5, ↓p_87_5, ↓g_87_6, ↓p_87_6, ↓g_87_7, ↓p_87_7, ↓g_87_8, ↓p_87_8, ↓g_87_9, ↓p_87_9, ↓g_87_10, ↓p_87_10, ↓g_87_11, ↓l_92, ↓s_92, ↓n_92, ↓g_87_12, ↓l_93, ↓s_93, ↓n_93, ↓g_87_13, ↓p_87_13, ↓g_87_14, ↓l_94, ↓s_94, ↓n_94, ↓g_87_15, ↓p_87_15, ↓g_87_16, ↓l_95, ↓s_95, ↓n_95, ↓g_87_17, ↓l_96, ↓s_96, ↓n_96, ↓g_87_18, ↓l_97, ↓s_97, ↓n_97, ↓g_87_19, ↓p_87_19, ↓g_87_20, ↓p_87_20, ↓g_87_21, ↓l_98, ↓s_98, ↓n_98, ↓g_87_22, ↓l_99, ↓s_99, ↓n_99, ↓g_87_23, ↓l_100, ↓s_100, ↓n_100, ↓g_87_24, ↓l_101, ↓s_101, ↓n_101]
          have ok := los_ok vd k (by omega)
          have q0 := (Vd_hi ok.1 (e := 0) (by omega) (by omega)).1
          have q1 := (Vd_hi ok.1 (e := 1) (by omega) (by omega)).1
          rw [hd]
          refine ⟨q0.1, q0.2, q1.1, q1.2, ?_⟩
          refine pub_88 hC (fun x q _ q2 q3 => hM x q q2 q3) ?_
          unfold R_loose
          rw [if_pos (by omega), if_neg (by omega), hd, show k = n.toNat by omega]
          rfl
        | succ j ih =>
          intro k x3 M' hk hd hM
          refine bs_X11_loose_34 hX ?_
          have zk : zr (k : Int) = k := zr_of (by omega) (by omega)
          have lk : ((k : Int) < n) = True := eq_true (by omega)
          have m87 : M' 87 15 = -1 := (congrFun (hM 87 (by decide) (by decide) (by decide)) _).trans m15
          have u1 := zushr8 (zn1 (M' 88 3))
          have u2 := zushr8 (zn1 (zn1 (M' 88 3)))
          have zu1 : zr (zushr (zn1 (M' 88 3)) 8) = zushr (zn1 (M' 88 3)) 8 := zr_of (by omega) (by omega)
          have zu2 : zr (zushr (zn1 (zn1 (M' 88 3))) 8) = zushr (zn1 (zn1 (M' 88 3))) 8 := zr_of (by omega) (by omega)
          have zi : zr (6 + zushr (zn1 (M' 88 3)) 8 % 64) = 6 + zushr (zn1 (M' 88 3)) 8 % 64 := zr_of (by omega) (by omega)
          simp only [bk_X11_loose_0, k_X11_loose_0, bk_X11_loose_18, k_X11_loose_18, bk_X11_loose_32, k_X11_loose_32, bk_X11_loose_34, k_X11_loose_34, bk_X11_loose_73, k_X11_loose_73, ↓e_rk1, ↓e_rk0, ↓e_sk0, ↓e_sks, ↓e_ldi0, ↓e_ldis, ↓e_ldl0, ↓e_ldls, ↓e_lda0, ↓e_ldas, ↓e_ok0, ↓e_okss, ↓e_ok1i, ↓e_ok1r, ↓e_ok1n, ↓e_sti, ↓e_sta, ↓e_1, ↓e_2, ↓e_l1, ↓e_l2, ↓e_li, ↓e_sw0, ↓e_sws, ↓e_ceq, ↓e_cne, ↓e_clt, ↓e_cge, ↓e_cgt, ↓e_cle, ↓e_nil, ↓e_cons, ↓e_iconst, ↓e_bipush, ↓e_sipush, ↓e_ldc, ↓e_ldcw, ↓e_ldc2, ↓e_lconst, ↓e_iloadn, ↓e_iload, ↓e_lloadn, ↓e_lload, ↓e_aloadn, ↓e_aload, ↓e_istoren, ↓e_istore, ↓e_astoren, ↓e_astore, ↓e_add, ↓e_iinc, ↓e_iadd, ↓e_isub, ↓e_imul, ↓e_iand, ↓e_ior, ↓e_ixor, ↓e_ishl, ↓e_iushr, ↓e_idiv, ↓e_irem, ↓e_ineg, ↓e_i2l, ↓e_i2b, ↓e_i2s, ↓e_l2i, ↓e_land, ↓e_lor, ↓e_lshl, ↓e_lshr, ↓e_lushr, ↓e_lcmp, ↓e_dupi, ↓e_dupr, ↓e_popi, ↓e_dup2, ↓e_goto, ↓e_if, ↓e_icmp, ↓e_tsw, ↓e_lsw, ↓e_getf, ↓e_putf, ↓e_gets, ↓e_iald, ↓e_cald, ↓e_iast, ↓e_aald, ↓e_aast, ↓e_len, ↓e_copy, ↓e_abs, ↓e_max, ↓e_min, ↓e_iret, ↓e_aret, ↓e_vret, ↓e_is0, ↓e_is1, ↓e_is2, ↓e_is3, ↓e_is4, ↓e_iv1, ↓e_iv2, ↓e_iv3, ↓e_iv4, ↓e_iv5, ↓e_iv6, ↓rt_X11_loose, ↓reduceIte, Nat.reduceAdd, Nat.reduceEqDiff, ↓zcl0, ↓zclv, List.map_nil, List.sum_nil, List.map_cons, List.sum_cons, zcat, true_and, and_true, Nat.reduceLeDiff, Nat.reduceAdd, eq_self, forall_const, e_ok0, e_okss, e_ok1i, e_ok1r, e_ok1n, zl_0, zl_1, zl_3, zl_6, zl_10, zl_64, zq_1, zq_40, Int.reduceToNat, Int.reduceAdd, Int.reduceMul, Int.reduceSub, Int.reduceNeg, Int.reduceLT, Int.reduceLE, Int.reduceEq, not_false_eq_true, not_true_eq_false, false_implies, true_implies, implies_true, Int.reduceDiv, Int.reduceMod, zr8_zr, zr_zbo, z01_zbo, z01_0, z01_1, zbo_eq0, zup_eq, zup_o, zup_k, ne_eq, ↓ct_loose_in, ↓r_in, ↓B_in, ↓ct_loose_isLate, ↓r_isLate, ↓B_isLate, ↓ct_loose_draw, ↓r_draw, ↓B_draw, ↓ct_loose_yearGoes, ↓r_yearGoes, ↓B_yearGoes, ↓ct_loose_heads, ↓r_heads, ↓B_heads, ↓ct_loose_finds, ↓r_finds, ↓B_finds, ↓v_87, ↓g_87_0, ↓l_88, ↓s_88, ↓n_88, ↓g_87_1, ↓l_89, ↓s_89, ↓n_89, ↓g_87_2, ↓l_90, ↓s_90, ↓n_90, ↓g_87_3, ↓p_87_3, ↓g_87_4, ↓l_91, ↓s_91, ↓n_91, ↓g_87_5, ↓p_87_5, ↓g_87_6, ↓p_87_6, ↓g_87_7, ↓p_87_7, ↓g_87_8, ↓p_87_8, ↓g_87_9, ↓p_87_9, ↓g_87_10, ↓p_87_10, ↓g_87_11, ↓l_92, ↓s_92, ↓n_92, ↓g_87_12, ↓l_93, ↓s_93, ↓n_93, ↓g_87_13, ↓p_87_13, ↓g_87_14, ↓l_94, ↓s_94, ↓n_94, ↓g_87_15, ↓p_87_15, ↓g_87_16, ↓l_95, ↓s_95, ↓n_95, ↓g_87_17, ↓l_96, ↓s_96, ↓n_96, ↓g_87_18, ↓l_97, ↓s_97, ↓n_97, ↓g_87_19, ↓p_87_19, ↓g_87_20, ↓p_87_20, ↓g_87_21, ↓l_98, ↓s_98, ↓n_98, ↓g_87_22, ↓l_99, ↓s_99, ↓n_99, ↓g_87_23, ↓l_100, ↓s_100, ↓n_100, ↓g_87_24, ↓l_101, ↓s_101, ↓n_101, zn, zk, lk, m87, zu1, zu2, tm_of, u1.1, tm_of, u2.1, zi]
          have ok := los_ok vd k (by omega)
          have lk := lo0_ok ok.1
          have e88 : zup (zup (zup M' 88 3 (zn1 (M' 88 3))) 88 3 (zn1 (zn1 (M' 88 3)))) 88 (6 + zushr (zn1 (M' 88 3)) 8 % 64).toNat (zushr (zn1 (zn1 (M' 88 3))) 8 % 10) 88 = lo0 (los (M 88) k) := by
            rw [zup_up, zup_up, zup_up, ← hd]
            rfl
          rw [e88]
          repeat (refine And.intro (by omega) ?_)
          refine ⟨lk.1, by omega, fun M2 hd2 hM2 => ih (k + 1) _ M2 (by omega) (by rw [hd2]; rfl) (fun x q1 q2 q3 => ?_)⟩
          rw [hM2 x q1 q2 q3, zup_ne _ q1, zup_ne _ q1, zup_ne _ q1, hM x q1 q2 q3]
      refine bs_X11_loose_32 hX ?_
      simp only [bk_X11_loose_0, k_X11_loose_0, bk_X11_loose_18, k_X11_loose_18, bk_X11_loose_32, k_X11_loose_32, bk_X11_loose_34, k_X11_loose_34, bk_X11_loose_73, k_X11_loose_73, ↓e_rk1, ↓e_rk0, ↓e_sk0, ↓e_sks, ↓e_ldi0, ↓e_ldis, ↓e_ldl0, ↓e_ldls, ↓e_lda0, ↓e_ldas, ↓e_ok0, ↓e_okss, ↓e_ok1i, ↓e_ok1r, ↓e_ok1n, ↓e_sti, ↓e_sta, ↓e_1, ↓e_2, ↓e_l1, ↓e_l2, ↓e_li, ↓e_sw0, ↓e_sws, ↓e_ceq, ↓e_cne, ↓e_clt, ↓e_cge, ↓e_cgt, ↓e_cle, ↓e_nil, ↓e_cons, ↓e_iconst, ↓e_bipush, ↓e_sipush, ↓e_ldc, ↓e_ldcw, ↓e_ldc2, ↓e_lconst, ↓e_iloadn, ↓e_iload, ↓e_lloadn, ↓e_lload, ↓e_aloadn, ↓e_aload, ↓e_istoren, ↓e_istore, ↓e_astoren, ↓e_astore, ↓e_add, ↓e_iinc, ↓e_iadd, ↓e_isub, ↓e_imul, ↓e_iand, ↓e_ior, ↓e_ixor, ↓e_ishl, ↓e_iushr, ↓e_idiv, ↓e_irem, ↓e_ineg, ↓e_i2l, ↓e_i2b, ↓e_i2s, ↓e_l2i, ↓e_land, ↓e_lor, ↓e_lshl, ↓e_lshr, ↓e_lushr, ↓e_lcmp, ↓e_dupi, ↓e_dupr, ↓e_popi, ↓e_dup2, ↓e_goto, ↓e_if, ↓e_icmp, ↓e_tsw, ↓e_lsw, ↓e_getf, ↓e_putf, ↓e_gets, ↓e_iald, ↓e_cald, ↓e_iast, ↓e_aald, ↓e_aast, ↓e_len, ↓e_copy, ↓e_abs, ↓e_max, ↓e_min, ↓e_iret, ↓e_aret, ↓e_vret, ↓e_is0, ↓e_is1, ↓e_is2, ↓e_is3, ↓e_is4, ↓e_iv1, ↓e_iv2, ↓e_iv3, ↓e_iv4, ↓e_iv5, ↓e_iv6, ↓rt_X11_loose, ↓reduceIte, Nat.reduceAdd, Nat.reduceEqDiff, ↓zcl0, ↓zclv, List.map_nil, List.sum_nil, List.map_cons, List.sum_cons, zcat, true_and, and_true, Nat.reduceLeDiff, Nat.reduceAdd, eq_self, forall_const, e_ok0, e_okss, e_ok1i, e_ok1r, e_ok1n, zl_0, zl_1, zl_3, zl_6, zl_10, zl_64, zq_1, zq_40, Int.reduceToNat, Int.reduceAdd, Int.reduceMul, Int.reduceSub, Int.reduceNeg, Int.reduceLT, Int.reduceLE, Int.reduceEq, not_false_eq_true, not_true_eq_false, false_implies, true_implies, implies_true, Int.reduceDiv, Int.reduceMod, zr8_zr, zr_zbo, z01_zbo, z01_0, z01_1, zbo_eq0, zup_eq, zup_o, zup_k, ne_eq, ↓ct_loose_in, ↓r_in, ↓B_in, ↓ct_loose_isLate, ↓r_isLate, ↓B_isLate, ↓ct_loose_draw, ↓r_draw, ↓B_draw, ↓ct_loose_yearGoes, ↓r_yearGoes, ↓B_yearGoes, ↓ct_loose_heads, ↓r_heads, ↓B_heads, ↓ct_loose_finds, ↓r_finds, ↓B_finds, ↓v_87, ↓g_87_0, ↓l_88, ↓s_88, ↓n_88, ↓g_87_1, ↓l_89, ↓s_89, ↓n_89, ↓g_87_2, ↓l_90, ↓s_90, ↓n_90, ↓g_87_3, ↓p_87_3, ↓g_87_4, ↓l_91, ↓s_91, ↓n_91, ↓g_87_5, ↓p_87_5, ↓g_87_6, ↓p_87_6, ↓g_87_7, ↓p_87_7, ↓g_87_8, ↓p_87_8, ↓g_87_9, ↓p_87_9, ↓g_87_10, ↓p_87_10, ↓g_87_11, ↓l_92, ↓s_92, ↓n_92, ↓g_87_12, ↓l_93, ↓s_93, ↓n_93, ↓g_87_13, ↓p_87_13, ↓g_87_14, ↓l_94, ↓s_94, ↓n_94, ↓g_87_15, ↓p_87_15, ↓g_87_16, ↓l_95, ↓s_95, ↓n_95, ↓g_87_17, ↓l_96, ↓s_96, ↓n_96, ↓g_87_18, ↓l_97, ↓s_97, ↓n_97, ↓g_87_19, ↓p_87_19, ↓g_87_20, ↓p_87_20, ↓g_87_21, ↓l_98, ↓s_98, ↓n_98, ↓g_87_22, ↓l_99, ↓s_99, ↓n_99, ↓g_87_23, ↓l_100, ↓s_100, ↓n_100, ↓g_87_24, ↓l_101, ↓s_101, ↓n_101]
      exact lp n.toNat 0 none M (by omega) rfl (fun _ _ _ _ => rfl)
    have J18 : (1 ≤ n ∧ n ≤ 40) → X 18 [some (.inr (.inr (.inl 87))), some (.inl n), none, none] [] (zG, M) (0, 0) := by
      intro q
      refine bs_X11_loose_18 hX ?_
      simp only [bk_X11_loose_0, k_X11_loose_0, bk_X11_loose_18, k_X11_loose_18, bk_X11_loose_32, k_X11_loose_32, bk_X11_loose_34, k_X11_loose_34, bk_X11_loose_73, k_X11_loose_73, ↓e_rk1, ↓e_rk0, ↓e_sk0, ↓e_sks, ↓e_ldi0, ↓e_ldis, ↓e_ldl0, ↓e_ldls, ↓e_lda0, ↓e_ldas, ↓e_ok0, ↓e_okss, ↓e_ok1i, ↓e_ok1r, ↓e_ok1n, ↓e_sti, ↓e_sta, ↓e_1, ↓e_2, ↓e_l1, ↓e_l2, ↓e_li, ↓e_sw0, ↓e_sws, ↓e_ceq, ↓e_cne, ↓e_clt, ↓e_cge, ↓e_cgt, ↓e_cle, ↓e_nil, ↓e_cons, ↓e_iconst, ↓e_bipush, ↓e_sipush, ↓e_ldc, ↓e_ldcw, ↓e_ldc2, ↓e_lconst, ↓e_iloadn, ↓e_iload, ↓e_lloadn, ↓e_lload, ↓e_aloadn, ↓e_aload, ↓e_istoren, ↓e_istore, ↓e_astoren, ↓e_astore, ↓e_add, ↓e_iinc, ↓e_iadd, ↓e_isub, ↓e_imul, ↓e_iand, ↓e_ior, ↓e_ixor, ↓e_ishl, ↓e_iushr, ↓e_idiv, ↓e_irem, ↓e_ineg, ↓e_i2l, ↓e_i2b, ↓e_i2s, ↓e_l2i, ↓e_land, ↓e_lor, ↓e_lshl, ↓e_lshr, ↓e_lushr, ↓e_lcmp, ↓e_dupi, ↓e_dupr, ↓e_popi, ↓e_dup2, ↓e_goto, ↓e_if, ↓e_icmp, ↓e_tsw, ↓e_lsw, ↓e_getf, ↓e_putf, ↓e_gets, ↓e_iald, ↓e_cald, ↓e_iast, ↓e_aald, ↓e_aast, ↓e_len, ↓e_copy, ↓e_abs, ↓e_max, ↓e_min, ↓e_iret, ↓e_aret, ↓e_vret, ↓e_is0, ↓e_is1, ↓e_is2, ↓e_is3, ↓e_is4, ↓e_iv1, ↓e_iv2, ↓e_iv3, ↓e_iv4, ↓e_iv5, ↓e_iv6, ↓rt_X11_loose, ↓reduceIte, Nat.reduceAdd, Nat.reduceEqDiff, ↓zcl0, ↓zclv, List.map_nil, List.sum_nil, List.map_cons, List.sum_cons, zcat, true_and, and_true, Nat.reduceLeDiff, Nat.reduceAdd, eq_self, forall_const, e_ok0, e_okss, e_ok1i, e_ok1r, e_ok1n, zl_0, zl_1, zl_3, zl_6, zl_10, zl_64, zq_1, zq_40, Int.reduceToNat, Int.reduceAdd, Int.reduceMul, Int.reduceSub, Int.reduceNeg, Int.reduceLT, Int.reduceLE, Int.reduceEq, not_false_eq_true, not_true_eq_false, false_implies, true_implies, implies_true, Int.reduceDiv, Int.reduceMod, zr8_zr, zr_zbo, z01_zbo, z01_0, z01_1, zbo_eq0, zup_eq, zup_o, zup_k, ne_eq, ↓ct_loose_in, ↓r_in, ↓B_in, ↓ct_loose_isLate, ↓r_isLate, ↓B_isLate, ↓ct_loose_draw, ↓r_draw, ↓B_draw, ↓ct_loose_yearGoes, ↓r_yearGoes, ↓B_yearGoes, ↓ct_loose_heads, ↓r_heads, ↓B_heads, ↓ct_loose_finds, ↓r_finds, ↓B_finds, ↓v_87, ↓g_87_0, ↓l_88, ↓s_88, ↓n_88, ↓g_87_1, ↓l_89, ↓s_89, ↓n_89, ↓g_87_2, ↓l_90, ↓s_90, ↓n_90, ↓g_87_3, ↓p_87_3, ↓g_87_4, ↓l_91, ↓s_91, ↓n_91, ↓g_87_5, ↓p_87_5, ↓g_87_6, ↓p_87_6, ↓g_87_7, ↓p_87_7, ↓g_87_8, ↓p_87_8, ↓g_87_9, ↓p_87_9, ↓g_87_10, ↓p_87_10, ↓g_87_11, ↓l_92, ↓s_92, ↓n_92, ↓g_87_12, ↓l_93, ↓s_93, ↓n_93, ↓g_87_13, ↓p_87_13, ↓g_87_14, ↓l_94, ↓s_94, ↓n_94, ↓g_87_15, ↓p_87_15, ↓g_87_16, ↓l_95, ↓s_95, ↓n_95, ↓g_87_17, ↓l_96, ↓s_96, ↓n_96, ↓g_87_18, ↓l_97, ↓s_97, ↓n_97, ↓g_87_19, ↓p_87_19, ↓g_87_20, ↓p_87_20, ↓g_87_21, ↓l_98, ↓s_98, ↓n_98, ↓g_87_22, ↓l_99, ↓s_99, ↓n_99, ↓g_87_23, ↓l_100, ↓s_100, ↓n_100, ↓g_87_24, ↓l_101, ↓s_101, ↓n_101, zr_zbo, zbo_eq0]
      refine ⟨by omega, by omega, by omega, by omega, fun c => ?_, fun c => ?_⟩
      · first | exact J32 q c | exact pub_no hC (by unfold R_loose; rw [if_pos q, s1, if_pos (by omega)]) rfl
      · first | exact J32 q c | exact pub_no hC (by unfold R_loose; rw [if_pos q, s1, if_pos (by omega)]) rfl
    simp only [bk_X11_loose_0, k_X11_loose_0, bk_X11_loose_18, k_X11_loose_18, bk_X11_loose_32, k_X11_loose_32, bk_X11_loose_34, k_X11_loose_34, bk_X11_loose_73, k_X11_loose_73, ↓e_rk1, ↓e_rk0, ↓e_sk0, ↓e_sks, ↓e_ldi0, ↓e_ldis, ↓e_ldl0, ↓e_ldls, ↓e_lda0, ↓e_ldas, ↓e_ok0, ↓e_okss, ↓e_ok1i, ↓e_ok1r, ↓e_ok1n, ↓e_sti, ↓e_sta, ↓e_1, ↓e_2, ↓e_l1, ↓e_l2, ↓e_li, ↓e_sw0, ↓e_sws, ↓e_ceq, ↓e_cne, ↓e_clt, ↓e_cge, ↓e_cgt, ↓e_cle, ↓e_nil, ↓e_cons, ↓e_iconst, ↓e_bipush, ↓e_sipush, ↓e_ldc, ↓e_ldcw, ↓e_ldc2, ↓e_lconst, ↓e_iloadn, ↓e_iload, ↓e_lloadn, ↓e_lload, ↓e_aloadn, ↓e_aload, ↓e_istoren, ↓e_istore, ↓e_astoren, ↓e_astore, ↓e_add, ↓e_iinc, ↓e_iadd, ↓e_isub, ↓e_imul, ↓e_iand, ↓e_ior, ↓e_ixor, ↓e_ishl, ↓e_iushr, ↓e_idiv, ↓e_irem, ↓e_ineg, ↓e_i2l, ↓e_i2b, ↓e_i2s, ↓e_l2i, ↓e_land, ↓e_lor, ↓e_lshl, ↓e_lshr, ↓e_lushr, ↓e_lcmp, ↓e_dupi, ↓e_dupr, ↓e_popi, ↓e_dup2, ↓e_goto, ↓e_if, ↓e_icmp, ↓e_tsw, ↓e_lsw, ↓e_getf, ↓e_putf, ↓e_gets, ↓e_iald, ↓e_cald, ↓e_iast, ↓e_aald, ↓e_aast, ↓e_len, ↓e_copy, ↓e_abs, ↓e_max, ↓e_min, ↓e_iret, ↓e_aret, ↓e_vret, ↓e_is0, ↓e_is1, ↓e_is2, ↓e_is3, ↓e_is4, ↓e_iv1, ↓e_iv2, ↓e_iv3, ↓e_iv4, ↓e_iv5, ↓e_iv6, ↓rt_X11_loose, ↓reduceIte, Nat.reduceAdd, Nat.reduceEqDiff, ↓zcl0, ↓zclv, List.map_nil, List.sum_nil, List.map_cons, List.sum_cons, zcat, true_and, and_true, Nat.reduceLeDiff, Nat.reduceAdd, eq_self, forall_const, e_ok0, e_okss, e_ok1i, e_ok1r, e_ok1n, zl_0, zl_1, zl_3, zl_6, zl_10, zl_64, zq_1, zq_40, Int.reduceToNat, Int.reduceAdd, Int.reduceMul, Int.reduceSub, Int.reduceNeg, Int.reduceLT, Int.reduceLE, Int.reduceEq, not_false_eq_true, not_true_eq_false, false_implies, true_implies, implies_true, Int.reduceDiv, Int.reduceMod, zr8_zr, zr_zbo, z01_zbo, z01_0, z01_1, zbo_eq0, zup_eq, zup_o, zup_k, ne_eq, ↓ct_loose_in, ↓r_in, ↓B_in, ↓ct_loose_isLate, ↓r_isLate, ↓B_isLate, ↓ct_loose_draw, ↓r_draw, ↓B_draw, ↓ct_loose_yearGoes, ↓r_yearGoes, ↓B_yearGoes, ↓ct_loose_heads, ↓r_heads, ↓B_heads, ↓ct_loose_finds, ↓r_finds, ↓B_finds, ↓v_87, ↓g_87_0, ↓l_88, ↓s_88, ↓n_88, ↓g_87_1, ↓l_89, ↓s_89, ↓n_89, ↓g_87_2, ↓l_90, ↓s_90, ↓n_90, ↓g_87_3, ↓p_87_3, ↓g_87_4, ↓l_91, ↓s_91, ↓n_91, ↓g_87_5, ↓p_87_5, ↓g_87_6, ↓p_87_6, ↓g_87_7, ↓p_87_7, ↓g_87_8, ↓p_87_8, ↓g_87_9, ↓p_87_9, ↓g_87_10, ↓p_87_10, ↓g_87_11, ↓l_92, ↓s_92, ↓n_92, ↓g_87_12, ↓l_93, ↓s_93, ↓n_93, ↓g_87_13, ↓p_87_13, ↓g_87_14, ↓l_94, ↓s_94, ↓n_94, ↓g_87_15, ↓p_87_15, ↓g_87_16, ↓l_95, ↓s_95, ↓n_95, ↓g_87_17, ↓l_96, ↓s_96, ↓n_96, ↓g_87_18, ↓l_97, ↓s_97, ↓n_97, ↓g_87_19, ↓p_87_19, ↓g_87_20, ↓p_87_20, ↓g_87_21, ↓l_98, ↓s_98, ↓n_98, ↓g_87_22, ↓l_99, ↓s_99, ↓n_99, ↓g_87_23, ↓l_100, ↓s_100, ↓n_100, ↓g_87_24, ↓l_101, ↓s_101, ↓n_101, zr_rg, h1, zr8_rg, h1, zr8_zr, zr_zbo, zbo_eq0]
    refine ⟨fun c => ?_, fun c => J18 (by omega)⟩
    exact pub_no hC (by unfold R_loose; rw [if_neg (by omega)]) rfl
/-- which of what was told is wrong first -/
def ckw (d W : Nat → Int) : Nat → Int
  | 0 => 0
  | k + 1 => if ckw d W k = 0 then (if W k = gap (yrs d (-1) (k + 1)) then 0 else 1 + (k : Int)) else ckw d W k
theorem ckw_no {d W : Nat → Int} {k : Nat} (h : ¬ ckw d W k = 0) : ∀ j : Nat, ckw d W (k + j) = ckw d W k
  | 0 => rfl
  | j + 1 => by
    have i := ckw_no h j
    show (if ckw d W (k + j) = 0 then _ else ckw d W (k + j)) = _
    rw [i, if_neg h]
theorem ckw_rng {d W : Nat → Int} : ∀ k : Nat, 0 ≤ ckw d W k ∧ ckw d W k ≤ k
  | 0 => by simp [ckw]
  | k + 1 => by
    have := ckw_rng (d := d) (W := W) k
    simp only [ckw]
    split
    · split <;> omega
    · omega
def R_check (S : ZMm) : Int × ZMm := (ckw (up1 (S 88) 5 0) (fun k => S 88 (188 + k)) (S 88 5).toNat, r88 S (up1 (S 88) 5 0))
def B_check (M : Nat → Nat → Int) (post : Option ZV → (Nat → Nat → Int) → Prop) : Prop := pub M (R_check (st M)) post
def C_check : ZC := fun as h post => match as with
  | [.inr (.inr (.inl 87))] => h.1 = zG ∧ B_check h.2 (fun v M => post v (zG, M))
  | _ => False
theorem r_check {M : Nat → Nat → Int} {post : Option ZV → ZH → Prop} : C_check [.inr (.inr (.inl 87))] (zG, M) post = B_check M (fun v M => post v (zG, M)) := by show (zG = zG ∧ _) = _; simp
def ct_check : Nat → ZC := fun n => if n = 130 then C_keepAside else if n = 163 then C_yearGoes else if n = 153 then C_heads else if n = 131 then C_putBack else fun _ _ _ => False
theorem ct_check_keepAside {as : List ZV} {h : ZH} {post : Option ZV → ZH → Prop} : ct_check 130 as h post = C_keepAside as h post := rfl
theorem ct_check_yearGoes {as : List ZV} {h : ZH} {post : Option ZV → ZH → Prop} : ct_check 163 as h post = C_yearGoes as h post := rfl
theorem ct_check_heads {as : List ZV} {h : ZH} {post : Option ZV → ZH → Prop} : ct_check 153 as h post = C_heads as h post := rfl
theorem ct_check_putBack {as : List ZV} {h : ZH} {post : Option ZV → ZH → Prop} : ct_check 131 as h post = C_putBack as h post := rfl
theorem c_check {E : ZE} {d : Nat} (hd : 8 ≤ d) : zMet E d mX11_check C_check := by
  refine zmet_of (o := 11) (ini := false) (CT := ct_check) gd_X11_check rfl (fun h => by cases h) (by omega) ?_ ?_
  · intro n as h post hh
    unfold ct_check at hh
    by_cases c : n = 130
    · subst c; exact ⟨gd_X11_keepAside, 1, by omega, c_keepAside (by omega)⟩
    rw [if_neg c] at hh
    by_cases c : n = 163
    · subst c; exact ⟨gd_X11_yearGoes, 7, by omega, c_yearGoes (by omega)⟩
    rw [if_neg c] at hh
    by_cases c : n = 153
    · subst c; exact ⟨gd_X11_heads, 3, by omega, c_heads (by omega)⟩
    rw [if_neg c] at hh
    by_cases c : n = 131
    · subst c; exact ⟨gd_X11_putBack, 1, by omega, c_putBack (by omega)⟩
    rw [if_neg c] at hh
    exact hh.elim
  intro as h post hC
  match as, hC with
  | [.inr (.inr (.inl 87))], hC =>
    refine ⟨Nat.le_of_ble_eq_true rfl, fun X hX => bs_X11_check_0 hX ?_⟩
    obtain ⟨G, M⟩ := h
    obtain ⟨hG, hC⟩ := hC
    dsimp only at hG
    subst hG
    simp only [B_check] at hC
    show bk_X11_check_0 E ct_check X _ [some (.inr (.inr (.inl 87))), none, none, none] [] (zG, M) (0, 0)
    have vd : Vd (M 88) := hC.1.1
    have v1 := vd.2.1
    have v5 := vd.2.2.2.2.1
    have y1 : st M 88 1 ≤ 9999 := hC.1.2.1
    have m15 : M 87 15 = -1 := hC.2.1
    have s1 : st M 88 1 = M 88 1 := rfl
    have s88 : st M 88 = M 88 := rfl
    have wr : ∀ k, 188 ≤ k → k < 208 → rg (M 88 k) := hC.1.2.2.2.2.2.2.2.1
    have rm : rg (-1) := ⟨by omega, by omega⟩
    obtain ⟨d0, hd0⟩ : ∃ d0 : Nat → Int, up1 (M 88) 5 0 = d0 := ⟨_, rfl⟩
    have vd0 : Vd d0 := by
      rw [← hd0]
      exact Vd_up vd (by omega) (Or.inr ⟨by omega, by decide⟩)
    have e1 : d0 1 = M 88 1 := by rw [← hd0]; exact up1_ne (by omega)
    obtain ⟨n, hn⟩ : ∃ n : Nat, M 88 5 = n := ⟨(M 88 5).toNat, by omega⟩
    have zn : zr (n : Int) = n := zr_of (by omega) (by omega)
    have ex : ∀ (k : Nat) (M' : ZMm) (t : Int) (x3 : Option ZV), k ≤ n → t = ckw d0 (fun k => M 88 (188 + k)) n → M' 88 = yrs d0 (-1) k → (∀ i, i < 186 → M' 90 i = d0 i) → (∀ x, ¬ x = 88 → ¬ x = 90 → ¬ x = 92 → ¬ x = 94 → M' x = M x) → X 66 [some (.inr (.inr (.inl 87))), some (.inl ((n : Int))), some (.inl t), x3] [] (zG, M') (0, 0) := by
      intro k M' t x3 hk ht hd ha hM
      refine bs_X11_check_66 hX ?_
      simp only [bk_X11_check_0, k_X11_check_0, bk_X11_check_22, k_X11_check_22, bk_X11_check_56, k_X11_check_56, bk_X11_check_59, k_X11_check_59, bk_X11_check_66, k_X11_check_66, ↓e_rk1, ↓e_rk0, ↓e_sk0, ↓e_sks, ↓e_ldi0, ↓e_ldis, ↓e_ldl0, ↓e_ldls, ↓e_lda0, ↓e_ldas, ↓e_ok0, ↓e_okss, ↓e_ok1i, ↓e_ok1r, ↓e_ok1n, ↓e_sti, ↓e_sta, ↓e_1, ↓e_2, ↓e_l1, ↓e_l2, ↓e_li, ↓e_sw0, ↓e_sws, ↓e_ceq, ↓e_cne, ↓e_clt, ↓e_cge, ↓e_cgt, ↓e_cle, ↓e_nil, ↓e_cons, ↓e_iconst, ↓e_bipush, ↓e_sipush, ↓e_ldc, ↓e_ldcw, ↓e_ldc2, ↓e_lconst, ↓e_iloadn, ↓e_iload, ↓e_lloadn, ↓e_lload, ↓e_aloadn, ↓e_aload, ↓e_istoren, ↓e_istore, ↓e_astoren, ↓e_astore, ↓e_add, ↓e_iinc, ↓e_iadd, ↓e_isub, ↓e_imul, ↓e_iand, ↓e_ior, ↓e_ixor, ↓e_ishl, ↓e_iushr, ↓e_idiv, ↓e_irem, ↓e_ineg, ↓e_i2l, ↓e_i2b, ↓e_i2s, ↓e_l2i, ↓e_land, ↓e_lor, ↓e_lshl, ↓e_lshr, ↓e_lushr, ↓e_lcmp, ↓e_dupi, ↓e_dupr, ↓e_popi, ↓e_dup2, ↓e_goto, ↓e_if, ↓e_icmp, ↓e_tsw, ↓e_lsw, ↓e_getf, ↓e_putf, ↓e_gets, ↓e_iald, ↓e_cald, ↓e_iast, ↓e_aald, ↓e_aast, ↓e_len, ↓e_copy, ↓e_abs, ↓e_max, ↓e_min, ↓e_iret, ↓e_aret, ↓e_vret, ↓e_is0, ↓e_is1, ↓e_is2, ↓e_is3, ↓e_is4, ↓e_iv1, ↓e_iv2, ↓e_iv3, ↓e_iv4, ↓e_iv5, ↓e_iv6, ↓rt_X11_check, ↓reduceIte, Nat.reduceAdd, Nat.reduceEqDiff, ↓zcl0, ↓zclv, List.map_nil, List.sum_nil, List.map_cons, List.sum_cons, zcat, true_and, and_true, Nat.reduceLeDiff, Nat.reduceAdd, eq_self, forall_const, e_ok0, e_okss, e_ok1i, e_ok1r, e_ok1n, zl_0, zl_1, zl_5, zl_188, Int.reduceToNat, Int.reduceAdd, Int.reduceMul, Int.reduceSub, Int.reduceNeg, Int.reduceLT, Int.reduceLE, Int.reduceEq, not_false_eq_true, not_true_eq_false, false_implies, true_implies, implies_true, Int.reduceDiv, Int.reduceMod, zr8_zr, zr_zbo, z01_zbo, z01_0, z01_1, zbo_eq0, zup_eq, zup_o, zup_k, ne_eq, ↓ct_check_keepAside, ↓r_keepAside, ↓B_keepAside, ↓ct_check_yearGoes, ↓r_yearGoes, ↓B_yearGoes, ↓ct_check_heads, ↓r_heads, ↓B_heads, ↓ct_check_putBack, ↓r_putBack, ↓B_putBack, ↓v_87, ↓g_87_0, ↓l_88, ↓s_88, ↓n_88, ↓g_87_1, ↓l_89, ↓s_89, ↓n_89, ↓g_87_2, ↓l_90, ↓s_90, ↓n_90, ↓g_87_3, ↓p_87_3, ↓g_87_4, ↓l_91, ↓s_91, ↓n_91, ↓g_87_5, ↓p_87_5, ↓g_87_6, ↓p_87_6, ↓g_87_7, ↓p_87_7, ↓g_87_8, ↓p_87_8, ↓g_87_9, ↓p_87_9, ↓g_87_10, ↓p_87_10, ↓g_87_11, ↓l_92, ↓s_92, ↓n_92, ↓g_87_12, ↓l_93, ↓s_93, ↓n_93, ↓g_87_13, ↓p_87_13, ↓g_87_14, ↓l_94, ↓s_94, ↓n_94, ↓g_87_15, ↓p_87_15, ↓g_87_16, ↓l_95, ↓s_95, ↓n_95, ↓g_87_17, ↓l_96, ↓s_96, ↓n_96, ↓g_87_18, ↓l_97, ↓s_97, ↓n_97, ↓g_87_19, ↓p_87_19, ↓g_87_20, ↓p_87_20, ↓g_87_21, ↓l_98, ↓s_98, ↓n_98, ↓g_87_22, ↓l_99, ↓s_99, ↓n_99, ↓g_87_23, ↓l_100, ↓s_100, ↓n_100, ↓g_87_24, ↓l_101, ↓s_101, ↓n_101]
      intro M2 h2 hM2
      refine pub_88 hC (fun x q q0 q1 q2 => (hM2 x q).trans (hM x q q0 q1 q2)) ?_
      have e88 : M2 88 = d0 := by
        rw [h2, hd]
        funext i
        by_cases q : i < 186
        · rw [if_pos q, ha i q]
        · rw [if_neg q, yrs_hi vd0 (-1) (by omega) k (by omega)]
      unfold R_check
      rw [e88, s88, hd0, ht, hn]
      rfl
    have lp : ∀ (j k : Nat) (M' : ZMm), j + k = n → M' 88 = yrs d0 (-1) k → (∀ i, i < 186 → M' 90 i = d0 i) → (∀ x, ¬ x = 88 → ¬ x = 90 → ¬ x = 92 → ¬ x = 94 → M' x = M x) → X 22 [some (.inr (.inr (.inl 87))), some (.inl ((n : Int))), some (.inl (ckw d0 (fun k => M 88 (188 + k)) k)), some (.inl ((k : Int)))] [] (zG, M') (0, 0) := by
      intro j
      induction j with
      | zero =>
        intro k M' hk hd ha hM
        refine bs_X11_check_22 hX ?_
        have zk : zr (k : Int) = k := zr_of (by omega) (by omega)
        have lk : ((k : Int) < n) = False := eq_false (by omega)
        simp only [bk_X11_check_0, k_X11_check_0, bk_X11_check_22, k_X11_check_22, bk_X11_check_56, k_X11_check_56, bk_X11_check_59, k_X11_check_59, bk_X11_check_66, k_X11_check_66, ↓e_rk1, ↓e_rk0, ↓e_sk0, ↓e_sks, ↓e_ldi0, ↓e_ldis, ↓e_ldl0, ↓e_ldls, ↓e_lda0, ↓e_ldas, ↓e_ok0, ↓e_okss, ↓e_ok1i, ↓e_ok1r, ↓e_ok1n, ↓e_sti, ↓e_sta, ↓e_1, ↓e_2, ↓e_l1, ↓e_l2, ↓e_li, ↓e_sw0, ↓e_sws, ↓e_ceq, ↓e_cne, ↓e_clt, ↓e_cge, ↓e_cgt, ↓e_cle, ↓e_nil, ↓e_cons, ↓e_iconst, ↓e_bipush, ↓e_sipush, ↓e_ldc, ↓e_ldcw, ↓e_ldc2, ↓e_lconst, ↓e_iloadn, ↓e_iload, ↓e_lloadn, ↓e_lload, ↓e_aloadn, ↓e_aload, ↓e_istoren, ↓e_istore, ↓e_astoren, ↓e_astore, ↓e_add, ↓e_iinc, ↓e_iadd, ↓e_isub, ↓e_imul, ↓e_iand, ↓e_ior, ↓e_ixor, ↓e_ishl, ↓e_iushr, ↓e_idiv, ↓e_irem, ↓e_ineg, ↓e_i2l, ↓e_i2b, ↓e_i2s, ↓e_l2i, ↓e_land, ↓e_lor, ↓e_lshl, ↓e_lshr, ↓e_lushr, ↓e_lcmp, ↓e_dupi, ↓e_dupr, ↓e_popi, ↓e_dup2, ↓e_goto, ↓e_if, ↓e_icmp, ↓e_tsw, ↓e_lsw, ↓e_getf, ↓e_putf, ↓e_gets, ↓e_iald, ↓e_cald, ↓e_iast, ↓e_aald, ↓e_aast, ↓e_len, ↓e_copy, ↓e_abs, ↓e_max, ↓e_min, ↓e_iret, ↓e_aret, ↓e_vret, ↓e_is0, ↓e_is1, ↓e_is2, ↓e_is3, ↓e_is4, ↓e_iv1, ↓e_iv2, ↓e_iv3, ↓e_iv4, ↓e_iv5, ↓e_iv6, ↓rt_X11_check, ↓reduceIte, Nat.reduceAdd, Nat.reduceEqDiff, ↓zcl0, ↓zclv, List.map_nil, List.sum_nil, List.map_cons, List.sum_cons, zcat, true_and, and_true, Nat.reduceLeDiff, Nat.reduceAdd, eq_self, forall_const, e_ok0, e_okss, e_ok1i, e_ok1r, e_ok1n, zl_0, zl_1, zl_5, zl_188, Int.reduceToNat, Int.reduceAdd, Int.reduceMul, Int.reduceSub, Int.reduceNeg, Int.reduceLT, Int.reduceLE, Int.reduceEq, not_false_eq_true, not_true_eq_false, false_implies, true_implies, implies_true, Int.reduceDiv, Int.reduceMod, zr8_zr, zr_zbo, z01_zbo, z01_0, z01_1, zbo_eq0, zup_eq, zup_o, zup_k, ne_eq, ↓ct_check_keepAside, ↓r_keepAside, ↓B_keepAside, ↓ct_check_yearGoes, ↓r_yearGoes, ↓B_yearGoes, ↓ct_check_heads, ↓r_heads, ↓B_heads, ↓ct_check_putBack, ↓r_putBack, ↓B_putBack, ↓v_87, ↓g_87_0, ↓l_88, ↓s_88, ↓n_88, ↓g_87_1, ↓l_89, ↓s_89, ↓n_89, ↓g_87_2, ↓l_90, ↓s_90, ↓n_90, ↓g_87_3, ↓p_87_3, ↓g_87_4, ↓l_91, ↓s_91, ↓n_91, ↓g_87_5, ↓p_87_5, ↓g_87_6, ↓p_87_6, ↓g_87_7, ↓p_87_7, ↓g_87_8, ↓p_87_8, ↓g_87_9, ↓p_87_9, ↓g_87_10, ↓p_87_10, ↓g_87_11, ↓l_92, ↓s_92, ↓n_92, ↓g_87_12, ↓l_93, ↓s_93, ↓n_93, ↓g_87_13, ↓p_87_13, ↓g_87_14, ↓l_94, ↓s_94, ↓n_94, ↓g_87_15, ↓p_87_15, ↓g_87_16, ↓l_95, ↓s_95, ↓n_95, ↓g_87_17, ↓l_96, ↓s_96, ↓n_96, ↓g_87_18, ↓l_97, ↓s_97, ↓n_97, ↓g_87_19, ↓p_87_19, ↓g_87_20, ↓p_87_20, ↓g_87_21, ↓l_98, ↓s_98, ↓n_98, ↓g_87_22, ↓l_99, ↓s_99, ↓n_99, ↓g_87_23, ↓l_100, ↓s_100, ↓n_100, ↓g_87_24, ↓l_101, ↓s_101, ↓n_101, zk, lk, zn]
        exact ex k M' _ _ (by omega) (by rw [show k = n by omega]) hd ha hM
      | succ j ih =>
        intro k M' hk hd ha hM
        refine bs_X11_check_22 hX ?_
        have zk : zr (k : Int) = k := zr_of (by omega) (by omega)
        have lk : ((k : Int) < n) = True := eq_true (by omega)
        have kr := ckw_rng (d := d0) (W := fun k => M 88 (188 + k)) k
        have zc9 : zr (ckw d0 (fun k => M 88 (188 + k)) k) = ckw d0 (fun k => M 88 (188 + k)) k := zr_of (by omega) (by omega)
        have m87 : M' 87 15 = -1 := (congrFun (hM 87 (by decide) (by decide) (by decide) (by decide)) _).trans m15
        have zi : zr (188 + (k : Int)) = 188 + k := zr_of (by omega) (by omega)
        simp only [bk_X11_check_0, k_X11_check_0, bk_X11_check_22, k_X11_check_22, bk_X11_check_56, k_X11_check_56, bk_X11_check_59, k_X11_check_59, bk_X11_check_66, k_X11_check_66, ↓e_rk1, ↓e_rk0, ↓e_sk0, ↓e_sks, ↓e_ldi0, ↓e_ldis, ↓e_ldl0, ↓e_ldls, ↓e_lda0, ↓e_ldas, ↓e_ok0, ↓e_okss, ↓e_ok1i, ↓e_ok1r, ↓e_ok1n, ↓e_sti, ↓e_sta, ↓e_1, ↓e_2, ↓e_l1, ↓e_l2, ↓e_li, ↓e_sw0, ↓e_sws, ↓e_ceq, ↓e_cne, ↓e_clt, ↓e_cge, ↓e_cgt, ↓e_cle, ↓e_nil, ↓e_cons, ↓e_iconst, ↓e_bipush, ↓e_sipush, ↓e_ldc, ↓e_ldcw, ↓e_ldc2, ↓e_lconst, ↓e_iloadn, ↓e_iload, ↓e_lloadn, ↓e_lload, ↓e_aloadn, ↓e_aload, ↓e_istoren, ↓e_istore, ↓e_astoren, ↓e_astore, ↓e_add, ↓e_iinc, ↓e_iadd, ↓e_isub, ↓e_imul, ↓e_iand, ↓e_ior, ↓e_ixor, ↓e_ishl, ↓e_iushr, ↓e_idiv, ↓e_irem, ↓e_ineg, ↓e_i2l, ↓e_i2b, ↓e_i2s, ↓e_l2i, ↓e_land, ↓e_lor, ↓e_lshl, ↓e_lshr, ↓e_lushr, ↓e_lcmp, ↓e_dupi, ↓e_dupr, ↓e_popi, ↓e_dup2, ↓e_goto, ↓e_if, ↓e_icmp, ↓e_tsw, ↓e_lsw, ↓e_getf, ↓e_putf, ↓e_gets, ↓e_iald, ↓e_cald, ↓e_iast, ↓e_aald, ↓e_aast, ↓e_len, ↓e_copy, ↓e_abs, ↓e_max, ↓e_min, ↓e_iret, ↓e_aret, ↓e_vret, ↓e_is0, ↓e_is1, ↓e_is2, ↓e_is3, ↓e_is4, ↓e_iv1, ↓e_iv2, ↓e_iv3, ↓e_iv4, ↓e_iv5, ↓e_iv6, ↓rt_X11_check, ↓reduceIte, Nat.reduceAdd, Nat.reduceEqDiff, ↓zcl0, ↓zclv, List.map_nil, List.sum_nil, List.map_cons, List.sum_cons, zcat, true_and, and_true, Nat.reduceLeDiff, Nat.reduceAdd, eq_self, forall_const, e_ok0, e_okss, e_ok1i, e_ok1r, e_ok1n, zl_0, zl_1, zl_5, zl_188, Int.reduceToNat, Int.reduceAdd, Int.reduceMul, Int.reduceSub, Int.reduceNeg, Int.reduceLT, Int.reduceLE, Int.reduceEq, not_false_eq_true, not_true_eq_false, false_implies, true_implies, implies_true, Int.reduceDiv, Int.reduceMod, zr8_zr, zr_zbo, z01_zbo, z01_0, z01_1, zbo_eq0, zup_eq, zup_o, zup_k, ne_eq, ↓ct_check_keepAside, ↓r_keepAside, ↓B_keepAside, ↓ct_check_yearGoes, ↓r_yearGoes, ↓B_yearGoes, ↓ct_check_heads, ↓r_heads, ↓B_heads, ↓ct_check_putBack, ↓r_putBack, ↓B_putBack, ↓v_87, ↓g_87_0, ↓l_88, ↓s_88, ↓n_88, ↓g_87_1, ↓l_89, ↓s_89, ↓n_89, ↓g_87_2, ↓l_90, ↓s_90, ↓n_90, ↓g_87_3, ↓p_87_3, ↓g_87_4, ↓l_91, ↓s_91, ↓n_91, ↓g_87_5, ↓p_87_5, ↓g_87_6, ↓p_87_6, ↓g_87_7, ↓p_87_7, ↓g_87_8, ↓p_87_8, ↓g_87_9, ↓p_87_9, ↓g_87_10, ↓p_87_10, ↓g_87_11, ↓l_92, ↓s_92, ↓n_92, ↓g_87_12, ↓l_93, ↓s_93, ↓n_93, ↓g_87_13, ↓p_87_13, ↓g_87_14, ↓l_94, ↓s_94, ↓n_94, ↓g_87_15, ↓p_87_15, ↓g_87_16, ↓l_95, ↓s_95, ↓n_95, ↓g_87_17, ↓l_96, ↓s_96, ↓n_96, ↓g_87_18, ↓l_97, ↓s_97, ↓n_97, ↓g_87_19, ↓p_87_19, ↓g_87_20, ↓p_87_20, ↓g_87_21, ↓l_98, ↓s_98, ↓n_98, ↓g_87_22, ↓l_99, ↓s_99, ↓n_99, ↓g_87_23, ↓l_100, ↓s_100, ↓n_100, ↓g_87_24, ↓l_101, ↓s_101, ↓n_101, zk, lk, zn, zc9, m87, zi]
        have ok := yrs_ok vd0 (-1) k (by omega)
        have ok1 := yrs_ok vd0 (-1) (k + 1) (by omega)
        have gr := gap_rng ok1.1
        have run : ckw d0 (fun k => M 88 (188 + k)) k = 0 → ∀ M2 : ZMm, M2 88 = yr1 (M' 88) (-1) → (∀ x, ¬ x = 88 → ¬ x = 92 → ¬ x = 94 → M2 x = M' x) → (M2 88 = yrs d0 (-1) (k + 1)) ∧ (M2 88 (188 + (k : Int)).toNat = M 88 (188 + k)) ∧ ∀ t, t = (if M 88 (188 + k) = gap (yrs d0 (-1) (k + 1)) then 0 else 1 + (k : Int)) → X 22 [some (.inr (.inr (.inl 87))), some (.inl ((n : Int))), some (.inl t), some (.inl ((k : Int) + 1))] [] (zG, M2) (0, 0) := by
          intro c M2 hd2 hM2
          have d2 : M2 88 = yrs d0 (-1) (k + 1) := by rw [hd2, hd]; rfl
          refine ⟨d2, ?_, fun t ht => ?_⟩
          · rw [d2, yrs_hi vd0 (-1) (by omega) (k + 1) (by omega), ← hd0, up1_ne (by omega)]
            congr 1
          · have nx := ih (k + 1) M2 (by omega) d2 (fun i hi => by rw [hM2 90 (by decide) (by decide) (by decide), ha i hi]) (fun x q q0 q1 q2 => (hM2 x q q1 q2).trans (hM x q q0 q1 q2))
            simp only [ckw] at nx
            rw [if_pos c, ← ht] at nx
            exact nx
        have q0 := (Vd_hi ok1.1 (e := 0) (by omega) (by omega)).1
        have q1 := (Vd_hi ok1.1 (e := 1) (by omega) (by omega)).1
        have wk := wr (188 + k) (by omega) (by omega)
        refine ⟨fun c => ?_, fun c => ?_⟩
        · first
            | exact ex k M' _ _ (by omega) (by rw [show n = k + (j + 1) by omega]; exact (ckw_no c (j + 1)).symm) hd ha hM
            | (refine ⟨rm, by rw [hd]; exact ok.1, by rw [hd]; omega, fun M2 hd2 hM2 => ?_⟩
               obtain ⟨d2, w2, nx⟩ := run c M2 hd2 hM2
               rw [w2, d2, zr_rg wk]
               refine ⟨by omega, by omega, q0.1, q0.2, q1.1, q1.2, fun c2 => ?_, fun c2 => ?_⟩ <;>
               (rw [show fr (yrs d0 (-1) (k + 1) 134) (yrs d0 (-1) (k + 1) 138) = gap (yrs d0 (-1) (k + 1)) from rfl, zr_of (z := gap (yrs d0 (-1) (k + 1))) (by omega) (by omega)] at c2
                refine nx _ ?_
                first | rw [if_pos c2] | rw [if_neg c2]))
        · first
            | exact ex k M' _ _ (by omega) (by rw [show n = k + (j + 1) by omega]; exact (ckw_no c (j + 1)).symm) hd ha hM
            | (refine ⟨rm, by rw [hd]; exact ok.1, by rw [hd]; omega, fun M2 hd2 hM2 => ?_⟩
               obtain ⟨d2, w2, nx⟩ := run c M2 hd2 hM2
               rw [w2, d2, zr_rg wk]
               refine ⟨by omega, by omega, q0.1, q0.2, q1.1, q1.2, fun c2 => ?_, fun c2 => ?_⟩ <;>
               (rw [show fr (yrs d0 (-1) (k + 1) 134) (yrs d0 (-1) (k + 1) 138) = gap (yrs d0 (-1) (k + 1)) from rfl, zr_of (z := gap (yrs d0 (-1) (k + 1))) (by omega) (by omega)] at c2
                refine nx _ ?_
                first | rw [if_pos c2] | rw [if_neg c2]))
    simp only [bk_X11_check_0, k_X11_check_0, bk_X11_check_22, k_X11_check_22, bk_X11_check_56, k_X11_check_56, bk_X11_check_59, k_X11_check_59, bk_X11_check_66, k_X11_check_66, ↓e_rk1, ↓e_rk0, ↓e_sk0, ↓e_sks, ↓e_ldi0, ↓e_ldis, ↓e_ldl0, ↓e_ldls, ↓e_lda0, ↓e_ldas, ↓e_ok0, ↓e_okss, ↓e_ok1i, ↓e_ok1r, ↓e_ok1n, ↓e_sti, ↓e_sta, ↓e_1, ↓e_2, ↓e_l1, ↓e_l2, ↓e_li, ↓e_sw0, ↓e_sws, ↓e_ceq, ↓e_cne, ↓e_clt, ↓e_cge, ↓e_cgt, ↓e_cle, ↓e_nil, ↓e_cons, ↓e_iconst, ↓e_bipush, ↓e_sipush, ↓e_ldc, ↓e_ldcw, ↓e_ldc2, ↓e_lconst, ↓e_iloadn, ↓e_iload, ↓e_lloadn, ↓e_lload, ↓e_aloadn, ↓e_aload, ↓e_istoren, ↓e_istore, ↓e_astoren, ↓e_astore, ↓e_add, ↓e_iinc, ↓e_iadd, ↓e_isub, ↓e_imul, ↓e_iand, ↓e_ior, ↓e_ixor, ↓e_ishl, ↓e_iushr, ↓e_idiv, ↓e_irem, ↓e_ineg, ↓e_i2l, ↓e_i2b, ↓e_i2s, ↓e_l2i, ↓e_land, ↓e_lor, ↓e_lshl, ↓e_lshr, ↓e_lushr, ↓e_lcmp, ↓e_dupi, ↓e_dupr, ↓e_popi, ↓e_dup2, ↓e_goto, ↓e_if, ↓e_icmp, ↓e_tsw, ↓e_lsw, ↓e_getf, ↓e_putf, ↓e_gets, ↓e_iald, ↓e_cald, ↓e_iast, ↓e_aald, ↓e_aast, ↓e_len, ↓e_copy, ↓e_abs, ↓e_max, ↓e_min, ↓e_iret, ↓e_aret, ↓e_vret, ↓e_is0, ↓e_is1, ↓e_is2, ↓e_is3, ↓e_is4, ↓e_iv1, ↓e_iv2, ↓e_iv3, ↓e_iv4, ↓e_iv5, ↓e_iv6, ↓rt_X11_check, ↓reduceIte, Nat.reduceAdd, Nat.reduceEqDiff, ↓zcl0, ↓zclv, List.map_nil, List.sum_nil, List.map_cons, List.sum_cons, zcat, true_and, and_true, Nat.reduceLeDiff, Nat.reduceAdd, eq_self, forall_const, e_ok0, e_okss, e_ok1i, e_ok1r, e_ok1n, zl_0, zl_1, zl_5, zl_188, Int.reduceToNat, Int.reduceAdd, Int.reduceMul, Int.reduceSub, Int.reduceNeg, Int.reduceLT, Int.reduceLE, Int.reduceEq, not_false_eq_true, not_true_eq_false, false_implies, true_implies, implies_true, Int.reduceDiv, Int.reduceMod, zr8_zr, zr_zbo, z01_zbo, z01_0, z01_1, zbo_eq0, zup_eq, zup_o, zup_k, ne_eq, ↓ct_check_keepAside, ↓r_keepAside, ↓B_keepAside, ↓ct_check_yearGoes, ↓r_yearGoes, ↓B_yearGoes, ↓ct_check_heads, ↓r_heads, ↓B_heads, ↓ct_check_putBack, ↓r_putBack, ↓B_putBack, ↓v_87, ↓g_87_0, ↓l_88, ↓s_88, ↓n_88, ↓g_87_1, ↓l_89, ↓s_89, ↓n_89, ↓g_87_2, ↓l_90, ↓s_90, ↓n_90, ↓g_87_3, ↓p_87_3, ↓g_87_4, ↓l_91, ↓s_91, ↓n_91, ↓g_87_5, ↓p_87_5, ↓g_87_6, ↓p_87_6, ↓g_87_7, ↓p_87_7, ↓g_87_8, ↓p_87_8, ↓g_87_9, ↓p_87_9, ↓g_87_10, ↓p_87_10, ↓g_87_11, ↓l_92, ↓s_92, ↓n_92, ↓g_87_12, ↓l_93, ↓s_93, ↓n_93, ↓g_87_13, ↓p_87_13, ↓g_87_14, ↓l_94, ↓s_94, ↓n_94, ↓g_87_15, ↓p_87_15, ↓g_87_16, ↓l_95, ↓s_95, ↓n_95, ↓g_87_17, ↓l_96, ↓s_96, ↓n_96, ↓g_87_18, ↓l_97, ↓s_97, ↓n_97, ↓g_87_19, ↓p_87_19, ↓g_87_20, ↓p_87_20, ↓g_87_21, ↓l_98, ↓s_98, ↓n_98, ↓g_87_22, ↓l_99, ↓s_99, ↓n_99, ↓g_87_23, ↓l_100, ↓s_100, ↓n_100, ↓g_87_24, ↓l_101, ↓s_101, ↓n_101, hn]
    intro M1 hk1 hM1
    refine lp n 0 M1 (by omega) ?_ (fun i hi => ?_) (fun x q q0 _ _ => by rw [hM1 x q0, zup_ne _ q])
    · rw [hM1 88 (by decide), zup_up, hd0]; rfl
    · rw [hk1 i hi, zup_up, hd0]
def smo (d : Nat → Int) (f b : Int) : Nat → Int
  | 0 => 0
  | k + 1 => smo d f b k + d (f + b * k).toNat
def B_sumOf (f : Int) (n : Int) (b : Int) (M : Nat → Nat → Int) (post : Option ZV → (Nat → Nat → Int) → Prop) : Prop := 0 ≤ f ∧ 0 ≤ n ∧ n ≤ 64 ∧ 1 ≤ b ∧ b ≤ 3 ∧ f + 3 * n ≤ 358 ∧ post (some (.inl (smo (M 88) f b n.toNat))) M
def C_sumOf : ZC := fun as h post => match as with
  | [.inr (.inr (.inl 87)), .inl f, .inl n, .inl b] => h.1 = zG ∧ B_sumOf f n b h.2 (fun v M => post v (zG, M))
  | _ => False
theorem r_sumOf {f : Int} {n : Int} {b : Int} {M : Nat → Nat → Int} {post : Option ZV → ZH → Prop} : C_sumOf [.inr (.inr (.inl 87)), .inl f, .inl n, .inl b] (zG, M) post = B_sumOf f n b M (fun v M => post v (zG, M)) := by show (zG = zG ∧ _) = _; simp
def ct_sumOf : Nat → ZC := fun n => fun _ _ _ => False
theorem c_sumOf {E : ZE} {d : Nat} (hd : 1 ≤ d) : zMet E d mX11_sumOf C_sumOf := by
  refine zmet_of (o := 11) (ini := false) (CT := ct_sumOf) gd_X11_sumOf rfl (fun h => by cases h) (by omega) ?_ ?_
  · intro n as h post hh
    unfold ct_sumOf at hh
    exact hh.elim
  intro as h post hC
  match as, hC with
  | [.inr (.inr (.inl 87)), .inl f, .inl n, .inl b], hC =>
    refine ⟨Nat.le_of_ble_eq_true rfl, fun X hX => bs_X11_sumOf_0 hX ?_⟩
    obtain ⟨G, M⟩ := h
    obtain ⟨hG, hC⟩ := hC
    dsimp only at hG
    subst hG
    simp only [B_sumOf] at hC
    show bk_X11_sumOf_0 E ct_sumOf X _ [some (.inr (.inr (.inl 87))), some (.inl f), some (.inl n), some (.inl b), none, none] [] (zG, M) (0, 0)
    obtain ⟨h1, h2, h3, h4, h5, h6, hC⟩ := hC
    have zn : zr n = n := zr_of (by omega) (by omega)
    have lp : ∀ (j k : Nat), j + k = n.toNat → X 6 [some (.inr (.inr (.inl 87))), some (.inl f), some (.inl n), some (.inl b), some (.inl (smo (M 88) f b k)), some (.inl ((k : Int)))] [] (zG, M) (0, 0) := by
      intro j
      induction j with
      | zero =>
        intro k hk
        refine bs_X11_sumOf_6 hX ?_
        have zk : zr (k : Int) = k := zr_of (by omega) (by omega)
        have lk : ((k : Int) < n) = False := eq_false (by omega)
        simp only [bk_X11_sumOf_0, k_X11_sumOf_0, bk_X11_sumOf_6, k_X11_sumOf_6, bk_X11_sumOf_34, k_X11_sumOf_34, ↓e_rk1, ↓e_rk0, ↓e_sk0, ↓e_sks, ↓e_ldi0, ↓e_ldis, ↓e_ldl0, ↓e_ldls, ↓e_lda0, ↓e_ldas, ↓e_ok0, ↓e_okss, ↓e_ok1i, ↓e_ok1r, ↓e_ok1n, ↓e_sti, ↓e_sta, ↓e_1, ↓e_2, ↓e_l1, ↓e_l2, ↓e_li, ↓e_sw0, ↓e_sws, ↓e_ceq, ↓e_cne, ↓e_clt, ↓e_cge, ↓e_cgt, ↓e_cle, ↓e_nil, ↓e_cons, ↓e_iconst, ↓e_bipush, ↓e_sipush, ↓e_ldc, ↓e_ldcw, ↓e_ldc2, ↓e_lconst, ↓e_iloadn, ↓e_iload, ↓e_lloadn, ↓e_lload, ↓e_aloadn, ↓e_aload, ↓e_istoren, ↓e_istore, ↓e_astoren, ↓e_astore, ↓e_add, ↓e_iinc, ↓e_iadd, ↓e_isub, ↓e_imul, ↓e_iand, ↓e_ior, ↓e_ixor, ↓e_ishl, ↓e_iushr, ↓e_idiv, ↓e_irem, ↓e_ineg, ↓e_i2l, ↓e_i2b, ↓e_i2s, ↓e_l2i, ↓e_land, ↓e_lor, ↓e_lshl, ↓e_lshr, ↓e_lushr, ↓e_lcmp, ↓e_dupi, ↓e_dupr, ↓e_popi, ↓e_dup2, ↓e_goto, ↓e_if, ↓e_icmp, ↓e_tsw, ↓e_lsw, ↓e_getf, ↓e_putf, ↓e_gets, ↓e_iald, ↓e_cald, ↓e_iast, ↓e_aald, ↓e_aast, ↓e_len, ↓e_copy, ↓e_abs, ↓e_max, ↓e_min, ↓e_iret, ↓e_aret, ↓e_vret, ↓e_is0, ↓e_is1, ↓e_is2, ↓e_is3, ↓e_is4, ↓e_iv1, ↓e_iv2, ↓e_iv3, ↓e_iv4, ↓e_iv5, ↓e_iv6, ↓rt_X11_sumOf, ↓reduceIte, Nat.reduceAdd, Nat.reduceEqDiff, ↓zcl0, ↓zclv, List.map_nil, List.sum_nil, List.map_cons, List.sum_cons, zcat, true_and, and_true, Nat.reduceLeDiff, Nat.reduceAdd, eq_self, forall_const, e_ok0, e_okss, e_ok1i, e_ok1r, e_ok1n, zl_0, Int.reduceToNat, Int.reduceAdd, Int.reduceMul, Int.reduceSub, Int.reduceNeg, Int.reduceLT, Int.reduceLE, Int.reduceEq, not_false_eq_true, not_true_eq_false, false_implies, true_implies, implies_true, Int.reduceDiv, Int.reduceMod, zr8_zr, zr_zbo, z01_zbo, z01_0, z01_1, zbo_eq0, zup_eq, zup_o, zup_k, ne_eq, ↓v_87, ↓g_87_0, ↓l_88, ↓s_88, ↓n_88, ↓g_87_1, ↓l_89, ↓s_89, ↓n_89, ↓g_87_2, ↓l_90, ↓s_90, ↓n_90, ↓g_87_3, ↓p_87_3, ↓g_87_4, ↓l_91, ↓s_91, ↓n_91, ↓g_87_5, ↓p_87_5, ↓g_87_6, ↓p_87_6, ↓g_87_7, ↓p_87_7, ↓g_87_8, ↓p_87_8, ↓g_87_9, ↓p_87_9, ↓g_87_10, ↓p_87_10, ↓g_87_11, ↓l_92, ↓s_92, ↓n_92, ↓g_87_12, ↓l_93, ↓s_93, ↓n_93, ↓g_87_13, ↓p_87_13, ↓g_87_14, ↓l_94, ↓s_94, ↓n_94, ↓g_87_15, ↓p_87_15, ↓g_87_16, ↓l_95, ↓s_95, ↓n_95, ↓g_87_17, ↓l_96, ↓s_96, ↓n_96, ↓g_87_18, ↓l_97, ↓s_97, ↓n_97, ↓g_87_19, ↓p_87_19, ↓g_87_20, ↓p_87_20, ↓g_87_21, ↓l_98, ↓s_98, ↓n_98, ↓g_87_22, ↓l_99, ↓s_99, ↓n_99, ↓g_87_23, ↓l_100, ↓s_100, ↓n_100, ↓g_87_24, ↓l_101, ↓s_101, ↓n_101, zn, zk, lk]
        rw [show k = n.toNat by omega]
        exact hC
      | succ j ih =>
        intro k hk
        refine bs_X11_sumOf_6 hX ?_
        have zk : zr (k : Int) = k := zr_of (by omega) (by omega)
        have lk : ((k : Int) < n) = True := eq_true (by omega)
        have bk : 0 ≤ b * (k : Int) ∧ b * (k : Int) ≤ 3 * k := by
          have : b = 1 ∨ b = 2 ∨ b = 3 := by omega
          rcases this with q | q | q <;> subst q <;> omega
        have zi : zr (f + b * (k : Int)) = f + b * k := zr_of (by omega) (by omega)
        simp only [bk_X11_sumOf_0, k_X11_sumOf_0, bk_X11_sumOf_6, k_X11_sumOf_6, bk_X11_sumOf_34, k_X11_sumOf_34, ↓e_rk1, ↓e_rk0, ↓e_sk0, ↓e_sks, ↓e_ldi0, ↓e_ldis, ↓e_ldl0, ↓e_ldls, ↓e_lda0, ↓e_ldas, ↓e_ok0, ↓e_okss, ↓e_ok1i, ↓e_ok1r, ↓e_ok1n, ↓e_sti, ↓e_sta, ↓e_1, ↓e_2, ↓e_l1, ↓e_l2, ↓e_li, ↓e_sw0, ↓e_sws, ↓e_ceq, ↓e_cne, ↓e_clt, ↓e_cge, ↓e_cgt, ↓e_cle, ↓e_nil, ↓e_cons, ↓e_iconst, ↓e_bipush, ↓e_sipush, ↓e_ldc, ↓e_ldcw, ↓e_ldc2, ↓e_lconst, ↓e_iloadn, ↓e_iload, ↓e_lloadn, ↓e_lload, ↓e_aloadn, ↓e_aload, ↓e_istoren, ↓e_istore, ↓e_astoren, ↓e_astore, ↓e_add, ↓e_iinc, ↓e_iadd, ↓e_isub, ↓e_imul, ↓e_iand, ↓e_ior, ↓e_ixor, ↓e_ishl, ↓e_iushr, ↓e_idiv, ↓e_irem, ↓e_ineg, ↓e_i2l, ↓e_i2b, ↓e_i2s, ↓e_l2i, ↓e_land, ↓e_lor, ↓e_lshl, ↓e_lshr, ↓e_lushr, ↓e_lcmp, ↓e_dupi, ↓e_dupr, ↓e_popi, ↓e_dup2, ↓e_goto, ↓e_if, ↓e_icmp, ↓e_tsw, ↓e_lsw, ↓e_getf, ↓e_putf, ↓e_gets, ↓e_iald, ↓e_cald, ↓e_iast, ↓e_aald, ↓e_aast, ↓e_len, ↓e_copy, ↓e_abs, ↓e_max, ↓e_min, ↓e_iret, ↓e_aret, ↓e_vret, ↓e_is0, ↓e_is1, ↓e_is2, ↓e_is3, ↓e_is4, ↓e_iv1, ↓e_iv2, ↓e_iv3, ↓e_iv4, ↓e_iv5, ↓e_iv6, ↓rt_X11_sumOf, ↓reduceIte, Nat.reduceAdd, Nat.reduceEqDiff, ↓zcl0, ↓zclv, List.map_nil, List.sum_nil, List.map_cons, List.sum_cons, zcat, true_and, and_true, Nat.reduceLeDiff, Nat.reduceAdd, eq_self, forall_const, e_ok0, e_okss, e_ok1i, e_ok1r, e_ok1n, zl_0, Int.reduceToNat, Int.reduceAdd, Int.reduceMul, Int.reduceSub, Int.reduceNeg, Int.reduceLT, Int.reduceLE, Int.reduceEq, not_false_eq_true, not_true_eq_false, false_implies, true_implies, implies_true, Int.reduceDiv, Int.reduceMod, zr8_zr, zr_zbo, z01_zbo, z01_0, z01_1, zbo_eq0, zup_eq, zup_o, zup_k, ne_eq, ↓v_87, ↓g_87_0, ↓l_88, ↓s_88, ↓n_88, ↓g_87_1, ↓l_89, ↓s_89, ↓n_89, ↓g_87_2, ↓l_90, ↓s_90, ↓n_90, ↓g_87_3, ↓p_87_3, ↓g_87_4, ↓l_91, ↓s_91, ↓n_91, ↓g_87_5, ↓p_87_5, ↓g_87_6, ↓p_87_6, ↓g_87_7, ↓p_87_7, ↓g_87_8, ↓p_87_8, ↓g_87_9, ↓p_87_9, ↓g_87_10, ↓p_87_10, ↓g_87_11, ↓l_92, ↓s_92, ↓n_92, ↓g_87_12, ↓l_93, ↓s_93, ↓n_93, ↓g_87_13, ↓p_87_13, ↓g_87_14, ↓l_94, ↓s_94, ↓n_94, ↓g_87_15, ↓p_87_15, ↓g_87_16, ↓l_95, ↓s_95, ↓n_95, ↓g_87_17, ↓l_96, ↓s_96, ↓n_96, ↓g_87_18, ↓l_97, ↓s_97, ↓n_97, ↓g_87_19, ↓p_87_19, ↓g_87_20, ↓p_87_20, ↓g_87_21, ↓l_98, ↓s_98, ↓n_98, ↓g_87_22, ↓l_99, ↓s_99, ↓n_99, ↓g_87_23, ↓l_100, ↓s_100, ↓n_100, ↓g_87_24, ↓l_101, ↓s_101, ↓n_101, zn, zk, lk, zi]
        exact ⟨by omega, by omega, ih (k + 1) (by omega)⟩
    simp only [bk_X11_sumOf_0, k_X11_sumOf_0, bk_X11_sumOf_6, k_X11_sumOf_6, bk_X11_sumOf_34, k_X11_sumOf_34, ↓e_rk1, ↓e_rk0, ↓e_sk0, ↓e_sks, ↓e_ldi0, ↓e_ldis, ↓e_ldl0, ↓e_ldls, ↓e_lda0, ↓e_ldas, ↓e_ok0, ↓e_okss, ↓e_ok1i, ↓e_ok1r, ↓e_ok1n, ↓e_sti, ↓e_sta, ↓e_1, ↓e_2, ↓e_l1, ↓e_l2, ↓e_li, ↓e_sw0, ↓e_sws, ↓e_ceq, ↓e_cne, ↓e_clt, ↓e_cge, ↓e_cgt, ↓e_cle, ↓e_nil, ↓e_cons, ↓e_iconst, ↓e_bipush, ↓e_sipush, ↓e_ldc, ↓e_ldcw, ↓e_ldc2, ↓e_lconst, ↓e_iloadn, ↓e_iload, ↓e_lloadn, ↓e_lload, ↓e_aloadn, ↓e_aload, ↓e_istoren, ↓e_istore, ↓e_astoren, ↓e_astore, ↓e_add, ↓e_iinc, ↓e_iadd, ↓e_isub, ↓e_imul, ↓e_iand, ↓e_ior, ↓e_ixor, ↓e_ishl, ↓e_iushr, ↓e_idiv, ↓e_irem, ↓e_ineg, ↓e_i2l, ↓e_i2b, ↓e_i2s, ↓e_l2i, ↓e_land, ↓e_lor, ↓e_lshl, ↓e_lshr, ↓e_lushr, ↓e_lcmp, ↓e_dupi, ↓e_dupr, ↓e_popi, ↓e_dup2, ↓e_goto, ↓e_if, ↓e_icmp, ↓e_tsw, ↓e_lsw, ↓e_getf, ↓e_putf, ↓e_gets, ↓e_iald, ↓e_cald, ↓e_iast, ↓e_aald, ↓e_aast, ↓e_len, ↓e_copy, ↓e_abs, ↓e_max, ↓e_min, ↓e_iret, ↓e_aret, ↓e_vret, ↓e_is0, ↓e_is1, ↓e_is2, ↓e_is3, ↓e_is4, ↓e_iv1, ↓e_iv2, ↓e_iv3, ↓e_iv4, ↓e_iv5, ↓e_iv6, ↓rt_X11_sumOf, ↓reduceIte, Nat.reduceAdd, Nat.reduceEqDiff, ↓zcl0, ↓zclv, List.map_nil, List.sum_nil, List.map_cons, List.sum_cons, zcat, true_and, and_true, Nat.reduceLeDiff, Nat.reduceAdd, eq_self, forall_const, e_ok0, e_okss, e_ok1i, e_ok1r, e_ok1n, zl_0, Int.reduceToNat, Int.reduceAdd, Int.reduceMul, Int.reduceSub, Int.reduceNeg, Int.reduceLT, Int.reduceLE, Int.reduceEq, not_false_eq_true, not_true_eq_false, false_implies, true_implies, implies_true, Int.reduceDiv, Int.reduceMod, zr8_zr, zr_zbo, z01_zbo, z01_0, z01_1, zbo_eq0, zup_eq, zup_o, zup_k, ne_eq, ↓v_87, ↓g_87_0, ↓l_88, ↓s_88, ↓n_88, ↓g_87_1, ↓l_89, ↓s_89, ↓n_89, ↓g_87_2, ↓l_90, ↓s_90, ↓n_90, ↓g_87_3, ↓p_87_3, ↓g_87_4, ↓l_91, ↓s_91, ↓n_91, ↓g_87_5, ↓p_87_5, ↓g_87_6, ↓p_87_6, ↓g_87_7, ↓p_87_7, ↓g_87_8, ↓p_87_8, ↓g_87_9, ↓p_87_9, ↓g_87_10, ↓p_87_10, ↓g_87_11, ↓l_92, ↓s_92, ↓n_92, ↓g_87_12, ↓l_93, ↓s_93, ↓n_93, ↓g_87_13, ↓p_87_13, ↓g_87_14, ↓l_94, ↓s_94, ↓n_94, ↓g_87_15, ↓p_87_15, ↓g_87_16, ↓l_95, ↓s_95, ↓n_95, ↓g_87_17, ↓l_96, ↓s_96, ↓n_96, ↓g_87_18, ↓l_97, ↓s_97, ↓n_97, ↓g_87_19, ↓p_87_19, ↓g_87_20, ↓p_87_20, ↓g_87_21, ↓l_98, ↓s_98, ↓n_98, ↓g_87_22, ↓l_99, ↓s_99, ↓n_99, ↓g_87_23, ↓l_100, ↓s_100, ↓n_100, ↓g_87_24, ↓l_101, ↓s_101, ↓n_101]
    exact lp n.toNat 0 (by omega)
def R_count (S : ZMm) (w : Int) : Int × ZMm := if w = 0 then (S 88 0, S) else if w = 1 then (S 88 1, S) else if w = 2 then (S 88 2, S) else if w = 3 then (gap (S 88), S) else if w = 4 then (smo (S 88) 70 1 64, S) else if w = 5 then (smo (S 88) 6 1 64, S) else if w = 6 then (smo (S 88) 164 3 (S 88 0).toNat, S) else if w = 7 then (S 88 4, S) else if w = 8 then (S 88 5, S) else if w = 9 then (S 87 19, S) else if w = 10 then (S 88 3, S) else no S 1
def B_count (w : Int) (M : Nat → Nat → Int) (post : Option ZV → (Nat → Nat → Int) → Prop) : Prop := rg w ∧ pub M (R_count (st M) w) post
def C_count : ZC := fun as h post => match as with
  | [.inr (.inr (.inl 87)), .inl w] => h.1 = zG ∧ B_count w h.2 (fun v M => post v (zG, M))
  | _ => False
theorem r_count {w : Int} {M : Nat → Nat → Int} {post : Option ZV → ZH → Prop} : C_count [.inr (.inr (.inl 87)), .inl w] (zG, M) post = B_count w M (fun v M => post v (zG, M)) := by show (zG = zG ∧ _) = _; simp
def ct_count : Nat → ZC := fun n => if n = 153 then C_heads else if n = 220 then C_sumOf else if n = 119 then C_finds else fun _ _ _ => False
theorem ct_count_heads {as : List ZV} {h : ZH} {post : Option ZV → ZH → Prop} : ct_count 153 as h post = C_heads as h post := rfl
theorem ct_count_sumOf {as : List ZV} {h : ZH} {post : Option ZV → ZH → Prop} : ct_count 220 as h post = C_sumOf as h post := rfl
theorem ct_count_finds {as : List ZV} {h : ZH} {post : Option ZV → ZH → Prop} : ct_count 119 as h post = C_finds as h post := rfl
theorem c_count {E : ZE} {d : Nat} (hd : 4 ≤ d) : zMet E d mX11_count C_count := by
  refine zmet_of (o := 11) (ini := false) (CT := ct_count) gd_X11_count rfl (fun h => by cases h) (by omega) ?_ ?_
  · intro n as h post hh
    unfold ct_count at hh
    by_cases c : n = 153
    · subst c; exact ⟨gd_X11_heads, 3, by omega, c_heads (by omega)⟩
    rw [if_neg c] at hh
    by_cases c : n = 220
    · subst c; exact ⟨gd_X11_sumOf, 1, by omega, c_sumOf (by omega)⟩
    rw [if_neg c] at hh
    by_cases c : n = 119
    · subst c; exact ⟨gd_X11_finds, 1, by omega, c_finds (by omega)⟩
    rw [if_neg c] at hh
    exact hh.elim
  intro as h post hC
  match as, hC with
  | [.inr (.inr (.inl 87)), .inl w], hC =>
    refine ⟨Nat.le_of_ble_eq_true rfl, fun X hX => bs_X11_count_0 hX ?_⟩
    obtain ⟨G, M⟩ := h
    obtain ⟨hG, hC⟩ := hC
    dsimp only at hG
    subst hG
    simp only [B_count] at hC
    show bk_X11_count_0 E ct_count X _ [some (.inr (.inr (.inl 87))), some (.inl w)] [] (zG, M) (0, 0)
    obtain ⟨h1, hC⟩ := hC
    have vd : Vd (M 88) := hC.1.1
    have v0 := vd.1
    have q0 := (Vd_hi vd (e := 0) (by omega) (by omega)).1
    have q1 := (Vd_hi vd (e := 1) (by omega) (by omega)).1
    simp only [bk_X11_count_0, k_X11_count_0, bk_X11_count_60, k_X11_count_60, bk_X11_count_67, k_X11_count_67, bk_X11_count_72, k_X11_count_72, bk_X11_count_82, k_X11_count_82, bk_X11_count_92, k_X11_count_92, bk_X11_count_107, k_X11_count_107, bk_X11_count_114, k_X11_count_114, bk_X11_count_121, k_X11_count_121, bk_X11_count_126, k_X11_count_126, bk_X11_count_133, k_X11_count_133, ↓e_rk1, ↓e_rk0, ↓e_sk0, ↓e_sks, ↓e_ldi0, ↓e_ldis, ↓e_ldl0, ↓e_ldls, ↓e_lda0, ↓e_ldas, ↓e_ok0, ↓e_okss, ↓e_ok1i, ↓e_ok1r, ↓e_ok1n, ↓e_sti, ↓e_sta, ↓e_1, ↓e_2, ↓e_l1, ↓e_l2, ↓e_li, ↓e_sw0, ↓e_sws, ↓e_ceq, ↓e_cne, ↓e_clt, ↓e_cge, ↓e_cgt, ↓e_cle, ↓e_nil, ↓e_cons, ↓e_iconst, ↓e_bipush, ↓e_sipush, ↓e_ldc, ↓e_ldcw, ↓e_ldc2, ↓e_lconst, ↓e_iloadn, ↓e_iload, ↓e_lloadn, ↓e_lload, ↓e_aloadn, ↓e_aload, ↓e_istoren, ↓e_istore, ↓e_astoren, ↓e_astore, ↓e_add, ↓e_iinc, ↓e_iadd, ↓e_isub, ↓e_imul, ↓e_iand, ↓e_ior, ↓e_ixor, ↓e_ishl, ↓e_iushr, ↓e_idiv, ↓e_irem, ↓e_ineg, ↓e_i2l, ↓e_i2b, ↓e_i2s, ↓e_l2i, ↓e_land, ↓e_lor, ↓e_lshl, ↓e_lshr, ↓e_lushr, ↓e_lcmp, ↓e_dupi, ↓e_dupr, ↓e_popi, ↓e_dup2, ↓e_goto, ↓e_if, ↓e_icmp, ↓e_tsw, ↓e_lsw, ↓e_getf, ↓e_putf, ↓e_gets, ↓e_iald, ↓e_cald, ↓e_iast, ↓e_aald, ↓e_aast, ↓e_len, ↓e_copy, ↓e_abs, ↓e_max, ↓e_min, ↓e_iret, ↓e_aret, ↓e_vret, ↓e_is0, ↓e_is1, ↓e_is2, ↓e_is3, ↓e_is4, ↓e_iv1, ↓e_iv2, ↓e_iv3, ↓e_iv4, ↓e_iv5, ↓e_iv6, ↓rt_X11_count, ↓reduceIte, Nat.reduceAdd, Nat.reduceEqDiff, ↓zcl0, ↓zclv, List.map_nil, List.sum_nil, List.map_cons, List.sum_cons, zcat, true_and, and_true, Nat.reduceLeDiff, Nat.reduceAdd, eq_self, forall_const, e_ok0, e_okss, e_ok1i, e_ok1r, e_ok1n, zl_0, zl_1, zl_3, zl_4, zl_5, zl_6, zl_64, zl_70, zl_164, Int.reduceToNat, Int.reduceAdd, Int.reduceMul, Int.reduceSub, Int.reduceNeg, Int.reduceLT, Int.reduceLE, Int.reduceEq, not_false_eq_true, not_true_eq_false, false_implies, true_implies, implies_true, Int.reduceDiv, Int.reduceMod, zr8_zr, zr_zbo, z01_zbo, z01_0, z01_1, zbo_eq0, zup_eq, zup_o, zup_k, ne_eq, ↓ct_count_heads, ↓r_heads, ↓B_heads, ↓ct_count_sumOf, ↓r_sumOf, ↓B_sumOf, ↓ct_count_finds, ↓r_finds, ↓B_finds, ↓v_87, ↓g_87_0, ↓l_88, ↓s_88, ↓n_88, ↓g_87_1, ↓l_89, ↓s_89, ↓n_89, ↓g_87_2, ↓l_90, ↓s_90, ↓n_90, ↓g_87_3, ↓p_87_3, ↓g_87_4, ↓l_91, ↓s_91, ↓n_91, ↓g_87_5, ↓p_87_5, ↓g_87_6, ↓p_87_6, ↓g_87_7, ↓p_87_7, ↓g_87_8, ↓p_87_8, ↓g_87_9, ↓p_87_9, ↓g_87_10, ↓p_87_10, ↓g_87_11, ↓l_92, ↓s_92, ↓n_92, ↓g_87_12, ↓l_93, ↓s_93, ↓n_93, ↓g_87_13, ↓p_87_13, ↓g_87_14, ↓l_94, ↓s_94, ↓n_94, ↓g_87_15, ↓p_87_15, ↓g_87_16, ↓l_95, ↓s_95, ↓n_95, ↓g_87_17, ↓l_96, ↓s_96, ↓n_96, ↓g_87_18, ↓l_97, ↓s_97, ↓n_97, ↓g_87_19, ↓p_87_19, ↓g_87_20, ↓p_87_20, ↓g_87_21, ↓l_98, ↓s_98, ↓n_98, ↓g_87_22, ↓l_99, ↓s_99, ↓n_99, ↓g_87_23, ↓l_100, ↓s_100, ↓n_100, ↓g_87_24, ↓l_101, ↓s_101, ↓n_101, zr_rg, h1]
    refine ⟨fun c => ?_, fun c0 => ⟨fun c => ?_, fun c1 => ⟨fun c => ?_, fun c2 => ⟨fun c => ?_, fun c3 => ⟨fun c => ?_, fun c4 => ⟨fun c => ?_, fun c5 => ⟨fun c => ?_, fun c6 => ⟨fun c => ?_, fun c7 => ⟨fun c => ?_, fun c8 => ⟨fun c => ?_, fun c9 => ⟨fun c => ?_, fun c10 => ?_⟩⟩⟩⟩⟩⟩⟩⟩⟩⟩⟩
    · refine bs_X11_count_60 hX ?_
      have zw : zr w = w := zr_rg h1
      simp only [bk_X11_count_0, k_X11_count_0, bk_X11_count_60, k_X11_count_60, bk_X11_count_67, k_X11_count_67, bk_X11_count_72, k_X11_count_72, bk_X11_count_82, k_X11_count_82, bk_X11_count_92, k_X11_count_92, bk_X11_count_107, k_X11_count_107, bk_X11_count_114, k_X11_count_114, bk_X11_count_121, k_X11_count_121, bk_X11_count_126, k_X11_count_126, bk_X11_count_133, k_X11_count_133, ↓e_rk1, ↓e_rk0, ↓e_sk0, ↓e_sks, ↓e_ldi0, ↓e_ldis, ↓e_ldl0, ↓e_ldls, ↓e_lda0, ↓e_ldas, ↓e_ok0, ↓e_okss, ↓e_ok1i, ↓e_ok1r, ↓e_ok1n, ↓e_sti, ↓e_sta, ↓e_1, ↓e_2, ↓e_l1, ↓e_l2, ↓e_li, ↓e_sw0, ↓e_sws, ↓e_ceq, ↓e_cne, ↓e_clt, ↓e_cge, ↓e_cgt, ↓e_cle, ↓e_nil, ↓e_cons, ↓e_iconst, ↓e_bipush, ↓e_sipush, ↓e_ldc, ↓e_ldcw, ↓e_ldc2, ↓e_lconst, ↓e_iloadn, ↓e_iload, ↓e_lloadn, ↓e_lload, ↓e_aloadn, ↓e_aload, ↓e_istoren, ↓e_istore, ↓e_astoren, ↓e_astore, ↓e_add, ↓e_iinc, ↓e_iadd, ↓e_isub, ↓e_imul, ↓e_iand, ↓e_ior, ↓e_ixor, ↓e_ishl, ↓e_iushr, ↓e_idiv, ↓e_irem, ↓e_ineg, ↓e_i2l, ↓e_i2b, ↓e_i2s, ↓e_l2i, ↓e_land, ↓e_lor, ↓e_lshl, ↓e_lshr, ↓e_lushr, ↓e_lcmp, ↓e_dupi, ↓e_dupr, ↓e_popi, ↓e_dup2, ↓e_goto, ↓e_if, ↓e_icmp, ↓e_tsw, ↓e_lsw, ↓e_getf, ↓e_putf, ↓e_gets, ↓e_iald, ↓e_cald, ↓e_iast, ↓e_aald, ↓e_aast, ↓e_len, ↓e_copy, ↓e_abs, ↓e_max, ↓e_min, ↓e_iret, ↓e_aret, ↓e_vret, ↓e_is0, ↓e_is1, ↓e_is2, ↓e_is3, ↓e_is4, ↓e_iv1, ↓e_iv2, ↓e_iv3, ↓e_iv4, ↓e_iv5, ↓e_iv6, ↓rt_X11_count, ↓reduceIte, Nat.reduceAdd, Nat.reduceEqDiff, ↓zcl0, ↓zclv, List.map_nil, List.sum_nil, List.map_cons, List.sum_cons, zcat, true_and, and_true, Nat.reduceLeDiff, Nat.reduceAdd, eq_self, forall_const, e_ok0, e_okss, e_ok1i, e_ok1r, e_ok1n, zl_0, zl_1, zl_3, zl_4, zl_5, zl_6, zl_64, zl_70, zl_164, Int.reduceToNat, Int.reduceAdd, Int.reduceMul, Int.reduceSub, Int.reduceNeg, Int.reduceLT, Int.reduceLE, Int.reduceEq, not_false_eq_true, not_true_eq_false, false_implies, true_implies, implies_true, Int.reduceDiv, Int.reduceMod, zr8_zr, zr_zbo, z01_zbo, z01_0, z01_1, zbo_eq0, zup_eq, zup_o, zup_k, ne_eq, ↓ct_count_heads, ↓r_heads, ↓B_heads, ↓ct_count_sumOf, ↓r_sumOf, ↓B_sumOf, ↓ct_count_finds, ↓r_finds, ↓B_finds, ↓v_87, ↓g_87_0, ↓l_88, ↓s_88, ↓n_88, ↓g_87_1, ↓l_89, ↓s_89, ↓n_89, ↓g_87_2, ↓l_90, ↓s_90, ↓n_90, ↓g_87_3, ↓p_87_3, ↓g_87_4, ↓l_91, ↓s_91, ↓n_91, ↓g_87_5, ↓p_87_5, ↓g_87_6, ↓p_87_6, ↓g_87_7, ↓p_87_7, ↓g_87_8, ↓p_87_8, ↓g_87_9, ↓p_87_9, ↓g_87_10, ↓p_87_10, ↓g_87_11, ↓l_92, ↓s_92, ↓n_92, ↓g_87_12, ↓l_93, ↓s_93, ↓n_93, ↓g_87_13, ↓p_87_13, ↓g_87_14, ↓l_94, ↓s_94, ↓n_94, ↓g_87_15, ↓p_87_15, ↓g_87_16, ↓l_95, ↓s_95, ↓n_95, ↓g_87_17, ↓l_96, ↓s_96, ↓n_96, ↓g_87_18, ↓l_97, ↓s_97, ↓n_97, ↓g_87_19, ↓p_87_19, ↓g_87_20, ↓p_87_20, ↓g_87_21, ↓l_98, ↓s_98, ↓n_98, ↓g_87_22, ↓l_99, ↓s_99, ↓n_99, ↓g_87_23, ↓l_100, ↓s_100, ↓n_100, ↓g_87_24, ↓l_101, ↓s_101, ↓n_101, zw]
      refine ⟨by omega, by omega, pub_id hC ?_⟩
      subst c; rfl
    · refine bs_X11_count_60 hX ?_
      have zw : zr w = w := zr_rg h1
      simp only [bk_X11_count_0, k_X11_count_0, bk_X11_count_60, k_X11_count_60, bk_X11_count_67, k_X11_count_67, bk_X11_count_72, k_X11_count_72, bk_X11_count_82, k_X11_count_82, bk_X11_count_92, k_X11_count_92, bk_X11_count_107, k_X11_count_107, bk_X11_count_114, k_X11_count_114, bk_X11_count_121, k_X11_count_121, bk_X11_count_126, k_X11_count_126, bk_X11_count_133, k_X11_count_133, ↓e_rk1, ↓e_rk0, ↓e_sk0, ↓e_sks, ↓e_ldi0, ↓e_ldis, ↓e_ldl0, ↓e_ldls, ↓e_lda0, ↓e_ldas, ↓e_ok0, ↓e_okss, ↓e_ok1i, ↓e_ok1r, ↓e_ok1n, ↓e_sti, ↓e_sta, ↓e_1, ↓e_2, ↓e_l1, ↓e_l2, ↓e_li, ↓e_sw0, ↓e_sws, ↓e_ceq, ↓e_cne, ↓e_clt, ↓e_cge, ↓e_cgt, ↓e_cle, ↓e_nil, ↓e_cons, ↓e_iconst, ↓e_bipush, ↓e_sipush, ↓e_ldc, ↓e_ldcw, ↓e_ldc2, ↓e_lconst, ↓e_iloadn, ↓e_iload, ↓e_lloadn, ↓e_lload, ↓e_aloadn, ↓e_aload, ↓e_istoren, ↓e_istore, ↓e_astoren, ↓e_astore, ↓e_add, ↓e_iinc, ↓e_iadd, ↓e_isub, ↓e_imul, ↓e_iand, ↓e_ior, ↓e_ixor, ↓e_ishl, ↓e_iushr, ↓e_idiv, ↓e_irem, ↓e_ineg, ↓e_i2l, ↓e_i2b, ↓e_i2s, ↓e_l2i, ↓e_land, ↓e_lor, ↓e_lshl, ↓e_lshr, ↓e_lushr, ↓e_lcmp, ↓e_dupi, ↓e_dupr, ↓e_popi, ↓e_dup2, ↓e_goto, ↓e_if, ↓e_icmp, ↓e_tsw, ↓e_lsw, ↓e_getf, ↓e_putf, ↓e_gets, ↓e_iald, ↓e_cald, ↓e_iast, ↓e_aald, ↓e_aast, ↓e_len, ↓e_copy, ↓e_abs, ↓e_max, ↓e_min, ↓e_iret, ↓e_aret, ↓e_vret, ↓e_is0, ↓e_is1, ↓e_is2, ↓e_is3, ↓e_is4, ↓e_iv1, ↓e_iv2, ↓e_iv3, ↓e_iv4, ↓e_iv5, ↓e_iv6, ↓rt_X11_count, ↓reduceIte, Nat.reduceAdd, Nat.reduceEqDiff, ↓zcl0, ↓zclv, List.map_nil, List.sum_nil, List.map_cons, List.sum_cons, zcat, true_and, and_true, Nat.reduceLeDiff, Nat.reduceAdd, eq_self, forall_const, e_ok0, e_okss, e_ok1i, e_ok1r, e_ok1n, zl_0, zl_1, zl_3, zl_4, zl_5, zl_6, zl_64, zl_70, zl_164, Int.reduceToNat, Int.reduceAdd, Int.reduceMul, Int.reduceSub, Int.reduceNeg, Int.reduceLT, Int.reduceLE, Int.reduceEq, not_false_eq_true, not_true_eq_false, false_implies, true_implies, implies_true, Int.reduceDiv, Int.reduceMod, zr8_zr, zr_zbo, z01_zbo, z01_0, z01_1, zbo_eq0, zup_eq, zup_o, zup_k, ne_eq, ↓ct_count_heads, ↓r_heads, ↓B_heads, ↓ct_count_sumOf, ↓r_sumOf, ↓B_sumOf, ↓ct_count_finds, ↓r_finds, ↓B_finds, ↓v_87, ↓g_87_0, ↓l_88, ↓s_88, ↓n_88, ↓g_87_1, ↓l_89, ↓s_89, ↓n_89, ↓g_87_2, ↓l_90, ↓s_90, ↓n_90, ↓g_87_3, ↓p_87_3, ↓g_87_4, ↓l_91, ↓s_91, ↓n_91, ↓g_87_5, ↓p_87_5, ↓g_87_6, ↓p_87_6, ↓g_87_7, ↓p_87_7, ↓g_87_8, ↓p_87_8, ↓g_87_9, ↓p_87_9, ↓g_87_10, ↓p_87_10, ↓g_87_11, ↓l_92, ↓s_92, ↓n_92, ↓g_87_12, ↓l_93, ↓s_93, ↓n_93, ↓g_87_13, ↓p_87_13, ↓g_87_14, ↓l_94, ↓s_94, ↓n_94, ↓g_87_15, ↓p_87_15, ↓g_87_16, ↓l_95, ↓s_95, ↓n_95, ↓g_87_17, ↓l_96, ↓s_96, ↓n_96, ↓g_87_18, ↓l_97, ↓s_97, ↓n_97, ↓g_87_19, ↓p_87_19, ↓g_87_20, ↓p_87_20, ↓g_87_21, ↓l_98, ↓s_98, ↓n_98, ↓g_87_22, ↓l_99, ↓s_99, ↓n_99, ↓g_87_23, ↓l_100, ↓s_100, ↓n_100, ↓g_87_24, ↓l_101, ↓s_101, ↓n_101, zw]
      refine ⟨by omega, by omega, pub_id hC ?_⟩
      subst c; rfl
    · refine bs_X11_count_60 hX ?_
      have zw : zr w = w := zr_rg h1
      simp only [bk_X11_count_0, k_X11_count_0, bk_X11_count_60, k_X11_count_60, bk_X11_count_67, k_X11_count_67, bk_X11_count_72, k_X11_count_72, bk_X11_count_82, k_X11_count_82, bk_X11_count_92, k_X11_count_92, bk_X11_count_107, k_X11_count_107, bk_X11_count_114, k_X11_count_114, bk_X11_count_121, k_X11_count_121, bk_X11_count_126, k_X11_count_126, bk_X11_count_133, k_X11_count_133, ↓e_rk1, ↓e_rk0, ↓e_sk0, ↓e_sks, ↓e_ldi0, ↓e_ldis, ↓e_ldl0, ↓e_ldls, ↓e_lda0, ↓e_ldas, ↓e_ok0, ↓e_okss, ↓e_ok1i, ↓e_ok1r, ↓e_ok1n, ↓e_sti, ↓e_sta, ↓e_1, ↓e_2, ↓e_l1, ↓e_l2, ↓e_li, ↓e_sw0, ↓e_sws, ↓e_ceq, ↓e_cne, ↓e_clt, ↓e_cge, ↓e_cgt, ↓e_cle, ↓e_nil, ↓e_cons, ↓e_iconst, ↓e_bipush, ↓e_sipush, ↓e_ldc, ↓e_ldcw, ↓e_ldc2, ↓e_lconst, ↓e_iloadn, ↓e_iload, ↓e_lloadn, ↓e_lload, ↓e_aloadn, ↓e_aload, ↓e_istoren, ↓e_istore, ↓e_astoren, ↓e_astore, ↓e_add, ↓e_iinc, ↓e_iadd, ↓e_isub, ↓e_imul, ↓e_iand, ↓e_ior, ↓e_ixor, ↓e_ishl, ↓e_iushr, ↓e_idiv, ↓e_irem, ↓e_ineg, ↓e_i2l, ↓e_i2b, ↓e_i2s, ↓e_l2i, ↓e_land, ↓e_lor, ↓e_lshl, ↓e_lshr, ↓e_lushr, ↓e_lcmp, ↓e_dupi, ↓e_dupr, ↓e_popi, ↓e_dup2, ↓e_goto, ↓e_if, ↓e_icmp, ↓e_tsw, ↓e_lsw, ↓e_getf, ↓e_putf, ↓e_gets, ↓e_iald, ↓e_cald, ↓e_iast, ↓e_aald, ↓e_aast, ↓e_len, ↓e_copy, ↓e_abs, ↓e_max, ↓e_min, ↓e_iret, ↓e_aret, ↓e_vret, ↓e_is0, ↓e_is1, ↓e_is2, ↓e_is3, ↓e_is4, ↓e_iv1, ↓e_iv2, ↓e_iv3, ↓e_iv4, ↓e_iv5, ↓e_iv6, ↓rt_X11_count, ↓reduceIte, Nat.reduceAdd, Nat.reduceEqDiff, ↓zcl0, ↓zclv, List.map_nil, List.sum_nil, List.map_cons, List.sum_cons, zcat, true_and, and_true, Nat.reduceLeDiff, Nat.reduceAdd, eq_self, forall_const, e_ok0, e_okss, e_ok1i, e_ok1r, e_ok1n, zl_0, zl_1, zl_3, zl_4, zl_5, zl_6, zl_64, zl_70, zl_164, Int.reduceToNat, Int.reduceAdd, Int.reduceMul, Int.reduceSub, Int.reduceNeg, Int.reduceLT, Int.reduceLE, Int.reduceEq, not_false_eq_true, not_true_eq_false, false_implies, true_implies, implies_true, Int.reduceDiv, Int.reduceMod, zr8_zr, zr_zbo, z01_zbo, z01_0, z01_1, zbo_eq0, zup_eq, zup_o, zup_k, ne_eq, ↓ct_count_heads, ↓r_heads, ↓B_heads, ↓ct_count_sumOf, ↓r_sumOf, ↓B_sumOf, ↓ct_count_finds, ↓r_finds, ↓B_finds, ↓v_87, ↓g_87_0, ↓l_88, ↓s_88, ↓n_88, ↓g_87_1, ↓l_89, ↓s_89, ↓n_89, ↓g_87_2, ↓l_90, ↓s_90, ↓n_90, ↓g_87_3, ↓p_87_3, ↓g_87_4, ↓l_91, ↓s_91, ↓n_91, ↓g_87_5, ↓p_87_5, ↓g_87_6, ↓p_87_6, ↓g_87_7, ↓p_87_7, ↓g_87_8, ↓p_87_8, ↓g_87_9, ↓p_87_9, ↓g_87_10, ↓p_87_10, ↓g_87_11, ↓l_92, ↓s_92, ↓n_92, ↓g_87_12, ↓l_93, ↓s_93, ↓n_93, ↓g_87_13, ↓p_87_13, ↓g_87_14, ↓l_94, ↓s_94, ↓n_94, ↓g_87_15, ↓p_87_15, ↓g_87_16, ↓l_95, ↓s_95, ↓n_95, ↓g_87_17, ↓l_96, ↓s_96, ↓n_96, ↓g_87_18, ↓l_97, ↓s_97, ↓n_97, ↓g_87_19, ↓p_87_19, ↓g_87_20, ↓p_87_20, ↓g_87_21, ↓l_98, ↓s_98, ↓n_98, ↓g_87_22, ↓l_99, ↓s_99, ↓n_99, ↓g_87_23, ↓l_100, ↓s_100, ↓n_100, ↓g_87_24, ↓l_101, ↓s_101, ↓n_101, zw]
      refine ⟨by omega, by omega, pub_id hC ?_⟩
      subst c; rfl
    · refine bs_X11_count_67 hX ?_
      simp only [bk_X11_count_0, k_X11_count_0, bk_X11_count_60, k_X11_count_60, bk_X11_count_67, k_X11_count_67, bk_X11_count_72, k_X11_count_72, bk_X11_count_82, k_X11_count_82, bk_X11_count_92, k_X11_count_92, bk_X11_count_107, k_X11_count_107, bk_X11_count_114, k_X11_count_114, bk_X11_count_121, k_X11_count_121, bk_X11_count_126, k_X11_count_126, bk_X11_count_133, k_X11_count_133, ↓e_rk1, ↓e_rk0, ↓e_sk0, ↓e_sks, ↓e_ldi0, ↓e_ldis, ↓e_ldl0, ↓e_ldls, ↓e_lda0, ↓e_ldas, ↓e_ok0, ↓e_okss, ↓e_ok1i, ↓e_ok1r, ↓e_ok1n, ↓e_sti, ↓e_sta, ↓e_1, ↓e_2, ↓e_l1, ↓e_l2, ↓e_li, ↓e_sw0, ↓e_sws, ↓e_ceq, ↓e_cne, ↓e_clt, ↓e_cge, ↓e_cgt, ↓e_cle, ↓e_nil, ↓e_cons, ↓e_iconst, ↓e_bipush, ↓e_sipush, ↓e_ldc, ↓e_ldcw, ↓e_ldc2, ↓e_lconst, ↓e_iloadn, ↓e_iload, ↓e_lloadn, ↓e_lload, ↓e_aloadn, ↓e_aload, ↓e_istoren, ↓e_istore, ↓e_astoren, ↓e_astore, ↓e_add, ↓e_iinc, ↓e_iadd, ↓e_isub, ↓e_imul, ↓e_iand, ↓e_ior, ↓e_ixor, ↓e_ishl, ↓e_iushr, ↓e_idiv, ↓e_irem, ↓e_ineg, ↓e_i2l, ↓e_i2b, ↓e_i2s, ↓e_l2i, ↓e_land, ↓e_lor, ↓e_lshl, ↓e_lshr, ↓e_lushr, ↓e_lcmp, ↓e_dupi, ↓e_dupr, ↓e_popi, ↓e_dup2, ↓e_goto, ↓e_if, ↓e_icmp, ↓e_tsw, ↓e_lsw, ↓e_getf, ↓e_putf, ↓e_gets, ↓e_iald, ↓e_cald, ↓e_iast, ↓e_aald, ↓e_aast, ↓e_len, ↓e_copy, ↓e_abs, ↓e_max, ↓e_min, ↓e_iret, ↓e_aret, ↓e_vret, ↓e_is0, ↓e_is1, ↓e_is2, ↓e_is3, ↓e_is4, ↓e_iv1, ↓e_iv2, ↓e_iv3, ↓e_iv4, ↓e_iv5, ↓e_iv6, ↓rt_X11_count, ↓reduceIte, Nat.reduceAdd, Nat.reduceEqDiff, ↓zcl0, ↓zclv, List.map_nil, List.sum_nil, List.map_cons, List.sum_cons, zcat, true_and, and_true, Nat.reduceLeDiff, Nat.reduceAdd, eq_self, forall_const, e_ok0, e_okss, e_ok1i, e_ok1r, e_ok1n, zl_0, zl_1, zl_3, zl_4, zl_5, zl_6, zl_64, zl_70, zl_164, Int.reduceToNat, Int.reduceAdd, Int.reduceMul, Int.reduceSub, Int.reduceNeg, Int.reduceLT, Int.reduceLE, Int.reduceEq, not_false_eq_true, not_true_eq_false, false_implies, true_implies, implies_true, Int.reduceDiv, Int.reduceMod, zr8_zr, zr_zbo, z01_zbo, z01_0, z01_1, zbo_eq0, zup_eq, zup_o, zup_k, ne_eq, ↓ct_count_heads, ↓r_heads, ↓B_heads, ↓ct_count_sumOf, ↓r_sumOf, ↓B_sumOf, ↓ct_count_finds, ↓r_finds, ↓B_finds, ↓v_87, ↓g_87_0, ↓l_88, ↓s_88, ↓n_88, ↓g_87_1, ↓l_89, ↓s_89, ↓n_89, ↓g_87_2, ↓l_90, ↓s_90, ↓n_90, ↓g_87_3, ↓p_87_3, ↓g_87_4, ↓l_91, ↓s_91, ↓n_91, ↓g_87_5, ↓p_87_5, ↓g_87_6, ↓p_87_6, ↓g_87_7, ↓p_87_7, ↓g_87_8, ↓p_87_8, ↓g_87_9, ↓p_87_9, ↓g_87_10, ↓p_87_10, ↓g_87_11, ↓l_92, ↓s_92, ↓n_92, ↓g_87_12, ↓l_93, ↓s_93, ↓n_93, ↓g_87_13, ↓p_87_13, ↓g_87_14, ↓l_94, ↓s_94, ↓n_94, ↓g_87_15, ↓p_87_15, ↓g_87_16, ↓l_95, ↓s_95, ↓n_95, ↓g_87_17, ↓l_96, ↓s_96, ↓n_96, ↓g_87_18, ↓l_97, ↓s_97, ↓n_97, ↓g_87_19, ↓p_87_19, ↓g_87_20, ↓p_87_20, ↓g_87_21, ↓l_98, ↓s_98, ↓n_98, ↓g_87_22, ↓l_99, ↓s_99, ↓n_99, ↓g_87_23, ↓l_100, ↓s_100, ↓n_100, ↓g_87_24, ↓l_101, ↓s_101, ↓n_101]
      refine ⟨q0.1, q0.2, q1.1, q1.2, pub_id hC ?_⟩
      subst c; rfl
    · refine bs_X11_count_72 hX ?_
      simp only [bk_X11_count_0, k_X11_count_0, bk_X11_count_60, k_X11_count_60, bk_X11_count_67, k_X11_count_67, bk_X11_count_72, k_X11_count_72, bk_X11_count_82, k_X11_count_82, bk_X11_count_92, k_X11_count_92, bk_X11_count_107, k_X11_count_107, bk_X11_count_114, k_X11_count_114, bk_X11_count_121, k_X11_count_121, bk_X11_count_126, k_X11_count_126, bk_X11_count_133, k_X11_count_133, ↓e_rk1, ↓e_rk0, ↓e_sk0, ↓e_sks, ↓e_ldi0, ↓e_ldis, ↓e_ldl0, ↓e_ldls, ↓e_lda0, ↓e_ldas, ↓e_ok0, ↓e_okss, ↓e_ok1i, ↓e_ok1r, ↓e_ok1n, ↓e_sti, ↓e_sta, ↓e_1, ↓e_2, ↓e_l1, ↓e_l2, ↓e_li, ↓e_sw0, ↓e_sws, ↓e_ceq, ↓e_cne, ↓e_clt, ↓e_cge, ↓e_cgt, ↓e_cle, ↓e_nil, ↓e_cons, ↓e_iconst, ↓e_bipush, ↓e_sipush, ↓e_ldc, ↓e_ldcw, ↓e_ldc2, ↓e_lconst, ↓e_iloadn, ↓e_iload, ↓e_lloadn, ↓e_lload, ↓e_aloadn, ↓e_aload, ↓e_istoren, ↓e_istore, ↓e_astoren, ↓e_astore, ↓e_add, ↓e_iinc, ↓e_iadd, ↓e_isub, ↓e_imul, ↓e_iand, ↓e_ior, ↓e_ixor, ↓e_ishl, ↓e_iushr, ↓e_idiv, ↓e_irem, ↓e_ineg, ↓e_i2l, ↓e_i2b, ↓e_i2s, ↓e_l2i, ↓e_land, ↓e_lor, ↓e_lshl, ↓e_lshr, ↓e_lushr, ↓e_lcmp, ↓e_dupi, ↓e_dupr, ↓e_popi, ↓e_dup2, ↓e_goto, ↓e_if, ↓e_icmp, ↓e_tsw, ↓e_lsw, ↓e_getf, ↓e_putf, ↓e_gets, ↓e_iald, ↓e_cald, ↓e_iast, ↓e_aald, ↓e_aast, ↓e_len, ↓e_copy, ↓e_abs, ↓e_max, ↓e_min, ↓e_iret, ↓e_aret, ↓e_vret, ↓e_is0, ↓e_is1, ↓e_is2, ↓e_is3, ↓e_is4, ↓e_iv1, ↓e_iv2, ↓e_iv3, ↓e_iv4, ↓e_iv5, ↓e_iv6, ↓rt_X11_count, ↓reduceIte, Nat.reduceAdd, Nat.reduceEqDiff, ↓zcl0, ↓zclv, List.map_nil, List.sum_nil, List.map_cons, List.sum_cons, zcat, true_and, and_true, Nat.reduceLeDiff, Nat.reduceAdd, eq_self, forall_const, e_ok0, e_okss, e_ok1i, e_ok1r, e_ok1n, zl_0, zl_1, zl_3, zl_4, zl_5, zl_6, zl_64, zl_70, zl_164, Int.reduceToNat, Int.reduceAdd, Int.reduceMul, Int.reduceSub, Int.reduceNeg, Int.reduceLT, Int.reduceLE, Int.reduceEq, not_false_eq_true, not_true_eq_false, false_implies, true_implies, implies_true, Int.reduceDiv, Int.reduceMod, zr8_zr, zr_zbo, z01_zbo, z01_0, z01_1, zbo_eq0, zup_eq, zup_o, zup_k, ne_eq, ↓ct_count_heads, ↓r_heads, ↓B_heads, ↓ct_count_sumOf, ↓r_sumOf, ↓B_sumOf, ↓ct_count_finds, ↓r_finds, ↓B_finds, ↓v_87, ↓g_87_0, ↓l_88, ↓s_88, ↓n_88, ↓g_87_1, ↓l_89, ↓s_89, ↓n_89, ↓g_87_2, ↓l_90, ↓s_90, ↓n_90, ↓g_87_3, ↓p_87_3, ↓g_87_4, ↓l_91, ↓s_91, ↓n_91, ↓g_87_5, ↓p_87_5, ↓g_87_6, ↓p_87_6, ↓g_87_7, ↓p_87_7, ↓g_87_8, ↓p_87_8, ↓g_87_9, ↓p_87_9, ↓g_87_10, ↓p_87_10, ↓g_87_11, ↓l_92, ↓s_92, ↓n_92, ↓g_87_12, ↓l_93, ↓s_93, ↓n_93, ↓g_87_13, ↓p_87_13, ↓g_87_14, ↓l_94, ↓s_94, ↓n_94, ↓g_87_15, ↓p_87_15, ↓g_87_16, ↓l_95, ↓s_95, ↓n_95, ↓g_87_17, ↓l_96, ↓s_96, ↓n_96, ↓g_87_18, ↓l_97, ↓s_97, ↓n_97, ↓g_87_19, ↓p_87_19, ↓g_87_20, ↓p_87_20, ↓g_87_21, ↓l_98, ↓s_98, ↓n_98, ↓g_87_22, ↓l_99, ↓s_99, ↓n_99, ↓g_87_23, ↓l_100, ↓s_100, ↓n_100, ↓g_87_24, ↓l_101, ↓s_101, ↓n_101]
      refine pub_id hC ?_
      subst c; rfl
    · refine bs_X11_count_82 hX ?_
      simp only [bk_X11_count_0, k_X11_count_0, bk_X11_count_60, k_X11_count_60, bk_X11_count_67, k_X11_count_67, bk_X11_count_72, k_X11_count_72, bk_X11_count_82, k_X11_count_82, bk_X11_count_92, k_X11_count_92, bk_X11_count_107, k_X11_count_107, bk_X11_count_114, k_X11_count_114, bk_X11_count_121, k_X11_count_121, bk_X11_count_126, k_X11_count_126, bk_X11_count_133, k_X11_count_133, ↓e_rk1, ↓e_rk0, ↓e_sk0, ↓e_sks, ↓e_ldi0, ↓e_ldis, ↓e_ldl0, ↓e_ldls, ↓e_lda0, ↓e_ldas, ↓e_ok0, ↓e_okss, ↓e_ok1i, ↓e_ok1r, ↓e_ok1n, ↓e_sti, ↓e_sta, ↓e_1, ↓e_2, ↓e_l1, ↓e_l2, ↓e_li, ↓e_sw0, ↓e_sws, ↓e_ceq, ↓e_cne, ↓e_clt, ↓e_cge, ↓e_cgt, ↓e_cle, ↓e_nil, ↓e_cons, ↓e_iconst, ↓e_bipush, ↓e_sipush, ↓e_ldc, ↓e_ldcw, ↓e_ldc2, ↓e_lconst, ↓e_iloadn, ↓e_iload, ↓e_lloadn, ↓e_lload, ↓e_aloadn, ↓e_aload, ↓e_istoren, ↓e_istore, ↓e_astoren, ↓e_astore, ↓e_add, ↓e_iinc, ↓e_iadd, ↓e_isub, ↓e_imul, ↓e_iand, ↓e_ior, ↓e_ixor, ↓e_ishl, ↓e_iushr, ↓e_idiv, ↓e_irem, ↓e_ineg, ↓e_i2l, ↓e_i2b, ↓e_i2s, ↓e_l2i, ↓e_land, ↓e_lor, ↓e_lshl, ↓e_lshr, ↓e_lushr, ↓e_lcmp, ↓e_dupi, ↓e_dupr, ↓e_popi, ↓e_dup2, ↓e_goto, ↓e_if, ↓e_icmp, ↓e_tsw, ↓e_lsw, ↓e_getf, ↓e_putf, ↓e_gets, ↓e_iald, ↓e_cald, ↓e_iast, ↓e_aald, ↓e_aast, ↓e_len, ↓e_copy, ↓e_abs, ↓e_max, ↓e_min, ↓e_iret, ↓e_aret, ↓e_vret, ↓e_is0, ↓e_is1, ↓e_is2, ↓e_is3, ↓e_is4, ↓e_iv1, ↓e_iv2, ↓e_iv3, ↓e_iv4, ↓e_iv5, ↓e_iv6, ↓rt_X11_count, ↓reduceIte, Nat.reduceAdd, Nat.reduceEqDiff, ↓zcl0, ↓zclv, List.map_nil, List.sum_nil, List.map_cons, List.sum_cons, zcat, true_and, and_true, Nat.reduceLeDiff, Nat.reduceAdd, eq_self, forall_const, e_ok0, e_okss, e_ok1i, e_ok1r, e_ok1n, zl_0, zl_1, zl_3, zl_4, zl_5, zl_6, zl_64, zl_70, zl_164, Int.reduceToNat, Int.reduceAdd, Int.reduceMul, Int.reduceSub, Int.reduceNeg, Int.reduceLT, Int.reduceLE, Int.reduceEq, not_false_eq_true, not_true_eq_false, false_implies, true_implies, implies_true, Int.reduceDiv, Int.reduceMod, zr8_zr, zr_zbo, z01_zbo, z01_0, z01_1, zbo_eq0, zup_eq, zup_o, zup_k, ne_eq, ↓ct_count_heads, ↓r_heads, ↓B_heads, ↓ct_count_sumOf, ↓r_sumOf, ↓B_sumOf, ↓ct_count_finds, ↓r_finds, ↓B_finds, ↓v_87, ↓g_87_0, ↓l_88, ↓s_88, ↓n_88, ↓g_87_1, ↓l_89, ↓s_89, ↓n_89, ↓g_87_2, ↓l_90, ↓s_90, ↓n_90, ↓g_87_3, ↓p_87_3, ↓g_87_4, ↓l_91, ↓s_91, ↓n_91, ↓g_87_5, ↓p_87_5, ↓g_87_6, ↓p_87_6, ↓g_87_7, ↓p_87_7, ↓g_87_8, ↓p_87_8, ↓g_87_9, ↓p_87_9, ↓g_87_10, ↓p_87_10, ↓g_87_11, ↓l_92, ↓s_92, ↓n_92, ↓g_87_12, ↓l_93, ↓s_93, ↓n_93, ↓g_87_13, ↓p_87_13, ↓g_87_14, ↓l_94, ↓s_94, ↓n_94, ↓g_87_15, ↓p_87_15, ↓g_87_16, ↓l_95, ↓s_95, ↓n_95, ↓g_87_17, ↓l_96, ↓s_96, ↓n_96, ↓g_87_18, ↓l_97, ↓s_97, ↓n_97, ↓g_87_19, ↓p_87_19, ↓g_87_20, ↓p_87_20, ↓g_87_21, ↓l_98, ↓s_98, ↓n_98, ↓g_87_22, ↓l_99, ↓s_99, ↓n_99, ↓g_87_23, ↓l_100, ↓s_100, ↓n_100, ↓g_87_24, ↓l_101, ↓s_101, ↓n_101]
      refine pub_id hC ?_
      subst c; rfl
    · refine bs_X11_count_92 hX ?_
      simp only [bk_X11_count_0, k_X11_count_0, bk_X11_count_60, k_X11_count_60, bk_X11_count_67, k_X11_count_67, bk_X11_count_72, k_X11_count_72, bk_X11_count_82, k_X11_count_82, bk_X11_count_92, k_X11_count_92, bk_X11_count_107, k_X11_count_107, bk_X11_count_114, k_X11_count_114, bk_X11_count_121, k_X11_count_121, bk_X11_count_126, k_X11_count_126, bk_X11_count_133, k_X11_count_133, ↓e_rk1, ↓e_rk0, ↓e_sk0, ↓e_sks, ↓e_ldi0, ↓e_ldis, ↓e_ldl0, ↓e_ldls, ↓e_lda0, ↓e_ldas, ↓e_ok0, ↓e_okss, ↓e_ok1i, ↓e_ok1r, ↓e_ok1n, ↓e_sti, ↓e_sta, ↓e_1, ↓e_2, ↓e_l1, ↓e_l2, ↓e_li, ↓e_sw0, ↓e_sws, ↓e_ceq, ↓e_cne, ↓e_clt, ↓e_cge, ↓e_cgt, ↓e_cle, ↓e_nil, ↓e_cons, ↓e_iconst, ↓e_bipush, ↓e_sipush, ↓e_ldc, ↓e_ldcw, ↓e_ldc2, ↓e_lconst, ↓e_iloadn, ↓e_iload, ↓e_lloadn, ↓e_lload, ↓e_aloadn, ↓e_aload, ↓e_istoren, ↓e_istore, ↓e_astoren, ↓e_astore, ↓e_add, ↓e_iinc, ↓e_iadd, ↓e_isub, ↓e_imul, ↓e_iand, ↓e_ior, ↓e_ixor, ↓e_ishl, ↓e_iushr, ↓e_idiv, ↓e_irem, ↓e_ineg, ↓e_i2l, ↓e_i2b, ↓e_i2s, ↓e_l2i, ↓e_land, ↓e_lor, ↓e_lshl, ↓e_lshr, ↓e_lushr, ↓e_lcmp, ↓e_dupi, ↓e_dupr, ↓e_popi, ↓e_dup2, ↓e_goto, ↓e_if, ↓e_icmp, ↓e_tsw, ↓e_lsw, ↓e_getf, ↓e_putf, ↓e_gets, ↓e_iald, ↓e_cald, ↓e_iast, ↓e_aald, ↓e_aast, ↓e_len, ↓e_copy, ↓e_abs, ↓e_max, ↓e_min, ↓e_iret, ↓e_aret, ↓e_vret, ↓e_is0, ↓e_is1, ↓e_is2, ↓e_is3, ↓e_is4, ↓e_iv1, ↓e_iv2, ↓e_iv3, ↓e_iv4, ↓e_iv5, ↓e_iv6, ↓rt_X11_count, ↓reduceIte, Nat.reduceAdd, Nat.reduceEqDiff, ↓zcl0, ↓zclv, List.map_nil, List.sum_nil, List.map_cons, List.sum_cons, zcat, true_and, and_true, Nat.reduceLeDiff, Nat.reduceAdd, eq_self, forall_const, e_ok0, e_okss, e_ok1i, e_ok1r, e_ok1n, zl_0, zl_1, zl_3, zl_4, zl_5, zl_6, zl_64, zl_70, zl_164, Int.reduceToNat, Int.reduceAdd, Int.reduceMul, Int.reduceSub, Int.reduceNeg, Int.reduceLT, Int.reduceLE, Int.reduceEq, not_false_eq_true, not_true_eq_false, false_implies, true_implies, implies_true, Int.reduceDiv, Int.reduceMod, zr8_zr, zr_zbo, z01_zbo, z01_0, z01_1, zbo_eq0, zup_eq, zup_o, zup_k, ne_eq, ↓ct_count_heads, ↓r_heads, ↓B_heads, ↓ct_count_sumOf, ↓r_sumOf, ↓B_sumOf, ↓ct_count_finds, ↓r_finds, ↓B_finds, ↓v_87, ↓g_87_0, ↓l_88, ↓s_88, ↓n_88, ↓g_87_1, ↓l_89, ↓s_89, ↓n_89, ↓g_87_2, ↓l_90, ↓s_90, ↓n_90, ↓g_87_3, ↓p_87_3, ↓g_87_4, ↓l_91, ↓s_91, ↓n_91, ↓g_87_5, ↓p_87_5, ↓g_87_6, ↓p_87_6, ↓g_87_7, ↓p_87_7, ↓g_87_8, ↓p_87_8, ↓g_87_9, ↓p_87_9, ↓g_87_10, ↓p_87_10, ↓g_87_11, ↓l_92, ↓s_92, ↓n_92, ↓g_87_12, ↓l_93, ↓s_93, ↓n_93, ↓g_87_13, ↓p_87_13, ↓g_87_14, ↓l_94, ↓s_94, ↓n_94, ↓g_87_15, ↓p_87_15, ↓g_87_16, ↓l_95, ↓s_95, ↓n_95, ↓g_87_17, ↓l_96, ↓s_96, ↓n_96, ↓g_87_18, ↓l_97, ↓s_97, ↓n_97, ↓g_87_19, ↓p_87_19, ↓g_87_20, ↓p_87_20, ↓g_87_21, ↓l_98, ↓s_98, ↓n_98, ↓g_87_22, ↓l_99, ↓s_99, ↓n_99, ↓g_87_23, ↓l_100, ↓s_100, ↓n_100, ↓g_87_24, ↓l_101, ↓s_101, ↓n_101]
      refine ⟨v0.1, by omega, by omega, pub_id hC ?_⟩
      subst c; rfl
    · refine bs_X11_count_107 hX ?_
      simp only [bk_X11_count_0, k_X11_count_0, bk_X11_count_60, k_X11_count_60, bk_X11_count_67, k_X11_count_67, bk_X11_count_72, k_X11_count_72, bk_X11_count_82, k_X11_count_82, bk_X11_count_92, k_X11_count_92, bk_X11_count_107, k_X11_count_107, bk_X11_count_114, k_X11_count_114, bk_X11_count_121, k_X11_count_121, bk_X11_count_126, k_X11_count_126, bk_X11_count_133, k_X11_count_133, ↓e_rk1, ↓e_rk0, ↓e_sk0, ↓e_sks, ↓e_ldi0, ↓e_ldis, ↓e_ldl0, ↓e_ldls, ↓e_lda0, ↓e_ldas, ↓e_ok0, ↓e_okss, ↓e_ok1i, ↓e_ok1r, ↓e_ok1n, ↓e_sti, ↓e_sta, ↓e_1, ↓e_2, ↓e_l1, ↓e_l2, ↓e_li, ↓e_sw0, ↓e_sws, ↓e_ceq, ↓e_cne, ↓e_clt, ↓e_cge, ↓e_cgt, ↓e_cle, ↓e_nil, ↓e_cons, ↓e_iconst, ↓e_bipush, ↓e_sipush, ↓e_ldc, ↓e_ldcw, ↓e_ldc2, ↓e_lconst, ↓e_iloadn, ↓e_iload, ↓e_lloadn, ↓e_lload, ↓e_aloadn, ↓e_aload, ↓e_istoren, ↓e_istore, ↓e_astoren, ↓e_astore, ↓e_add, ↓e_iinc, ↓e_iadd, ↓e_isub, ↓e_imul, ↓e_iand, ↓e_ior, ↓e_ixor, ↓e_ishl, ↓e_iushr, ↓e_idiv, ↓e_irem, ↓e_ineg, ↓e_i2l, ↓e_i2b, ↓e_i2s, ↓e_l2i, ↓e_land, ↓e_lor, ↓e_lshl, ↓e_lshr, ↓e_lushr, ↓e_lcmp, ↓e_dupi, ↓e_dupr, ↓e_popi, ↓e_dup2, ↓e_goto, ↓e_if, ↓e_icmp, ↓e_tsw, ↓e_lsw, ↓e_getf, ↓e_putf, ↓e_gets, ↓e_iald, ↓e_cald, ↓e_iast, ↓e_aald, ↓e_aast, ↓e_len, ↓e_copy, ↓e_abs, ↓e_max, ↓e_min, ↓e_iret, ↓e_aret, ↓e_vret, ↓e_is0, ↓e_is1, ↓e_is2, ↓e_is3, ↓e_is4, ↓e_iv1, ↓e_iv2, ↓e_iv3, ↓e_iv4, ↓e_iv5, ↓e_iv6, ↓rt_X11_count, ↓reduceIte, Nat.reduceAdd, Nat.reduceEqDiff, ↓zcl0, ↓zclv, List.map_nil, List.sum_nil, List.map_cons, List.sum_cons, zcat, true_and, and_true, Nat.reduceLeDiff, Nat.reduceAdd, eq_self, forall_const, e_ok0, e_okss, e_ok1i, e_ok1r, e_ok1n, zl_0, zl_1, zl_3, zl_4, zl_5, zl_6, zl_64, zl_70, zl_164, Int.reduceToNat, Int.reduceAdd, Int.reduceMul, Int.reduceSub, Int.reduceNeg, Int.reduceLT, Int.reduceLE, Int.reduceEq, not_false_eq_true, not_true_eq_false, false_implies, true_implies, implies_true, Int.reduceDiv, Int.reduceMod, zr8_zr, zr_zbo, z01_zbo, z01_0, z01_1, zbo_eq0, zup_eq, zup_o, zup_k, ne_eq, ↓ct_count_heads, ↓r_heads, ↓B_heads, ↓ct_count_sumOf, ↓r_sumOf, ↓B_sumOf, ↓ct_count_finds, ↓r_finds, ↓B_finds, ↓v_87, ↓g_87_0, ↓l_88, ↓s_88, ↓n_88, ↓g_87_1, ↓l_89, ↓s_89, ↓n_89, ↓g_87_2, ↓l_90, ↓s_90, ↓n_90, ↓g_87_3, ↓p_87_3, ↓g_87_4, ↓l_91, ↓s_91, ↓n_91, ↓g_87_5, ↓p_87_5, ↓g_87_6, ↓p_87_6, ↓g_87_7, ↓p_87_7, ↓g_87_8, ↓p_87_8, ↓g_87_9, ↓p_87_9, ↓g_87_10, ↓p_87_10, ↓g_87_11, ↓l_92, ↓s_92, ↓n_92, ↓g_87_12, ↓l_93, ↓s_93, ↓n_93, ↓g_87_13, ↓p_87_13, ↓g_87_14, ↓l_94, ↓s_94, ↓n_94, ↓g_87_15, ↓p_87_15, ↓g_87_16, ↓l_95, ↓s_95, ↓n_95, ↓g_87_17, ↓l_96, ↓s_96, ↓n_96, ↓g_87_18, ↓l_97, ↓s_97, ↓n_97, ↓g_87_19, ↓p_87_19, ↓g_87_20, ↓p_87_20, ↓g_87_21, ↓l_98, ↓s_98, ↓n_98, ↓g_87_22, ↓l_99, ↓s_99, ↓n_99, ↓g_87_23, ↓l_100, ↓s_100, ↓n_100, ↓g_87_24, ↓l_101, ↓s_101, ↓n_101]
      refine pub_id hC ?_
      subst c; rfl
    · refine bs_X11_count_114 hX ?_
      simp only [bk_X11_count_0, k_X11_count_0, bk_X11_count_60, k_X11_count_60, bk_X11_count_67, k_X11_count_67, bk_X11_count_72, k_X11_count_72, bk_X11_count_82, k_X11_count_82, bk_X11_count_92, k_X11_count_92, bk_X11_count_107, k_X11_count_107, bk_X11_count_114, k_X11_count_114, bk_X11_count_121, k_X11_count_121, bk_X11_count_126, k_X11_count_126, bk_X11_count_133, k_X11_count_133, ↓e_rk1, ↓e_rk0, ↓e_sk0, ↓e_sks, ↓e_ldi0, ↓e_ldis, ↓e_ldl0, ↓e_ldls, ↓e_lda0, ↓e_ldas, ↓e_ok0, ↓e_okss, ↓e_ok1i, ↓e_ok1r, ↓e_ok1n, ↓e_sti, ↓e_sta, ↓e_1, ↓e_2, ↓e_l1, ↓e_l2, ↓e_li, ↓e_sw0, ↓e_sws, ↓e_ceq, ↓e_cne, ↓e_clt, ↓e_cge, ↓e_cgt, ↓e_cle, ↓e_nil, ↓e_cons, ↓e_iconst, ↓e_bipush, ↓e_sipush, ↓e_ldc, ↓e_ldcw, ↓e_ldc2, ↓e_lconst, ↓e_iloadn, ↓e_iload, ↓e_lloadn, ↓e_lload, ↓e_aloadn, ↓e_aload, ↓e_istoren, ↓e_istore, ↓e_astoren, ↓e_astore, ↓e_add, ↓e_iinc, ↓e_iadd, ↓e_isub, ↓e_imul, ↓e_iand, ↓e_ior, ↓e_ixor, ↓e_ishl, ↓e_iushr, ↓e_idiv, ↓e_irem, ↓e_ineg, ↓e_i2l, ↓e_i2b, ↓e_i2s, ↓e_l2i, ↓e_land, ↓e_lor, ↓e_lshl, ↓e_lshr, ↓e_lushr, ↓e_lcmp, ↓e_dupi, ↓e_dupr, ↓e_popi, ↓e_dup2, ↓e_goto, ↓e_if, ↓e_icmp, ↓e_tsw, ↓e_lsw, ↓e_getf, ↓e_putf, ↓e_gets, ↓e_iald, ↓e_cald, ↓e_iast, ↓e_aald, ↓e_aast, ↓e_len, ↓e_copy, ↓e_abs, ↓e_max, ↓e_min, ↓e_iret, ↓e_aret, ↓e_vret, ↓e_is0, ↓e_is1, ↓e_is2, ↓e_is3, ↓e_is4, ↓e_iv1, ↓e_iv2, ↓e_iv3, ↓e_iv4, ↓e_iv5, ↓e_iv6, ↓rt_X11_count, ↓reduceIte, Nat.reduceAdd, Nat.reduceEqDiff, ↓zcl0, ↓zclv, List.map_nil, List.sum_nil, List.map_cons, List.sum_cons, zcat, true_and, and_true, Nat.reduceLeDiff, Nat.reduceAdd, eq_self, forall_const, e_ok0, e_okss, e_ok1i, e_ok1r, e_ok1n, zl_0, zl_1, zl_3, zl_4, zl_5, zl_6, zl_64, zl_70, zl_164, Int.reduceToNat, Int.reduceAdd, Int.reduceMul, Int.reduceSub, Int.reduceNeg, Int.reduceLT, Int.reduceLE, Int.reduceEq, not_false_eq_true, not_true_eq_false, false_implies, true_implies, implies_true, Int.reduceDiv, Int.reduceMod, zr8_zr, zr_zbo, z01_zbo, z01_0, z01_1, zbo_eq0, zup_eq, zup_o, zup_k, ne_eq, ↓ct_count_heads, ↓r_heads, ↓B_heads, ↓ct_count_sumOf, ↓r_sumOf, ↓B_sumOf, ↓ct_count_finds, ↓r_finds, ↓B_finds, ↓v_87, ↓g_87_0, ↓l_88, ↓s_88, ↓n_88, ↓g_87_1, ↓l_89, ↓s_89, ↓n_89, ↓g_87_2, ↓l_90, ↓s_90, ↓n_90, ↓g_87_3, ↓p_87_3, ↓g_87_4, ↓l_91, ↓s_91, ↓n_91, ↓g_87_5, ↓p_87_5, ↓g_87_6, ↓p_87_6, ↓g_87_7, ↓p_87_7, ↓g_87_8, ↓p_87_8, ↓g_87_9, ↓p_87_9, ↓g_87_10, ↓p_87_10, ↓g_87_11, ↓l_92, ↓s_92, ↓n_92, ↓g_87_12, ↓l_93, ↓s_93, ↓n_93, ↓g_87_13, ↓p_87_13, ↓g_87_14, ↓l_94, ↓s_94, ↓n_94, ↓g_87_15, ↓p_87_15, ↓g_87_16, ↓l_95, ↓s_95, ↓n_95, ↓g_87_17, ↓l_96, ↓s_96, ↓n_96, ↓g_87_18, ↓l_97, ↓s_97, ↓n_97, ↓g_87_19, ↓p_87_19, ↓g_87_20, ↓p_87_20, ↓g_87_21, ↓l_98, ↓s_98, ↓n_98, ↓g_87_22, ↓l_99, ↓s_99, ↓n_99, ↓g_87_23, ↓l_100, ↓s_100, ↓n_100, ↓g_87_24, ↓l_101, ↓s_101, ↓n_101]
      refine pub_id hC ?_
      subst c; rfl
    · refine bs_X11_count_121 hX ?_
      simp only [bk_X11_count_0, k_X11_count_0, bk_X11_count_60, k_X11_count_60, bk_X11_count_67, k_X11_count_67, bk_X11_count_72, k_X11_count_72, bk_X11_count_82, k_X11_count_82, bk_X11_count_92, k_X11_count_92, bk_X11_count_107, k_X11_count_107, bk_X11_count_114, k_X11_count_114, bk_X11_count_121, k_X11_count_121, bk_X11_count_126, k_X11_count_126, bk_X11_count_133, k_X11_count_133, ↓e_rk1, ↓e_rk0, ↓e_sk0, ↓e_sks, ↓e_ldi0, ↓e_ldis, ↓e_ldl0, ↓e_ldls, ↓e_lda0, ↓e_ldas, ↓e_ok0, ↓e_okss, ↓e_ok1i, ↓e_ok1r, ↓e_ok1n, ↓e_sti, ↓e_sta, ↓e_1, ↓e_2, ↓e_l1, ↓e_l2, ↓e_li, ↓e_sw0, ↓e_sws, ↓e_ceq, ↓e_cne, ↓e_clt, ↓e_cge, ↓e_cgt, ↓e_cle, ↓e_nil, ↓e_cons, ↓e_iconst, ↓e_bipush, ↓e_sipush, ↓e_ldc, ↓e_ldcw, ↓e_ldc2, ↓e_lconst, ↓e_iloadn, ↓e_iload, ↓e_lloadn, ↓e_lload, ↓e_aloadn, ↓e_aload, ↓e_istoren, ↓e_istore, ↓e_astoren, ↓e_astore, ↓e_add, ↓e_iinc, ↓e_iadd, ↓e_isub, ↓e_imul, ↓e_iand, ↓e_ior, ↓e_ixor, ↓e_ishl, ↓e_iushr, ↓e_idiv, ↓e_irem, ↓e_ineg, ↓e_i2l, ↓e_i2b, ↓e_i2s, ↓e_l2i, ↓e_land, ↓e_lor, ↓e_lshl, ↓e_lshr, ↓e_lushr, ↓e_lcmp, ↓e_dupi, ↓e_dupr, ↓e_popi, ↓e_dup2, ↓e_goto, ↓e_if, ↓e_icmp, ↓e_tsw, ↓e_lsw, ↓e_getf, ↓e_putf, ↓e_gets, ↓e_iald, ↓e_cald, ↓e_iast, ↓e_aald, ↓e_aast, ↓e_len, ↓e_copy, ↓e_abs, ↓e_max, ↓e_min, ↓e_iret, ↓e_aret, ↓e_vret, ↓e_is0, ↓e_is1, ↓e_is2, ↓e_is3, ↓e_is4, ↓e_iv1, ↓e_iv2, ↓e_iv3, ↓e_iv4, ↓e_iv5, ↓e_iv6, ↓rt_X11_count, ↓reduceIte, Nat.reduceAdd, Nat.reduceEqDiff, ↓zcl0, ↓zclv, List.map_nil, List.sum_nil, List.map_cons, List.sum_cons, zcat, true_and, and_true, Nat.reduceLeDiff, Nat.reduceAdd, eq_self, forall_const, e_ok0, e_okss, e_ok1i, e_ok1r, e_ok1n, zl_0, zl_1, zl_3, zl_4, zl_5, zl_6, zl_64, zl_70, zl_164, Int.reduceToNat, Int.reduceAdd, Int.reduceMul, Int.reduceSub, Int.reduceNeg, Int.reduceLT, Int.reduceLE, Int.reduceEq, not_false_eq_true, not_true_eq_false, false_implies, true_implies, implies_true, Int.reduceDiv, Int.reduceMod, zr8_zr, zr_zbo, z01_zbo, z01_0, z01_1, zbo_eq0, zup_eq, zup_o, zup_k, ne_eq, ↓ct_count_heads, ↓r_heads, ↓B_heads, ↓ct_count_sumOf, ↓r_sumOf, ↓B_sumOf, ↓ct_count_finds, ↓r_finds, ↓B_finds, ↓v_87, ↓g_87_0, ↓l_88, ↓s_88, ↓n_88, ↓g_87_1, ↓l_89, ↓s_89, ↓n_89, ↓g_87_2, ↓l_90, ↓s_90, ↓n_90, ↓g_87_3, ↓p_87_3, ↓g_87_4, ↓l_91, ↓s_91, ↓n_91, ↓g_87_5, ↓p_87_5, ↓g_87_6, ↓p_87_6, ↓g_87_7, ↓p_87_7, ↓g_87_8, ↓p_87_8, ↓g_87_9, ↓p_87_9, ↓g_87_10, ↓p_87_10, ↓g_87_11, ↓l_92, ↓s_92, ↓n_92, ↓g_87_12, ↓l_93, ↓s_93, ↓n_93, ↓g_87_13, ↓p_87_13, ↓g_87_14, ↓l_94, ↓s_94, ↓n_94, ↓g_87_15, ↓p_87_15, ↓g_87_16, ↓l_95, ↓s_95, ↓n_95, ↓g_87_17, ↓l_96, ↓s_96, ↓n_96, ↓g_87_18, ↓l_97, ↓s_97, ↓n_97, ↓g_87_19, ↓p_87_19, ↓g_87_20, ↓p_87_20, ↓g_87_21, ↓l_98, ↓s_98, ↓n_98, ↓g_87_22, ↓l_99, ↓s_99, ↓n_99, ↓g_87_23, ↓l_100, ↓s_100, ↓n_100, ↓g_87_24, ↓l_101, ↓s_101, ↓n_101]
      refine pub_id hC ?_
      subst c; rfl
    · refine bs_X11_count_126 hX ?_
      simp only [bk_X11_count_0, k_X11_count_0, bk_X11_count_60, k_X11_count_60, bk_X11_count_67, k_X11_count_67, bk_X11_count_72, k_X11_count_72, bk_X11_count_82, k_X11_count_82, bk_X11_count_92, k_X11_count_92, bk_X11_count_107, k_X11_count_107, bk_X11_count_114, k_X11_count_114, bk_X11_count_121, k_X11_count_121, bk_X11_count_126, k_X11_count_126, bk_X11_count_133, k_X11_count_133, ↓e_rk1, ↓e_rk0, ↓e_sk0, ↓e_sks, ↓e_ldi0, ↓e_ldis, ↓e_ldl0, ↓e_ldls, ↓e_lda0, ↓e_ldas, ↓e_ok0, ↓e_okss, ↓e_ok1i, ↓e_ok1r, ↓e_ok1n, ↓e_sti, ↓e_sta, ↓e_1, ↓e_2, ↓e_l1, ↓e_l2, ↓e_li, ↓e_sw0, ↓e_sws, ↓e_ceq, ↓e_cne, ↓e_clt, ↓e_cge, ↓e_cgt, ↓e_cle, ↓e_nil, ↓e_cons, ↓e_iconst, ↓e_bipush, ↓e_sipush, ↓e_ldc, ↓e_ldcw, ↓e_ldc2, ↓e_lconst, ↓e_iloadn, ↓e_iload, ↓e_lloadn, ↓e_lload, ↓e_aloadn, ↓e_aload, ↓e_istoren, ↓e_istore, ↓e_astoren, ↓e_astore, ↓e_add, ↓e_iinc, ↓e_iadd, ↓e_isub, ↓e_imul, ↓e_iand, ↓e_ior, ↓e_ixor, ↓e_ishl, ↓e_iushr, ↓e_idiv, ↓e_irem, ↓e_ineg, ↓e_i2l, ↓e_i2b, ↓e_i2s, ↓e_l2i, ↓e_land, ↓e_lor, ↓e_lshl, ↓e_lshr, ↓e_lushr, ↓e_lcmp, ↓e_dupi, ↓e_dupr, ↓e_popi, ↓e_dup2, ↓e_goto, ↓e_if, ↓e_icmp, ↓e_tsw, ↓e_lsw, ↓e_getf, ↓e_putf, ↓e_gets, ↓e_iald, ↓e_cald, ↓e_iast, ↓e_aald, ↓e_aast, ↓e_len, ↓e_copy, ↓e_abs, ↓e_max, ↓e_min, ↓e_iret, ↓e_aret, ↓e_vret, ↓e_is0, ↓e_is1, ↓e_is2, ↓e_is3, ↓e_is4, ↓e_iv1, ↓e_iv2, ↓e_iv3, ↓e_iv4, ↓e_iv5, ↓e_iv6, ↓rt_X11_count, ↓reduceIte, Nat.reduceAdd, Nat.reduceEqDiff, ↓zcl0, ↓zclv, List.map_nil, List.sum_nil, List.map_cons, List.sum_cons, zcat, true_and, and_true, Nat.reduceLeDiff, Nat.reduceAdd, eq_self, forall_const, e_ok0, e_okss, e_ok1i, e_ok1r, e_ok1n, zl_0, zl_1, zl_3, zl_4, zl_5, zl_6, zl_64, zl_70, zl_164, Int.reduceToNat, Int.reduceAdd, Int.reduceMul, Int.reduceSub, Int.reduceNeg, Int.reduceLT, Int.reduceLE, Int.reduceEq, not_false_eq_true, not_true_eq_false, false_implies, true_implies, implies_true, Int.reduceDiv, Int.reduceMod, zr8_zr, zr_zbo, z01_zbo, z01_0, z01_1, zbo_eq0, zup_eq, zup_o, zup_k, ne_eq, ↓ct_count_heads, ↓r_heads, ↓B_heads, ↓ct_count_sumOf, ↓r_sumOf, ↓B_sumOf, ↓ct_count_finds, ↓r_finds, ↓B_finds, ↓v_87, ↓g_87_0, ↓l_88, ↓s_88, ↓n_88, ↓g_87_1, ↓l_89, ↓s_89, ↓n_89, ↓g_87_2, ↓l_90, ↓s_90, ↓n_90, ↓g_87_3, ↓p_87_3, ↓g_87_4, ↓l_91, ↓s_91, ↓n_91, ↓g_87_5, ↓p_87_5, ↓g_87_6, ↓p_87_6, ↓g_87_7, ↓p_87_7, ↓g_87_8, ↓p_87_8, ↓g_87_9, ↓p_87_9, ↓g_87_10, ↓p_87_10, ↓g_87_11, ↓l_92, ↓s_92, ↓n_92, ↓g_87_12, ↓l_93, ↓s_93, ↓n_93, ↓g_87_13, ↓p_87_13, ↓g_87_14, ↓l_94, ↓s_94, ↓n_94, ↓g_87_15, ↓p_87_15, ↓g_87_16, ↓l_95, ↓s_95, ↓n_95, ↓g_87_17, ↓l_96, ↓s_96, ↓n_96, ↓g_87_18, ↓l_97, ↓s_97, ↓n_97, ↓g_87_19, ↓p_87_19, ↓g_87_20, ↓p_87_20, ↓g_87_21, ↓l_98, ↓s_98, ↓n_98, ↓g_87_22, ↓l_99, ↓s_99, ↓n_99, ↓g_87_23, ↓l_100, ↓s_100, ↓n_100, ↓g_87_24, ↓l_101, ↓s_101, ↓n_101]
      refine pub_id hC ?_
      subst c; rfl
    · refine bs_X11_count_133 hX ?_
      simp only [bk_X11_count_0, k_X11_count_0, bk_X11_count_60, k_X11_count_60, bk_X11_count_67, k_X11_count_67, bk_X11_count_72, k_X11_count_72, bk_X11_count_82, k_X11_count_82, bk_X11_count_92, k_X11_count_92, bk_X11_count_107, k_X11_count_107, bk_X11_count_114, k_X11_count_114, bk_X11_count_121, k_X11_count_121, bk_X11_count_126, k_X11_count_126, bk_X11_count_133, k_X11_count_133, ↓e_rk1, ↓e_rk0, ↓e_sk0, ↓e_sks, ↓e_ldi0, ↓e_ldis, ↓e_ldl0, ↓e_ldls, ↓e_lda0, ↓e_ldas, ↓e_ok0, ↓e_okss, ↓e_ok1i, ↓e_ok1r, ↓e_ok1n, ↓e_sti, ↓e_sta, ↓e_1, ↓e_2, ↓e_l1, ↓e_l2, ↓e_li, ↓e_sw0, ↓e_sws, ↓e_ceq, ↓e_cne, ↓e_clt, ↓e_cge, ↓e_cgt, ↓e_cle, ↓e_nil, ↓e_cons, ↓e_iconst, ↓e_bipush, ↓e_sipush, ↓e_ldc, ↓e_ldcw, ↓e_ldc2, ↓e_lconst, ↓e_iloadn, ↓e_iload, ↓e_lloadn, ↓e_lload, ↓e_aloadn, ↓e_aload, ↓e_istoren, ↓e_istore, ↓e_astoren, ↓e_astore, ↓e_add, ↓e_iinc, ↓e_iadd, ↓e_isub, ↓e_imul, ↓e_iand, ↓e_ior, ↓e_ixor, ↓e_ishl, ↓e_iushr, ↓e_idiv, ↓e_irem, ↓e_ineg, ↓e_i2l, ↓e_i2b, ↓e_i2s, ↓e_l2i, ↓e_land, ↓e_lor, ↓e_lshl, ↓e_lshr, ↓e_lushr, ↓e_lcmp, ↓e_dupi, ↓e_dupr, ↓e_popi, ↓e_dup2, ↓e_goto, ↓e_if, ↓e_icmp, ↓e_tsw, ↓e_lsw, ↓e_getf, ↓e_putf, ↓e_gets, ↓e_iald, ↓e_cald, ↓e_iast, ↓e_aald, ↓e_aast, ↓e_len, ↓e_copy, ↓e_abs, ↓e_max, ↓e_min, ↓e_iret, ↓e_aret, ↓e_vret, ↓e_is0, ↓e_is1, ↓e_is2, ↓e_is3, ↓e_is4, ↓e_iv1, ↓e_iv2, ↓e_iv3, ↓e_iv4, ↓e_iv5, ↓e_iv6, ↓rt_X11_count, ↓reduceIte, Nat.reduceAdd, Nat.reduceEqDiff, ↓zcl0, ↓zclv, List.map_nil, List.sum_nil, List.map_cons, List.sum_cons, zcat, true_and, and_true, Nat.reduceLeDiff, Nat.reduceAdd, eq_self, forall_const, e_ok0, e_okss, e_ok1i, e_ok1r, e_ok1n, zl_0, zl_1, zl_3, zl_4, zl_5, zl_6, zl_64, zl_70, zl_164, Int.reduceToNat, Int.reduceAdd, Int.reduceMul, Int.reduceSub, Int.reduceNeg, Int.reduceLT, Int.reduceLE, Int.reduceEq, not_false_eq_true, not_true_eq_false, false_implies, true_implies, implies_true, Int.reduceDiv, Int.reduceMod, zr8_zr, zr_zbo, z01_zbo, z01_0, z01_1, zbo_eq0, zup_eq, zup_o, zup_k, ne_eq, ↓ct_count_heads, ↓r_heads, ↓B_heads, ↓ct_count_sumOf, ↓r_sumOf, ↓B_sumOf, ↓ct_count_finds, ↓r_finds, ↓B_finds, ↓v_87, ↓g_87_0, ↓l_88, ↓s_88, ↓n_88, ↓g_87_1, ↓l_89, ↓s_89, ↓n_89, ↓g_87_2, ↓l_90, ↓s_90, ↓n_90, ↓g_87_3, ↓p_87_3, ↓g_87_4, ↓l_91, ↓s_91, ↓n_91, ↓g_87_5, ↓p_87_5, ↓g_87_6, ↓p_87_6, ↓g_87_7, ↓p_87_7, ↓g_87_8, ↓p_87_8, ↓g_87_9, ↓p_87_9, ↓g_87_10, ↓p_87_10, ↓g_87_11, ↓l_92, ↓s_92, ↓n_92, ↓g_87_12, ↓l_93, ↓s_93, ↓n_93, ↓g_87_13, ↓p_87_13, ↓g_87_14, ↓l_94, ↓s_94, ↓n_94, ↓g_87_15, ↓p_87_15, ↓g_87_16, ↓l_95, ↓s_95, ↓n_95, ↓g_87_17, ↓l_96, ↓s_96, ↓n_96, ↓g_87_18, ↓l_97, ↓s_97, ↓n_97, ↓g_87_19, ↓p_87_19, ↓g_87_20, ↓p_87_20, ↓g_87_21, ↓l_98, ↓s_98, ↓n_98, ↓g_87_22, ↓l_99, ↓s_99, ↓n_99, ↓g_87_23, ↓l_100, ↓s_100, ↓n_100, ↓g_87_24, ↓l_101, ↓s_101, ↓n_101]
      refine pub_no hC ?_ rfl
      unfold R_count
      rw [if_neg c0, if_neg c1, if_neg c2, if_neg c3, if_neg c4, if_neg c5, if_neg c6, if_neg c7, if_neg c8, if_neg c9, if_neg c10]
