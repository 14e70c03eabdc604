/-! THE REFERENCE: sheets, what is told, images -/
def k_X11_isSheet_0 : List ZI := [(.iload_n 0, 1, (0, [0], [])), (.i2l, 1, (0, [], [])), (.lconst 0, 1, (0, [], [])), (.ldc2_w 283, 3, (3, [], [])), (.invokestatic 61, 3, (0, [120, 3, 0, 11], [])), (.ireturn, 1, (0, [], []))]
theorem ok_X11_isSheet_0 : zOK cX11_isSheet 11 false 1 k_X11_isSheet_0 0 = true := zOK_by (by decide +kernel)
theorem rt_X11_isSheet {g : Nat} {post : Option ZV → ZH → Prop} {h : ZH} {b : ZB2} {z : Int} : zRt mX11_isSheet g post (some (.inl z)) h b = (post (some (.inl z)) h ∧ h.1.length = g ∧ z01 z) := rfl
def bk_X11_isSheet_0 (E : ZE) (CT : Nat → ZC) (X : ZK) (Rt : ZR) (ls : ZL) (st : List ZV) (h : ZH) (b : ZB2) : Prop := zB E CT k_X11_isSheet_0 0 ls st h b (fun t ls st h b => X t ls st h b) Rt
theorem bs_X11_isSheet_0 {E : ZE} {CT : Nat → ZC} {X : ZK} {Rt : ZR} {ls : ZL} {st : List ZV} {h : ZH} {b : ZB2} (hX : zCl E mX11_isSheet 11 false CT Rt X) (q : bk_X11_isSheet_0 E CT X Rt ls st h b) : X 0 ls st h b := by
  refine hX k_X11_isSheet_0 0 ok_X11_isSheet_0 _ ?_ ls st h b q
  exact fun t ls st h b q => q
-- X11_isSheet: cuts []
def k_X11_trace_0 : List ZI := [(.iload_n 1, 1, (0, [1], [])), (.i2l, 1, (0, [], [])), (.lconst 0, 1, (0, [], [])), (.aload_n 0, 1, (0, [0], [])), (.getfield 295, 3, (0, [11, 19], [])), (.iconst 1, 1, (0, [], [])), (.isub, 1, (0, [], [])), (.i2l, 1, (0, [], [])), (.invokestatic 61, 3, (0, [120, 3, 0, 11], [])), (.ifCond .eq 12, 3, (0, [25], [])), (.aload_n 0, 1, (0, [0], [])), (.getfield 41, 3, (0, [11, 18], [])), (.iload_n 1, 1, (0, [1], [])), (.iaload, 1, (0, [], [])), (.goto 8, 3, (0, [30], []))]
theorem ok_X11_trace_0 : zOK cX11_trace 11 false 2 k_X11_trace_0 0 = true := zOK_by (by decide +kernel)
def k_X11_trace_25 : List ZI := [(.aload_n 0, 1, (0, [0], [])), (.iconst 2, 1, (0, [], [])), (.invokevirtual 139, 3, (0, [119, 2, 0, 11], []))]
theorem ok_X11_trace_25 : zOK cX11_trace 11 false 2 k_X11_trace_25 25 = true := zOK_by (by decide +kernel)
def k_X11_trace_30 : List ZI := [(.ireturn, 1, (0, [], []))]
theorem ok_X11_trace_30 : zOK cX11_trace 11 false 2 k_X11_trace_30 30 = true := zOK_by (by decide +kernel)
theorem rt_X11_trace {g : Nat} {post : Option ZV → ZH → Prop} {h : ZH} {b : ZB2} {z : Int} : zRt mX11_trace g post (some (.inl z)) h b = (post (some (.inl z)) h ∧ h.1.length = g) := by show (_ ∧ _ ∧ True) = _; simp
def bk_X11_trace_30 (E : ZE) (CT : Nat → ZC) (X : ZK) (Rt : ZR) (ls : ZL) (st : List ZV) (h : ZH) (b : ZB2) : Prop := zB E CT k_X11_trace_30 30 ls st h b (fun t ls st h b => X t ls st h b) Rt
theorem bs_X11_trace_30 {E : ZE} {CT : Nat → ZC} {X : ZK} {Rt : ZR} {ls : ZL} {st : List ZV} {h : ZH} {b : ZB2} (hX : zCl E mX11_trace 11 false CT Rt X) (q : bk_X11_trace_30 E CT X Rt ls st h b) : X 30 ls st h b := by
  refine hX k_X11_trace_30 30 ok_X11_trace_30 _ ?_ ls st h b q
  exact fun t ls st h b q => q
def bk_X11_trace_25 (E : ZE) (CT : Nat → ZC) (X : ZK) (Rt : ZR) (ls : ZL) (st : List ZV) (h : ZH) (b : ZB2) : Prop := zB E CT k_X11_trace_25 25 ls st h b (fun t ls st h b => if t = 30 then bk_X11_trace_30 E CT X Rt ls st h b else X t ls st h b) Rt
theorem bs_X11_trace_25 {E : ZE} {CT : Nat → ZC} {X : ZK} {Rt : ZR} {ls : ZL} {st : List ZV} {h : ZH} {b : ZB2} (hX : zCl E mX11_trace 11 false CT Rt X) (q : bk_X11_trace_25 E CT X Rt ls st h b) : X 25 ls st h b := by
  refine hX k_X11_trace_25 25 ok_X11_trace_25 _ ?_ ls st h b q
  exact by
    intro t ls st h b q
    by_cases c : t = 30
    · subst c; rw [if_pos rfl] at q; exact bs_X11_trace_30 hX q
    rw [if_neg c] at q
    exact q
def bk_X11_trace_0 (E : ZE) (CT : Nat → ZC) (X : ZK) (Rt : ZR) (ls : ZL) (st : List ZV) (h : ZH) (b : ZB2) : Prop := zB E CT k_X11_trace_0 0 ls st h b (fun t ls st h b => if t = 25 then bk_X11_trace_25 E CT X Rt ls st h b else if t = 30 then bk_X11_trace_30 E CT X Rt ls st h b else X t ls st h b) Rt
theorem bs_X11_trace_0 {E : ZE} {CT : Nat → ZC} {X : ZK} {Rt : ZR} {ls : ZL} {st : List ZV} {h : ZH} {b : ZB2} (hX : zCl E mX11_trace 11 false CT Rt X) (q : bk_X11_trace_0 E CT X Rt ls st h b) : X 0 ls st h b := by
  refine hX k_X11_trace_0 0 ok_X11_trace_0 _ ?_ ls st h b q
  exact by
    intro t ls st h b q
    by_cases c : t = 25
    · subst c; rw [if_pos rfl] at q; exact bs_X11_trace_25 hX q
    rw [if_neg c] at q
    by_cases c : t = 30
    · subst c; rw [if_pos rfl] at q; exact bs_X11_trace_30 hX q
    rw [if_neg c] at q
    exact q
-- X11_trace: cuts []
def k_X11_tell_0 : List ZI := [(.aload_n 0, 1, (0, [0], [])), (.getfield 7, 3, (0, [11, 0], [])), (.iconst 5, 1, (0, [], [])), (.iaload, 1, (0, [], [])), (.bipush 20, 2, (0, [], [])), (.if_icmp .ne 9, 3, (0, [17], [])), (.aload_n 0, 1, (0, [0], [])), (.iconst 4, 1, (0, [], [])), (.invokevirtual 139, 3, (0, [119, 2, 0, 11], [])), (.ireturn, 1, (0, [], []))]
theorem ok_X11_tell_0 : zOK cX11_tell 11 false 2 k_X11_tell_0 0 = true := zOK_by (by decide +kernel)
def k_X11_tell_17 : List ZI := [(.aload_n 0, 1, (0, [0], [])), (.getfield 7, 3, (0, [11, 0], [])), (.sipush 188, 3, (0, [], [])), (.aload_n 0, 1, (0, [0], [])), (.getfield 7, 3, (0, [11, 0], [])), (.iconst 5, 1, (0, [], [])), (.iaload, 1, (0, [], [])), (.iadd, 1, (0, [], [])), (.iload_n 1, 1, (0, [1], [])), (.iastore, 1, (0, [], [])), (.aload_n 0, 1, (0, [0], [])), (.getfield 7, 3, (0, [11, 0], [])), (.iconst 5, 1, (0, [], [])), (.dup2, 1, (0, [], [])), (.iaload, 1, (0, [], [])), (.iconst 1, 1, (0, [], [])), (.iadd, 1, (0, [], [])), (.iastore, 1, (0, [], [])), (.aload_n 0, 1, (0, [0], [])), (.getfield 7, 3, (0, [11, 0], [])), (.iconst 5, 1, (0, [], [])), (.iaload, 1, (0, [], [])), (.ireturn, 1, (0, [], []))]
theorem ok_X11_tell_17 : zOK cX11_tell 11 false 2 k_X11_tell_17 17 = true := zOK_by (by decide +kernel)
theorem rt_X11_tell {g : Nat} {post : Option ZV → ZH → Prop} {h : ZH} {b : ZB2} {z : Int} : zRt mX11_tell g post (some (.inl z)) h b = (post (some (.inl z)) h ∧ h.1.length = g) := by show (_ ∧ _ ∧ True) = _; simp
def bk_X11_tell_17 (E : ZE) (CT : Nat → ZC) (X : ZK) (Rt : ZR) (ls : ZL) (st : List ZV) (h : ZH) (b : ZB2) : Prop := zB E CT k_X11_tell_17 17 ls st h b (fun t ls st h b => X t ls st h b) Rt
theorem bs_X11_tell_17 {E : ZE} {CT : Nat → ZC} {X : ZK} {Rt : ZR} {ls : ZL} {st : List ZV} {h : ZH} {b : ZB2} (hX : zCl E mX11_tell 11 false CT Rt X) (q : bk_X11_tell_17 E CT X Rt ls st h b) : X 17 ls st h b := by
  refine hX k_X11_tell_17 17 ok_X11_tell_17 _ ?_ ls st h b q
  exact fun t ls st h b q => q
def bk_X11_tell_0 (E : ZE) (CT : Nat → ZC) (X : ZK) (Rt : ZR) (ls : ZL) (st : List ZV) (h : ZH) (b : ZB2) : Prop := zB E CT k_X11_tell_0 0 ls st h b (fun t ls st h b => if t = 17 then bk_X11_tell_17 E CT X Rt ls st h b else X t ls st h b) Rt
theorem bs_X11_tell_0 {E : ZE} {CT : Nat → ZC} {X : ZK} {Rt : ZR} {ls : ZL} {st : List ZV} {h : ZH} {b : ZB2} (hX : zCl E mX11_tell 11 false CT Rt X) (q : bk_X11_tell_0 E CT X Rt ls st h b) : X 0 ls st h b := by
  refine hX k_X11_tell_0 0 ok_X11_tell_0 _ ?_ ls st h b q
  exact by
    intro t ls st h b q
    by_cases c : t = 17
    · subst c; rw [if_pos rfl] at q; exact bs_X11_tell_17 hX q
    rw [if_neg c] at q
    exact q
-- X11_tell: cuts []
def k_X11_image_0 : List ZI := [(.iconst 0, 1, (0, [], [])), (.istore_n 1, 1, (0, [1], []))]
theorem ok_X11_image_0 : zOK cX11_image 11 false 2 k_X11_image_0 0 = true := zOK_by (by decide +kernel)
def k_X11_image_2 : List ZI := [(.iload_n 1, 1, (0, [1], [])), (.sipush 358, 3, (0, [], [])), (.if_icmp .ge 21, 3, (0, [27], [])), (.aload_n 0, 1, (0, [0], [])), (.getfield 13, 3, (0, [11, 1], [])), (.iload_n 1, 1, (0, [1], [])), (.aload_n 0, 1, (0, [0], [])), (.getfield 7, 3, (0, [11, 0], [])), (.iload_n 1, 1, (0, [1], [])), (.iaload, 1, (0, [], [])), (.iastore, 1, (0, [], [])), (.iinc 1 1, 3, (0, [1], [])), (.goto (-22), 3, (0, [2], []))]
theorem ok_X11_image_2 : zOK cX11_image 11 false 2 k_X11_image_2 2 = true := zOK_by (by decide +kernel)
def k_X11_image_27 : List ZI := [(.aload_n 0, 1, (0, [0], [])), (.dup, 1, (0, [], [])), (.getfield 316, 3, (0, [11, 3], [])), (.iconst 1, 1, (0, [], [])), (.iadd, 1, (0, [], [])), (.putfield 316, 3, (0, [11, 3], [])), (.aload_n 0, 1, (0, [0], [])), (.getfield 316, 3, (0, [11, 3], [])), (.ireturn, 1, (0, [], []))]
theorem ok_X11_image_27 : zOK cX11_image 11 false 2 k_X11_image_27 27 = true := zOK_by (by decide +kernel)
theorem rt_X11_image {g : Nat} {post : Option ZV → ZH → Prop} {h : ZH} {b : ZB2} {z : Int} : zRt mX11_image g post (some (.inl z)) h b = (post (some (.inl z)) h ∧ h.1.length = g) := by show (_ ∧ _ ∧ True) = _; simp
def bk_X11_image_0 (E : ZE) (CT : Nat → ZC) (X : ZK) (Rt : ZR) (ls : ZL) (st : List ZV) (h : ZH) (b : ZB2) : Prop := zB E CT k_X11_image_0 0 ls st h b (fun t ls st h b => X t ls st h b) Rt
theorem bs_X11_image_0 {E : ZE} {CT : Nat → ZC} {X : ZK} {Rt : ZR} {ls : ZL} {st : List ZV} {h : ZH} {b : ZB2} (hX : zCl E mX11_image 11 false CT Rt X) (q : bk_X11_image_0 E CT X Rt ls st h b) : X 0 ls st h b := by
  refine hX k_X11_image_0 0 ok_X11_image_0 _ ?_ ls st h b q
  exact fun t ls st h b q => q
def bk_X11_image_27 (E : ZE) (CT : Nat → ZC) (X : ZK) (Rt : ZR) (ls : ZL) (st : List ZV) (h : ZH) (b : ZB2) : Prop := zB E CT k_X11_image_27 27 ls st h b (fun t ls st h b => X t ls st h b) Rt
theorem bs_X11_image_27 {E : ZE} {CT : Nat → ZC} {X : ZK} {Rt : ZR} {ls : ZL} {st : List ZV} {h : ZH} {b : ZB2} (hX : zCl E mX11_image 11 false CT Rt X) (q : bk_X11_image_27 E CT X Rt ls st h b) : X 27 ls st h b := by
  refine hX k_X11_image_27 27 ok_X11_image_27 _ ?_ ls st h b q
  exact fun t ls st h b q => q
def bk_X11_image_2 (E : ZE) (CT : Nat → ZC) (X : ZK) (Rt : ZR) (ls : ZL) (st : List ZV) (h : ZH) (b : ZB2) : Prop := zB E CT k_X11_image_2 2 ls st h b (fun t ls st h b => if t = 27 then bk_X11_image_27 E CT X Rt ls st h b else X t ls st h b) Rt
theorem bs_X11_image_2 {E : ZE} {CT : Nat → ZC} {X : ZK} {Rt : ZR} {ls : ZL} {st : List ZV} {h : ZH} {b : ZB2} (hX : zCl E mX11_image 11 false CT Rt X) (q : bk_X11_image_2 E CT X Rt ls st h b) : X 2 ls st h b := by
  refine hX k_X11_image_2 2 ok_X11_image_2 _ ?_ ls st h b q
  exact by
    intro t ls st h b q
    by_cases c : t = 27
    · subst c; rw [if_pos rfl] at q; exact bs_X11_image_27 hX q
    rw [if_neg c] at q
    exact q
-- X11_image: cuts [2]
def k_X11_restore_0 : List ZI := [(.aload_n 0, 1, (0, [0], [])), (.getfield 316, 3, (0, [11, 3], [])), (.ifCond .ne 9, 3, (0, [13], [])), (.aload_n 0, 1, (0, [0], [])), (.iconst 2, 1, (0, [], [])), (.invokevirtual 139, 3, (0, [119, 2, 0, 11], [])), (.ireturn, 1, (0, [], []))]
theorem ok_X11_restore_0 : zOK cX11_restore 11 false 2 k_X11_restore_0 0 = true := zOK_by (by decide +kernel)
def k_X11_restore_13 : List ZI := [(.iconst 0, 1, (0, [], [])), (.istore_n 1, 1, (0, [1], []))]
theorem ok_X11_restore_13 : zOK cX11_restore 11 false 2 k_X11_restore_13 13 = true := zOK_by (by decide +kernel)
def k_X11_restore_15 : List ZI := [(.iload_n 1, 1, (0, [1], [])), (.sipush 358, 3, (0, [], [])), (.if_icmp .ge 21, 3, (0, [40], [])), (.aload_n 0, 1, (0, [0], [])), (.getfield 7, 3, (0, [11, 0], [])), (.iload_n 1, 1, (0, [1], [])), (.aload_n 0, 1, (0, [0], [])), (.getfield 13, 3, (0, [11, 1], [])), (.iload_n 1, 1, (0, [1], [])), (.iaload, 1, (0, [], [])), (.iastore, 1, (0, [], [])), (.iinc 1 1, 3, (0, [1], [])), (.goto (-22), 3, (0, [15], []))]
theorem ok_X11_restore_15 : zOK cX11_restore 11 false 2 k_X11_restore_15 15 = true := zOK_by (by decide +kernel)
def k_X11_restore_40 : List ZI := [(.aload_n 0, 1, (0, [0], [])), (.getfield 7, 3, (0, [11, 0], [])), (.iconst 1, 1, (0, [], [])), (.iaload, 1, (0, [], [])), (.ireturn, 1, (0, [], []))]
theorem ok_X11_restore_40 : zOK cX11_restore 11 false 2 k_X11_restore_40 40 = true := zOK_by (by decide +kernel)
theorem rt_X11_restore {g : Nat} {post : Option ZV → ZH → Prop} {h : ZH} {b : ZB2} {z : Int} : zRt mX11_restore g post (some (.inl z)) h b = (post (some (.inl z)) h ∧ h.1.length = g) := by show (_ ∧ _ ∧ True) = _; simp
def bk_X11_restore_13 (E : ZE) (CT : Nat → ZC) (X : ZK) (Rt : ZR) (ls : ZL) (st : List ZV) (h : ZH) (b : ZB2) : Prop := zB E CT k_X11_restore_13 13 ls st h b (fun t ls st h b => X t ls st h b) Rt
theorem bs_X11_restore_13 {E : ZE} {CT : Nat → ZC} {X : ZK} {Rt : ZR} {ls : ZL} {st : List ZV} {h : ZH} {b : ZB2} (hX : zCl E mX11_restore 11 false CT Rt X) (q : bk_X11_restore_13 E CT X Rt ls st h b) : X 13 ls st h b := by
  refine hX k_X11_restore_13 13 ok_X11_restore_13 _ ?_ ls st h b q
  exact fun t ls st h b q => q
def bk_X11_restore_0 (E : ZE) (CT : Nat → ZC) (X : ZK) (Rt : ZR) (ls : ZL) (st : List ZV) (h : ZH) (b : ZB2) : Prop := zB E CT k_X11_restore_0 0 ls st h b (fun t ls st h b => if t = 13 then bk_X11_restore_13 E CT X Rt ls st h b else X t ls st h b) Rt
theorem bs_X11_restore_0 {E : ZE} {CT : Nat → ZC} {X : ZK} {Rt : ZR} {ls : ZL} {st : List ZV} {h : ZH} {b : ZB2} (hX : zCl E mX11_restore 11 false CT Rt X) (q : bk_X11_restore_0 E CT X Rt ls st h b) : X 0 ls st h b := by
  refine hX k_X11_restore_0 0 ok_X11_restore_0 _ ?_ ls st h b q
  exact by
    intro t ls st h b q
    by_cases c : t = 13
    · subst c; rw [if_pos rfl] at q; exact bs_X11_restore_13 hX q
    rw [if_neg c] at q
    exact q
def bk_X11_restore_40 (E : ZE) (CT : Nat → ZC) (X : ZK) (Rt : ZR) (ls : ZL) (st : List ZV) (h : ZH) (b : ZB2) : Prop := zB E CT k_X11_restore_40 40 ls st h b (fun t ls st h b => X t ls st h b) Rt
theorem bs_X11_restore_40 {E : ZE} {CT : Nat → ZC} {X : ZK} {Rt : ZR} {ls : ZL} {st : List ZV} {h : ZH} {b : ZB2} (hX : zCl E mX11_restore 11 false CT Rt X) (q : bk_X11_restore_40 E CT X Rt ls st h b) : X 40 ls st h b := by
  refine hX k_X11_restore_40 40 ok_X11_restore_40 _ ?_ ls st h b q
  exact fun t ls st h b q => q
def bk_X11_restore_15 (E : ZE) (CT : Nat → ZC) (X : ZK) (Rt : ZR) (ls : ZL) (st : List ZV) (h : ZH) (b : ZB2) : Prop := zB E CT k_X11_restore_15 15 ls st h b (fun t ls st h b => if t = 40 then bk_X11_restore_40 E CT X Rt ls st h b else X t ls st h b) Rt
theorem bs_X11_restore_15 {E : ZE} {CT : Nat → ZC} {X : ZK} {Rt : ZR} {ls : ZL} {st : List ZV} {h : ZH} {b : ZB2} (hX : zCl E mX11_restore 11 false CT Rt X) (q : bk_X11_restore_15 E CT X Rt ls st h b) : X 15 ls st h b := by
  refine hX k_X11_restore_15 15 ok_X11_restore_15 _ ?_ ls st h b q
  exact by
    intro t ls st h b q
    by_cases c : t = 40
    · subst c; rw [if_pos rfl] at q; exact bs_X11_restore_40 hX q
    rw [if_neg c] at q
    exact q
-- X11_restore: cuts [15]
def k_X11_put_0 : List ZI := [(.iload_n 1, 1, (0, [1], [])), (.invokestatic 269, 3, (0, [210, 1, 0, 11], [])), (.ifCond .ne 9, 3, (0, [13], [])), (.aload_n 0, 1, (0, [0], [])), (.iconst 1, 1, (0, [], [])), (.invokevirtual 139, 3, (0, [119, 2, 0, 11], [])), (.ireturn, 1, (0, [], []))]
theorem ok_X11_put_0 : zOK cX11_put 11 false 4 k_X11_put_0 0 = true := zOK_by (by decide +kernel)
def k_X11_put_13 : List ZI := [(.aload_n 0, 1, (0, [0], [])), (.getfield 44, 3, (0, [11, 21], [])), (.iload_n 1, 1, (0, [1], [])), (.iaload, 1, (0, [], [])), (.ifCond .ne 9, 3, (0, [28], [])), (.aload_n 0, 1, (0, [0], [])), (.iconst 2, 1, (0, [], [])), (.invokevirtual 139, 3, (0, [119, 2, 0, 11], [])), (.ireturn, 1, (0, [], []))]
theorem ok_X11_put_13 : zOK cX11_put 11 false 4 k_X11_put_13 13 = true := zOK_by (by decide +kernel)
def k_X11_put_28 : List ZI := [(.iload_n 2, 1, (0, [2], [])), (.i2l, 1, (0, [], [])), (.lconst 0, 1, (0, [], [])), (.aload_n 0, 1, (0, [0], [])), (.getfield 47, 3, (0, [11, 22], [])), (.iload_n 1, 1, (0, [1], [])), (.iaload, 1, (0, [], [])), (.iconst 1, 1, (0, [], [])), (.isub, 1, (0, [], [])), (.i2l, 1, (0, [], [])), (.invokestatic 61, 3, (0, [120, 3, 0, 11], [])), (.ifCond .ne 9, 3, (0, [52], [])), (.aload_n 0, 1, (0, [0], [])), (.iconst 1, 1, (0, [], [])), (.invokevirtual 139, 3, (0, [119, 2, 0, 11], [])), (.ireturn, 1, (0, [], []))]
theorem ok_X11_put_28 : zOK cX11_put 11 false 4 k_X11_put_28 28 = true := zOK_by (by decide +kernel)
def k_X11_put_52 : List ZI := [(.aload_n 0, 1, (0, [0], [])), (.getfield 50, 3, (0, [11, 23], [])), (.bipush 40, 2, (0, [], [])), (.iload_n 1, 1, (0, [1], [])), (.imul, 1, (0, [], [])), (.iload_n 2, 1, (0, [2], [])), (.iadd, 1, (0, [], [])), (.aload_n 0, 1, (0, [0], [])), (.getfield 44, 3, (0, [11, 21], [])), (.iload_n 1, 1, (0, [1], [])), (.iaload, 1, (0, [], [])), (.bipush 8, 2, (0, [], [])), (.if_icmp .ne 8, 3, (0, [78], [])), (.iload_n 3, 1, (0, [3], [])), (.i2b, 1, (0, [], [])), (.goto 20, 3, (0, [95], []))]
theorem ok_X11_put_52 : zOK cX11_put 11 false 4 k_X11_put_52 52 = true := zOK_by (by decide +kernel)
def k_X11_put_78 : List ZI := [(.aload_n 0, 1, (0, [0], [])), (.getfield 44, 3, (0, [11, 21], [])), (.iload_n 1, 1, (0, [1], [])), (.iaload, 1, (0, [], [])), (.bipush 16, 2, (0, [], [])), (.if_icmp .ne 8, 3, (0, [94], [])), (.iload_n 3, 1, (0, [3], [])), (.i2s, 1, (0, [], [])), (.goto 4, 3, (0, [95], []))]
theorem ok_X11_put_78 : zOK cX11_put 11 false 4 k_X11_put_78 78 = true := zOK_by (by decide +kernel)
def k_X11_put_94 : List ZI := [(.iload_n 3, 1, (0, [3], []))]
theorem ok_X11_put_94 : zOK cX11_put 11 false 4 k_X11_put_94 94 = true := zOK_by (by decide +kernel)
def k_X11_put_95 : List ZI := [(.iastore, 1, (0, [], [])), (.iconst 1, 1, (0, [], [])), (.ireturn, 1, (0, [], []))]
theorem ok_X11_put_95 : zOK cX11_put 11 false 4 k_X11_put_95 95 = true := zOK_by (by decide +kernel)
theorem rt_X11_put {g : Nat} {post : Option ZV → ZH → Prop} {h : ZH} {b : ZB2} {z : Int} : zRt mX11_put g post (some (.inl z)) h b = (post (some (.inl z)) h ∧ h.1.length = g) := by show (_ ∧ _ ∧ True) = _; simp
def bk_X11_put_95 (E : ZE) (CT : Nat → ZC) (X : ZK) (Rt : ZR) (ls : ZL) (st : List ZV) (h : ZH) (b : ZB2) : Prop := zB E CT k_X11_put_95 95 ls st h b (fun t ls st h b => X t ls st h b) Rt
theorem bs_X11_put_95 {E : ZE} {CT : Nat → ZC} {X : ZK} {Rt : ZR} {ls : ZL} {st : List ZV} {h : ZH} {b : ZB2} (hX : zCl E mX11_put 11 false CT Rt X) (q : bk_X11_put_95 E CT X Rt ls st h b) : X 95 ls st h b := by
  refine hX k_X11_put_95 95 ok_X11_put_95 _ ?_ ls st h b q
  exact fun t ls st h b q => q
def bk_X11_put_94 (E : ZE) (CT : Nat → ZC) (X : ZK) (Rt : ZR) (ls : ZL) (st : List ZV) (h : ZH) (b : ZB2) : Prop := zB E CT k_X11_put_94 94 ls st h b (fun t ls st h b => if t = 95 then bk_X11_put_95 E CT X Rt ls st h b else X t ls st h b) Rt
theorem bs_X11_put_94 {E : ZE} {CT : Nat → ZC} {X : ZK} {Rt : ZR} {ls : ZL} {st : List ZV} {h : ZH} {b : ZB2} (hX : zCl E mX11_put 11 false CT Rt X) (q : bk_X11_put_94 E CT X Rt ls st h b) : X 94 ls st h b := by
  refine hX k_X11_put_94 94 ok_X11_put_94 _ ?_ ls st h b q
  exact by
    intro t ls st h b q
    by_cases c : t = 95
    · subst c; rw [if_pos rfl] at q; exact bs_X11_put_95 hX q
    rw [if_neg c] at q
    exact q
def bk_X11_put_78 (E : ZE) (CT : Nat → ZC) (X : ZK) (Rt : ZR) (ls : ZL) (st : List ZV) (h : ZH) (b : ZB2) : Prop := zB E CT k_X11_put_78 78 ls st h b (fun t ls st h b => if t = 94 then bk_X11_put_94 E CT X Rt ls st h b else if t = 95 then bk_X11_put_95 E CT X Rt ls st h b else X t ls st h b) Rt
theorem bs_X11_put_78 {E : ZE} {CT : Nat → ZC} {X : ZK} {Rt : ZR} {ls : ZL} {st : List ZV} {h : ZH} {b : ZB2} (hX : zCl E mX11_put 11 false CT Rt X) (q : bk_X11_put_78 E CT X Rt ls st h b) : X 78 ls st h b := by
  refine hX k_X11_put_78 78 ok_X11_put_78 _ ?_ ls st h b q
  exact by
    intro t ls st h b q
    by_cases c : t = 94
    · subst c; rw [if_pos rfl] at q; exact bs_X11_put_94 hX q
    rw [if_neg c] at q
    by_cases c : t = 95
    · subst c; rw [if_pos rfl] at q; exact bs_X11_put_95 hX q
    rw [if_neg c] at q
    exact q
def bk_X11_put_52 (E : ZE) (CT : Nat → ZC) (X : ZK) (Rt : ZR) (ls : ZL) (st : List ZV) (h : ZH) (b : ZB2) : Prop := zB E CT k_X11_put_52 52 ls st h b (fun t ls st h b => if t = 78 then bk_X11_put_78 E CT X Rt ls st h b else if t = 95 then bk_X11_put_95 E CT X Rt ls st h b else X t ls st h b) Rt
theorem bs_X11_put_52 {E : ZE} {CT : Nat → ZC} {X : ZK} {Rt : ZR} {ls : ZL} {st : List ZV} {h : ZH} {b : ZB2} (hX : zCl E mX11_put 11 false CT Rt X) (q : bk_X11_put_52 E CT X Rt ls st h b) : X 52 ls st h b := by
  refine hX k_X11_put_52 52 ok_X11_put_52 _ ?_ ls st h b q
  exact by
    intro t ls st h b q
    by_cases c : t = 78
    · subst c; rw [if_pos rfl] at q; exact bs_X11_put_78 hX q
    rw [if_neg c] at q
    by_cases c : t = 95
    · subst c; rw [if_pos rfl] at q; exact bs_X11_put_95 hX q
    rw [if_neg c] at q
    exact q
def bk_X11_put_28 (E : ZE) (CT : Nat → ZC) (X : ZK) (Rt : ZR) (ls : ZL) (st : List ZV) (h : ZH) (b : ZB2) : Prop := zB E CT k_X11_put_28 28 ls st h b (fun t ls st h b => if t = 52 then bk_X11_put_52 E CT X Rt ls st h b else X t ls st h b) Rt
theorem bs_X11_put_28 {E : ZE} {CT : Nat → ZC} {X : ZK} {Rt : ZR} {ls : ZL} {st : List ZV} {h : ZH} {b : ZB2} (hX : zCl E mX11_put 11 false CT Rt X) (q : bk_X11_put_28 E CT X Rt ls st h b) : X 28 ls st h b := by
  refine hX k_X11_put_28 28 ok_X11_put_28 _ ?_ ls st h b q
  exact by
    intro t ls st h b q
    by_cases c : t = 52
    · subst c; rw [if_pos rfl] at q; exact bs_X11_put_52 hX q
    rw [if_neg c] at q
    exact q
def bk_X11_put_13 (E : ZE) (CT : Nat → ZC) (X : ZK) (Rt : ZR) (ls : ZL) (st : List ZV) (h : ZH) (b : ZB2) : Prop := zB E CT k_X11_put_13 13 ls st h b (fun t ls st h b => if t = 28 then bk_X11_put_28 E CT X Rt ls st h b else X t ls st h b) Rt
theorem bs_X11_put_13 {E : ZE} {CT : Nat → ZC} {X : ZK} {Rt : ZR} {ls : ZL} {st : List ZV} {h : ZH} {b : ZB2} (hX : zCl E mX11_put 11 false CT Rt X) (q : bk_X11_put_13 E CT X Rt ls st h b) : X 13 ls st h b := by
  refine hX k_X11_put_13 13 ok_X11_put_13 _ ?_ ls st h b q
  exact by
    intro t ls st h b q
    by_cases c : t = 28
    · subst c; rw [if_pos rfl] at q; exact bs_X11_put_28 hX q
    rw [if_neg c] at q
    exact q
def bk_X11_put_0 (E : ZE) (CT : Nat → ZC) (X : ZK) (Rt : ZR) (ls : ZL) (st : List ZV) (h : ZH) (b : ZB2) : Prop := zB E CT k_X11_put_0 0 ls st h b (fun t ls st h b => if t = 13 then bk_X11_put_13 E CT X Rt ls st h b else X t ls st h b) Rt
theorem bs_X11_put_0 {E : ZE} {CT : Nat → ZC} {X : ZK} {Rt : ZR} {ls : ZL} {st : List ZV} {h : ZH} {b : ZB2} (hX : zCl E mX11_put 11 false CT Rt X) (q : bk_X11_put_0 E CT X Rt ls st h b) : X 0 ls st h b := by
  refine hX k_X11_put_0 0 ok_X11_put_0 _ ?_ ls st h b q
  exact by
    intro t ls st h b q
    by_cases c : t = 13
    · subst c; rw [if_pos rfl] at q; exact bs_X11_put_13 hX q
    rw [if_neg c] at q
    exact q
-- X11_put: cuts []
def k_X11_sheet_0 : List ZI := [(.iload_n 1, 1, (0, [1], [])), (.invokestatic 269, 3, (0, [210, 1, 0, 11], [])), (.ifCond .eq 25, 3, (0, [29], [])), (.iload_n 2, 1, (0, [2], [])), (.ifCond .eq 27, 3, (0, [35], [])), (.iload_n 2, 1, (0, [2], [])), (.bipush 8, 2, (0, [], [])), (.if_icmp .eq 21, 3, (0, [35], [])), (.iload_n 2, 1, (0, [2], [])), (.bipush 16, 2, (0, [], [])), (.if_icmp .eq 15, 3, (0, [35], [])), (.iload_n 2, 1, (0, [2], [])), (.bipush 32, 2, (0, [], [])), (.if_icmp .eq 9, 3, (0, [35], []))]
theorem ok_X11_sheet_0 : zOK cX11_sheet 11 false 5 k_X11_sheet_0 0 = true := zOK_by (by decide +kernel)
def k_X11_sheet_29 : List ZI := [(.aload_n 0, 1, (0, [0], [])), (.iconst 1, 1, (0, [], [])), (.invokevirtual 139, 3, (0, [119, 2, 0, 11], [])), (.ireturn, 1, (0, [], []))]
theorem ok_X11_sheet_29 : zOK cX11_sheet 11 false 5 k_X11_sheet_29 29 = true := zOK_by (by decide +kernel)
def k_X11_sheet_35 : List ZI := [(.iload_n 2, 1, (0, [2], [])), (.ifCond .eq 13, 3, (0, [49], [])), (.iload_n 3, 1, (0, [3], [])), (.ifCond .ge 9, 3, (0, [49], [])), (.aload_n 0, 1, (0, [0], [])), (.iconst 3, 1, (0, [], [])), (.invokevirtual 139, 3, (0, [119, 2, 0, 11], [])), (.ireturn, 1, (0, [], []))]
theorem ok_X11_sheet_35 : zOK cX11_sheet 11 false 5 k_X11_sheet_35 35 = true := zOK_by (by decide +kernel)
def k_X11_sheet_49 : List ZI := [(.iload_n 2, 1, (0, [2], [])), (.ifCond .eq 15, 3, (0, [65], [])), (.iload_n 3, 1, (0, [3], [])), (.bipush 40, 2, (0, [], [])), (.if_icmp .le 9, 3, (0, [65], [])), (.aload_n 0, 1, (0, [0], [])), (.iconst 1, 1, (0, [], [])), (.invokevirtual 139, 3, (0, [119, 2, 0, 11], [])), (.ireturn, 1, (0, [], []))]
theorem ok_X11_sheet_49 : zOK cX11_sheet 11 false 5 k_X11_sheet_49 49 = true := zOK_by (by decide +kernel)
def k_X11_sheet_65 : List ZI := [(.aload_n 0, 1, (0, [0], [])), (.getfield 44, 3, (0, [11, 21], [])), (.iload_n 1, 1, (0, [1], [])), (.iload_n 2, 1, (0, [2], [])), (.iastore, 1, (0, [], [])), (.aload_n 0, 1, (0, [0], [])), (.getfield 47, 3, (0, [11, 22], [])), (.iload_n 1, 1, (0, [1], [])), (.iload_n 2, 1, (0, [2], [])), (.ifCond .ne 7, 3, (0, [85], [])), (.iconst 0, 1, (0, [], [])), (.goto 4, 3, (0, [86], []))]
theorem ok_X11_sheet_65 : zOK cX11_sheet 11 false 5 k_X11_sheet_65 65 = true := zOK_by (by decide +kernel)
def k_X11_sheet_85 : List ZI := [(.iload_n 3, 1, (0, [3], []))]
theorem ok_X11_sheet_85 : zOK cX11_sheet 11 false 5 k_X11_sheet_85 85 = true := zOK_by (by decide +kernel)
def k_X11_sheet_86 : List ZI := [(.iastore, 1, (0, [], [])), (.iconst 0, 1, (0, [], [])), (.istore 4, 2, (0, [4], []))]
theorem ok_X11_sheet_86 : zOK cX11_sheet 11 false 5 k_X11_sheet_86 86 = true := zOK_by (by decide +kernel)
def k_X11_sheet_90 : List ZI := [(.iload 4, 2, (0, [4], [])), (.bipush 40, 2, (0, [], [])), (.if_icmp .ge 22, 3, (0, [116], [])), (.aload_n 0, 1, (0, [0], [])), (.getfield 50, 3, (0, [11, 23], [])), (.bipush 40, 2, (0, [], [])), (.iload_n 1, 1, (0, [1], [])), (.imul, 1, (0, [], [])), (.iload 4, 2, (0, [4], [])), (.iadd, 1, (0, [], [])), (.iconst 0, 1, (0, [], [])), (.iastore, 1, (0, [], [])), (.iinc 4 1, 3, (0, [4], [])), (.goto (-23), 3, (0, [90], []))]
theorem ok_X11_sheet_90 : zOK cX11_sheet 11 false 5 k_X11_sheet_90 90 = true := zOK_by (by decide +kernel)
def k_X11_sheet_116 : List ZI := [(.iconst 1, 1, (0, [], [])), (.ireturn, 1, (0, [], []))]
theorem ok_X11_sheet_116 : zOK cX11_sheet 11 false 5 k_X11_sheet_116 116 = true := zOK_by (by decide +kernel)
theorem rt_X11_sheet {g : Nat} {post : Option ZV → ZH → Prop} {h : ZH} {b : ZB2} {z : Int} : zRt mX11_sheet g post (some (.inl z)) h b = (post (some (.inl z)) h ∧ h.1.length = g) := by show (_ ∧ _ ∧ True) = _; simp
def bk_X11_sheet_29 (E : ZE) (CT : Nat → ZC) (X : ZK) (Rt : ZR) (ls : ZL) (st : List ZV) (h : ZH) (b : ZB2) : Prop := zB E CT k_X11_sheet_29 29 ls st h b (fun t ls st h b => X t ls st h b) Rt
theorem bs_X11_sheet_29 {E : ZE} {CT : Nat → ZC} {X : ZK} {Rt : ZR} {ls : ZL} {st : List ZV} {h : ZH} {b : ZB2} (hX : zCl E mX11_sheet 11 false CT Rt X) (q : bk_X11_sheet_29 E CT X Rt ls st h b) : X 29 ls st h b := by
  refine hX k_X11_sheet_29 29 ok_X11_sheet_29 _ ?_ ls st h b q
  exact fun t ls st h b q => q
def bk_X11_sheet_86 (E : ZE) (CT : Nat → ZC) (X : ZK) (Rt : ZR) (ls : ZL) (st : List ZV) (h : ZH) (b : ZB2) : Prop := zB E CT k_X11_sheet_86 86 ls st h b (fun t ls st h b => X t ls st h b) Rt
theorem bs_X11_sheet_86 {E : ZE} {CT : Nat → ZC} {X : ZK} {Rt : ZR} {ls : ZL} {st : List ZV} {h : ZH} {b : ZB2} (hX : zCl E mX11_sheet 11 false CT Rt X) (q : bk_X11_sheet_86 E CT X Rt ls st h b) : X 86 ls st h b := by
  refine hX k_X11_sheet_86 86 ok_X11_sheet_86 _ ?_ ls st h b q
  exact fun t ls st h b q => q
def bk_X11_sheet_85 (E : ZE) (CT : Nat → ZC) (X : ZK) (Rt : ZR) (ls : ZL) (st : List ZV) (h : ZH) (b : ZB2) : Prop := zB E CT k_X11_sheet_85 85 ls st h b (fun t ls st h b => if t = 86 then bk_X11_sheet_86 E CT X Rt ls st h b else X t ls st h b) Rt
theorem bs_X11_sheet_85 {E : ZE} {CT : Nat → ZC} {X : ZK} {Rt : ZR} {ls : ZL} {st : List ZV} {h : ZH} {b : ZB2} (hX : zCl E mX11_sheet 11 false CT Rt X) (q : bk_X11_sheet_85 E CT X Rt ls st h b) : X 85 ls st h b := by
  refine hX k_X11_sheet_85 85 ok_X11_sheet_85 _ ?_ ls st h b q
  exact by
    intro t ls st h b q
    by_cases c : t = 86
    · subst c; rw [if_pos rfl] at q; exact bs_X11_sheet_86 hX q
    rw [if_neg c] at q
    exact q
def bk_X11_sheet_65 (E : ZE) (CT : Nat → ZC) (X : ZK) (Rt : ZR) (ls : ZL) (st : List ZV) (h : ZH) (b : ZB2) : Prop := zB E CT k_X11_sheet_65 65 ls st h b (fun t ls st h b => if t = 85 then bk_X11_sheet_85 E CT X Rt ls st h b else if t = 86 then bk_X11_sheet_86 E CT X Rt ls st h b else X t ls st h b) Rt
theorem bs_X11_sheet_65 {E : ZE} {CT : Nat → ZC} {X : ZK} {Rt : ZR} {ls : ZL} {st : List ZV} {h : ZH} {b : ZB2} (hX : zCl E mX11_sheet 11 false CT Rt X) (q : bk_X11_sheet_65 E CT X Rt ls st h b) : X 65 ls st h b := by
  refine hX k_X11_sheet_65 65 ok_X11_sheet_65 _ ?_ ls st h b q
  exact by
    intro t ls st h b q
    by_cases c : t = 85
    · subst c; rw [if_pos rfl] at q; exact bs_X11_sheet_85 hX q
    rw [if_neg c] at q
    by_cases c : t = 86
    · subst c; rw [if_pos rfl] at q; exact bs_X11_sheet_86 hX q
    rw [if_neg c] at q
    exact q
def bk_X11_sheet_49 (E : ZE) (CT : Nat → ZC) (X : ZK) (Rt : ZR) (ls : ZL) (st : List ZV) (h : ZH) (b : ZB2) : Prop := zB E CT k_X11_sheet_49 49 ls st h b (fun t ls st h b => if t = 65 then bk_X11_sheet_65 E CT X Rt ls st h b else X t ls st h b) Rt
theorem bs_X11_sheet_49 {E : ZE} {CT : Nat → ZC} {X : ZK} {Rt : ZR} {ls : ZL} {st : List ZV} {h : ZH} {b : ZB2} (hX : zCl E mX11_sheet 11 false CT Rt X) (q : bk_X11_sheet_49 E CT X Rt ls st h b) : X 49 ls st h b := by
  refine hX k_X11_sheet_49 49 ok_X11_sheet_49 _ ?_ ls st h b q
  exact by
    intro t ls st h b q
    by_cases c : t = 65
    · subst c; rw [if_pos rfl] at q; exact bs_X11_sheet_65 hX q
    rw [if_neg c] at q
    exact q
def bk_X11_sheet_35 (E : ZE) (CT : Nat → ZC) (X : ZK) (Rt : ZR) (ls : ZL) (st : List ZV) (h : ZH) (b : ZB2) : Prop := zB E CT k_X11_sheet_35 35 ls st h b (fun t ls st h b => if t = 49 then bk_X11_sheet_49 E CT X Rt ls st h b else X t ls st h b) Rt
theorem bs_X11_sheet_35 {E : ZE} {CT : Nat → ZC} {X : ZK} {Rt : ZR} {ls : ZL} {st : List ZV} {h : ZH} {b : ZB2} (hX : zCl E mX11_sheet 11 false CT Rt X) (q : bk_X11_sheet_35 E CT X Rt ls st h b) : X 35 ls st h b := by
  refine hX k_X11_sheet_35 35 ok_X11_sheet_35 _ ?_ ls st h b q
  exact by
    intro t ls st h b q
    by_cases c : t = 49
    · subst c; rw [if_pos rfl] at q; exact bs_X11_sheet_49 hX q
    rw [if_neg c] at q
    exact q
def bk_X11_sheet_0 (E : ZE) (CT : Nat → ZC) (X : ZK) (Rt : ZR) (ls : ZL) (st : List ZV) (h : ZH) (b : ZB2) : Prop := zB E CT k_X11_sheet_0 0 ls st h b (fun t ls st h b => if t = 29 then bk_X11_sheet_29 E CT X Rt ls st h b else if t = 35 then bk_X11_sheet_35 E CT X Rt ls st h b else X t ls st h b) Rt
theorem bs_X11_sheet_0 {E : ZE} {CT : Nat → ZC} {X : ZK} {Rt : ZR} {ls : ZL} {st : List ZV} {h : ZH} {b : ZB2} (hX : zCl E mX11_sheet 11 false CT Rt X) (q : bk_X11_sheet_0 E CT X Rt ls st h b) : X 0 ls st h b := by
  refine hX k_X11_sheet_0 0 ok_X11_sheet_0 _ ?_ ls st h b q
  exact by
    intro t ls st h b q
    by_cases c : t = 29
    · subst c; rw [if_pos rfl] at q; exact bs_X11_sheet_29 hX q
    rw [if_neg c] at q
    by_cases c : t = 35
    · subst c; rw [if_pos rfl] at q; exact bs_X11_sheet_35 hX q
    rw [if_neg c] at q
    exact q
def bk_X11_sheet_116 (E : ZE) (CT : Nat → ZC) (X : ZK) (Rt : ZR) (ls : ZL) (st : List ZV) (h : ZH) (b : ZB2) : Prop := zB E CT k_X11_sheet_116 116 ls st h b (fun t ls st h b => X t ls st h b) Rt
theorem bs_X11_sheet_116 {E : ZE} {CT : Nat → ZC} {X : ZK} {Rt : ZR} {ls : ZL} {st : List ZV} {h : ZH} {b : ZB2} (hX : zCl E mX11_sheet 11 false CT Rt X) (q : bk_X11_sheet_116 E CT X Rt ls st h b) : X 116 ls st h b := by
  refine hX k_X11_sheet_116 116 ok_X11_sheet_116 _ ?_ ls st h b q
  exact fun t ls st h b q => q
def bk_X11_sheet_90 (E : ZE) (CT : Nat → ZC) (X : ZK) (Rt : ZR) (ls : ZL) (st : List ZV) (h : ZH) (b : ZB2) : Prop := zB E CT k_X11_sheet_90 90 ls st h b (fun t ls st h b => if t = 116 then bk_X11_sheet_116 E CT X Rt ls st h b else X t ls st h b) Rt
theorem bs_X11_sheet_90 {E : ZE} {CT : Nat → ZC} {X : ZK} {Rt : ZR} {ls : ZL} {st : List ZV} {h : ZH} {b : ZB2} (hX : zCl E mX11_sheet 11 false CT Rt X) (q : bk_X11_sheet_90 E CT X Rt ls st h b) : X 90 ls st h b := by
  refine hX k_X11_sheet_90 90 ok_X11_sheet_90 _ ?_ ls st h b q
  exact by
    intro t ls st h b q
    by_cases c : t = 116
    · subst c; rw [if_pos rfl] at q; exact bs_X11_sheet_116 hX q
    rw [if_neg c] at q
    exact q
-- X11_sheet: cuts [90]
def B_isSheet (c : Int) (post : Option ZV → Prop) : Prop := rg c ∧ post (some (.inl (zbo (0 ≤ c ∧ c ≤ 3))))
def C_isSheet : ZC := fun as h post => match as with
  | [.inl c] => B_isSheet c (fun v => post v h)
  | _ => False
theorem r_isSheet {c : Int} {h : ZH} {post : Option ZV → ZH → Prop} : C_isSheet [.inl c] h post = B_isSheet c (fun v => post v h) := rfl
def ct_isSheet : Nat → ZC := fun n => if n = 120 then C_in else fun _ _ _ => False
theorem ct_isSheet_in {as : List ZV} {h : ZH} {post : Option ZV → ZH → Prop} : ct_isSheet 120 as h post = C_in as h post := rfl
theorem c_isSheet {E : ZE} {d : Nat} (hd : 2 ≤ d) : zMet E d mX11_isSheet C_isSheet := by
  refine zmet_of (o := 11) (ini := false) (CT := ct_isSheet) gd_X11_isSheet rfl (fun h => by cases h) (by omega) ?_ ?_
  · intro n as h post hh
    unfold ct_isSheet at hh
    by_cases c : n = 120
    · subst c; exact ⟨gd_X11_in, 1, by omega, c_in (by omega)⟩
    rw [if_neg c] at hh
    exact hh.elim
  intro as h post hC
  match as, hC with
  | [.inl c], hC =>
    refine ⟨Nat.le_of_ble_eq_true rfl, fun X hX => bs_X11_isSheet_0 hX ?_⟩
    have hC : B_isSheet c (fun v => post v h) := hC
    simp only [B_isSheet] at hC
    show bk_X11_isSheet_0 E ct_isSheet X _ [some (.inl c)] [] h (0, 0)
    obtain ⟨h1, hC⟩ := hC
    simp only [bk_X11_isSheet_0, k_X11_isSheet_0, ↓e_rk1, ↓e_rk0, ↓e_sk0, ↓e_sks, ↓e_ldi0, ↓e_ldis, ↓e_ldl0, ↓e_ldls, ↓e_lda0, ↓e_ldas, ↓e_ok0, ↓e_okss, ↓e_ok1i, ↓e_ok1r, ↓e_ok1n, ↓e_sti, ↓e_sta, ↓e_1, ↓e_2, ↓e_l1, ↓e_l2, ↓e_li, ↓e_sw0, ↓e_sws, ↓e_ceq, ↓e_cne, ↓e_clt, ↓e_cge, ↓e_cgt, ↓e_cle, ↓e_nil, ↓e_cons, ↓e_iconst, ↓e_bipush, ↓e_sipush, ↓e_ldc, ↓e_ldcw, ↓e_ldc2, ↓e_lconst, ↓e_iloadn, ↓e_iload, ↓e_lloadn, ↓e_lload, ↓e_aloadn, ↓e_aload, ↓e_istoren, ↓e_istore, ↓e_astoren, ↓e_astore, ↓e_add, ↓e_iinc, ↓e_iadd, ↓e_isub, ↓e_imul, ↓e_iand, ↓e_ior, ↓e_ixor, ↓e_ishl, ↓e_iushr, ↓e_idiv, ↓e_irem, ↓e_ineg, ↓e_i2l, ↓e_i2b, ↓e_i2s, ↓e_l2i, ↓e_land, ↓e_lor, ↓e_lshl, ↓e_lshr, ↓e_lushr, ↓e_lcmp, ↓e_dupi, ↓e_dupr, ↓e_popi, ↓e_dup2, ↓e_goto, ↓e_if, ↓e_icmp, ↓e_tsw, ↓e_lsw, ↓e_getf, ↓e_putf, ↓e_gets, ↓e_iald, ↓e_cald, ↓e_iast, ↓e_aald, ↓e_aast, ↓e_len, ↓e_copy, ↓e_abs, ↓e_max, ↓e_min, ↓e_iret, ↓e_aret, ↓e_vret, ↓e_is0, ↓e_is1, ↓e_is2, ↓e_is3, ↓e_is4, ↓e_iv1, ↓e_iv2, ↓e_iv3, ↓e_iv4, ↓e_iv5, ↓e_iv6, ↓rt_X11_isSheet, ↓reduceIte, Nat.reduceAdd, Nat.reduceEqDiff, ↓zcl0, ↓zclv, List.map_nil, List.sum_nil, List.map_cons, List.sum_cons, zcat, true_and, and_true, Nat.reduceLeDiff, Nat.reduceAdd, eq_self, forall_const, e_ok0, e_okss, e_ok1i, e_ok1r, e_ok1n, zq_0, zq_3, Int.reduceToNat, Int.reduceAdd, Int.reduceMul, Int.reduceSub, Int.reduceNeg, Int.reduceLT, Int.reduceLE, Int.reduceEq, not_false_eq_true, not_true_eq_false, false_implies, true_implies, implies_true, Int.reduceDiv, Int.reduceMod, zr8_zr, zr_zbo, z01_zbo, z01_0, z01_1, zbo_eq0, zup_eq, zup_o, zup_k, ne_eq, ↓ct_isSheet_in, ↓r_in, ↓B_in, zr_rg, h1, zr8_zr, zr_zbo, zbo_01, zr8_rg, h1]
    exact hC
def R_trace (S : ZMm) (k : Int) : Int × ZMm := if 0 ≤ k ∧ k < S 87 19 then (S 97 k.toNat, S) else no S 2
def B_trace (k : Int) (M : Nat → Nat → Int) (post : Option ZV → (Nat → Nat → Int) → Prop) : Prop := rg k ∧ pub M (R_trace (st M) k) post
def C_trace : ZC := fun as h post => match as with
  | [.inr (.inr (.inl 87)), .inl k] => h.1 = zG ∧ B_trace k h.2 (fun v M => post v (zG, M))
  | _ => False
theorem r_trace {k : Int} {M : Nat → Nat → Int} {post : Option ZV → ZH → Prop} : C_trace [.inr (.inr (.inl 87)), .inl k] (zG, M) post = B_trace k M (fun v M => post v (zG, M)) := by show (zG = zG ∧ _) = _; simp
def ct_trace : Nat → ZC := fun n => if n = 120 then C_in else if n = 119 then C_finds else fun _ _ _ => False
theorem ct_trace_in {as : List ZV} {h : ZH} {post : Option ZV → ZH → Prop} : ct_trace 120 as h post = C_in as h post := rfl
theorem ct_trace_finds {as : List ZV} {h : ZH} {post : Option ZV → ZH → Prop} : ct_trace 119 as h post = C_finds as h post := rfl
theorem c_trace {E : ZE} {d : Nat} (hd : 2 ≤ d) : zMet E d mX11_trace C_trace := by
  refine zmet_of (o := 11) (ini := false) (CT := ct_trace) gd_X11_trace rfl (fun h => by cases h) (by omega) ?_ ?_
  · intro n as h post hh
    unfold ct_trace at hh
    by_cases c : n = 120
    · subst c; exact ⟨gd_X11_in, 1, by omega, c_in (by omega)⟩
    rw [if_neg c] at hh
    by_cases c : n = 119
    · subst c; exact ⟨gd_X11_finds, 1, by omega, c_finds (by omega)⟩
    rw [if_neg c] at hh
    exact hh.elim
  intro as h post hC
  match as, hC with
  | [.inr (.inr (.inl 87)), .inl k], hC =>
    refine ⟨Nat.le_of_ble_eq_true rfl, fun X hX => bs_X11_trace_0 hX ?_⟩
    obtain ⟨G, M⟩ := h
    obtain ⟨hG, hC⟩ := hC
    dsimp only at hG
    subst hG
    simp only [B_trace] at hC
    show bk_X11_trace_0 E ct_trace X _ [some (.inr (.inr (.inl 87))), some (.inl k)] [] (zG, M) (0, 0)
    obtain ⟨h1, hC⟩ := hC
    have mn : 0 ≤ st M 87 19 ∧ st M 87 19 ≤ 40 := hC.1.2.2.2.2.1
    have e19 : st M 87 19 = M 87 19 := rfl
    have z1 : zr (M 87 19 - 1) = M 87 19 - 1 := zr_of (by omega) (by omega)
    have z8 : zr8 (M 87 19 - 1) = M 87 19 - 1 := zr8_of (by omega) (by omega)
    simp only [bk_X11_trace_0, k_X11_trace_0, bk_X11_trace_25, k_X11_trace_25, bk_X11_trace_30, k_X11_trace_30, ↓e_rk1, ↓e_rk0, ↓e_sk0, ↓e_sks, ↓e_ldi0, ↓e_ldis, ↓e_ldl0, ↓e_ldls, ↓e_lda0, ↓e_ldas, ↓e_ok0, ↓e_okss, ↓e_ok1i, ↓e_ok1r, ↓e_ok1n, ↓e_sti, ↓e_sta, ↓e_1, ↓e_2, ↓e_l1, ↓e_l2, ↓e_li, ↓e_sw0, ↓e_sws, ↓e_ceq, ↓e_cne, ↓e_clt, ↓e_cge, ↓e_cgt, ↓e_cle, ↓e_nil, ↓e_cons, ↓e_iconst, ↓e_bipush, ↓e_sipush, ↓e_ldc, ↓e_ldcw, ↓e_ldc2, ↓e_lconst, ↓e_iloadn, ↓e_iload, ↓e_lloadn, ↓e_lload, ↓e_aloadn, ↓e_aload, ↓e_istoren, ↓e_istore, ↓e_astoren, ↓e_astore, ↓e_add, ↓e_iinc, ↓e_iadd, ↓e_isub, ↓e_imul, ↓e_iand, ↓e_ior, ↓e_ixor, ↓e_ishl, ↓e_iushr, ↓e_idiv, ↓e_irem, ↓e_ineg, ↓e_i2l, ↓e_i2b, ↓e_i2s, ↓e_l2i, ↓e_land, ↓e_lor, ↓e_lshl, ↓e_lshr, ↓e_lushr, ↓e_lcmp, ↓e_dupi, ↓e_dupr, ↓e_popi, ↓e_dup2, ↓e_goto, ↓e_if, ↓e_icmp, ↓e_tsw, ↓e_lsw, ↓e_getf, ↓e_putf, ↓e_gets, ↓e_iald, ↓e_cald, ↓e_iast, ↓e_aald, ↓e_aast, ↓e_len, ↓e_copy, ↓e_abs, ↓e_max, ↓e_min, ↓e_iret, ↓e_aret, ↓e_vret, ↓e_is0, ↓e_is1, ↓e_is2, ↓e_is3, ↓e_is4, ↓e_iv1, ↓e_iv2, ↓e_iv3, ↓e_iv4, ↓e_iv5, ↓e_iv6, ↓rt_X11_trace, ↓reduceIte, Nat.reduceAdd, Nat.reduceEqDiff, ↓zcl0, ↓zclv, List.map_nil, List.sum_nil, List.map_cons, List.sum_cons, zcat, true_and, and_true, Nat.reduceLeDiff, Nat.reduceAdd, eq_self, forall_const, e_ok0, e_okss, e_ok1i, e_ok1r, e_ok1n, zl_1, zl_2, zq_0, Int.reduceToNat, Int.reduceAdd, Int.reduceMul, Int.reduceSub, Int.reduceNeg, Int.reduceLT, Int.reduceLE, Int.reduceEq, not_false_eq_true, not_true_eq_false, false_implies, true_implies, implies_true, Int.reduceDiv, Int.reduceMod, zr8_zr, zr_zbo, z01_zbo, z01_0, z01_1, zbo_eq0, zup_eq, zup_o, zup_k, ne_eq, ↓ct_trace_in, ↓r_in, ↓B_in, ↓ct_trace_finds, ↓r_finds, ↓B_finds, ↓v_87, ↓g_87_0, ↓l_88, ↓s_88, ↓n_88, ↓g_87_1, ↓l_89, ↓s_89, ↓n_89, ↓g_87_2, ↓l_90, ↓s_90, ↓n_90, ↓g_87_3, ↓p_87_3, ↓g_87_4, ↓l_91, ↓s_91, ↓n_91, ↓g_87_5, ↓p_87_5, ↓g_87_6, ↓p_87_6, ↓g_87_7, ↓p_87_7, ↓g_87_8, ↓p_87_8, ↓g_87_9, ↓p_87_9, ↓g_87_10, ↓p_87_10, ↓g_87_11, ↓l_92, ↓s_92, ↓n_92, ↓g_87_12, ↓l_93, ↓s_93, ↓n_93, ↓g_87_13, ↓p_87_13, ↓g_87_14, ↓l_94, ↓s_94, ↓n_94, ↓g_87_15, ↓p_87_15, ↓g_87_16, ↓l_95, ↓s_95, ↓n_95, ↓g_87_17, ↓l_96, ↓s_96, ↓n_96, ↓g_87_18, ↓l_97, ↓s_97, ↓n_97, ↓g_87_19, ↓p_87_19, ↓g_87_20, ↓p_87_20, ↓g_87_21, ↓l_98, ↓s_98, ↓n_98, ↓g_87_22, ↓l_99, ↓s_99, ↓n_99, ↓g_87_23, ↓l_100, ↓s_100, ↓n_100, ↓g_87_24, ↓l_101, ↓s_101, ↓n_101, zr_rg, h1, zr8_rg, h1, z1, z8, zr8_zr, zr_zbo, zbo_01, zbo_eq0, zbo_eq1]
    repeat' (first | assumption | apply And.intro | intro _)
    all_goals first | omega | (refine pub_no hC ?_ rfl; simp only [R_trace]; (repeat' split) <;> first | rfl | omega) | (refine pub_id hC ?_; simp only [R_trace]; (repeat' split) <;> first | rfl | omega) | (refine pub_sc hC (by assumption) ?_; simp only [R_trace]; (repeat' split) <;> first | rfl | omega) | (refine pub_pt hC (by assumption) (by assumption) ?_; simp only [R_trace]; (repeat' split) <;> first | rfl | omega) | (refine pub_s8 hC ?_; simp only [R_trace]; (repeat' split) <;> first | rfl | omega) | (refine pub_sd hC ?_; simp only [R_trace]; (repeat' split) <;> first | rfl | omega)
def R_tell (S : ZMm) (v : Int) : Int × ZMm := if S 88 5 = 20 then no S 4 else (S 88 5 + 1, r88 S (up1 (up1 (S 88) (188 + S 88 5).toNat v) 5 (S 88 5 + 1)))
def B_tell (v : Int) (M : Nat → Nat → Int) (post : Option ZV → (Nat → Nat → Int) → Prop) : Prop := pub M (R_tell (st M) v) post
def C_tell : ZC := fun as h post => match as with
  | [.inr (.inr (.inl 87)), .inl v] => h.1 = zG ∧ B_tell v h.2 (fun v M => post v (zG, M))
  | _ => False
theorem r_tell {v : Int} {M : Nat → Nat → Int} {post : Option ZV → ZH → Prop} : C_tell [.inr (.inr (.inl 87)), .inl v] (zG, M) post = B_tell v M (fun v M => post v (zG, M)) := by show (zG = zG ∧ _) = _; simp
def ct_tell : Nat → ZC := fun n => if n = 119 then C_finds else fun _ _ _ => False
theorem ct_tell_finds {as : List ZV} {h : ZH} {post : Option ZV → ZH → Prop} : ct_tell 119 as h post = C_finds as h post := rfl
theorem c_tell {E : ZE} {d : Nat} (hd : 2 ≤ d) : zMet E d mX11_tell C_tell := by
  refine zmet_of (o := 11) (ini := false) (CT := ct_tell) gd_X11_tell rfl (fun h => by cases h) (by omega) ?_ ?_
  · intro n as h post hh
    unfold ct_tell at hh
    by_cases c : n = 119
    · subst c; exact ⟨gd_X11_finds, 1, by omega, c_finds (by omega)⟩
    rw [if_neg c] at hh
    exact hh.elim
  intro as h post hC
  match as, hC with
  | [.inr (.inr (.inl 87)), .inl v], hC =>
    refine ⟨Nat.le_of_ble_eq_true rfl, fun X hX => bs_X11_tell_0 hX ?_⟩
    obtain ⟨G, M⟩ := h
    obtain ⟨hG, hC⟩ := hC
    dsimp only at hG
    subst hG
    simp only [B_tell] at hC
    show bk_X11_tell_0 E ct_tell X _ [some (.inr (.inr (.inl 87))), some (.inl v)] [] (zG, M) (0, 0)
    have vd : Vd (M 88) := hC.1.1
    have v5 := vd.2.2.2.2.1
    have s5 : st M 88 5 = M 88 5 := rfl
    have z5 : zr (M 88 5) = M 88 5 := zr_of (by omega) (by omega)
    have zw : zr (188 + M 88 5) = 188 + M 88 5 := zr_of (by omega) (by omega)
    simp only [bk_X11_tell_0, k_X11_tell_0, bk_X11_tell_17, k_X11_tell_17, ↓e_rk1, ↓e_rk0, ↓e_sk0, ↓e_sks, ↓e_ldi0, ↓e_ldis, ↓e_ldl0, ↓e_ldls, ↓e_lda0, ↓e_ldas, ↓e_ok0, ↓e_okss, ↓e_ok1i, ↓e_ok1r, ↓e_ok1n, ↓e_sti, ↓e_sta, ↓e_1, ↓e_2, ↓e_l1, ↓e_l2, ↓e_li, ↓e_sw0, ↓e_sws, ↓e_ceq, ↓e_cne, ↓e_clt, ↓e_cge, ↓e_cgt, ↓e_cle, ↓e_nil, ↓e_cons, ↓e_iconst, ↓e_bipush, ↓e_sipush, ↓e_ldc, ↓e_ldcw, ↓e_ldc2, ↓e_lconst, ↓e_iloadn, ↓e_iload, ↓e_lloadn, ↓e_lload, ↓e_aloadn, ↓e_aload, ↓e_istoren, ↓e_istore, ↓e_astoren, ↓e_astore, ↓e_add, ↓e_iinc, ↓e_iadd, ↓e_isub, ↓e_imul, ↓e_iand, ↓e_ior, ↓e_ixor, ↓e_ishl, ↓e_iushr, ↓e_idiv, ↓e_irem, ↓e_ineg, ↓e_i2l, ↓e_i2b, ↓e_i2s, ↓e_l2i, ↓e_land, ↓e_lor, ↓e_lshl, ↓e_lshr, ↓e_lushr, ↓e_lcmp, ↓e_dupi, ↓e_dupr, ↓e_popi, ↓e_dup2, ↓e_goto, ↓e_if, ↓e_icmp, ↓e_tsw, ↓e_lsw, ↓e_getf, ↓e_putf, ↓e_gets, ↓e_iald, ↓e_cald, ↓e_iast, ↓e_aald, ↓e_aast, ↓e_len, ↓e_copy, ↓e_abs, ↓e_max, ↓e_min, ↓e_iret, ↓e_aret, ↓e_vret, ↓e_is0, ↓e_is1, ↓e_is2, ↓e_is3, ↓e_is4, ↓e_iv1, ↓e_iv2, ↓e_iv3, ↓e_iv4, ↓e_iv5, ↓e_iv6, ↓rt_X11_tell, ↓reduceIte, Nat.reduceAdd, Nat.reduceEqDiff, ↓zcl0, ↓zclv, List.map_nil, List.sum_nil, List.map_cons, List.sum_cons, zcat, true_and, and_true, Nat.reduceLeDiff, Nat.reduceAdd, eq_self, forall_const, e_ok0, e_okss, e_ok1i, e_ok1r, e_ok1n, zl_1, zl_4, zl_5, zl_20, zl_188, Int.reduceToNat, Int.reduceAdd, Int.reduceMul, Int.reduceSub, Int.reduceNeg, Int.reduceLT, Int.reduceLE, Int.reduceEq, not_false_eq_true, not_true_eq_false, false_implies, true_implies, implies_true, Int.reduceDiv, Int.reduceMod, zr8_zr, zr_zbo, z01_zbo, z01_0, z01_1, zbo_eq0, zup_eq, zup_o, zup_k, ne_eq, ↓ct_tell_finds, ↓r_finds, ↓B_finds, ↓v_87, ↓g_87_0, ↓l_88, ↓s_88, ↓n_88, ↓g_87_1, ↓l_89, ↓s_89, ↓n_89, ↓g_87_2, ↓l_90, ↓s_90, ↓n_90, ↓g_87_3, ↓p_87_3, ↓g_87_4, ↓l_91, ↓s_91, ↓n_91, ↓g_87_5, ↓p_87_5, ↓g_87_6, ↓p_87_6, ↓g_87_7, ↓p_87_7, ↓g_87_8, ↓p_87_8, ↓g_87_9, ↓p_87_9, ↓g_87_10, ↓p_87_10, ↓g_87_11, ↓l_92, ↓s_92, ↓n_92, ↓g_87_12, ↓l_93, ↓s_93, ↓n_93, ↓g_87_13, ↓p_87_13, ↓g_87_14, ↓l_94, ↓s_94, ↓n_94, ↓g_87_15, ↓p_87_15, ↓g_87_16, ↓l_95, ↓s_95, ↓n_95, ↓g_87_17, ↓l_96, ↓s_96, ↓n_96, ↓g_87_18, ↓l_97, ↓s_97, ↓n_97, ↓g_87_19, ↓p_87_19, ↓g_87_20, ↓p_87_20, ↓g_87_21, ↓l_98, ↓s_98, ↓n_98, ↓g_87_22, ↓l_99, ↓s_99, ↓n_99, ↓g_87_23, ↓l_100, ↓s_100, ↓n_100, ↓g_87_24, ↓l_101, ↓s_101, ↓n_101, z5, zw]
    refine ⟨fun c => ?_, fun c => ⟨by omega, by omega, ?_⟩⟩
    · exact pub_no hC (by unfold R_tell; rw [if_pos (by omega)]) rfl
    rw [zup_k (by omega)]
    refine pub_88 hC (fun x q _ _ _ => by rw [zup_ne _ q, zup_ne _ q]) ?_
    unfold R_tell
    rw [if_neg (by omega), zup_up, zup_up]
    rfl
theorem st_row {M M' : ZMm} {y : Nat} (h : ∀ x, ¬ x = y → M' x = M x) (hy : ∀ k, kpt y k = true) : st M' = fun x => if x = y then M' y else st M x := by
  funext x k
  by_cases q : x = y
  · subst q
    rw [if_pos rfl]
    unfold st
    rw [if_pos (hy k)]
  · rw [if_neg q]
    unfold st
    rw [h x q]
def R_image (S : ZMm) : Int × ZMm := (S 87 3 + 1, zup (fun x => if x = 89 then (fun k => if k < 358 then S 88 k else S 89 k) else S x) 87 3 (S 87 3 + 1))
def B_image (M : Nat → Nat → Int) (post : Option ZV → (Nat → Nat → Int) → Prop) : Prop := pub M (R_image (st M)) post
def C_image : ZC := fun as h post => match as with
  | [.inr (.inr (.inl 87))] => h.1 = zG ∧ B_image h.2 (fun v M => post v (zG, M))
  | _ => False
theorem r_image {M : Nat → Nat → Int} {post : Option ZV → ZH → Prop} : C_image [.inr (.inr (.inl 87))] (zG, M) post = B_image M (fun v M => post v (zG, M)) := by show (zG = zG ∧ _) = _; simp
def ct_image : Nat → ZC := fun n => fun _ _ _ => False
theorem c_image {E : ZE} {d : Nat} (hd : 1 ≤ d) : zMet E d mX11_image C_image := by
  refine zmet_of (o := 11) (ini := false) (CT := ct_image) gd_X11_image rfl (fun h => by cases h) (by omega) ?_ ?_
  · intro n as h post hh
    unfold ct_image at hh
    exact hh.elim
  intro as h post hC
  match as, hC with
  | [.inr (.inr (.inl 87))], hC =>
    refine ⟨Nat.le_of_ble_eq_true rfl, fun X hX => bs_X11_image_0 hX ?_⟩
    obtain ⟨G, M⟩ := h
    obtain ⟨hG, hC⟩ := hC
    dsimp only at hG
    subst hG
    simp only [B_image] at hC
    show bk_X11_image_0 E ct_image X _ [some (.inr (.inr (.inl 87))), none] [] (zG, M) (0, 0)
    simp only [bk_X11_image_0, k_X11_image_0, bk_X11_image_2, k_X11_image_2, bk_X11_image_27, k_X11_image_27, ↓e_rk1, ↓e_rk0, ↓e_sk0, ↓e_sks, ↓e_ldi0, ↓e_ldis, ↓e_ldl0, ↓e_ldls, ↓e_lda0, ↓e_ldas, ↓e_ok0, ↓e_okss, ↓e_ok1i, ↓e_ok1r, ↓e_ok1n, ↓e_sti, ↓e_sta, ↓e_1, ↓e_2, ↓e_l1, ↓e_l2, ↓e_li, ↓e_sw0, ↓e_sws, ↓e_ceq, ↓e_cne, ↓e_clt, ↓e_cge, ↓e_cgt, ↓e_cle, ↓e_nil, ↓e_cons, ↓e_iconst, ↓e_bipush, ↓e_sipush, ↓e_ldc, ↓e_ldcw, ↓e_ldc2, ↓e_lconst, ↓e_iloadn, ↓e_iload, ↓e_lloadn, ↓e_lload, ↓e_aloadn, ↓e_aload, ↓e_istoren, ↓e_istore, ↓e_astoren, ↓e_astore, ↓e_add, ↓e_iinc, ↓e_iadd, ↓e_isub, ↓e_imul, ↓e_iand, ↓e_ior, ↓e_ixor, ↓e_ishl, ↓e_iushr, ↓e_idiv, ↓e_irem, ↓e_ineg, ↓e_i2l, ↓e_i2b, ↓e_i2s, ↓e_l2i, ↓e_land, ↓e_lor, ↓e_lshl, ↓e_lshr, ↓e_lushr, ↓e_lcmp, ↓e_dupi, ↓e_dupr, ↓e_popi, ↓e_dup2, ↓e_goto, ↓e_if, ↓e_icmp, ↓e_tsw, ↓e_lsw, ↓e_getf, ↓e_putf, ↓e_gets, ↓e_iald, ↓e_cald, ↓e_iast, ↓e_aald, ↓e_aast, ↓e_len, ↓e_copy, ↓e_abs, ↓e_max, ↓e_min, ↓e_iret, ↓e_aret, ↓e_vret, ↓e_is0, ↓e_is1, ↓e_is2, ↓e_is3, ↓e_is4, ↓e_iv1, ↓e_iv2, ↓e_iv3, ↓e_iv4, ↓e_iv5, ↓e_iv6, ↓rt_X11_image, ↓reduceIte, Nat.reduceAdd, Nat.reduceEqDiff, ↓zcl0, ↓zclv, List.map_nil, List.sum_nil, List.map_cons, List.sum_cons, zcat, true_and, and_true, Nat.reduceLeDiff, Nat.reduceAdd, eq_self, forall_const, e_ok0, e_okss, e_ok1i, e_ok1r, e_ok1n, zl_0, zl_1, zl_358, Int.reduceToNat, Int.reduceAdd, Int.reduceMul, Int.reduceSub, Int.reduceNeg, Int.reduceLT, Int.reduceLE, Int.reduceEq, not_false_eq_true, not_true_eq_false, false_implies, true_implies, implies_true, Int.reduceDiv, Int.reduceMod, zr8_zr, zr_zbo, z01_zbo, z01_0, z01_1, zbo_eq0, zup_eq, zup_o, zup_k, ne_eq, ↓v_87, ↓g_87_0, ↓l_88, ↓s_88, ↓n_88, ↓g_87_1, ↓l_89, ↓s_89, ↓n_89, ↓g_87_2, ↓l_90, ↓s_90, ↓n_90, ↓g_87_3, ↓p_87_3, ↓g_87_4, ↓l_91, ↓s_91, ↓n_91, ↓g_87_5, ↓p_87_5, ↓g_87_6, ↓p_87_6, ↓g_87_7, ↓p_87_7, ↓g_87_8, ↓p_87_8, ↓g_87_9, ↓p_87_9, ↓g_87_10, ↓p_87_10, ↓g_87_11, ↓l_92, ↓s_92, ↓n_92, ↓g_87_12, ↓l_93, ↓s_93, ↓n_93, ↓g_87_13, ↓p_87_13, ↓g_87_14, ↓l_94, ↓s_94, ↓n_94, ↓g_87_15, ↓p_87_15, ↓g_87_16, ↓l_95, ↓s_95, ↓n_95, ↓g_87_17, ↓l_96, ↓s_96, ↓n_96, ↓g_87_18, ↓l_97, ↓s_97, ↓n_97, ↓g_87_19, ↓p_87_19, ↓g_87_20, ↓p_87_20, ↓g_87_21, ↓l_98, ↓s_98, ↓n_98, ↓g_87_22, ↓l_99, ↓s_99, ↓n_99, ↓g_87_23, ↓l_100, ↓s_100, ↓n_100, ↓g_87_24, ↓l_101, ↓s_101, ↓n_101]
    have lp : ∀ (j k : Nat) (M' : ZMm), j + k = 358 → M' 89 = (fun i => if i < k then M 88 i else M 89 i) → (∀ x, ¬ x = 89 → M' x = M x) → X 2 [some (.inr (.inr (.inl 87))), some (.inl (k : Int))] [] (zG, M') (0, 0) := by
      intro j
      induction j with
      | zero =>
        intro k M' hk hd hM
        refine bs_X11_image_2 hX ?_
        have zk : zr (k : Int) = k := zr_of (by omega) (by omega)
        have lk : ((k : Int) < 358) = False := eq_false (by omega)
        simp only [bk_X11_image_0, k_X11_image_0, bk_X11_image_2, k_X11_image_2, bk_X11_image_27, k_X11_image_27, ↓e_rk1, ↓e_rk0, ↓e_sk0, ↓e_sks, ↓e_ldi0, ↓e_ldis, ↓e_ldl0, ↓e_ldls, ↓e_lda0, ↓e_ldas, ↓e_ok0, ↓e_okss, ↓e_ok1i, ↓e_ok1r, ↓e_ok1n, ↓e_sti, ↓e_sta, ↓e_1, ↓e_2, ↓e_l1, ↓e_l2, ↓e_li, ↓e_sw0, ↓e_sws, ↓e_ceq, ↓e_cne, ↓e_clt, ↓e_cge, ↓e_cgt, ↓e_cle, ↓e_nil, ↓e_cons, ↓e_iconst, ↓e_bipush, ↓e_sipush, ↓e_ldc, ↓e_ldcw, ↓e_ldc2, ↓e_lconst, ↓e_iloadn, ↓e_iload, ↓e_lloadn, ↓e_lload, ↓e_aloadn, ↓e_aload, ↓e_istoren, ↓e_istore, ↓e_astoren, ↓e_astore, ↓e_add, ↓e_iinc, ↓e_iadd, ↓e_isub, ↓e_imul, ↓e_iand, ↓e_ior, ↓e_ixor, ↓e_ishl, ↓e_iushr, ↓e_idiv, ↓e_irem, ↓e_ineg, ↓e_i2l, ↓e_i2b, ↓e_i2s, ↓e_l2i, ↓e_land, ↓e_lor, ↓e_lshl, ↓e_lshr, ↓e_lushr, ↓e_lcmp, ↓e_dupi, ↓e_dupr, ↓e_popi, ↓e_dup2, ↓e_goto, ↓e_if, ↓e_icmp, ↓e_tsw, ↓e_lsw, ↓e_getf, ↓e_putf, ↓e_gets, ↓e_iald, ↓e_cald, ↓e_iast, ↓e_aald, ↓e_aast, ↓e_len, ↓e_copy, ↓e_abs, ↓e_max, ↓e_min, ↓e_iret, ↓e_aret, ↓e_vret, ↓e_is0, ↓e_is1, ↓e_is2, ↓e_is3, ↓e_is4, ↓e_iv1, ↓e_iv2, ↓e_iv3, ↓e_iv4, ↓e_iv5, ↓e_iv6, ↓rt_X11_image, ↓reduceIte, Nat.reduceAdd, Nat.reduceEqDiff, ↓zcl0, ↓zclv, List.map_nil, List.sum_nil, List.map_cons, List.sum_cons, zcat, true_and, and_true, Nat.reduceLeDiff, Nat.reduceAdd, eq_self, forall_const, e_ok0, e_okss, e_ok1i, e_ok1r, e_ok1n, zl_0, zl_1, zl_358, Int.reduceToNat, Int.reduceAdd, Int.reduceMul, Int.reduceSub, Int.reduceNeg, Int.reduceLT, Int.reduceLE, Int.reduceEq, not_false_eq_true, not_true_eq_false, false_implies, true_implies, implies_true, Int.reduceDiv, Int.reduceMod, zr8_zr, zr_zbo, z01_zbo, z01_0, z01_1, zbo_eq0, zup_eq, zup_o, zup_k, ne_eq, ↓v_87, ↓g_87_0, ↓l_88, ↓s_88, ↓n_88, ↓g_87_1, ↓l_89, ↓s_89, ↓n_89, ↓g_87_2, ↓l_90, ↓s_90, ↓n_90, ↓g_87_3, ↓p_87_3, ↓g_87_4, ↓l_91, ↓s_91, ↓n_91, ↓g_87_5, ↓p_87_5, ↓g_87_6, ↓p_87_6, ↓g_87_7, ↓p_87_7, ↓g_87_8, ↓p_87_8, ↓g_87_9, ↓p_87_9, ↓g_87_10, ↓p_87_10, ↓g_87_11, ↓l_92, ↓s_92, ↓n_92, ↓g_87_12, ↓l_93, ↓s_93, ↓n_93, ↓g_87_13, ↓p_87_13, ↓g_87_14, ↓l_94, ↓s_94, ↓n_94, ↓g_87_15, ↓p_87_15, ↓g_87_16, ↓l_95, ↓s_95, ↓n_95, ↓g_87_17, ↓l_96, ↓s_96, ↓n_96, ↓g_87_18, ↓l_97, ↓s_97, ↓n_97, ↓g_87_19, ↓p_87_19, ↓g_87_20, ↓p_87_20, ↓g_87_21, ↓l_98, ↓s_98, ↓n_98, ↓g_87_22, ↓l_99, ↓s_99, ↓n_99, ↓g_87_23, ↓l_100, ↓s_100, ↓n_100, ↓g_87_24, ↓l_101, ↓s_101, ↓n_101, zk, lk]
        rw [hM 87 (by decide)]
        refine pub_of hC ?_ (by rw [zup_k (by decide), hM 87 (by decide)]) (fun x q => by rw [zup_ne _ (by omega), hM x (by omega)])
        rw [st_up rfl, st_row hM (fun _ => rfl), hd, show k = 358 by omega]
        rfl
      | succ j ih =>
        intro k M' hk hd hM
        refine bs_X11_image_2 hX ?_
        have zk : zr (k : Int) = k := zr_of (by omega) (by omega)
        have lk : ((k : Int) < 358) = True := eq_true (by omega)
        simp only [bk_X11_image_0, k_X11_image_0, bk_X11_image_2, k_X11_image_2, bk_X11_image_27, k_X11_image_27, ↓e_rk1, ↓e_rk0, ↓e_sk0, ↓e_sks, ↓e_ldi0, ↓e_ldis, ↓e_ldl0, ↓e_ldls, ↓e_lda0, ↓e_ldas, ↓e_ok0, ↓e_okss, ↓e_ok1i, ↓e_ok1r, ↓e_ok1n, ↓e_sti, ↓e_sta, ↓e_1, ↓e_2, ↓e_l1, ↓e_l2, ↓e_li, ↓e_sw0, ↓e_sws, ↓e_ceq, ↓e_cne, ↓e_clt, ↓e_cge, ↓e_cgt, ↓e_cle, ↓e_nil, ↓e_cons, ↓e_iconst, ↓e_bipush, ↓e_sipush, ↓e_ldc, ↓e_ldcw, ↓e_ldc2, ↓e_lconst, ↓e_iloadn, ↓e_iload, ↓e_lloadn, ↓e_lload, ↓e_aloadn, ↓e_aload, ↓e_istoren, ↓e_istore, ↓e_astoren, ↓e_astore, ↓e_add, ↓e_iinc, ↓e_iadd, ↓e_isub, ↓e_imul, ↓e_iand, ↓e_ior, ↓e_ixor, ↓e_ishl, ↓e_iushr, ↓e_idiv, ↓e_irem, ↓e_ineg, ↓e_i2l, ↓e_i2b, ↓e_i2s, ↓e_l2i, ↓e_land, ↓e_lor, ↓e_lshl, ↓e_lshr, ↓e_lushr, ↓e_lcmp, ↓e_dupi, ↓e_dupr, ↓e_popi, ↓e_dup2, ↓e_goto, ↓e_if, ↓e_icmp, ↓e_tsw, ↓e_lsw, ↓e_getf, ↓e_putf, ↓e_gets, ↓e_iald, ↓e_cald, ↓e_iast, ↓e_aald, ↓e_aast, ↓e_len, ↓e_copy, ↓e_abs, ↓e_max, ↓e_min, ↓e_iret, ↓e_aret, ↓e_vret, ↓e_is0, ↓e_is1, ↓e_is2, ↓e_is3, ↓e_is4, ↓e_iv1, ↓e_iv2, ↓e_iv3, ↓e_iv4, ↓e_iv5, ↓e_iv6, ↓rt_X11_image, ↓reduceIte, Nat.reduceAdd, Nat.reduceEqDiff, ↓zcl0, ↓zclv, List.map_nil, List.sum_nil, List.map_cons, List.sum_cons, zcat, true_and, and_true, Nat.reduceLeDiff, Nat.reduceAdd, eq_self, forall_const, e_ok0, e_okss, e_ok1i, e_ok1r, e_ok1n, zl_0, zl_1, zl_358, Int.reduceToNat, Int.reduceAdd, Int.reduceMul, Int.reduceSub, Int.reduceNeg, Int.reduceLT, Int.reduceLE, Int.reduceEq, not_false_eq_true, not_true_eq_false, false_implies, true_implies, implies_true, Int.reduceDiv, Int.reduceMod, zr8_zr, zr_zbo, z01_zbo, z01_0, z01_1, zbo_eq0, zup_eq, zup_o, zup_k, ne_eq, ↓v_87, ↓g_87_0, ↓l_88, ↓s_88, ↓n_88, ↓g_87_1, ↓l_89, ↓s_89, ↓n_89, ↓g_87_2, ↓l_90, ↓s_90, ↓n_90, ↓g_87_3, ↓p_87_3, ↓g_87_4, ↓l_91, ↓s_91, ↓n_91, ↓g_87_5, ↓p_87_5, ↓g_87_6, ↓p_87_6, ↓g_87_7, ↓p_87_7, ↓g_87_8, ↓p_87_8, ↓g_87_9, ↓p_87_9, ↓g_87_10, ↓p_87_10, ↓g_87_11, ↓l_92, ↓s_92, ↓n_92, ↓g_87_12, ↓l_93, ↓s_93, ↓n_93, ↓g_87_13, ↓p_87_13, ↓g_87_14, ↓l_94, ↓s_94, ↓n_94, ↓g_87_15, ↓p_87_15, ↓g_87_16, ↓l_95, ↓s_95, ↓n_95, ↓g_87_17, ↓l_96, ↓s_96, ↓n_96, ↓g_87_18, ↓l_97, ↓s_97, ↓n_97, ↓g_87_19, ↓p_87_19, ↓g_87_20, ↓p_87_20, ↓g_87_21, ↓l_98, ↓s_98, ↓n_98, ↓g_87_22, ↓l_99, ↓s_99, ↓n_99, ↓g_87_23, ↓l_100, ↓s_100, ↓n_100, ↓g_87_24, ↓l_101, ↓s_101, ↓n_101, zk, lk, Int.toNat_natCast]
        repeat (refine And.intro (by omega) ?_)
        refine ih (k + 1) _ (by omega) ?_ (fun x q => by rw [zup_ne _ q]; exact hM x q)
        rw [zup_up, hd, hM 88 (by decide)]
        funext i
        unfold up1
        by_cases q : i = k
        · subst q
          rw [if_pos rfl, if_pos (by omega)]
        · rw [if_neg q]; dsimp only
          by_cases q2 : i < k
          · rw [if_pos q2, if_pos (by omega)]
          · rw [if_neg q2, if_neg (by omega)]
    exact lp 358 0 M (by omega) (by funext i; rw [if_neg (by omega)]) (fun _ _ => rfl)
