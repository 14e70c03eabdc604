/-! THE REFERENCE: what is opened; feed, text, law -/
def k_X11_reads_0 : List ZI := [(.aload_n 0, 1, (0, [0], [])), (.iload_n 1, 1, (0, [1], [])), (.putfield 76, 3, (0, [11, 5], [])), (.aload_n 0, 1, (0, [0], [])), (.iconst 0, 1, (0, [], [])), (.putfield 67, 3, (0, [11, 6], [])), (.aload_n 0, 1, (0, [0], [])), (.iload_n 2, 1, (0, [2], [])), (.putfield 70, 3, (0, [11, 7], [])), (.aload_n 0, 1, (0, [0], [])), (.iconst (-1), 1, (0, [], [])), (.putfield 73, 3, (0, [11, 8], [])), (.aload_n 0, 1, (0, [0], [])), (.iconst 0, 1, (0, [], [])), (.putfield 113, 3, (0, [11, 9], [])), (.aload_n 0, 1, (0, [0], [])), (.iconst 0, 1, (0, [], [])), (.putfield 87, 3, (0, [11, 13], [])), (.aload_n 0, 1, (0, [0], [])), (.iload_n 3, 1, (0, [3], [])), (.iconst 1, 1, (0, [], [])), (.if_icmp .ne 7, 3, (0, [40], [])), (.iconst 1, 1, (0, [], [])), (.goto 4, 3, (0, [41], []))]
theorem ok_X11_reads_0 : zOK cX11_reads 11 false 4 k_X11_reads_0 0 = true := zOK_by (by decide +kernel)
def k_X11_reads_40 : List ZI := [(.iconst 0, 1, (0, [], []))]
theorem ok_X11_reads_40 : zOK cX11_reads 11 false 4 k_X11_reads_40 40 = true := zOK_by (by decide +kernel)
def k_X11_reads_41 : List ZI := [(.putfield 83, 3, (1, [11, 10], []))]
theorem ok_X11_reads_41 : zOK cX11_reads 11 false 4 k_X11_reads_41 41 = true := zOK_by (by decide +kernel)
def k_X11_reads_44 : List ZI := [(.aload_n 0, 1, (0, [0], [])), (.invokevirtual 119, 3, (0, [137, 1, 0, 11], []))]
theorem ok_X11_reads_44 : zOK cX11_reads 11 false 4 k_X11_reads_44 44 = true := zOK_by (by decide +kernel)
def k_X11_reads_48 : List ZI := [(.aload_n 0, 1, (0, [0], [])), (.getfield 73, 3, (0, [11, 8], [])), (.ifCond .ge 18, 3, (0, [70], [])), (.aload_n 0, 1, (0, [0], [])), (.getfield 67, 3, (0, [11, 6], [])), (.aload_n 0, 1, (0, [0], [])), (.getfield 70, 3, (0, [11, 7], [])), (.if_icmp .ge 7, 3, (0, [70], [])), (.aload_n 0, 1, (0, [0], [])), (.invokevirtual 116, 3, (0, [133, 1, 0, 11], []))]
theorem ok_X11_reads_48 : zOK cX11_reads 11 false 4 k_X11_reads_48 48 = true := zOK_by (by decide +kernel)
def k_X11_reads_70 : List ZI := [(.return_, 1, (0, [], []))]
theorem ok_X11_reads_70 : zOK cX11_reads 11 false 4 k_X11_reads_70 70 = true := zOK_by (by decide +kernel)
theorem rt_X11_reads {g : Nat} {post : Option ZV → ZH → Prop} {h : ZH} {b : ZB2} : zRt mX11_reads g post none h b = (post none h ∧ h.1.length = g) := by show (_ ∧ _ ∧ True) = _; simp
def bk_X11_reads_41 (E : ZE) (CT : Nat → ZC) (X : ZK) (Rt : ZR) (ls : ZL) (st : List ZV) (h : ZH) (b : ZB2) : Prop := zB E CT k_X11_reads_41 41 ls st h b (fun t ls st h b => X t ls st h b) Rt
theorem bs_X11_reads_41 {E : ZE} {CT : Nat → ZC} {X : ZK} {Rt : ZR} {ls : ZL} {st : List ZV} {h : ZH} {b : ZB2} (hX : zCl E mX11_reads 11 false CT Rt X) (q : bk_X11_reads_41 E CT X Rt ls st h b) : X 41 ls st h b := by
  refine hX k_X11_reads_41 41 ok_X11_reads_41 _ ?_ ls st h b q
  exact fun t ls st h b q => q
def bk_X11_reads_40 (E : ZE) (CT : Nat → ZC) (X : ZK) (Rt : ZR) (ls : ZL) (st : List ZV) (h : ZH) (b : ZB2) : Prop := zB E CT k_X11_reads_40 40 ls st h b (fun t ls st h b => if t = 41 then bk_X11_reads_41 E CT X Rt ls st h b else X t ls st h b) Rt
theorem bs_X11_reads_40 {E : ZE} {CT : Nat → ZC} {X : ZK} {Rt : ZR} {ls : ZL} {st : List ZV} {h : ZH} {b : ZB2} (hX : zCl E mX11_reads 11 false CT Rt X) (q : bk_X11_reads_40 E CT X Rt ls st h b) : X 40 ls st h b := by
  refine hX k_X11_reads_40 40 ok_X11_reads_40 _ ?_ ls st h b q
  exact by
    intro t ls st h b q
    by_cases c : t = 41
    · subst c; rw [if_pos rfl] at q; exact bs_X11_reads_41 hX q
    rw [if_neg c] at q
    exact q
def bk_X11_reads_0 (E : ZE) (CT : Nat → ZC) (X : ZK) (Rt : ZR) (ls : ZL) (st : List ZV) (h : ZH) (b : ZB2) : Prop := zB E CT k_X11_reads_0 0 ls st h b (fun t ls st h b => if t = 40 then bk_X11_reads_40 E CT X Rt ls st h b else if t = 41 then bk_X11_reads_41 E CT X Rt ls st h b else X t ls st h b) Rt
theorem bs_X11_reads_0 {E : ZE} {CT : Nat → ZC} {X : ZK} {Rt : ZR} {ls : ZL} {st : List ZV} {h : ZH} {b : ZB2} (hX : zCl E mX11_reads 11 false CT Rt X) (q : bk_X11_reads_0 E CT X Rt ls st h b) : X 0 ls st h b := by
  refine hX k_X11_reads_0 0 ok_X11_reads_0 _ ?_ ls st h b q
  exact by
    intro t ls st h b q
    by_cases c : t = 40
    · subst c; rw [if_pos rfl] at q; exact bs_X11_reads_40 hX q
    rw [if_neg c] at q
    by_cases c : t = 41
    · subst c; rw [if_pos rfl] at q; exact bs_X11_reads_41 hX q
    rw [if_neg c] at q
    exact q
def bk_X11_reads_44 (E : ZE) (CT : Nat → ZC) (X : ZK) (Rt : ZR) (ls : ZL) (st : List ZV) (h : ZH) (b : ZB2) : Prop := zB E CT k_X11_reads_44 44 ls st h b (fun t ls st h b => X t ls st h b) Rt
theorem bs_X11_reads_44 {E : ZE} {CT : Nat → ZC} {X : ZK} {Rt : ZR} {ls : ZL} {st : List ZV} {h : ZH} {b : ZB2} (hX : zCl E mX11_reads 11 false CT Rt X) (q : bk_X11_reads_44 E CT X Rt ls st h b) : X 44 ls st h b := by
  refine hX k_X11_reads_44 44 ok_X11_reads_44 _ ?_ ls st h b q
  exact fun t ls st h b q => q
def bk_X11_reads_70 (E : ZE) (CT : Nat → ZC) (X : ZK) (Rt : ZR) (ls : ZL) (st : List ZV) (h : ZH) (b : ZB2) : Prop := zB E CT k_X11_reads_70 70 ls st h b (fun t ls st h b => X t ls st h b) Rt
theorem bs_X11_reads_70 {E : ZE} {CT : Nat → ZC} {X : ZK} {Rt : ZR} {ls : ZL} {st : List ZV} {h : ZH} {b : ZB2} (hX : zCl E mX11_reads 11 false CT Rt X) (q : bk_X11_reads_70 E CT X Rt ls st h b) : X 70 ls st h b := by
  refine hX k_X11_reads_70 70 ok_X11_reads_70 _ ?_ ls st h b q
  exact fun t ls st h b q => q
def bk_X11_reads_48 (E : ZE) (CT : Nat → ZC) (X : ZK) (Rt : ZR) (ls : ZL) (st : List ZV) (h : ZH) (b : ZB2) : Prop := zB E CT k_X11_reads_48 48 ls st h b (fun t ls st h b => if t = 70 then bk_X11_reads_70 E CT X Rt ls st h b else X t ls st h b) Rt
theorem bs_X11_reads_48 {E : ZE} {CT : Nat → ZC} {X : ZK} {Rt : ZR} {ls : ZL} {st : List ZV} {h : ZH} {b : ZB2} (hX : zCl E mX11_reads 11 false CT Rt X) (q : bk_X11_reads_48 E CT X Rt ls st h b) : X 48 ls st h b := by
  refine hX k_X11_reads_48 48 ok_X11_reads_48 _ ?_ ls st h b q
  exact by
    intro t ls st h b q
    by_cases c : t = 70
    · subst c; rw [if_pos rfl] at q; exact bs_X11_reads_70 hX q
    rw [if_neg c] at q
    exact q
-- X11_reads: cuts [44, 48]
def k_X11_feed_0 : List ZI := [(.iload_n 3, 1, (0, [3], [])), (.i2l, 1, (0, [], [])), (.lconst 1, 1, (1, [], [])), (.ldc2_w 137, 3, (8, [], [])), (.invokestatic 61, 3, (0, [120, 3, 0, 11], [])), (.ifCond .ne 9, 3, (0, [18], [])), (.aload_n 0, 1, (0, [0], [])), (.iconst 1, 1, (0, [], [])), (.invokevirtual 139, 3, (0, [119, 2, 0, 11], [])), (.ireturn, 1, (0, [], []))]
theorem ok_X11_feed_0 : zOK cX11_feed 11 false 5 k_X11_feed_0 0 = true := zOK_by (by decide +kernel)
def k_X11_feed_18 : List ZI := [(.aload_n 0, 1, (0, [0], [])), (.getfield 7, 3, (0, [11, 0], [])), (.iconst 4, 1, (0, [], [])), (.iaload, 1, (0, [], [])), (.iload_n 3, 1, (0, [3], [])), (.iadd, 1, (0, [], [])), (.bipush 50, 2, (0, [], [])), (.if_icmp .le 9, 3, (0, [37], [])), (.aload_n 0, 1, (0, [0], [])), (.iconst 4, 1, (0, [], [])), (.invokevirtual 139, 3, (0, [119, 2, 0, 11], [])), (.ireturn, 1, (0, [], []))]
theorem ok_X11_feed_18 : zOK cX11_feed 11 false 5 k_X11_feed_18 18 = true := zOK_by (by decide +kernel)
def k_X11_feed_37 : List ZI := [(.iconst 0, 1, (0, [], [])), (.istore 4, 2, (0, [4], []))]
theorem ok_X11_feed_37 : zOK cX11_feed 11 false 5 k_X11_feed_37 37 = true := zOK_by (by decide +kernel)
def k_X11_feed_40 : List ZI := [(.iload 4, 2, (0, [4], [])), (.iload_n 3, 1, (0, [3], [])), (.if_icmp .ge 46, 3, (0, [89], [])), (.aload_n 0, 1, (0, [0], [])), (.getfield 7, 3, (0, [11, 0], [])), (.sipush 308, 3, (0, [], [])), (.aload_n 0, 1, (0, [0], [])), (.getfield 7, 3, (0, [11, 0], [])), (.iconst 4, 1, (0, [], [])), (.iaload, 1, (0, [], [])), (.iadd, 1, (0, [], [])), (.lload_n 1, 1, (0, [1], [])), (.bipush 8, 2, (0, [], [])), (.iload 4, 2, (0, [4], [])), (.imul, 1, (0, [], [])), (.lshr, 1, (0, [], [])), (.ldc2_w 142, 3, (255, [], [])), (.land, 1, (0, [], [])), (.l2i, 1, (0, [], [])), (.iastore, 1, (0, [], [])), (.aload_n 0, 1, (0, [0], [])), (.getfield 7, 3, (0, [11, 0], [])), (.iconst 4, 1, (0, [], [])), (.dup2, 1, (0, [], [])), (.iaload, 1, (0, [], [])), (.iconst 1, 1, (0, [], [])), (.iadd, 1, (0, [], [])), (.iastore, 1, (0, [], [])), (.iinc 4 1, 3, (0, [4], [])), (.goto (-46), 3, (0, [40], []))]
theorem ok_X11_feed_40 : zOK cX11_feed 11 false 5 k_X11_feed_40 40 = true := zOK_by (by decide +kernel)
def k_X11_feed_89 : List ZI := [(.aload_n 0, 1, (0, [0], [])), (.getfield 7, 3, (0, [11, 0], [])), (.iconst 4, 1, (0, [], [])), (.iaload, 1, (0, [], [])), (.ireturn, 1, (0, [], []))]
theorem ok_X11_feed_89 : zOK cX11_feed 11 false 5 k_X11_feed_89 89 = true := zOK_by (by decide +kernel)
theorem rt_X11_feed {g : Nat} {post : Option ZV → ZH → Prop} {h : ZH} {b : ZB2} {z : Int} : zRt mX11_feed g post (some (.inl z)) h b = (post (some (.inl z)) h ∧ h.1.length = g) := by show (_ ∧ _ ∧ True) = _; simp
def bk_X11_feed_0 (E : ZE) (CT : Nat → ZC) (X : ZK) (Rt : ZR) (ls : ZL) (st : List ZV) (h : ZH) (b : ZB2) : Prop := zB E CT k_X11_feed_0 0 ls st h b (fun t ls st h b => X t ls st h b) Rt
theorem bs_X11_feed_0 {E : ZE} {CT : Nat → ZC} {X : ZK} {Rt : ZR} {ls : ZL} {st : List ZV} {h : ZH} {b : ZB2} (hX : zCl E mX11_feed 11 false CT Rt X) (q : bk_X11_feed_0 E CT X Rt ls st h b) : X 0 ls st h b := by
  refine hX k_X11_feed_0 0 ok_X11_feed_0 _ ?_ ls st h b q
  exact fun t ls st h b q => q
def bk_X11_feed_18 (E : ZE) (CT : Nat → ZC) (X : ZK) (Rt : ZR) (ls : ZL) (st : List ZV) (h : ZH) (b : ZB2) : Prop := zB E CT k_X11_feed_18 18 ls st h b (fun t ls st h b => X t ls st h b) Rt
theorem bs_X11_feed_18 {E : ZE} {CT : Nat → ZC} {X : ZK} {Rt : ZR} {ls : ZL} {st : List ZV} {h : ZH} {b : ZB2} (hX : zCl E mX11_feed 11 false CT Rt X) (q : bk_X11_feed_18 E CT X Rt ls st h b) : X 18 ls st h b := by
  refine hX k_X11_feed_18 18 ok_X11_feed_18 _ ?_ ls st h b q
  exact fun t ls st h b q => q
def bk_X11_feed_37 (E : ZE) (CT : Nat → ZC) (X : ZK) (Rt : ZR) (ls : ZL) (st : List ZV) (h : ZH) (b : ZB2) : Prop := zB E CT k_X11_feed_37 37 ls st h b (fun t ls st h b => X t ls st h b) Rt
theorem bs_X11_feed_37 {E : ZE} {CT : Nat → ZC} {X : ZK} {Rt : ZR} {ls : ZL} {st : List ZV} {h : ZH} {b : ZB2} (hX : zCl E mX11_feed 11 false CT Rt X) (q : bk_X11_feed_37 E CT X Rt ls st h b) : X 37 ls st h b := by
  refine hX k_X11_feed_37 37 ok_X11_feed_37 _ ?_ ls st h b q
  exact fun t ls st h b q => q
def bk_X11_feed_40 (E : ZE) (CT : Nat → ZC) (X : ZK) (Rt : ZR) (ls : ZL) (st : List ZV) (h : ZH) (b : ZB2) : Prop := zB E CT k_X11_feed_40 40 ls st h b (fun t ls st h b => X t ls st h b) Rt
theorem bs_X11_feed_40 {E : ZE} {CT : Nat → ZC} {X : ZK} {Rt : ZR} {ls : ZL} {st : List ZV} {h : ZH} {b : ZB2} (hX : zCl E mX11_feed 11 false CT Rt X) (q : bk_X11_feed_40 E CT X Rt ls st h b) : X 40 ls st h b := by
  refine hX k_X11_feed_40 40 ok_X11_feed_40 _ ?_ ls st h b q
  exact fun t ls st h b q => q
def bk_X11_feed_89 (E : ZE) (CT : Nat → ZC) (X : ZK) (Rt : ZR) (ls : ZL) (st : List ZV) (h : ZH) (b : ZB2) : Prop := zB E CT k_X11_feed_89 89 ls st h b (fun t ls st h b => X t ls st h b) Rt
theorem bs_X11_feed_89 {E : ZE} {CT : Nat → ZC} {X : ZK} {Rt : ZR} {ls : ZL} {st : List ZV} {h : ZH} {b : ZB2} (hX : zCl E mX11_feed 11 false CT Rt X) (q : bk_X11_feed_89 E CT X Rt ls st h b) : X 89 ls st h b := by
  refine hX k_X11_feed_89 89 ok_X11_feed_89 _ ?_ ls st h b q
  exact fun t ls st h b q => q
-- X11_feed: cuts [18, 37, 40, 89]
def k_X11_text_0 : List ZI := [(.iload_n 1, 1, (0, [1], [])), (.i2l, 1, (0, [], [])), (.lconst 0, 1, (0, [], [])), (.lconst 1, 1, (1, [], [])), (.invokestatic 61, 3, (0, [120, 3, 0, 11], [])), (.ifCond .ne 9, 3, (0, [16], [])), (.aload_n 0, 1, (0, [0], [])), (.iconst 1, 1, (0, [], [])), (.invokevirtual 139, 3, (0, [119, 2, 0, 11], [])), (.ireturn, 1, (0, [], []))]
theorem ok_X11_text_0 : zOK cX11_text 11 false 4 k_X11_text_0 0 = true := zOK_by (by decide +kernel)
def k_X11_text_16 : List ZI := [(.aload_n 0, 1, (0, [0], [])), (.getfield 7, 3, (0, [11, 0], [])), (.iconst 4, 1, (0, [], [])), (.iaload, 1, (0, [], [])), (.istore_n 2, 1, (0, [2], [])), (.aload_n 0, 1, (0, [0], [])), (.getfield 7, 3, (0, [11, 0], [])), (.iconst 4, 1, (0, [], [])), (.iconst 0, 1, (0, [], [])), (.iastore, 1, (0, [], [])), (.aload_n 0, 1, (0, [0], [])), (.sipush 308, 3, (0, [], [])), (.iload_n 2, 1, (0, [2], [])), (.iload_n 1, 1, (0, [1], [])), (.invokevirtual 144, 3, (0, [144, 4, 0, 11], []))]
theorem ok_X11_text_16 : zOK cX11_text 11 false 4 k_X11_text_16 16 = true := zOK_by (by decide +kernel)
def k_X11_text_39 : List ZI := [(.aload_n 0, 1, (0, [0], [])), (.getfield 73, 3, (0, [11, 8], [])), (.ifCond .lt 11, 3, (0, [54], [])), (.bipush (-10), 2, (0, [], [])), (.aload_n 0, 1, (0, [0], [])), (.getfield 73, 3, (0, [11, 8], [])), (.isub, 1, (0, [], [])), (.ireturn, 1, (0, [], []))]
theorem ok_X11_text_39 : zOK cX11_text 11 false 4 k_X11_text_39 39 = true := zOK_by (by decide +kernel)
def k_X11_text_54 : List ZI := [(.aload_n 0, 1, (0, [0], [])), (.getfield 7, 3, (0, [11, 0], [])), (.sipush 186, 3, (0, [], [])), (.iload_n 1, 1, (0, [1], [])), (.iadd, 1, (0, [], [])), (.aload_n 0, 1, (0, [0], [])), (.getfield 87, 3, (0, [11, 13], [])), (.iastore, 1, (0, [], []))]
theorem ok_X11_text_54 : zOK cX11_text 11 false 4 k_X11_text_54 54 = true := zOK_by (by decide +kernel)
def k_X11_text_68 : List ZI := [(.iconst 0, 1, (0, [], [])), (.istore_n 3, 1, (0, [3], []))]
theorem ok_X11_text_68 : zOK cX11_text 11 false 4 k_X11_text_68 68 = true := zOK_by (by decide +kernel)
def k_X11_text_70 : List ZI := [(.iload_n 3, 1, (0, [3], [])), (.aload_n 0, 1, (0, [0], [])), (.getfield 87, 3, (0, [11, 13], [])), (.if_icmp .ge 30, 3, (0, [105], [])), (.aload_n 0, 1, (0, [0], [])), (.getfield 7, 3, (0, [11, 0], [])), (.sipush 208, 3, (0, [], [])), (.bipush 50, 2, (0, [], [])), (.iload_n 1, 1, (0, [1], [])), (.imul, 1, (0, [], [])), (.iadd, 1, (0, [], [])), (.iload_n 3, 1, (0, [3], [])), (.iadd, 1, (0, [], [])), (.aload_n 0, 1, (0, [0], [])), (.getfield 25, 3, (0, [11, 12], [])), (.iload_n 3, 1, (0, [3], [])), (.iaload, 1, (0, [], [])), (.iastore, 1, (0, [], [])), (.iinc 3 1, 3, (0, [3], [])), (.goto (-32), 3, (0, [70], []))]
theorem ok_X11_text_70 : zOK cX11_text 11 false 4 k_X11_text_70 70 = true := zOK_by (by decide +kernel)
def k_X11_text_105 : List ZI := [(.iconst 1, 1, (0, [], [])), (.ireturn, 1, (0, [], []))]
theorem ok_X11_text_105 : zOK cX11_text 11 false 4 k_X11_text_105 105 = true := zOK_by (by decide +kernel)
theorem rt_X11_text {g : Nat} {post : Option ZV → ZH → Prop} {h : ZH} {b : ZB2} {z : Int} : zRt mX11_text g post (some (.inl z)) h b = (post (some (.inl z)) h ∧ h.1.length = g) := by show (_ ∧ _ ∧ True) = _; simp
def bk_X11_text_0 (E : ZE) (CT : Nat → ZC) (X : ZK) (Rt : ZR) (ls : ZL) (st : List ZV) (h : ZH) (b : ZB2) : Prop := zB E CT k_X11_text_0 0 ls st h b (fun t ls st h b => X t ls st h b) Rt
theorem bs_X11_text_0 {E : ZE} {CT : Nat → ZC} {X : ZK} {Rt : ZR} {ls : ZL} {st : List ZV} {h : ZH} {b : ZB2} (hX : zCl E mX11_text 11 false CT Rt X) (q : bk_X11_text_0 E CT X Rt ls st h b) : X 0 ls st h b := by
  refine hX k_X11_text_0 0 ok_X11_text_0 _ ?_ ls st h b q
  exact fun t ls st h b q => q
def bk_X11_text_16 (E : ZE) (CT : Nat → ZC) (X : ZK) (Rt : ZR) (ls : ZL) (st : List ZV) (h : ZH) (b : ZB2) : Prop := zB E CT k_X11_text_16 16 ls st h b (fun t ls st h b => X t ls st h b) Rt
theorem bs_X11_text_16 {E : ZE} {CT : Nat → ZC} {X : ZK} {Rt : ZR} {ls : ZL} {st : List ZV} {h : ZH} {b : ZB2} (hX : zCl E mX11_text 11 false CT Rt X) (q : bk_X11_text_16 E CT X Rt ls st h b) : X 16 ls st h b := by
  refine hX k_X11_text_16 16 ok_X11_text_16 _ ?_ ls st h b q
  exact fun t ls st h b q => q
def bk_X11_text_39 (E : ZE) (CT : Nat → ZC) (X : ZK) (Rt : ZR) (ls : ZL) (st : List ZV) (h : ZH) (b : ZB2) : Prop := zB E CT k_X11_text_39 39 ls st h b (fun t ls st h b => X t ls st h b) Rt
theorem bs_X11_text_39 {E : ZE} {CT : Nat → ZC} {X : ZK} {Rt : ZR} {ls : ZL} {st : List ZV} {h : ZH} {b : ZB2} (hX : zCl E mX11_text 11 false CT Rt X) (q : bk_X11_text_39 E CT X Rt ls st h b) : X 39 ls st h b := by
  refine hX k_X11_text_39 39 ok_X11_text_39 _ ?_ ls st h b q
  exact fun t ls st h b q => q
def bk_X11_text_54 (E : ZE) (CT : Nat → ZC) (X : ZK) (Rt : ZR) (ls : ZL) (st : List ZV) (h : ZH) (b : ZB2) : Prop := zB E CT k_X11_text_54 54 ls st h b (fun t ls st h b => X t ls st h b) Rt
theorem bs_X11_text_54 {E : ZE} {CT : Nat → ZC} {X : ZK} {Rt : ZR} {ls : ZL} {st : List ZV} {h : ZH} {b : ZB2} (hX : zCl E mX11_text 11 false CT Rt X) (q : bk_X11_text_54 E CT X Rt ls st h b) : X 54 ls st h b := by
  refine hX k_X11_text_54 54 ok_X11_text_54 _ ?_ ls st h b q
  exact fun t ls st h b q => q
def bk_X11_text_68 (E : ZE) (CT : Nat → ZC) (X : ZK) (Rt : ZR) (ls : ZL) (st : List ZV) (h : ZH) (b : ZB2) : Prop := zB E CT k_X11_text_68 68 ls st h b (fun t ls st h b => X t ls st h b) Rt
theorem bs_X11_text_68 {E : ZE} {CT : Nat → ZC} {X : ZK} {Rt : ZR} {ls : ZL} {st : List ZV} {h : ZH} {b : ZB2} (hX : zCl E mX11_text 11 false CT Rt X) (q : bk_X11_text_68 E CT X Rt ls st h b) : X 68 ls st h b := by
  refine hX k_X11_text_68 68 ok_X11_text_68 _ ?_ ls st h b q
  exact fun t ls st h b q => q
def bk_X11_text_70 (E : ZE) (CT : Nat → ZC) (X : ZK) (Rt : ZR) (ls : ZL) (st : List ZV) (h : ZH) (b : ZB2) : Prop := zB E CT k_X11_text_70 70 ls st h b (fun t ls st h b => X t ls st h b) Rt
theorem bs_X11_text_70 {E : ZE} {CT : Nat → ZC} {X : ZK} {Rt : ZR} {ls : ZL} {st : List ZV} {h : ZH} {b : ZB2} (hX : zCl E mX11_text 11 false CT Rt X) (q : bk_X11_text_70 E CT X Rt ls st h b) : X 70 ls st h b := by
  refine hX k_X11_text_70 70 ok_X11_text_70 _ ?_ ls st h b q
  exact fun t ls st h b q => q
def bk_X11_text_105 (E : ZE) (CT : Nat → ZC) (X : ZK) (Rt : ZR) (ls : ZL) (st : List ZV) (h : ZH) (b : ZB2) : Prop := zB E CT k_X11_text_105 105 ls st h b (fun t ls st h b => X t ls st h b) Rt
theorem bs_X11_text_105 {E : ZE} {CT : Nat → ZC} {X : ZK} {Rt : ZR} {ls : ZL} {st : List ZV} {h : ZH} {b : ZB2} (hX : zCl E mX11_text 11 false CT Rt X) (q : bk_X11_text_105 E CT X Rt ls st h b) : X 105 ls st h b := by
  refine hX k_X11_text_105 105 ok_X11_text_105 _ ?_ ls st h b q
  exact fun t ls st h b q => q
-- X11_text: cuts [16, 39, 54, 68, 70, 105]
def k_X11_law_0 : List ZI := [(.iload_n 1, 1, (0, [1], [])), (.i2l, 1, (0, [], [])), (.lconst 0, 1, (0, [], [])), (.lconst 1, 1, (1, [], [])), (.invokestatic 61, 3, (0, [120, 3, 0, 11], [])), (.ifCond .eq 15, 3, (0, [22], []))]
theorem ok_X11_law_0 : zOK cX11_law 11 false 5 k_X11_law_0 0 = true := zOK_by (by decide +kernel)
def k_X11_law_10 : List ZI := [(.aload_n 0, 1, (0, [0], [])), (.iload_n 1, 1, (0, [1], [])), (.iload_n 2, 1, (0, [2], [])), (.iload_n 3, 1, (0, [3], [])), (.iload 4, 2, (0, [4], [])), (.invokevirtual 155, 3, (0, [149, 5, 0, 11], [])), (.goto 8, 3, (0, [27], []))]
theorem ok_X11_law_10 : zOK cX11_law 11 false 5 k_X11_law_10 10 = true := zOK_by (by decide +kernel)
def k_X11_law_22 : List ZI := [(.aload_n 0, 1, (0, [0], [])), (.iconst 1, 1, (0, [], [])), (.invokevirtual 139, 3, (0, [119, 2, 0, 11], []))]
theorem ok_X11_law_22 : zOK cX11_law 11 false 5 k_X11_law_22 22 = true := zOK_by (by decide +kernel)
def k_X11_law_27 : List ZI := [(.ireturn, 1, (0, [], []))]
theorem ok_X11_law_27 : zOK cX11_law 11 false 5 k_X11_law_27 27 = true := zOK_by (by decide +kernel)
theorem rt_X11_law {g : Nat} {post : Option ZV → ZH → Prop} {h : ZH} {b : ZB2} {z : Int} : zRt mX11_law g post (some (.inl z)) h b = (post (some (.inl z)) h ∧ h.1.length = g) := by show (_ ∧ _ ∧ True) = _; simp
def bk_X11_law_0 (E : ZE) (CT : Nat → ZC) (X : ZK) (Rt : ZR) (ls : ZL) (st : List ZV) (h : ZH) (b : ZB2) : Prop := zB E CT k_X11_law_0 0 ls st h b (fun t ls st h b => X t ls st h b) Rt
theorem bs_X11_law_0 {E : ZE} {CT : Nat → ZC} {X : ZK} {Rt : ZR} {ls : ZL} {st : List ZV} {h : ZH} {b : ZB2} (hX : zCl E mX11_law 11 false CT Rt X) (q : bk_X11_law_0 E CT X Rt ls st h b) : X 0 ls st h b := by
  refine hX k_X11_law_0 0 ok_X11_law_0 _ ?_ ls st h b q
  exact fun t ls st h b q => q
def bk_X11_law_27 (E : ZE) (CT : Nat → ZC) (X : ZK) (Rt : ZR) (ls : ZL) (st : List ZV) (h : ZH) (b : ZB2) : Prop := zB E CT k_X11_law_27 27 ls st h b (fun t ls st h b => X t ls st h b) Rt
theorem bs_X11_law_27 {E : ZE} {CT : Nat → ZC} {X : ZK} {Rt : ZR} {ls : ZL} {st : List ZV} {h : ZH} {b : ZB2} (hX : zCl E mX11_law 11 false CT Rt X) (q : bk_X11_law_27 E CT X Rt ls st h b) : X 27 ls st h b := by
  refine hX k_X11_law_27 27 ok_X11_law_27 _ ?_ ls st h b q
  exact fun t ls st h b q => q
def bk_X11_law_10 (E : ZE) (CT : Nat → ZC) (X : ZK) (Rt : ZR) (ls : ZL) (st : List ZV) (h : ZH) (b : ZB2) : Prop := zB E CT k_X11_law_10 10 ls st h b (fun t ls st h b => if t = 27 then bk_X11_law_27 E CT X Rt ls st h b else X t ls st h b) Rt
theorem bs_X11_law_10 {E : ZE} {CT : Nat → ZC} {X : ZK} {Rt : ZR} {ls : ZL} {st : List ZV} {h : ZH} {b : ZB2} (hX : zCl E mX11_law 11 false CT Rt X) (q : bk_X11_law_10 E CT X Rt ls st h b) : X 10 ls st h b := by
  refine hX k_X11_law_10 10 ok_X11_law_10 _ ?_ ls st h b q
  exact by
    intro t ls st h b q
    by_cases c : t = 27
    · subst c; rw [if_pos rfl] at q; exact bs_X11_law_27 hX q
    rw [if_neg c] at q
    exact q
def bk_X11_law_22 (E : ZE) (CT : Nat → ZC) (X : ZK) (Rt : ZR) (ls : ZL) (st : List ZV) (h : ZH) (b : ZB2) : Prop := zB E CT k_X11_law_22 22 ls st h b (fun t ls st h b => if t = 27 then bk_X11_law_27 E CT X Rt ls st h b else X t ls st h b) Rt
theorem bs_X11_law_22 {E : ZE} {CT : Nat → ZC} {X : ZK} {Rt : ZR} {ls : ZL} {st : List ZV} {h : ZH} {b : ZB2} (hX : zCl E mX11_law 11 false CT Rt X) (q : bk_X11_law_22 E CT X Rt ls st h b) : X 22 ls st h b := by
  refine hX k_X11_law_22 22 ok_X11_law_22 _ ?_ ls st h b q
  exact by
    intro t ls st h b q
    by_cases c : t = 27
    · subst c; rw [if_pos rfl] at q; exact bs_X11_law_27 hX q
    rw [if_neg c] at q
    exact q
-- X11_law: cuts [10, 22]
theorem op_M {M : ZMm} {v : Int} (h : okM M) : sP (zup M 87 9 v) = sP M ∧ okM (zup M 87 9 v) ∧ tT (zup M 87 9 v) = tT M ∧ tn (zup M 87 9 v) = tn M := by
  have e : sP (zup M 87 9 v) = sP M := by
    unfold sP
    rw [zup_k (by decide), zup_k (by decide), zup_k (by decide), zup_ne _ (by decide)]
  have eT : tT (zup M 87 9 v) = tT M := by
    unfold tT
    rw [zup_ne _ (by decide)]
  have eN : tn (zup M 87 9 v) = tn M := by
    unfold tn
    rw [zup_k (by decide)]
  refine ⟨e, ?_, eT, eN⟩
  obtain ⟨a0, a1, a2, a3, a4, a5, a6⟩ := h
  refine ⟨by rw [e, eN]; exact a0, ?_, ?_, ?_, ?_, by rw [eT]; exact a5, ?_⟩
  · rw [zup_k (by decide)]; exact a1
  · rw [zup_k (by decide)]; exact a2
  · rw [zup_k (by decide)]; exact a3
  · rw [zup_k (by decide)]; exact a4
  · rw [zup_k (by decide)]; exact a6
def ct_rop0 (r : Nat) : Nat → ZC := fun n => if n = 133 then C_wrong else fun _ _ _ => False
theorem ct_rop0_wrong {r : Nat} {as : List ZV} {h : ZH} {post : Option ZV → ZH → Prop} : ct_rop0 r 133 as h post = C_wrong as h post := rfl
theorem c_rop0 {E : ZE} {d : Nat} {r : Nat} (hd : 2 ≤ d) : zMet E d mX11_opens (C_rop (0)) := by
  refine zmet_of (o := 11) (ini := false) (CT := ct_rop0 r) gd_X11_opens rfl (fun h => by cases h) (by omega) ?_ ?_
  · intro n as h post hh
    unfold ct_rop0 at hh
    by_cases c : n = 133
    · subst c; exact ⟨gd_X11_wrong, 1, by omega, c_wrong (by omega)⟩
    rw [if_neg c] at hh
    exact hh.elim
  intro as h post hC
  match as, hC with
  | [.inr (.inr (.inl 87)), .inl c], hC =>
    refine ⟨Nat.le_of_ble_eq_true rfl, fun X hX => bs_X11_opens_0 hX ?_⟩
    obtain ⟨G, M⟩ := h
    obtain ⟨hG, hC⟩ := hC
    dsimp only at hG
    subst hG
    simp only [B_rop, rdC] at hC
    show bk_X11_opens_0 E (ct_rop0 r) X _ [some (.inr (.inr (.inl 87))), some (.inl c)] [] (zG, M) (0, 0)
    obtain ⟨hc, hH, ho, op, hC⟩ := hC
    have z9 : zr (M 87 9) = 5 := by rw [op.1]; rfl
    simp only [bk_X11_opens_0, k_X11_opens_0, bk_X11_opens_13, k_X11_opens_13, bk_X11_opens_53, k_X11_opens_53, bk_X11_opens_70, k_X11_opens_70, ↓e_rk1, ↓e_rk0, ↓e_sk0, ↓e_sks, ↓e_ldi0, ↓e_ldis, ↓e_ldl0, ↓e_ldls, ↓e_lda0, ↓e_ldas, ↓e_ok0, ↓e_okss, ↓e_ok1i, ↓e_ok1r, ↓e_ok1n, ↓e_sti, ↓e_sta, ↓e_1, ↓e_2, ↓e_l1, ↓e_l2, ↓e_li, ↓e_sw0, ↓e_sws, ↓e_ceq, ↓e_cne, ↓e_clt, ↓e_cge, ↓e_cgt, ↓e_cle, ↓e_nil, ↓e_cons, ↓e_iconst, ↓e_bipush, ↓e_sipush, ↓e_ldc, ↓e_ldcw, ↓e_ldc2, ↓e_lconst, ↓e_iloadn, ↓e_iload, ↓e_lloadn, ↓e_lload, ↓e_aloadn, ↓e_aload, ↓e_istoren, ↓e_istore, ↓e_astoren, ↓e_astore, ↓e_add, ↓e_iinc, ↓e_iadd, ↓e_isub, ↓e_imul, ↓e_iand, ↓e_ior, ↓e_ixor, ↓e_ishl, ↓e_iushr, ↓e_idiv, ↓e_irem, ↓e_ineg, ↓e_i2l, ↓e_i2b, ↓e_i2s, ↓e_l2i, ↓e_land, ↓e_lor, ↓e_lshl, ↓e_lshr, ↓e_lushr, ↓e_lcmp, ↓e_dupi, ↓e_dupr, ↓e_popi, ↓e_dup2, ↓e_goto, ↓e_if, ↓e_icmp, ↓e_tsw, ↓e_lsw, ↓e_getf, ↓e_putf, ↓e_gets, ↓e_iald, ↓e_cald, ↓e_iast, ↓e_aald, ↓e_aast, ↓e_len, ↓e_copy, ↓e_abs, ↓e_max, ↓e_min, ↓e_iret, ↓e_aret, ↓e_vret, ↓e_is0, ↓e_is1, ↓e_is2, ↓e_is3, ↓e_is4, ↓e_iv1, ↓e_iv2, ↓e_iv3, ↓e_iv4, ↓e_iv5, ↓e_iv6, ↓rt_X11_opens, ↓reduceIte, Nat.reduceAdd, Nat.reduceEqDiff, ↓zcl0, ↓zclv, List.map_nil, List.sum_nil, List.map_cons, List.sum_cons, zcat, true_and, and_true, Nat.reduceLeDiff, Nat.reduceAdd, eq_self, forall_const, e_ok0, e_okss, e_ok1i, e_ok1r, e_ok1n, zl_1, zl_5, zl_33, zl_41, zl_20033, Int.reduceToNat, Int.reduceAdd, Int.reduceMul, Int.reduceSub, Int.reduceNeg, Int.reduceLT, Int.reduceLE, Int.reduceEq, not_false_eq_true, not_true_eq_false, false_implies, true_implies, implies_true, Int.reduceDiv, Int.reduceMod, zr8_zr, zr_zbo, z01_zbo, z01_0, z01_1, zbo_eq0, zup_eq, zup_o, zup_k, ne_eq, ↓ct_rop0_wrong, ↓r_wrong, ↓B_wrong, ↓v_87, ↓g_87_0, ↓l_88, ↓s_88, ↓n_88, ↓g_87_1, ↓l_89, ↓s_89, ↓n_89, ↓g_87_2, ↓l_90, ↓s_90, ↓n_90, ↓g_87_3, ↓p_87_3, ↓g_87_4, ↓l_91, ↓s_91, ↓n_91, ↓g_87_5, ↓p_87_5, ↓g_87_6, ↓p_87_6, ↓g_87_7, ↓p_87_7, ↓g_87_8, ↓p_87_8, ↓g_87_9, ↓p_87_9, ↓g_87_10, ↓p_87_10, ↓g_87_11, ↓l_92, ↓s_92, ↓n_92, ↓g_87_12, ↓l_93, ↓s_93, ↓n_93, ↓g_87_13, ↓p_87_13, ↓g_87_14, ↓l_94, ↓s_94, ↓n_94, ↓g_87_15, ↓p_87_15, ↓g_87_16, ↓l_95, ↓s_95, ↓n_95, ↓g_87_17, ↓l_96, ↓s_96, ↓n_96, ↓g_87_18, ↓l_97, ↓s_97, ↓n_97, ↓g_87_19, ↓p_87_19, ↓g_87_20, ↓p_87_20, ↓g_87_21, ↓l_98, ↓s_98, ↓n_98, ↓g_87_22, ↓l_99, ↓s_99, ↓n_99, ↓g_87_23, ↓l_100, ↓s_100, ↓n_100, ↓g_87_24, ↓l_101, ↓s_101, ↓n_101, ↓rdC, z9]
    exact ⟨ho, fun M2 e o2 fx => hC M2 e o2 fx⟩
def ct_ropS (r : Nat) : Nat → ZC := fun n => if n = 136 then C_lay else if n = 134 then C_takes else if n = 133 then C_wrong else if n = 143 then C_run (r) else if n = 137 then C_rei (r) else fun _ _ _ => False
theorem ct_ropS_lay {r : Nat} {as : List ZV} {h : ZH} {post : Option ZV → ZH → Prop} : ct_ropS r 136 as h post = C_lay as h post := rfl
theorem ct_ropS_takes {r : Nat} {as : List ZV} {h : ZH} {post : Option ZV → ZH → Prop} : ct_ropS r 134 as h post = C_takes as h post := rfl
theorem ct_ropS_wrong {r : Nat} {as : List ZV} {h : ZH} {post : Option ZV → ZH → Prop} : ct_ropS r 133 as h post = C_wrong as h post := rfl
theorem ct_ropS_run {r : Nat} {as : List ZV} {h : ZH} {post : Option ZV → ZH → Prop} : ct_ropS r 143 as h post = C_run (r) as h post := rfl
theorem ct_ropS_rei {r : Nat} {as : List ZV} {h : ZH} {post : Option ZV → ZH → Prop} : ct_ropS r 137 as h post = C_rei (r) as h post := rfl
theorem c_ropS {E : ZE} {d : Nat} {r : Nat} (hd : 3 ≤ d) (i_run : ∃ d', d' < d ∧ zMet E d' mX11_unit (C_run (r))) (i_rei : ∃ d', d' < d ∧ zMet E d' mX11_either (C_rei (r))) : zMet E d mX11_opens (C_rop (r+1)) := by
  refine zmet_of (o := 11) (ini := false) (CT := ct_ropS r) gd_X11_opens rfl (fun h => by cases h) (by omega) ?_ ?_
  · intro n as h post hh
    unfold ct_ropS at hh
    by_cases c : n = 136
    · subst c; exact ⟨gd_X11_lay, 1, by omega, c_lay (by omega)⟩
    rw [if_neg c] at hh
    by_cases c : n = 134
    · subst c; exact ⟨gd_X11_takes, 2, by omega, c_takes (by omega)⟩
    rw [if_neg c] at hh
    by_cases c : n = 133
    · subst c; exact ⟨gd_X11_wrong, 1, by omega, c_wrong (by omega)⟩
    rw [if_neg c] at hh
    by_cases c : n = 143
    · subst c; exact ⟨gd_X11_unit, i_run⟩
    rw [if_neg c] at hh
    by_cases c : n = 137
    · subst c; exact ⟨gd_X11_either, i_rei⟩
    rw [if_neg c] at hh
    exact hh.elim
  intro as h post hC
  match as, hC with
  | [.inr (.inr (.inl 87)), .inl c], hC =>
    refine ⟨Nat.le_of_ble_eq_true rfl, fun X hX => bs_X11_opens_0 hX ?_⟩
    obtain ⟨G, M⟩ := h
    obtain ⟨hG, hC⟩ := hC
    dsimp only at hG
    subst hG
    simp only [B_rop, rdC] at hC
    show bk_X11_opens_0 E (ct_ropS r) X _ [some (.inr (.inr (.inl 87))), some (.inl c)] [] (zG, M) (0, 0)
    obtain ⟨hc, hH, ho, op, hC⟩ := hC
    have o9 := op.1
    have o5 := op.2
    have z9 : zr (M 87 9) = M 87 9 := zr_of (by omega) (by omega)
    have n9 : (M 87 9 = 5) = False := eq_false (by omega)
    have zc9 : zr c = c := zr_of (by omega) (by omega)
    have hn := hre_nn (T := tT M) (n := tn M) (s := sP M) (by omega)
    obtain ⟨b1, b2, b3, b4⟩ := op_M (v := M 87 9 + 1) ho
    have e6 : zup M 87 9 (M 87 9 + 1) 87 6 = M 87 6 := zup_k (by decide)
    obtain ⟨a1, a2, a3⟩ := adv_M b2 (by rw [b1, b4]; exact hn.1)
    rw [e6] at a1 a2 a3
    rw [b1] at a1
    obtain ⟨M1, hM1⟩ : ∃ M1, zup (zup M 87 9 (M 87 9 + 1)) 87 6 (M 87 6 + 1) = M1 := ⟨_, rfl⟩
    rw [hM1] at a1 a2 a3
    have t1 : tT M1 = tT M := by rw [a3.eT, b3]
    have n1 : tn M1 = tn M := by rw [a3.eN, b4]
    have u1 : M1 87 10 = M 87 10 := by rw [a3.u, zup_k (by decide)]
    have p1 : M1 87 9 = M 87 9 + 1 := by rw [a3.op, zup_eq]
    have op1 : opM r M1 := ⟨by rw [p1]; omega, by omega⟩
    have J70 : ∀ M4 : ZMm, okM M4 → Fx M1 M4 → sP M4 = pop (tT M) (tn M) (M 87 10) (r + 1) c (sP M) → X 70 [some (.inr (.inr (.inl 87))), some (.inl c)] [] (zG, M4) (0, 0) := by
      intro M4 o4 f4 e4
      refine bs_X11_opens_70 hX ?_
      simp only [bk_X11_opens_0, k_X11_opens_0, bk_X11_opens_13, k_X11_opens_13, bk_X11_opens_53, k_X11_opens_53, bk_X11_opens_70, k_X11_opens_70, ↓e_rk1, ↓e_rk0, ↓e_sk0, ↓e_sks, ↓e_ldi0, ↓e_ldis, ↓e_ldl0, ↓e_ldls, ↓e_lda0, ↓e_ldas, ↓e_ok0, ↓e_okss, ↓e_ok1i, ↓e_ok1r, ↓e_ok1n, ↓e_sti, ↓e_sta, ↓e_1, ↓e_2, ↓e_l1, ↓e_l2, ↓e_li, ↓e_sw0, ↓e_sws, ↓e_ceq, ↓e_cne, ↓e_clt, ↓e_cge, ↓e_cgt, ↓e_cle, ↓e_nil, ↓e_cons, ↓e_iconst, ↓e_bipush, ↓e_sipush, ↓e_ldc, ↓e_ldcw, ↓e_ldc2, ↓e_lconst, ↓e_iloadn, ↓e_iload, ↓e_lloadn, ↓e_lload, ↓e_aloadn, ↓e_aload, ↓e_istoren, ↓e_istore, ↓e_astoren, ↓e_astore, ↓e_add, ↓e_iinc, ↓e_iadd, ↓e_isub, ↓e_imul, ↓e_iand, ↓e_ior, ↓e_ixor, ↓e_ishl, ↓e_iushr, ↓e_idiv, ↓e_irem, ↓e_ineg, ↓e_i2l, ↓e_i2b, ↓e_i2s, ↓e_l2i, ↓e_land, ↓e_lor, ↓e_lshl, ↓e_lshr, ↓e_lushr, ↓e_lcmp, ↓e_dupi, ↓e_dupr, ↓e_popi, ↓e_dup2, ↓e_goto, ↓e_if, ↓e_icmp, ↓e_tsw, ↓e_lsw, ↓e_getf, ↓e_putf, ↓e_gets, ↓e_iald, ↓e_cald, ↓e_iast, ↓e_aald, ↓e_aast, ↓e_len, ↓e_copy, ↓e_abs, ↓e_max, ↓e_min, ↓e_iret, ↓e_aret, ↓e_vret, ↓e_is0, ↓e_is1, ↓e_is2, ↓e_is3, ↓e_is4, ↓e_iv1, ↓e_iv2, ↓e_iv3, ↓e_iv4, ↓e_iv5, ↓e_iv6, ↓rt_X11_opens, ↓reduceIte, Nat.reduceAdd, Nat.reduceEqDiff, ↓zcl0, ↓zclv, List.map_nil, List.sum_nil, List.map_cons, List.sum_cons, zcat, true_and, and_true, Nat.reduceLeDiff, Nat.reduceAdd, eq_self, forall_const, e_ok0, e_okss, e_ok1i, e_ok1r, e_ok1n, zl_1, zl_5, zl_33, zl_41, zl_20033, Int.reduceToNat, Int.reduceAdd, Int.reduceMul, Int.reduceSub, Int.reduceNeg, Int.reduceLT, Int.reduceLE, Int.reduceEq, not_false_eq_true, not_true_eq_false, false_implies, true_implies, implies_true, Int.reduceDiv, Int.reduceMod, zr8_zr, zr_zbo, z01_zbo, z01_0, z01_1, zbo_eq0, zup_eq, zup_o, zup_k, ne_eq, ↓ct_ropS_lay, ↓r_lay, ↓B_lay, ↓ct_ropS_takes, ↓r_takes, ↓B_takes, ↓ct_ropS_wrong, ↓r_wrong, ↓B_wrong, ↓ct_ropS_run, ↓r_run, ↓B_run, ↓ct_ropS_rei, ↓r_rei, ↓B_rei, ↓v_87, ↓g_87_0, ↓l_88, ↓s_88, ↓n_88, ↓g_87_1, ↓l_89, ↓s_89, ↓n_89, ↓g_87_2, ↓l_90, ↓s_90, ↓n_90, ↓g_87_3, ↓p_87_3, ↓g_87_4, ↓l_91, ↓s_91, ↓n_91, ↓g_87_5, ↓p_87_5, ↓g_87_6, ↓p_87_6, ↓g_87_7, ↓p_87_7, ↓g_87_8, ↓p_87_8, ↓g_87_9, ↓p_87_9, ↓g_87_10, ↓p_87_10, ↓g_87_11, ↓l_92, ↓s_92, ↓n_92, ↓g_87_12, ↓l_93, ↓s_93, ↓n_93, ↓g_87_13, ↓p_87_13, ↓g_87_14, ↓l_94, ↓s_94, ↓n_94, ↓g_87_15, ↓p_87_15, ↓g_87_16, ↓l_95, ↓s_95, ↓n_95, ↓g_87_17, ↓l_96, ↓s_96, ↓n_96, ↓g_87_18, ↓l_97, ↓s_97, ↓n_97, ↓g_87_19, ↓p_87_19, ↓g_87_20, ↓p_87_20, ↓g_87_21, ↓l_98, ↓s_98, ↓n_98, ↓g_87_22, ↓l_99, ↓s_99, ↓n_99, ↓g_87_23, ↓l_100, ↓s_100, ↓n_100, ↓g_87_24, ↓l_101, ↓s_101, ↓n_101, ↓rdC]
      obtain ⟨d1, d2, d3, d4⟩ := op_M (v := M4 87 9 - 1) o4
      refine hC _ (by rw [d1]; exact e4) d2 (fun x i q1 q2 => ?_)
      by_cases q9 : x = 87 ∧ i = 9
      · obtain ⟨qa, qb⟩ := q9
        subst qa; subst qb
        rw [zup_eq, f4.op, p1]
        omega
      · have e9 : zup M4 87 9 (M4 87 9 - 1) x i = M4 x i := by simp only [zup]; rw [if_neg q9]
        rw [e9, f4 x i q1 q2, a3 x i q1 q2]
        simp only [zup]
        rw [if_neg q9]
    have J53 : ¬ c = 33 → X 53 [some (.inr (.inr (.inl 87))), some (.inl c)] [] (zG, M1) (0, 0) := by
      intro q
      refine bs_X11_opens_53 hX ?_
      simp only [bk_X11_opens_0, k_X11_opens_0, bk_X11_opens_13, k_X11_opens_13, bk_X11_opens_53, k_X11_opens_53, bk_X11_opens_70, k_X11_opens_70, ↓e_rk1, ↓e_rk0, ↓e_sk0, ↓e_sks, ↓e_ldi0, ↓e_ldis, ↓e_ldl0, ↓e_ldls, ↓e_lda0, ↓e_ldas, ↓e_ok0, ↓e_okss, ↓e_ok1i, ↓e_ok1r, ↓e_ok1n, ↓e_sti, ↓e_sta, ↓e_1, ↓e_2, ↓e_l1, ↓e_l2, ↓e_li, ↓e_sw0, ↓e_sws, ↓e_ceq, ↓e_cne, ↓e_clt, ↓e_cge, ↓e_cgt, ↓e_cle, ↓e_nil, ↓e_cons, ↓e_iconst, ↓e_bipush, ↓e_sipush, ↓e_ldc, ↓e_ldcw, ↓e_ldc2, ↓e_lconst, ↓e_iloadn, ↓e_iload, ↓e_lloadn, ↓e_lload, ↓e_aloadn, ↓e_aload, ↓e_istoren, ↓e_istore, ↓e_astoren, ↓e_astore, ↓e_add, ↓e_iinc, ↓e_iadd, ↓e_isub, ↓e_imul, ↓e_iand, ↓e_ior, ↓e_ixor, ↓e_ishl, ↓e_iushr, ↓e_idiv, ↓e_irem, ↓e_ineg, ↓e_i2l, ↓e_i2b, ↓e_i2s, ↓e_l2i, ↓e_land, ↓e_lor, ↓e_lshl, ↓e_lshr, ↓e_lushr, ↓e_lcmp, ↓e_dupi, ↓e_dupr, ↓e_popi, ↓e_dup2, ↓e_goto, ↓e_if, ↓e_icmp, ↓e_tsw, ↓e_lsw, ↓e_getf, ↓e_putf, ↓e_gets, ↓e_iald, ↓e_cald, ↓e_iast, ↓e_aald, ↓e_aast, ↓e_len, ↓e_copy, ↓e_abs, ↓e_max, ↓e_min, ↓e_iret, ↓e_aret, ↓e_vret, ↓e_is0, ↓e_is1, ↓e_is2, ↓e_is3, ↓e_is4, ↓e_iv1, ↓e_iv2, ↓e_iv3, ↓e_iv4, ↓e_iv5, ↓e_iv6, ↓rt_X11_opens, ↓reduceIte, Nat.reduceAdd, Nat.reduceEqDiff, ↓zcl0, ↓zclv, List.map_nil, List.sum_nil, List.map_cons, List.sum_cons, zcat, true_and, and_true, Nat.reduceLeDiff, Nat.reduceAdd, eq_self, forall_const, e_ok0, e_okss, e_ok1i, e_ok1r, e_ok1n, zl_1, zl_5, zl_33, zl_41, zl_20033, Int.reduceToNat, Int.reduceAdd, Int.reduceMul, Int.reduceSub, Int.reduceNeg, Int.reduceLT, Int.reduceLE, Int.reduceEq, not_false_eq_true, not_true_eq_false, false_implies, true_implies, implies_true, Int.reduceDiv, Int.reduceMod, zr8_zr, zr_zbo, z01_zbo, z01_0, z01_1, zbo_eq0, zup_eq, zup_o, zup_k, ne_eq, ↓ct_ropS_lay, ↓r_lay, ↓B_lay, ↓ct_ropS_takes, ↓r_takes, ↓B_takes, ↓ct_ropS_wrong, ↓r_wrong, ↓B_wrong, ↓ct_ropS_run, ↓r_run, ↓B_run, ↓ct_ropS_rei, ↓r_rei, ↓B_rei, ↓v_87, ↓g_87_0, ↓l_88, ↓s_88, ↓n_88, ↓g_87_1, ↓l_89, ↓s_89, ↓n_89, ↓g_87_2, ↓l_90, ↓s_90, ↓n_90, ↓g_87_3, ↓p_87_3, ↓g_87_4, ↓l_91, ↓s_91, ↓n_91, ↓g_87_5, ↓p_87_5, ↓g_87_6, ↓p_87_6, ↓g_87_7, ↓p_87_7, ↓g_87_8, ↓p_87_8, ↓g_87_9, ↓p_87_9, ↓g_87_10, ↓p_87_10, ↓g_87_11, ↓l_92, ↓s_92, ↓n_92, ↓g_87_12, ↓l_93, ↓s_93, ↓n_93, ↓g_87_13, ↓p_87_13, ↓g_87_14, ↓l_94, ↓s_94, ↓n_94, ↓g_87_15, ↓p_87_15, ↓g_87_16, ↓l_95, ↓s_95, ↓n_95, ↓g_87_17, ↓l_96, ↓s_96, ↓n_96, ↓g_87_18, ↓l_97, ↓s_97, ↓n_97, ↓g_87_19, ↓p_87_19, ↓g_87_20, ↓p_87_20, ↓g_87_21, ↓l_98, ↓s_98, ↓n_98, ↓g_87_22, ↓l_99, ↓s_99, ↓n_99, ↓g_87_23, ↓l_100, ↓s_100, ↓n_100, ↓g_87_24, ↓l_101, ↓s_101, ↓n_101, ↓rdC, zl_0, zl_1]
      refine ⟨a2, op1, fun M2 e2 o2 f2 => ?_⟩
      rw [t1, n1, u1, a1] at e2
      have ep : pop (tT M) (tn M) (M 87 10) (r + 1) c (sP M) = pcl (tT M) (tn M) (sP M2) := by
        show (if c = 33 then _ else _) = _
        rw [if_neg q, e2]
      refine ⟨o2, fun q41 M3 e3 o3 f3 => ?_, fun q41 => ⟨o2, fun M3 e3 o3 f3 => ?_⟩⟩
      · refine J70 M3 o3 (f2.trans f3) ?_
        rw [ep]
        unfold pcl
        rw [f2.eT, f2.eN, t1, n1] at q41
        rw [if_pos q41, e3]
      · refine J70 M3 o3 (f2.trans f3) ?_
        rw [ep]
        unfold pcl
        rw [f2.eT, f2.eN, t1, n1] at q41
        rw [if_neg q41, e3]
    have J13 : X 13 [some (.inr (.inr (.inl 87))), some (.inl c)] [] (zG, M) (0, 0) := by
      refine bs_X11_opens_13 hX ?_
      simp only [bk_X11_opens_0, k_X11_opens_0, bk_X11_opens_13, k_X11_opens_13, bk_X11_opens_53, k_X11_opens_53, bk_X11_opens_70, k_X11_opens_70, ↓e_rk1, ↓e_rk0, ↓e_sk0, ↓e_sks, ↓e_ldi0, ↓e_ldis, ↓e_ldl0, ↓e_ldls, ↓e_lda0, ↓e_ldas, ↓e_ok0, ↓e_okss, ↓e_ok1i, ↓e_ok1r, ↓e_ok1n, ↓e_sti, ↓e_sta, ↓e_1, ↓e_2, ↓e_l1, ↓e_l2, ↓e_li, ↓e_sw0, ↓e_sws, ↓e_ceq, ↓e_cne, ↓e_clt, ↓e_cge, ↓e_cgt, ↓e_cle, ↓e_nil, ↓e_cons, ↓e_iconst, ↓e_bipush, ↓e_sipush, ↓e_ldc, ↓e_ldcw, ↓e_ldc2, ↓e_lconst, ↓e_iloadn, ↓e_iload, ↓e_lloadn, ↓e_lload, ↓e_aloadn, ↓e_aload, ↓e_istoren, ↓e_istore, ↓e_astoren, ↓e_astore, ↓e_add, ↓e_iinc, ↓e_iadd, ↓e_isub, ↓e_imul, ↓e_iand, ↓e_ior, ↓e_ixor, ↓e_ishl, ↓e_iushr, ↓e_idiv, ↓e_irem, ↓e_ineg, ↓e_i2l, ↓e_i2b, ↓e_i2s, ↓e_l2i, ↓e_land, ↓e_lor, ↓e_lshl, ↓e_lshr, ↓e_lushr, ↓e_lcmp, ↓e_dupi, ↓e_dupr, ↓e_popi, ↓e_dup2, ↓e_goto, ↓e_if, ↓e_icmp, ↓e_tsw, ↓e_lsw, ↓e_getf, ↓e_putf, ↓e_gets, ↓e_iald, ↓e_cald, ↓e_iast, ↓e_aald, ↓e_aast, ↓e_len, ↓e_copy, ↓e_abs, ↓e_max, ↓e_min, ↓e_iret, ↓e_aret, ↓e_vret, ↓e_is0, ↓e_is1, ↓e_is2, ↓e_is3, ↓e_is4, ↓e_iv1, ↓e_iv2, ↓e_iv3, ↓e_iv4, ↓e_iv5, ↓e_iv6, ↓rt_X11_opens, ↓reduceIte, Nat.reduceAdd, Nat.reduceEqDiff, ↓zcl0, ↓zclv, List.map_nil, List.sum_nil, List.map_cons, List.sum_cons, zcat, true_and, and_true, Nat.reduceLeDiff, Nat.reduceAdd, eq_self, forall_const, e_ok0, e_okss, e_ok1i, e_ok1r, e_ok1n, zl_1, zl_5, zl_33, zl_41, zl_20033, Int.reduceToNat, Int.reduceAdd, Int.reduceMul, Int.reduceSub, Int.reduceNeg, Int.reduceLT, Int.reduceLE, Int.reduceEq, not_false_eq_true, not_true_eq_false, false_implies, true_implies, implies_true, Int.reduceDiv, Int.reduceMod, zr8_zr, zr_zbo, z01_zbo, z01_0, z01_1, zbo_eq0, zup_eq, zup_o, zup_k, ne_eq, ↓ct_ropS_lay, ↓r_lay, ↓B_lay, ↓ct_ropS_takes, ↓r_takes, ↓B_takes, ↓ct_ropS_wrong, ↓r_wrong, ↓B_wrong, ↓ct_ropS_run, ↓r_run, ↓B_run, ↓ct_ropS_rei, ↓r_rei, ↓B_rei, ↓v_87, ↓g_87_0, ↓l_88, ↓s_88, ↓n_88, ↓g_87_1, ↓l_89, ↓s_89, ↓n_89, ↓g_87_2, ↓l_90, ↓s_90, ↓n_90, ↓g_87_3, ↓p_87_3, ↓g_87_4, ↓l_91, ↓s_91, ↓n_91, ↓g_87_5, ↓p_87_5, ↓g_87_6, ↓p_87_6, ↓g_87_7, ↓p_87_7, ↓g_87_8, ↓p_87_8, ↓g_87_9, ↓p_87_9, ↓g_87_10, ↓p_87_10, ↓g_87_11, ↓l_92, ↓s_92, ↓n_92, ↓g_87_12, ↓l_93, ↓s_93, ↓n_93, ↓g_87_13, ↓p_87_13, ↓g_87_14, ↓l_94, ↓s_94, ↓n_94, ↓g_87_15, ↓p_87_15, ↓g_87_16, ↓l_95, ↓s_95, ↓n_95, ↓g_87_17, ↓l_96, ↓s_96, ↓n_96, ↓g_87_18, ↓l_97, ↓s_97, ↓n_97, ↓g_87_19, ↓p_87_19, ↓g_87_20, ↓p_87_20, ↓g_87_21, ↓l_98, ↓s_98, ↓n_98, ↓g_87_22, ↓l_99, ↓s_99, ↓n_99, ↓g_87_23, ↓l_100, ↓s_100, ↓n_100, ↓g_87_24, ↓l_101, ↓s_101, ↓n_101, ↓rdC, hM1, zc9]
      refine ⟨fun q => ?_, fun q => ?_⟩
      rotate_left
      · exact J53 q
      refine ⟨a2, op1, fun M2 e2 o2 f2 => ?_⟩
      rw [t1, n1, a1] at e2
      have ok1 := a2.1
      rw [n1, a1] at ok1
      obtain ⟨g1, g2, g3, g4, g5⟩ := Gd_pnt (T := tT M) (n := tn M) (u := M 87 10) r _ ok1
      rw [← e2] at g2 g3
      have ea : (adv (sP M)).1 = (sP M).1 + 1 := rfl
      have el : (adv (sP M)).2.2 = (sP M).2.2 := rfl
      rw [el] at g3
      have hl' := ho.1.2.1
      refine ⟨o2, fun _ => by omega, fun M3 e3 o3 f3 => J70 M3 o3 (f2.trans f3) ?_⟩
      show _ = (if c = 33 then _ else _)
      rw [if_pos q, e3, e2]
    simp only [bk_X11_opens_0, k_X11_opens_0, bk_X11_opens_13, k_X11_opens_13, bk_X11_opens_53, k_X11_opens_53, bk_X11_opens_70, k_X11_opens_70, ↓e_rk1, ↓e_rk0, ↓e_sk0, ↓e_sks, ↓e_ldi0, ↓e_ldis, ↓e_ldl0, ↓e_ldls, ↓e_lda0, ↓e_ldas, ↓e_ok0, ↓e_okss, ↓e_ok1i, ↓e_ok1r, ↓e_ok1n, ↓e_sti, ↓e_sta, ↓e_1, ↓e_2, ↓e_l1, ↓e_l2, ↓e_li, ↓e_sw0, ↓e_sws, ↓e_ceq, ↓e_cne, ↓e_clt, ↓e_cge, ↓e_cgt, ↓e_cle, ↓e_nil, ↓e_cons, ↓e_iconst, ↓e_bipush, ↓e_sipush, ↓e_ldc, ↓e_ldcw, ↓e_ldc2, ↓e_lconst, ↓e_iloadn, ↓e_iload, ↓e_lloadn, ↓e_lload, ↓e_aloadn, ↓e_aload, ↓e_istoren, ↓e_istore, ↓e_astoren, ↓e_astore, ↓e_add, ↓e_iinc, ↓e_iadd, ↓e_isub, ↓e_imul, ↓e_iand, ↓e_ior, ↓e_ixor, ↓e_ishl, ↓e_iushr, ↓e_idiv, ↓e_irem, ↓e_ineg, ↓e_i2l, ↓e_i2b, ↓e_i2s, ↓e_l2i, ↓e_land, ↓e_lor, ↓e_lshl, ↓e_lshr, ↓e_lushr, ↓e_lcmp, ↓e_dupi, ↓e_dupr, ↓e_popi, ↓e_dup2, ↓e_goto, ↓e_if, ↓e_icmp, ↓e_tsw, ↓e_lsw, ↓e_getf, ↓e_putf, ↓e_gets, ↓e_iald, ↓e_cald, ↓e_iast, ↓e_aald, ↓e_aast, ↓e_len, ↓e_copy, ↓e_abs, ↓e_max, ↓e_min, ↓e_iret, ↓e_aret, ↓e_vret, ↓e_is0, ↓e_is1, ↓e_is2, ↓e_is3, ↓e_is4, ↓e_iv1, ↓e_iv2, ↓e_iv3, ↓e_iv4, ↓e_iv5, ↓e_iv6, ↓rt_X11_opens, ↓reduceIte, Nat.reduceAdd, Nat.reduceEqDiff, ↓zcl0, ↓zclv, List.map_nil, List.sum_nil, List.map_cons, List.sum_cons, zcat, true_and, and_true, Nat.reduceLeDiff, Nat.reduceAdd, eq_self, forall_const, e_ok0, e_okss, e_ok1i, e_ok1r, e_ok1n, zl_1, zl_5, zl_33, zl_41, zl_20033, Int.reduceToNat, Int.reduceAdd, Int.reduceMul, Int.reduceSub, Int.reduceNeg, Int.reduceLT, Int.reduceLE, Int.reduceEq, not_false_eq_true, not_true_eq_false, false_implies, true_implies, implies_true, Int.reduceDiv, Int.reduceMod, zr8_zr, zr_zbo, z01_zbo, z01_0, z01_1, zbo_eq0, zup_eq, zup_o, zup_k, ne_eq, ↓ct_ropS_lay, ↓r_lay, ↓B_lay, ↓ct_ropS_takes, ↓r_takes, ↓B_takes, ↓ct_ropS_wrong, ↓r_wrong, ↓B_wrong, ↓ct_ropS_run, ↓r_run, ↓B_run, ↓ct_ropS_rei, ↓r_rei, ↓B_rei, ↓v_87, ↓g_87_0, ↓l_88, ↓s_88, ↓n_88, ↓g_87_1, ↓l_89, ↓s_89, ↓n_89, ↓g_87_2, ↓l_90, ↓s_90, ↓n_90, ↓g_87_3, ↓p_87_3, ↓g_87_4, ↓l_91, ↓s_91, ↓n_91, ↓g_87_5, ↓p_87_5, ↓g_87_6, ↓p_87_6, ↓g_87_7, ↓p_87_7, ↓g_87_8, ↓p_87_8, ↓g_87_9, ↓p_87_9, ↓g_87_10, ↓p_87_10, ↓g_87_11, ↓l_92, ↓s_92, ↓n_92, ↓g_87_12, ↓l_93, ↓s_93, ↓n_93, ↓g_87_13, ↓p_87_13, ↓g_87_14, ↓l_94, ↓s_94, ↓n_94, ↓g_87_15, ↓p_87_15, ↓g_87_16, ↓l_95, ↓s_95, ↓n_95, ↓g_87_17, ↓l_96, ↓s_96, ↓n_96, ↓g_87_18, ↓l_97, ↓s_97, ↓n_97, ↓g_87_19, ↓p_87_19, ↓g_87_20, ↓p_87_20, ↓g_87_21, ↓l_98, ↓s_98, ↓n_98, ↓g_87_22, ↓l_99, ↓s_99, ↓n_99, ↓g_87_23, ↓l_100, ↓s_100, ↓n_100, ↓g_87_24, ↓l_101, ↓s_101, ↓n_101, ↓rdC, z9, n9]
    exact J13
theorem c_reiB {E : ZE} {d : Nat} {r : Nat} (h : 8 + 7 * r ≤ d) (hu : ∀ d, 3 + 7 * r ≤ d → zMet E d mX11_unit (C_run r)) : zMet E d mX11_either (C_rei r) :=
  c_rei (by omega) ⟨d - 1, by omega, c_rbo (by omega) ⟨d - 2, by omega, c_rcm (by omega) ⟨d - 3, by omega, c_rsm (by omega) ⟨d - 4, by omega, c_rpr (by omega) ⟨d - 5, by omega, hu (d - 5) (by omega)⟩⟩⟩⟩⟩
theorem c_runA {E : ZE} : ∀ (r d : Nat), 3 + 7 * r ≤ d → zMet E d mX11_unit (C_run r)
  | 0, d, h => c_run (by omega) ⟨2, by omega, c_rop0 (r := 0) (by omega)⟩
  | r + 1, d, h => c_run (by omega) ⟨d - 1, by omega, c_ropS (by omega) ⟨d - 2, by omega, c_runA r (d - 2) (by omega)⟩ ⟨d - 2, by omega, c_reiB (by omega) (fun d h => c_runA r d h)⟩⟩
theorem c_reiA {E : ZE} {d : Nat} (h : 43 ≤ d) : zMet E d mX11_either (C_rei 5) := c_reiB (by omega) (fun d h => c_runA 5 d h)
/-- rows and slots that reading changes -/
def Fr (M M' : ZMm) : Prop := ∀ x i, ¬ x = 93 → ¬ (x = 87 ∧ ((5 ≤ i ∧ i ≤ 10) ∨ i = 13)) → M' x i = M x i
def B_rds (r : Nat) (f : Int) (n : Int) (u : Int) (M : Nat → Nat → Int) (post : Option ZV → (Nat → Nat → Int) → Prop) : Prop := f = 308 ∧ (0 ≤ n ∧ n ≤ 50) ∧ (u = 0 ∨ u = 1) ∧ (∀ k, k < 50 → rg (tT M k)) ∧ ∀ M2 : ZMm, okM M2 → sP M2 = prd (tT M) n.toNat u → Fr M M2 → post none M2
def C_rds (r : Nat) : ZC := fun as h post => match as with
  | [.inr (.inr (.inl 87)), .inl f, .inl n, .inl u] => h.1 = zG ∧ B_rds r f n u h.2 (fun v M => post v (zG, M))
  | _ => False
theorem r_rds {r : Nat} {f : Int} {n : Int} {u : Int} {M : Nat → Nat → Int} {post : Option ZV → ZH → Prop} : C_rds r [.inr (.inr (.inl 87)), .inl f, .inl n, .inl u] (zG, M) post = B_rds r f n u M (fun v M => post v (zG, M)) := by show (zG = zG ∧ _) = _; simp
def ct_rds (r : Nat) : Nat → ZC := fun n => if n = 133 then C_wrong else if n = 137 then C_rei (5) else fun _ _ _ => False
theorem ct_rds_wrong {r : Nat} {as : List ZV} {h : ZH} {post : Option ZV → ZH → Prop} : ct_rds r 133 as h post = C_wrong as h post := rfl
theorem ct_rds_rei {r : Nat} {as : List ZV} {h : ZH} {post : Option ZV → ZH → Prop} : ct_rds r 137 as h post = C_rei (5) as h post := rfl
theorem c_rds {E : ZE} {d : Nat} {r : Nat} (hd : 2 ≤ d) (i_rei : ∃ d', d' < d ∧ zMet E d' mX11_either (C_rei (5))) : zMet E d mX11_reads (C_rds (r)) := by
  refine zmet_of (o := 11) (ini := false) (CT := ct_rds r) gd_X11_reads rfl (fun h => by cases h) (by omega) ?_ ?_
  · intro n as h post hh
    unfold ct_rds at hh
    by_cases c : n = 133
    · subst c; exact ⟨gd_X11_wrong, 1, by omega, c_wrong (by omega)⟩
    rw [if_neg c] at hh
    by_cases c : n = 137
    · subst c; exact ⟨gd_X11_either, i_rei⟩
    rw [if_neg c] at hh
    exact hh.elim
  intro as h post hC
  match as, hC with
  | [.inr (.inr (.inl 87)), .inl f, .inl n, .inl u], hC =>
    refine ⟨Nat.le_of_ble_eq_true rfl, fun X hX => bs_X11_reads_0 hX ?_⟩
    obtain ⟨G, M⟩ := h
    obtain ⟨hG, hC⟩ := hC
    dsimp only at hG
    subst hG
    simp only [B_rds] at hC
    show bk_X11_reads_0 E (ct_rds r) X _ [some (.inr (.inr (.inl 87))), some (.inl f), some (.inl n), some (.inl u)] [] (zG, M) (0, 0)
    obtain ⟨hf, hn, hu, hr, hC⟩ := hC
    subst hf
    have zu : zr u = u := zr_of (by omega) (by omega)
    have J48 : ∀ M2 : ZMm, okM M2 → sP M2 = pvT (tT M) n.toNat (pnt (tT M) n.toNat u 5) (0, -1, []) → tn M2 = n.toNat → Fr M M2 → X 48 [some (.inr (.inr (.inl 87))), some (.inl ((308 : Int))), some (.inl n), some (.inl u)] [] (zG, M2) (0, 0) := by
      intro M2 o2 e2 t2 f2
      refine bs_X11_reads_48 hX ?_
      obtain ⟨w1, w2, w3, w4⟩ := o2.1
      have ea := o2.pl
      have en := o2.sz
      have e8 : (sP M2).2.1 = M2 87 8 := rfl
      have z6 : zr (M2 87 6) = M2 87 6 := zr_of (by omega) (by omega)
      have z7 : zr (M2 87 7) = M2 87 7 := zr_of (by omega) (by omega)
      have z8 : zr (M2 87 8) = M2 87 8 := zr_of (by omega) (by omega)
      have ep : prd (tT M) n.toNat u = if (sP M2).2.1 < 0 ∧ (sP M2).1 < n.toNat then wrg (sP M2) else sP M2 := by
        unfold prd
        rw [← e2]
      simp only [bk_X11_reads_0, k_X11_reads_0, bk_X11_reads_40, k_X11_reads_40, bk_X11_reads_41, k_X11_reads_41, bk_X11_reads_44, k_X11_reads_44, bk_X11_reads_48, k_X11_reads_48, bk_X11_reads_70, k_X11_reads_70, ↓e_rk1, ↓e_rk0, ↓e_sk0, ↓e_sks, ↓e_ldi0, ↓e_ldis, ↓e_ldl0, ↓e_ldls, ↓e_lda0, ↓e_ldas, ↓e_ok0, ↓e_okss, ↓e_ok1i, ↓e_ok1r, ↓e_ok1n, ↓e_sti, ↓e_sta, ↓e_1, ↓e_2, ↓e_l1, ↓e_l2, ↓e_li, ↓e_sw0, ↓e_sws, ↓e_ceq, ↓e_cne, ↓e_clt, ↓e_cge, ↓e_cgt, ↓e_cle, ↓e_nil, ↓e_cons, ↓e_iconst, ↓e_bipush, ↓e_sipush, ↓e_ldc, ↓e_ldcw, ↓e_ldc2, ↓e_lconst, ↓e_iloadn, ↓e_iload, ↓e_lloadn, ↓e_lload, ↓e_aloadn, ↓e_aload, ↓e_istoren, ↓e_istore, ↓e_astoren, ↓e_astore, ↓e_add, ↓e_iinc, ↓e_iadd, ↓e_isub, ↓e_imul, ↓e_iand, ↓e_ior, ↓e_ixor, ↓e_ishl, ↓e_iushr, ↓e_idiv, ↓e_irem, ↓e_ineg, ↓e_i2l, ↓e_i2b, ↓e_i2s, ↓e_l2i, ↓e_land, ↓e_lor, ↓e_lshl, ↓e_lshr, ↓e_lushr, ↓e_lcmp, ↓e_dupi, ↓e_dupr, ↓e_popi, ↓e_dup2, ↓e_goto, ↓e_if, ↓e_icmp, ↓e_tsw, ↓e_lsw, ↓e_getf, ↓e_putf, ↓e_gets, ↓e_iald, ↓e_cald, ↓e_iast, ↓e_aald, ↓e_aast, ↓e_len, ↓e_copy, ↓e_abs, ↓e_max, ↓e_min, ↓e_iret, ↓e_aret, ↓e_vret, ↓e_is0, ↓e_is1, ↓e_is2, ↓e_is3, ↓e_is4, ↓e_iv1, ↓e_iv2, ↓e_iv3, ↓e_iv4, ↓e_iv5, ↓e_iv6, ↓rt_X11_reads, ↓reduceIte, Nat.reduceAdd, Nat.reduceEqDiff, ↓zcl0, ↓zclv, List.map_nil, List.sum_nil, List.map_cons, List.sum_cons, zcat, true_and, and_true, Nat.reduceLeDiff, Nat.reduceAdd, eq_self, forall_const, e_ok0, e_okss, e_ok1i, e_ok1r, e_ok1n, zl_m1, zl_0, zl_1, Int.reduceToNat, Int.reduceAdd, Int.reduceMul, Int.reduceSub, Int.reduceNeg, Int.reduceLT, Int.reduceLE, Int.reduceEq, not_false_eq_true, not_true_eq_false, false_implies, true_implies, implies_true, Int.reduceDiv, Int.reduceMod, zr8_zr, zr_zbo, z01_zbo, z01_0, z01_1, zbo_eq0, zup_eq, zup_o, zup_k, ne_eq, ↓ct_rds_wrong, ↓r_wrong, ↓B_wrong, ↓ct_rds_rei, ↓r_rei, ↓B_rei, ↓v_87, ↓g_87_0, ↓l_88, ↓s_88, ↓n_88, ↓g_87_1, ↓l_89, ↓s_89, ↓n_89, ↓g_87_2, ↓l_90, ↓s_90, ↓n_90, ↓g_87_3, ↓p_87_3, ↓g_87_4, ↓l_91, ↓s_91, ↓n_91, ↓g_87_5, ↓p_87_5, ↓g_87_6, ↓p_87_6, ↓g_87_7, ↓p_87_7, ↓g_87_8, ↓p_87_8, ↓g_87_9, ↓p_87_9, ↓g_87_10, ↓p_87_10, ↓g_87_11, ↓l_92, ↓s_92, ↓n_92, ↓g_87_12, ↓l_93, ↓s_93, ↓n_93, ↓g_87_13, ↓p_87_13, ↓g_87_14, ↓l_94, ↓s_94, ↓n_94, ↓g_87_15, ↓p_87_15, ↓g_87_16, ↓l_95, ↓s_95, ↓n_95, ↓g_87_17, ↓l_96, ↓s_96, ↓n_96, ↓g_87_18, ↓l_97, ↓s_97, ↓n_97, ↓g_87_19, ↓p_87_19, ↓g_87_20, ↓p_87_20, ↓g_87_21, ↓l_98, ↓s_98, ↓n_98, ↓g_87_22, ↓l_99, ↓s_99, ↓n_99, ↓g_87_23, ↓l_100, ↓s_100, ↓n_100, ↓g_87_24, ↓l_101, ↓s_101, ↓n_101, z6, z7, z8]
      have r9 : ¬ ((sP M2).2.1 < 0 ∧ (sP M2).1 < n.toNat) → post none (zG, M2) := fun q => hC M2 o2 (by rw [ep, if_neg q]) f2
      have g9 : ((sP M2).2.1 < 0 ∧ (sP M2).1 < n.toNat) → ∀ M3 : ZMm, sP M3 = wrg (sP M2) → okM M3 → Fx M2 M3 → post none (zG, M3) := fun q M3 e3 o3 f3 => hC M3 o3 (by rw [ep, if_pos q, e3]) (fun x i q1 q2 => (f3 x i q1 (by omega)).trans (f2 x i q1 q2))
      repeat' (first | assumption | apply And.intro | intro _)
      all_goals first | exact o2 | omega | (apply r9; omega) | (refine g9 ?_ _ (by assumption) (by assumption) (by assumption); omega)
    have J44 : ∀ M1 : ZMm, M1 87 5 = 308 → M1 87 6 = 0 → M1 87 7 = n → M1 87 8 = -1 → M1 87 9 = 0 → M1 87 13 = 0 → M1 87 10 = u → Fr M M1 → X 44 [some (.inr (.inr (.inl 87))), some (.inl ((308 : Int))), some (.inl n), some (.inl u)] [] (zG, M1) (0, 0) := by
      intro M1 h5 h6 h7 h8 h9 h13 h10 f1
      have t1 : tT M1 = tT M := funext fun k => f1 88 (308 + k) (by omega) (by omega)
      have n1 : tn M1 = n.toNat := by unfold tn; rw [h7]
      have s1 : sP M1 = (0, -1, []) := by
        unfold sP
        rw [h6, h8, h13]
        rfl
      have o1 : okM M1 := ⟨by rw [s1, n1]; exact ⟨by simp, by simp, by simp, by show (-1 : Int) ≤ (n.toNat : Int); omega⟩, by omega, by omega, by omega, h5, by rw [t1]; exact hr, by rw [h10]; exact hu⟩
      refine bs_X11_reads_44 hX ?_
      simp only [bk_X11_reads_0, k_X11_reads_0, bk_X11_reads_40, k_X11_reads_40, bk_X11_reads_41, k_X11_reads_41, bk_X11_reads_44, k_X11_reads_44, bk_X11_reads_48, k_X11_reads_48, bk_X11_reads_70, k_X11_reads_70, ↓e_rk1, ↓e_rk0, ↓e_sk0, ↓e_sks, ↓e_ldi0, ↓e_ldis, ↓e_ldl0, ↓e_ldls, ↓e_lda0, ↓e_ldas, ↓e_ok0, ↓e_okss, ↓e_ok1i, ↓e_ok1r, ↓e_ok1n, ↓e_sti, ↓e_sta, ↓e_1, ↓e_2, ↓e_l1, ↓e_l2, ↓e_li, ↓e_sw0, ↓e_sws, ↓e_ceq, ↓e_cne, ↓e_clt, ↓e_cge, ↓e_cgt, ↓e_cle, ↓e_nil, ↓e_cons, ↓e_iconst, ↓e_bipush, ↓e_sipush, ↓e_ldc, ↓e_ldcw, ↓e_ldc2, ↓e_lconst, ↓e_iloadn, ↓e_iload, ↓e_lloadn, ↓e_lload, ↓e_aloadn, ↓e_aload, ↓e_istoren, ↓e_istore, ↓e_astoren, ↓e_astore, ↓e_add, ↓e_iinc, ↓e_iadd, ↓e_isub, ↓e_imul, ↓e_iand, ↓e_ior, ↓e_ixor, ↓e_ishl, ↓e_iushr, ↓e_idiv, ↓e_irem, ↓e_ineg, ↓e_i2l, ↓e_i2b, ↓e_i2s, ↓e_l2i, ↓e_land, ↓e_lor, ↓e_lshl, ↓e_lshr, ↓e_lushr, ↓e_lcmp, ↓e_dupi, ↓e_dupr, ↓e_popi, ↓e_dup2, ↓e_goto, ↓e_if, ↓e_icmp, ↓e_tsw, ↓e_lsw, ↓e_getf, ↓e_putf, ↓e_gets, ↓e_iald, ↓e_cald, ↓e_iast, ↓e_aald, ↓e_aast, ↓e_len, ↓e_copy, ↓e_abs, ↓e_max, ↓e_min, ↓e_iret, ↓e_aret, ↓e_vret, ↓e_is0, ↓e_is1, ↓e_is2, ↓e_is3, ↓e_is4, ↓e_iv1, ↓e_iv2, ↓e_iv3, ↓e_iv4, ↓e_iv5, ↓e_iv6, ↓rt_X11_reads, ↓reduceIte, Nat.reduceAdd, Nat.reduceEqDiff, ↓zcl0, ↓zclv, List.map_nil, List.sum_nil, List.map_cons, List.sum_cons, zcat, true_and, and_true, Nat.reduceLeDiff, Nat.reduceAdd, eq_self, forall_const, e_ok0, e_okss, e_ok1i, e_ok1r, e_ok1n, zl_m1, zl_0, zl_1, Int.reduceToNat, Int.reduceAdd, Int.reduceMul, Int.reduceSub, Int.reduceNeg, Int.reduceLT, Int.reduceLE, Int.reduceEq, not_false_eq_true, not_true_eq_false, false_implies, true_implies, implies_true, Int.reduceDiv, Int.reduceMod, zr8_zr, zr_zbo, z01_zbo, z01_0, z01_1, zbo_eq0, zup_eq, zup_o, zup_k, ne_eq, ↓ct_rds_wrong, ↓r_wrong, ↓B_wrong, ↓ct_rds_rei, ↓r_rei, ↓B_rei, ↓v_87, ↓g_87_0, ↓l_88, ↓s_88, ↓n_88, ↓g_87_1, ↓l_89, ↓s_89, ↓n_89, ↓g_87_2, ↓l_90, ↓s_90, ↓n_90, ↓g_87_3, ↓p_87_3, ↓g_87_4, ↓l_91, ↓s_91, ↓n_91, ↓g_87_5, ↓p_87_5, ↓g_87_6, ↓p_87_6, ↓g_87_7, ↓p_87_7, ↓g_87_8, ↓p_87_8, ↓g_87_9, ↓p_87_9, ↓g_87_10, ↓p_87_10, ↓g_87_11, ↓l_92, ↓s_92, ↓n_92, ↓g_87_12, ↓l_93, ↓s_93, ↓n_93, ↓g_87_13, ↓p_87_13, ↓g_87_14, ↓l_94, ↓s_94, ↓n_94, ↓g_87_15, ↓p_87_15, ↓g_87_16, ↓l_95, ↓s_95, ↓n_95, ↓g_87_17, ↓l_96, ↓s_96, ↓n_96, ↓g_87_18, ↓l_97, ↓s_97, ↓n_97, ↓g_87_19, ↓p_87_19, ↓g_87_20, ↓p_87_20, ↓g_87_21, ↓l_98, ↓s_98, ↓n_98, ↓g_87_22, ↓l_99, ↓s_99, ↓n_99, ↓g_87_23, ↓l_100, ↓s_100, ↓n_100, ↓g_87_24, ↓l_101, ↓s_101, ↓n_101, ↓rdC]
      refine ⟨o1, ⟨by rw [h9]; rfl, by omega⟩, fun M2 e2 o2 f2 => J48 M2 o2 ?_ (by rw [f2.eN, n1]) (fun x i q1 q2 => (f2 x i q1 (by omega)).trans (f1 x i q1 q2))⟩
      rw [e2, t1, n1, h10, s1]
    have zz1 : zr 1 = 1 := rfl
    simp only [bk_X11_reads_0, k_X11_reads_0, bk_X11_reads_40, k_X11_reads_40, bk_X11_reads_41, k_X11_reads_41, bk_X11_reads_44, k_X11_reads_44, bk_X11_reads_48, k_X11_reads_48, bk_X11_reads_70, k_X11_reads_70, ↓e_rk1, ↓e_rk0, ↓e_sk0, ↓e_sks, ↓e_ldi0, ↓e_ldis, ↓e_ldl0, ↓e_ldls, ↓e_lda0, ↓e_ldas, ↓e_ok0, ↓e_okss, ↓e_ok1i, ↓e_ok1r, ↓e_ok1n, ↓e_sti, ↓e_sta, ↓e_1, ↓e_2, ↓e_l1, ↓e_l2, ↓e_li, ↓e_sw0, ↓e_sws, ↓e_ceq, ↓e_cne, ↓e_clt, ↓e_cge, ↓e_cgt, ↓e_cle, ↓e_nil, ↓e_cons, ↓e_iconst, ↓e_bipush, ↓e_sipush, ↓e_ldc, ↓e_ldcw, ↓e_ldc2, ↓e_lconst, ↓e_iloadn, ↓e_iload, ↓e_lloadn, ↓e_lload, ↓e_aloadn, ↓e_aload, ↓e_istoren, ↓e_istore, ↓e_astoren, ↓e_astore, ↓e_add, ↓e_iinc, ↓e_iadd, ↓e_isub, ↓e_imul, ↓e_iand, ↓e_ior, ↓e_ixor, ↓e_ishl, ↓e_iushr, ↓e_idiv, ↓e_irem, ↓e_ineg, ↓e_i2l, ↓e_i2b, ↓e_i2s, ↓e_l2i, ↓e_land, ↓e_lor, ↓e_lshl, ↓e_lshr, ↓e_lushr, ↓e_lcmp, ↓e_dupi, ↓e_dupr, ↓e_popi, ↓e_dup2, ↓e_goto, ↓e_if, ↓e_icmp, ↓e_tsw, ↓e_lsw, ↓e_getf, ↓e_putf, ↓e_gets, ↓e_iald, ↓e_cald, ↓e_iast, ↓e_aald, ↓e_aast, ↓e_len, ↓e_copy, ↓e_abs, ↓e_max, ↓e_min, ↓e_iret, ↓e_aret, ↓e_vret, ↓e_is0, ↓e_is1, ↓e_is2, ↓e_is3, ↓e_is4, ↓e_iv1, ↓e_iv2, ↓e_iv3, ↓e_iv4, ↓e_iv5, ↓e_iv6, ↓rt_X11_reads, ↓reduceIte, Nat.reduceAdd, Nat.reduceEqDiff, ↓zcl0, ↓zclv, List.map_nil, List.sum_nil, List.map_cons, List.sum_cons, zcat, true_and, and_true, Nat.reduceLeDiff, Nat.reduceAdd, eq_self, forall_const, e_ok0, e_okss, e_ok1i, e_ok1r, e_ok1n, zl_m1, zl_0, zl_1, Int.reduceToNat, Int.reduceAdd, Int.reduceMul, Int.reduceSub, Int.reduceNeg, Int.reduceLT, Int.reduceLE, Int.reduceEq, not_false_eq_true, not_true_eq_false, false_implies, true_implies, implies_true, Int.reduceDiv, Int.reduceMod, zr8_zr, zr_zbo, z01_zbo, z01_0, z01_1, zbo_eq0, zup_eq, zup_o, zup_k, ne_eq, ↓ct_rds_wrong, ↓r_wrong, ↓B_wrong, ↓ct_rds_rei, ↓r_rei, ↓B_rei, ↓v_87, ↓g_87_0, ↓l_88, ↓s_88, ↓n_88, ↓g_87_1, ↓l_89, ↓s_89, ↓n_89, ↓g_87_2, ↓l_90, ↓s_90, ↓n_90, ↓g_87_3, ↓p_87_3, ↓g_87_4, ↓l_91, ↓s_91, ↓n_91, ↓g_87_5, ↓p_87_5, ↓g_87_6, ↓p_87_6, ↓g_87_7, ↓p_87_7, ↓g_87_8, ↓p_87_8, ↓g_87_9, ↓p_87_9, ↓g_87_10, ↓p_87_10, ↓g_87_11, ↓l_92, ↓s_92, ↓n_92, ↓g_87_12, ↓l_93, ↓s_93, ↓n_93, ↓g_87_13, ↓p_87_13, ↓g_87_14, ↓l_94, ↓s_94, ↓n_94, ↓g_87_15, ↓p_87_15, ↓g_87_16, ↓l_95, ↓s_95, ↓n_95, ↓g_87_17, ↓l_96, ↓s_96, ↓n_96, ↓g_87_18, ↓l_97, ↓s_97, ↓n_97, ↓g_87_19, ↓p_87_19, ↓g_87_20, ↓p_87_20, ↓g_87_21, ↓l_98, ↓s_98, ↓n_98, ↓g_87_22, ↓l_99, ↓s_99, ↓n_99, ↓g_87_23, ↓l_100, ↓s_100, ↓n_100, ↓g_87_24, ↓l_101, ↓s_101, ↓n_101, zu]
    have fin : ∀ v : Int, v = u → X 44 [some (.inr (.inr (.inl 87))), some (.inl ((308 : Int))), some (.inl n), some (.inl u)] [] (zG, (zup (zup (zup (zup (zup (zup (zup M 87 5 308) 87 6 0) 87 7 n) 87 8 (-1)) 87 9 0) 87 13 0) 87 10 v)) (0, 0) := by
      intro v hv
      refine J44 _ ?_ ?_ ?_ ?_ ?_ ?_ ?_ (fun x i q1 q2 => ?_)
      · simp [zup]
      · simp [zup]
      · simp [zup]
      · simp [zup]
      · simp [zup]
      · simp [zup]
      · simp [zup, hv]
      · simp only [zup]
        rw [if_neg (by omega), if_neg (by omega), if_neg (by omega), if_neg (by omega), if_neg (by omega), if_neg (by omega), if_neg (by omega)]
    refine ⟨fun q => ?_, fun q => ?_⟩
    · first | exact fin _ (by omega) | exact ⟨Or.inl trivial, fin _ (by omega)⟩ | exact ⟨Or.inr trivial, fin _ (by omega)⟩
    · first | exact fin _ (by omega) | exact ⟨Or.inl trivial, fin _ (by omega)⟩ | exact ⟨Or.inr trivial, fin _ (by omega)⟩
def byt (w : Int) (k : Int) : Int := zl2i (zlandL (zlshr w (8 * k)) 255)
theorem byt_rg (w k : Int) : rg (byt w k) := by
  unfold byt zl2i
  have h1 := Int32.le_toInt (Int64.ofInt (zlandL (zlshr w (8 * k)) 255)).toInt32
  have h2 := Int32.toInt_lt (Int64.ofInt (zlandL (zlshr w (8 * k)) 255)).toInt32
  exact ⟨by omega, by omega⟩
def fdd (d : Nat → Int) (w : Int) (n : Nat) : Nat → Int := fun j => if j = 4 then d 4 + n else if 308 + (d 4).toNat ≤ j ∧ j < 308 + (d 4).toNat + n then byt w ((j - (308 + (d 4).toNat) : Nat) : Int) else d j
def R_feed (S : ZMm) (w n : Int) : Int × ZMm := if 1 ≤ n ∧ n ≤ 8 then (if 50 < S 88 4 + n then no S 4 else (S 88 4 + n, r88 S (fdd (S 88) w n.toNat))) else no S 1
def B_feed (w : Int) (n : Int) (M : Nat → Nat → Int) (post : Option ZV → (Nat → Nat → Int) → Prop) : Prop := rg n ∧ pub M (R_feed (st M) w n) post
def C_feed : ZC := fun as h post => match as with
  | [.inr (.inr (.inl 87)), .inr (.inl w), .inl n] => h.1 = zG ∧ B_feed w n h.2 (fun v M => post v (zG, M))
  | _ => False
theorem r_feed {w : Int} {n : Int} {M : Nat → Nat → Int} {post : Option ZV → ZH → Prop} : C_feed [.inr (.inr (.inl 87)), .inr (.inl w), .inl n] (zG, M) post = B_feed w n M (fun v M => post v (zG, M)) := by show (zG = zG ∧ _) = _; simp
def ct_feed : Nat → ZC := fun n => if n = 120 then C_in else if n = 119 then C_finds else fun _ _ _ => False
theorem ct_feed_in {as : List ZV} {h : ZH} {post : Option ZV → ZH → Prop} : ct_feed 120 as h post = C_in as h post := rfl
theorem ct_feed_finds {as : List ZV} {h : ZH} {post : Option ZV → ZH → Prop} : ct_feed 119 as h post = C_finds as h post := rfl
theorem c_feed {E : ZE} {d : Nat} (hd : 2 ≤ d) : zMet E d mX11_feed C_feed := by
  refine zmet_of (o := 11) (ini := false) (CT := ct_feed) gd_X11_feed rfl (fun h => by cases h) (by omega) ?_ ?_
  · intro n as h post hh
    unfold ct_feed at hh
    by_cases c : n = 120
    · subst c; exact ⟨gd_X11_in, 1, by omega, c_in (by omega)⟩
    rw [if_neg c] at hh
    by_cases c : n = 119
    · subst c; exact ⟨gd_X11_finds, 1, by omega, c_finds (by omega)⟩
    rw [if_neg c] at hh
    exact hh.elim
  intro as h post hC
  match as, hC with
  | [.inr (.inr (.inl 87)), .inr (.inl w), .inl n], hC =>
    refine ⟨Nat.le_of_ble_eq_true rfl, fun X hX => bs_X11_feed_0 hX ?_⟩
    obtain ⟨G, M⟩ := h
    obtain ⟨hG, hC⟩ := hC
    dsimp only at hG
    subst hG
    simp only [B_feed] at hC
    show bk_X11_feed_0 E ct_feed X _ [some (.inr (.inr (.inl 87))), some (.inr (.inl w)), none, some (.inl n), none] [] (zG, M) (0, 0)
    obtain ⟨h1, hC⟩ := hC
    have vd : Vd (M 88) := hC.1.1
    have v4 := vd.2.2.2.1
    have s88 : st M 88 = M 88 := rfl
    have J37 : (1 ≤ n ∧ n ≤ 8) → ¬ 50 < M 88 4 + n → X 37 [some (.inr (.inr (.inl 87))), some (.inr (.inl w)), none, some (.inl n), none] [] (zG, M) (0, 0) := by
      intro q q2
      have zn : zr n = n := zr_rg h1
      have lp : ∀ (j k : Nat) (M' : ZMm), j + k = n.toNat → M' 88 = fdd (M 88) w k → (∀ x, ¬ x = 88 → M' x = M x) → X 40 [some (.inr (.inr (.inl 87))), some (.inr (.inl w)), none, some (.inl n), some (.inl (k : Int))] [] (zG, M') (0, 0) := by
        intro j
        induction j with
        | zero =>
          intro k M' hk hd hM
          refine bs_X11_feed_40 hX ?_
          have zk : zr (k : Int) = k := zr_of (by omega) (by omega)
          have lk : ((k : Int) < n) = False := eq_false (by omega)
          simp only [bk_X11_feed_0, k_X11_feed_0, bk_X11_feed_18, k_X11_feed_18, bk_X11_feed_37, k_X11_feed_37, bk_X11_feed_40, k_X11_feed_40, bk_X11_feed_89, k_X11_feed_89, ↓e_rk1, ↓e_rk0, ↓e_sk0, ↓e_sks, ↓e_ldi0, ↓e_ldis, ↓e_ldl0, ↓e_ldls, ↓e_lda0, ↓e_ldas, ↓e_ok0, ↓e_okss, ↓e_ok1i, ↓e_ok1r, ↓e_ok1n, ↓e_sti, ↓e_sta, ↓e_1, ↓e_2, ↓e_l1, ↓e_l2, ↓e_li, ↓e_sw0, ↓e_sws, ↓e_ceq, ↓e_cne, ↓e_clt, ↓e_cge, ↓e_cgt, ↓e_cle, ↓e_nil, ↓e_cons, ↓e_iconst, ↓e_bipush, ↓e_sipush, ↓e_ldc, ↓e_ldcw, ↓e_ldc2, ↓e_lconst, ↓e_iloadn, ↓e_iload, ↓e_lloadn, ↓e_lload, ↓e_aloadn, ↓e_aload, ↓e_istoren, ↓e_istore, ↓e_astoren, ↓e_astore, ↓e_add, ↓e_iinc, ↓e_iadd, ↓e_isub, ↓e_imul, ↓e_iand, ↓e_ior, ↓e_ixor, ↓e_ishl, ↓e_iushr, ↓e_idiv, ↓e_irem, ↓e_ineg, ↓e_i2l, ↓e_i2b, ↓e_i2s, ↓e_l2i, ↓e_land, ↓e_lor, ↓e_lshl, ↓e_lshr, ↓e_lushr, ↓e_lcmp, ↓e_dupi, ↓e_dupr, ↓e_popi, ↓e_dup2, ↓e_goto, ↓e_if, ↓e_icmp, ↓e_tsw, ↓e_lsw, ↓e_getf, ↓e_putf, ↓e_gets, ↓e_iald, ↓e_cald, ↓e_iast, ↓e_aald, ↓e_aast, ↓e_len, ↓e_copy, ↓e_abs, ↓e_max, ↓e_min, ↓e_iret, ↓e_aret, ↓e_vret, ↓e_is0, ↓e_is1, ↓e_is2, ↓e_is3, ↓e_is4, ↓e_iv1, ↓e_iv2, ↓e_iv3, ↓e_iv4, ↓e_iv5, ↓e_iv6, ↓rt_X11_feed, ↓reduceIte, Nat.reduceAdd, Nat.reduceEqDiff, ↓zcl0, ↓zclv, List.map_nil, List.sum_nil, List.map_cons, List.sum_cons, zcat, true_and, and_true, Nat.reduceLeDiff, Nat.reduceAdd, eq_self, forall_const, e_ok0, e_okss, e_ok1i, e_ok1r, e_ok1n, zl_0, zl_1, zl_4, zl_8, zl_50, zl_308, zq_1, zq_8, zq_255, Int.reduceToNat, Int.reduceAdd, Int.reduceMul, Int.reduceSub, Int.reduceNeg, Int.reduceLT, Int.reduceLE, Int.reduceEq, not_false_eq_true, not_true_eq_false, false_implies, true_implies, implies_true, Int.reduceDiv, Int.reduceMod, zr8_zr, zr_zbo, z01_zbo, z01_0, z01_1, zbo_eq0, zup_eq, zup_o, zup_k, ne_eq, ↓ct_feed_in, ↓r_in, ↓B_in, ↓ct_feed_finds, ↓r_finds, ↓B_finds, ↓v_87, ↓g_87_0, ↓l_88, ↓s_88, ↓n_88, ↓g_87_1, ↓l_89, ↓s_89, ↓n_89, ↓g_87_2, ↓l_90, ↓s_90, ↓n_90, ↓g_87_3, ↓p_87_3, ↓g_87_4, ↓l_91, ↓s_91, ↓n_91, ↓g_87_5, ↓p_87_5, ↓g_87_6, ↓p_87_6, ↓g_87_7, ↓p_87_7, ↓g_87_8, ↓p_87_8, ↓g_87_9, ↓p_87_9, ↓g_87_10, ↓p_87_10, ↓g_87_11, ↓l_92, ↓s_92, ↓n_92, ↓g_87_12, ↓l_93, ↓s_93, ↓n_93, ↓g_87_13, ↓p_87_13, ↓g_87_14, ↓l_94, ↓s_94, ↓n_94, ↓g_87_15, ↓p_87_15, ↓g_87_16, ↓l_95, ↓s_95, ↓n_95, ↓g_87_17, ↓l_96, ↓s_96, ↓n_96, ↓g_87_18, ↓l_97, ↓s_97, ↓n_97, ↓g_87_19, ↓p_87_19, ↓g_87_20, ↓p_87_20, ↓g_87_21, ↓l_98, ↓s_98, ↓n_98, ↓g_87_22, ↓l_99, ↓s_99, ↓n_99, ↓g_87_23, ↓l_100, ↓s_100, ↓n_100, ↓g_87_24, ↓l_101, ↓s_101, ↓n_101, zn, zk, lk]
          refine bs_X11_feed_89 hX ?_
          have e4 : M' 88 4 = M 88 4 + n := by
            rw [hd]
            show M 88 4 + (k : Int) = _
            omega
          simp only [bk_X11_feed_0, k_X11_feed_0, bk_X11_feed_18, k_X11_feed_18, bk_X11_feed_37, k_X11_feed_37, bk_X11_feed_40, k_X11_feed_40, bk_X11_feed_89, k_X11_feed_89, ↓e_rk1, ↓e_rk0, ↓e_sk0, ↓e_sks, ↓e_ldi0, ↓e_ldis, ↓e_ldl0, ↓e_ldls, ↓e_lda0, ↓e_ldas, ↓e_ok0, ↓e_okss, ↓e_ok1i, ↓e_ok1r, ↓e_ok1n, ↓e_sti, ↓e_sta, ↓e_1, ↓e_2, ↓e_l1, ↓e_l2, ↓e_li, ↓e_sw0, ↓e_sws, ↓e_ceq, ↓e_cne, ↓e_clt, ↓e_cge, ↓e_cgt, ↓e_cle, ↓e_nil, ↓e_cons, ↓e_iconst, ↓e_bipush, ↓e_sipush, ↓e_ldc, ↓e_ldcw, ↓e_ldc2, ↓e_lconst, ↓e_iloadn, ↓e_iload, ↓e_lloadn, ↓e_lload, ↓e_aloadn, ↓e_aload, ↓e_istoren, ↓e_istore, ↓e_astoren, ↓e_astore, ↓e_add, ↓e_iinc, ↓e_iadd, ↓e_isub, ↓e_imul, ↓e_iand, ↓e_ior, ↓e_ixor, ↓e_ishl, ↓e_iushr, ↓e_idiv, ↓e_irem, ↓e_ineg, ↓e_i2l, ↓e_i2b, ↓e_i2s, ↓e_l2i, ↓e_land, ↓e_lor, ↓e_lshl, ↓e_lshr, ↓e_lushr, ↓e_lcmp, ↓e_dupi, ↓e_dupr, ↓e_popi, ↓e_dup2, ↓e_goto, ↓e_if, ↓e_icmp, ↓e_tsw, ↓e_lsw, ↓e_getf, ↓e_putf, ↓e_gets, ↓e_iald, ↓e_cald, ↓e_iast, ↓e_aald, ↓e_aast, ↓e_len, ↓e_copy, ↓e_abs, ↓e_max, ↓e_min, ↓e_iret, ↓e_aret, ↓e_vret, ↓e_is0, ↓e_is1, ↓e_is2, ↓e_is3, ↓e_is4, ↓e_iv1, ↓e_iv2, ↓e_iv3, ↓e_iv4, ↓e_iv5, ↓e_iv6, ↓rt_X11_feed, ↓reduceIte, Nat.reduceAdd, Nat.reduceEqDiff, ↓zcl0, ↓zclv, List.map_nil, List.sum_nil, List.map_cons, List.sum_cons, zcat, true_and, and_true, Nat.reduceLeDiff, Nat.reduceAdd, eq_self, forall_const, e_ok0, e_okss, e_ok1i, e_ok1r, e_ok1n, zl_0, zl_1, zl_4, zl_8, zl_50, zl_308, zq_1, zq_8, zq_255, Int.reduceToNat, Int.reduceAdd, Int.reduceMul, Int.reduceSub, Int.reduceNeg, Int.reduceLT, Int.reduceLE, Int.reduceEq, not_false_eq_true, not_true_eq_false, false_implies, true_implies, implies_true, Int.reduceDiv, Int.reduceMod, zr8_zr, zr_zbo, z01_zbo, z01_0, z01_1, zbo_eq0, zup_eq, zup_o, zup_k, ne_eq, ↓ct_feed_in, ↓r_in, ↓B_in, ↓ct_feed_finds, ↓r_finds, ↓B_finds, ↓v_87, ↓g_87_0, ↓l_88, ↓s_88, ↓n_88, ↓g_87_1, ↓l_89, ↓s_89, ↓n_89, ↓g_87_2, ↓l_90, ↓s_90, ↓n_90, ↓g_87_3, ↓p_87_3, ↓g_87_4, ↓l_91, ↓s_91, ↓n_91, ↓g_87_5, ↓p_87_5, ↓g_87_6, ↓p_87_6, ↓g_87_7, ↓p_87_7, ↓g_87_8, ↓p_87_8, ↓g_87_9, ↓p_87_9, ↓g_87_10, ↓p_87_10, ↓g_87_11, ↓l_92, ↓s_92, ↓n_92, ↓g_87_12, ↓l_93, ↓s_93, ↓n_93, ↓g_87_13, ↓p_87_13, ↓g_87_14, ↓l_94, ↓s_94, ↓n_94, ↓g_87_15, ↓p_87_15, ↓g_87_16, ↓l_95, ↓s_95, ↓n_95, ↓g_87_17, ↓l_96, ↓s_96, ↓n_96, ↓g_87_18, ↓l_97, ↓s_97, ↓n_97, ↓g_87_19, ↓p_87_19, ↓g_87_20, ↓p_87_20, ↓g_87_21, ↓l_98, ↓s_98, ↓n_98, ↓g_87_22, ↓l_99, ↓s_99, ↓n_99, ↓g_87_23, ↓l_100, ↓s_100, ↓n_100, ↓g_87_24, ↓l_101, ↓s_101, ↓n_101, e4]
          refine pub_88 hC (fun x q _ _ _ => hM x q) ?_
          unfold R_feed
          rw [if_pos q, s88, if_neg q2, hd, show k = n.toNat by omega]
        | succ j ih =>
          intro k M' hk hd hM
          refine bs_X11_feed_40 hX ?_
          have zk : zr (k : Int) = k := zr_of (by omega) (by omega)
          have lk : ((k : Int) < n) = True := eq_true (by omega)
          have e4 : M' 88 4 = M 88 4 + k := by rw [hd]; rfl
          have zi : zr (308 + (M 88 4 + (k : Int))) = 308 + (M 88 4 + k) := zr_of (by omega) (by omega)
          have n4 : ¬ (4 : Nat) = (308 + (M 88 4 + (k : Int))).toNat := by omega
          have e4' : ∀ v, zup M' 88 (308 + (M 88 4 + (k : Int))).toNat v 88 4 = M 88 4 + k := fun v => by rw [zup_k n4, e4]
          simp only [bk_X11_feed_0, k_X11_feed_0, bk_X11_feed_18, k_X11_feed_18, bk_X11_feed_37, k_X11_feed_37, bk_X11_feed_40, k_X11_feed_40, bk_X11_feed_89, k_X11_feed_89, ↓e_rk1, ↓e_rk0, ↓e_sk0, ↓e_sks, ↓e_ldi0, ↓e_ldis, ↓e_ldl0, ↓e_ldls, ↓e_lda0, ↓e_ldas, ↓e_ok0, ↓e_okss, ↓e_ok1i, ↓e_ok1r, ↓e_ok1n, ↓e_sti, ↓e_sta, ↓e_1, ↓e_2, ↓e_l1, ↓e_l2, ↓e_li, ↓e_sw0, ↓e_sws, ↓e_ceq, ↓e_cne, ↓e_clt, ↓e_cge, ↓e_cgt, ↓e_cle, ↓e_nil, ↓e_cons, ↓e_iconst, ↓e_bipush, ↓e_sipush, ↓e_ldc, ↓e_ldcw, ↓e_ldc2, ↓e_lconst, ↓e_iloadn, ↓e_iload, ↓e_lloadn, ↓e_lload, ↓e_aloadn, ↓e_aload, ↓e_istoren, ↓e_istore, ↓e_astoren, ↓e_astore, ↓e_add, ↓e_iinc, ↓e_iadd, ↓e_isub, ↓e_imul, ↓e_iand, ↓e_ior, ↓e_ixor, ↓e_ishl, ↓e_iushr, ↓e_idiv, ↓e_irem, ↓e_ineg, ↓e_i2l, ↓e_i2b, ↓e_i2s, ↓e_l2i, ↓e_land, ↓e_lor, ↓e_lshl, ↓e_lshr, ↓e_lushr, ↓e_lcmp, ↓e_dupi, ↓e_dupr, ↓e_popi, ↓e_dup2, ↓e_goto, ↓e_if, ↓e_icmp, ↓e_tsw, ↓e_lsw, ↓e_getf, ↓e_putf, ↓e_gets, ↓e_iald, ↓e_cald, ↓e_iast, ↓e_aald, ↓e_aast, ↓e_len, ↓e_copy, ↓e_abs, ↓e_max, ↓e_min, ↓e_iret, ↓e_aret, ↓e_vret, ↓e_is0, ↓e_is1, ↓e_is2, ↓e_is3, ↓e_is4, ↓e_iv1, ↓e_iv2, ↓e_iv3, ↓e_iv4, ↓e_iv5, ↓e_iv6, ↓rt_X11_feed, ↓reduceIte, Nat.reduceAdd, Nat.reduceEqDiff, ↓zcl0, ↓zclv, List.map_nil, List.sum_nil, List.map_cons, List.sum_cons, zcat, true_and, and_true, Nat.reduceLeDiff, Nat.reduceAdd, eq_self, forall_const, e_ok0, e_okss, e_ok1i, e_ok1r, e_ok1n, zl_0, zl_1, zl_4, zl_8, zl_50, zl_308, zq_1, zq_8, zq_255, Int.reduceToNat, Int.reduceAdd, Int.reduceMul, Int.reduceSub, Int.reduceNeg, Int.reduceLT, Int.reduceLE, Int.reduceEq, not_false_eq_true, not_true_eq_false, false_implies, true_implies, implies_true, Int.reduceDiv, Int.reduceMod, zr8_zr, zr_zbo, z01_zbo, z01_0, z01_1, zbo_eq0, zup_eq, zup_o, zup_k, ne_eq, ↓ct_feed_in, ↓r_in, ↓B_in, ↓ct_feed_finds, ↓r_finds, ↓B_finds, ↓v_87, ↓g_87_0, ↓l_88, ↓s_88, ↓n_88, ↓g_87_1, ↓l_89, ↓s_89, ↓n_89, ↓g_87_2, ↓l_90, ↓s_90, ↓n_90, ↓g_87_3, ↓p_87_3, ↓g_87_4, ↓l_91, ↓s_91, ↓n_91, ↓g_87_5, ↓p_87_5, ↓g_87_6, ↓p_87_6, ↓g_87_7, ↓p_87_7, ↓g_87_8, ↓p_87_8, ↓g_87_9, ↓p_87_9, ↓g_87_10, ↓p_87_10, ↓g_87_11, ↓l_92, ↓s_92, ↓n_92, ↓g_87_12, ↓l_93, ↓s_93, ↓n_93, ↓g_87_13, ↓p_87_13, ↓g_87_14, ↓l_94, ↓s_94, ↓n_94, ↓g_87_15, ↓p_87_15, ↓g_87_16, ↓l_95, ↓s_95, ↓n_95, ↓g_87_17, ↓l_96, ↓s_96, ↓n_96, ↓g_87_18, ↓l_97, ↓s_97, ↓n_97, ↓g_87_19, ↓p_87_19, ↓g_87_20, ↓p_87_20, ↓g_87_21, ↓l_98, ↓s_98, ↓n_98, ↓g_87_22, ↓l_99, ↓s_99, ↓n_99, ↓g_87_23, ↓l_100, ↓s_100, ↓n_100, ↓g_87_24, ↓l_101, ↓s_101, ↓n_101, zn, zk, lk, e4, zi, e4']
          repeat (refine And.intro (by omega) ?_)
          refine ih (k + 1) _ (by omega) ?_ (fun x q5 => by rw [zup_ne _ q5, zup_ne _ q5, hM x q5])
          rw [zup_up, zup_up, hd]
          funext y
          unfold up1 fdd
          by_cases q4 : y = 4
          · rw [if_pos q4, if_pos q4]; omega
          · rw [if_neg q4, if_neg q4, if_neg q4]
            by_cases q7 : y = (308 + (M 88 4 + (k : Int))).toNat
            · rw [if_pos q7, if_pos (by omega), show y - (308 + (M 88 4).toNat) = k by omega]
              rfl
            · rw [if_neg q7]
              by_cases q8 : 308 + (M 88 4).toNat ≤ y ∧ y < 308 + (M 88 4).toNat + k
              · rw [if_pos q8, if_pos (by omega)]
              · rw [if_neg q8, if_neg (by omega)]
      refine bs_X11_feed_37 hX ?_
      simp only [bk_X11_feed_0, k_X11_feed_0, bk_X11_feed_18, k_X11_feed_18, bk_X11_feed_37, k_X11_feed_37, bk_X11_feed_40, k_X11_feed_40, bk_X11_feed_89, k_X11_feed_89, ↓e_rk1, ↓e_rk0, ↓e_sk0, ↓e_sks, ↓e_ldi0, ↓e_ldis, ↓e_ldl0, ↓e_ldls, ↓e_lda0, ↓e_ldas, ↓e_ok0, ↓e_okss, ↓e_ok1i, ↓e_ok1r, ↓e_ok1n, ↓e_sti, ↓e_sta, ↓e_1, ↓e_2, ↓e_l1, ↓e_l2, ↓e_li, ↓e_sw0, ↓e_sws, ↓e_ceq, ↓e_cne, ↓e_clt, ↓e_cge, ↓e_cgt, ↓e_cle, ↓e_nil, ↓e_cons, ↓e_iconst, ↓e_bipush, ↓e_sipush, ↓e_ldc, ↓e_ldcw, ↓e_ldc2, ↓e_lconst, ↓e_iloadn, ↓e_iload, ↓e_lloadn, ↓e_lload, ↓e_aloadn, ↓e_aload, ↓e_istoren, ↓e_istore, ↓e_astoren, ↓e_astore, ↓e_add, ↓e_iinc, ↓e_iadd, ↓e_isub, ↓e_imul, ↓e_iand, ↓e_ior, ↓e_ixor, ↓e_ishl, ↓e_iushr, ↓e_idiv, ↓e_irem, ↓e_ineg, ↓e_i2l, ↓e_i2b, ↓e_i2s, ↓e_l2i, ↓e_land, ↓e_lor, ↓e_lshl, ↓e_lshr, ↓e_lushr, ↓e_lcmp, ↓e_dupi, ↓e_dupr, ↓e_popi, ↓e_dup2, ↓e_goto, ↓e_if, ↓e_icmp, ↓e_tsw, ↓e_lsw, ↓e_getf, ↓e_putf, ↓e_gets, ↓e_iald, ↓e_cald, ↓e_iast, ↓e_aald, ↓e_aast, ↓e_len, ↓e_copy, ↓e_abs, ↓e_max, ↓e_min, ↓e_iret, ↓e_aret, ↓e_vret, ↓e_is0, ↓e_is1, ↓e_is2, ↓e_is3, ↓e_is4, ↓e_iv1, ↓e_iv2, ↓e_iv3, ↓e_iv4, ↓e_iv5, ↓e_iv6, ↓rt_X11_feed, ↓reduceIte, Nat.reduceAdd, Nat.reduceEqDiff, ↓zcl0, ↓zclv, List.map_nil, List.sum_nil, List.map_cons, List.sum_cons, zcat, true_and, and_true, Nat.reduceLeDiff, Nat.reduceAdd, eq_self, forall_const, e_ok0, e_okss, e_ok1i, e_ok1r, e_ok1n, zl_0, zl_1, zl_4, zl_8, zl_50, zl_308, zq_1, zq_8, zq_255, Int.reduceToNat, Int.reduceAdd, Int.reduceMul, Int.reduceSub, Int.reduceNeg, Int.reduceLT, Int.reduceLE, Int.reduceEq, not_false_eq_true, not_true_eq_false, false_implies, true_implies, implies_true, Int.reduceDiv, Int.reduceMod, zr8_zr, zr_zbo, z01_zbo, z01_0, z01_1, zbo_eq0, zup_eq, zup_o, zup_k, ne_eq, ↓ct_feed_in, ↓r_in, ↓B_in, ↓ct_feed_finds, ↓r_finds, ↓B_finds, ↓v_87, ↓g_87_0, ↓l_88, ↓s_88, ↓n_88, ↓g_87_1, ↓l_89, ↓s_89, ↓n_89, ↓g_87_2, ↓l_90, ↓s_90, ↓n_90, ↓g_87_3, ↓p_87_3, ↓g_87_4, ↓l_91, ↓s_91, ↓n_91, ↓g_87_5, ↓p_87_5, ↓g_87_6, ↓p_87_6, ↓g_87_7, ↓p_87_7, ↓g_87_8, ↓p_87_8, ↓g_87_9, ↓p_87_9, ↓g_87_10, ↓p_87_10, ↓g_87_11, ↓l_92, ↓s_92, ↓n_92, ↓g_87_12, ↓l_93, ↓s_93, ↓n_93, ↓g_87_13, ↓p_87_13, ↓g_87_14, ↓l_94, ↓s_94, ↓n_94, ↓g_87_15, ↓p_87_15, ↓g_87_16, ↓l_95, ↓s_95, ↓n_95, ↓g_87_17, ↓l_96, ↓s_96, ↓n_96, ↓g_87_18, ↓l_97, ↓s_97, ↓n_97, ↓g_87_19, ↓p_87_19, ↓g_87_20, ↓p_87_20, ↓g_87_21, ↓l_98, ↓s_98, ↓n_98, ↓g_87_22, ↓l_99, ↓s_99, ↓n_99, ↓g_87_23, ↓l_100, ↓s_100, ↓n_100, ↓g_87_24, ↓l_101, ↓s_101, ↓n_101]
      refine lp n.toNat 0 M (by omega) ?_ (fun _ _ => rfl)
      funext y
      unfold fdd
      by_cases q4 : y = 4
      · rw [if_pos q4, q4]; omega
      · rw [if_neg q4, if_neg (by omega)]
    have J18 : (1 ≤ n ∧ n ≤ 8) → X 18 [some (.inr (.inr (.inl 87))), some (.inr (.inl w)), none, some (.inl n), none] [] (zG, M) (0, 0) := by
      intro q
      have z4 : zr (M 88 4 + n) = M 88 4 + n := zr_of (by omega) (by omega)
      refine bs_X11_feed_18 hX ?_
      simp only [bk_X11_feed_0, k_X11_feed_0, bk_X11_feed_18, k_X11_feed_18, bk_X11_feed_37, k_X11_feed_37, bk_X11_feed_40, k_X11_feed_40, bk_X11_feed_89, k_X11_feed_89, ↓e_rk1, ↓e_rk0, ↓e_sk0, ↓e_sks, ↓e_ldi0, ↓e_ldis, ↓e_ldl0, ↓e_ldls, ↓e_lda0, ↓e_ldas, ↓e_ok0, ↓e_okss, ↓e_ok1i, ↓e_ok1r, ↓e_ok1n, ↓e_sti, ↓e_sta, ↓e_1, ↓e_2, ↓e_l1, ↓e_l2, ↓e_li, ↓e_sw0, ↓e_sws, ↓e_ceq, ↓e_cne, ↓e_clt, ↓e_cge, ↓e_cgt, ↓e_cle, ↓e_nil, ↓e_cons, ↓e_iconst, ↓e_bipush, ↓e_sipush, ↓e_ldc, ↓e_ldcw, ↓e_ldc2, ↓e_lconst, ↓e_iloadn, ↓e_iload, ↓e_lloadn, ↓e_lload, ↓e_aloadn, ↓e_aload, ↓e_istoren, ↓e_istore, ↓e_astoren, ↓e_astore, ↓e_add, ↓e_iinc, ↓e_iadd, ↓e_isub, ↓e_imul, ↓e_iand, ↓e_ior, ↓e_ixor, ↓e_ishl, ↓e_iushr, ↓e_idiv, ↓e_irem, ↓e_ineg, ↓e_i2l, ↓e_i2b, ↓e_i2s, ↓e_l2i, ↓e_land, ↓e_lor, ↓e_lshl, ↓e_lshr, ↓e_lushr, ↓e_lcmp, ↓e_dupi, ↓e_dupr, ↓e_popi, ↓e_dup2, ↓e_goto, ↓e_if, ↓e_icmp, ↓e_tsw, ↓e_lsw, ↓e_getf, ↓e_putf, ↓e_gets, ↓e_iald, ↓e_cald, ↓e_iast, ↓e_aald, ↓e_aast, ↓e_len, ↓e_copy, ↓e_abs, ↓e_max, ↓e_min, ↓e_iret, ↓e_aret, ↓e_vret, ↓e_is0, ↓e_is1, ↓e_is2, ↓e_is3, ↓e_is4, ↓e_iv1, ↓e_iv2, ↓e_iv3, ↓e_iv4, ↓e_iv5, ↓e_iv6, ↓rt_X11_feed, ↓reduceIte, Nat.reduceAdd, Nat.reduceEqDiff, ↓zcl0, ↓zclv, List.map_nil, List.sum_nil, List.map_cons, List.sum_cons, zcat, true_and, and_true, Nat.reduceLeDiff, Nat.reduceAdd, eq_self, forall_const, e_ok0, e_okss, e_ok1i, e_ok1r, e_ok1n, zl_0, zl_1, zl_4, zl_8, zl_50, zl_308, zq_1, zq_8, zq_255, Int.reduceToNat, Int.reduceAdd, Int.reduceMul, Int.reduceSub, Int.reduceNeg, Int.reduceLT, Int.reduceLE, Int.reduceEq, not_false_eq_true, not_true_eq_false, false_implies, true_implies, implies_true, Int.reduceDiv, Int.reduceMod, zr8_zr, zr_zbo, z01_zbo, z01_0, z01_1, zbo_eq0, zup_eq, zup_o, zup_k, ne_eq, ↓ct_feed_in, ↓r_in, ↓B_in, ↓ct_feed_finds, ↓r_finds, ↓B_finds, ↓v_87, ↓g_87_0, ↓l_88, ↓s_88, ↓n_88, ↓g_87_1, ↓l_89, ↓s_89, ↓n_89, ↓g_87_2, ↓l_90, ↓s_90, ↓n_90, ↓g_87_3, ↓p_87_3, ↓g_87_4, ↓l_91, ↓s_91, ↓n_91, ↓g_87_5, ↓p_87_5, ↓g_87_6, ↓p_87_6, ↓g_87_7, ↓p_87_7, ↓g_87_8, ↓p_87_8, ↓g_87_9, ↓p_87_9, ↓g_87_10, ↓p_87_10, ↓g_87_11, ↓l_92, ↓s_92, ↓n_92, ↓g_87_12, ↓l_93, ↓s_93, ↓n_93, ↓g_87_13, ↓p_87_13, ↓g_87_14, ↓l_94, ↓s_94, ↓n_94, ↓g_87_15, ↓p_87_15, ↓g_87_16, ↓l_95, ↓s_95, ↓n_95, ↓g_87_17, ↓l_96, ↓s_96, ↓n_96, ↓g_87_18, ↓l_97, ↓s_97, ↓n_97, ↓g_87_19, ↓p_87_19, ↓g_87_20, ↓p_87_20, ↓g_87_21, ↓l_98, ↓s_98, ↓n_98, ↓g_87_22, ↓l_99, ↓s_99, ↓n_99, ↓g_87_23, ↓l_100, ↓s_100, ↓n_100, ↓g_87_24, ↓l_101, ↓s_101, ↓n_101, z4]
      repeat' (first | assumption | apply And.intro | intro _)
      all_goals first | (apply J37 q; omega) | exact pub_no hC (by unfold R_feed; rw [if_pos q, s88, if_pos (by omega)]) rfl
    simp only [bk_X11_feed_0, k_X11_feed_0, bk_X11_feed_18, k_X11_feed_18, bk_X11_feed_37, k_X11_feed_37, bk_X11_feed_40, k_X11_feed_40, bk_X11_feed_89, k_X11_feed_89, ↓e_rk1, ↓e_rk0, ↓e_sk0, ↓e_sks, ↓e_ldi0, ↓e_ldis, ↓e_ldl0, ↓e_ldls, ↓e_lda0, ↓e_ldas, ↓e_ok0, ↓e_okss, ↓e_ok1i, ↓e_ok1r, ↓e_ok1n, ↓e_sti, ↓e_sta, ↓e_1, ↓e_2, ↓e_l1, ↓e_l2, ↓e_li, ↓e_sw0, ↓e_sws, ↓e_ceq, ↓e_cne, ↓e_clt, ↓e_cge, ↓e_cgt, ↓e_cle, ↓e_nil, ↓e_cons, ↓e_iconst, ↓e_bipush, ↓e_sipush, ↓e_ldc, ↓e_ldcw, ↓e_ldc2, ↓e_lconst, ↓e_iloadn, ↓e_iload, ↓e_lloadn, ↓e_lload, ↓e_aloadn, ↓e_aload, ↓e_istoren, ↓e_istore, ↓e_astoren, ↓e_astore, ↓e_add, ↓e_iinc, ↓e_iadd, ↓e_isub, ↓e_imul, ↓e_iand, ↓e_ior, ↓e_ixor, ↓e_ishl, ↓e_iushr, ↓e_idiv, ↓e_irem, ↓e_ineg, ↓e_i2l, ↓e_i2b, ↓e_i2s, ↓e_l2i, ↓e_land, ↓e_lor, ↓e_lshl, ↓e_lshr, ↓e_lushr, ↓e_lcmp, ↓e_dupi, ↓e_dupr, ↓e_popi, ↓e_dup2, ↓e_goto, ↓e_if, ↓e_icmp, ↓e_tsw, ↓e_lsw, ↓e_getf, ↓e_putf, ↓e_gets, ↓e_iald, ↓e_cald, ↓e_iast, ↓e_aald, ↓e_aast, ↓e_len, ↓e_copy, ↓e_abs, ↓e_max, ↓e_min, ↓e_iret, ↓e_aret, ↓e_vret, ↓e_is0, ↓e_is1, ↓e_is2, ↓e_is3, ↓e_is4, ↓e_iv1, ↓e_iv2, ↓e_iv3, ↓e_iv4, ↓e_iv5, ↓e_iv6, ↓rt_X11_feed, ↓reduceIte, Nat.reduceAdd, Nat.reduceEqDiff, ↓zcl0, ↓zclv, List.map_nil, List.sum_nil, List.map_cons, List.sum_cons, zcat, true_and, and_true, Nat.reduceLeDiff, Nat.reduceAdd, eq_self, forall_const, e_ok0, e_okss, e_ok1i, e_ok1r, e_ok1n, zl_0, zl_1, zl_4, zl_8, zl_50, zl_308, zq_1, zq_8, zq_255, Int.reduceToNat, Int.reduceAdd, Int.reduceMul, Int.reduceSub, Int.reduceNeg, Int.reduceLT, Int.reduceLE, Int.reduceEq, not_false_eq_true, not_true_eq_false, false_implies, true_implies, implies_true, Int.reduceDiv, Int.reduceMod, zr8_zr, zr_zbo, z01_zbo, z01_0, z01_1, zbo_eq0, zup_eq, zup_o, zup_k, ne_eq, ↓ct_feed_in, ↓r_in, ↓B_in, ↓ct_feed_finds, ↓r_finds, ↓B_finds, ↓v_87, ↓g_87_0, ↓l_88, ↓s_88, ↓n_88, ↓g_87_1, ↓l_89, ↓s_89, ↓n_89, ↓g_87_2, ↓l_90, ↓s_90, ↓n_90, ↓g_87_3, ↓p_87_3, ↓g_87_4, ↓l_91, ↓s_91, ↓n_91, ↓g_87_5, ↓p_87_5, ↓g_87_6, ↓p_87_6, ↓g_87_7, ↓p_87_7, ↓g_87_8, ↓p_87_8, ↓g_87_9, ↓p_87_9, ↓g_87_10, ↓p_87_10, ↓g_87_11, ↓l_92, ↓s_92, ↓n_92, ↓g_87_12, ↓l_93, ↓s_93, ↓n_93, ↓g_87_13, ↓p_87_13, ↓g_87_14, ↓l_94, ↓s_94, ↓n_94, ↓g_87_15, ↓p_87_15, ↓g_87_16, ↓l_95, ↓s_95, ↓n_95, ↓g_87_17, ↓l_96, ↓s_96, ↓n_96, ↓g_87_18, ↓l_97, ↓s_97, ↓n_97, ↓g_87_19, ↓p_87_19, ↓g_87_20, ↓p_87_20, ↓g_87_21, ↓l_98, ↓s_98, ↓n_98, ↓g_87_22, ↓l_99, ↓s_99, ↓n_99, ↓g_87_23, ↓l_100, ↓s_100, ↓n_100, ↓g_87_24, ↓l_101, ↓s_101, ↓n_101, zr_rg, h1, zr8_rg, h1, zr8_zr, zr_zbo, zbo_eq0]
    refine ⟨fun c => ?_, fun c => J18 (by omega)⟩
    exact pub_no hC (by unfold R_feed; rw [if_neg (by omega)]) rfl
def R_law (S : ZMm) (u a b c : Int) : Int × ZMm := if 0 ≤ u ∧ u ≤ 1 then (tgv (S 88) u a b c, S) else no S 1
def B_law (u : Int) (a : Int) (b : Int) (c : Int) (M : Nat → Nat → Int) (post : Option ZV → (Nat → Nat → Int) → Prop) : Prop := rg u ∧ pub M (R_law (st M) u a b c) post
def C_law : ZC := fun as h post => match as with
  | [.inr (.inr (.inl 87)), .inl u, .inl a, .inl b, .inl c] => h.1 = zG ∧ B_law u a b c h.2 (fun v M => post v (zG, M))
  | _ => False
theorem r_law {u : Int} {a : Int} {b : Int} {c : Int} {M : Nat → Nat → Int} {post : Option ZV → ZH → Prop} : C_law [.inr (.inr (.inl 87)), .inl u, .inl a, .inl b, .inl c] (zG, M) post = B_law u a b c M (fun v M => post v (zG, M)) := by show (zG = zG ∧ _) = _; simp
def ct_law : Nat → ZC := fun n => if n = 120 then C_in else if n = 149 then C_textGives else if n = 119 then C_finds else fun _ _ _ => False
theorem ct_law_in {as : List ZV} {h : ZH} {post : Option ZV → ZH → Prop} : ct_law 120 as h post = C_in as h post := rfl
theorem ct_law_textGives {as : List ZV} {h : ZH} {post : Option ZV → ZH → Prop} : ct_law 149 as h post = C_textGives as h post := rfl
theorem ct_law_finds {as : List ZV} {h : ZH} {post : Option ZV → ZH → Prop} : ct_law 119 as h post = C_finds as h post := rfl
theorem c_law {E : ZE} {d : Nat} (hd : 4 ≤ d) : zMet E d mX11_law C_law := by
  refine zmet_of (o := 11) (ini := false) (CT := ct_law) gd_X11_law rfl (fun h => by cases h) (by omega) ?_ ?_
  · intro n as h post hh
    unfold ct_law at hh
    by_cases c : n = 120
    · subst c; exact ⟨gd_X11_in, 1, by omega, c_in (by omega)⟩
    rw [if_neg c] at hh
    by_cases c : n = 149
    · subst c; exact ⟨gd_X11_textGives, 3, by omega, c_textGives (by omega)⟩
    rw [if_neg c] at hh
    by_cases c : n = 119
    · subst c; exact ⟨gd_X11_finds, 1, by omega, c_finds (by omega)⟩
    rw [if_neg c] at hh
    exact hh.elim
  intro as h post hC
  match as, hC with
  | [.inr (.inr (.inl 87)), .inl u, .inl a, .inl b, .inl c], hC =>
    refine ⟨Nat.le_of_ble_eq_true rfl, fun X hX => bs_X11_law_0 hX ?_⟩
    obtain ⟨G, M⟩ := h
    obtain ⟨hG, hC⟩ := hC
    dsimp only at hG
    subst hG
    simp only [B_law] at hC
    show bk_X11_law_0 E ct_law X _ [some (.inr (.inr (.inl 87))), some (.inl u), some (.inl a), some (.inl b), some (.inl c)] [] (zG, M) (0, 0)
    obtain ⟨h1, hC⟩ := hC
    have vd : Vd (M 88) := hC.1.1
    have vt : (0 ≤ u ∧ u ≤ 1) → Vt (M 88) u := fun q => by
      have : u = 0 ∨ u = 1 := by omega
      rcases this with e | e
      · rw [e]; exact vd.2.2.2.2.2.2.2.2.2.2.1
      · rw [e]; exact vd.2.2.2.2.2.2.2.2.2.2.2
    have J10 : (0 ≤ u ∧ u ≤ 1) → X 10 [some (.inr (.inr (.inl 87))), some (.inl u), some (.inl a), some (.inl b), some (.inl c)] [] (zG, M) (0, 0) := by
      intro q
      refine bs_X11_law_10 hX ?_
      simp only [bk_X11_law_0, k_X11_law_0, bk_X11_law_10, k_X11_law_10, bk_X11_law_22, k_X11_law_22, bk_X11_law_27, k_X11_law_27, ↓e_rk1, ↓e_rk0, ↓e_sk0, ↓e_sks, ↓e_ldi0, ↓e_ldis, ↓e_ldl0, ↓e_ldls, ↓e_lda0, ↓e_ldas, ↓e_ok0, ↓e_okss, ↓e_ok1i, ↓e_ok1r, ↓e_ok1n, ↓e_sti, ↓e_sta, ↓e_1, ↓e_2, ↓e_l1, ↓e_l2, ↓e_li, ↓e_sw0, ↓e_sws, ↓e_ceq, ↓e_cne, ↓e_clt, ↓e_cge, ↓e_cgt, ↓e_cle, ↓e_nil, ↓e_cons, ↓e_iconst, ↓e_bipush, ↓e_sipush, ↓e_ldc, ↓e_ldcw, ↓e_ldc2, ↓e_lconst, ↓e_iloadn, ↓e_iload, ↓e_lloadn, ↓e_lload, ↓e_aloadn, ↓e_aload, ↓e_istoren, ↓e_istore, ↓e_astoren, ↓e_astore, ↓e_add, ↓e_iinc, ↓e_iadd, ↓e_isub, ↓e_imul, ↓e_iand, ↓e_ior, ↓e_ixor, ↓e_ishl, ↓e_iushr, ↓e_idiv, ↓e_irem, ↓e_ineg, ↓e_i2l, ↓e_i2b, ↓e_i2s, ↓e_l2i, ↓e_land, ↓e_lor, ↓e_lshl, ↓e_lshr, ↓e_lushr, ↓e_lcmp, ↓e_dupi, ↓e_dupr, ↓e_popi, ↓e_dup2, ↓e_goto, ↓e_if, ↓e_icmp, ↓e_tsw, ↓e_lsw, ↓e_getf, ↓e_putf, ↓e_gets, ↓e_iald, ↓e_cald, ↓e_iast, ↓e_aald, ↓e_aast, ↓e_len, ↓e_copy, ↓e_abs, ↓e_max, ↓e_min, ↓e_iret, ↓e_aret, ↓e_vret, ↓e_is0, ↓e_is1, ↓e_is2, ↓e_is3, ↓e_is4, ↓e_iv1, ↓e_iv2, ↓e_iv3, ↓e_iv4, ↓e_iv5, ↓e_iv6, ↓rt_X11_law, ↓reduceIte, Nat.reduceAdd, Nat.reduceEqDiff, ↓zcl0, ↓zclv, List.map_nil, List.sum_nil, List.map_cons, List.sum_cons, zcat, true_and, and_true, Nat.reduceLeDiff, Nat.reduceAdd, eq_self, forall_const, e_ok0, e_okss, e_ok1i, e_ok1r, e_ok1n, zl_1, zq_0, zq_1, Int.reduceToNat, Int.reduceAdd, Int.reduceMul, Int.reduceSub, Int.reduceNeg, Int.reduceLT, Int.reduceLE, Int.reduceEq, not_false_eq_true, not_true_eq_false, false_implies, true_implies, implies_true, Int.reduceDiv, Int.reduceMod, zr8_zr, zr_zbo, z01_zbo, z01_0, z01_1, zbo_eq0, zup_eq, zup_o, zup_k, ne_eq, ↓ct_law_in, ↓r_in, ↓B_in, ↓ct_law_textGives, ↓r_textGives, ↓B_textGives, ↓ct_law_finds, ↓r_finds, ↓B_finds, ↓v_87, ↓g_87_0, ↓l_88, ↓s_88, ↓n_88, ↓g_87_1, ↓l_89, ↓s_89, ↓n_89, ↓g_87_2, ↓l_90, ↓s_90, ↓n_90, ↓g_87_3, ↓p_87_3, ↓g_87_4, ↓l_91, ↓s_91, ↓n_91, ↓g_87_5, ↓p_87_5, ↓g_87_6, ↓p_87_6, ↓g_87_7, ↓p_87_7, ↓g_87_8, ↓p_87_8, ↓g_87_9, ↓p_87_9, ↓g_87_10, ↓p_87_10, ↓g_87_11, ↓l_92, ↓s_92, ↓n_92, ↓g_87_12, ↓l_93, ↓s_93, ↓n_93, ↓g_87_13, ↓p_87_13, ↓g_87_14, ↓l_94, ↓s_94, ↓n_94, ↓g_87_15, ↓p_87_15, ↓g_87_16, ↓l_95, ↓s_95, ↓n_95, ↓g_87_17, ↓l_96, ↓s_96, ↓n_96, ↓g_87_18, ↓l_97, ↓s_97, ↓n_97, ↓g_87_19, ↓p_87_19, ↓g_87_20, ↓p_87_20, ↓g_87_21, ↓l_98, ↓s_98, ↓n_98, ↓g_87_22, ↓l_99, ↓s_99, ↓n_99, ↓g_87_23, ↓l_100, ↓s_100, ↓n_100, ↓g_87_24, ↓l_101, ↓s_101, ↓n_101]
      refine ⟨q.1, q.2, vt q, fun M2 hM => pub_sc hC hM ?_⟩
      unfold R_law
      rw [if_pos q]
      rfl
    have J22 : ¬ (0 ≤ u ∧ u ≤ 1) → X 22 [some (.inr (.inr (.inl 87))), some (.inl u), some (.inl a), some (.inl b), some (.inl c)] [] (zG, M) (0, 0) := by
      intro q
      refine bs_X11_law_22 hX ?_
      simp only [bk_X11_law_0, k_X11_law_0, bk_X11_law_10, k_X11_law_10, bk_X11_law_22, k_X11_law_22, bk_X11_law_27, k_X11_law_27, ↓e_rk1, ↓e_rk0, ↓e_sk0, ↓e_sks, ↓e_ldi0, ↓e_ldis, ↓e_ldl0, ↓e_ldls, ↓e_lda0, ↓e_ldas, ↓e_ok0, ↓e_okss, ↓e_ok1i, ↓e_ok1r, ↓e_ok1n, ↓e_sti, ↓e_sta, ↓e_1, ↓e_2, ↓e_l1, ↓e_l2, ↓e_li, ↓e_sw0, ↓e_sws, ↓e_ceq, ↓e_cne, ↓e_clt, ↓e_cge, ↓e_cgt, ↓e_cle, ↓e_nil, ↓e_cons, ↓e_iconst, ↓e_bipush, ↓e_sipush, ↓e_ldc, ↓e_ldcw, ↓e_ldc2, ↓e_lconst, ↓e_iloadn, ↓e_iload, ↓e_lloadn, ↓e_lload, ↓e_aloadn, ↓e_aload, ↓e_istoren, ↓e_istore, ↓e_astoren, ↓e_astore, ↓e_add, ↓e_iinc, ↓e_iadd, ↓e_isub, ↓e_imul, ↓e_iand, ↓e_ior, ↓e_ixor, ↓e_ishl, ↓e_iushr, ↓e_idiv, ↓e_irem, ↓e_ineg, ↓e_i2l, ↓e_i2b, ↓e_i2s, ↓e_l2i, ↓e_land, ↓e_lor, ↓e_lshl, ↓e_lshr, ↓e_lushr, ↓e_lcmp, ↓e_dupi, ↓e_dupr, ↓e_popi, ↓e_dup2, ↓e_goto, ↓e_if, ↓e_icmp, ↓e_tsw, ↓e_lsw, ↓e_getf, ↓e_putf, ↓e_gets, ↓e_iald, ↓e_cald, ↓e_iast, ↓e_aald, ↓e_aast, ↓e_len, ↓e_copy, ↓e_abs, ↓e_max, ↓e_min, ↓e_iret, ↓e_aret, ↓e_vret, ↓e_is0, ↓e_is1, ↓e_is2, ↓e_is3, ↓e_is4, ↓e_iv1, ↓e_iv2, ↓e_iv3, ↓e_iv4, ↓e_iv5, ↓e_iv6, ↓rt_X11_law, ↓reduceIte, Nat.reduceAdd, Nat.reduceEqDiff, ↓zcl0, ↓zclv, List.map_nil, List.sum_nil, List.map_cons, List.sum_cons, zcat, true_and, and_true, Nat.reduceLeDiff, Nat.reduceAdd, eq_self, forall_const, e_ok0, e_okss, e_ok1i, e_ok1r, e_ok1n, zl_1, zq_0, zq_1, Int.reduceToNat, Int.reduceAdd, Int.reduceMul, Int.reduceSub, Int.reduceNeg, Int.reduceLT, Int.reduceLE, Int.reduceEq, not_false_eq_true, not_true_eq_false, false_implies, true_implies, implies_true, Int.reduceDiv, Int.reduceMod, zr8_zr, zr_zbo, z01_zbo, z01_0, z01_1, zbo_eq0, zup_eq, zup_o, zup_k, ne_eq, ↓ct_law_in, ↓r_in, ↓B_in, ↓ct_law_textGives, ↓r_textGives, ↓B_textGives, ↓ct_law_finds, ↓r_finds, ↓B_finds, ↓v_87, ↓g_87_0, ↓l_88, ↓s_88, ↓n_88, ↓g_87_1, ↓l_89, ↓s_89, ↓n_89, ↓g_87_2, ↓l_90, ↓s_90, ↓n_90, ↓g_87_3, ↓p_87_3, ↓g_87_4, ↓l_91, ↓s_91, ↓n_91, ↓g_87_5, ↓p_87_5, ↓g_87_6, ↓p_87_6, ↓g_87_7, ↓p_87_7, ↓g_87_8, ↓p_87_8, ↓g_87_9, ↓p_87_9, ↓g_87_10, ↓p_87_10, ↓g_87_11, ↓l_92, ↓s_92, ↓n_92, ↓g_87_12, ↓l_93, ↓s_93, ↓n_93, ↓g_87_13, ↓p_87_13, ↓g_87_14, ↓l_94, ↓s_94, ↓n_94, ↓g_87_15, ↓p_87_15, ↓g_87_16, ↓l_95, ↓s_95, ↓n_95, ↓g_87_17, ↓l_96, ↓s_96, ↓n_96, ↓g_87_18, ↓l_97, ↓s_97, ↓n_97, ↓g_87_19, ↓p_87_19, ↓g_87_20, ↓p_87_20, ↓g_87_21, ↓l_98, ↓s_98, ↓n_98, ↓g_87_22, ↓l_99, ↓s_99, ↓n_99, ↓g_87_23, ↓l_100, ↓s_100, ↓n_100, ↓g_87_24, ↓l_101, ↓s_101, ↓n_101]
      exact pub_no hC (by unfold R_law; rw [if_neg q]) rfl
    simp only [bk_X11_law_0, k_X11_law_0, bk_X11_law_10, k_X11_law_10, bk_X11_law_22, k_X11_law_22, bk_X11_law_27, k_X11_law_27, ↓e_rk1, ↓e_rk0, ↓e_sk0, ↓e_sks, ↓e_ldi0, ↓e_ldis, ↓e_ldl0, ↓e_ldls, ↓e_lda0, ↓e_ldas, ↓e_ok0, ↓e_okss, ↓e_ok1i, ↓e_ok1r, ↓e_ok1n, ↓e_sti, ↓e_sta, ↓e_1, ↓e_2, ↓e_l1, ↓e_l2, ↓e_li, ↓e_sw0, ↓e_sws, ↓e_ceq, ↓e_cne, ↓e_clt, ↓e_cge, ↓e_cgt, ↓e_cle, ↓e_nil, ↓e_cons, ↓e_iconst, ↓e_bipush, ↓e_sipush, ↓e_ldc, ↓e_ldcw, ↓e_ldc2, ↓e_lconst, ↓e_iloadn, ↓e_iload, ↓e_lloadn, ↓e_lload, ↓e_aloadn, ↓e_aload, ↓e_istoren, ↓e_istore, ↓e_astoren, ↓e_astore, ↓e_add, ↓e_iinc, ↓e_iadd, ↓e_isub, ↓e_imul, ↓e_iand, ↓e_ior, ↓e_ixor, ↓e_ishl, ↓e_iushr, ↓e_idiv, ↓e_irem, ↓e_ineg, ↓e_i2l, ↓e_i2b, ↓e_i2s, ↓e_l2i, ↓e_land, ↓e_lor, ↓e_lshl, ↓e_lshr, ↓e_lushr, ↓e_lcmp, ↓e_dupi, ↓e_dupr, ↓e_popi, ↓e_dup2, ↓e_goto, ↓e_if, ↓e_icmp, ↓e_tsw, ↓e_lsw, ↓e_getf, ↓e_putf, ↓e_gets, ↓e_iald, ↓e_cald, ↓e_iast, ↓e_aald, ↓e_aast, ↓e_len, ↓e_copy, ↓e_abs, ↓e_max, ↓e_min, ↓e_iret, ↓e_aret, ↓e_vret, ↓e_is0, ↓e_is1, ↓e_is2, ↓e_is3, ↓e_is4, ↓e_iv1, ↓e_iv2, ↓e_iv3, ↓e_iv4, ↓e_iv5, ↓e_iv6, ↓rt_X11_law, ↓reduceIte, Nat.reduceAdd, Nat.reduceEqDiff, ↓zcl0, ↓zclv, List.map_nil, List.sum_nil, List.map_cons, List.sum_cons, zcat, true_and, and_true, Nat.reduceLeDiff, Nat.reduceAdd, eq_self, forall_const, e_ok0, e_okss, e_ok1i, e_ok1r, e_ok1n, zl_1, zq_0, zq_1, Int.reduceToNat, Int.reduceAdd, Int.reduceMul, Int.reduceSub, Int.reduceNeg, Int.reduceLT, Int.reduceLE, Int.reduceEq, not_false_eq_true, not_true_eq_false, false_implies, true_implies, implies_true, Int.reduceDiv, Int.reduceMod, zr8_zr, zr_zbo, z01_zbo, z01_0, z01_1, zbo_eq0, zup_eq, zup_o, zup_k, ne_eq, ↓ct_law_in, ↓r_in, ↓B_in, ↓ct_law_textGives, ↓r_textGives, ↓B_textGives, ↓ct_law_finds, ↓r_finds, ↓B_finds, ↓v_87, ↓g_87_0, ↓l_88, ↓s_88, ↓n_88, ↓g_87_1, ↓l_89, ↓s_89, ↓n_89, ↓g_87_2, ↓l_90, ↓s_90, ↓n_90, ↓g_87_3, ↓p_87_3, ↓g_87_4, ↓l_91, ↓s_91, ↓n_91, ↓g_87_5, ↓p_87_5, ↓g_87_6, ↓p_87_6, ↓g_87_7, ↓p_87_7, ↓g_87_8, ↓p_87_8, ↓g_87_9, ↓p_87_9, ↓g_87_10, ↓p_87_10, ↓g_87_11, ↓l_92, ↓s_92, ↓n_92, ↓g_87_12, ↓l_93, ↓s_93, ↓n_93, ↓g_87_13, ↓p_87_13, ↓g_87_14, ↓l_94, ↓s_94, ↓n_94, ↓g_87_15, ↓p_87_15, ↓g_87_16, ↓l_95, ↓s_95, ↓n_95, ↓g_87_17, ↓l_96, ↓s_96, ↓n_96, ↓g_87_18, ↓l_97, ↓s_97, ↓n_97, ↓g_87_19, ↓p_87_19, ↓g_87_20, ↓p_87_20, ↓g_87_21, ↓l_98, ↓s_98, ↓n_98, ↓g_87_22, ↓l_99, ↓s_99, ↓n_99, ↓g_87_23, ↓l_100, ↓s_100, ↓n_100, ↓g_87_24, ↓l_101, ↓s_101, ↓n_101, zr_rg, h1, zr8_rg, h1, zr8_zr, zr_zbo, zbo_eq0]
    exact ⟨fun c => J22 (by omega), fun c => J10 (by omega)⟩
def txd (d : Nat → Int) (u : Int) (l : List Int) : Nat → Int := fun k => if 208 + 50 * u ≤ (k : Int) ∧ (k : Int) < 208 + 50 * u + l.length then l.getD (k - (208 + 50 * u).toNat) 0 else if (k : Int) = 186 + u then (l.length : Int) else if k = 4 then 0 else d k
def tpr (S : ZMm) (u : Int) : PS := prd (fun k => S 88 (308 + k)) (S 88 4).toNat u
def R_text (S : ZMm) (u : Int) : Int × ZMm := if 0 ≤ u ∧ u ≤ 1 then (if (tpr S u).2.1 < 0 then (1, r88 S (txd (S 88) u (tpr S u).2.2)) else (-10 - (tpr S u).2.1, r88 S (up1 (S 88) 4 0))) else no S 1
theorem pub_rd {M : ZMm} {R : Int × ZMm} {post : Option ZV → ZMm → Prop} (h : pub M R post) {a : Int} {M' : ZMm} (hM : ∀ x i, ¬ x = 88 → ¬ x = 93 → ¬ (x = 87 ∧ ((5 ≤ i ∧ i ≤ 10) ∨ i = 13)) → M' x i = M x i) (e : R = (a, r88 (st M) (M' 88))) : post (some (.inl a)) M' := by
  refine pub_of h ?_ (hM 87 15 (by omega) (by omega) (by omega)) (fun x q => funext fun i => hM x i (by omega) (by omega) (by omega))
  rw [e]
  refine congrArg (Prod.mk a) ?_
  funext x k
  unfold r88
  by_cases q : x = 88
  · subst q; rw [if_pos rfl, st88]
  · rw [if_neg q]
    unfold st
    by_cases q2 : kpt x k = true
    · rw [if_pos q2, if_pos q2]
      have : ¬ x = 93 ∧ ¬ (x = 87 ∧ ((5 ≤ k ∧ k ≤ 10) ∨ k = 13)) := by
        refine ⟨fun e => by subst e; simp [kpt] at q2, fun e => ?_⟩
        obtain ⟨e1, e2⟩ := e
        subst e1
        have : k = 3 ∨ k = 19 ∨ k = 20 := by simpa [kpt, or_assoc] using q2
        omega
      rw [hM x k q this.1 this.2]
    · rw [if_neg q2, if_neg q2]
def B_text9 (r : Nat) (u : Int) (M : Nat → Nat → Int) (post : Option ZV → (Nat → Nat → Int) → Prop) : Prop := rg u ∧ pub M (R_text (st M) u) post
def C_text9 (r : Nat) : ZC := fun as h post => match as with
  | [.inr (.inr (.inl 87)), .inl u] => h.1 = zG ∧ B_text9 r u h.2 (fun v M => post v (zG, M))
  | _ => False
theorem r_text9 {r : Nat} {u : Int} {M : Nat → Nat → Int} {post : Option ZV → ZH → Prop} : C_text9 r [.inr (.inr (.inl 87)), .inl u] (zG, M) post = B_text9 r u M (fun v M => post v (zG, M)) := by show (zG = zG ∧ _) = _; simp
def ct_text9 (r : Nat) : Nat → ZC := fun n => if n = 120 then C_in else if n = 119 then C_finds else if n = 144 then C_rds (0) else fun _ _ _ => False
theorem ct_text9_in {r : Nat} {as : List ZV} {h : ZH} {post : Option ZV → ZH → Prop} : ct_text9 r 120 as h post = C_in as h post := rfl
theorem ct_text9_finds {r : Nat} {as : List ZV} {h : ZH} {post : Option ZV → ZH → Prop} : ct_text9 r 119 as h post = C_finds as h post := rfl
theorem ct_text9_rds {r : Nat} {as : List ZV} {h : ZH} {post : Option ZV → ZH → Prop} : ct_text9 r 144 as h post = C_rds (0) as h post := rfl
theorem c_text9 {E : ZE} {d : Nat} {r : Nat} (hd : 2 ≤ d) (i_rds : ∃ d', d' < d ∧ zMet E d' mX11_reads (C_rds (0))) : zMet E d mX11_text (C_text9 (r)) := by
  refine zmet_of (o := 11) (ini := false) (CT := ct_text9 r) gd_X11_text rfl (fun h => by cases h) (by omega) ?_ ?_
  · intro n as h post hh
    unfold ct_text9 at hh
    by_cases c : n = 120
    · subst c; exact ⟨gd_X11_in, 1, by omega, c_in (by omega)⟩
    rw [if_neg c] at hh
    by_cases c : n = 119
    · subst c; exact ⟨gd_X11_finds, 1, by omega, c_finds (by omega)⟩
    rw [if_neg c] at hh
    by_cases c : n = 144
    · subst c; exact ⟨gd_X11_reads, i_rds⟩
    rw [if_neg c] at hh
    exact hh.elim
  intro as h post hC
  match as, hC with
  | [.inr (.inr (.inl 87)), .inl u], hC =>
    refine ⟨Nat.le_of_ble_eq_true rfl, fun X hX => bs_X11_text_0 hX ?_⟩
    obtain ⟨G, M⟩ := h
    obtain ⟨hG, hC⟩ := hC
    dsimp only at hG
    subst hG
    simp only [B_text9] at hC
    show bk_X11_text_0 E (ct_text9 r) X _ [some (.inr (.inr (.inl 87))), some (.inl u), none, none] [] (zG, M) (0, 0)
    obtain ⟨h1, hC⟩ := hC
    have vd : Vd (M 88) := hC.1.1
    have v4 := vd.2.2.2.1
    have tp : ∀ k, 308 ≤ k → k < 358 → rg (M 88 k) := hC.1.2.2.2.2.2.2.2.2.2.2.1
    have s88 : st M 88 = M 88 := rfl
    have J16 : (0 ≤ u ∧ u ≤ 1) → X 16 [some (.inr (.inr (.inl 87))), some (.inl u), none, none] [] (zG, M) (0, 0) := by
      intro q
      have T1 : tT (zup M 88 4 0) = (fun k => st M 88 (308 + k)) := by
        funext k
        show zup M 88 4 0 88 (308 + k) = M 88 (308 + k)
        rw [zup_k (by omega)]
      have ep : prd (tT (zup M 88 4 0)) (M 88 4).toNat u = tpr (st M) u := by rw [T1]; rfl
      obtain ⟨p, hp⟩ : ∃ p, tpr (st M) u = p := ⟨_, rfl⟩
      have J39 : ∀ M2 : ZMm, okM M2 → sP M2 = p → Fr (zup M 88 4 0) M2 → X 39 [some (.inr (.inr (.inl 87))), some (.inl u), some (.inl (M 88 4)), none] [] (zG, M2) (0, 0) := by
        intro M2 o2 e2 f2
        obtain ⟨w1, w2, w3, w4⟩ := o2.1
        have en := o2.sz
        have el := o2.ln
        have e8 : p.2.1 = M2 87 8 := by rw [← e2]; rfl
        have z8 : zr (M2 87 8) = M2 87 8 := zr_of (by rw [e2] at w3; omega) (by rw [e2] at w4; omega)
        have d2 : M2 88 = up1 (M 88) 4 0 := by
          funext i
          rw [f2 88 i (by omega) (by omega), zup_up]
        have fr2 : ∀ x i, ¬ x = 88 → ¬ x = 93 → ¬ (x = 87 ∧ ((5 ≤ i ∧ i ≤ 10) ∨ i = 13)) → M2 x i = M x i := fun x i q1 q2 q3 => by rw [f2 x i q2 q3, zup_ne _ q1]
        have J54 : p.2.1 < 0 → X 54 [some (.inr (.inr (.inl 87))), some (.inl u), some (.inl (M 88 4)), none] [] (zG, M2) (0, 0) := by
          intro qf
          have zl : zr (M2 87 13) = M2 87 13 := zr_of (by omega) (by omega)
          have zi : zr (186 + u) = 186 + u := zr_of (by omega) (by omega)
          have lp : ∀ (j k : Nat) (M3 : ZMm), j + k = p.2.2.length → M3 88 = (fun y : Nat => if 208 + 50 * u ≤ (y : Int) ∧ (y : Int) < 208 + 50 * u + k then p.2.2.getD (y - (208 + 50 * u).toNat) 0 else if (y : Int) = 186 + u then (p.2.2.length : Int) else if y = 4 then 0 else M 88 y) → (∀ x, ¬ x = 88 → M3 x = M2 x) → X 70 [some (.inr (.inr (.inl 87))), some (.inl u), some (.inl (M 88 4)), some (.inl ((k : Int)))] [] (zG, M3) (0, 0) := by
            intro j
            induction j with
            | zero =>
              intro k M3 hk hd hM
              refine bs_X11_text_70 hX ?_
              have e13 : M3 87 13 = (p.2.2.length : Int) := by rw [hM 87 (by decide), el, e2]
              have zk : zr (k : Int) = k := zr_of (by omega) (by rw [e2] at w2 w1; omega)
              have zp : zr (p.2.2.length : Int) = p.2.2.length := zr_of (by omega) (by rw [e2] at w2 w1; omega)
              have lk : ((k : Int) < p.2.2.length) = False := eq_false (by omega)
              simp only [bk_X11_text_0, k_X11_text_0, bk_X11_text_16, k_X11_text_16, bk_X11_text_39, k_X11_text_39, bk_X11_text_54, k_X11_text_54, bk_X11_text_68, k_X11_text_68, bk_X11_text_70, k_X11_text_70, bk_X11_text_105, k_X11_text_105, ↓e_rk1, ↓e_rk0, ↓e_sk0, ↓e_sks, ↓e_ldi0, ↓e_ldis, ↓e_ldl0, ↓e_ldls, ↓e_lda0, ↓e_ldas, ↓e_ok0, ↓e_okss, ↓e_ok1i, ↓e_ok1r, ↓e_ok1n, ↓e_sti, ↓e_sta, ↓e_1, ↓e_2, ↓e_l1, ↓e_l2, ↓e_li, ↓e_sw0, ↓e_sws, ↓e_ceq, ↓e_cne, ↓e_clt, ↓e_cge, ↓e_cgt, ↓e_cle, ↓e_nil, ↓e_cons, ↓e_iconst, ↓e_bipush, ↓e_sipush, ↓e_ldc, ↓e_ldcw, ↓e_ldc2, ↓e_lconst, ↓e_iloadn, ↓e_iload, ↓e_lloadn, ↓e_lload, ↓e_aloadn, ↓e_aload, ↓e_istoren, ↓e_istore, ↓e_astoren, ↓e_astore, ↓e_add, ↓e_iinc, ↓e_iadd, ↓e_isub, ↓e_imul, ↓e_iand, ↓e_ior, ↓e_ixor, ↓e_ishl, ↓e_iushr, ↓e_idiv, ↓e_irem, ↓e_ineg, ↓e_i2l, ↓e_i2b, ↓e_i2s, ↓e_l2i, ↓e_land, ↓e_lor, ↓e_lshl, ↓e_lshr, ↓e_lushr, ↓e_lcmp, ↓e_dupi, ↓e_dupr, ↓e_popi, ↓e_dup2, ↓e_goto, ↓e_if, ↓e_icmp, ↓e_tsw, ↓e_lsw, ↓e_getf, ↓e_putf, ↓e_gets, ↓e_iald, ↓e_cald, ↓e_iast, ↓e_aald, ↓e_aast, ↓e_len, ↓e_copy, ↓e_abs, ↓e_max, ↓e_min, ↓e_iret, ↓e_aret, ↓e_vret, ↓e_is0, ↓e_is1, ↓e_is2, ↓e_is3, ↓e_is4, ↓e_iv1, ↓e_iv2, ↓e_iv3, ↓e_iv4, ↓e_iv5, ↓e_iv6, ↓rt_X11_text, ↓reduceIte, Nat.reduceAdd, Nat.reduceEqDiff, ↓zcl0, ↓zclv, List.map_nil, List.sum_nil, List.map_cons, List.sum_cons, zcat, true_and, and_true, Nat.reduceLeDiff, Nat.reduceAdd, eq_self, forall_const, e_ok0, e_okss, e_ok1i, e_ok1r, e_ok1n, zl_m10, zl_0, zl_1, zl_4, zl_50, zl_186, zl_208, zl_308, zq_0, zq_1, Int.reduceToNat, Int.reduceAdd, Int.reduceMul, Int.reduceSub, Int.reduceNeg, Int.reduceLT, Int.reduceLE, Int.reduceEq, not_false_eq_true, not_true_eq_false, false_implies, true_implies, implies_true, Int.reduceDiv, Int.reduceMod, zr8_zr, zr_zbo, z01_zbo, z01_0, z01_1, zbo_eq0, zup_eq, zup_o, zup_k, ne_eq, ↓ct_text9_in, ↓r_in, ↓B_in, ↓ct_text9_finds, ↓r_finds, ↓B_finds, ↓ct_text9_rds, ↓r_rds, ↓B_rds, ↓v_87, ↓g_87_0, ↓l_88, ↓s_88, ↓n_88, ↓g_87_1, ↓l_89, ↓s_89, ↓n_89, ↓g_87_2, ↓l_90, ↓s_90, ↓n_90, ↓g_87_3, ↓p_87_3, ↓g_87_4, ↓l_91, ↓s_91, ↓n_91, ↓g_87_5, ↓p_87_5, ↓g_87_6, ↓p_87_6, ↓g_87_7, ↓p_87_7, ↓g_87_8, ↓p_87_8, ↓g_87_9, ↓p_87_9, ↓g_87_10, ↓p_87_10, ↓g_87_11, ↓l_92, ↓s_92, ↓n_92, ↓g_87_12, ↓l_93, ↓s_93, ↓n_93, ↓g_87_13, ↓p_87_13, ↓g_87_14, ↓l_94, ↓s_94, ↓n_94, ↓g_87_15, ↓p_87_15, ↓g_87_16, ↓l_95, ↓s_95, ↓n_95, ↓g_87_17, ↓l_96, ↓s_96, ↓n_96, ↓g_87_18, ↓l_97, ↓s_97, ↓n_97, ↓g_87_19, ↓p_87_19, ↓g_87_20, ↓p_87_20, ↓g_87_21, ↓l_98, ↓s_98, ↓n_98, ↓g_87_22, ↓l_99, ↓s_99, ↓n_99, ↓g_87_23, ↓l_100, ↓s_100, ↓n_100, ↓g_87_24, ↓l_101, ↓s_101, ↓n_101, e13, zk, zp, lk]
              refine bs_X11_text_105 hX ?_
              simp only [bk_X11_text_0, k_X11_text_0, bk_X11_text_16, k_X11_text_16, bk_X11_text_39, k_X11_text_39, bk_X11_text_54, k_X11_text_54, bk_X11_text_68, k_X11_text_68, bk_X11_text_70, k_X11_text_70, bk_X11_text_105, k_X11_text_105, ↓e_rk1, ↓e_rk0, ↓e_sk0, ↓e_sks, ↓e_ldi0, ↓e_ldis, ↓e_ldl0, ↓e_ldls, ↓e_lda0, ↓e_ldas, ↓e_ok0, ↓e_okss, ↓e_ok1i, ↓e_ok1r, ↓e_ok1n, ↓e_sti, ↓e_sta, ↓e_1, ↓e_2, ↓e_l1, ↓e_l2, ↓e_li, ↓e_sw0, ↓e_sws, ↓e_ceq, ↓e_cne, ↓e_clt, ↓e_cge, ↓e_cgt, ↓e_cle, ↓e_nil, ↓e_cons, ↓e_iconst, ↓e_bipush, ↓e_sipush, ↓e_ldc, ↓e_ldcw, ↓e_ldc2, ↓e_lconst, ↓e_iloadn, ↓e_iload, ↓e_lloadn, ↓e_lload, ↓e_aloadn, ↓e_aload, ↓e_istoren, ↓e_istore, ↓e_astoren, ↓e_astore, ↓e_add, ↓e_iinc, ↓e_iadd, ↓e_isub, ↓e_imul, ↓e_iand, ↓e_ior, ↓e_ixor, ↓e_ishl, ↓e_iushr, ↓e_idiv, ↓e_irem, ↓e_ineg, ↓e_i2l, ↓e_i2b, ↓e_i2s, ↓e_l2i, ↓e_land, ↓e_lor, ↓e_lshl, ↓e_lshr, ↓e_lushr, ↓e_lcmp, ↓e_dupi, ↓e_dupr, ↓e_popi, ↓e_dup2, ↓e_goto, ↓e_if, ↓e_icmp, ↓e_tsw, ↓e_lsw, ↓e_getf, ↓e_putf, ↓e_gets, ↓e_iald, ↓e_cald, ↓e_iast, ↓e_aald, ↓e_aast, ↓e_len, ↓e_copy, ↓e_abs, ↓e_max, ↓e_min, ↓e_iret, ↓e_aret, ↓e_vret, ↓e_is0, ↓e_is1, ↓e_is2, ↓e_is3, ↓e_is4, ↓e_iv1, ↓e_iv2, ↓e_iv3, ↓e_iv4, ↓e_iv5, ↓e_iv6, ↓rt_X11_text, ↓reduceIte, Nat.reduceAdd, Nat.reduceEqDiff, ↓zcl0, ↓zclv, List.map_nil, List.sum_nil, List.map_cons, List.sum_cons, zcat, true_and, and_true, Nat.reduceLeDiff, Nat.reduceAdd, eq_self, forall_const, e_ok0, e_okss, e_ok1i, e_ok1r, e_ok1n, zl_m10, zl_0, zl_1, zl_4, zl_50, zl_186, zl_208, zl_308, zq_0, zq_1, Int.reduceToNat, Int.reduceAdd, Int.reduceMul, Int.reduceSub, Int.reduceNeg, Int.reduceLT, Int.reduceLE, Int.reduceEq, not_false_eq_true, not_true_eq_false, false_implies, true_implies, implies_true, Int.reduceDiv, Int.reduceMod, zr8_zr, zr_zbo, z01_zbo, z01_0, z01_1, zbo_eq0, zup_eq, zup_o, zup_k, ne_eq, ↓ct_text9_in, ↓r_in, ↓B_in, ↓ct_text9_finds, ↓r_finds, ↓B_finds, ↓ct_text9_rds, ↓r_rds, ↓B_rds, ↓v_87, ↓g_87_0, ↓l_88, ↓s_88, ↓n_88, ↓g_87_1, ↓l_89, ↓s_89, ↓n_89, ↓g_87_2, ↓l_90, ↓s_90, ↓n_90, ↓g_87_3, ↓p_87_3, ↓g_87_4, ↓l_91, ↓s_91, ↓n_91, ↓g_87_5, ↓p_87_5, ↓g_87_6, ↓p_87_6, ↓g_87_7, ↓p_87_7, ↓g_87_8, ↓p_87_8, ↓g_87_9, ↓p_87_9, ↓g_87_10, ↓p_87_10, ↓g_87_11, ↓l_92, ↓s_92, ↓n_92, ↓g_87_12, ↓l_93, ↓s_93, ↓n_93, ↓g_87_13, ↓p_87_13, ↓g_87_14, ↓l_94, ↓s_94, ↓n_94, ↓g_87_15, ↓p_87_15, ↓g_87_16, ↓l_95, ↓s_95, ↓n_95, ↓g_87_17, ↓l_96, ↓s_96, ↓n_96, ↓g_87_18, ↓l_97, ↓s_97, ↓n_97, ↓g_87_19, ↓p_87_19, ↓g_87_20, ↓p_87_20, ↓g_87_21, ↓l_98, ↓s_98, ↓n_98, ↓g_87_22, ↓l_99, ↓s_99, ↓n_99, ↓g_87_23, ↓l_100, ↓s_100, ↓n_100, ↓g_87_24, ↓l_101, ↓s_101, ↓n_101]
              refine pub_rd hC (fun x i q1 q2 q3 => by rw [hM x q1, fr2 x i q1 q2 q3]) ?_
              unfold R_text
              rw [if_pos q, hp, if_pos qf, s88, hd, show k = p.2.2.length by omega]
              rfl
            | succ j ih =>
              intro k M3 hk hd hM
              refine bs_X11_text_70 hX ?_
              have e13 : M3 87 13 = (p.2.2.length : Int) := by rw [hM 87 (by decide), el, e2]
              have l50 : p.2.2.length ≤ 50 := by rw [e2] at w2 w1; omega
              have zk : zr (k : Int) = k := zr_of (by omega) (by omega)
              have zp : zr (p.2.2.length : Int) = p.2.2.length := zr_of (by omega) (by omega)
              have lk : ((k : Int) < p.2.2.length) = True := eq_true (by omega)
              have zj : zr (208 + 50 * u + (k : Int)) = 208 + 50 * u + k := zr_of (by omega) (by omega)
              have e93 : M3 93 k = p.2.2.getD k 0 := by
                rw [hM 93 (by decide), ← e2]
                show M2 93 k = ((List.range (M2 87 13).toNat).map (M2 93)).getD k 0
                have hk2 : k < (M2 87 13).toNat := by rw [el, e2]; omega
                simp [List.getD, hk2]
              simp only [bk_X11_text_0, k_X11_text_0, bk_X11_text_16, k_X11_text_16, bk_X11_text_39, k_X11_text_39, bk_X11_text_54, k_X11_text_54, bk_X11_text_68, k_X11_text_68, bk_X11_text_70, k_X11_text_70, bk_X11_text_105, k_X11_text_105, ↓e_rk1, ↓e_rk0, ↓e_sk0, ↓e_sks, ↓e_ldi0, ↓e_ldis, ↓e_ldl0, ↓e_ldls, ↓e_lda0, ↓e_ldas, ↓e_ok0, ↓e_okss, ↓e_ok1i, ↓e_ok1r, ↓e_ok1n, ↓e_sti, ↓e_sta, ↓e_1, ↓e_2, ↓e_l1, ↓e_l2, ↓e_li, ↓e_sw0, ↓e_sws, ↓e_ceq, ↓e_cne, ↓e_clt, ↓e_cge, ↓e_cgt, ↓e_cle, ↓e_nil, ↓e_cons, ↓e_iconst, ↓e_bipush, ↓e_sipush, ↓e_ldc, ↓e_ldcw, ↓e_ldc2, ↓e_lconst, ↓e_iloadn, ↓e_iload, ↓e_lloadn, ↓e_lload, ↓e_aloadn, ↓e_aload, ↓e_istoren, ↓e_istore, ↓e_astoren, ↓e_astore, ↓e_add, ↓e_iinc, ↓e_iadd, ↓e_isub, ↓e_imul, ↓e_iand, ↓e_ior, ↓e_ixor, ↓e_ishl, ↓e_iushr, ↓e_idiv, ↓e_irem, ↓e_ineg, ↓e_i2l, ↓e_i2b, ↓e_i2s, ↓e_l2i, ↓e_land, ↓e_lor, ↓e_lshl, ↓e_lshr, ↓e_lushr, ↓e_lcmp, ↓e_dupi, ↓e_dupr, ↓e_popi, ↓e_dup2, ↓e_goto, ↓e_if, ↓e_icmp, ↓e_tsw, ↓e_lsw, ↓e_getf, ↓e_putf, ↓e_gets, ↓e_iald, ↓e_cald, ↓e_iast, ↓e_aald, ↓e_aast, ↓e_len, ↓e_copy, ↓e_abs, ↓e_max, ↓e_min, ↓e_iret, ↓e_aret, ↓e_vret, ↓e_is0, ↓e_is1, ↓e_is2, ↓e_is3, ↓e_is4, ↓e_iv1, ↓e_iv2, ↓e_iv3, ↓e_iv4, ↓e_iv5, ↓e_iv6, ↓rt_X11_text, ↓reduceIte, Nat.reduceAdd, Nat.reduceEqDiff, ↓zcl0, ↓zclv, List.map_nil, List.sum_nil, List.map_cons, List.sum_cons, zcat, true_and, and_true, Nat.reduceLeDiff, Nat.reduceAdd, eq_self, forall_const, e_ok0, e_okss, e_ok1i, e_ok1r, e_ok1n, zl_m10, zl_0, zl_1, zl_4, zl_50, zl_186, zl_208, zl_308, zq_0, zq_1, Int.reduceToNat, Int.reduceAdd, Int.reduceMul, Int.reduceSub, Int.reduceNeg, Int.reduceLT, Int.reduceLE, Int.reduceEq, not_false_eq_true, not_true_eq_false, false_implies, true_implies, implies_true, Int.reduceDiv, Int.reduceMod, zr8_zr, zr_zbo, z01_zbo, z01_0, z01_1, zbo_eq0, zup_eq, zup_o, zup_k, ne_eq, ↓ct_text9_in, ↓r_in, ↓B_in, ↓ct_text9_finds, ↓r_finds, ↓B_finds, ↓ct_text9_rds, ↓r_rds, ↓B_rds, ↓v_87, ↓g_87_0, ↓l_88, ↓s_88, ↓n_88, ↓g_87_1, ↓l_89, ↓s_89, ↓n_89, ↓g_87_2, ↓l_90, ↓s_90, ↓n_90, ↓g_87_3, ↓p_87_3, ↓g_87_4, ↓l_91, ↓s_91, ↓n_91, ↓g_87_5, ↓p_87_5, ↓g_87_6, ↓p_87_6, ↓g_87_7, ↓p_87_7, ↓g_87_8, ↓p_87_8, ↓g_87_9, ↓p_87_9, ↓g_87_10, ↓p_87_10, ↓g_87_11, ↓l_92, ↓s_92, ↓n_92, ↓g_87_12, ↓l_93, ↓s_93, ↓n_93, ↓g_87_13, ↓p_87_13, ↓g_87_14, ↓l_94, ↓s_94, ↓n_94, ↓g_87_15, ↓p_87_15, ↓g_87_16, ↓l_95, ↓s_95, ↓n_95, ↓g_87_17, ↓l_96, ↓s_96, ↓n_96, ↓g_87_18, ↓l_97, ↓s_97, ↓n_97, ↓g_87_19, ↓p_87_19, ↓g_87_20, ↓p_87_20, ↓g_87_21, ↓l_98, ↓s_98, ↓n_98, ↓g_87_22, ↓l_99, ↓s_99, ↓n_99, ↓g_87_23, ↓l_100, ↓s_100, ↓n_100, ↓g_87_24, ↓l_101, ↓s_101, ↓n_101, e13, zk, zp, lk, zj, e93, Int.toNat_natCast]
              repeat (refine And.intro (by omega) ?_)
              refine ih (k + 1) _ (by omega) ?_ (fun x q5 => by rw [zup_ne _ q5, hM x q5])
              rw [zup_up, hd]
              funext y
              unfold up1
              by_cases q7 : y = (208 + 50 * u + (k : Int)).toNat
              · rw [if_pos q7, if_pos (by omega), show y - (208 + 50 * u).toNat = k by omega]
              · rw [if_neg q7]
                dsimp only
                by_cases q8 : 208 + 50 * u ≤ (y : Int) ∧ (y : Int) < 208 + 50 * u + k
                · rw [if_pos q8, if_pos (by omega)]
                · rw [if_neg q8, if_neg (c := 208 + 50 * u ≤ (y : Int) ∧ (y : Int) < 208 + 50 * u + ((k + 1 : Nat) : Int)) (by omega)]
          refine bs_X11_text_54 hX ?_
          simp only [bk_X11_text_0, k_X11_text_0, bk_X11_text_16, k_X11_text_16, bk_X11_text_39, k_X11_text_39, bk_X11_text_54, k_X11_text_54, bk_X11_text_68, k_X11_text_68, bk_X11_text_70, k_X11_text_70, bk_X11_text_105, k_X11_text_105, ↓e_rk1, ↓e_rk0, ↓e_sk0, ↓e_sks, ↓e_ldi0, ↓e_ldis, ↓e_ldl0, ↓e_ldls, ↓e_lda0, ↓e_ldas, ↓e_ok0, ↓e_okss, ↓e_ok1i, ↓e_ok1r, ↓e_ok1n, ↓e_sti, ↓e_sta, ↓e_1, ↓e_2, ↓e_l1, ↓e_l2, ↓e_li, ↓e_sw0, ↓e_sws, ↓e_ceq, ↓e_cne, ↓e_clt, ↓e_cge, ↓e_cgt, ↓e_cle, ↓e_nil, ↓e_cons, ↓e_iconst, ↓e_bipush, ↓e_sipush, ↓e_ldc, ↓e_ldcw, ↓e_ldc2, ↓e_lconst, ↓e_iloadn, ↓e_iload, ↓e_lloadn, ↓e_lload, ↓e_aloadn, ↓e_aload, ↓e_istoren, ↓e_istore, ↓e_astoren, ↓e_astore, ↓e_add, ↓e_iinc, ↓e_iadd, ↓e_isub, ↓e_imul, ↓e_iand, ↓e_ior, ↓e_ixor, ↓e_ishl, ↓e_iushr, ↓e_idiv, ↓e_irem, ↓e_ineg, ↓e_i2l, ↓e_i2b, ↓e_i2s, ↓e_l2i, ↓e_land, ↓e_lor, ↓e_lshl, ↓e_lshr, ↓e_lushr, ↓e_lcmp, ↓e_dupi, ↓e_dupr, ↓e_popi, ↓e_dup2, ↓e_goto, ↓e_if, ↓e_icmp, ↓e_tsw, ↓e_lsw, ↓e_getf, ↓e_putf, ↓e_gets, ↓e_iald, ↓e_cald, ↓e_iast, ↓e_aald, ↓e_aast, ↓e_len, ↓e_copy, ↓e_abs, ↓e_max, ↓e_min, ↓e_iret, ↓e_aret, ↓e_vret, ↓e_is0, ↓e_is1, ↓e_is2, ↓e_is3, ↓e_is4, ↓e_iv1, ↓e_iv2, ↓e_iv3, ↓e_iv4, ↓e_iv5, ↓e_iv6, ↓rt_X11_text, ↓reduceIte, Nat.reduceAdd, Nat.reduceEqDiff, ↓zcl0, ↓zclv, List.map_nil, List.sum_nil, List.map_cons, List.sum_cons, zcat, true_and, and_true, Nat.reduceLeDiff, Nat.reduceAdd, eq_self, forall_const, e_ok0, e_okss, e_ok1i, e_ok1r, e_ok1n, zl_m10, zl_0, zl_1, zl_4, zl_50, zl_186, zl_208, zl_308, zq_0, zq_1, Int.reduceToNat, Int.reduceAdd, Int.reduceMul, Int.reduceSub, Int.reduceNeg, Int.reduceLT, Int.reduceLE, Int.reduceEq, not_false_eq_true, not_true_eq_false, false_implies, true_implies, implies_true, Int.reduceDiv, Int.reduceMod, zr8_zr, zr_zbo, z01_zbo, z01_0, z01_1, zbo_eq0, zup_eq, zup_o, zup_k, ne_eq, ↓ct_text9_in, ↓r_in, ↓B_in, ↓ct_text9_finds, ↓r_finds, ↓B_finds, ↓ct_text9_rds, ↓r_rds, ↓B_rds, ↓v_87, ↓g_87_0, ↓l_88, ↓s_88, ↓n_88, ↓g_87_1, ↓l_89, ↓s_89, ↓n_89, ↓g_87_2, ↓l_90, ↓s_90, ↓n_90, ↓g_87_3, ↓p_87_3, ↓g_87_4, ↓l_91, ↓s_91, ↓n_91, ↓g_87_5, ↓p_87_5, ↓g_87_6, ↓p_87_6, ↓g_87_7, ↓p_87_7, ↓g_87_8, ↓p_87_8, ↓g_87_9, ↓p_87_9, ↓g_87_10, ↓p_87_10, ↓g_87_11, ↓l_92, ↓s_92, ↓n_92, ↓g_87_12, ↓l_93, ↓s_93, ↓n_93, ↓g_87_13, ↓p_87_13, ↓g_87_14, ↓l_94, ↓s_94, ↓n_94, ↓g_87_15, ↓p_87_15, ↓g_87_16, ↓l_95, ↓s_95, ↓n_95, ↓g_87_17, ↓l_96, ↓s_96, ↓n_96, ↓g_87_18, ↓l_97, ↓s_97, ↓n_97, ↓g_87_19, ↓p_87_19, ↓g_87_20, ↓p_87_20, ↓g_87_21, ↓l_98, ↓s_98, ↓n_98, ↓g_87_22, ↓l_99, ↓s_99, ↓n_99, ↓g_87_23, ↓l_100, ↓s_100, ↓n_100, ↓g_87_24, ↓l_101, ↓s_101, ↓n_101, zi]
          refine ⟨by omega, by omega, ?_⟩
          refine bs_X11_text_68 hX ?_
          simp only [bk_X11_text_0, k_X11_text_0, bk_X11_text_16, k_X11_text_16, bk_X11_text_39, k_X11_text_39, bk_X11_text_54, k_X11_text_54, bk_X11_text_68, k_X11_text_68, bk_X11_text_70, k_X11_text_70, bk_X11_text_105, k_X11_text_105, ↓e_rk1, ↓e_rk0, ↓e_sk0, ↓e_sks, ↓e_ldi0, ↓e_ldis, ↓e_ldl0, ↓e_ldls, ↓e_lda0, ↓e_ldas, ↓e_ok0, ↓e_okss, ↓e_ok1i, ↓e_ok1r, ↓e_ok1n, ↓e_sti, ↓e_sta, ↓e_1, ↓e_2, ↓e_l1, ↓e_l2, ↓e_li, ↓e_sw0, ↓e_sws, ↓e_ceq, ↓e_cne, ↓e_clt, ↓e_cge, ↓e_cgt, ↓e_cle, ↓e_nil, ↓e_cons, ↓e_iconst, ↓e_bipush, ↓e_sipush, ↓e_ldc, ↓e_ldcw, ↓e_ldc2, ↓e_lconst, ↓e_iloadn, ↓e_iload, ↓e_lloadn, ↓e_lload, ↓e_aloadn, ↓e_aload, ↓e_istoren, ↓e_istore, ↓e_astoren, ↓e_astore, ↓e_add, ↓e_iinc, ↓e_iadd, ↓e_isub, ↓e_imul, ↓e_iand, ↓e_ior, ↓e_ixor, ↓e_ishl, ↓e_iushr, ↓e_idiv, ↓e_irem, ↓e_ineg, ↓e_i2l, ↓e_i2b, ↓e_i2s, ↓e_l2i, ↓e_land, ↓e_lor, ↓e_lshl, ↓e_lshr, ↓e_lushr, ↓e_lcmp, ↓e_dupi, ↓e_dupr, ↓e_popi, ↓e_dup2, ↓e_goto, ↓e_if, ↓e_icmp, ↓e_tsw, ↓e_lsw, ↓e_getf, ↓e_putf, ↓e_gets, ↓e_iald, ↓e_cald, ↓e_iast, ↓e_aald, ↓e_aast, ↓e_len, ↓e_copy, ↓e_abs, ↓e_max, ↓e_min, ↓e_iret, ↓e_aret, ↓e_vret, ↓e_is0, ↓e_is1, ↓e_is2, ↓e_is3, ↓e_is4, ↓e_iv1, ↓e_iv2, ↓e_iv3, ↓e_iv4, ↓e_iv5, ↓e_iv6, ↓rt_X11_text, ↓reduceIte, Nat.reduceAdd, Nat.reduceEqDiff, ↓zcl0, ↓zclv, List.map_nil, List.sum_nil, List.map_cons, List.sum_cons, zcat, true_and, and_true, Nat.reduceLeDiff, Nat.reduceAdd, eq_self, forall_const, e_ok0, e_okss, e_ok1i, e_ok1r, e_ok1n, zl_m10, zl_0, zl_1, zl_4, zl_50, zl_186, zl_208, zl_308, zq_0, zq_1, Int.reduceToNat, Int.reduceAdd, Int.reduceMul, Int.reduceSub, Int.reduceNeg, Int.reduceLT, Int.reduceLE, Int.reduceEq, not_false_eq_true, not_true_eq_false, false_implies, true_implies, implies_true, Int.reduceDiv, Int.reduceMod, zr8_zr, zr_zbo, z01_zbo, z01_0, z01_1, zbo_eq0, zup_eq, zup_o, zup_k, ne_eq, ↓ct_text9_in, ↓r_in, ↓B_in, ↓ct_text9_finds, ↓r_finds, ↓B_finds, ↓ct_text9_rds, ↓r_rds, ↓B_rds, ↓v_87, ↓g_87_0, ↓l_88, ↓s_88, ↓n_88, ↓g_87_1, ↓l_89, ↓s_89, ↓n_89, ↓g_87_2, ↓l_90, ↓s_90, ↓n_90, ↓g_87_3, ↓p_87_3, ↓g_87_4, ↓l_91, ↓s_91, ↓n_91, ↓g_87_5, ↓p_87_5, ↓g_87_6, ↓p_87_6, ↓g_87_7, ↓p_87_7, ↓g_87_8, ↓p_87_8, ↓g_87_9, ↓p_87_9, ↓g_87_10, ↓p_87_10, ↓g_87_11, ↓l_92, ↓s_92, ↓n_92, ↓g_87_12, ↓l_93, ↓s_93, ↓n_93, ↓g_87_13, ↓p_87_13, ↓g_87_14, ↓l_94, ↓s_94, ↓n_94, ↓g_87_15, ↓p_87_15, ↓g_87_16, ↓l_95, ↓s_95, ↓n_95, ↓g_87_17, ↓l_96, ↓s_96, ↓n_96, ↓g_87_18, ↓l_97, ↓s_97, ↓n_97, ↓g_87_19, ↓p_87_19, ↓g_87_20, ↓p_87_20, ↓g_87_21, ↓l_98, ↓s_98, ↓n_98, ↓g_87_22, ↓l_99, ↓s_99, ↓n_99, ↓g_87_23, ↓l_100, ↓s_100, ↓n_100, ↓g_87_24, ↓l_101, ↓s_101, ↓n_101]
          refine lp p.2.2.length 0 _ (by omega) ?_ (fun x q5 => by rw [zup_ne _ q5])
          rw [zup_up, d2, el, e2]
          funext y
          unfold up1
          rw [if_neg (c := 208 + 50 * u ≤ (y : Int) ∧ (y : Int) < 208 + 50 * u + ((0 : Nat) : Int)) (by omega)]
          by_cases q7 : y = (186 + u).toNat
          · rw [if_pos q7, if_pos (by omega)]
          · rw [if_neg q7, if_neg (c := (y : Int) = 186 + u) (by omega)]
        refine bs_X11_text_39 hX ?_
        simp only [bk_X11_text_0, k_X11_text_0, bk_X11_text_16, k_X11_text_16, bk_X11_text_39, k_X11_text_39, bk_X11_text_54, k_X11_text_54, bk_X11_text_68, k_X11_text_68, bk_X11_text_70, k_X11_text_70, bk_X11_text_105, k_X11_text_105, ↓e_rk1, ↓e_rk0, ↓e_sk0, ↓e_sks, ↓e_ldi0, ↓e_ldis, ↓e_ldl0, ↓e_ldls, ↓e_lda0, ↓e_ldas, ↓e_ok0, ↓e_okss, ↓e_ok1i, ↓e_ok1r, ↓e_ok1n, ↓e_sti, ↓e_sta, ↓e_1, ↓e_2, ↓e_l1, ↓e_l2, ↓e_li, ↓e_sw0, ↓e_sws, ↓e_ceq, ↓e_cne, ↓e_clt, ↓e_cge, ↓e_cgt, ↓e_cle, ↓e_nil, ↓e_cons, ↓e_iconst, ↓e_bipush, ↓e_sipush, ↓e_ldc, ↓e_ldcw, ↓e_ldc2, ↓e_lconst, ↓e_iloadn, ↓e_iload, ↓e_lloadn, ↓e_lload, ↓e_aloadn, ↓e_aload, ↓e_istoren, ↓e_istore, ↓e_astoren, ↓e_astore, ↓e_add, ↓e_iinc, ↓e_iadd, ↓e_isub, ↓e_imul, ↓e_iand, ↓e_ior, ↓e_ixor, ↓e_ishl, ↓e_iushr, ↓e_idiv, ↓e_irem, ↓e_ineg, ↓e_i2l, ↓e_i2b, ↓e_i2s, ↓e_l2i, ↓e_land, ↓e_lor, ↓e_lshl, ↓e_lshr, ↓e_lushr, ↓e_lcmp, ↓e_dupi, ↓e_dupr, ↓e_popi, ↓e_dup2, ↓e_goto, ↓e_if, ↓e_icmp, ↓e_tsw, ↓e_lsw, ↓e_getf, ↓e_putf, ↓e_gets, ↓e_iald, ↓e_cald, ↓e_iast, ↓e_aald, ↓e_aast, ↓e_len, ↓e_copy, ↓e_abs, ↓e_max, ↓e_min, ↓e_iret, ↓e_aret, ↓e_vret, ↓e_is0, ↓e_is1, ↓e_is2, ↓e_is3, ↓e_is4, ↓e_iv1, ↓e_iv2, ↓e_iv3, ↓e_iv4, ↓e_iv5, ↓e_iv6, ↓rt_X11_text, ↓reduceIte, Nat.reduceAdd, Nat.reduceEqDiff, ↓zcl0, ↓zclv, List.map_nil, List.sum_nil, List.map_cons, List.sum_cons, zcat, true_and, and_true, Nat.reduceLeDiff, Nat.reduceAdd, eq_self, forall_const, e_ok0, e_okss, e_ok1i, e_ok1r, e_ok1n, zl_m10, zl_0, zl_1, zl_4, zl_50, zl_186, zl_208, zl_308, zq_0, zq_1, Int.reduceToNat, Int.reduceAdd, Int.reduceMul, Int.reduceSub, Int.reduceNeg, Int.reduceLT, Int.reduceLE, Int.reduceEq, not_false_eq_true, not_true_eq_false, false_implies, true_implies, implies_true, Int.reduceDiv, Int.reduceMod, zr8_zr, zr_zbo, z01_zbo, z01_0, z01_1, zbo_eq0, zup_eq, zup_o, zup_k, ne_eq, ↓ct_text9_in, ↓r_in, ↓B_in, ↓ct_text9_finds, ↓r_finds, ↓B_finds, ↓ct_text9_rds, ↓r_rds, ↓B_rds, ↓v_87, ↓g_87_0, ↓l_88, ↓s_88, ↓n_88, ↓g_87_1, ↓l_89, ↓s_89, ↓n_89, ↓g_87_2, ↓l_90, ↓s_90, ↓n_90, ↓g_87_3, ↓p_87_3, ↓g_87_4, ↓l_91, ↓s_91, ↓n_91, ↓g_87_5, ↓p_87_5, ↓g_87_6, ↓p_87_6, ↓g_87_7, ↓p_87_7, ↓g_87_8, ↓p_87_8, ↓g_87_9, ↓p_87_9, ↓g_87_10, ↓p_87_10, ↓g_87_11, ↓l_92, ↓s_92, ↓n_92, ↓g_87_12, ↓l_93, ↓s_93, ↓n_93, ↓g_87_13, ↓p_87_13, ↓g_87_14, ↓l_94, ↓s_94, ↓n_94, ↓g_87_15, ↓p_87_15, ↓g_87_16, ↓l_95, ↓s_95, ↓n_95, ↓g_87_17, ↓l_96, ↓s_96, ↓n_96, ↓g_87_18, ↓l_97, ↓s_97, ↓n_97, ↓g_87_19, ↓p_87_19, ↓g_87_20, ↓p_87_20, ↓g_87_21, ↓l_98, ↓s_98, ↓n_98, ↓g_87_22, ↓l_99, ↓s_99, ↓n_99, ↓g_87_23, ↓l_100, ↓s_100, ↓n_100, ↓g_87_24, ↓l_101, ↓s_101, ↓n_101, z8]
        have bad : ¬ M2 87 8 < 0 → post (some (.inl (-10 - M2 87 8))) (zG, M2) := by
          intro qf
          refine pub_rd hC fr2 ?_
          unfold R_text
          rw [if_pos q, hp, if_neg (by omega), s88, d2, e8]
        repeat' (first | assumption | apply And.intro | intro _)
        all_goals first | (apply J54; omega) | (apply bad; omega)
      refine bs_X11_text_16 hX ?_
      simp only [bk_X11_text_0, k_X11_text_0, bk_X11_text_16, k_X11_text_16, bk_X11_text_39, k_X11_text_39, bk_X11_text_54, k_X11_text_54, bk_X11_text_68, k_X11_text_68, bk_X11_text_70, k_X11_text_70, bk_X11_text_105, k_X11_text_105, ↓e_rk1, ↓e_rk0, ↓e_sk0, ↓e_sks, ↓e_ldi0, ↓e_ldis, ↓e_ldl0, ↓e_ldls, ↓e_lda0, ↓e_ldas, ↓e_ok0, ↓e_okss, ↓e_ok1i, ↓e_ok1r, ↓e_ok1n, ↓e_sti, ↓e_sta, ↓e_1, ↓e_2, ↓e_l1, ↓e_l2, ↓e_li, ↓e_sw0, ↓e_sws, ↓e_ceq, ↓e_cne, ↓e_clt, ↓e_cge, ↓e_cgt, ↓e_cle, ↓e_nil, ↓e_cons, ↓e_iconst, ↓e_bipush, ↓e_sipush, ↓e_ldc, ↓e_ldcw, ↓e_ldc2, ↓e_lconst, ↓e_iloadn, ↓e_iload, ↓e_lloadn, ↓e_lload, ↓e_aloadn, ↓e_aload, ↓e_istoren, ↓e_istore, ↓e_astoren, ↓e_astore, ↓e_add, ↓e_iinc, ↓e_iadd, ↓e_isub, ↓e_imul, ↓e_iand, ↓e_ior, ↓e_ixor, ↓e_ishl, ↓e_iushr, ↓e_idiv, ↓e_irem, ↓e_ineg, ↓e_i2l, ↓e_i2b, ↓e_i2s, ↓e_l2i, ↓e_land, ↓e_lor, ↓e_lshl, ↓e_lshr, ↓e_lushr, ↓e_lcmp, ↓e_dupi, ↓e_dupr, ↓e_popi, ↓e_dup2, ↓e_goto, ↓e_if, ↓e_icmp, ↓e_tsw, ↓e_lsw, ↓e_getf, ↓e_putf, ↓e_gets, ↓e_iald, ↓e_cald, ↓e_iast, ↓e_aald, ↓e_aast, ↓e_len, ↓e_copy, ↓e_abs, ↓e_max, ↓e_min, ↓e_iret, ↓e_aret, ↓e_vret, ↓e_is0, ↓e_is1, ↓e_is2, ↓e_is3, ↓e_is4, ↓e_iv1, ↓e_iv2, ↓e_iv3, ↓e_iv4, ↓e_iv5, ↓e_iv6, ↓rt_X11_text, ↓reduceIte, Nat.reduceAdd, Nat.reduceEqDiff, ↓zcl0, ↓zclv, List.map_nil, List.sum_nil, List.map_cons, List.sum_cons, zcat, true_and, and_true, Nat.reduceLeDiff, Nat.reduceAdd, eq_self, forall_const, e_ok0, e_okss, e_ok1i, e_ok1r, e_ok1n, zl_m10, zl_0, zl_1, zl_4, zl_50, zl_186, zl_208, zl_308, zq_0, zq_1, Int.reduceToNat, Int.reduceAdd, Int.reduceMul, Int.reduceSub, Int.reduceNeg, Int.reduceLT, Int.reduceLE, Int.reduceEq, not_false_eq_true, not_true_eq_false, false_implies, true_implies, implies_true, Int.reduceDiv, Int.reduceMod, zr8_zr, zr_zbo, z01_zbo, z01_0, z01_1, zbo_eq0, zup_eq, zup_o, zup_k, ne_eq, ↓ct_text9_in, ↓r_in, ↓B_in, ↓ct_text9_finds, ↓r_finds, ↓B_finds, ↓ct_text9_rds, ↓r_rds, ↓B_rds, ↓v_87, ↓g_87_0, ↓l_88, ↓s_88, ↓n_88, ↓g_87_1, ↓l_89, ↓s_89, ↓n_89, ↓g_87_2, ↓l_90, ↓s_90, ↓n_90, ↓g_87_3, ↓p_87_3, ↓g_87_4, ↓l_91, ↓s_91, ↓n_91, ↓g_87_5, ↓p_87_5, ↓g_87_6, ↓p_87_6, ↓g_87_7, ↓p_87_7, ↓g_87_8, ↓p_87_8, ↓g_87_9, ↓p_87_9, ↓g_87_10, ↓p_87_10, ↓g_87_11, ↓l_92, ↓s_92, ↓n_92, ↓g_87_12, ↓l_93, ↓s_93, ↓n_93, ↓g_87_13, ↓p_87_13, ↓g_87_14, ↓l_94, ↓s_94, ↓n_94, ↓g_87_15, ↓p_87_15, ↓g_87_16, ↓l_95, ↓s_95, ↓n_95, ↓g_87_17, ↓l_96, ↓s_96, ↓n_96, ↓g_87_18, ↓l_97, ↓s_97, ↓n_97, ↓g_87_19, ↓p_87_19, ↓g_87_20, ↓p_87_20, ↓g_87_21, ↓l_98, ↓s_98, ↓n_98, ↓g_87_22, ↓l_99, ↓s_99, ↓n_99, ↓g_87_23, ↓l_100, ↓s_100, ↓n_100, ↓g_87_24, ↓l_101, ↓s_101, ↓n_101]
      rw [ep, hp]
      refine ⟨by omega, by omega, fun k hk => ?_, fun M2 o2 e2 f2 => J39 M2 o2 e2 f2⟩
      rw [T1]
      exact tp (308 + k) (by omega) (by omega)
    simp only [bk_X11_text_0, k_X11_text_0, bk_X11_text_16, k_X11_text_16, bk_X11_text_39, k_X11_text_39, bk_X11_text_54, k_X11_text_54, bk_X11_text_68, k_X11_text_68, bk_X11_text_70, k_X11_text_70, bk_X11_text_105, k_X11_text_105, ↓e_rk1, ↓e_rk0, ↓e_sk0, ↓e_sks, ↓e_ldi0, ↓e_ldis, ↓e_ldl0, ↓e_ldls, ↓e_lda0, ↓e_ldas, ↓e_ok0, ↓e_okss, ↓e_ok1i, ↓e_ok1r, ↓e_ok1n, ↓e_sti, ↓e_sta, ↓e_1, ↓e_2, ↓e_l1, ↓e_l2, ↓e_li, ↓e_sw0, ↓e_sws, ↓e_ceq, ↓e_cne, ↓e_clt, ↓e_cge, ↓e_cgt, ↓e_cle, ↓e_nil, ↓e_cons, ↓e_iconst, ↓e_bipush, ↓e_sipush, ↓e_ldc, ↓e_ldcw, ↓e_ldc2, ↓e_lconst, ↓e_iloadn, ↓e_iload, ↓e_lloadn, ↓e_lload, ↓e_aloadn, ↓e_aload, ↓e_istoren, ↓e_istore, ↓e_astoren, ↓e_astore, ↓e_add, ↓e_iinc, ↓e_iadd, ↓e_isub, ↓e_imul, ↓e_iand, ↓e_ior, ↓e_ixor, ↓e_ishl, ↓e_iushr, ↓e_idiv, ↓e_irem, ↓e_ineg, ↓e_i2l, ↓e_i2b, ↓e_i2s, ↓e_l2i, ↓e_land, ↓e_lor, ↓e_lshl, ↓e_lshr, ↓e_lushr, ↓e_lcmp, ↓e_dupi, ↓e_dupr, ↓e_popi, ↓e_dup2, ↓e_goto, ↓e_if, ↓e_icmp, ↓e_tsw, ↓e_lsw, ↓e_getf, ↓e_putf, ↓e_gets, ↓e_iald, ↓e_cald, ↓e_iast, ↓e_aald, ↓e_aast, ↓e_len, ↓e_copy, ↓e_abs, ↓e_max, ↓e_min, ↓e_iret, ↓e_aret, ↓e_vret, ↓e_is0, ↓e_is1, ↓e_is2, ↓e_is3, ↓e_is4, ↓e_iv1, ↓e_iv2, ↓e_iv3, ↓e_iv4, ↓e_iv5, ↓e_iv6, ↓rt_X11_text, ↓reduceIte, Nat.reduceAdd, Nat.reduceEqDiff, ↓zcl0, ↓zclv, List.map_nil, List.sum_nil, List.map_cons, List.sum_cons, zcat, true_and, and_true, Nat.reduceLeDiff, Nat.reduceAdd, eq_self, forall_const, e_ok0, e_okss, e_ok1i, e_ok1r, e_ok1n, zl_m10, zl_0, zl_1, zl_4, zl_50, zl_186, zl_208, zl_308, zq_0, zq_1, Int.reduceToNat, Int.reduceAdd, Int.reduceMul, Int.reduceSub, Int.reduceNeg, Int.reduceLT, Int.reduceLE, Int.reduceEq, not_false_eq_true, not_true_eq_false, false_implies, true_implies, implies_true, Int.reduceDiv, Int.reduceMod, zr8_zr, zr_zbo, z01_zbo, z01_0, z01_1, zbo_eq0, zup_eq, zup_o, zup_k, ne_eq, ↓ct_text9_in, ↓r_in, ↓B_in, ↓ct_text9_finds, ↓r_finds, ↓B_finds, ↓ct_text9_rds, ↓r_rds, ↓B_rds, ↓v_87, ↓g_87_0, ↓l_88, ↓s_88, ↓n_88, ↓g_87_1, ↓l_89, ↓s_89, ↓n_89, ↓g_87_2, ↓l_90, ↓s_90, ↓n_90, ↓g_87_3, ↓p_87_3, ↓g_87_4, ↓l_91, ↓s_91, ↓n_91, ↓g_87_5, ↓p_87_5, ↓g_87_6, ↓p_87_6, ↓g_87_7, ↓p_87_7, ↓g_87_8, ↓p_87_8, ↓g_87_9, ↓p_87_9, ↓g_87_10, ↓p_87_10, ↓g_87_11, ↓l_92, ↓s_92, ↓n_92, ↓g_87_12, ↓l_93, ↓s_93, ↓n_93, ↓g_87_13, ↓p_87_13, ↓g_87_14, ↓l_94, ↓s_94, ↓n_94, ↓g_87_15, ↓p_87_15, ↓g_87_16, ↓l_95, ↓s_95, ↓n_95, ↓g_87_17, ↓l_96, ↓s_96, ↓n_96, ↓g_87_18, ↓l_97, ↓s_97, ↓n_97, ↓g_87_19, ↓p_87_19, ↓g_87_20, ↓p_87_20, ↓g_87_21, ↓l_98, ↓s_98, ↓n_98, ↓g_87_22, ↓l_99, ↓s_99, ↓n_99, ↓g_87_23, ↓l_100, ↓s_100, ↓n_100, ↓g_87_24, ↓l_101, ↓s_101, ↓n_101, zr_rg, h1, zr8_rg, h1, zr8_zr, zr_zbo, zbo_eq0]
    refine ⟨fun c => ?_, fun c => J16 (by omega)⟩
    exact pub_no hC (by unfold R_text; rw [if_neg (by omega)]) rfl
def C_text : ZC := C_text9 0
def B_text (u : Int) (M : Nat → Nat → Int) (post : Option ZV → (Nat → Nat → Int) → Prop) : Prop := B_text9 0 u M post
theorem r_text {u : Int} {M : Nat → Nat → Int} {post : Option ZV → ZH → Prop} : C_text [.inr (.inr (.inl 87)), .inl u] (zG, M) post = B_text u M (fun v M => post v (zG, M)) := r_text9
theorem c_text {E : ZE} {d : Nat} (h : 46 ≤ d) : zMet E d mX11_text C_text := c_text9 (r := 0) (by omega) ⟨45, by omega, c_rds (r := 0) (by omega) ⟨44, by omega, c_reiA (by omega)⟩⟩
-- known: text X11_text 46 r:87 i:u
