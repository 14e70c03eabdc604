/-! THE REFERENCE: voices -/
def k_X11_ran_0 : List ZI := [(.aload_n 0, 1, (0, [0], [])), (.getfield 295, 3, (0, [11, 19], [])), (.bipush 40, 2, (0, [], [])), (.if_icmp .ge 23, 3, (0, [29], [])), (.aload_n 0, 1, (0, [0], [])), (.getfield 41, 3, (0, [11, 18], [])), (.aload_n 0, 1, (0, [0], [])), (.getfield 295, 3, (0, [11, 19], [])), (.iload_n 1, 1, (0, [1], [])), (.iastore, 1, (0, [], [])), (.aload_n 0, 1, (0, [0], [])), (.dup, 1, (0, [], [])), (.getfield 295, 3, (0, [11, 19], [])), (.iconst 1, 1, (0, [], [])), (.iadd, 1, (0, [], [])), (.putfield 295, 3, (0, [11, 19], []))]
theorem ok_X11_ran_0 : zOK cX11_ran 11 false 2 k_X11_ran_0 0 = true := zOK_by (by decide +kernel)
def k_X11_ran_29 : List ZI := [(.return_, 1, (0, [], []))]
theorem ok_X11_ran_29 : zOK cX11_ran 11 false 2 k_X11_ran_29 29 = true := zOK_by (by decide +kernel)
theorem rt_X11_ran {g : Nat} {post : Option ZV → ZH → Prop} {h : ZH} {b : ZB2} : zRt mX11_ran g post none h b = (post none h ∧ h.1.length = g) := by show (_ ∧ _ ∧ True) = _; simp
def bk_X11_ran_29 (E : ZE) (CT : Nat → ZC) (X : ZK) (Rt : ZR) (ls : ZL) (st : List ZV) (h : ZH) (b : ZB2) : Prop := zB E CT k_X11_ran_29 29 ls st h b (fun t ls st h b => X t ls st h b) Rt
theorem bs_X11_ran_29 {E : ZE} {CT : Nat → ZC} {X : ZK} {Rt : ZR} {ls : ZL} {st : List ZV} {h : ZH} {b : ZB2} (hX : zCl E mX11_ran 11 false CT Rt X) (q : bk_X11_ran_29 E CT X Rt ls st h b) : X 29 ls st h b := by
  refine hX k_X11_ran_29 29 ok_X11_ran_29 _ ?_ ls st h b q
  exact fun t ls st h b q => q
def bk_X11_ran_0 (E : ZE) (CT : Nat → ZC) (X : ZK) (Rt : ZR) (ls : ZL) (st : List ZV) (h : ZH) (b : ZB2) : Prop := zB E CT k_X11_ran_0 0 ls st h b (fun t ls st h b => if t = 29 then bk_X11_ran_29 E CT X Rt ls st h b else X t ls st h b) Rt
theorem bs_X11_ran_0 {E : ZE} {CT : Nat → ZC} {X : ZK} {Rt : ZR} {ls : ZL} {st : List ZV} {h : ZH} {b : ZB2} (hX : zCl E mX11_ran 11 false CT Rt X) (q : bk_X11_ran_0 E CT X Rt ls st h b) : X 0 ls st h b := by
  refine hX k_X11_ran_0 0 ok_X11_ran_0 _ ?_ ls st h b q
  exact by
    intro t ls st h b q
    by_cases c : t = 29
    · subst c; rw [if_pos rfl] at q; exact bs_X11_ran_29 hX q
    rw [if_neg c] at q
    exact q
-- X11_ran: cuts []
def k_X11_knocksBy_0 : List ZI := [(.iload_n 1, 1, (0, [1], [])), (.lookupswitch 58 #[(0, 27), (1, 40)], 27, (0, [59], [(0, 28), (1, 41)]))]
theorem ok_X11_knocksBy_0 : zOK cX11_knocksBy 11 false 3 k_X11_knocksBy_0 0 = true := zOK_by (by decide +kernel)
def k_X11_knocksBy_28 : List ZI := [(.aload_n 0, 1, (0, [0], [])), (.bipush 10, 2, (0, [], [])), (.invokevirtual 298, 3, (0, [203, 2, 0, 11], [])), (.iload_n 2, 1, (0, [2], [])), (.aload_n 0, 1, (0, [0], [])), (.getfield 301, 3, (0, [11, 20], [])), (.iadd, 1, (0, [], [])), (.ireturn, 1, (0, [], []))]
theorem ok_X11_knocksBy_28 : zOK cX11_knocksBy 11 false 3 k_X11_knocksBy_28 28 = true := zOK_by (by decide +kernel)
def k_X11_knocksBy_41 : List ZI := [(.aload_n 0, 1, (0, [0], [])), (.bipush 20, 2, (0, [], [])), (.invokevirtual 298, 3, (0, [203, 2, 0, 11], [])), (.aload_n 0, 1, (0, [0], [])), (.iconst 1, 1, (0, [], [])), (.invokestatic 237, 3, (0, [128, 1, 0, 11], [])), (.iload_n 2, 1, (0, [2], [])), (.invokevirtual 304, 3, (0, [204, 3, 0, 11], [])), (.iconst 3, 1, (0, [], [])), (.imul, 1, (0, [], [])), (.ireturn, 1, (0, [], []))]
theorem ok_X11_knocksBy_41 : zOK cX11_knocksBy 11 false 3 k_X11_knocksBy_41 41 = true := zOK_by (by decide +kernel)
def k_X11_knocksBy_59 : List ZI := [(.aload_n 0, 1, (0, [0], [])), (.iload_n 1, 1, (0, [1], [])), (.invokestatic 237, 3, (0, [128, 1, 0, 11], [])), (.iload_n 2, 1, (0, [2], [])), (.invokevirtual 304, 3, (0, [204, 3, 0, 11], [])), (.ireturn, 1, (0, [], []))]
theorem ok_X11_knocksBy_59 : zOK cX11_knocksBy 11 false 3 k_X11_knocksBy_59 59 = true := zOK_by (by decide +kernel)
theorem rt_X11_knocksBy {g : Nat} {post : Option ZV → ZH → Prop} {h : ZH} {b : ZB2} {z : Int} : zRt mX11_knocksBy g post (some (.inl z)) h b = (post (some (.inl z)) h ∧ h.1.length = g) := by show (_ ∧ _ ∧ True) = _; simp
def bk_X11_knocksBy_0 (E : ZE) (CT : Nat → ZC) (X : ZK) (Rt : ZR) (ls : ZL) (st : List ZV) (h : ZH) (b : ZB2) : Prop := zB E CT k_X11_knocksBy_0 0 ls st h b (fun t ls st h b => X t ls st h b) Rt
theorem bs_X11_knocksBy_0 {E : ZE} {CT : Nat → ZC} {X : ZK} {Rt : ZR} {ls : ZL} {st : List ZV} {h : ZH} {b : ZB2} (hX : zCl E mX11_knocksBy 11 false CT Rt X) (q : bk_X11_knocksBy_0 E CT X Rt ls st h b) : X 0 ls st h b := by
  refine hX k_X11_knocksBy_0 0 ok_X11_knocksBy_0 _ ?_ ls st h b q
  exact fun t ls st h b q => q
def bk_X11_knocksBy_28 (E : ZE) (CT : Nat → ZC) (X : ZK) (Rt : ZR) (ls : ZL) (st : List ZV) (h : ZH) (b : ZB2) : Prop := zB E CT k_X11_knocksBy_28 28 ls st h b (fun t ls st h b => X t ls st h b) Rt
theorem bs_X11_knocksBy_28 {E : ZE} {CT : Nat → ZC} {X : ZK} {Rt : ZR} {ls : ZL} {st : List ZV} {h : ZH} {b : ZB2} (hX : zCl E mX11_knocksBy 11 false CT Rt X) (q : bk_X11_knocksBy_28 E CT X Rt ls st h b) : X 28 ls st h b := by
  refine hX k_X11_knocksBy_28 28 ok_X11_knocksBy_28 _ ?_ ls st h b q
  exact fun t ls st h b q => q
def bk_X11_knocksBy_41 (E : ZE) (CT : Nat → ZC) (X : ZK) (Rt : ZR) (ls : ZL) (st : List ZV) (h : ZH) (b : ZB2) : Prop := zB E CT k_X11_knocksBy_41 41 ls st h b (fun t ls st h b => X t ls st h b) Rt
theorem bs_X11_knocksBy_41 {E : ZE} {CT : Nat → ZC} {X : ZK} {Rt : ZR} {ls : ZL} {st : List ZV} {h : ZH} {b : ZB2} (hX : zCl E mX11_knocksBy 11 false CT Rt X) (q : bk_X11_knocksBy_41 E CT X Rt ls st h b) : X 41 ls st h b := by
  refine hX k_X11_knocksBy_41 41 ok_X11_knocksBy_41 _ ?_ ls st h b q
  exact fun t ls st h b q => q
def bk_X11_knocksBy_59 (E : ZE) (CT : Nat → ZC) (X : ZK) (Rt : ZR) (ls : ZL) (st : List ZV) (h : ZH) (b : ZB2) : Prop := zB E CT k_X11_knocksBy_59 59 ls st h b (fun t ls st h b => X t ls st h b) Rt
theorem bs_X11_knocksBy_59 {E : ZE} {CT : Nat → ZC} {X : ZK} {Rt : ZR} {ls : ZL} {st : List ZV} {h : ZH} {b : ZB2} (hX : zCl E mX11_knocksBy 11 false CT Rt X) (q : bk_X11_knocksBy_59 E CT X Rt ls st h b) : X 59 ls st h b := by
  refine hX k_X11_knocksBy_59 59 ok_X11_knocksBy_59 _ ?_ ls st h b q
  exact fun t ls st h b q => q
-- X11_knocksBy: cuts [28, 41, 59]
def k_X11_hearsBy_0 : List ZI := [(.iconst 0, 1, (0, [], [])), (.istore_n 3, 1, (0, [3], [])), (.iload_n 1, 1, (0, [1], [])), (.lookupswitch 107 #[(0, 33), (2, 56), (5, 89)], 33, (0, [110], [(0, 36), (2, 59), (5, 92)]))]
theorem ok_X11_hearsBy_0 : zOK cX11_hearsBy 11 false 4 k_X11_hearsBy_0 0 = true := zOK_by (by decide +kernel)
def k_X11_hearsBy_36 : List ZI := [(.aload_n 0, 1, (0, [0], [])), (.bipush 11, 2, (0, [], [])), (.invokevirtual 298, 3, (0, [203, 2, 0, 11], [])), (.aload_n 0, 1, (0, [0], [])), (.aload_n 0, 1, (0, [0], [])), (.aload_n 0, 1, (0, [0], [])), (.getfield 301, 3, (0, [11, 20], [])), (.iconst 0, 1, (0, [], [])), (.invokevirtual 167, 3, (0, [126, 3, 0, 11], [])), (.iload_n 2, 1, (0, [2], [])), (.invokevirtual 304, 3, (0, [204, 3, 0, 11], [])), (.iconst 2, 1, (0, [], [])), (.imul, 1, (0, [], [])), (.ireturn, 1, (0, [], []))]
theorem ok_X11_hearsBy_36 : zOK cX11_hearsBy 11 false 4 k_X11_hearsBy_36 36 = true := zOK_by (by decide +kernel)
def k_X11_hearsBy_59 : List ZI := [(.aload_n 0, 1, (0, [0], [])), (.bipush 30, 2, (0, [], [])), (.invokevirtual 298, 3, (0, [203, 2, 0, 11], [])), (.aload_n 0, 1, (0, [0], [])), (.iconst 2, 1, (0, [], [])), (.invokestatic 237, 3, (0, [128, 1, 0, 11], [])), (.iload_n 2, 1, (0, [2], [])), (.invokevirtual 307, 3, (0, [205, 3, 0, 11], [])), (.istore_n 3, 1, (0, [3], [])), (.iload_n 3, 1, (0, [3], [])), (.aload_n 0, 1, (0, [0], [])), (.aload_n 0, 1, (0, [0], [])), (.aload_n 0, 1, (0, [0], [])), (.getfield 301, 3, (0, [11, 20], [])), (.iconst 0, 1, (0, [], [])), (.invokevirtual 167, 3, (0, [126, 3, 0, 11], [])), (.iconst 1, 1, (0, [], [])), (.invokevirtual 310, 3, (0, [206, 3, 0, 11], [])), (.isub, 1, (0, [], [])), (.ireturn, 1, (0, [], []))]
theorem ok_X11_hearsBy_59 : zOK cX11_hearsBy 11 false 4 k_X11_hearsBy_59 59 = true := zOK_by (by decide +kernel)
def k_X11_hearsBy_92 : List ZI := [(.aload_n 0, 1, (0, [0], [])), (.bipush 60, 2, (0, [], [])), (.invokevirtual 298, 3, (0, [203, 2, 0, 11], [])), (.aload_n 0, 1, (0, [0], [])), (.iconst 5, 1, (0, [], [])), (.invokestatic 237, 3, (0, [128, 1, 0, 11], [])), (.iload_n 2, 1, (0, [2], [])), (.iconst 1, 1, (0, [], [])), (.iadd, 1, (0, [], [])), (.invokevirtual 307, 3, (0, [205, 3, 0, 11], [])), (.ireturn, 1, (0, [], []))]
theorem ok_X11_hearsBy_92 : zOK cX11_hearsBy 11 false 4 k_X11_hearsBy_92 92 = true := zOK_by (by decide +kernel)
def k_X11_hearsBy_110 : List ZI := [(.aload_n 0, 1, (0, [0], [])), (.iload_n 1, 1, (0, [1], [])), (.invokestatic 237, 3, (0, [128, 1, 0, 11], [])), (.iload_n 2, 1, (0, [2], [])), (.invokevirtual 307, 3, (0, [205, 3, 0, 11], [])), (.ireturn, 1, (0, [], []))]
theorem ok_X11_hearsBy_110 : zOK cX11_hearsBy 11 false 4 k_X11_hearsBy_110 110 = true := zOK_by (by decide +kernel)
theorem rt_X11_hearsBy {g : Nat} {post : Option ZV → ZH → Prop} {h : ZH} {b : ZB2} {z : Int} : zRt mX11_hearsBy g post (some (.inl z)) h b = (post (some (.inl z)) h ∧ h.1.length = g) := by show (_ ∧ _ ∧ True) = _; simp
def bk_X11_hearsBy_0 (E : ZE) (CT : Nat → ZC) (X : ZK) (Rt : ZR) (ls : ZL) (st : List ZV) (h : ZH) (b : ZB2) : Prop := zB E CT k_X11_hearsBy_0 0 ls st h b (fun t ls st h b => X t ls st h b) Rt
theorem bs_X11_hearsBy_0 {E : ZE} {CT : Nat → ZC} {X : ZK} {Rt : ZR} {ls : ZL} {st : List ZV} {h : ZH} {b : ZB2} (hX : zCl E mX11_hearsBy 11 false CT Rt X) (q : bk_X11_hearsBy_0 E CT X Rt ls st h b) : X 0 ls st h b := by
  refine hX k_X11_hearsBy_0 0 ok_X11_hearsBy_0 _ ?_ ls st h b q
  exact fun t ls st h b q => q
def bk_X11_hearsBy_36 (E : ZE) (CT : Nat → ZC) (X : ZK) (Rt : ZR) (ls : ZL) (st : List ZV) (h : ZH) (b : ZB2) : Prop := zB E CT k_X11_hearsBy_36 36 ls st h b (fun t ls st h b => X t ls st h b) Rt
theorem bs_X11_hearsBy_36 {E : ZE} {CT : Nat → ZC} {X : ZK} {Rt : ZR} {ls : ZL} {st : List ZV} {h : ZH} {b : ZB2} (hX : zCl E mX11_hearsBy 11 false CT Rt X) (q : bk_X11_hearsBy_36 E CT X Rt ls st h b) : X 36 ls st h b := by
  refine hX k_X11_hearsBy_36 36 ok_X11_hearsBy_36 _ ?_ ls st h b q
  exact fun t ls st h b q => q
def bk_X11_hearsBy_59 (E : ZE) (CT : Nat → ZC) (X : ZK) (Rt : ZR) (ls : ZL) (st : List ZV) (h : ZH) (b : ZB2) : Prop := zB E CT k_X11_hearsBy_59 59 ls st h b (fun t ls st h b => X t ls st h b) Rt
theorem bs_X11_hearsBy_59 {E : ZE} {CT : Nat → ZC} {X : ZK} {Rt : ZR} {ls : ZL} {st : List ZV} {h : ZH} {b : ZB2} (hX : zCl E mX11_hearsBy 11 false CT Rt X) (q : bk_X11_hearsBy_59 E CT X Rt ls st h b) : X 59 ls st h b := by
  refine hX k_X11_hearsBy_59 59 ok_X11_hearsBy_59 _ ?_ ls st h b q
  exact fun t ls st h b q => q
def bk_X11_hearsBy_92 (E : ZE) (CT : Nat → ZC) (X : ZK) (Rt : ZR) (ls : ZL) (st : List ZV) (h : ZH) (b : ZB2) : Prop := zB E CT k_X11_hearsBy_92 92 ls st h b (fun t ls st h b => X t ls st h b) Rt
theorem bs_X11_hearsBy_92 {E : ZE} {CT : Nat → ZC} {X : ZK} {Rt : ZR} {ls : ZL} {st : List ZV} {h : ZH} {b : ZB2} (hX : zCl E mX11_hearsBy 11 false CT Rt X) (q : bk_X11_hearsBy_92 E CT X Rt ls st h b) : X 92 ls st h b := by
  refine hX k_X11_hearsBy_92 92 ok_X11_hearsBy_92 _ ?_ ls st h b q
  exact fun t ls st h b q => q
def bk_X11_hearsBy_110 (E : ZE) (CT : Nat → ZC) (X : ZK) (Rt : ZR) (ls : ZL) (st : List ZV) (h : ZH) (b : ZB2) : Prop := zB E CT k_X11_hearsBy_110 110 ls st h b (fun t ls st h b => X t ls st h b) Rt
theorem bs_X11_hearsBy_110 {E : ZE} {CT : Nat → ZC} {X : ZK} {Rt : ZR} {ls : ZL} {st : List ZV} {h : ZH} {b : ZB2} (hX : zCl E mX11_hearsBy 11 false CT Rt X) (q : bk_X11_hearsBy_110 E CT X Rt ls st h b) : X 110 ls st h b := by
  refine hX k_X11_hearsBy_110 110 ok_X11_hearsBy_110 _ ?_ ls st h b q
  exact fun t ls st h b q => q
-- X11_hearsBy: cuts [36, 59, 92, 110]
def k_X11_digsBy_0 : List ZI := [(.iload_n 1, 1, (0, [1], [])), (.lookupswitch 92 #[(0, 35), (3, 53), (6, 70)], 35, (0, [93], [(0, 36), (3, 54), (6, 71)]))]
theorem ok_X11_digsBy_0 : zOK cX11_digsBy 11 false 3 k_X11_digsBy_0 0 = true := zOK_by (by decide +kernel)
def k_X11_digsBy_36 : List ZI := [(.aload_n 0, 1, (0, [0], [])), (.bipush 12, 2, (0, [], [])), (.invokevirtual 298, 3, (0, [203, 2, 0, 11], [])), (.iload_n 2, 1, (0, [2], [])), (.aload_n 0, 1, (0, [0], [])), (.aload_n 0, 1, (0, [0], [])), (.getfield 301, 3, (0, [11, 20], [])), (.iconst 1, 1, (0, [], [])), (.invokevirtual 167, 3, (0, [126, 3, 0, 11], [])), (.isub, 1, (0, [], [])), (.ireturn, 1, (0, [], []))]
theorem ok_X11_digsBy_36 : zOK cX11_digsBy 11 false 3 k_X11_digsBy_36 36 = true := zOK_by (by decide +kernel)
def k_X11_digsBy_54 : List ZI := [(.aload_n 0, 1, (0, [0], [])), (.bipush 40, 2, (0, [], [])), (.invokevirtual 298, 3, (0, [203, 2, 0, 11], [])), (.aload_n 0, 1, (0, [0], [])), (.iconst 3, 1, (0, [], [])), (.invokestatic 237, 3, (0, [128, 1, 0, 11], [])), (.iload_n 2, 1, (0, [2], [])), (.invokevirtual 310, 3, (0, [206, 3, 0, 11], [])), (.ineg, 1, (0, [], [])), (.ireturn, 1, (0, [], []))]
theorem ok_X11_digsBy_54 : zOK cX11_digsBy 11 false 3 k_X11_digsBy_54 54 = true := zOK_by (by decide +kernel)
def k_X11_digsBy_71 : List ZI := [(.aload_n 0, 1, (0, [0], [])), (.bipush 70, 2, (0, [], [])), (.invokevirtual 298, 3, (0, [203, 2, 0, 11], [])), (.aload_n 0, 1, (0, [0], [])), (.bipush 6, 2, (0, [], [])), (.invokestatic 237, 3, (0, [128, 1, 0, 11], [])), (.iload_n 2, 1, (0, [2], [])), (.invokevirtual 310, 3, (0, [206, 3, 0, 11], [])), (.aload_n 0, 1, (0, [0], [])), (.getfield 301, 3, (0, [11, 20], [])), (.ixor, 1, (0, [], [])), (.ireturn, 1, (0, [], []))]
theorem ok_X11_digsBy_71 : zOK cX11_digsBy 11 false 3 k_X11_digsBy_71 71 = true := zOK_by (by decide +kernel)
def k_X11_digsBy_93 : List ZI := [(.aload_n 0, 1, (0, [0], [])), (.iload_n 1, 1, (0, [1], [])), (.invokestatic 237, 3, (0, [128, 1, 0, 11], [])), (.iload_n 2, 1, (0, [2], [])), (.invokevirtual 310, 3, (0, [206, 3, 0, 11], [])), (.ireturn, 1, (0, [], []))]
theorem ok_X11_digsBy_93 : zOK cX11_digsBy 11 false 3 k_X11_digsBy_93 93 = true := zOK_by (by decide +kernel)
theorem rt_X11_digsBy {g : Nat} {post : Option ZV → ZH → Prop} {h : ZH} {b : ZB2} {z : Int} : zRt mX11_digsBy g post (some (.inl z)) h b = (post (some (.inl z)) h ∧ h.1.length = g) := by show (_ ∧ _ ∧ True) = _; simp
def bk_X11_digsBy_0 (E : ZE) (CT : Nat → ZC) (X : ZK) (Rt : ZR) (ls : ZL) (st : List ZV) (h : ZH) (b : ZB2) : Prop := zB E CT k_X11_digsBy_0 0 ls st h b (fun t ls st h b => X t ls st h b) Rt
theorem bs_X11_digsBy_0 {E : ZE} {CT : Nat → ZC} {X : ZK} {Rt : ZR} {ls : ZL} {st : List ZV} {h : ZH} {b : ZB2} (hX : zCl E mX11_digsBy 11 false CT Rt X) (q : bk_X11_digsBy_0 E CT X Rt ls st h b) : X 0 ls st h b := by
  refine hX k_X11_digsBy_0 0 ok_X11_digsBy_0 _ ?_ ls st h b q
  exact fun t ls st h b q => q
def bk_X11_digsBy_36 (E : ZE) (CT : Nat → ZC) (X : ZK) (Rt : ZR) (ls : ZL) (st : List ZV) (h : ZH) (b : ZB2) : Prop := zB E CT k_X11_digsBy_36 36 ls st h b (fun t ls st h b => X t ls st h b) Rt
theorem bs_X11_digsBy_36 {E : ZE} {CT : Nat → ZC} {X : ZK} {Rt : ZR} {ls : ZL} {st : List ZV} {h : ZH} {b : ZB2} (hX : zCl E mX11_digsBy 11 false CT Rt X) (q : bk_X11_digsBy_36 E CT X Rt ls st h b) : X 36 ls st h b := by
  refine hX k_X11_digsBy_36 36 ok_X11_digsBy_36 _ ?_ ls st h b q
  exact fun t ls st h b q => q
def bk_X11_digsBy_54 (E : ZE) (CT : Nat → ZC) (X : ZK) (Rt : ZR) (ls : ZL) (st : List ZV) (h : ZH) (b : ZB2) : Prop := zB E CT k_X11_digsBy_54 54 ls st h b (fun t ls st h b => X t ls st h b) Rt
theorem bs_X11_digsBy_54 {E : ZE} {CT : Nat → ZC} {X : ZK} {Rt : ZR} {ls : ZL} {st : List ZV} {h : ZH} {b : ZB2} (hX : zCl E mX11_digsBy 11 false CT Rt X) (q : bk_X11_digsBy_54 E CT X Rt ls st h b) : X 54 ls st h b := by
  refine hX k_X11_digsBy_54 54 ok_X11_digsBy_54 _ ?_ ls st h b q
  exact fun t ls st h b q => q
def bk_X11_digsBy_71 (E : ZE) (CT : Nat → ZC) (X : ZK) (Rt : ZR) (ls : ZL) (st : List ZV) (h : ZH) (b : ZB2) : Prop := zB E CT k_X11_digsBy_71 71 ls st h b (fun t ls st h b => X t ls st h b) Rt
theorem bs_X11_digsBy_71 {E : ZE} {CT : Nat → ZC} {X : ZK} {Rt : ZR} {ls : ZL} {st : List ZV} {h : ZH} {b : ZB2} (hX : zCl E mX11_digsBy 11 false CT Rt X) (q : bk_X11_digsBy_71 E CT X Rt ls st h b) : X 71 ls st h b := by
  refine hX k_X11_digsBy_71 71 ok_X11_digsBy_71 _ ?_ ls st h b q
  exact fun t ls st h b q => q
def bk_X11_digsBy_93 (E : ZE) (CT : Nat → ZC) (X : ZK) (Rt : ZR) (ls : ZL) (st : List ZV) (h : ZH) (b : ZB2) : Prop := zB E CT k_X11_digsBy_93 93 ls st h b (fun t ls st h b => X t ls st h b) Rt
theorem bs_X11_digsBy_93 {E : ZE} {CT : Nat → ZC} {X : ZK} {Rt : ZR} {ls : ZL} {st : List ZV} {h : ZH} {b : ZB2} (hX : zCl E mX11_digsBy 11 false CT Rt X) (q : bk_X11_digsBy_93 E CT X Rt ls st h b) : X 93 ls st h b := by
  refine hX k_X11_digsBy_93 93 ok_X11_digsBy_93 _ ?_ ls st h b q
  exact fun t ls st h b q => q
-- X11_digsBy: cuts [36, 54, 71, 93]
def k_X11_tellsBy_0 : List ZI := [(.iconst 0, 1, (0, [], [])), (.istore_n 3, 1, (0, [3], [])), (.iload_n 1, 1, (0, [1], [])), (.lookupswitch 138 #[(0, 33), (4, 71), (6, 104)], 33, (0, [141], [(0, 36), (4, 74), (6, 107)]))]
theorem ok_X11_tellsBy_0 : zOK cX11_tellsBy 11 false 4 k_X11_tellsBy_0 0 = true := zOK_by (by decide +kernel)
def k_X11_tellsBy_36 : List ZI := [(.aload_n 0, 1, (0, [0], [])), (.bipush 13, 2, (0, [], [])), (.invokevirtual 298, 3, (0, [203, 2, 0, 11], [])), (.aload_n 0, 1, (0, [0], [])), (.aload_n 0, 1, (0, [0], [])), (.aload_n 0, 1, (0, [0], [])), (.getfield 301, 3, (0, [11, 20], [])), (.iconst 0, 1, (0, [], [])), (.invokevirtual 167, 3, (0, [126, 3, 0, 11], [])), (.iload_n 2, 1, (0, [2], [])), (.invokevirtual 307, 3, (0, [205, 3, 0, 11], [])), (.istore_n 3, 1, (0, [3], [])), (.iload_n 3, 1, (0, [3], [])), (.aload_n 0, 1, (0, [0], [])), (.aload_n 0, 1, (0, [0], [])), (.aload_n 0, 1, (0, [0], [])), (.getfield 301, 3, (0, [11, 20], [])), (.iconst 0, 1, (0, [], [])), (.invokevirtual 167, 3, (0, [126, 3, 0, 11], [])), (.iload_n 2, 1, (0, [2], [])), (.invokevirtual 310, 3, (0, [206, 3, 0, 11], [])), (.ixor, 1, (0, [], [])), (.ireturn, 1, (0, [], []))]
theorem ok_X11_tellsBy_36 : zOK cX11_tellsBy 11 false 4 k_X11_tellsBy_36 36 = true := zOK_by (by decide +kernel)
def k_X11_tellsBy_74 : List ZI := [(.aload_n 0, 1, (0, [0], [])), (.bipush 50, 2, (0, [], [])), (.invokevirtual 298, 3, (0, [203, 2, 0, 11], [])), (.aload_n 0, 1, (0, [0], [])), (.iconst 4, 1, (0, [], [])), (.invokestatic 237, 3, (0, [128, 1, 0, 11], [])), (.iload_n 2, 1, (0, [2], [])), (.invokevirtual 313, 3, (0, [207, 3, 0, 11], [])), (.istore_n 3, 1, (0, [3], [])), (.iload_n 3, 1, (0, [3], [])), (.aload_n 0, 1, (0, [0], [])), (.aload_n 0, 1, (0, [0], [])), (.aload_n 0, 1, (0, [0], [])), (.getfield 301, 3, (0, [11, 20], [])), (.iconst 0, 1, (0, [], [])), (.invokevirtual 167, 3, (0, [126, 3, 0, 11], [])), (.iconst 2, 1, (0, [], [])), (.invokevirtual 304, 3, (0, [204, 3, 0, 11], [])), (.isub, 1, (0, [], [])), (.ireturn, 1, (0, [], []))]
theorem ok_X11_tellsBy_74 : zOK cX11_tellsBy 11 false 4 k_X11_tellsBy_74 74 = true := zOK_by (by decide +kernel)
def k_X11_tellsBy_107 : List ZI := [(.aload_n 0, 1, (0, [0], [])), (.bipush 71, 2, (0, [], [])), (.invokevirtual 298, 3, (0, [203, 2, 0, 11], [])), (.aload_n 0, 1, (0, [0], [])), (.aload_n 0, 1, (0, [0], [])), (.aload_n 0, 1, (0, [0], [])), (.getfield 301, 3, (0, [11, 20], [])), (.iconst 0, 1, (0, [], [])), (.invokevirtual 167, 3, (0, [126, 3, 0, 11], [])), (.iload_n 2, 1, (0, [2], [])), (.invokevirtual 307, 3, (0, [205, 3, 0, 11], [])), (.istore_n 3, 1, (0, [3], [])), (.iload_n 3, 1, (0, [3], [])), (.aload_n 0, 1, (0, [0], [])), (.bipush 6, 2, (0, [], [])), (.invokestatic 237, 3, (0, [128, 1, 0, 11], [])), (.iload_n 2, 1, (0, [2], [])), (.invokevirtual 313, 3, (0, [207, 3, 0, 11], [])), (.isub, 1, (0, [], [])), (.ireturn, 1, (0, [], []))]
theorem ok_X11_tellsBy_107 : zOK cX11_tellsBy 11 false 4 k_X11_tellsBy_107 107 = true := zOK_by (by decide +kernel)
def k_X11_tellsBy_141 : List ZI := [(.aload_n 0, 1, (0, [0], [])), (.iload_n 1, 1, (0, [1], [])), (.invokestatic 237, 3, (0, [128, 1, 0, 11], [])), (.iload_n 2, 1, (0, [2], [])), (.invokevirtual 313, 3, (0, [207, 3, 0, 11], [])), (.ireturn, 1, (0, [], []))]
theorem ok_X11_tellsBy_141 : zOK cX11_tellsBy 11 false 4 k_X11_tellsBy_141 141 = true := zOK_by (by decide +kernel)
theorem rt_X11_tellsBy {g : Nat} {post : Option ZV → ZH → Prop} {h : ZH} {b : ZB2} {z : Int} : zRt mX11_tellsBy g post (some (.inl z)) h b = (post (some (.inl z)) h ∧ h.1.length = g) := by show (_ ∧ _ ∧ True) = _; simp
def bk_X11_tellsBy_0 (E : ZE) (CT : Nat → ZC) (X : ZK) (Rt : ZR) (ls : ZL) (st : List ZV) (h : ZH) (b : ZB2) : Prop := zB E CT k_X11_tellsBy_0 0 ls st h b (fun t ls st h b => X t ls st h b) Rt
theorem bs_X11_tellsBy_0 {E : ZE} {CT : Nat → ZC} {X : ZK} {Rt : ZR} {ls : ZL} {st : List ZV} {h : ZH} {b : ZB2} (hX : zCl E mX11_tellsBy 11 false CT Rt X) (q : bk_X11_tellsBy_0 E CT X Rt ls st h b) : X 0 ls st h b := by
  refine hX k_X11_tellsBy_0 0 ok_X11_tellsBy_0 _ ?_ ls st h b q
  exact fun t ls st h b q => q
def bk_X11_tellsBy_36 (E : ZE) (CT : Nat → ZC) (X : ZK) (Rt : ZR) (ls : ZL) (st : List ZV) (h : ZH) (b : ZB2) : Prop := zB E CT k_X11_tellsBy_36 36 ls st h b (fun t ls st h b => X t ls st h b) Rt
theorem bs_X11_tellsBy_36 {E : ZE} {CT : Nat → ZC} {X : ZK} {Rt : ZR} {ls : ZL} {st : List ZV} {h : ZH} {b : ZB2} (hX : zCl E mX11_tellsBy 11 false CT Rt X) (q : bk_X11_tellsBy_36 E CT X Rt ls st h b) : X 36 ls st h b := by
  refine hX k_X11_tellsBy_36 36 ok_X11_tellsBy_36 _ ?_ ls st h b q
  exact fun t ls st h b q => q
def bk_X11_tellsBy_74 (E : ZE) (CT : Nat → ZC) (X : ZK) (Rt : ZR) (ls : ZL) (st : List ZV) (h : ZH) (b : ZB2) : Prop := zB E CT k_X11_tellsBy_74 74 ls st h b (fun t ls st h b => X t ls st h b) Rt
theorem bs_X11_tellsBy_74 {E : ZE} {CT : Nat → ZC} {X : ZK} {Rt : ZR} {ls : ZL} {st : List ZV} {h : ZH} {b : ZB2} (hX : zCl E mX11_tellsBy 11 false CT Rt X) (q : bk_X11_tellsBy_74 E CT X Rt ls st h b) : X 74 ls st h b := by
  refine hX k_X11_tellsBy_74 74 ok_X11_tellsBy_74 _ ?_ ls st h b q
  exact fun t ls st h b q => q
def bk_X11_tellsBy_107 (E : ZE) (CT : Nat → ZC) (X : ZK) (Rt : ZR) (ls : ZL) (st : List ZV) (h : ZH) (b : ZB2) : Prop := zB E CT k_X11_tellsBy_107 107 ls st h b (fun t ls st h b => X t ls st h b) Rt
theorem bs_X11_tellsBy_107 {E : ZE} {CT : Nat → ZC} {X : ZK} {Rt : ZR} {ls : ZL} {st : List ZV} {h : ZH} {b : ZB2} (hX : zCl E mX11_tellsBy 11 false CT Rt X) (q : bk_X11_tellsBy_107 E CT X Rt ls st h b) : X 107 ls st h b := by
  refine hX k_X11_tellsBy_107 107 ok_X11_tellsBy_107 _ ?_ ls st h b q
  exact fun t ls st h b q => q
def bk_X11_tellsBy_141 (E : ZE) (CT : Nat → ZC) (X : ZK) (Rt : ZR) (ls : ZL) (st : List ZV) (h : ZH) (b : ZB2) : Prop := zB E CT k_X11_tellsBy_141 141 ls st h b (fun t ls st h b => X t ls st h b) Rt
theorem bs_X11_tellsBy_141 {E : ZE} {CT : Nat → ZC} {X : ZK} {Rt : ZR} {ls : ZL} {st : List ZV} {h : ZH} {b : ZB2} (hX : zCl E mX11_tellsBy 11 false CT Rt X) (q : bk_X11_tellsBy_141 E CT X Rt ls st h b) : X 141 ls st h b := by
  refine hX k_X11_tellsBy_141 141 ok_X11_tellsBy_141 _ ?_ ls st h b q
  exact fun t ls st h b q => q
-- X11_tellsBy: cuts [36, 74, 107, 141]
def k_X11_voice_0 : List ZI := [(.aload_n 0, 1, (0, [0], [])), (.iload_n 1, 1, (0, [1], [])), (.invokevirtual 230, 3, (0, [123, 2, 0, 11], [])), (.ifCond .eq 15, 3, (0, [20], []))]
theorem ok_X11_voice_0 : zOK cX11_voice 11 false 5 k_X11_voice_0 0 = true := zOK_by (by decide +kernel)
def k_X11_voice_8 : List ZI := [(.iload_n 2, 1, (0, [2], [])), (.i2l, 1, (0, [], [])), (.lconst 0, 1, (0, [], [])), (.ldc2_w 283, 3, (3, [], [])), (.invokestatic 61, 3, (0, [120, 3, 0, 11], [])), (.ifCond .ne 9, 3, (0, [26], []))]
theorem ok_X11_voice_8 : zOK cX11_voice 11 false 5 k_X11_voice_8 8 = true := zOK_by (by decide +kernel)
def k_X11_voice_20 : List ZI := [(.aload_n 0, 1, (0, [0], [])), (.iconst 1, 1, (0, [], [])), (.invokevirtual 139, 3, (0, [119, 2, 0, 11], [])), (.ireturn, 1, (0, [], []))]
theorem ok_X11_voice_20 : zOK cX11_voice 11 false 5 k_X11_voice_20 20 = true := zOK_by (by decide +kernel)
def k_X11_voice_26 : List ZI := [(.aload_n 0, 1, (0, [0], [])), (.iload_n 1, 1, (0, [1], [])), (.putfield 301, 3, (0, [11, 20], [])), (.aload_n 0, 1, (0, [0], [])), (.iconst 0, 1, (0, [], [])), (.putfield 295, 3, (0, [11, 19], [])), (.aload_n 0, 1, (0, [0], [])), (.aload_n 0, 1, (0, [0], [])), (.getfield 301, 3, (0, [11, 20], [])), (.iconst 0, 1, (0, [], [])), (.invokevirtual 167, 3, (0, [126, 3, 0, 11], [])), (.istore 4, 2, (0, [4], []))]
theorem ok_X11_voice_26 : zOK cX11_voice 11 false 5 k_X11_voice_26 26 = true := zOK_by (by decide +kernel)
def k_X11_voice_47 : List ZI := [(.iload_n 2, 1, (0, [2], [])), (.ifCond .ne 13, 3, (0, [61], [])), (.aload_n 0, 1, (0, [0], [])), (.iload 4, 2, (0, [4], [])), (.iload_n 3, 1, (0, [3], [])), (.invokevirtual 304, 3, (0, [204, 3, 0, 11], [])), (.goto 40, 3, (0, [98], []))]
theorem ok_X11_voice_47 : zOK cX11_voice 11 false 5 k_X11_voice_47 47 = true := zOK_by (by decide +kernel)
def k_X11_voice_61 : List ZI := [(.iload_n 2, 1, (0, [2], [])), (.iconst 1, 1, (0, [], [])), (.if_icmp .ne 13, 3, (0, [76], [])), (.aload_n 0, 1, (0, [0], [])), (.iload 4, 2, (0, [4], [])), (.iload_n 3, 1, (0, [3], [])), (.invokevirtual 307, 3, (0, [205, 3, 0, 11], [])), (.goto 25, 3, (0, [98], []))]
theorem ok_X11_voice_61 : zOK cX11_voice 11 false 5 k_X11_voice_61 61 = true := zOK_by (by decide +kernel)
def k_X11_voice_76 : List ZI := [(.iload_n 2, 1, (0, [2], [])), (.iconst 2, 1, (0, [], [])), (.if_icmp .ne 13, 3, (0, [91], [])), (.aload_n 0, 1, (0, [0], [])), (.iload 4, 2, (0, [4], [])), (.iload_n 3, 1, (0, [3], [])), (.invokevirtual 310, 3, (0, [206, 3, 0, 11], [])), (.goto 10, 3, (0, [98], []))]
theorem ok_X11_voice_76 : zOK cX11_voice 11 false 5 k_X11_voice_76 76 = true := zOK_by (by decide +kernel)
def k_X11_voice_91 : List ZI := [(.aload_n 0, 1, (0, [0], [])), (.iload 4, 2, (0, [4], [])), (.iload_n 3, 1, (0, [3], [])), (.invokevirtual 313, 3, (0, [207, 3, 0, 11], []))]
theorem ok_X11_voice_91 : zOK cX11_voice 11 false 5 k_X11_voice_91 91 = true := zOK_by (by decide +kernel)
def k_X11_voice_98 : List ZI := [(.ireturn, 1, (0, [], []))]
theorem ok_X11_voice_98 : zOK cX11_voice 11 false 5 k_X11_voice_98 98 = true := zOK_by (by decide +kernel)
theorem rt_X11_voice {g : Nat} {post : Option ZV → ZH → Prop} {h : ZH} {b : ZB2} {z : Int} : zRt mX11_voice g post (some (.inl z)) h b = (post (some (.inl z)) h ∧ h.1.length = g) := by show (_ ∧ _ ∧ True) = _; simp
def bk_X11_voice_0 (E : ZE) (CT : Nat → ZC) (X : ZK) (Rt : ZR) (ls : ZL) (st : List ZV) (h : ZH) (b : ZB2) : Prop := zB E CT k_X11_voice_0 0 ls st h b (fun t ls st h b => X t ls st h b) Rt
theorem bs_X11_voice_0 {E : ZE} {CT : Nat → ZC} {X : ZK} {Rt : ZR} {ls : ZL} {st : List ZV} {h : ZH} {b : ZB2} (hX : zCl E mX11_voice 11 false CT Rt X) (q : bk_X11_voice_0 E CT X Rt ls st h b) : X 0 ls st h b := by
  refine hX k_X11_voice_0 0 ok_X11_voice_0 _ ?_ ls st h b q
  exact fun t ls st h b q => q
def bk_X11_voice_8 (E : ZE) (CT : Nat → ZC) (X : ZK) (Rt : ZR) (ls : ZL) (st : List ZV) (h : ZH) (b : ZB2) : Prop := zB E CT k_X11_voice_8 8 ls st h b (fun t ls st h b => X t ls st h b) Rt
theorem bs_X11_voice_8 {E : ZE} {CT : Nat → ZC} {X : ZK} {Rt : ZR} {ls : ZL} {st : List ZV} {h : ZH} {b : ZB2} (hX : zCl E mX11_voice 11 false CT Rt X) (q : bk_X11_voice_8 E CT X Rt ls st h b) : X 8 ls st h b := by
  refine hX k_X11_voice_8 8 ok_X11_voice_8 _ ?_ ls st h b q
  exact fun t ls st h b q => q
def bk_X11_voice_20 (E : ZE) (CT : Nat → ZC) (X : ZK) (Rt : ZR) (ls : ZL) (st : List ZV) (h : ZH) (b : ZB2) : Prop := zB E CT k_X11_voice_20 20 ls st h b (fun t ls st h b => X t ls st h b) Rt
theorem bs_X11_voice_20 {E : ZE} {CT : Nat → ZC} {X : ZK} {Rt : ZR} {ls : ZL} {st : List ZV} {h : ZH} {b : ZB2} (hX : zCl E mX11_voice 11 false CT Rt X) (q : bk_X11_voice_20 E CT X Rt ls st h b) : X 20 ls st h b := by
  refine hX k_X11_voice_20 20 ok_X11_voice_20 _ ?_ ls st h b q
  exact fun t ls st h b q => q
def bk_X11_voice_26 (E : ZE) (CT : Nat → ZC) (X : ZK) (Rt : ZR) (ls : ZL) (st : List ZV) (h : ZH) (b : ZB2) : Prop := zB E CT k_X11_voice_26 26 ls st h b (fun t ls st h b => X t ls st h b) Rt
theorem bs_X11_voice_26 {E : ZE} {CT : Nat → ZC} {X : ZK} {Rt : ZR} {ls : ZL} {st : List ZV} {h : ZH} {b : ZB2} (hX : zCl E mX11_voice 11 false CT Rt X) (q : bk_X11_voice_26 E CT X Rt ls st h b) : X 26 ls st h b := by
  refine hX k_X11_voice_26 26 ok_X11_voice_26 _ ?_ ls st h b q
  exact fun t ls st h b q => q
def bk_X11_voice_98 (E : ZE) (CT : Nat → ZC) (X : ZK) (Rt : ZR) (ls : ZL) (st : List ZV) (h : ZH) (b : ZB2) : Prop := zB E CT k_X11_voice_98 98 ls st h b (fun t ls st h b => X t ls st h b) Rt
theorem bs_X11_voice_98 {E : ZE} {CT : Nat → ZC} {X : ZK} {Rt : ZR} {ls : ZL} {st : List ZV} {h : ZH} {b : ZB2} (hX : zCl E mX11_voice 11 false CT Rt X) (q : bk_X11_voice_98 E CT X Rt ls st h b) : X 98 ls st h b := by
  refine hX k_X11_voice_98 98 ok_X11_voice_98 _ ?_ ls st h b q
  exact fun t ls st h b q => q
def bk_X11_voice_47 (E : ZE) (CT : Nat → ZC) (X : ZK) (Rt : ZR) (ls : ZL) (st : List ZV) (h : ZH) (b : ZB2) : Prop := zB E CT k_X11_voice_47 47 ls st h b (fun t ls st h b => if t = 98 then bk_X11_voice_98 E CT X Rt ls st h b else X t ls st h b) Rt
theorem bs_X11_voice_47 {E : ZE} {CT : Nat → ZC} {X : ZK} {Rt : ZR} {ls : ZL} {st : List ZV} {h : ZH} {b : ZB2} (hX : zCl E mX11_voice 11 false CT Rt X) (q : bk_X11_voice_47 E CT X Rt ls st h b) : X 47 ls st h b := by
  refine hX k_X11_voice_47 47 ok_X11_voice_47 _ ?_ ls st h b q
  exact by
    intro t ls st h b q
    by_cases c : t = 98
    · subst c; rw [if_pos rfl] at q; exact bs_X11_voice_98 hX q
    rw [if_neg c] at q
    exact q
def bk_X11_voice_61 (E : ZE) (CT : Nat → ZC) (X : ZK) (Rt : ZR) (ls : ZL) (st : List ZV) (h : ZH) (b : ZB2) : Prop := zB E CT k_X11_voice_61 61 ls st h b (fun t ls st h b => if t = 98 then bk_X11_voice_98 E CT X Rt ls st h b else X t ls st h b) Rt
theorem bs_X11_voice_61 {E : ZE} {CT : Nat → ZC} {X : ZK} {Rt : ZR} {ls : ZL} {st : List ZV} {h : ZH} {b : ZB2} (hX : zCl E mX11_voice 11 false CT Rt X) (q : bk_X11_voice_61 E CT X Rt ls st h b) : X 61 ls st h b := by
  refine hX k_X11_voice_61 61 ok_X11_voice_61 _ ?_ ls st h b q
  exact by
    intro t ls st h b q
    by_cases c : t = 98
    · subst c; rw [if_pos rfl] at q; exact bs_X11_voice_98 hX q
    rw [if_neg c] at q
    exact q
def bk_X11_voice_91 (E : ZE) (CT : Nat → ZC) (X : ZK) (Rt : ZR) (ls : ZL) (st : List ZV) (h : ZH) (b : ZB2) : Prop := zB E CT k_X11_voice_91 91 ls st h b (fun t ls st h b => if t = 98 then bk_X11_voice_98 E CT X Rt ls st h b else X t ls st h b) Rt
theorem bs_X11_voice_91 {E : ZE} {CT : Nat → ZC} {X : ZK} {Rt : ZR} {ls : ZL} {st : List ZV} {h : ZH} {b : ZB2} (hX : zCl E mX11_voice 11 false CT Rt X) (q : bk_X11_voice_91 E CT X Rt ls st h b) : X 91 ls st h b := by
  refine hX k_X11_voice_91 91 ok_X11_voice_91 _ ?_ ls st h b q
  exact by
    intro t ls st h b q
    by_cases c : t = 98
    · subst c; rw [if_pos rfl] at q; exact bs_X11_voice_98 hX q
    rw [if_neg c] at q
    exact q
def bk_X11_voice_76 (E : ZE) (CT : Nat → ZC) (X : ZK) (Rt : ZR) (ls : ZL) (st : List ZV) (h : ZH) (b : ZB2) : Prop := zB E CT k_X11_voice_76 76 ls st h b (fun t ls st h b => if t = 91 then bk_X11_voice_91 E CT X Rt ls st h b else if t = 98 then bk_X11_voice_98 E CT X Rt ls st h b else X t ls st h b) Rt
theorem bs_X11_voice_76 {E : ZE} {CT : Nat → ZC} {X : ZK} {Rt : ZR} {ls : ZL} {st : List ZV} {h : ZH} {b : ZB2} (hX : zCl E mX11_voice 11 false CT Rt X) (q : bk_X11_voice_76 E CT X Rt ls st h b) : X 76 ls st h b := by
  refine hX k_X11_voice_76 76 ok_X11_voice_76 _ ?_ ls st h b q
  exact by
    intro t ls st h b q
    by_cases c : t = 91
    · subst c; rw [if_pos rfl] at q; exact bs_X11_voice_91 hX q
    rw [if_neg c] at q
    by_cases c : t = 98
    · subst c; rw [if_pos rfl] at q; exact bs_X11_voice_98 hX q
    rw [if_neg c] at q
    exact q
-- X11_voice: cuts [8, 20, 26, 47, 61, 76]
abbrev T2 : Type := (Nat → Int) × Int
def rn1 (t : T2) (b : Int) : T2 := if t.2 < 40 then (up1 t.1 t.2.toNat b, t.2 + 1) else t
def tok (t : T2) : Prop := 0 ≤ t.2 ∧ t.2 ≤ 40
theorem rn1_ok {t : T2} {b : Int} (h : tok t) : tok (rn1 t b) := by
  unfold tok rn1 at *
  split
  · dsimp only; omega
  · exact h
def vkn (n k x : Int) (t : T2) : Int × T2 := if k = 1 ∨ k = 4 then ((x + n) * 3, rn1 (rn1 t 20) 10) else (x + n, rn1 t 10)
def vdg (n m k x : Int) (t : T2) : Int × T2 := if k = 3 then (-(x - m), rn1 (rn1 t 40) 12) else if k = 6 then (zxor (-(x - m)) n, rn1 (rn1 (rn1 t 70) 40) 12) else (x - m, rn1 t 12)
def vh0 (n o x : Int) (t : T2) : Int × T2 := ((vkn n o x (rn1 t 11)).1 * 2, (vkn n o x (rn1 t 11)).2)
def vh2 (n m o x : Int) (t : T2) : Int × T2 := ((vh0 n o x (rn1 t 30)).1 - (vdg n m o 1 (vh0 n o x (rn1 t 30)).2).1, (vdg n m o 1 (vh0 n o x (rn1 t 30)).2).2)
def vhe (n m o k x : Int) (t : T2) : Int × T2 := if k = 2 then vh2 n m o x t else if k = 5 then vh2 n m o (x + 1) (rn1 t 60) else vh0 n o x t
def vt0 (n m o x : Int) (t : T2) : Int × T2 := (zxor (vhe n m o o x (rn1 t 13)).1 (vdg n m o x (vhe n m o o x (rn1 t 13)).2).1, (vdg n m o x (vhe n m o o x (rn1 t 13)).2).2)
def vt4 (n m o x : Int) (t : T2) : Int × T2 := ((vt0 n m o x (rn1 t 50)).1 - (vkn n o 2 (vt0 n m o x (rn1 t 50)).2).1, (vkn n o 2 (vt0 n m o x (rn1 t 50)).2).2)
def vt6 (n m o x : Int) (t : T2) : Int × T2 := ((vhe n m o o x (rn1 t 71)).1 - (vt0 n m o x (vhe n m o o x (rn1 t 71)).2).1, (vt0 n m o x (vhe n m o o x (rn1 t 71)).2).2)
def vte (n m o k x : Int) (t : T2) : Int × T2 := if k = 4 then vt4 n m o x t else if k = 6 then vt6 n m o x t else vt0 n m o x t
theorem vkn_ok {n k x : Int} {t : T2} (h : tok t) : tok (vkn n k x t).2 := by
  unfold vkn; split
  · exact rn1_ok (rn1_ok h)
  · exact rn1_ok h
theorem vdg_ok {n m k x : Int} {t : T2} (h : tok t) : tok (vdg n m k x t).2 := by
  unfold vdg; split
  · exact rn1_ok (rn1_ok h)
  · split
    · exact rn1_ok (rn1_ok (rn1_ok h))
    · exact rn1_ok h
theorem vh0_ok {n o x : Int} {t : T2} (h : tok t) : tok (vh0 n o x t).2 := vkn_ok (rn1_ok h)
theorem vh2_ok {n m o x : Int} {t : T2} (h : tok t) : tok (vh2 n m o x t).2 := vdg_ok (vh0_ok (rn1_ok h))
theorem vhe_ok {n m o k x : Int} {t : T2} (h : tok t) : tok (vhe n m o k x t).2 := by
  unfold vhe; split
  · exact vh2_ok h
  · split
    · exact vh2_ok (rn1_ok h)
    · exact vh0_ok h
theorem vt0_ok {n m o x : Int} {t : T2} (h : tok t) : tok (vt0 n m o x t).2 := vdg_ok (vhe_ok (rn1_ok h))
theorem vte_ok {n m o k x : Int} {t : T2} (h : tok t) : tok (vte n m o k x t).2 := by
  unfold vte; split
  · exact vkn_ok (vt0_ok (rn1_ok h))
  · split
    · exact vt0_ok (vhe_ok (rn1_ok h))
    · exact vt0_ok h
theorem vkn_0 {n k x : Int} {t : T2} (h : ¬ (k = 1 ∨ k = 4)) : vkn n k x t = (x + n, rn1 t 10) := if_neg h
theorem vkn_1 {n k x : Int} {t : T2} (h : k = 1 ∨ k = 4) : vkn n k x t = ((x + n) * 3, rn1 (rn1 t 20) 10) := if_pos h
theorem vdg_3 {n m k x : Int} {t : T2} (h : k = 3) : vdg n m k x t = (-(x - m), rn1 (rn1 t 40) 12) := if_pos h
theorem vdg_6 {n m k x : Int} {t : T2} (h : k = 6) : vdg n m k x t = (zxor (-(x - m)) n, rn1 (rn1 (rn1 t 70) 40) 12) := by
  unfold vdg; rw [if_neg (by omega), if_pos h]
theorem vdg_0 {n m k x : Int} {t : T2} (h : ¬ k = 3 ∧ ¬ k = 6) : vdg n m k x t = (x - m, rn1 t 12) := by
  unfold vdg; rw [if_neg h.1, if_neg h.2]
theorem vhe_2 {n m o k x : Int} {t : T2} (h : k = 2) : vhe n m o k x t = vh2 n m o x t := if_pos h
theorem vhe_5 {n m o k x : Int} {t : T2} (h : k = 5) : vhe n m o k x t = vh2 n m o (x + 1) (rn1 t 60) := by
  unfold vhe; rw [if_neg (by omega), if_pos h]
theorem vhe_0 {n m o k x : Int} {t : T2} (h : ¬ k = 2 ∧ ¬ k = 5) : vhe n m o k x t = vh0 n o x t := by
  unfold vhe; rw [if_neg h.1, if_neg h.2]
theorem vte_4 {n m o k x : Int} {t : T2} (h : k = 4) : vte n m o k x t = vt4 n m o x t := if_pos h
theorem vte_6 {n m o k x : Int} {t : T2} (h : k = 6) : vte n m o k x t = vt6 n m o x t := by
  unfold vte; rw [if_neg (by omega), if_pos h]
theorem vte_0 {n m o k x : Int} {t : T2} (h : ¬ k = 4 ∧ ¬ k = 6) : vte n m o k x t = vt0 n m o x t := by
  unfold vte; rw [if_neg h.1, if_neg h.2]
theorem abv_if (k : Int) : abv k = if 3 < k then k - 3 else 0 := rfl
/-- the trace in the memory, and how it goes on -/
def tS (M : ZMm) : T2 := (M 97, M 87 19)
def Vtr (M : ZMm) : Prop := Vd (M 88) ∧ (0 ≤ M 87 19 ∧ M 87 19 ≤ 40) ∧ 0 ≤ M 87 20 ∧ M 87 20 ≤ 7
def Nx (M : ZMm) (t : T2) (M' : ZMm) : Prop := tS M' = t ∧ ∀ x i, ¬ x = 97 → ¬ (x = 87 ∧ i = 19) → M' x i = M x i
theorem Nx.who {M M' : ZMm} {t : T2} (h : Nx M t M') : M' 87 20 = M 87 20 := h.2 87 20 (by omega) (by omega)
theorem Nx.d {M M' : ZMm} {t : T2} (h : Nx M t M') : M' 88 = M 88 := funext fun i => h.2 88 i (by omega) (by omega)
theorem Nx.trans {M M1 M2 : ZMm} {t t2 : T2} (h : Nx M t M1) (h2 : Nx M1 t2 M2) : Nx M t2 M2 := ⟨h2.1, fun x i q1 q2 => (h2.2 x i q1 q2).trans (h.2 x i q1 q2)⟩
theorem Nx.ok {M M' : ZMm} {t : T2} (h : Nx M t M') (hv : Vtr M) (ht : tok t) : Vtr M' := by
  refine ⟨by rw [h.d]; exact hv.1, ?_, by rw [h.who]; exact hv.2.2⟩
  have : M' 87 19 = t.2 := by rw [← h.1]; rfl
  rw [this]
  exact ht
theorem Vtr.tok {M : ZMm} (h : Vtr M) : tok (tS M) := h.2.1
theorem ab_1 : abv 1 = 0 := rfl
theorem ab_2 : abv 2 = 0 := rfl
theorem ab_3 : abv 3 = 0 := rfl
theorem ab_4 : abv 4 = 1 := rfl
theorem ab_5 : abv 5 = 2 := rfl
theorem ab_6 : abv 6 = 3 := rfl
theorem rg_i {k : Int} (h1 : 0 ≤ k) (h2 : k ≤ 9) : rg k := ⟨by omega, by omega⟩
def B_ran (b : Int) (M : Nat → Nat → Int) (post : Option ZV → (Nat → Nat → Int) → Prop) : Prop := Vtr M ∧ ∀ M' : ZMm, Nx M (rn1 (tS M) b) M' → post none M'
def C_ran : ZC := fun as h post => match as with
  | [.inr (.inr (.inl 87)), .inl b] => h.1 = zG ∧ B_ran b h.2 (fun v M => post v (zG, M))
  | _ => False
theorem r_ran {b : Int} {M : Nat → Nat → Int} {post : Option ZV → ZH → Prop} : C_ran [.inr (.inr (.inl 87)), .inl b] (zG, M) post = B_ran b M (fun v M => post v (zG, M)) := by show (zG = zG ∧ _) = _; simp
def ct_ran : Nat → ZC := fun n => fun _ _ _ => False
theorem c_ran {E : ZE} {d : Nat} (hd : 1 ≤ d) : zMet E d mX11_ran C_ran := by
  refine zmet_of (o := 11) (ini := false) (CT := ct_ran) gd_X11_ran rfl (fun h => by cases h) (by omega) ?_ ?_
  · intro n as h post hh
    unfold ct_ran at hh
    exact hh.elim
  intro as h post hC
  match as, hC with
  | [.inr (.inr (.inl 87)), .inl b], hC =>
    refine ⟨Nat.le_of_ble_eq_true rfl, fun X hX => bs_X11_ran_0 hX ?_⟩
    obtain ⟨G, M⟩ := h
    obtain ⟨hG, hC⟩ := hC
    dsimp only at hG
    subst hG
    simp only [B_ran] at hC
    show bk_X11_ran_0 E ct_ran X _ [some (.inr (.inr (.inl 87))), some (.inl b)] [] (zG, M) (0, 0)
    obtain ⟨vt, hC⟩ := hC
    have h19 := vt.2.1
    have z19 : zr (M 87 19) = M 87 19 := zr_of (by omega) (by omega)
    simp only [bk_X11_ran_0, k_X11_ran_0, bk_X11_ran_29, k_X11_ran_29, ↓e_rk1, ↓e_rk0, ↓e_sk0, ↓e_sks, ↓e_ldi0, ↓e_ldis, ↓e_ldl0, ↓e_ldls, ↓e_lda0, ↓e_ldas, ↓e_ok0, ↓e_okss, ↓e_ok1i, ↓e_ok1r, ↓e_ok1n, ↓e_sti, ↓e_sta, ↓e_1, ↓e_2, ↓e_l1, ↓e_l2, ↓e_li, ↓e_sw0, ↓e_sws, ↓e_ceq, ↓e_cne, ↓e_clt, ↓e_cge, ↓e_cgt, ↓e_cle, ↓e_nil, ↓e_cons, ↓e_iconst, ↓e_bipush, ↓e_sipush, ↓e_ldc, ↓e_ldcw, ↓e_ldc2, ↓e_lconst, ↓e_iloadn, ↓e_iload, ↓e_lloadn, ↓e_lload, ↓e_aloadn, ↓e_aload, ↓e_istoren, ↓e_istore, ↓e_astoren, ↓e_astore, ↓e_add, ↓e_iinc, ↓e_iadd, ↓e_isub, ↓e_imul, ↓e_iand, ↓e_ior, ↓e_ixor, ↓e_ishl, ↓e_iushr, ↓e_idiv, ↓e_irem, ↓e_ineg, ↓e_i2l, ↓e_i2b, ↓e_i2s, ↓e_l2i, ↓e_land, ↓e_lor, ↓e_lshl, ↓e_lshr, ↓e_lushr, ↓e_lcmp, ↓e_dupi, ↓e_dupr, ↓e_popi, ↓e_dup2, ↓e_goto, ↓e_if, ↓e_icmp, ↓e_tsw, ↓e_lsw, ↓e_getf, ↓e_putf, ↓e_gets, ↓e_iald, ↓e_cald, ↓e_iast, ↓e_aald, ↓e_aast, ↓e_len, ↓e_copy, ↓e_abs, ↓e_max, ↓e_min, ↓e_iret, ↓e_aret, ↓e_vret, ↓e_is0, ↓e_is1, ↓e_is2, ↓e_is3, ↓e_is4, ↓e_iv1, ↓e_iv2, ↓e_iv3, ↓e_iv4, ↓e_iv5, ↓e_iv6, ↓rt_X11_ran, ↓reduceIte, Nat.reduceAdd, Nat.reduceEqDiff, ↓zcl0, ↓zclv, List.map_nil, List.sum_nil, List.map_cons, List.sum_cons, zcat, true_and, and_true, Nat.reduceLeDiff, Nat.reduceAdd, eq_self, forall_const, e_ok0, e_okss, e_ok1i, e_ok1r, e_ok1n, zl_1, zl_40, Int.reduceToNat, Int.reduceAdd, Int.reduceMul, Int.reduceSub, Int.reduceNeg, Int.reduceLT, Int.reduceLE, Int.reduceEq, not_false_eq_true, not_true_eq_false, false_implies, true_implies, implies_true, Int.reduceDiv, Int.reduceMod, zr8_zr, zr_zbo, z01_zbo, z01_0, z01_1, zbo_eq0, zup_eq, zup_o, zup_k, ne_eq, ↓v_87, ↓g_87_0, ↓l_88, ↓s_88, ↓n_88, ↓g_87_1, ↓l_89, ↓s_89, ↓n_89, ↓g_87_2, ↓l_90, ↓s_90, ↓n_90, ↓g_87_3, ↓p_87_3, ↓g_87_4, ↓l_91, ↓s_91, ↓n_91, ↓g_87_5, ↓p_87_5, ↓g_87_6, ↓p_87_6, ↓g_87_7, ↓p_87_7, ↓g_87_8, ↓p_87_8, ↓g_87_9, ↓p_87_9, ↓g_87_10, ↓p_87_10, ↓g_87_11, ↓l_92, ↓s_92, ↓n_92, ↓g_87_12, ↓l_93, ↓s_93, ↓n_93, ↓g_87_13, ↓p_87_13, ↓g_87_14, ↓l_94, ↓s_94, ↓n_94, ↓g_87_15, ↓p_87_15, ↓g_87_16, ↓l_95, ↓s_95, ↓n_95, ↓g_87_17, ↓l_96, ↓s_96, ↓n_96, ↓g_87_18, ↓l_97, ↓s_97, ↓n_97, ↓g_87_19, ↓p_87_19, ↓g_87_20, ↓p_87_20, ↓g_87_21, ↓l_98, ↓s_98, ↓n_98, ↓g_87_22, ↓l_99, ↓s_99, ↓n_99, ↓g_87_23, ↓l_100, ↓s_100, ↓n_100, ↓g_87_24, ↓l_101, ↓s_101, ↓n_101, z19]
    refine ⟨fun c => ⟨by omega, by omega, hC _ ⟨?_, fun x i q1 q2 => ?_⟩⟩, fun c => hC _ ⟨?_, fun x i q1 q2 => rfl⟩⟩
    · unfold rn1 tS
      rw [if_pos c]
      refine Prod.ext ?_ ?_
      · dsimp only
        rw [zup_ne _ (by decide), zup_up]
      · dsimp only
        rw [zup_eq]
    · have e1 : zup (zup M 97 (M 87 19).toNat b) 87 19 (M 87 19 + 1) x i = zup M 97 (M 87 19).toNat b x i := by simp [zup, q2]
      rw [e1, zup_o q1]
    · unfold rn1
      rw [if_neg (by exact c)]
def B_knkA (k : Int) (x : Int) (M : Nat → Nat → Int) (post : Option ZV → (Nat → Nat → Int) → Prop) : Prop := (0 ≤ k ∧ k ≤ 0) ∧ Vtr M ∧ ∀ M2 : ZMm, Nx M (vkn (M 87 20) k x (tS M)).2 M2 → post (some (.inl (vkn (M 87 20) k x (tS M)).1)) M2
def C_knkA : ZC := fun as h post => match as with
  | [.inr (.inr (.inl 87)), .inl k, .inl x] => h.1 = zG ∧ B_knkA k x h.2 (fun v M => post v (zG, M))
  | _ => False
theorem r_knkA {k : Int} {x : Int} {M : Nat → Nat → Int} {post : Option ZV → ZH → Prop} : C_knkA [.inr (.inr (.inl 87)), .inl k, .inl x] (zG, M) post = B_knkA k x M (fun v M => post v (zG, M)) := by show (zG = zG ∧ _) = _; simp
def ct_knkA : Nat → ZC := fun n => if n = 203 then C_ran else fun _ _ _ => False
theorem ct_knkA_ran {as : List ZV} {h : ZH} {post : Option ZV → ZH → Prop} : ct_knkA 203 as h post = C_ran as h post := rfl
theorem c_knkA {E : ZE} {d : Nat} (hd : 2 ≤ d) : zMet E d mX11_knocksBy C_knkA := by
  refine zmet_of (o := 11) (ini := false) (CT := ct_knkA) gd_X11_knocksBy rfl (fun h => by cases h) (by omega) ?_ ?_
  · intro n as h post hh
    unfold ct_knkA at hh
    by_cases c : n = 203
    · subst c; exact ⟨gd_X11_ran, 1, by omega, c_ran (by omega)⟩
    rw [if_neg c] at hh
    exact hh.elim
  intro as h post hC
  match as, hC with
  | [.inr (.inr (.inl 87)), .inl k, .inl x], hC =>
    refine ⟨Nat.le_of_ble_eq_true rfl, fun X hX => bs_X11_knocksBy_0 hX ?_⟩
    obtain ⟨G, M⟩ := h
    obtain ⟨hG, hC⟩ := hC
    dsimp only at hG
    subst hG
    simp only [B_knkA] at hC
    show bk_X11_knocksBy_0 E ct_knkA X _ [some (.inr (.inr (.inl 87))), some (.inl k), some (.inl x)] [] (zG, M) (0, 0)
    obtain ⟨hk, vt, hC⟩ := hC
    have zk : zr k = k := zr_of (by omega) (by omega)
    simp only [bk_X11_knocksBy_0, k_X11_knocksBy_0, bk_X11_knocksBy_28, k_X11_knocksBy_28, bk_X11_knocksBy_41, k_X11_knocksBy_41, bk_X11_knocksBy_59, k_X11_knocksBy_59, ↓e_rk1, ↓e_rk0, ↓e_sk0, ↓e_sks, ↓e_ldi0, ↓e_ldis, ↓e_ldl0, ↓e_ldls, ↓e_lda0, ↓e_ldas, ↓e_ok0, ↓e_okss, ↓e_ok1i, ↓e_ok1r, ↓e_ok1n, ↓e_sti, ↓e_sta, ↓e_1, ↓e_2, ↓e_l1, ↓e_l2, ↓e_li, ↓e_sw0, ↓e_sws, ↓e_ceq, ↓e_cne, ↓e_clt, ↓e_cge, ↓e_cgt, ↓e_cle, ↓e_nil, ↓e_cons, ↓e_iconst, ↓e_bipush, ↓e_sipush, ↓e_ldc, ↓e_ldcw, ↓e_ldc2, ↓e_lconst, ↓e_iloadn, ↓e_iload, ↓e_lloadn, ↓e_lload, ↓e_aloadn, ↓e_aload, ↓e_istoren, ↓e_istore, ↓e_astoren, ↓e_astore, ↓e_add, ↓e_iinc, ↓e_iadd, ↓e_isub, ↓e_imul, ↓e_iand, ↓e_ior, ↓e_ixor, ↓e_ishl, ↓e_iushr, ↓e_idiv, ↓e_irem, ↓e_ineg, ↓e_i2l, ↓e_i2b, ↓e_i2s, ↓e_l2i, ↓e_land, ↓e_lor, ↓e_lshl, ↓e_lshr, ↓e_lushr, ↓e_lcmp, ↓e_dupi, ↓e_dupr, ↓e_popi, ↓e_dup2, ↓e_goto, ↓e_if, ↓e_icmp, ↓e_tsw, ↓e_lsw, ↓e_getf, ↓e_putf, ↓e_gets, ↓e_iald, ↓e_cald, ↓e_iast, ↓e_aald, ↓e_aast, ↓e_len, ↓e_copy, ↓e_abs, ↓e_max, ↓e_min, ↓e_iret, ↓e_aret, ↓e_vret, ↓e_is0, ↓e_is1, ↓e_is2, ↓e_is3, ↓e_is4, ↓e_iv1, ↓e_iv2, ↓e_iv3, ↓e_iv4, ↓e_iv5, ↓e_iv6, ↓rt_X11_knocksBy, ↓reduceIte, Nat.reduceAdd, Nat.reduceEqDiff, ↓zcl0, ↓zclv, List.map_nil, List.sum_nil, List.map_cons, List.sum_cons, zcat, true_and, and_true, Nat.reduceLeDiff, Nat.reduceAdd, eq_self, forall_const, e_ok0, e_okss, e_ok1i, e_ok1r, e_ok1n, zl_1, zl_3, zl_10, zl_20, Int.reduceToNat, Int.reduceAdd, Int.reduceMul, Int.reduceSub, Int.reduceNeg, Int.reduceLT, Int.reduceLE, Int.reduceEq, not_false_eq_true, not_true_eq_false, false_implies, true_implies, implies_true, Int.reduceDiv, Int.reduceMod, zr8_zr, zr_zbo, z01_zbo, z01_0, z01_1, zbo_eq0, zup_eq, zup_o, zup_k, ne_eq, ↓ct_knkA_ran, ↓r_ran, ↓B_ran, ↓v_87, ↓g_87_0, ↓l_88, ↓s_88, ↓n_88, ↓g_87_1, ↓l_89, ↓s_89, ↓n_89, ↓g_87_2, ↓l_90, ↓s_90, ↓n_90, ↓g_87_3, ↓p_87_3, ↓g_87_4, ↓l_91, ↓s_91, ↓n_91, ↓g_87_5, ↓p_87_5, ↓g_87_6, ↓p_87_6, ↓g_87_7, ↓p_87_7, ↓g_87_8, ↓p_87_8, ↓g_87_9, ↓p_87_9, ↓g_87_10, ↓p_87_10, ↓g_87_11, ↓l_92, ↓s_92, ↓n_92, ↓g_87_12, ↓l_93, ↓s_93, ↓n_93, ↓g_87_13, ↓p_87_13, ↓g_87_14, ↓l_94, ↓s_94, ↓n_94, ↓g_87_15, ↓p_87_15, ↓g_87_16, ↓l_95, ↓s_95, ↓n_95, ↓g_87_17, ↓l_96, ↓s_96, ↓n_96, ↓g_87_18, ↓l_97, ↓s_97, ↓n_97, ↓g_87_19, ↓p_87_19, ↓g_87_20, ↓p_87_20, ↓g_87_21, ↓l_98, ↓s_98, ↓n_98, ↓g_87_22, ↓l_99, ↓s_99, ↓n_99, ↓g_87_23, ↓l_100, ↓s_100, ↓n_100, ↓g_87_24, ↓l_101, ↓s_101, ↓n_101, zk]
    refine ⟨fun c => ?_, fun c => ⟨fun c2 => ?_, fun c2 => ?_⟩⟩
    · refine bs_X11_knocksBy_28 hX ?_
      simp only [bk_X11_knocksBy_0, k_X11_knocksBy_0, bk_X11_knocksBy_28, k_X11_knocksBy_28, bk_X11_knocksBy_41, k_X11_knocksBy_41, bk_X11_knocksBy_59, k_X11_knocksBy_59, ↓e_rk1, ↓e_rk0, ↓e_sk0, ↓e_sks, ↓e_ldi0, ↓e_ldis, ↓e_ldl0, ↓e_ldls, ↓e_lda0, ↓e_ldas, ↓e_ok0, ↓e_okss, ↓e_ok1i, ↓e_ok1r, ↓e_ok1n, ↓e_sti, ↓e_sta, ↓e_1, ↓e_2, ↓e_l1, ↓e_l2, ↓e_li, ↓e_sw0, ↓e_sws, ↓e_ceq, ↓e_cne, ↓e_clt, ↓e_cge, ↓e_cgt, ↓e_cle, ↓e_nil, ↓e_cons, ↓e_iconst, ↓e_bipush, ↓e_sipush, ↓e_ldc, ↓e_ldcw, ↓e_ldc2, ↓e_lconst, ↓e_iloadn, ↓e_iload, ↓e_lloadn, ↓e_lload, ↓e_aloadn, ↓e_aload, ↓e_istoren, ↓e_istore, ↓e_astoren, ↓e_astore, ↓e_add, ↓e_iinc, ↓e_iadd, ↓e_isub, ↓e_imul, ↓e_iand, ↓e_ior, ↓e_ixor, ↓e_ishl, ↓e_iushr, ↓e_idiv, ↓e_irem, ↓e_ineg, ↓e_i2l, ↓e_i2b, ↓e_i2s, ↓e_l2i, ↓e_land, ↓e_lor, ↓e_lshl, ↓e_lshr, ↓e_lushr, ↓e_lcmp, ↓e_dupi, ↓e_dupr, ↓e_popi, ↓e_dup2, ↓e_goto, ↓e_if, ↓e_icmp, ↓e_tsw, ↓e_lsw, ↓e_getf, ↓e_putf, ↓e_gets, ↓e_iald, ↓e_cald, ↓e_iast, ↓e_aald, ↓e_aast, ↓e_len, ↓e_copy, ↓e_abs, ↓e_max, ↓e_min, ↓e_iret, ↓e_aret, ↓e_vret, ↓e_is0, ↓e_is1, ↓e_is2, ↓e_is3, ↓e_is4, ↓e_iv1, ↓e_iv2, ↓e_iv3, ↓e_iv4, ↓e_iv5, ↓e_iv6, ↓rt_X11_knocksBy, ↓reduceIte, Nat.reduceAdd, Nat.reduceEqDiff, ↓zcl0, ↓zclv, List.map_nil, List.sum_nil, List.map_cons, List.sum_cons, zcat, true_and, and_true, Nat.reduceLeDiff, Nat.reduceAdd, eq_self, forall_const, e_ok0, e_okss, e_ok1i, e_ok1r, e_ok1n, zl_1, zl_3, zl_10, zl_20, Int.reduceToNat, Int.reduceAdd, Int.reduceMul, Int.reduceSub, Int.reduceNeg, Int.reduceLT, Int.reduceLE, Int.reduceEq, not_false_eq_true, not_true_eq_false, false_implies, true_implies, implies_true, Int.reduceDiv, Int.reduceMod, zr8_zr, zr_zbo, z01_zbo, z01_0, z01_1, zbo_eq0, zup_eq, zup_o, zup_k, ne_eq, ↓ct_knkA_ran, ↓r_ran, ↓B_ran, ↓v_87, ↓g_87_0, ↓l_88, ↓s_88, ↓n_88, ↓g_87_1, ↓l_89, ↓s_89, ↓n_89, ↓g_87_2, ↓l_90, ↓s_90, ↓n_90, ↓g_87_3, ↓p_87_3, ↓g_87_4, ↓l_91, ↓s_91, ↓n_91, ↓g_87_5, ↓p_87_5, ↓g_87_6, ↓p_87_6, ↓g_87_7, ↓p_87_7, ↓g_87_8, ↓p_87_8, ↓g_87_9, ↓p_87_9, ↓g_87_10, ↓p_87_10, ↓g_87_11, ↓l_92, ↓s_92, ↓n_92, ↓g_87_12, ↓l_93, ↓s_93, ↓n_93, ↓g_87_13, ↓p_87_13, ↓g_87_14, ↓l_94, ↓s_94, ↓n_94, ↓g_87_15, ↓p_87_15, ↓g_87_16, ↓l_95, ↓s_95, ↓n_95, ↓g_87_17, ↓l_96, ↓s_96, ↓n_96, ↓g_87_18, ↓l_97, ↓s_97, ↓n_97, ↓g_87_19, ↓p_87_19, ↓g_87_20, ↓p_87_20, ↓g_87_21, ↓l_98, ↓s_98, ↓n_98, ↓g_87_22, ↓l_99, ↓s_99, ↓n_99, ↓g_87_23, ↓l_100, ↓s_100, ↓n_100, ↓g_87_24, ↓l_101, ↓s_101, ↓n_101]
      rw [vkn_0 (by omega)] at hC
      exact ⟨vt, fun M1 n1 => by rw [n1.who]; exact hC M1 n1⟩
    · omega
    · omega
def B_knkB (k : Int) (x : Int) (M : Nat → Nat → Int) (post : Option ZV → (Nat → Nat → Int) → Prop) : Prop := (0 ≤ k ∧ k ≤ 3) ∧ Vtr M ∧ ∀ M2 : ZMm, Nx M (vkn (M 87 20) k x (tS M)).2 M2 → post (some (.inl (vkn (M 87 20) k x (tS M)).1)) M2
def C_knkB : ZC := fun as h post => match as with
  | [.inr (.inr (.inl 87)), .inl k, .inl x] => h.1 = zG ∧ B_knkB k x h.2 (fun v M => post v (zG, M))
  | _ => False
theorem r_knkB {k : Int} {x : Int} {M : Nat → Nat → Int} {post : Option ZV → ZH → Prop} : C_knkB [.inr (.inr (.inl 87)), .inl k, .inl x] (zG, M) post = B_knkB k x M (fun v M => post v (zG, M)) := by show (zG = zG ∧ _) = _; simp
def ct_knkB : Nat → ZC := fun n => if n = 203 then C_ran else if n = 128 then C_above else if n = 204 then C_knkA else fun _ _ _ => False
theorem ct_knkB_ran {as : List ZV} {h : ZH} {post : Option ZV → ZH → Prop} : ct_knkB 203 as h post = C_ran as h post := rfl
theorem ct_knkB_above {as : List ZV} {h : ZH} {post : Option ZV → ZH → Prop} : ct_knkB 128 as h post = C_above as h post := rfl
theorem ct_knkB_knkA {as : List ZV} {h : ZH} {post : Option ZV → ZH → Prop} : ct_knkB 204 as h post = C_knkA as h post := rfl
theorem c_knkB {E : ZE} {d : Nat} (hd : 3 ≤ d) : zMet E d mX11_knocksBy C_knkB := by
  refine zmet_of (o := 11) (ini := false) (CT := ct_knkB) gd_X11_knocksBy rfl (fun h => by cases h) (by omega) ?_ ?_
  · intro n as h post hh
    unfold ct_knkB at hh
    by_cases c : n = 203
    · subst c; exact ⟨gd_X11_ran, 1, by omega, c_ran (by omega)⟩
    rw [if_neg c] at hh
    by_cases c : n = 128
    · subst c; exact ⟨gd_X11_above, 1, by omega, c_above (by omega)⟩
    rw [if_neg c] at hh
    by_cases c : n = 204
    · subst c; exact ⟨gd_X11_knocksBy, 2, by omega, c_knkA (by omega)⟩
    rw [if_neg c] at hh
    exact hh.elim
  intro as h post hC
  match as, hC with
  | [.inr (.inr (.inl 87)), .inl k, .inl x], hC =>
    refine ⟨Nat.le_of_ble_eq_true rfl, fun X hX => bs_X11_knocksBy_0 hX ?_⟩
    obtain ⟨G, M⟩ := h
    obtain ⟨hG, hC⟩ := hC
    dsimp only at hG
    subst hG
    simp only [B_knkB] at hC
    show bk_X11_knocksBy_0 E ct_knkB X _ [some (.inr (.inr (.inl 87))), some (.inl k), some (.inl x)] [] (zG, M) (0, 0)
    obtain ⟨hk, vt, hC⟩ := hC
    have zk : zr k = k := zr_of (by omega) (by omega)
    simp only [bk_X11_knocksBy_0, k_X11_knocksBy_0, bk_X11_knocksBy_28, k_X11_knocksBy_28, bk_X11_knocksBy_41, k_X11_knocksBy_41, bk_X11_knocksBy_59, k_X11_knocksBy_59, ↓e_rk1, ↓e_rk0, ↓e_sk0, ↓e_sks, ↓e_ldi0, ↓e_ldis, ↓e_ldl0, ↓e_ldls, ↓e_lda0, ↓e_ldas, ↓e_ok0, ↓e_okss, ↓e_ok1i, ↓e_ok1r, ↓e_ok1n, ↓e_sti, ↓e_sta, ↓e_1, ↓e_2, ↓e_l1, ↓e_l2, ↓e_li, ↓e_sw0, ↓e_sws, ↓e_ceq, ↓e_cne, ↓e_clt, ↓e_cge, ↓e_cgt, ↓e_cle, ↓e_nil, ↓e_cons, ↓e_iconst, ↓e_bipush, ↓e_sipush, ↓e_ldc, ↓e_ldcw, ↓e_ldc2, ↓e_lconst, ↓e_iloadn, ↓e_iload, ↓e_lloadn, ↓e_lload, ↓e_aloadn, ↓e_aload, ↓e_istoren, ↓e_istore, ↓e_astoren, ↓e_astore, ↓e_add, ↓e_iinc, ↓e_iadd, ↓e_isub, ↓e_imul, ↓e_iand, ↓e_ior, ↓e_ixor, ↓e_ishl, ↓e_iushr, ↓e_idiv, ↓e_irem, ↓e_ineg, ↓e_i2l, ↓e_i2b, ↓e_i2s, ↓e_l2i, ↓e_land, ↓e_lor, ↓e_lshl, ↓e_lshr, ↓e_lushr, ↓e_lcmp, ↓e_dupi, ↓e_dupr, ↓e_popi, ↓e_dup2, ↓e_goto, ↓e_if, ↓e_icmp, ↓e_tsw, ↓e_lsw, ↓e_getf, ↓e_putf, ↓e_gets, ↓e_iald, ↓e_cald, ↓e_iast, ↓e_aald, ↓e_aast, ↓e_len, ↓e_copy, ↓e_abs, ↓e_max, ↓e_min, ↓e_iret, ↓e_aret, ↓e_vret, ↓e_is0, ↓e_is1, ↓e_is2, ↓e_is3, ↓e_is4, ↓e_iv1, ↓e_iv2, ↓e_iv3, ↓e_iv4, ↓e_iv5, ↓e_iv6, ↓rt_X11_knocksBy, ↓reduceIte, Nat.reduceAdd, Nat.reduceEqDiff, ↓zcl0, ↓zclv, List.map_nil, List.sum_nil, List.map_cons, List.sum_cons, zcat, true_and, and_true, Nat.reduceLeDiff, Nat.reduceAdd, eq_self, forall_const, e_ok0, e_okss, e_ok1i, e_ok1r, e_ok1n, zl_1, zl_3, zl_10, zl_20, Int.reduceToNat, Int.reduceAdd, Int.reduceMul, Int.reduceSub, Int.reduceNeg, Int.reduceLT, Int.reduceLE, Int.reduceEq, not_false_eq_true, not_true_eq_false, false_implies, true_implies, implies_true, Int.reduceDiv, Int.reduceMod, zr8_zr, zr_zbo, z01_zbo, z01_0, z01_1, zbo_eq0, zup_eq, zup_o, zup_k, ne_eq, ↓ct_knkB_ran, ↓r_ran, ↓B_ran, ↓ct_knkB_above, ↓r_above, ↓B_above, ↓ct_knkB_knkA, ↓r_knkA, ↓B_knkA, ↓v_87, ↓g_87_0, ↓l_88, ↓s_88, ↓n_88, ↓g_87_1, ↓l_89, ↓s_89, ↓n_89, ↓g_87_2, ↓l_90, ↓s_90, ↓n_90, ↓g_87_3, ↓p_87_3, ↓g_87_4, ↓l_91, ↓s_91, ↓n_91, ↓g_87_5, ↓p_87_5, ↓g_87_6, ↓p_87_6, ↓g_87_7, ↓p_87_7, ↓g_87_8, ↓p_87_8, ↓g_87_9, ↓p_87_9, ↓g_87_10, ↓p_87_10, ↓g_87_11, ↓l_92, ↓s_92, ↓n_92, ↓g_87_12, ↓l_93, ↓s_93, ↓n_93, ↓g_87_13, ↓p_87_13, ↓g_87_14, ↓l_94, ↓s_94, ↓n_94, ↓g_87_15, ↓p_87_15, ↓g_87_16, ↓l_95, ↓s_95, ↓n_95, ↓g_87_17, ↓l_96, ↓s_96, ↓n_96, ↓g_87_18, ↓l_97, ↓s_97, ↓n_97, ↓g_87_19, ↓p_87_19, ↓g_87_20, ↓p_87_20, ↓g_87_21, ↓l_98, ↓s_98, ↓n_98, ↓g_87_22, ↓l_99, ↓s_99, ↓n_99, ↓g_87_23, ↓l_100, ↓s_100, ↓n_100, ↓g_87_24, ↓l_101, ↓s_101, ↓n_101, zk]
    refine ⟨fun c => ?_, fun c => ⟨fun c2 => ?_, fun c2 => ?_⟩⟩
    · refine bs_X11_knocksBy_28 hX ?_
      simp only [bk_X11_knocksBy_0, k_X11_knocksBy_0, bk_X11_knocksBy_28, k_X11_knocksBy_28, bk_X11_knocksBy_41, k_X11_knocksBy_41, bk_X11_knocksBy_59, k_X11_knocksBy_59, ↓e_rk1, ↓e_rk0, ↓e_sk0, ↓e_sks, ↓e_ldi0, ↓e_ldis, ↓e_ldl0, ↓e_ldls, ↓e_lda0, ↓e_ldas, ↓e_ok0, ↓e_okss, ↓e_ok1i, ↓e_ok1r, ↓e_ok1n, ↓e_sti, ↓e_sta, ↓e_1, ↓e_2, ↓e_l1, ↓e_l2, ↓e_li, ↓e_sw0, ↓e_sws, ↓e_ceq, ↓e_cne, ↓e_clt, ↓e_cge, ↓e_cgt, ↓e_cle, ↓e_nil, ↓e_cons, ↓e_iconst, ↓e_bipush, ↓e_sipush, ↓e_ldc, ↓e_ldcw, ↓e_ldc2, ↓e_lconst, ↓e_iloadn, ↓e_iload, ↓e_lloadn, ↓e_lload, ↓e_aloadn, ↓e_aload, ↓e_istoren, ↓e_istore, ↓e_astoren, ↓e_astore, ↓e_add, ↓e_iinc, ↓e_iadd, ↓e_isub, ↓e_imul, ↓e_iand, ↓e_ior, ↓e_ixor, ↓e_ishl, ↓e_iushr, ↓e_idiv, ↓e_irem, ↓e_ineg, ↓e_i2l, ↓e_i2b, ↓e_i2s, ↓e_l2i, ↓e_land, ↓e_lor, ↓e_lshl, ↓e_lshr, ↓e_lushr, ↓e_lcmp, ↓e_dupi, ↓e_dupr, ↓e_popi, ↓e_dup2, ↓e_goto, ↓e_if, ↓e_icmp, ↓e_tsw, ↓e_lsw, ↓e_getf, ↓e_putf, ↓e_gets, ↓e_iald, ↓e_cald, ↓e_iast, ↓e_aald, ↓e_aast, ↓e_len, ↓e_copy, ↓e_abs, ↓e_max, ↓e_min, ↓e_iret, ↓e_aret, ↓e_vret, ↓e_is0, ↓e_is1, ↓e_is2, ↓e_is3, ↓e_is4, ↓e_iv1, ↓e_iv2, ↓e_iv3, ↓e_iv4, ↓e_iv5, ↓e_iv6, ↓rt_X11_knocksBy, ↓reduceIte, Nat.reduceAdd, Nat.reduceEqDiff, ↓zcl0, ↓zclv, List.map_nil, List.sum_nil, List.map_cons, List.sum_cons, zcat, true_and, and_true, Nat.reduceLeDiff, Nat.reduceAdd, eq_self, forall_const, e_ok0, e_okss, e_ok1i, e_ok1r, e_ok1n, zl_1, zl_3, zl_10, zl_20, Int.reduceToNat, Int.reduceAdd, Int.reduceMul, Int.reduceSub, Int.reduceNeg, Int.reduceLT, Int.reduceLE, Int.reduceEq, not_false_eq_true, not_true_eq_false, false_implies, true_implies, implies_true, Int.reduceDiv, Int.reduceMod, zr8_zr, zr_zbo, z01_zbo, z01_0, z01_1, zbo_eq0, zup_eq, zup_o, zup_k, ne_eq, ↓ct_knkB_ran, ↓r_ran, ↓B_ran, ↓ct_knkB_above, ↓r_above, ↓B_above, ↓ct_knkB_knkA, ↓r_knkA, ↓B_knkA, ↓v_87, ↓g_87_0, ↓l_88, ↓s_88, ↓n_88, ↓g_87_1, ↓l_89, ↓s_89, ↓n_89, ↓g_87_2, ↓l_90, ↓s_90, ↓n_90, ↓g_87_3, ↓p_87_3, ↓g_87_4, ↓l_91, ↓s_91, ↓n_91, ↓g_87_5, ↓p_87_5, ↓g_87_6, ↓p_87_6, ↓g_87_7, ↓p_87_7, ↓g_87_8, ↓p_87_8, ↓g_87_9, ↓p_87_9, ↓g_87_10, ↓p_87_10, ↓g_87_11, ↓l_92, ↓s_92, ↓n_92, ↓g_87_12, ↓l_93, ↓s_93, ↓n_93, ↓g_87_13, ↓p_87_13, ↓g_87_14, ↓l_94, ↓s_94, ↓n_94, ↓g_87_15, ↓p_87_15, ↓g_87_16, ↓l_95, ↓s_95, ↓n_95, ↓g_87_17, ↓l_96, ↓s_96, ↓n_96, ↓g_87_18, ↓l_97, ↓s_97, ↓n_97, ↓g_87_19, ↓p_87_19, ↓g_87_20, ↓p_87_20, ↓g_87_21, ↓l_98, ↓s_98, ↓n_98, ↓g_87_22, ↓l_99, ↓s_99, ↓n_99, ↓g_87_23, ↓l_100, ↓s_100, ↓n_100, ↓g_87_24, ↓l_101, ↓s_101, ↓n_101]
      rw [vkn_0 (by omega)] at hC
      exact ⟨vt, fun M1 n1 => by rw [n1.who]; exact hC M1 n1⟩
    · refine bs_X11_knocksBy_41 hX ?_
      simp only [bk_X11_knocksBy_0, k_X11_knocksBy_0, bk_X11_knocksBy_28, k_X11_knocksBy_28, bk_X11_knocksBy_41, k_X11_knocksBy_41, bk_X11_knocksBy_59, k_X11_knocksBy_59, ↓e_rk1, ↓e_rk0, ↓e_sk0, ↓e_sks, ↓e_ldi0, ↓e_ldis, ↓e_ldl0, ↓e_ldls, ↓e_lda0, ↓e_ldas, ↓e_ok0, ↓e_okss, ↓e_ok1i, ↓e_ok1r, ↓e_ok1n, ↓e_sti, ↓e_sta, ↓e_1, ↓e_2, ↓e_l1, ↓e_l2, ↓e_li, ↓e_sw0, ↓e_sws, ↓e_ceq, ↓e_cne, ↓e_clt, ↓e_cge, ↓e_cgt, ↓e_cle, ↓e_nil, ↓e_cons, ↓e_iconst, ↓e_bipush, ↓e_sipush, ↓e_ldc, ↓e_ldcw, ↓e_ldc2, ↓e_lconst, ↓e_iloadn, ↓e_iload, ↓e_lloadn, ↓e_lload, ↓e_aloadn, ↓e_aload, ↓e_istoren, ↓e_istore, ↓e_astoren, ↓e_astore, ↓e_add, ↓e_iinc, ↓e_iadd, ↓e_isub, ↓e_imul, ↓e_iand, ↓e_ior, ↓e_ixor, ↓e_ishl, ↓e_iushr, ↓e_idiv, ↓e_irem, ↓e_ineg, ↓e_i2l, ↓e_i2b, ↓e_i2s, ↓e_l2i, ↓e_land, ↓e_lor, ↓e_lshl, ↓e_lshr, ↓e_lushr, ↓e_lcmp, ↓e_dupi, ↓e_dupr, ↓e_popi, ↓e_dup2, ↓e_goto, ↓e_if, ↓e_icmp, ↓e_tsw, ↓e_lsw, ↓e_getf, ↓e_putf, ↓e_gets, ↓e_iald, ↓e_cald, ↓e_iast, ↓e_aald, ↓e_aast, ↓e_len, ↓e_copy, ↓e_abs, ↓e_max, ↓e_min, ↓e_iret, ↓e_aret, ↓e_vret, ↓e_is0, ↓e_is1, ↓e_is2, ↓e_is3, ↓e_is4, ↓e_iv1, ↓e_iv2, ↓e_iv3, ↓e_iv4, ↓e_iv5, ↓e_iv6, ↓rt_X11_knocksBy, ↓reduceIte, Nat.reduceAdd, Nat.reduceEqDiff, ↓zcl0, ↓zclv, List.map_nil, List.sum_nil, List.map_cons, List.sum_cons, zcat, true_and, and_true, Nat.reduceLeDiff, Nat.reduceAdd, eq_self, forall_const, e_ok0, e_okss, e_ok1i, e_ok1r, e_ok1n, zl_1, zl_3, zl_10, zl_20, Int.reduceToNat, Int.reduceAdd, Int.reduceMul, Int.reduceSub, Int.reduceNeg, Int.reduceLT, Int.reduceLE, Int.reduceEq, not_false_eq_true, not_true_eq_false, false_implies, true_implies, implies_true, Int.reduceDiv, Int.reduceMod, zr8_zr, zr_zbo, z01_zbo, z01_0, z01_1, zbo_eq0, zup_eq, zup_o, zup_k, ne_eq, ↓ct_knkB_ran, ↓r_ran, ↓B_ran, ↓ct_knkB_above, ↓r_above, ↓B_above, ↓ct_knkB_knkA, ↓r_knkA, ↓B_knkA, ↓v_87, ↓g_87_0, ↓l_88, ↓s_88, ↓n_88, ↓g_87_1, ↓l_89, ↓s_89, ↓n_89, ↓g_87_2, ↓l_90, ↓s_90, ↓n_90, ↓g_87_3, ↓p_87_3, ↓g_87_4, ↓l_91, ↓s_91, ↓n_91, ↓g_87_5, ↓p_87_5, ↓g_87_6, ↓p_87_6, ↓g_87_7, ↓p_87_7, ↓g_87_8, ↓p_87_8, ↓g_87_9, ↓p_87_9, ↓g_87_10, ↓p_87_10, ↓g_87_11, ↓l_92, ↓s_92, ↓n_92, ↓g_87_12, ↓l_93, ↓s_93, ↓n_93, ↓g_87_13, ↓p_87_13, ↓g_87_14, ↓l_94, ↓s_94, ↓n_94, ↓g_87_15, ↓p_87_15, ↓g_87_16, ↓l_95, ↓s_95, ↓n_95, ↓g_87_17, ↓l_96, ↓s_96, ↓n_96, ↓g_87_18, ↓l_97, ↓s_97, ↓n_97, ↓g_87_19, ↓p_87_19, ↓g_87_20, ↓p_87_20, ↓g_87_21, ↓l_98, ↓s_98, ↓n_98, ↓g_87_22, ↓l_99, ↓s_99, ↓n_99, ↓g_87_23, ↓l_100, ↓s_100, ↓n_100, ↓g_87_24, ↓l_101, ↓s_101, ↓n_101, ab_1]
      rw [vkn_1 (by omega)] at hC
      refine ⟨vt, fun M1 n1 => ⟨rg_i (by omega) (by omega), n1.ok vt (rn1_ok vt.tok), fun M2 n2 => ?_⟩⟩
      rw [n1.who, n1.1, vkn_0 (by omega)] at n2 ⊢
      exact hC M2 (n1.trans n2)
    · refine bs_X11_knocksBy_59 hX ?_
      simp only [bk_X11_knocksBy_0, k_X11_knocksBy_0, bk_X11_knocksBy_28, k_X11_knocksBy_28, bk_X11_knocksBy_41, k_X11_knocksBy_41, bk_X11_knocksBy_59, k_X11_knocksBy_59, ↓e_rk1, ↓e_rk0, ↓e_sk0, ↓e_sks, ↓e_ldi0, ↓e_ldis, ↓e_ldl0, ↓e_ldls, ↓e_lda0, ↓e_ldas, ↓e_ok0, ↓e_okss, ↓e_ok1i, ↓e_ok1r, ↓e_ok1n, ↓e_sti, ↓e_sta, ↓e_1, ↓e_2, ↓e_l1, ↓e_l2, ↓e_li, ↓e_sw0, ↓e_sws, ↓e_ceq, ↓e_cne, ↓e_clt, ↓e_cge, ↓e_cgt, ↓e_cle, ↓e_nil, ↓e_cons, ↓e_iconst, ↓e_bipush, ↓e_sipush, ↓e_ldc, ↓e_ldcw, ↓e_ldc2, ↓e_lconst, ↓e_iloadn, ↓e_iload, ↓e_lloadn, ↓e_lload, ↓e_aloadn, ↓e_aload, ↓e_istoren, ↓e_istore, ↓e_astoren, ↓e_astore, ↓e_add, ↓e_iinc, ↓e_iadd, ↓e_isub, ↓e_imul, ↓e_iand, ↓e_ior, ↓e_ixor, ↓e_ishl, ↓e_iushr, ↓e_idiv, ↓e_irem, ↓e_ineg, ↓e_i2l, ↓e_i2b, ↓e_i2s, ↓e_l2i, ↓e_land, ↓e_lor, ↓e_lshl, ↓e_lshr, ↓e_lushr, ↓e_lcmp, ↓e_dupi, ↓e_dupr, ↓e_popi, ↓e_dup2, ↓e_goto, ↓e_if, ↓e_icmp, ↓e_tsw, ↓e_lsw, ↓e_getf, ↓e_putf, ↓e_gets, ↓e_iald, ↓e_cald, ↓e_iast, ↓e_aald, ↓e_aast, ↓e_len, ↓e_copy, ↓e_abs, ↓e_max, ↓e_min, ↓e_iret, ↓e_aret, ↓e_vret, ↓e_is0, ↓e_is1, ↓e_is2, ↓e_is3, ↓e_is4, ↓e_iv1, ↓e_iv2, ↓e_iv3, ↓e_iv4, ↓e_iv5, ↓e_iv6, ↓rt_X11_knocksBy, ↓reduceIte, Nat.reduceAdd, Nat.reduceEqDiff, ↓zcl0, ↓zclv, List.map_nil, List.sum_nil, List.map_cons, List.sum_cons, zcat, true_and, and_true, Nat.reduceLeDiff, Nat.reduceAdd, eq_self, forall_const, e_ok0, e_okss, e_ok1i, e_ok1r, e_ok1n, zl_1, zl_3, zl_10, zl_20, Int.reduceToNat, Int.reduceAdd, Int.reduceMul, Int.reduceSub, Int.reduceNeg, Int.reduceLT, Int.reduceLE, Int.reduceEq, not_false_eq_true, not_true_eq_false, false_implies, true_implies, implies_true, Int.reduceDiv, Int.reduceMod, zr8_zr, zr_zbo, z01_zbo, z01_0, z01_1, zbo_eq0, zup_eq, zup_o, zup_k, ne_eq, ↓ct_knkB_ran, ↓r_ran, ↓B_ran, ↓ct_knkB_above, ↓r_above, ↓B_above, ↓ct_knkB_knkA, ↓r_knkA, ↓B_knkA, ↓v_87, ↓g_87_0, ↓l_88, ↓s_88, ↓n_88, ↓g_87_1, ↓l_89, ↓s_89, ↓n_89, ↓g_87_2, ↓l_90, ↓s_90, ↓n_90, ↓g_87_3, ↓p_87_3, ↓g_87_4, ↓l_91, ↓s_91, ↓n_91, ↓g_87_5, ↓p_87_5, ↓g_87_6, ↓p_87_6, ↓g_87_7, ↓p_87_7, ↓g_87_8, ↓p_87_8, ↓g_87_9, ↓p_87_9, ↓g_87_10, ↓p_87_10, ↓g_87_11, ↓l_92, ↓s_92, ↓n_92, ↓g_87_12, ↓l_93, ↓s_93, ↓n_93, ↓g_87_13, ↓p_87_13, ↓g_87_14, ↓l_94, ↓s_94, ↓n_94, ↓g_87_15, ↓p_87_15, ↓g_87_16, ↓l_95, ↓s_95, ↓n_95, ↓g_87_17, ↓l_96, ↓s_96, ↓n_96, ↓g_87_18, ↓l_97, ↓s_97, ↓n_97, ↓g_87_19, ↓p_87_19, ↓g_87_20, ↓p_87_20, ↓g_87_21, ↓l_98, ↓s_98, ↓n_98, ↓g_87_22, ↓l_99, ↓s_99, ↓n_99, ↓g_87_23, ↓l_100, ↓s_100, ↓n_100, ↓g_87_24, ↓l_101, ↓s_101, ↓n_101]
      have ea : vkn (M 87 20) (abv k) x (tS M) = vkn (M 87 20) k x (tS M) := by
        unfold vkn
        rw [abv_if]
        (repeat' split) <;> first | rfl | omega
      have ab := abv_if k
      refine ⟨rg_i (by omega) (by omega), ?_, vt, fun M2 n2 => ?_⟩
      · split at ab <;> omega
      rw [ea] at n2 ⊢
      exact hC M2 n2
def B_knkC (k : Int) (x : Int) (M : Nat → Nat → Int) (post : Option ZV → (Nat → Nat → Int) → Prop) : Prop := (0 ≤ k ∧ k ≤ 6) ∧ Vtr M ∧ ∀ M2 : ZMm, Nx M (vkn (M 87 20) k x (tS M)).2 M2 → post (some (.inl (vkn (M 87 20) k x (tS M)).1)) M2
def C_knkC : ZC := fun as h post => match as with
  | [.inr (.inr (.inl 87)), .inl k, .inl x] => h.1 = zG ∧ B_knkC k x h.2 (fun v M => post v (zG, M))
  | _ => False
theorem r_knkC {k : Int} {x : Int} {M : Nat → Nat → Int} {post : Option ZV → ZH → Prop} : C_knkC [.inr (.inr (.inl 87)), .inl k, .inl x] (zG, M) post = B_knkC k x M (fun v M => post v (zG, M)) := by show (zG = zG ∧ _) = _; simp
def ct_knkC : Nat → ZC := fun n => if n = 203 then C_ran else if n = 128 then C_above else if n = 204 then C_knkB else fun _ _ _ => False
theorem ct_knkC_ran {as : List ZV} {h : ZH} {post : Option ZV → ZH → Prop} : ct_knkC 203 as h post = C_ran as h post := rfl
theorem ct_knkC_above {as : List ZV} {h : ZH} {post : Option ZV → ZH → Prop} : ct_knkC 128 as h post = C_above as h post := rfl
theorem ct_knkC_knkB {as : List ZV} {h : ZH} {post : Option ZV → ZH → Prop} : ct_knkC 204 as h post = C_knkB as h post := rfl
theorem c_knkC {E : ZE} {d : Nat} (hd : 4 ≤ d) : zMet E d mX11_knocksBy C_knkC := by
  refine zmet_of (o := 11) (ini := false) (CT := ct_knkC) gd_X11_knocksBy rfl (fun h => by cases h) (by omega) ?_ ?_
  · intro n as h post hh
    unfold ct_knkC at hh
    by_cases c : n = 203
    · subst c; exact ⟨gd_X11_ran, 1, by omega, c_ran (by omega)⟩
    rw [if_neg c] at hh
    by_cases c : n = 128
    · subst c; exact ⟨gd_X11_above, 1, by omega, c_above (by omega)⟩
    rw [if_neg c] at hh
    by_cases c : n = 204
    · subst c; exact ⟨gd_X11_knocksBy, 3, by omega, c_knkB (by omega)⟩
    rw [if_neg c] at hh
    exact hh.elim
  intro as h post hC
  match as, hC with
  | [.inr (.inr (.inl 87)), .inl k, .inl x], hC =>
    refine ⟨Nat.le_of_ble_eq_true rfl, fun X hX => bs_X11_knocksBy_0 hX ?_⟩
    obtain ⟨G, M⟩ := h
    obtain ⟨hG, hC⟩ := hC
    dsimp only at hG
    subst hG
    simp only [B_knkC] at hC
    show bk_X11_knocksBy_0 E ct_knkC X _ [some (.inr (.inr (.inl 87))), some (.inl k), some (.inl x)] [] (zG, M) (0, 0)
    obtain ⟨hk, vt, hC⟩ := hC
    have zk : zr k = k := zr_of (by omega) (by omega)
    simp only [bk_X11_knocksBy_0, k_X11_knocksBy_0, bk_X11_knocksBy_28, k_X11_knocksBy_28, bk_X11_knocksBy_41, k_X11_knocksBy_41, bk_X11_knocksBy_59, k_X11_knocksBy_59, ↓e_rk1, ↓e_rk0, ↓e_sk0, ↓e_sks, ↓e_ldi0, ↓e_ldis, ↓e_ldl0, ↓e_ldls, ↓e_lda0, ↓e_ldas, ↓e_ok0, ↓e_okss, ↓e_ok1i, ↓e_ok1r, ↓e_ok1n, ↓e_sti, ↓e_sta, ↓e_1, ↓e_2, ↓e_l1, ↓e_l2, ↓e_li, ↓e_sw0, ↓e_sws, ↓e_ceq, ↓e_cne, ↓e_clt, ↓e_cge, ↓e_cgt, ↓e_cle, ↓e_nil, ↓e_cons, ↓e_iconst, ↓e_bipush, ↓e_sipush, ↓e_ldc, ↓e_ldcw, ↓e_ldc2, ↓e_lconst, ↓e_iloadn, ↓e_iload, ↓e_lloadn, ↓e_lload, ↓e_aloadn, ↓e_aload, ↓e_istoren, ↓e_istore, ↓e_astoren, ↓e_astore, ↓e_add, ↓e_iinc, ↓e_iadd, ↓e_isub, ↓e_imul, ↓e_iand, ↓e_ior, ↓e_ixor, ↓e_ishl, ↓e_iushr, ↓e_idiv, ↓e_irem, ↓e_ineg, ↓e_i2l, ↓e_i2b, ↓e_i2s, ↓e_l2i, ↓e_land, ↓e_lor, ↓e_lshl, ↓e_lshr, ↓e_lushr, ↓e_lcmp, ↓e_dupi, ↓e_dupr, ↓e_popi, ↓e_dup2, ↓e_goto, ↓e_if, ↓e_icmp, ↓e_tsw, ↓e_lsw, ↓e_getf, ↓e_putf, ↓e_gets, ↓e_iald, ↓e_cald, ↓e_iast, ↓e_aald, ↓e_aast, ↓e_len, ↓e_copy, ↓e_abs, ↓e_max, ↓e_min, ↓e_iret, ↓e_aret, ↓e_vret, ↓e_is0, ↓e_is1, ↓e_is2, ↓e_is3, ↓e_is4, ↓e_iv1, ↓e_iv2, ↓e_iv3, ↓e_iv4, ↓e_iv5, ↓e_iv6, ↓rt_X11_knocksBy, ↓reduceIte, Nat.reduceAdd, Nat.reduceEqDiff, ↓zcl0, ↓zclv, List.map_nil, List.sum_nil, List.map_cons, List.sum_cons, zcat, true_and, and_true, Nat.reduceLeDiff, Nat.reduceAdd, eq_self, forall_const, e_ok0, e_okss, e_ok1i, e_ok1r, e_ok1n, zl_1, zl_3, zl_10, zl_20, Int.reduceToNat, Int.reduceAdd, Int.reduceMul, Int.reduceSub, Int.reduceNeg, Int.reduceLT, Int.reduceLE, Int.reduceEq, not_false_eq_true, not_true_eq_false, false_implies, true_implies, implies_true, Int.reduceDiv, Int.reduceMod, zr8_zr, zr_zbo, z01_zbo, z01_0, z01_1, zbo_eq0, zup_eq, zup_o, zup_k, ne_eq, ↓ct_knkC_ran, ↓r_ran, ↓B_ran, ↓ct_knkC_above, ↓r_above, ↓B_above, ↓ct_knkC_knkB, ↓r_knkB, ↓B_knkB, ↓v_87, ↓g_87_0, ↓l_88, ↓s_88, ↓n_88, ↓g_87_1, ↓l_89, ↓s_89, ↓n_89, ↓g_87_2, ↓l_90, ↓s_90, ↓n_90, ↓g_87_3, ↓p_87_3, ↓g_87_4, ↓l_91, ↓s_91, ↓n_91, ↓g_87_5, ↓p_87_5, ↓g_87_6, ↓p_87_6, ↓g_87_7, ↓p_87_7, ↓g_87_8, ↓p_87_8, ↓g_87_9, ↓p_87_9, ↓g_87_10, ↓p_87_10, ↓g_87_11, ↓l_92, ↓s_92, ↓n_92, ↓g_87_12, ↓l_93, ↓s_93, ↓n_93, ↓g_87_13, ↓p_87_13, ↓g_87_14, ↓l_94, ↓s_94, ↓n_94, ↓g_87_15, ↓p_87_15, ↓g_87_16, ↓l_95, ↓s_95, ↓n_95, ↓g_87_17, ↓l_96, ↓s_96, ↓n_96, ↓g_87_18, ↓l_97, ↓s_97, ↓n_97, ↓g_87_19, ↓p_87_19, ↓g_87_20, ↓p_87_20, ↓g_87_21, ↓l_98, ↓s_98, ↓n_98, ↓g_87_22, ↓l_99, ↓s_99, ↓n_99, ↓g_87_23, ↓l_100, ↓s_100, ↓n_100, ↓g_87_24, ↓l_101, ↓s_101, ↓n_101, zk]
    refine ⟨fun c => ?_, fun c => ⟨fun c2 => ?_, fun c2 => ?_⟩⟩
    · refine bs_X11_knocksBy_28 hX ?_
      simp only [bk_X11_knocksBy_0, k_X11_knocksBy_0, bk_X11_knocksBy_28, k_X11_knocksBy_28, bk_X11_knocksBy_41, k_X11_knocksBy_41, bk_X11_knocksBy_59, k_X11_knocksBy_59, ↓e_rk1, ↓e_rk0, ↓e_sk0, ↓e_sks, ↓e_ldi0, ↓e_ldis, ↓e_ldl0, ↓e_ldls, ↓e_lda0, ↓e_ldas, ↓e_ok0, ↓e_okss, ↓e_ok1i, ↓e_ok1r, ↓e_ok1n, ↓e_sti, ↓e_sta, ↓e_1, ↓e_2, ↓e_l1, ↓e_l2, ↓e_li, ↓e_sw0, ↓e_sws, ↓e_ceq, ↓e_cne, ↓e_clt, ↓e_cge, ↓e_cgt, ↓e_cle, ↓e_nil, ↓e_cons, ↓e_iconst, ↓e_bipush, ↓e_sipush, ↓e_ldc, ↓e_ldcw, ↓e_ldc2, ↓e_lconst, ↓e_iloadn, ↓e_iload, ↓e_lloadn, ↓e_lload, ↓e_aloadn, ↓e_aload, ↓e_istoren, ↓e_istore, ↓e_astoren, ↓e_astore, ↓e_add, ↓e_iinc, ↓e_iadd, ↓e_isub, ↓e_imul, ↓e_iand, ↓e_ior, ↓e_ixor, ↓e_ishl, ↓e_iushr, ↓e_idiv, ↓e_irem, ↓e_ineg, ↓e_i2l, ↓e_i2b, ↓e_i2s, ↓e_l2i, ↓e_land, ↓e_lor, ↓e_lshl, ↓e_lshr, ↓e_lushr, ↓e_lcmp, ↓e_dupi, ↓e_dupr, ↓e_popi, ↓e_dup2, ↓e_goto, ↓e_if, ↓e_icmp, ↓e_tsw, ↓e_lsw, ↓e_getf, ↓e_putf, ↓e_gets, ↓e_iald, ↓e_cald, ↓e_iast, ↓e_aald, ↓e_aast, ↓e_len, ↓e_copy, ↓e_abs, ↓e_max, ↓e_min, ↓e_iret, ↓e_aret, ↓e_vret, ↓e_is0, ↓e_is1, ↓e_is2, ↓e_is3, ↓e_is4, ↓e_iv1, ↓e_iv2, ↓e_iv3, ↓e_iv4, ↓e_iv5, ↓e_iv6, ↓rt_X11_knocksBy, ↓reduceIte, Nat.reduceAdd, Nat.reduceEqDiff, ↓zcl0, ↓zclv, List.map_nil, List.sum_nil, List.map_cons, List.sum_cons, zcat, true_and, and_true, Nat.reduceLeDiff, Nat.reduceAdd, eq_self, forall_const, e_ok0, e_okss, e_ok1i, e_ok1r, e_ok1n, zl_1, zl_3, zl_10, zl_20, Int.reduceToNat, Int.reduceAdd, Int.reduceMul, Int.reduceSub, Int.reduceNeg, Int.reduceLT, Int.reduceLE, Int.reduceEq, not_false_eq_true, not_true_eq_false, false_implies, true_implies, implies_true, Int.reduceDiv, Int.reduceMod, zr8_zr, zr_zbo, z01_zbo, z01_0, z01_1, zbo_eq0, zup_eq, zup_o, zup_k, ne_eq, ↓ct_knkC_ran, ↓r_ran, ↓B_ran, ↓ct_knkC_above, ↓r_above, ↓B_above, ↓ct_knkC_knkB, ↓r_knkB, ↓B_knkB, ↓v_87, ↓g_87_0, ↓l_88, ↓s_88, ↓n_88, ↓g_87_1, ↓l_89, ↓s_89, ↓n_89, ↓g_87_2, ↓l_90, ↓s_90, ↓n_90, ↓g_87_3, ↓p_87_3, ↓g_87_4, ↓l_91, ↓s_91, ↓n_91, ↓g_87_5, ↓p_87_5, ↓g_87_6, ↓p_87_6, ↓g_87_7, ↓p_87_7, ↓g_87_8, ↓p_87_8, ↓g_87_9, ↓p_87_9, ↓g_87_10, ↓p_87_10, ↓g_87_11, ↓l_92, ↓s_92, ↓n_92, ↓g_87_12, ↓l_93, ↓s_93, ↓n_93, ↓g_87_13, ↓p_87_13, ↓g_87_14, ↓l_94, ↓s_94, ↓n_94, ↓g_87_15, ↓p_87_15, ↓g_87_16, ↓l_95, ↓s_95, ↓n_95, ↓g_87_17, ↓l_96, ↓s_96, ↓n_96, ↓g_87_18, ↓l_97, ↓s_97, ↓n_97, ↓g_87_19, ↓p_87_19, ↓g_87_20, ↓p_87_20, ↓g_87_21, ↓l_98, ↓s_98, ↓n_98, ↓g_87_22, ↓l_99, ↓s_99, ↓n_99, ↓g_87_23, ↓l_100, ↓s_100, ↓n_100, ↓g_87_24, ↓l_101, ↓s_101, ↓n_101]
      rw [vkn_0 (by omega)] at hC
      exact ⟨vt, fun M1 n1 => by rw [n1.who]; exact hC M1 n1⟩
    · refine bs_X11_knocksBy_41 hX ?_
      simp only [bk_X11_knocksBy_0, k_X11_knocksBy_0, bk_X11_knocksBy_28, k_X11_knocksBy_28, bk_X11_knocksBy_41, k_X11_knocksBy_41, bk_X11_knocksBy_59, k_X11_knocksBy_59, ↓e_rk1, ↓e_rk0, ↓e_sk0, ↓e_sks, ↓e_ldi0, ↓e_ldis, ↓e_ldl0, ↓e_ldls, ↓e_lda0, ↓e_ldas, ↓e_ok0, ↓e_okss, ↓e_ok1i, ↓e_ok1r, ↓e_ok1n, ↓e_sti, ↓e_sta, ↓e_1, ↓e_2, ↓e_l1, ↓e_l2, ↓e_li, ↓e_sw0, ↓e_sws, ↓e_ceq, ↓e_cne, ↓e_clt, ↓e_cge, ↓e_cgt, ↓e_cle, ↓e_nil, ↓e_cons, ↓e_iconst, ↓e_bipush, ↓e_sipush, ↓e_ldc, ↓e_ldcw, ↓e_ldc2, ↓e_lconst, ↓e_iloadn, ↓e_iload, ↓e_lloadn, ↓e_lload, ↓e_aloadn, ↓e_aload, ↓e_istoren, ↓e_istore, ↓e_astoren, ↓e_astore, ↓e_add, ↓e_iinc, ↓e_iadd, ↓e_isub, ↓e_imul, ↓e_iand, ↓e_ior, ↓e_ixor, ↓e_ishl, ↓e_iushr, ↓e_idiv, ↓e_irem, ↓e_ineg, ↓e_i2l, ↓e_i2b, ↓e_i2s, ↓e_l2i, ↓e_land, ↓e_lor, ↓e_lshl, ↓e_lshr, ↓e_lushr, ↓e_lcmp, ↓e_dupi, ↓e_dupr, ↓e_popi, ↓e_dup2, ↓e_goto, ↓e_if, ↓e_icmp, ↓e_tsw, ↓e_lsw, ↓e_getf, ↓e_putf, ↓e_gets, ↓e_iald, ↓e_cald, ↓e_iast, ↓e_aald, ↓e_aast, ↓e_len, ↓e_copy, ↓e_abs, ↓e_max, ↓e_min, ↓e_iret, ↓e_aret, ↓e_vret, ↓e_is0, ↓e_is1, ↓e_is2, ↓e_is3, ↓e_is4, ↓e_iv1, ↓e_iv2, ↓e_iv3, ↓e_iv4, ↓e_iv5, ↓e_iv6, ↓rt_X11_knocksBy, ↓reduceIte, Nat.reduceAdd, Nat.reduceEqDiff, ↓zcl0, ↓zclv, List.map_nil, List.sum_nil, List.map_cons, List.sum_cons, zcat, true_and, and_true, Nat.reduceLeDiff, Nat.reduceAdd, eq_self, forall_const, e_ok0, e_okss, e_ok1i, e_ok1r, e_ok1n, zl_1, zl_3, zl_10, zl_20, Int.reduceToNat, Int.reduceAdd, Int.reduceMul, Int.reduceSub, Int.reduceNeg, Int.reduceLT, Int.reduceLE, Int.reduceEq, not_false_eq_true, not_true_eq_false, false_implies, true_implies, implies_true, Int.reduceDiv, Int.reduceMod, zr8_zr, zr_zbo, z01_zbo, z01_0, z01_1, zbo_eq0, zup_eq, zup_o, zup_k, ne_eq, ↓ct_knkC_ran, ↓r_ran, ↓B_ran, ↓ct_knkC_above, ↓r_above, ↓B_above, ↓ct_knkC_knkB, ↓r_knkB, ↓B_knkB, ↓v_87, ↓g_87_0, ↓l_88, ↓s_88, ↓n_88, ↓g_87_1, ↓l_89, ↓s_89, ↓n_89, ↓g_87_2, ↓l_90, ↓s_90, ↓n_90, ↓g_87_3, ↓p_87_3, ↓g_87_4, ↓l_91, ↓s_91, ↓n_91, ↓g_87_5, ↓p_87_5, ↓g_87_6, ↓p_87_6, ↓g_87_7, ↓p_87_7, ↓g_87_8, ↓p_87_8, ↓g_87_9, ↓p_87_9, ↓g_87_10, ↓p_87_10, ↓g_87_11, ↓l_92, ↓s_92, ↓n_92, ↓g_87_12, ↓l_93, ↓s_93, ↓n_93, ↓g_87_13, ↓p_87_13, ↓g_87_14, ↓l_94, ↓s_94, ↓n_94, ↓g_87_15, ↓p_87_15, ↓g_87_16, ↓l_95, ↓s_95, ↓n_95, ↓g_87_17, ↓l_96, ↓s_96, ↓n_96, ↓g_87_18, ↓l_97, ↓s_97, ↓n_97, ↓g_87_19, ↓p_87_19, ↓g_87_20, ↓p_87_20, ↓g_87_21, ↓l_98, ↓s_98, ↓n_98, ↓g_87_22, ↓l_99, ↓s_99, ↓n_99, ↓g_87_23, ↓l_100, ↓s_100, ↓n_100, ↓g_87_24, ↓l_101, ↓s_101, ↓n_101, ab_1]
      rw [vkn_1 (by omega)] at hC
      refine ⟨vt, fun M1 n1 => ⟨rg_i (by omega) (by omega), n1.ok vt (rn1_ok vt.tok), fun M2 n2 => ?_⟩⟩
      rw [n1.who, n1.1, vkn_0 (by omega)] at n2 ⊢
      exact hC M2 (n1.trans n2)
    · refine bs_X11_knocksBy_59 hX ?_
      simp only [bk_X11_knocksBy_0, k_X11_knocksBy_0, bk_X11_knocksBy_28, k_X11_knocksBy_28, bk_X11_knocksBy_41, k_X11_knocksBy_41, bk_X11_knocksBy_59, k_X11_knocksBy_59, ↓e_rk1, ↓e_rk0, ↓e_sk0, ↓e_sks, ↓e_ldi0, ↓e_ldis, ↓e_ldl0, ↓e_ldls, ↓e_lda0, ↓e_ldas, ↓e_ok0, ↓e_okss, ↓e_ok1i, ↓e_ok1r, ↓e_ok1n, ↓e_sti, ↓e_sta, ↓e_1, ↓e_2, ↓e_l1, ↓e_l2, ↓e_li, ↓e_sw0, ↓e_sws, ↓e_ceq, ↓e_cne, ↓e_clt, ↓e_cge, ↓e_cgt, ↓e_cle, ↓e_nil, ↓e_cons, ↓e_iconst, ↓e_bipush, ↓e_sipush, ↓e_ldc, ↓e_ldcw, ↓e_ldc2, ↓e_lconst, ↓e_iloadn, ↓e_iload, ↓e_lloadn, ↓e_lload, ↓e_aloadn, ↓e_aload, ↓e_istoren, ↓e_istore, ↓e_astoren, ↓e_astore, ↓e_add, ↓e_iinc, ↓e_iadd, ↓e_isub, ↓e_imul, ↓e_iand, ↓e_ior, ↓e_ixor, ↓e_ishl, ↓e_iushr, ↓e_idiv, ↓e_irem, ↓e_ineg, ↓e_i2l, ↓e_i2b, ↓e_i2s, ↓e_l2i, ↓e_land, ↓e_lor, ↓e_lshl, ↓e_lshr, ↓e_lushr, ↓e_lcmp, ↓e_dupi, ↓e_dupr, ↓e_popi, ↓e_dup2, ↓e_goto, ↓e_if, ↓e_icmp, ↓e_tsw, ↓e_lsw, ↓e_getf, ↓e_putf, ↓e_gets, ↓e_iald, ↓e_cald, ↓e_iast, ↓e_aald, ↓e_aast, ↓e_len, ↓e_copy, ↓e_abs, ↓e_max, ↓e_min, ↓e_iret, ↓e_aret, ↓e_vret, ↓e_is0, ↓e_is1, ↓e_is2, ↓e_is3, ↓e_is4, ↓e_iv1, ↓e_iv2, ↓e_iv3, ↓e_iv4, ↓e_iv5, ↓e_iv6, ↓rt_X11_knocksBy, ↓reduceIte, Nat.reduceAdd, Nat.reduceEqDiff, ↓zcl0, ↓zclv, List.map_nil, List.sum_nil, List.map_cons, List.sum_cons, zcat, true_and, and_true, Nat.reduceLeDiff, Nat.reduceAdd, eq_self, forall_const, e_ok0, e_okss, e_ok1i, e_ok1r, e_ok1n, zl_1, zl_3, zl_10, zl_20, Int.reduceToNat, Int.reduceAdd, Int.reduceMul, Int.reduceSub, Int.reduceNeg, Int.reduceLT, Int.reduceLE, Int.reduceEq, not_false_eq_true, not_true_eq_false, false_implies, true_implies, implies_true, Int.reduceDiv, Int.reduceMod, zr8_zr, zr_zbo, z01_zbo, z01_0, z01_1, zbo_eq0, zup_eq, zup_o, zup_k, ne_eq, ↓ct_knkC_ran, ↓r_ran, ↓B_ran, ↓ct_knkC_above, ↓r_above, ↓B_above, ↓ct_knkC_knkB, ↓r_knkB, ↓B_knkB, ↓v_87, ↓g_87_0, ↓l_88, ↓s_88, ↓n_88, ↓g_87_1, ↓l_89, ↓s_89, ↓n_89, ↓g_87_2, ↓l_90, ↓s_90, ↓n_90, ↓g_87_3, ↓p_87_3, ↓g_87_4, ↓l_91, ↓s_91, ↓n_91, ↓g_87_5, ↓p_87_5, ↓g_87_6, ↓p_87_6, ↓g_87_7, ↓p_87_7, ↓g_87_8, ↓p_87_8, ↓g_87_9, ↓p_87_9, ↓g_87_10, ↓p_87_10, ↓g_87_11, ↓l_92, ↓s_92, ↓n_92, ↓g_87_12, ↓l_93, ↓s_93, ↓n_93, ↓g_87_13, ↓p_87_13, ↓g_87_14, ↓l_94, ↓s_94, ↓n_94, ↓g_87_15, ↓p_87_15, ↓g_87_16, ↓l_95, ↓s_95, ↓n_95, ↓g_87_17, ↓l_96, ↓s_96, ↓n_96, ↓g_87_18, ↓l_97, ↓s_97, ↓n_97, ↓g_87_19, ↓p_87_19, ↓g_87_20, ↓p_87_20, ↓g_87_21, ↓l_98, ↓s_98, ↓n_98, ↓g_87_22, ↓l_99, ↓s_99, ↓n_99, ↓g_87_23, ↓l_100, ↓s_100, ↓n_100, ↓g_87_24, ↓l_101, ↓s_101, ↓n_101]
      have ea : vkn (M 87 20) (abv k) x (tS M) = vkn (M 87 20) k x (tS M) := by
        unfold vkn
        rw [abv_if]
        (repeat' split) <;> first | rfl | omega
      have ab := abv_if k
      refine ⟨rg_i (by omega) (by omega), ?_, vt, fun M2 n2 => ?_⟩
      · split at ab <;> omega
      rw [ea] at n2 ⊢
      exact hC M2 n2
def B_dggA (k : Int) (x : Int) (M : Nat → Nat → Int) (post : Option ZV → (Nat → Nat → Int) → Prop) : Prop := (0 ≤ k ∧ k ≤ 0) ∧ Vtr M ∧ ∀ M2 : ZMm, Nx M (vdg (M 87 20) (ei (M 88) (M 87 20) 1) k x (tS M)).2 M2 → post (some (.inl (vdg (M 87 20) (ei (M 88) (M 87 20) 1) k x (tS M)).1)) M2
def C_dggA : ZC := fun as h post => match as with
  | [.inr (.inr (.inl 87)), .inl k, .inl x] => h.1 = zG ∧ B_dggA k x h.2 (fun v M => post v (zG, M))
  | _ => False
theorem r_dggA {k : Int} {x : Int} {M : Nat → Nat → Int} {post : Option ZV → ZH → Prop} : C_dggA [.inr (.inr (.inl 87)), .inl k, .inl x] (zG, M) post = B_dggA k x M (fun v M => post v (zG, M)) := by show (zG = zG ∧ _) = _; simp
def ct_dggA : Nat → ZC := fun n => if n = 203 then C_ran else if n = 126 then C_of else fun _ _ _ => False
theorem ct_dggA_ran {as : List ZV} {h : ZH} {post : Option ZV → ZH → Prop} : ct_dggA 203 as h post = C_ran as h post := rfl
theorem ct_dggA_of {as : List ZV} {h : ZH} {post : Option ZV → ZH → Prop} : ct_dggA 126 as h post = C_of as h post := rfl
theorem c_dggA {E : ZE} {d : Nat} (hd : 2 ≤ d) : zMet E d mX11_digsBy C_dggA := by
  refine zmet_of (o := 11) (ini := false) (CT := ct_dggA) gd_X11_digsBy rfl (fun h => by cases h) (by omega) ?_ ?_
  · intro n as h post hh
    unfold ct_dggA at hh
    by_cases c : n = 203
    · subst c; exact ⟨gd_X11_ran, 1, by omega, c_ran (by omega)⟩
    rw [if_neg c] at hh
    by_cases c : n = 126
    · subst c; exact ⟨gd_X11_of, 1, by omega, c_of (by omega)⟩
    rw [if_neg c] at hh
    exact hh.elim
  intro as h post hC
  match as, hC with
  | [.inr (.inr (.inl 87)), .inl k, .inl x], hC =>
    refine ⟨Nat.le_of_ble_eq_true rfl, fun X hX => bs_X11_digsBy_0 hX ?_⟩
    obtain ⟨G, M⟩ := h
    obtain ⟨hG, hC⟩ := hC
    dsimp only at hG
    subst hG
    simp only [B_dggA] at hC
    show bk_X11_digsBy_0 E ct_dggA X _ [some (.inr (.inr (.inl 87))), some (.inl k), some (.inl x)] [] (zG, M) (0, 0)
    obtain ⟨hk, vt, hC⟩ := hC
    have hw := vt.2.2
    have zk : zr k = k := zr_of (by omega) (by omega)
    simp only [bk_X11_digsBy_0, k_X11_digsBy_0, bk_X11_digsBy_36, k_X11_digsBy_36, bk_X11_digsBy_54, k_X11_digsBy_54, bk_X11_digsBy_71, k_X11_digsBy_71, bk_X11_digsBy_93, k_X11_digsBy_93, ↓e_rk1, ↓e_rk0, ↓e_sk0, ↓e_sks, ↓e_ldi0, ↓e_ldis, ↓e_ldl0, ↓e_ldls, ↓e_lda0, ↓e_ldas, ↓e_ok0, ↓e_okss, ↓e_ok1i, ↓e_ok1r, ↓e_ok1n, ↓e_sti, ↓e_sta, ↓e_1, ↓e_2, ↓e_l1, ↓e_l2, ↓e_li, ↓e_sw0, ↓e_sws, ↓e_ceq, ↓e_cne, ↓e_clt, ↓e_cge, ↓e_cgt, ↓e_cle, ↓e_nil, ↓e_cons, ↓e_iconst, ↓e_bipush, ↓e_sipush, ↓e_ldc, ↓e_ldcw, ↓e_ldc2, ↓e_lconst, ↓e_iloadn, ↓e_iload, ↓e_lloadn, ↓e_lload, ↓e_aloadn, ↓e_aload, ↓e_istoren, ↓e_istore, ↓e_astoren, ↓e_astore, ↓e_add, ↓e_iinc, ↓e_iadd, ↓e_isub, ↓e_imul, ↓e_iand, ↓e_ior, ↓e_ixor, ↓e_ishl, ↓e_iushr, ↓e_idiv, ↓e_irem, ↓e_ineg, ↓e_i2l, ↓e_i2b, ↓e_i2s, ↓e_l2i, ↓e_land, ↓e_lor, ↓e_lshl, ↓e_lshr, ↓e_lushr, ↓e_lcmp, ↓e_dupi, ↓e_dupr, ↓e_popi, ↓e_dup2, ↓e_goto, ↓e_if, ↓e_icmp, ↓e_tsw, ↓e_lsw, ↓e_getf, ↓e_putf, ↓e_gets, ↓e_iald, ↓e_cald, ↓e_iast, ↓e_aald, ↓e_aast, ↓e_len, ↓e_copy, ↓e_abs, ↓e_max, ↓e_min, ↓e_iret, ↓e_aret, ↓e_vret, ↓e_is0, ↓e_is1, ↓e_is2, ↓e_is3, ↓e_is4, ↓e_iv1, ↓e_iv2, ↓e_iv3, ↓e_iv4, ↓e_iv5, ↓e_iv6, ↓rt_X11_digsBy, ↓reduceIte, Nat.reduceAdd, Nat.reduceEqDiff, ↓zcl0, ↓zclv, List.map_nil, List.sum_nil, List.map_cons, List.sum_cons, zcat, true_and, and_true, Nat.reduceLeDiff, Nat.reduceAdd, eq_self, forall_const, e_ok0, e_okss, e_ok1i, e_ok1r, e_ok1n, zl_1, zl_3, zl_6, zl_12, zl_40, zl_70, Int.reduceToNat, Int.reduceAdd, Int.reduceMul, Int.reduceSub, Int.reduceNeg, Int.reduceLT, Int.reduceLE, Int.reduceEq, not_false_eq_true, not_true_eq_false, false_implies, true_implies, implies_true, Int.reduceDiv, Int.reduceMod, zr8_zr, zr_zbo, z01_zbo, z01_0, z01_1, zbo_eq0, zup_eq, zup_o, zup_k, ne_eq, ↓ct_dggA_ran, ↓r_ran, ↓B_ran, ↓ct_dggA_of, ↓r_of, ↓B_of, ↓v_87, ↓g_87_0, ↓l_88, ↓s_88, ↓n_88, ↓g_87_1, ↓l_89, ↓s_89, ↓n_89, ↓g_87_2, ↓l_90, ↓s_90, ↓n_90, ↓g_87_3, ↓p_87_3, ↓g_87_4, ↓l_91, ↓s_91, ↓n_91, ↓g_87_5, ↓p_87_5, ↓g_87_6, ↓p_87_6, ↓g_87_7, ↓p_87_7, ↓g_87_8, ↓p_87_8, ↓g_87_9, ↓p_87_9, ↓g_87_10, ↓p_87_10, ↓g_87_11, ↓l_92, ↓s_92, ↓n_92, ↓g_87_12, ↓l_93, ↓s_93, ↓n_93, ↓g_87_13, ↓p_87_13, ↓g_87_14, ↓l_94, ↓s_94, ↓n_94, ↓g_87_15, ↓p_87_15, ↓g_87_16, ↓l_95, ↓s_95, ↓n_95, ↓g_87_17, ↓l_96, ↓s_96, ↓n_96, ↓g_87_18, ↓l_97, ↓s_97, ↓n_97, ↓g_87_19, ↓p_87_19, ↓g_87_20, ↓p_87_20, ↓g_87_21, ↓l_98, ↓s_98, ↓n_98, ↓g_87_22, ↓l_99, ↓s_99, ↓n_99, ↓g_87_23, ↓l_100, ↓s_100, ↓n_100, ↓g_87_24, ↓l_101, ↓s_101, ↓n_101, zk]
    refine ⟨fun c => ?_, fun c => ⟨fun c2 => ?_, fun c2 => ⟨fun c3 => ?_, fun c3 => ?_⟩⟩⟩
    · refine bs_X11_digsBy_36 hX ?_
      simp only [bk_X11_digsBy_0, k_X11_digsBy_0, bk_X11_digsBy_36, k_X11_digsBy_36, bk_X11_digsBy_54, k_X11_digsBy_54, bk_X11_digsBy_71, k_X11_digsBy_71, bk_X11_digsBy_93, k_X11_digsBy_93, ↓e_rk1, ↓e_rk0, ↓e_sk0, ↓e_sks, ↓e_ldi0, ↓e_ldis, ↓e_ldl0, ↓e_ldls, ↓e_lda0, ↓e_ldas, ↓e_ok0, ↓e_okss, ↓e_ok1i, ↓e_ok1r, ↓e_ok1n, ↓e_sti, ↓e_sta, ↓e_1, ↓e_2, ↓e_l1, ↓e_l2, ↓e_li, ↓e_sw0, ↓e_sws, ↓e_ceq, ↓e_cne, ↓e_clt, ↓e_cge, ↓e_cgt, ↓e_cle, ↓e_nil, ↓e_cons, ↓e_iconst, ↓e_bipush, ↓e_sipush, ↓e_ldc, ↓e_ldcw, ↓e_ldc2, ↓e_lconst, ↓e_iloadn, ↓e_iload, ↓e_lloadn, ↓e_lload, ↓e_aloadn, ↓e_aload, ↓e_istoren, ↓e_istore, ↓e_astoren, ↓e_astore, ↓e_add, ↓e_iinc, ↓e_iadd, ↓e_isub, ↓e_imul, ↓e_iand, ↓e_ior, ↓e_ixor, ↓e_ishl, ↓e_iushr, ↓e_idiv, ↓e_irem, ↓e_ineg, ↓e_i2l, ↓e_i2b, ↓e_i2s, ↓e_l2i, ↓e_land, ↓e_lor, ↓e_lshl, ↓e_lshr, ↓e_lushr, ↓e_lcmp, ↓e_dupi, ↓e_dupr, ↓e_popi, ↓e_dup2, ↓e_goto, ↓e_if, ↓e_icmp, ↓e_tsw, ↓e_lsw, ↓e_getf, ↓e_putf, ↓e_gets, ↓e_iald, ↓e_cald, ↓e_iast, ↓e_aald, ↓e_aast, ↓e_len, ↓e_copy, ↓e_abs, ↓e_max, ↓e_min, ↓e_iret, ↓e_aret, ↓e_vret, ↓e_is0, ↓e_is1, ↓e_is2, ↓e_is3, ↓e_is4, ↓e_iv1, ↓e_iv2, ↓e_iv3, ↓e_iv4, ↓e_iv5, ↓e_iv6, ↓rt_X11_digsBy, ↓reduceIte, Nat.reduceAdd, Nat.reduceEqDiff, ↓zcl0, ↓zclv, List.map_nil, List.sum_nil, List.map_cons, List.sum_cons, zcat, true_and, and_true, Nat.reduceLeDiff, Nat.reduceAdd, eq_self, forall_const, e_ok0, e_okss, e_ok1i, e_ok1r, e_ok1n, zl_1, zl_3, zl_6, zl_12, zl_40, zl_70, Int.reduceToNat, Int.reduceAdd, Int.reduceMul, Int.reduceSub, Int.reduceNeg, Int.reduceLT, Int.reduceLE, Int.reduceEq, not_false_eq_true, not_true_eq_false, false_implies, true_implies, implies_true, Int.reduceDiv, Int.reduceMod, zr8_zr, zr_zbo, z01_zbo, z01_0, z01_1, zbo_eq0, zup_eq, zup_o, zup_k, ne_eq, ↓ct_dggA_ran, ↓r_ran, ↓B_ran, ↓ct_dggA_of, ↓r_of, ↓B_of, ↓v_87, ↓g_87_0, ↓l_88, ↓s_88, ↓n_88, ↓g_87_1, ↓l_89, ↓s_89, ↓n_89, ↓g_87_2, ↓l_90, ↓s_90, ↓n_90, ↓g_87_3, ↓p_87_3, ↓g_87_4, ↓l_91, ↓s_91, ↓n_91, ↓g_87_5, ↓p_87_5, ↓g_87_6, ↓p_87_6, ↓g_87_7, ↓p_87_7, ↓g_87_8, ↓p_87_8, ↓g_87_9, ↓p_87_9, ↓g_87_10, ↓p_87_10, ↓g_87_11, ↓l_92, ↓s_92, ↓n_92, ↓g_87_12, ↓l_93, ↓s_93, ↓n_93, ↓g_87_13, ↓p_87_13, ↓g_87_14, ↓l_94, ↓s_94, ↓n_94, ↓g_87_15, ↓p_87_15, ↓g_87_16, ↓l_95, ↓s_95, ↓n_95, ↓g_87_17, ↓l_96, ↓s_96, ↓n_96, ↓g_87_18, ↓l_97, ↓s_97, ↓n_97, ↓g_87_19, ↓p_87_19, ↓g_87_20, ↓p_87_20, ↓g_87_21, ↓l_98, ↓s_98, ↓n_98, ↓g_87_22, ↓l_99, ↓s_99, ↓n_99, ↓g_87_23, ↓l_100, ↓s_100, ↓n_100, ↓g_87_24, ↓l_101, ↓s_101, ↓n_101]
      rw [vdg_0 (by omega)] at hC
      refine ⟨vt, fun M1 n1 => ?_⟩
      rw [n1.who, n1.d]
      exact ⟨by omega, by omega, hC M1 n1⟩
    · omega
    · omega
    · omega
def B_dggB (k : Int) (x : Int) (M : Nat → Nat → Int) (post : Option ZV → (Nat → Nat → Int) → Prop) : Prop := (0 ≤ k ∧ k ≤ 3) ∧ Vtr M ∧ ∀ M2 : ZMm, Nx M (vdg (M 87 20) (ei (M 88) (M 87 20) 1) k x (tS M)).2 M2 → post (some (.inl (vdg (M 87 20) (ei (M 88) (M 87 20) 1) k x (tS M)).1)) M2
def C_dggB : ZC := fun as h post => match as with
  | [.inr (.inr (.inl 87)), .inl k, .inl x] => h.1 = zG ∧ B_dggB k x h.2 (fun v M => post v (zG, M))
  | _ => False
theorem r_dggB {k : Int} {x : Int} {M : Nat → Nat → Int} {post : Option ZV → ZH → Prop} : C_dggB [.inr (.inr (.inl 87)), .inl k, .inl x] (zG, M) post = B_dggB k x M (fun v M => post v (zG, M)) := by show (zG = zG ∧ _) = _; simp
def ct_dggB : Nat → ZC := fun n => if n = 203 then C_ran else if n = 126 then C_of else if n = 128 then C_above else if n = 206 then C_dggA else fun _ _ _ => False
theorem ct_dggB_ran {as : List ZV} {h : ZH} {post : Option ZV → ZH → Prop} : ct_dggB 203 as h post = C_ran as h post := rfl
theorem ct_dggB_of {as : List ZV} {h : ZH} {post : Option ZV → ZH → Prop} : ct_dggB 126 as h post = C_of as h post := rfl
theorem ct_dggB_above {as : List ZV} {h : ZH} {post : Option ZV → ZH → Prop} : ct_dggB 128 as h post = C_above as h post := rfl
theorem ct_dggB_dggA {as : List ZV} {h : ZH} {post : Option ZV → ZH → Prop} : ct_dggB 206 as h post = C_dggA as h post := rfl
theorem c_dggB {E : ZE} {d : Nat} (hd : 3 ≤ d) : zMet E d mX11_digsBy C_dggB := by
  refine zmet_of (o := 11) (ini := false) (CT := ct_dggB) gd_X11_digsBy rfl (fun h => by cases h) (by omega) ?_ ?_
  · intro n as h post hh
    unfold ct_dggB at hh
    by_cases c : n = 203
    · subst c; exact ⟨gd_X11_ran, 1, by omega, c_ran (by omega)⟩
    rw [if_neg c] at hh
    by_cases c : n = 126
    · subst c; exact ⟨gd_X11_of, 1, by omega, c_of (by omega)⟩
    rw [if_neg c] at hh
    by_cases c : n = 128
    · subst c; exact ⟨gd_X11_above, 1, by omega, c_above (by omega)⟩
    rw [if_neg c] at hh
    by_cases c : n = 206
    · subst c; exact ⟨gd_X11_digsBy, 2, by omega, c_dggA (by omega)⟩
    rw [if_neg c] at hh
    exact hh.elim
  intro as h post hC
  match as, hC with
  | [.inr (.inr (.inl 87)), .inl k, .inl x], hC =>
    refine ⟨Nat.le_of_ble_eq_true rfl, fun X hX => bs_X11_digsBy_0 hX ?_⟩
    obtain ⟨G, M⟩ := h
    obtain ⟨hG, hC⟩ := hC
    dsimp only at hG
    subst hG
    simp only [B_dggB] at hC
    show bk_X11_digsBy_0 E ct_dggB X _ [some (.inr (.inr (.inl 87))), some (.inl k), some (.inl x)] [] (zG, M) (0, 0)
    obtain ⟨hk, vt, hC⟩ := hC
    have hw := vt.2.2
    have zk : zr k = k := zr_of (by omega) (by omega)
    simp only [bk_X11_digsBy_0, k_X11_digsBy_0, bk_X11_digsBy_36, k_X11_digsBy_36, bk_X11_digsBy_54, k_X11_digsBy_54, bk_X11_digsBy_71, k_X11_digsBy_71, bk_X11_digsBy_93, k_X11_digsBy_93, ↓e_rk1, ↓e_rk0, ↓e_sk0, ↓e_sks, ↓e_ldi0, ↓e_ldis, ↓e_ldl0, ↓e_ldls, ↓e_lda0, ↓e_ldas, ↓e_ok0, ↓e_okss, ↓e_ok1i, ↓e_ok1r, ↓e_ok1n, ↓e_sti, ↓e_sta, ↓e_1, ↓e_2, ↓e_l1, ↓e_l2, ↓e_li, ↓e_sw0, ↓e_sws, ↓e_ceq, ↓e_cne, ↓e_clt, ↓e_cge, ↓e_cgt, ↓e_cle, ↓e_nil, ↓e_cons, ↓e_iconst, ↓e_bipush, ↓e_sipush, ↓e_ldc, ↓e_ldcw, ↓e_ldc2, ↓e_lconst, ↓e_iloadn, ↓e_iload, ↓e_lloadn, ↓e_lload, ↓e_aloadn, ↓e_aload, ↓e_istoren, ↓e_istore, ↓e_astoren, ↓e_astore, ↓e_add, ↓e_iinc, ↓e_iadd, ↓e_isub, ↓e_imul, ↓e_iand, ↓e_ior, ↓e_ixor, ↓e_ishl, ↓e_iushr, ↓e_idiv, ↓e_irem, ↓e_ineg, ↓e_i2l, ↓e_i2b, ↓e_i2s, ↓e_l2i, ↓e_land, ↓e_lor, ↓e_lshl, ↓e_lshr, ↓e_lushr, ↓e_lcmp, ↓e_dupi, ↓e_dupr, ↓e_popi, ↓e_dup2, ↓e_goto, ↓e_if, ↓e_icmp, ↓e_tsw, ↓e_lsw, ↓e_getf, ↓e_putf, ↓e_gets, ↓e_iald, ↓e_cald, ↓e_iast, ↓e_aald, ↓e_aast, ↓e_len, ↓e_copy, ↓e_abs, ↓e_max, ↓e_min, ↓e_iret, ↓e_aret, ↓e_vret, ↓e_is0, ↓e_is1, ↓e_is2, ↓e_is3, ↓e_is4, ↓e_iv1, ↓e_iv2, ↓e_iv3, ↓e_iv4, ↓e_iv5, ↓e_iv6, ↓rt_X11_digsBy, ↓reduceIte, Nat.reduceAdd, Nat.reduceEqDiff, ↓zcl0, ↓zclv, List.map_nil, List.sum_nil, List.map_cons, List.sum_cons, zcat, true_and, and_true, Nat.reduceLeDiff, Nat.reduceAdd, eq_self, forall_const, e_ok0, e_okss, e_ok1i, e_ok1r, e_ok1n, zl_1, zl_3, zl_6, zl_12, zl_40, zl_70, Int.reduceToNat, Int.reduceAdd, Int.reduceMul, Int.reduceSub, Int.reduceNeg, Int.reduceLT, Int.reduceLE, Int.reduceEq, not_false_eq_true, not_true_eq_false, false_implies, true_implies, implies_true, Int.reduceDiv, Int.reduceMod, zr8_zr, zr_zbo, z01_zbo, z01_0, z01_1, zbo_eq0, zup_eq, zup_o, zup_k, ne_eq, ↓ct_dggB_ran, ↓r_ran, ↓B_ran, ↓ct_dggB_of, ↓r_of, ↓B_of, ↓ct_dggB_above, ↓r_above, ↓B_above, ↓ct_dggB_dggA, ↓r_dggA, ↓B_dggA, ↓v_87, ↓g_87_0, ↓l_88, ↓s_88, ↓n_88, ↓g_87_1, ↓l_89, ↓s_89, ↓n_89, ↓g_87_2, ↓l_90, ↓s_90, ↓n_90, ↓g_87_3, ↓p_87_3, ↓g_87_4, ↓l_91, ↓s_91, ↓n_91, ↓g_87_5, ↓p_87_5, ↓g_87_6, ↓p_87_6, ↓g_87_7, ↓p_87_7, ↓g_87_8, ↓p_87_8, ↓g_87_9, ↓p_87_9, ↓g_87_10, ↓p_87_10, ↓g_87_11, ↓l_92, ↓s_92, ↓n_92, ↓g_87_12, ↓l_93, ↓s_93, ↓n_93, ↓g_87_13, ↓p_87_13, ↓g_87_14, ↓l_94, ↓s_94, ↓n_94, ↓g_87_15, ↓p_87_15, ↓g_87_16, ↓l_95, ↓s_95, ↓n_95, ↓g_87_17, ↓l_96, ↓s_96, ↓n_96, ↓g_87_18, ↓l_97, ↓s_97, ↓n_97, ↓g_87_19, ↓p_87_19, ↓g_87_20, ↓p_87_20, ↓g_87_21, ↓l_98, ↓s_98, ↓n_98, ↓g_87_22, ↓l_99, ↓s_99, ↓n_99, ↓g_87_23, ↓l_100, ↓s_100, ↓n_100, ↓g_87_24, ↓l_101, ↓s_101, ↓n_101, zk]
    refine ⟨fun c => ?_, fun c => ⟨fun c2 => ?_, fun c2 => ⟨fun c3 => ?_, fun c3 => ?_⟩⟩⟩
    · refine bs_X11_digsBy_36 hX ?_
      simp only [bk_X11_digsBy_0, k_X11_digsBy_0, bk_X11_digsBy_36, k_X11_digsBy_36, bk_X11_digsBy_54, k_X11_digsBy_54, bk_X11_digsBy_71, k_X11_digsBy_71, bk_X11_digsBy_93, k_X11_digsBy_93, ↓e_rk1, ↓e_rk0, ↓e_sk0, ↓e_sks, ↓e_ldi0, ↓e_ldis, ↓e_ldl0, ↓e_ldls, ↓e_lda0, ↓e_ldas, ↓e_ok0, ↓e_okss, ↓e_ok1i, ↓e_ok1r, ↓e_ok1n, ↓e_sti, ↓e_sta, ↓e_1, ↓e_2, ↓e_l1, ↓e_l2, ↓e_li, ↓e_sw0, ↓e_sws, ↓e_ceq, ↓e_cne, ↓e_clt, ↓e_cge, ↓e_cgt, ↓e_cle, ↓e_nil, ↓e_cons, ↓e_iconst, ↓e_bipush, ↓e_sipush, ↓e_ldc, ↓e_ldcw, ↓e_ldc2, ↓e_lconst, ↓e_iloadn, ↓e_iload, ↓e_lloadn, ↓e_lload, ↓e_aloadn, ↓e_aload, ↓e_istoren, ↓e_istore, ↓e_astoren, ↓e_astore, ↓e_add, ↓e_iinc, ↓e_iadd, ↓e_isub, ↓e_imul, ↓e_iand, ↓e_ior, ↓e_ixor, ↓e_ishl, ↓e_iushr, ↓e_idiv, ↓e_irem, ↓e_ineg, ↓e_i2l, ↓e_i2b, ↓e_i2s, ↓e_l2i, ↓e_land, ↓e_lor, ↓e_lshl, ↓e_lshr, ↓e_lushr, ↓e_lcmp, ↓e_dupi, ↓e_dupr, ↓e_popi, ↓e_dup2, ↓e_goto, ↓e_if, ↓e_icmp, ↓e_tsw, ↓e_lsw, ↓e_getf, ↓e_putf, ↓e_gets, ↓e_iald, ↓e_cald, ↓e_iast, ↓e_aald, ↓e_aast, ↓e_len, ↓e_copy, ↓e_abs, ↓e_max, ↓e_min, ↓e_iret, ↓e_aret, ↓e_vret, ↓e_is0, ↓e_is1, ↓e_is2, ↓e_is3, ↓e_is4, ↓e_iv1, ↓e_iv2, ↓e_iv3, ↓e_iv4, ↓e_iv5, ↓e_iv6, ↓rt_X11_digsBy, ↓reduceIte, Nat.reduceAdd, Nat.reduceEqDiff, ↓zcl0, ↓zclv, List.map_nil, List.sum_nil, List.map_cons, List.sum_cons, zcat, true_and, and_true, Nat.reduceLeDiff, Nat.reduceAdd, eq_self, forall_const, e_ok0, e_okss, e_ok1i, e_ok1r, e_ok1n, zl_1, zl_3, zl_6, zl_12, zl_40, zl_70, Int.reduceToNat, Int.reduceAdd, Int.reduceMul, Int.reduceSub, Int.reduceNeg, Int.reduceLT, Int.reduceLE, Int.reduceEq, not_false_eq_true, not_true_eq_false, false_implies, true_implies, implies_true, Int.reduceDiv, Int.reduceMod, zr8_zr, zr_zbo, z01_zbo, z01_0, z01_1, zbo_eq0, zup_eq, zup_o, zup_k, ne_eq, ↓ct_dggB_ran, ↓r_ran, ↓B_ran, ↓ct_dggB_of, ↓r_of, ↓B_of, ↓ct_dggB_above, ↓r_above, ↓B_above, ↓ct_dggB_dggA, ↓r_dggA, ↓B_dggA, ↓v_87, ↓g_87_0, ↓l_88, ↓s_88, ↓n_88, ↓g_87_1, ↓l_89, ↓s_89, ↓n_89, ↓g_87_2, ↓l_90, ↓s_90, ↓n_90, ↓g_87_3, ↓p_87_3, ↓g_87_4, ↓l_91, ↓s_91, ↓n_91, ↓g_87_5, ↓p_87_5, ↓g_87_6, ↓p_87_6, ↓g_87_7, ↓p_87_7, ↓g_87_8, ↓p_87_8, ↓g_87_9, ↓p_87_9, ↓g_87_10, ↓p_87_10, ↓g_87_11, ↓l_92, ↓s_92, ↓n_92, ↓g_87_12, ↓l_93, ↓s_93, ↓n_93, ↓g_87_13, ↓p_87_13, ↓g_87_14, ↓l_94, ↓s_94, ↓n_94, ↓g_87_15, ↓p_87_15, ↓g_87_16, ↓l_95, ↓s_95, ↓n_95, ↓g_87_17, ↓l_96, ↓s_96, ↓n_96, ↓g_87_18, ↓l_97, ↓s_97, ↓n_97, ↓g_87_19, ↓p_87_19, ↓g_87_20, ↓p_87_20, ↓g_87_21, ↓l_98, ↓s_98, ↓n_98, ↓g_87_22, ↓l_99, ↓s_99, ↓n_99, ↓g_87_23, ↓l_100, ↓s_100, ↓n_100, ↓g_87_24, ↓l_101, ↓s_101, ↓n_101]
      rw [vdg_0 (by omega)] at hC
      refine ⟨vt, fun M1 n1 => ?_⟩
      rw [n1.who, n1.d]
      exact ⟨by omega, by omega, hC M1 n1⟩
    · refine bs_X11_digsBy_54 hX ?_
      simp only [bk_X11_digsBy_0, k_X11_digsBy_0, bk_X11_digsBy_36, k_X11_digsBy_36, bk_X11_digsBy_54, k_X11_digsBy_54, bk_X11_digsBy_71, k_X11_digsBy_71, bk_X11_digsBy_93, k_X11_digsBy_93, ↓e_rk1, ↓e_rk0, ↓e_sk0, ↓e_sks, ↓e_ldi0, ↓e_ldis, ↓e_ldl0, ↓e_ldls, ↓e_lda0, ↓e_ldas, ↓e_ok0, ↓e_okss, ↓e_ok1i, ↓e_ok1r, ↓e_ok1n, ↓e_sti, ↓e_sta, ↓e_1, ↓e_2, ↓e_l1, ↓e_l2, ↓e_li, ↓e_sw0, ↓e_sws, ↓e_ceq, ↓e_cne, ↓e_clt, ↓e_cge, ↓e_cgt, ↓e_cle, ↓e_nil, ↓e_cons, ↓e_iconst, ↓e_bipush, ↓e_sipush, ↓e_ldc, ↓e_ldcw, ↓e_ldc2, ↓e_lconst, ↓e_iloadn, ↓e_iload, ↓e_lloadn, ↓e_lload, ↓e_aloadn, ↓e_aload, ↓e_istoren, ↓e_istore, ↓e_astoren, ↓e_astore, ↓e_add, ↓e_iinc, ↓e_iadd, ↓e_isub, ↓e_imul, ↓e_iand, ↓e_ior, ↓e_ixor, ↓e_ishl, ↓e_iushr, ↓e_idiv, ↓e_irem, ↓e_ineg, ↓e_i2l, ↓e_i2b, ↓e_i2s, ↓e_l2i, ↓e_land, ↓e_lor, ↓e_lshl, ↓e_lshr, ↓e_lushr, ↓e_lcmp, ↓e_dupi, ↓e_dupr, ↓e_popi, ↓e_dup2, ↓e_goto, ↓e_if, ↓e_icmp, ↓e_tsw, ↓e_lsw, ↓e_getf, ↓e_putf, ↓e_gets, ↓e_iald, ↓e_cald, ↓e_iast, ↓e_aald, ↓e_aast, ↓e_len, ↓e_copy, ↓e_abs, ↓e_max, ↓e_min, ↓e_iret, ↓e_aret, ↓e_vret, ↓e_is0, ↓e_is1, ↓e_is2, ↓e_is3, ↓e_is4, ↓e_iv1, ↓e_iv2, ↓e_iv3, ↓e_iv4, ↓e_iv5, ↓e_iv6, ↓rt_X11_digsBy, ↓reduceIte, Nat.reduceAdd, Nat.reduceEqDiff, ↓zcl0, ↓zclv, List.map_nil, List.sum_nil, List.map_cons, List.sum_cons, zcat, true_and, and_true, Nat.reduceLeDiff, Nat.reduceAdd, eq_self, forall_const, e_ok0, e_okss, e_ok1i, e_ok1r, e_ok1n, zl_1, zl_3, zl_6, zl_12, zl_40, zl_70, Int.reduceToNat, Int.reduceAdd, Int.reduceMul, Int.reduceSub, Int.reduceNeg, Int.reduceLT, Int.reduceLE, Int.reduceEq, not_false_eq_true, not_true_eq_false, false_implies, true_implies, implies_true, Int.reduceDiv, Int.reduceMod, zr8_zr, zr_zbo, z01_zbo, z01_0, z01_1, zbo_eq0, zup_eq, zup_o, zup_k, ne_eq, ↓ct_dggB_ran, ↓r_ran, ↓B_ran, ↓ct_dggB_of, ↓r_of, ↓B_of, ↓ct_dggB_above, ↓r_above, ↓B_above, ↓ct_dggB_dggA, ↓r_dggA, ↓B_dggA, ↓v_87, ↓g_87_0, ↓l_88, ↓s_88, ↓n_88, ↓g_87_1, ↓l_89, ↓s_89, ↓n_89, ↓g_87_2, ↓l_90, ↓s_90, ↓n_90, ↓g_87_3, ↓p_87_3, ↓g_87_4, ↓l_91, ↓s_91, ↓n_91, ↓g_87_5, ↓p_87_5, ↓g_87_6, ↓p_87_6, ↓g_87_7, ↓p_87_7, ↓g_87_8, ↓p_87_8, ↓g_87_9, ↓p_87_9, ↓g_87_10, ↓p_87_10, ↓g_87_11, ↓l_92, ↓s_92, ↓n_92, ↓g_87_12, ↓l_93, ↓s_93, ↓n_93, ↓g_87_13, ↓p_87_13, ↓g_87_14, ↓l_94, ↓s_94, ↓n_94, ↓g_87_15, ↓p_87_15, ↓g_87_16, ↓l_95, ↓s_95, ↓n_95, ↓g_87_17, ↓l_96, ↓s_96, ↓n_96, ↓g_87_18, ↓l_97, ↓s_97, ↓n_97, ↓g_87_19, ↓p_87_19, ↓g_87_20, ↓p_87_20, ↓g_87_21, ↓l_98, ↓s_98, ↓n_98, ↓g_87_22, ↓l_99, ↓s_99, ↓n_99, ↓g_87_23, ↓l_100, ↓s_100, ↓n_100, ↓g_87_24, ↓l_101, ↓s_101, ↓n_101, ab_3]
      rw [vdg_3 (by omega)] at hC
      refine ⟨vt, fun M1 n1 => ⟨rg_i (by omega) (by omega), n1.ok vt (rn1_ok vt.tok), fun M2 n2 => ?_⟩⟩
      rw [n1.who, n1.d, n1.1, vdg_0 (by omega)] at n2 ⊢
      exact hC M2 (n1.trans n2)
    · omega
    · refine bs_X11_digsBy_93 hX ?_
      simp only [bk_X11_digsBy_0, k_X11_digsBy_0, bk_X11_digsBy_36, k_X11_digsBy_36, bk_X11_digsBy_54, k_X11_digsBy_54, bk_X11_digsBy_71, k_X11_digsBy_71, bk_X11_digsBy_93, k_X11_digsBy_93, ↓e_rk1, ↓e_rk0, ↓e_sk0, ↓e_sks, ↓e_ldi0, ↓e_ldis, ↓e_ldl0, ↓e_ldls, ↓e_lda0, ↓e_ldas, ↓e_ok0, ↓e_okss, ↓e_ok1i, ↓e_ok1r, ↓e_ok1n, ↓e_sti, ↓e_sta, ↓e_1, ↓e_2, ↓e_l1, ↓e_l2, ↓e_li, ↓e_sw0, ↓e_sws, ↓e_ceq, ↓e_cne, ↓e_clt, ↓e_cge, ↓e_cgt, ↓e_cle, ↓e_nil, ↓e_cons, ↓e_iconst, ↓e_bipush, ↓e_sipush, ↓e_ldc, ↓e_ldcw, ↓e_ldc2, ↓e_lconst, ↓e_iloadn, ↓e_iload, ↓e_lloadn, ↓e_lload, ↓e_aloadn, ↓e_aload, ↓e_istoren, ↓e_istore, ↓e_astoren, ↓e_astore, ↓e_add, ↓e_iinc, ↓e_iadd, ↓e_isub, ↓e_imul, ↓e_iand, ↓e_ior, ↓e_ixor, ↓e_ishl, ↓e_iushr, ↓e_idiv, ↓e_irem, ↓e_ineg, ↓e_i2l, ↓e_i2b, ↓e_i2s, ↓e_l2i, ↓e_land, ↓e_lor, ↓e_lshl, ↓e_lshr, ↓e_lushr, ↓e_lcmp, ↓e_dupi, ↓e_dupr, ↓e_popi, ↓e_dup2, ↓e_goto, ↓e_if, ↓e_icmp, ↓e_tsw, ↓e_lsw, ↓e_getf, ↓e_putf, ↓e_gets, ↓e_iald, ↓e_cald, ↓e_iast, ↓e_aald, ↓e_aast, ↓e_len, ↓e_copy, ↓e_abs, ↓e_max, ↓e_min, ↓e_iret, ↓e_aret, ↓e_vret, ↓e_is0, ↓e_is1, ↓e_is2, ↓e_is3, ↓e_is4, ↓e_iv1, ↓e_iv2, ↓e_iv3, ↓e_iv4, ↓e_iv5, ↓e_iv6, ↓rt_X11_digsBy, ↓reduceIte, Nat.reduceAdd, Nat.reduceEqDiff, ↓zcl0, ↓zclv, List.map_nil, List.sum_nil, List.map_cons, List.sum_cons, zcat, true_and, and_true, Nat.reduceLeDiff, Nat.reduceAdd, eq_self, forall_const, e_ok0, e_okss, e_ok1i, e_ok1r, e_ok1n, zl_1, zl_3, zl_6, zl_12, zl_40, zl_70, Int.reduceToNat, Int.reduceAdd, Int.reduceMul, Int.reduceSub, Int.reduceNeg, Int.reduceLT, Int.reduceLE, Int.reduceEq, not_false_eq_true, not_true_eq_false, false_implies, true_implies, implies_true, Int.reduceDiv, Int.reduceMod, zr8_zr, zr_zbo, z01_zbo, z01_0, z01_1, zbo_eq0, zup_eq, zup_o, zup_k, ne_eq, ↓ct_dggB_ran, ↓r_ran, ↓B_ran, ↓ct_dggB_of, ↓r_of, ↓B_of, ↓ct_dggB_above, ↓r_above, ↓B_above, ↓ct_dggB_dggA, ↓r_dggA, ↓B_dggA, ↓v_87, ↓g_87_0, ↓l_88, ↓s_88, ↓n_88, ↓g_87_1, ↓l_89, ↓s_89, ↓n_89, ↓g_87_2, ↓l_90, ↓s_90, ↓n_90, ↓g_87_3, ↓p_87_3, ↓g_87_4, ↓l_91, ↓s_91, ↓n_91, ↓g_87_5, ↓p_87_5, ↓g_87_6, ↓p_87_6, ↓g_87_7, ↓p_87_7, ↓g_87_8, ↓p_87_8, ↓g_87_9, ↓p_87_9, ↓g_87_10, ↓p_87_10, ↓g_87_11, ↓l_92, ↓s_92, ↓n_92, ↓g_87_12, ↓l_93, ↓s_93, ↓n_93, ↓g_87_13, ↓p_87_13, ↓g_87_14, ↓l_94, ↓s_94, ↓n_94, ↓g_87_15, ↓p_87_15, ↓g_87_16, ↓l_95, ↓s_95, ↓n_95, ↓g_87_17, ↓l_96, ↓s_96, ↓n_96, ↓g_87_18, ↓l_97, ↓s_97, ↓n_97, ↓g_87_19, ↓p_87_19, ↓g_87_20, ↓p_87_20, ↓g_87_21, ↓l_98, ↓s_98, ↓n_98, ↓g_87_22, ↓l_99, ↓s_99, ↓n_99, ↓g_87_23, ↓l_100, ↓s_100, ↓n_100, ↓g_87_24, ↓l_101, ↓s_101, ↓n_101]
      have ea : vdg (M 87 20) (ei (M 88) (M 87 20) 1) (abv k) x (tS M) = vdg (M 87 20) (ei (M 88) (M 87 20) 1) k x (tS M) := by
        unfold vdg
        rw [abv_if]
        (repeat' split) <;> first | rfl | omega
      have ab := abv_if k
      refine ⟨rg_i (by omega) (by omega), ?_, vt, fun M2 n2 => ?_⟩
      · split at ab <;> omega
      rw [ea] at n2 ⊢
      exact hC M2 n2
def B_dggC (k : Int) (x : Int) (M : Nat → Nat → Int) (post : Option ZV → (Nat → Nat → Int) → Prop) : Prop := (0 ≤ k ∧ k ≤ 6) ∧ Vtr M ∧ ∀ M2 : ZMm, Nx M (vdg (M 87 20) (ei (M 88) (M 87 20) 1) k x (tS M)).2 M2 → post (some (.inl (vdg (M 87 20) (ei (M 88) (M 87 20) 1) k x (tS M)).1)) M2
def C_dggC : ZC := fun as h post => match as with
  | [.inr (.inr (.inl 87)), .inl k, .inl x] => h.1 = zG ∧ B_dggC k x h.2 (fun v M => post v (zG, M))
  | _ => False
theorem r_dggC {k : Int} {x : Int} {M : Nat → Nat → Int} {post : Option ZV → ZH → Prop} : C_dggC [.inr (.inr (.inl 87)), .inl k, .inl x] (zG, M) post = B_dggC k x M (fun v M => post v (zG, M)) := by show (zG = zG ∧ _) = _; simp
def ct_dggC : Nat → ZC := fun n => if n = 203 then C_ran else if n = 126 then C_of else if n = 128 then C_above else if n = 206 then C_dggB else fun _ _ _ => False
theorem ct_dggC_ran {as : List ZV} {h : ZH} {post : Option ZV → ZH → Prop} : ct_dggC 203 as h post = C_ran as h post := rfl
theorem ct_dggC_of {as : List ZV} {h : ZH} {post : Option ZV → ZH → Prop} : ct_dggC 126 as h post = C_of as h post := rfl
theorem ct_dggC_above {as : List ZV} {h : ZH} {post : Option ZV → ZH → Prop} : ct_dggC 128 as h post = C_above as h post := rfl
theorem ct_dggC_dggB {as : List ZV} {h : ZH} {post : Option ZV → ZH → Prop} : ct_dggC 206 as h post = C_dggB as h post := rfl
theorem c_dggC {E : ZE} {d : Nat} (hd : 4 ≤ d) : zMet E d mX11_digsBy C_dggC := by
  refine zmet_of (o := 11) (ini := false) (CT := ct_dggC) gd_X11_digsBy rfl (fun h => by cases h) (by omega) ?_ ?_
  · intro n as h post hh
    unfold ct_dggC at hh
    by_cases c : n = 203
    · subst c; exact ⟨gd_X11_ran, 1, by omega, c_ran (by omega)⟩
    rw [if_neg c] at hh
    by_cases c : n = 126
    · subst c; exact ⟨gd_X11_of, 1, by omega, c_of (by omega)⟩
    rw [if_neg c] at hh
    by_cases c : n = 128
    · subst c; exact ⟨gd_X11_above, 1, by omega, c_above (by omega)⟩
    rw [if_neg c] at hh
    by_cases c : n = 206
    · subst c; exact ⟨gd_X11_digsBy, 3, by omega, c_dggB (by omega)⟩
    rw [if_neg c] at hh
    exact hh.elim
  intro as h post hC
  match as, hC with
  | [.inr (.inr (.inl 87)), .inl k, .inl x], hC =>
    refine ⟨Nat.le_of_ble_eq_true rfl, fun X hX => bs_X11_digsBy_0 hX ?_⟩
    obtain ⟨G, M⟩ := h
    obtain ⟨hG, hC⟩ := hC
    dsimp only at hG
    subst hG
    simp only [B_dggC] at hC
    show bk_X11_digsBy_0 E ct_dggC X _ [some (.inr (.inr (.inl 87))), some (.inl k), some (.inl x)] [] (zG, M) (0, 0)
    obtain ⟨hk, vt, hC⟩ := hC
    have hw := vt.2.2
    have zk : zr k = k := zr_of (by omega) (by omega)
    simp only [bk_X11_digsBy_0, k_X11_digsBy_0, bk_X11_digsBy_36, k_X11_digsBy_36, bk_X11_digsBy_54, k_X11_digsBy_54, bk_X11_digsBy_71, k_X11_digsBy_71, bk_X11_digsBy_93, k_X11_digsBy_93, ↓e_rk1, ↓e_rk0, ↓e_sk0, ↓e_sks, ↓e_ldi0, ↓e_ldis, ↓e_ldl0, ↓e_ldls, ↓e_lda0, ↓e_ldas, ↓e_ok0, ↓e_okss, ↓e_ok1i, ↓e_ok1r, ↓e_ok1n, ↓e_sti, ↓e_sta, ↓e_1, ↓e_2, ↓e_l1, ↓e_l2, ↓e_li, ↓e_sw0, ↓e_sws, ↓e_ceq, ↓e_cne, ↓e_clt, ↓e_cge, ↓e_cgt, ↓e_cle, ↓e_nil, ↓e_cons, ↓e_iconst, ↓e_bipush, ↓e_sipush, ↓e_ldc, ↓e_ldcw, ↓e_ldc2, ↓e_lconst, ↓e_iloadn, ↓e_iload, ↓e_lloadn, ↓e_lload, ↓e_aloadn, ↓e_aload, ↓e_istoren, ↓e_istore, ↓e_astoren, ↓e_astore, ↓e_add, ↓e_iinc, ↓e_iadd, ↓e_isub, ↓e_imul, ↓e_iand, ↓e_ior, ↓e_ixor, ↓e_ishl, ↓e_iushr, ↓e_idiv, ↓e_irem, ↓e_ineg, ↓e_i2l, ↓e_i2b, ↓e_i2s, ↓e_l2i, ↓e_land, ↓e_lor, ↓e_lshl, ↓e_lshr, ↓e_lushr, ↓e_lcmp, ↓e_dupi, ↓e_dupr, ↓e_popi, ↓e_dup2, ↓e_goto, ↓e_if, ↓e_icmp, ↓e_tsw, ↓e_lsw, ↓e_getf, ↓e_putf, ↓e_gets, ↓e_iald, ↓e_cald, ↓e_iast, ↓e_aald, ↓e_aast, ↓e_len, ↓e_copy, ↓e_abs, ↓e_max, ↓e_min, ↓e_iret, ↓e_aret, ↓e_vret, ↓e_is0, ↓e_is1, ↓e_is2, ↓e_is3, ↓e_is4, ↓e_iv1, ↓e_iv2, ↓e_iv3, ↓e_iv4, ↓e_iv5, ↓e_iv6, ↓rt_X11_digsBy, ↓reduceIte, Nat.reduceAdd, Nat.reduceEqDiff, ↓zcl0, ↓zclv, List.map_nil, List.sum_nil, List.map_cons, List.sum_cons, zcat, true_and, and_true, Nat.reduceLeDiff, Nat.reduceAdd, eq_self, forall_const, e_ok0, e_okss, e_ok1i, e_ok1r, e_ok1n, zl_1, zl_3, zl_6, zl_12, zl_40, zl_70, Int.reduceToNat, Int.reduceAdd, Int.reduceMul, Int.reduceSub, Int.reduceNeg, Int.reduceLT, Int.reduceLE, Int.reduceEq, not_false_eq_true, not_true_eq_false, false_implies, true_implies, implies_true, Int.reduceDiv, Int.reduceMod, zr8_zr, zr_zbo, z01_zbo, z01_0, z01_1, zbo_eq0, zup_eq, zup_o, zup_k, ne_eq, ↓ct_dggC_ran, ↓r_ran, ↓B_ran, ↓ct_dggC_of, ↓r_of, ↓B_of, ↓ct_dggC_above, ↓r_above, ↓B_above, ↓ct_dggC_dggB, ↓r_dggB, ↓B_dggB, ↓v_87, ↓g_87_0, ↓l_88, ↓s_88, ↓n_88, ↓g_87_1, ↓l_89, ↓s_89, ↓n_89, ↓g_87_2, ↓l_90, ↓s_90, ↓n_90, ↓g_87_3, ↓p_87_3, ↓g_87_4, ↓l_91, ↓s_91, ↓n_91, ↓g_87_5, ↓p_87_5, ↓g_87_6, ↓p_87_6, ↓g_87_7, ↓p_87_7, ↓g_87_8, ↓p_87_8, ↓g_87_9, ↓p_87_9, ↓g_87_10, ↓p_87_10, ↓g_87_11, ↓l_92, ↓s_92, ↓n_92, ↓g_87_12, ↓l_93, ↓s_93, ↓n_93, ↓g_87_13, ↓p_87_13, ↓g_87_14, ↓l_94, ↓s_94, ↓n_94, ↓g_87_15, ↓p_87_15, ↓g_87_16, ↓l_95, ↓s_95, ↓n_95, ↓g_87_17, ↓l_96, ↓s_96, ↓n_96, ↓g_87_18, ↓l_97, ↓s_97, ↓n_97, ↓g_87_19, ↓p_87_19, ↓g_87_20, ↓p_87_20, ↓g_87_21, ↓l_98, ↓s_98, ↓n_98, ↓g_87_22, ↓l_99, ↓s_99, ↓n_99, ↓g_87_23, ↓l_100, ↓s_100, ↓n_100, ↓g_87_24, ↓l_101, ↓s_101, ↓n_101, zk]
    refine ⟨fun c => ?_, fun c => ⟨fun c2 => ?_, fun c2 => ⟨fun c3 => ?_, fun c3 => ?_⟩⟩⟩
    · refine bs_X11_digsBy_36 hX ?_
      simp only [bk_X11_digsBy_0, k_X11_digsBy_0, bk_X11_digsBy_36, k_X11_digsBy_36, bk_X11_digsBy_54, k_X11_digsBy_54, bk_X11_digsBy_71, k_X11_digsBy_71, bk_X11_digsBy_93, k_X11_digsBy_93, ↓e_rk1, ↓e_rk0, ↓e_sk0, ↓e_sks, ↓e_ldi0, ↓e_ldis, ↓e_ldl0, ↓e_ldls, ↓e_lda0, ↓e_ldas, ↓e_ok0, ↓e_okss, ↓e_ok1i, ↓e_ok1r, ↓e_ok1n, ↓e_sti, ↓e_sta, ↓e_1, ↓e_2, ↓e_l1, ↓e_l2, ↓e_li, ↓e_sw0, ↓e_sws, ↓e_ceq, ↓e_cne, ↓e_clt, ↓e_cge, ↓e_cgt, ↓e_cle, ↓e_nil, ↓e_cons, ↓e_iconst, ↓e_bipush, ↓e_sipush, ↓e_ldc, ↓e_ldcw, ↓e_ldc2, ↓e_lconst, ↓e_iloadn, ↓e_iload, ↓e_lloadn, ↓e_lload, ↓e_aloadn, ↓e_aload, ↓e_istoren, ↓e_istore, ↓e_astoren, ↓e_astore, ↓e_add, ↓e_iinc, ↓e_iadd, ↓e_isub, ↓e_imul, ↓e_iand, ↓e_ior, ↓e_ixor, ↓e_ishl, ↓e_iushr, ↓e_idiv, ↓e_irem, ↓e_ineg, ↓e_i2l, ↓e_i2b, ↓e_i2s, ↓e_l2i, ↓e_land, ↓e_lor, ↓e_lshl, ↓e_lshr, ↓e_lushr, ↓e_lcmp, ↓e_dupi, ↓e_dupr, ↓e_popi, ↓e_dup2, ↓e_goto, ↓e_if, ↓e_icmp, ↓e_tsw, ↓e_lsw, ↓e_getf, ↓e_putf, ↓e_gets, ↓e_iald, ↓e_cald, ↓e_iast, ↓e_aald, ↓e_aast, ↓e_len, ↓e_copy, ↓e_abs, ↓e_max, ↓e_min, ↓e_iret, ↓e_aret, ↓e_vret, ↓e_is0, ↓e_is1, ↓e_is2, ↓e_is3, ↓e_is4, ↓e_iv1, ↓e_iv2, ↓e_iv3, ↓e_iv4, ↓e_iv5, ↓e_iv6, ↓rt_X11_digsBy, ↓reduceIte, Nat.reduceAdd, Nat.reduceEqDiff, ↓zcl0, ↓zclv, List.map_nil, List.sum_nil, List.map_cons, List.sum_cons, zcat, true_and, and_true, Nat.reduceLeDiff, Nat.reduceAdd, eq_self, forall_const, e_ok0, e_okss, e_ok1i, e_ok1r, e_ok1n, zl_1, zl_3, zl_6, zl_12, zl_40, zl_70, Int.reduceToNat, Int.reduceAdd, Int.reduceMul, Int.reduceSub, Int.reduceNeg, Int.reduceLT, Int.reduceLE, Int.reduceEq, not_false_eq_true, not_true_eq_false, false_implies, true_implies, implies_true, Int.reduceDiv, Int.reduceMod, zr8_zr, zr_zbo, z01_zbo, z01_0, z01_1, zbo_eq0, zup_eq, zup_o, zup_k, ne_eq, ↓ct_dggC_ran, ↓r_ran, ↓B_ran, ↓ct_dggC_of, ↓r_of, ↓B_of, ↓ct_dggC_above, ↓r_above, ↓B_above, ↓ct_dggC_dggB, ↓r_dggB, ↓B_dggB, ↓v_87, ↓g_87_0, ↓l_88, ↓s_88, ↓n_88, ↓g_87_1, ↓l_89, ↓s_89, ↓n_89, ↓g_87_2, ↓l_90, ↓s_90, ↓n_90, ↓g_87_3, ↓p_87_3, ↓g_87_4, ↓l_91, ↓s_91, ↓n_91, ↓g_87_5, ↓p_87_5, ↓g_87_6, ↓p_87_6, ↓g_87_7, ↓p_87_7, ↓g_87_8, ↓p_87_8, ↓g_87_9, ↓p_87_9, ↓g_87_10, ↓p_87_10, ↓g_87_11, ↓l_92, ↓s_92, ↓n_92, ↓g_87_12, ↓l_93, ↓s_93, ↓n_93, ↓g_87_13, ↓p_87_13, ↓g_87_14, ↓l_94, ↓s_94, ↓n_94, ↓g_87_15, ↓p_87_15, ↓g_87_16, ↓l_95, ↓s_95, ↓n_95, ↓g_87_17, ↓l_96, ↓s_96, ↓n_96, ↓g_87_18, ↓l_97, ↓s_97, ↓n_97, ↓g_87_19, ↓p_87_19, ↓g_87_20, ↓p_87_20, ↓g_87_21, ↓l_98, ↓s_98, ↓n_98, ↓g_87_22, ↓l_99, ↓s_99, ↓n_99, ↓g_87_23, ↓l_100, ↓s_100, ↓n_100, ↓g_87_24, ↓l_101, ↓s_101, ↓n_101]
      rw [vdg_0 (by omega)] at hC
      refine ⟨vt, fun M1 n1 => ?_⟩
      rw [n1.who, n1.d]
      exact ⟨by omega, by omega, hC M1 n1⟩
    · refine bs_X11_digsBy_54 hX ?_
      simp only [bk_X11_digsBy_0, k_X11_digsBy_0, bk_X11_digsBy_36, k_X11_digsBy_36, bk_X11_digsBy_54, k_X11_digsBy_54, bk_X11_digsBy_71, k_X11_digsBy_71, bk_X11_digsBy_93, k_X11_digsBy_93, ↓e_rk1, ↓e_rk0, ↓e_sk0, ↓e_sks, ↓e_ldi0, ↓e_ldis, ↓e_ldl0, ↓e_ldls, ↓e_lda0, ↓e_ldas, ↓e_ok0, ↓e_okss, ↓e_ok1i, ↓e_ok1r, ↓e_ok1n, ↓e_sti, ↓e_sta, ↓e_1, ↓e_2, ↓e_l1, ↓e_l2, ↓e_li, ↓e_sw0, ↓e_sws, ↓e_ceq, ↓e_cne, ↓e_clt, ↓e_cge, ↓e_cgt, ↓e_cle, ↓e_nil, ↓e_cons, ↓e_iconst, ↓e_bipush, ↓e_sipush, ↓e_ldc, ↓e_ldcw, ↓e_ldc2, ↓e_lconst, ↓e_iloadn, ↓e_iload, ↓e_lloadn, ↓e_lload, ↓e_aloadn, ↓e_aload, ↓e_istoren, ↓e_istore, ↓e_astoren, ↓e_astore, ↓e_add, ↓e_iinc, ↓e_iadd, ↓e_isub, ↓e_imul, ↓e_iand, ↓e_ior, ↓e_ixor, ↓e_ishl, ↓e_iushr, ↓e_idiv, ↓e_irem, ↓e_ineg, ↓e_i2l, ↓e_i2b, ↓e_i2s, ↓e_l2i, ↓e_land, ↓e_lor, ↓e_lshl, ↓e_lshr, ↓e_lushr, ↓e_lcmp, ↓e_dupi, ↓e_dupr, ↓e_popi, ↓e_dup2, ↓e_goto, ↓e_if, ↓e_icmp, ↓e_tsw, ↓e_lsw, ↓e_getf, ↓e_putf, ↓e_gets, ↓e_iald, ↓e_cald, ↓e_iast, ↓e_aald, ↓e_aast, ↓e_len, ↓e_copy, ↓e_abs, ↓e_max, ↓e_min, ↓e_iret, ↓e_aret, ↓e_vret, ↓e_is0, ↓e_is1, ↓e_is2, ↓e_is3, ↓e_is4, ↓e_iv1, ↓e_iv2, ↓e_iv3, ↓e_iv4, ↓e_iv5, ↓e_iv6, ↓rt_X11_digsBy, ↓reduceIte, Nat.reduceAdd, Nat.reduceEqDiff, ↓zcl0, ↓zclv, List.map_nil, List.sum_nil, List.map_cons, List.sum_cons, zcat, true_and, and_true, Nat.reduceLeDiff, Nat.reduceAdd, eq_self, forall_const, e_ok0, e_okss, e_ok1i, e_ok1r, e_ok1n, zl_1, zl_3, zl_6, zl_12, zl_40, zl_70, Int.reduceToNat, Int.reduceAdd, Int.reduceMul, Int.reduceSub, Int.reduceNeg, Int.reduceLT, Int.reduceLE, Int.reduceEq, not_false_eq_true, not_true_eq_false, false_implies, true_implies, implies_true, Int.reduceDiv, Int.reduceMod, zr8_zr, zr_zbo, z01_zbo, z01_0, z01_1, zbo_eq0, zup_eq, zup_o, zup_k, ne_eq, ↓ct_dggC_ran, ↓r_ran, ↓B_ran, ↓ct_dggC_of, ↓r_of, ↓B_of, ↓ct_dggC_above, ↓r_above, ↓B_above, ↓ct_dggC_dggB, ↓r_dggB, ↓B_dggB, ↓v_87, ↓g_87_0, ↓l_88, ↓s_88, ↓n_88, ↓g_87_1, ↓l_89, ↓s_89, ↓n_89, ↓g_87_2, ↓l_90, ↓s_90, ↓n_90, ↓g_87_3, ↓p_87_3, ↓g_87_4, ↓l_91, ↓s_91, ↓n_91, ↓g_87_5, ↓p_87_5, ↓g_87_6, ↓p_87_6, ↓g_87_7, ↓p_87_7, ↓g_87_8, ↓p_87_8, ↓g_87_9, ↓p_87_9, ↓g_87_10, ↓p_87_10, ↓g_87_11, ↓l_92, ↓s_92, ↓n_92, ↓g_87_12, ↓l_93, ↓s_93, ↓n_93, ↓g_87_13, ↓p_87_13, ↓g_87_14, ↓l_94, ↓s_94, ↓n_94, ↓g_87_15, ↓p_87_15, ↓g_87_16, ↓l_95, ↓s_95, ↓n_95, ↓g_87_17, ↓l_96, ↓s_96, ↓n_96, ↓g_87_18, ↓l_97, ↓s_97, ↓n_97, ↓g_87_19, ↓p_87_19, ↓g_87_20, ↓p_87_20, ↓g_87_21, ↓l_98, ↓s_98, ↓n_98, ↓g_87_22, ↓l_99, ↓s_99, ↓n_99, ↓g_87_23, ↓l_100, ↓s_100, ↓n_100, ↓g_87_24, ↓l_101, ↓s_101, ↓n_101, ab_3]
      rw [vdg_3 (by omega)] at hC
      refine ⟨vt, fun M1 n1 => ⟨rg_i (by omega) (by omega), n1.ok vt (rn1_ok vt.tok), fun M2 n2 => ?_⟩⟩
      rw [n1.who, n1.d, n1.1, vdg_0 (by omega)] at n2 ⊢
      exact hC M2 (n1.trans n2)
    · refine bs_X11_digsBy_71 hX ?_
      simp only [bk_X11_digsBy_0, k_X11_digsBy_0, bk_X11_digsBy_36, k_X11_digsBy_36, bk_X11_digsBy_54, k_X11_digsBy_54, bk_X11_digsBy_71, k_X11_digsBy_71, bk_X11_digsBy_93, k_X11_digsBy_93, ↓e_rk1, ↓e_rk0, ↓e_sk0, ↓e_sks, ↓e_ldi0, ↓e_ldis, ↓e_ldl0, ↓e_ldls, ↓e_lda0, ↓e_ldas, ↓e_ok0, ↓e_okss, ↓e_ok1i, ↓e_ok1r, ↓e_ok1n, ↓e_sti, ↓e_sta, ↓e_1, ↓e_2, ↓e_l1, ↓e_l2, ↓e_li, ↓e_sw0, ↓e_sws, ↓e_ceq, ↓e_cne, ↓e_clt, ↓e_cge, ↓e_cgt, ↓e_cle, ↓e_nil, ↓e_cons, ↓e_iconst, ↓e_bipush, ↓e_sipush, ↓e_ldc, ↓e_ldcw, ↓e_ldc2, ↓e_lconst, ↓e_iloadn, ↓e_iload, ↓e_lloadn, ↓e_lload, ↓e_aloadn, ↓e_aload, ↓e_istoren, ↓e_istore, ↓e_astoren, ↓e_astore, ↓e_add, ↓e_iinc, ↓e_iadd, ↓e_isub, ↓e_imul, ↓e_iand, ↓e_ior, ↓e_ixor, ↓e_ishl, ↓e_iushr, ↓e_idiv, ↓e_irem, ↓e_ineg, ↓e_i2l, ↓e_i2b, ↓e_i2s, ↓e_l2i, ↓e_land, ↓e_lor, ↓e_lshl, ↓e_lshr, ↓e_lushr, ↓e_lcmp, ↓e_dupi, ↓e_dupr, ↓e_popi, ↓e_dup2, ↓e_goto, ↓e_if, ↓e_icmp, ↓e_tsw, ↓e_lsw, ↓e_getf, ↓e_putf, ↓e_gets, ↓e_iald, ↓e_cald, ↓e_iast, ↓e_aald, ↓e_aast, ↓e_len, ↓e_copy, ↓e_abs, ↓e_max, ↓e_min, ↓e_iret, ↓e_aret, ↓e_vret, ↓e_is0, ↓e_is1, ↓e_is2, ↓e_is3, ↓e_is4, ↓e_iv1, ↓e_iv2, ↓e_iv3, ↓e_iv4, ↓e_iv5, ↓e_iv6, ↓rt_X11_digsBy, ↓reduceIte, Nat.reduceAdd, Nat.reduceEqDiff, ↓zcl0, ↓zclv, List.map_nil, List.sum_nil, List.map_cons, List.sum_cons, zcat, true_and, and_true, Nat.reduceLeDiff, Nat.reduceAdd, eq_self, forall_const, e_ok0, e_okss, e_ok1i, e_ok1r, e_ok1n, zl_1, zl_3, zl_6, zl_12, zl_40, zl_70, Int.reduceToNat, Int.reduceAdd, Int.reduceMul, Int.reduceSub, Int.reduceNeg, Int.reduceLT, Int.reduceLE, Int.reduceEq, not_false_eq_true, not_true_eq_false, false_implies, true_implies, implies_true, Int.reduceDiv, Int.reduceMod, zr8_zr, zr_zbo, z01_zbo, z01_0, z01_1, zbo_eq0, zup_eq, zup_o, zup_k, ne_eq, ↓ct_dggC_ran, ↓r_ran, ↓B_ran, ↓ct_dggC_of, ↓r_of, ↓B_of, ↓ct_dggC_above, ↓r_above, ↓B_above, ↓ct_dggC_dggB, ↓r_dggB, ↓B_dggB, ↓v_87, ↓g_87_0, ↓l_88, ↓s_88, ↓n_88, ↓g_87_1, ↓l_89, ↓s_89, ↓n_89, ↓g_87_2, ↓l_90, ↓s_90, ↓n_90, ↓g_87_3, ↓p_87_3, ↓g_87_4, ↓l_91, ↓s_91, ↓n_91, ↓g_87_5, ↓p_87_5, ↓g_87_6, ↓p_87_6, ↓g_87_7, ↓p_87_7, ↓g_87_8, ↓p_87_8, ↓g_87_9, ↓p_87_9, ↓g_87_10, ↓p_87_10, ↓g_87_11, ↓l_92, ↓s_92, ↓n_92, ↓g_87_12, ↓l_93, ↓s_93, ↓n_93, ↓g_87_13, ↓p_87_13, ↓g_87_14, ↓l_94, ↓s_94, ↓n_94, ↓g_87_15, ↓p_87_15, ↓g_87_16, ↓l_95, ↓s_95, ↓n_95, ↓g_87_17, ↓l_96, ↓s_96, ↓n_96, ↓g_87_18, ↓l_97, ↓s_97, ↓n_97, ↓g_87_19, ↓p_87_19, ↓g_87_20, ↓p_87_20, ↓g_87_21, ↓l_98, ↓s_98, ↓n_98, ↓g_87_22, ↓l_99, ↓s_99, ↓n_99, ↓g_87_23, ↓l_100, ↓s_100, ↓n_100, ↓g_87_24, ↓l_101, ↓s_101, ↓n_101, ab_6]
      rw [vdg_6 (by omega)] at hC
      refine ⟨vt, fun M1 n1 => ⟨rg_i (by omega) (by omega), n1.ok vt (rn1_ok vt.tok), fun M2 n2 => ?_⟩⟩
      rw [n2.who, n1.who, n1.d, n1.1, vdg_3 (by omega)]
      rw [n1.who, n1.d, n1.1, vdg_3 (by omega)] at n2
      exact hC M2 (n1.trans n2)
    · refine bs_X11_digsBy_93 hX ?_
      simp only [bk_X11_digsBy_0, k_X11_digsBy_0, bk_X11_digsBy_36, k_X11_digsBy_36, bk_X11_digsBy_54, k_X11_digsBy_54, bk_X11_digsBy_71, k_X11_digsBy_71, bk_X11_digsBy_93, k_X11_digsBy_93, ↓e_rk1, ↓e_rk0, ↓e_sk0, ↓e_sks, ↓e_ldi0, ↓e_ldis, ↓e_ldl0, ↓e_ldls, ↓e_lda0, ↓e_ldas, ↓e_ok0, ↓e_okss, ↓e_ok1i, ↓e_ok1r, ↓e_ok1n, ↓e_sti, ↓e_sta, ↓e_1, ↓e_2, ↓e_l1, ↓e_l2, ↓e_li, ↓e_sw0, ↓e_sws, ↓e_ceq, ↓e_cne, ↓e_clt, ↓e_cge, ↓e_cgt, ↓e_cle, ↓e_nil, ↓e_cons, ↓e_iconst, ↓e_bipush, ↓e_sipush, ↓e_ldc, ↓e_ldcw, ↓e_ldc2, ↓e_lconst, ↓e_iloadn, ↓e_iload, ↓e_lloadn, ↓e_lload, ↓e_aloadn, ↓e_aload, ↓e_istoren, ↓e_istore, ↓e_astoren, ↓e_astore, ↓e_add, ↓e_iinc, ↓e_iadd, ↓e_isub, ↓e_imul, ↓e_iand, ↓e_ior, ↓e_ixor, ↓e_ishl, ↓e_iushr, ↓e_idiv, ↓e_irem, ↓e_ineg, ↓e_i2l, ↓e_i2b, ↓e_i2s, ↓e_l2i, ↓e_land, ↓e_lor, ↓e_lshl, ↓e_lshr, ↓e_lushr, ↓e_lcmp, ↓e_dupi, ↓e_dupr, ↓e_popi, ↓e_dup2, ↓e_goto, ↓e_if, ↓e_icmp, ↓e_tsw, ↓e_lsw, ↓e_getf, ↓e_putf, ↓e_gets, ↓e_iald, ↓e_cald, ↓e_iast, ↓e_aald, ↓e_aast, ↓e_len, ↓e_copy, ↓e_abs, ↓e_max, ↓e_min, ↓e_iret, ↓e_aret, ↓e_vret, ↓e_is0, ↓e_is1, ↓e_is2, ↓e_is3, ↓e_is4, ↓e_iv1, ↓e_iv2, ↓e_iv3, ↓e_iv4, ↓e_iv5, ↓e_iv6, ↓rt_X11_digsBy, ↓reduceIte, Nat.reduceAdd, Nat.reduceEqDiff, ↓zcl0, ↓zclv, List.map_nil, List.sum_nil, List.map_cons, List.sum_cons, zcat, true_and, and_true, Nat.reduceLeDiff, Nat.reduceAdd, eq_self, forall_const, e_ok0, e_okss, e_ok1i, e_ok1r, e_ok1n, zl_1, zl_3, zl_6, zl_12, zl_40, zl_70, Int.reduceToNat, Int.reduceAdd, Int.reduceMul, Int.reduceSub, Int.reduceNeg, Int.reduceLT, Int.reduceLE, Int.reduceEq, not_false_eq_true, not_true_eq_false, false_implies, true_implies, implies_true, Int.reduceDiv, Int.reduceMod, zr8_zr, zr_zbo, z01_zbo, z01_0, z01_1, zbo_eq0, zup_eq, zup_o, zup_k, ne_eq, ↓ct_dggC_ran, ↓r_ran, ↓B_ran, ↓ct_dggC_of, ↓r_of, ↓B_of, ↓ct_dggC_above, ↓r_above, ↓B_above, ↓ct_dggC_dggB, ↓r_dggB, ↓B_dggB, ↓v_87, ↓g_87_0, ↓l_88, ↓s_88, ↓n_88, ↓g_87_1, ↓l_89, ↓s_89, ↓n_89, ↓g_87_2, ↓l_90, ↓s_90, ↓n_90, ↓g_87_3, ↓p_87_3, ↓g_87_4, ↓l_91, ↓s_91, ↓n_91, ↓g_87_5, ↓p_87_5, ↓g_87_6, ↓p_87_6, ↓g_87_7, ↓p_87_7, ↓g_87_8, ↓p_87_8, ↓g_87_9, ↓p_87_9, ↓g_87_10, ↓p_87_10, ↓g_87_11, ↓l_92, ↓s_92, ↓n_92, ↓g_87_12, ↓l_93, ↓s_93, ↓n_93, ↓g_87_13, ↓p_87_13, ↓g_87_14, ↓l_94, ↓s_94, ↓n_94, ↓g_87_15, ↓p_87_15, ↓g_87_16, ↓l_95, ↓s_95, ↓n_95, ↓g_87_17, ↓l_96, ↓s_96, ↓n_96, ↓g_87_18, ↓l_97, ↓s_97, ↓n_97, ↓g_87_19, ↓p_87_19, ↓g_87_20, ↓p_87_20, ↓g_87_21, ↓l_98, ↓s_98, ↓n_98, ↓g_87_22, ↓l_99, ↓s_99, ↓n_99, ↓g_87_23, ↓l_100, ↓s_100, ↓n_100, ↓g_87_24, ↓l_101, ↓s_101, ↓n_101]
      have ea : vdg (M 87 20) (ei (M 88) (M 87 20) 1) (abv k) x (tS M) = vdg (M 87 20) (ei (M 88) (M 87 20) 1) k x (tS M) := by
        unfold vdg
        rw [abv_if]
        (repeat' split) <;> first | rfl | omega
      have ab := abv_if k
      refine ⟨rg_i (by omega) (by omega), ?_, vt, fun M2 n2 => ?_⟩
      · split at ab <;> omega
      rw [ea] at n2 ⊢
      exact hC M2 n2
def B_hrrA (k : Int) (x : Int) (M : Nat → Nat → Int) (post : Option ZV → (Nat → Nat → Int) → Prop) : Prop := (0 ≤ k ∧ k ≤ 0) ∧ Vtr M ∧ ∀ M2 : ZMm, Nx M (vhe (M 87 20) (ei (M 88) (M 87 20) 1) (ei (M 88) (M 87 20) 0) k x (tS M)).2 M2 → post (some (.inl (vhe (M 87 20) (ei (M 88) (M 87 20) 1) (ei (M 88) (M 87 20) 0) k x (tS M)).1)) M2
def C_hrrA : ZC := fun as h post => match as with
  | [.inr (.inr (.inl 87)), .inl k, .inl x] => h.1 = zG ∧ B_hrrA k x h.2 (fun v M => post v (zG, M))
  | _ => False
theorem r_hrrA {k : Int} {x : Int} {M : Nat → Nat → Int} {post : Option ZV → ZH → Prop} : C_hrrA [.inr (.inr (.inl 87)), .inl k, .inl x] (zG, M) post = B_hrrA k x M (fun v M => post v (zG, M)) := by show (zG = zG ∧ _) = _; simp
def ct_hrrA : Nat → ZC := fun n => if n = 203 then C_ran else if n = 126 then C_of else if n = 204 then C_knkC else fun _ _ _ => False
theorem ct_hrrA_ran {as : List ZV} {h : ZH} {post : Option ZV → ZH → Prop} : ct_hrrA 203 as h post = C_ran as h post := rfl
theorem ct_hrrA_of {as : List ZV} {h : ZH} {post : Option ZV → ZH → Prop} : ct_hrrA 126 as h post = C_of as h post := rfl
theorem ct_hrrA_knkC {as : List ZV} {h : ZH} {post : Option ZV → ZH → Prop} : ct_hrrA 204 as h post = C_knkC as h post := rfl
theorem c_hrrA {E : ZE} {d : Nat} (hd : 5 ≤ d) : zMet E d mX11_hearsBy C_hrrA := by
  refine zmet_of (o := 11) (ini := false) (CT := ct_hrrA) gd_X11_hearsBy rfl (fun h => by cases h) (by omega) ?_ ?_
  · intro n as h post hh
    unfold ct_hrrA at hh
    by_cases c : n = 203
    · subst c; exact ⟨gd_X11_ran, 1, by omega, c_ran (by omega)⟩
    rw [if_neg c] at hh
    by_cases c : n = 126
    · subst c; exact ⟨gd_X11_of, 1, by omega, c_of (by omega)⟩
    rw [if_neg c] at hh
    by_cases c : n = 204
    · subst c; exact ⟨gd_X11_knocksBy, 4, by omega, c_knkC (by omega)⟩
    rw [if_neg c] at hh
    exact hh.elim
  intro as h post hC
  match as, hC with
  | [.inr (.inr (.inl 87)), .inl k, .inl x], hC =>
    refine ⟨Nat.le_of_ble_eq_true rfl, fun X hX => bs_X11_hearsBy_0 hX ?_⟩
    obtain ⟨G, M⟩ := h
    obtain ⟨hG, hC⟩ := hC
    dsimp only at hG
    subst hG
    simp only [B_hrrA] at hC
    show bk_X11_hearsBy_0 E ct_hrrA X _ [some (.inr (.inr (.inl 87))), some (.inl k), some (.inl x), none] [] (zG, M) (0, 0)
    obtain ⟨hk, vt, hC⟩ := hC
    have hw := vt.2.2
    have ek := (Vd_ei vt.1 (e := M 87 20) (by omega) (by omega)).1
    have zk : zr k = k := zr_of (by omega) (by omega)
    simp only [bk_X11_hearsBy_0, k_X11_hearsBy_0, bk_X11_hearsBy_36, k_X11_hearsBy_36, bk_X11_hearsBy_59, k_X11_hearsBy_59, bk_X11_hearsBy_92, k_X11_hearsBy_92, bk_X11_hearsBy_110, k_X11_hearsBy_110, ↓e_rk1, ↓e_rk0, ↓e_sk0, ↓e_sks, ↓e_ldi0, ↓e_ldis, ↓e_ldl0, ↓e_ldls, ↓e_lda0, ↓e_ldas, ↓e_ok0, ↓e_okss, ↓e_ok1i, ↓e_ok1r, ↓e_ok1n, ↓e_sti, ↓e_sta, ↓e_1, ↓e_2, ↓e_l1, ↓e_l2, ↓e_li, ↓e_sw0, ↓e_sws, ↓e_ceq, ↓e_cne, ↓e_clt, ↓e_cge, ↓e_cgt, ↓e_cle, ↓e_nil, ↓e_cons, ↓e_iconst, ↓e_bipush, ↓e_sipush, ↓e_ldc, ↓e_ldcw, ↓e_ldc2, ↓e_lconst, ↓e_iloadn, ↓e_iload, ↓e_lloadn, ↓e_lload, ↓e_aloadn, ↓e_aload, ↓e_istoren, ↓e_istore, ↓e_astoren, ↓e_astore, ↓e_add, ↓e_iinc, ↓e_iadd, ↓e_isub, ↓e_imul, ↓e_iand, ↓e_ior, ↓e_ixor, ↓e_ishl, ↓e_iushr, ↓e_idiv, ↓e_irem, ↓e_ineg, ↓e_i2l, ↓e_i2b, ↓e_i2s, ↓e_l2i, ↓e_land, ↓e_lor, ↓e_lshl, ↓e_lshr, ↓e_lushr, ↓e_lcmp, ↓e_dupi, ↓e_dupr, ↓e_popi, ↓e_dup2, ↓e_goto, ↓e_if, ↓e_icmp, ↓e_tsw, ↓e_lsw, ↓e_getf, ↓e_putf, ↓e_gets, ↓e_iald, ↓e_cald, ↓e_iast, ↓e_aald, ↓e_aast, ↓e_len, ↓e_copy, ↓e_abs, ↓e_max, ↓e_min, ↓e_iret, ↓e_aret, ↓e_vret, ↓e_is0, ↓e_is1, ↓e_is2, ↓e_is3, ↓e_is4, ↓e_iv1, ↓e_iv2, ↓e_iv3, ↓e_iv4, ↓e_iv5, ↓e_iv6, ↓rt_X11_hearsBy, ↓reduceIte, Nat.reduceAdd, Nat.reduceEqDiff, ↓zcl0, ↓zclv, List.map_nil, List.sum_nil, List.map_cons, List.sum_cons, zcat, true_and, and_true, Nat.reduceLeDiff, Nat.reduceAdd, eq_self, forall_const, e_ok0, e_okss, e_ok1i, e_ok1r, e_ok1n, zl_0, zl_1, zl_2, zl_5, zl_11, zl_30, zl_60, Int.reduceToNat, Int.reduceAdd, Int.reduceMul, Int.reduceSub, Int.reduceNeg, Int.reduceLT, Int.reduceLE, Int.reduceEq, not_false_eq_true, not_true_eq_false, false_implies, true_implies, implies_true, Int.reduceDiv, Int.reduceMod, zr8_zr, zr_zbo, z01_zbo, z01_0, z01_1, zbo_eq0, zup_eq, zup_o, zup_k, ne_eq, ↓ct_hrrA_ran, ↓r_ran, ↓B_ran, ↓ct_hrrA_of, ↓r_of, ↓B_of, ↓ct_hrrA_knkC, ↓r_knkC, ↓B_knkC, ↓v_87, ↓g_87_0, ↓l_88, ↓s_88, ↓n_88, ↓g_87_1, ↓l_89, ↓s_89, ↓n_89, ↓g_87_2, ↓l_90, ↓s_90, ↓n_90, ↓g_87_3, ↓p_87_3, ↓g_87_4, ↓l_91, ↓s_91, ↓n_91, ↓g_87_5, ↓p_87_5, ↓g_87_6, ↓p_87_6, ↓g_87_7, ↓p_87_7, ↓g_87_8, ↓p_87_8, ↓g_87_9, ↓p_87_9, ↓g_87_10, ↓p_87_10, ↓g_87_11, ↓l_92, ↓s_92, ↓n_92, ↓g_87_12, ↓l_93, ↓s_93, ↓n_93, ↓g_87_13, ↓p_87_13, ↓g_87_14, ↓l_94, ↓s_94, ↓n_94, ↓g_87_15, ↓p_87_15, ↓g_87_16, ↓l_95, ↓s_95, ↓n_95, ↓g_87_17, ↓l_96, ↓s_96, ↓n_96, ↓g_87_18, ↓l_97, ↓s_97, ↓n_97, ↓g_87_19, ↓p_87_19, ↓g_87_20, ↓p_87_20, ↓g_87_21, ↓l_98, ↓s_98, ↓n_98, ↓g_87_22, ↓l_99, ↓s_99, ↓n_99, ↓g_87_23, ↓l_100, ↓s_100, ↓n_100, ↓g_87_24, ↓l_101, ↓s_101, ↓n_101, zk]
    refine ⟨fun c => ?_, fun c => ⟨fun c2 => ?_, fun c2 => ⟨fun c3 => ?_, fun c3 => ?_⟩⟩⟩
    · refine bs_X11_hearsBy_36 hX ?_
      simp only [bk_X11_hearsBy_0, k_X11_hearsBy_0, bk_X11_hearsBy_36, k_X11_hearsBy_36, bk_X11_hearsBy_59, k_X11_hearsBy_59, bk_X11_hearsBy_92, k_X11_hearsBy_92, bk_X11_hearsBy_110, k_X11_hearsBy_110, ↓e_rk1, ↓e_rk0, ↓e_sk0, ↓e_sks, ↓e_ldi0, ↓e_ldis, ↓e_ldl0, ↓e_ldls, ↓e_lda0, ↓e_ldas, ↓e_ok0, ↓e_okss, ↓e_ok1i, ↓e_ok1r, ↓e_ok1n, ↓e_sti, ↓e_sta, ↓e_1, ↓e_2, ↓e_l1, ↓e_l2, ↓e_li, ↓e_sw0, ↓e_sws, ↓e_ceq, ↓e_cne, ↓e_clt, ↓e_cge, ↓e_cgt, ↓e_cle, ↓e_nil, ↓e_cons, ↓e_iconst, ↓e_bipush, ↓e_sipush, ↓e_ldc, ↓e_ldcw, ↓e_ldc2, ↓e_lconst, ↓e_iloadn, ↓e_iload, ↓e_lloadn, ↓e_lload, ↓e_aloadn, ↓e_aload, ↓e_istoren, ↓e_istore, ↓e_astoren, ↓e_astore, ↓e_add, ↓e_iinc, ↓e_iadd, ↓e_isub, ↓e_imul, ↓e_iand, ↓e_ior, ↓e_ixor, ↓e_ishl, ↓e_iushr, ↓e_idiv, ↓e_irem, ↓e_ineg, ↓e_i2l, ↓e_i2b, ↓e_i2s, ↓e_l2i, ↓e_land, ↓e_lor, ↓e_lshl, ↓e_lshr, ↓e_lushr, ↓e_lcmp, ↓e_dupi, ↓e_dupr, ↓e_popi, ↓e_dup2, ↓e_goto, ↓e_if, ↓e_icmp, ↓e_tsw, ↓e_lsw, ↓e_getf, ↓e_putf, ↓e_gets, ↓e_iald, ↓e_cald, ↓e_iast, ↓e_aald, ↓e_aast, ↓e_len, ↓e_copy, ↓e_abs, ↓e_max, ↓e_min, ↓e_iret, ↓e_aret, ↓e_vret, ↓e_is0, ↓e_is1, ↓e_is2, ↓e_is3, ↓e_is4, ↓e_iv1, ↓e_iv2, ↓e_iv3, ↓e_iv4, ↓e_iv5, ↓e_iv6, ↓rt_X11_hearsBy, ↓reduceIte, Nat.reduceAdd, Nat.reduceEqDiff, ↓zcl0, ↓zclv, List.map_nil, List.sum_nil, List.map_cons, List.sum_cons, zcat, true_and, and_true, Nat.reduceLeDiff, Nat.reduceAdd, eq_self, forall_const, e_ok0, e_okss, e_ok1i, e_ok1r, e_ok1n, zl_0, zl_1, zl_2, zl_5, zl_11, zl_30, zl_60, Int.reduceToNat, Int.reduceAdd, Int.reduceMul, Int.reduceSub, Int.reduceNeg, Int.reduceLT, Int.reduceLE, Int.reduceEq, not_false_eq_true, not_true_eq_false, false_implies, true_implies, implies_true, Int.reduceDiv, Int.reduceMod, zr8_zr, zr_zbo, z01_zbo, z01_0, z01_1, zbo_eq0, zup_eq, zup_o, zup_k, ne_eq, ↓ct_hrrA_ran, ↓r_ran, ↓B_ran, ↓ct_hrrA_of, ↓r_of, ↓B_of, ↓ct_hrrA_knkC, ↓r_knkC, ↓B_knkC, ↓v_87, ↓g_87_0, ↓l_88, ↓s_88, ↓n_88, ↓g_87_1, ↓l_89, ↓s_89, ↓n_89, ↓g_87_2, ↓l_90, ↓s_90, ↓n_90, ↓g_87_3, ↓p_87_3, ↓g_87_4, ↓l_91, ↓s_91, ↓n_91, ↓g_87_5, ↓p_87_5, ↓g_87_6, ↓p_87_6, ↓g_87_7, ↓p_87_7, ↓g_87_8, ↓p_87_8, ↓g_87_9, ↓p_87_9, ↓g_87_10, ↓p_87_10, ↓g_87_11, ↓l_92, ↓s_92, ↓n_92, ↓g_87_12, ↓l_93, ↓s_93, ↓n_93, ↓g_87_13, ↓p_87_13, ↓g_87_14, ↓l_94, ↓s_94, ↓n_94, ↓g_87_15, ↓p_87_15, ↓g_87_16, ↓l_95, ↓s_95, ↓n_95, ↓g_87_17, ↓l_96, ↓s_96, ↓n_96, ↓g_87_18, ↓l_97, ↓s_97, ↓n_97, ↓g_87_19, ↓p_87_19, ↓g_87_20, ↓p_87_20, ↓g_87_21, ↓l_98, ↓s_98, ↓n_98, ↓g_87_22, ↓l_99, ↓s_99, ↓n_99, ↓g_87_23, ↓l_100, ↓s_100, ↓n_100, ↓g_87_24, ↓l_101, ↓s_101, ↓n_101]
      rw [vhe_0 (by omega)] at hC
      refine ⟨vt, fun M1 n1 => ?_⟩
      rw [n1.who, n1.d, n1.1]
      exact ⟨by omega, by omega, ek, n1.ok vt (rn1_ok vt.tok), fun M2 n2 => hC M2 (n1.trans n2)⟩
    · omega
    · omega
    · omega
def B_hrrB (k : Int) (x : Int) (M : Nat → Nat → Int) (post : Option ZV → (Nat → Nat → Int) → Prop) : Prop := (0 ≤ k ∧ k ≤ 3) ∧ Vtr M ∧ ∀ M2 : ZMm, Nx M (vhe (M 87 20) (ei (M 88) (M 87 20) 1) (ei (M 88) (M 87 20) 0) k x (tS M)).2 M2 → post (some (.inl (vhe (M 87 20) (ei (M 88) (M 87 20) 1) (ei (M 88) (M 87 20) 0) k x (tS M)).1)) M2
def C_hrrB : ZC := fun as h post => match as with
  | [.inr (.inr (.inl 87)), .inl k, .inl x] => h.1 = zG ∧ B_hrrB k x h.2 (fun v M => post v (zG, M))
  | _ => False
theorem r_hrrB {k : Int} {x : Int} {M : Nat → Nat → Int} {post : Option ZV → ZH → Prop} : C_hrrB [.inr (.inr (.inl 87)), .inl k, .inl x] (zG, M) post = B_hrrB k x M (fun v M => post v (zG, M)) := by show (zG = zG ∧ _) = _; simp
def ct_hrrB : Nat → ZC := fun n => if n = 203 then C_ran else if n = 126 then C_of else if n = 204 then C_knkC else if n = 206 then C_dggC else if n = 128 then C_above else if n = 205 then C_hrrA else fun _ _ _ => False
theorem ct_hrrB_ran {as : List ZV} {h : ZH} {post : Option ZV → ZH → Prop} : ct_hrrB 203 as h post = C_ran as h post := rfl
theorem ct_hrrB_of {as : List ZV} {h : ZH} {post : Option ZV → ZH → Prop} : ct_hrrB 126 as h post = C_of as h post := rfl
theorem ct_hrrB_knkC {as : List ZV} {h : ZH} {post : Option ZV → ZH → Prop} : ct_hrrB 204 as h post = C_knkC as h post := rfl
theorem ct_hrrB_dggC {as : List ZV} {h : ZH} {post : Option ZV → ZH → Prop} : ct_hrrB 206 as h post = C_dggC as h post := rfl
theorem ct_hrrB_above {as : List ZV} {h : ZH} {post : Option ZV → ZH → Prop} : ct_hrrB 128 as h post = C_above as h post := rfl
theorem ct_hrrB_hrrA {as : List ZV} {h : ZH} {post : Option ZV → ZH → Prop} : ct_hrrB 205 as h post = C_hrrA as h post := rfl
theorem c_hrrB {E : ZE} {d : Nat} (hd : 6 ≤ d) : zMet E d mX11_hearsBy C_hrrB := by
  refine zmet_of (o := 11) (ini := false) (CT := ct_hrrB) gd_X11_hearsBy rfl (fun h => by cases h) (by omega) ?_ ?_
  · intro n as h post hh
    unfold ct_hrrB at hh
    by_cases c : n = 203
    · subst c; exact ⟨gd_X11_ran, 1, by omega, c_ran (by omega)⟩
    rw [if_neg c] at hh
    by_cases c : n = 126
    · subst c; exact ⟨gd_X11_of, 1, by omega, c_of (by omega)⟩
    rw [if_neg c] at hh
    by_cases c : n = 204
    · subst c; exact ⟨gd_X11_knocksBy, 4, by omega, c_knkC (by omega)⟩
    rw [if_neg c] at hh
    by_cases c : n = 206
    · subst c; exact ⟨gd_X11_digsBy, 4, by omega, c_dggC (by omega)⟩
    rw [if_neg c] at hh
    by_cases c : n = 128
    · subst c; exact ⟨gd_X11_above, 1, by omega, c_above (by omega)⟩
    rw [if_neg c] at hh
    by_cases c : n = 205
    · subst c; exact ⟨gd_X11_hearsBy, 5, by omega, c_hrrA (by omega)⟩
    rw [if_neg c] at hh
    exact hh.elim
  intro as h post hC
  match as, hC with
  | [.inr (.inr (.inl 87)), .inl k, .inl x], hC =>
    refine ⟨Nat.le_of_ble_eq_true rfl, fun X hX => bs_X11_hearsBy_0 hX ?_⟩
    obtain ⟨G, M⟩ := h
    obtain ⟨hG, hC⟩ := hC
    dsimp only at hG
    subst hG
    simp only [B_hrrB] at hC
    show bk_X11_hearsBy_0 E ct_hrrB X _ [some (.inr (.inr (.inl 87))), some (.inl k), some (.inl x), none] [] (zG, M) (0, 0)
    obtain ⟨hk, vt, hC⟩ := hC
    have hw := vt.2.2
    have ek := (Vd_ei vt.1 (e := M 87 20) (by omega) (by omega)).1
    have zk : zr k = k := zr_of (by omega) (by omega)
    simp only [bk_X11_hearsBy_0, k_X11_hearsBy_0, bk_X11_hearsBy_36, k_X11_hearsBy_36, bk_X11_hearsBy_59, k_X11_hearsBy_59, bk_X11_hearsBy_92, k_X11_hearsBy_92, bk_X11_hearsBy_110, k_X11_hearsBy_110, ↓e_rk1, ↓e_rk0, ↓e_sk0, ↓e_sks, ↓e_ldi0, ↓e_ldis, ↓e_ldl0, ↓e_ldls, ↓e_lda0, ↓e_ldas, ↓e_ok0, ↓e_okss, ↓e_ok1i, ↓e_ok1r, ↓e_ok1n, ↓e_sti, ↓e_sta, ↓e_1, ↓e_2, ↓e_l1, ↓e_l2, ↓e_li, ↓e_sw0, ↓e_sws, ↓e_ceq, ↓e_cne, ↓e_clt, ↓e_cge, ↓e_cgt, ↓e_cle, ↓e_nil, ↓e_cons, ↓e_iconst, ↓e_bipush, ↓e_sipush, ↓e_ldc, ↓e_ldcw, ↓e_ldc2, ↓e_lconst, ↓e_iloadn, ↓e_iload, ↓e_lloadn, ↓e_lload, ↓e_aloadn, ↓e_aload, ↓e_istoren, ↓e_istore, ↓e_astoren, ↓e_astore, ↓e_add, ↓e_iinc, ↓e_iadd, ↓e_isub, ↓e_imul, ↓e_iand, ↓e_ior, ↓e_ixor, ↓e_ishl, ↓e_iushr, ↓e_idiv, ↓e_irem, ↓e_ineg, ↓e_i2l, ↓e_i2b, ↓e_i2s, ↓e_l2i, ↓e_land, ↓e_lor, ↓e_lshl, ↓e_lshr, ↓e_lushr, ↓e_lcmp, ↓e_dupi, ↓e_dupr, ↓e_popi, ↓e_dup2, ↓e_goto, ↓e_if, ↓e_icmp, ↓e_tsw, ↓e_lsw, ↓e_getf, ↓e_putf, ↓e_gets, ↓e_iald, ↓e_cald, ↓e_iast, ↓e_aald, ↓e_aast, ↓e_len, ↓e_copy, ↓e_abs, ↓e_max, ↓e_min, ↓e_iret, ↓e_aret, ↓e_vret, ↓e_is0, ↓e_is1, ↓e_is2, ↓e_is3, ↓e_is4, ↓e_iv1, ↓e_iv2, ↓e_iv3, ↓e_iv4, ↓e_iv5, ↓e_iv6, ↓rt_X11_hearsBy, ↓reduceIte, Nat.reduceAdd, Nat.reduceEqDiff, ↓zcl0, ↓zclv, List.map_nil, List.sum_nil, List.map_cons, List.sum_cons, zcat, true_and, and_true, Nat.reduceLeDiff, Nat.reduceAdd, eq_self, forall_const, e_ok0, e_okss, e_ok1i, e_ok1r, e_ok1n, zl_0, zl_1, zl_2, zl_5, zl_11, zl_30, zl_60, Int.reduceToNat, Int.reduceAdd, Int.reduceMul, Int.reduceSub, Int.reduceNeg, Int.reduceLT, Int.reduceLE, Int.reduceEq, not_false_eq_true, not_true_eq_false, false_implies, true_implies, implies_true, Int.reduceDiv, Int.reduceMod, zr8_zr, zr_zbo, z01_zbo, z01_0, z01_1, zbo_eq0, zup_eq, zup_o, zup_k, ne_eq, ↓ct_hrrB_ran, ↓r_ran, ↓B_ran, ↓ct_hrrB_of, ↓r_of, ↓B_of, ↓ct_hrrB_knkC, ↓r_knkC, ↓B_knkC, ↓ct_hrrB_dggC, ↓r_dggC, ↓B_dggC, ↓ct_hrrB_above, ↓r_above, ↓B_above, ↓ct_hrrB_hrrA, ↓r_hrrA, ↓B_hrrA, ↓v_87, ↓g_87_0, ↓l_88, ↓s_88, ↓n_88, ↓g_87_1, ↓l_89, ↓s_89, ↓n_89, ↓g_87_2, ↓l_90, ↓s_90, ↓n_90, ↓g_87_3, ↓p_87_3, ↓g_87_4, ↓l_91, ↓s_91, ↓n_91, ↓g_87_5, ↓p_87_5, ↓g_87_6, ↓p_87_6, ↓g_87_7, ↓p_87_7, ↓g_87_8, ↓p_87_8, ↓g_87_9, ↓p_87_9, ↓g_87_10, ↓p_87_10, ↓g_87_11, ↓l_92, ↓s_92, ↓n_92, ↓g_87_12, ↓l_93, ↓s_93, ↓n_93, ↓g_87_13, ↓p_87_13, ↓g_87_14, ↓l_94, ↓s_94, ↓n_94, ↓g_87_15, ↓p_87_15, ↓g_87_16, ↓l_95, ↓s_95, ↓n_95, ↓g_87_17, ↓l_96, ↓s_96, ↓n_96, ↓g_87_18, ↓l_97, ↓s_97, ↓n_97, ↓g_87_19, ↓p_87_19, ↓g_87_20, ↓p_87_20, ↓g_87_21, ↓l_98, ↓s_98, ↓n_98, ↓g_87_22, ↓l_99, ↓s_99, ↓n_99, ↓g_87_23, ↓l_100, ↓s_100, ↓n_100, ↓g_87_24, ↓l_101, ↓s_101, ↓n_101, zk]
    refine ⟨fun c => ?_, fun c => ⟨fun c2 => ?_, fun c2 => ⟨fun c3 => ?_, fun c3 => ?_⟩⟩⟩
    · refine bs_X11_hearsBy_36 hX ?_
      simp only [bk_X11_hearsBy_0, k_X11_hearsBy_0, bk_X11_hearsBy_36, k_X11_hearsBy_36, bk_X11_hearsBy_59, k_X11_hearsBy_59, bk_X11_hearsBy_92, k_X11_hearsBy_92, bk_X11_hearsBy_110, k_X11_hearsBy_110, ↓e_rk1, ↓e_rk0, ↓e_sk0, ↓e_sks, ↓e_ldi0, ↓e_ldis, ↓e_ldl0, ↓e_ldls, ↓e_lda0, ↓e_ldas, ↓e_ok0, ↓e_okss, ↓e_ok1i, ↓e_ok1r, ↓e_ok1n, ↓e_sti, ↓e_sta, ↓e_1, ↓e_2, ↓e_l1, ↓e_l2, ↓e_li, ↓e_sw0, ↓e_sws, ↓e_ceq, ↓e_cne, ↓e_clt, ↓e_cge, ↓e_cgt, ↓e_cle, ↓e_nil, ↓e_cons, ↓e_iconst, ↓e_bipush, ↓e_sipush, ↓e_ldc, ↓e_ldcw, ↓e_ldc2, ↓e_lconst, ↓e_iloadn, ↓e_iload, ↓e_lloadn, ↓e_lload, ↓e_aloadn, ↓e_aload, ↓e_istoren, ↓e_istore, ↓e_astoren, ↓e_astore, ↓e_add, ↓e_iinc, ↓e_iadd, ↓e_isub, ↓e_imul, ↓e_iand, ↓e_ior, ↓e_ixor, ↓e_ishl, ↓e_iushr, ↓e_idiv, ↓e_irem, ↓e_ineg, ↓e_i2l, ↓e_i2b, ↓e_i2s, ↓e_l2i, ↓e_land, ↓e_lor, ↓e_lshl, ↓e_lshr, ↓e_lushr, ↓e_lcmp, ↓e_dupi, ↓e_dupr, ↓e_popi, ↓e_dup2, ↓e_goto, ↓e_if, ↓e_icmp, ↓e_tsw, ↓e_lsw, ↓e_getf, ↓e_putf, ↓e_gets, ↓e_iald, ↓e_cald, ↓e_iast, ↓e_aald, ↓e_aast, ↓e_len, ↓e_copy, ↓e_abs, ↓e_max, ↓e_min, ↓e_iret, ↓e_aret, ↓e_vret, ↓e_is0, ↓e_is1, ↓e_is2, ↓e_is3, ↓e_is4, ↓e_iv1, ↓e_iv2, ↓e_iv3, ↓e_iv4, ↓e_iv5, ↓e_iv6, ↓rt_X11_hearsBy, ↓reduceIte, Nat.reduceAdd, Nat.reduceEqDiff, ↓zcl0, ↓zclv, List.map_nil, List.sum_nil, List.map_cons, List.sum_cons, zcat, true_and, and_true, Nat.reduceLeDiff, Nat.reduceAdd, eq_self, forall_const, e_ok0, e_okss, e_ok1i, e_ok1r, e_ok1n, zl_0, zl_1, zl_2, zl_5, zl_11, zl_30, zl_60, Int.reduceToNat, Int.reduceAdd, Int.reduceMul, Int.reduceSub, Int.reduceNeg, Int.reduceLT, Int.reduceLE, Int.reduceEq, not_false_eq_true, not_true_eq_false, false_implies, true_implies, implies_true, Int.reduceDiv, Int.reduceMod, zr8_zr, zr_zbo, z01_zbo, z01_0, z01_1, zbo_eq0, zup_eq, zup_o, zup_k, ne_eq, ↓ct_hrrB_ran, ↓r_ran, ↓B_ran, ↓ct_hrrB_of, ↓r_of, ↓B_of, ↓ct_hrrB_knkC, ↓r_knkC, ↓B_knkC, ↓ct_hrrB_dggC, ↓r_dggC, ↓B_dggC, ↓ct_hrrB_above, ↓r_above, ↓B_above, ↓ct_hrrB_hrrA, ↓r_hrrA, ↓B_hrrA, ↓v_87, ↓g_87_0, ↓l_88, ↓s_88, ↓n_88, ↓g_87_1, ↓l_89, ↓s_89, ↓n_89, ↓g_87_2, ↓l_90, ↓s_90, ↓n_90, ↓g_87_3, ↓p_87_3, ↓g_87_4, ↓l_91, ↓s_91, ↓n_91, ↓g_87_5, ↓p_87_5, ↓g_87_6, ↓p_87_6, ↓g_87_7, ↓p_87_7, ↓g_87_8, ↓p_87_8, ↓g_87_9, ↓p_87_9, ↓g_87_10, ↓p_87_10, ↓g_87_11, ↓l_92, ↓s_92, ↓n_92, ↓g_87_12, ↓l_93, ↓s_93, ↓n_93, ↓g_87_13, ↓p_87_13, ↓g_87_14, ↓l_94, ↓s_94, ↓n_94, ↓g_87_15, ↓p_87_15, ↓g_87_16, ↓l_95, ↓s_95, ↓n_95, ↓g_87_17, ↓l_96, ↓s_96, ↓n_96, ↓g_87_18, ↓l_97, ↓s_97, ↓n_97, ↓g_87_19, ↓p_87_19, ↓g_87_20, ↓p_87_20, ↓g_87_21, ↓l_98, ↓s_98, ↓n_98, ↓g_87_22, ↓l_99, ↓s_99, ↓n_99, ↓g_87_23, ↓l_100, ↓s_100, ↓n_100, ↓g_87_24, ↓l_101, ↓s_101, ↓n_101]
      rw [vhe_0 (by omega)] at hC
      refine ⟨vt, fun M1 n1 => ?_⟩
      rw [n1.who, n1.d, n1.1]
      exact ⟨by omega, by omega, ek, n1.ok vt (rn1_ok vt.tok), fun M2 n2 => hC M2 (n1.trans n2)⟩
    · refine bs_X11_hearsBy_59 hX ?_
      simp only [bk_X11_hearsBy_0, k_X11_hearsBy_0, bk_X11_hearsBy_36, k_X11_hearsBy_36, bk_X11_hearsBy_59, k_X11_hearsBy_59, bk_X11_hearsBy_92, k_X11_hearsBy_92, bk_X11_hearsBy_110, k_X11_hearsBy_110, ↓e_rk1, ↓e_rk0, ↓e_sk0, ↓e_sks, ↓e_ldi0, ↓e_ldis, ↓e_ldl0, ↓e_ldls, ↓e_lda0, ↓e_ldas, ↓e_ok0, ↓e_okss, ↓e_ok1i, ↓e_ok1r, ↓e_ok1n, ↓e_sti, ↓e_sta, ↓e_1, ↓e_2, ↓e_l1, ↓e_l2, ↓e_li, ↓e_sw0, ↓e_sws, ↓e_ceq, ↓e_cne, ↓e_clt, ↓e_cge, ↓e_cgt, ↓e_cle, ↓e_nil, ↓e_cons, ↓e_iconst, ↓e_bipush, ↓e_sipush, ↓e_ldc, ↓e_ldcw, ↓e_ldc2, ↓e_lconst, ↓e_iloadn, ↓e_iload, ↓e_lloadn, ↓e_lload, ↓e_aloadn, ↓e_aload, ↓e_istoren, ↓e_istore, ↓e_astoren, ↓e_astore, ↓e_add, ↓e_iinc, ↓e_iadd, ↓e_isub, ↓e_imul, ↓e_iand, ↓e_ior, ↓e_ixor, ↓e_ishl, ↓e_iushr, ↓e_idiv, ↓e_irem, ↓e_ineg, ↓e_i2l, ↓e_i2b, ↓e_i2s, ↓e_l2i, ↓e_land, ↓e_lor, ↓e_lshl, ↓e_lshr, ↓e_lushr, ↓e_lcmp, ↓e_dupi, ↓e_dupr, ↓e_popi, ↓e_dup2, ↓e_goto, ↓e_if, ↓e_icmp, ↓e_tsw, ↓e_lsw, ↓e_getf, ↓e_putf, ↓e_gets, ↓e_iald, ↓e_cald, ↓e_iast, ↓e_aald, ↓e_aast, ↓e_len, ↓e_copy, ↓e_abs, ↓e_max, ↓e_min, ↓e_iret, ↓e_aret, ↓e_vret, ↓e_is0, ↓e_is1, ↓e_is2, ↓e_is3, ↓e_is4, ↓e_iv1, ↓e_iv2, ↓e_iv3, ↓e_iv4, ↓e_iv5, ↓e_iv6, ↓rt_X11_hearsBy, ↓reduceIte, Nat.reduceAdd, Nat.reduceEqDiff, ↓zcl0, ↓zclv, List.map_nil, List.sum_nil, List.map_cons, List.sum_cons, zcat, true_and, and_true, Nat.reduceLeDiff, Nat.reduceAdd, eq_self, forall_const, e_ok0, e_okss, e_ok1i, e_ok1r, e_ok1n, zl_0, zl_1, zl_2, zl_5, zl_11, zl_30, zl_60, Int.reduceToNat, Int.reduceAdd, Int.reduceMul, Int.reduceSub, Int.reduceNeg, Int.reduceLT, Int.reduceLE, Int.reduceEq, not_false_eq_true, not_true_eq_false, false_implies, true_implies, implies_true, Int.reduceDiv, Int.reduceMod, zr8_zr, zr_zbo, z01_zbo, z01_0, z01_1, zbo_eq0, zup_eq, zup_o, zup_k, ne_eq, ↓ct_hrrB_ran, ↓r_ran, ↓B_ran, ↓ct_hrrB_of, ↓r_of, ↓B_of, ↓ct_hrrB_knkC, ↓r_knkC, ↓B_knkC, ↓ct_hrrB_dggC, ↓r_dggC, ↓B_dggC, ↓ct_hrrB_above, ↓r_above, ↓B_above, ↓ct_hrrB_hrrA, ↓r_hrrA, ↓B_hrrA, ↓v_87, ↓g_87_0, ↓l_88, ↓s_88, ↓n_88, ↓g_87_1, ↓l_89, ↓s_89, ↓n_89, ↓g_87_2, ↓l_90, ↓s_90, ↓n_90, ↓g_87_3, ↓p_87_3, ↓g_87_4, ↓l_91, ↓s_91, ↓n_91, ↓g_87_5, ↓p_87_5, ↓g_87_6, ↓p_87_6, ↓g_87_7, ↓p_87_7, ↓g_87_8, ↓p_87_8, ↓g_87_9, ↓p_87_9, ↓g_87_10, ↓p_87_10, ↓g_87_11, ↓l_92, ↓s_92, ↓n_92, ↓g_87_12, ↓l_93, ↓s_93, ↓n_93, ↓g_87_13, ↓p_87_13, ↓g_87_14, ↓l_94, ↓s_94, ↓n_94, ↓g_87_15, ↓p_87_15, ↓g_87_16, ↓l_95, ↓s_95, ↓n_95, ↓g_87_17, ↓l_96, ↓s_96, ↓n_96, ↓g_87_18, ↓l_97, ↓s_97, ↓n_97, ↓g_87_19, ↓p_87_19, ↓g_87_20, ↓p_87_20, ↓g_87_21, ↓l_98, ↓s_98, ↓n_98, ↓g_87_22, ↓l_99, ↓s_99, ↓n_99, ↓g_87_23, ↓l_100, ↓s_100, ↓n_100, ↓g_87_24, ↓l_101, ↓s_101, ↓n_101, ab_2]
      rw [vhe_2 (by omega)] at hC
      refine ⟨vt, fun M1 n1 => ⟨rg_i (by omega) (by omega), n1.ok vt (rn1_ok vt.tok), fun M2 n2 => ?_⟩⟩
      rw [n1.who, n1.d, n1.1, vhe_0 (by omega)] at n2 ⊢
      rw [n2.who, n2.d, n1.who, n1.d, n2.1]
      exact ⟨by omega, by omega, ek, (n1.trans n2).ok vt (vh0_ok (rn1_ok vt.tok)), fun M3 n3 => hC M3 ((n1.trans n2).trans n3)⟩
    · omega
    · refine bs_X11_hearsBy_110 hX ?_
      simp only [bk_X11_hearsBy_0, k_X11_hearsBy_0, bk_X11_hearsBy_36, k_X11_hearsBy_36, bk_X11_hearsBy_59, k_X11_hearsBy_59, bk_X11_hearsBy_92, k_X11_hearsBy_92, bk_X11_hearsBy_110, k_X11_hearsBy_110, ↓e_rk1, ↓e_rk0, ↓e_sk0, ↓e_sks, ↓e_ldi0, ↓e_ldis, ↓e_ldl0, ↓e_ldls, ↓e_lda0, ↓e_ldas, ↓e_ok0, ↓e_okss, ↓e_ok1i, ↓e_ok1r, ↓e_ok1n, ↓e_sti, ↓e_sta, ↓e_1, ↓e_2, ↓e_l1, ↓e_l2, ↓e_li, ↓e_sw0, ↓e_sws, ↓e_ceq, ↓e_cne, ↓e_clt, ↓e_cge, ↓e_cgt, ↓e_cle, ↓e_nil, ↓e_cons, ↓e_iconst, ↓e_bipush, ↓e_sipush, ↓e_ldc, ↓e_ldcw, ↓e_ldc2, ↓e_lconst, ↓e_iloadn, ↓e_iload, ↓e_lloadn, ↓e_lload, ↓e_aloadn, ↓e_aload, ↓e_istoren, ↓e_istore, ↓e_astoren, ↓e_astore, ↓e_add, ↓e_iinc, ↓e_iadd, ↓e_isub, ↓e_imul, ↓e_iand, ↓e_ior, ↓e_ixor, ↓e_ishl, ↓e_iushr, ↓e_idiv, ↓e_irem, ↓e_ineg, ↓e_i2l, ↓e_i2b, ↓e_i2s, ↓e_l2i, ↓e_land, ↓e_lor, ↓e_lshl, ↓e_lshr, ↓e_lushr, ↓e_lcmp, ↓e_dupi, ↓e_dupr, ↓e_popi, ↓e_dup2, ↓e_goto, ↓e_if, ↓e_icmp, ↓e_tsw, ↓e_lsw, ↓e_getf, ↓e_putf, ↓e_gets, ↓e_iald, ↓e_cald, ↓e_iast, ↓e_aald, ↓e_aast, ↓e_len, ↓e_copy, ↓e_abs, ↓e_max, ↓e_min, ↓e_iret, ↓e_aret, ↓e_vret, ↓e_is0, ↓e_is1, ↓e_is2, ↓e_is3, ↓e_is4, ↓e_iv1, ↓e_iv2, ↓e_iv3, ↓e_iv4, ↓e_iv5, ↓e_iv6, ↓rt_X11_hearsBy, ↓reduceIte, Nat.reduceAdd, Nat.reduceEqDiff, ↓zcl0, ↓zclv, List.map_nil, List.sum_nil, List.map_cons, List.sum_cons, zcat, true_and, and_true, Nat.reduceLeDiff, Nat.reduceAdd, eq_self, forall_const, e_ok0, e_okss, e_ok1i, e_ok1r, e_ok1n, zl_0, zl_1, zl_2, zl_5, zl_11, zl_30, zl_60, Int.reduceToNat, Int.reduceAdd, Int.reduceMul, Int.reduceSub, Int.reduceNeg, Int.reduceLT, Int.reduceLE, Int.reduceEq, not_false_eq_true, not_true_eq_false, false_implies, true_implies, implies_true, Int.reduceDiv, Int.reduceMod, zr8_zr, zr_zbo, z01_zbo, z01_0, z01_1, zbo_eq0, zup_eq, zup_o, zup_k, ne_eq, ↓ct_hrrB_ran, ↓r_ran, ↓B_ran, ↓ct_hrrB_of, ↓r_of, ↓B_of, ↓ct_hrrB_knkC, ↓r_knkC, ↓B_knkC, ↓ct_hrrB_dggC, ↓r_dggC, ↓B_dggC, ↓ct_hrrB_above, ↓r_above, ↓B_above, ↓ct_hrrB_hrrA, ↓r_hrrA, ↓B_hrrA, ↓v_87, ↓g_87_0, ↓l_88, ↓s_88, ↓n_88, ↓g_87_1, ↓l_89, ↓s_89, ↓n_89, ↓g_87_2, ↓l_90, ↓s_90, ↓n_90, ↓g_87_3, ↓p_87_3, ↓g_87_4, ↓l_91, ↓s_91, ↓n_91, ↓g_87_5, ↓p_87_5, ↓g_87_6, ↓p_87_6, ↓g_87_7, ↓p_87_7, ↓g_87_8, ↓p_87_8, ↓g_87_9, ↓p_87_9, ↓g_87_10, ↓p_87_10, ↓g_87_11, ↓l_92, ↓s_92, ↓n_92, ↓g_87_12, ↓l_93, ↓s_93, ↓n_93, ↓g_87_13, ↓p_87_13, ↓g_87_14, ↓l_94, ↓s_94, ↓n_94, ↓g_87_15, ↓p_87_15, ↓g_87_16, ↓l_95, ↓s_95, ↓n_95, ↓g_87_17, ↓l_96, ↓s_96, ↓n_96, ↓g_87_18, ↓l_97, ↓s_97, ↓n_97, ↓g_87_19, ↓p_87_19, ↓g_87_20, ↓p_87_20, ↓g_87_21, ↓l_98, ↓s_98, ↓n_98, ↓g_87_22, ↓l_99, ↓s_99, ↓n_99, ↓g_87_23, ↓l_100, ↓s_100, ↓n_100, ↓g_87_24, ↓l_101, ↓s_101, ↓n_101]
      have ea : vhe (M 87 20) (ei (M 88) (M 87 20) 1) (ei (M 88) (M 87 20) 0) (abv k) x (tS M) = vhe (M 87 20) (ei (M 88) (M 87 20) 1) (ei (M 88) (M 87 20) 0) k x (tS M) := by
        unfold vhe
        rw [abv_if]
        (repeat' split) <;> first | rfl | omega
      have ab := abv_if k
      refine ⟨rg_i (by omega) (by omega), ?_, vt, fun M2 n2 => ?_⟩
      · split at ab <;> omega
      rw [ea] at n2 ⊢
      exact hC M2 n2
def B_hrrC (k : Int) (x : Int) (M : Nat → Nat → Int) (post : Option ZV → (Nat → Nat → Int) → Prop) : Prop := (0 ≤ k ∧ k ≤ 6) ∧ Vtr M ∧ ∀ M2 : ZMm, Nx M (vhe (M 87 20) (ei (M 88) (M 87 20) 1) (ei (M 88) (M 87 20) 0) k x (tS M)).2 M2 → post (some (.inl (vhe (M 87 20) (ei (M 88) (M 87 20) 1) (ei (M 88) (M 87 20) 0) k x (tS M)).1)) M2
def C_hrrC : ZC := fun as h post => match as with
  | [.inr (.inr (.inl 87)), .inl k, .inl x] => h.1 = zG ∧ B_hrrC k x h.2 (fun v M => post v (zG, M))
  | _ => False
theorem r_hrrC {k : Int} {x : Int} {M : Nat → Nat → Int} {post : Option ZV → ZH → Prop} : C_hrrC [.inr (.inr (.inl 87)), .inl k, .inl x] (zG, M) post = B_hrrC k x M (fun v M => post v (zG, M)) := by show (zG = zG ∧ _) = _; simp
def ct_hrrC : Nat → ZC := fun n => if n = 203 then C_ran else if n = 126 then C_of else if n = 204 then C_knkC else if n = 206 then C_dggC else if n = 128 then C_above else if n = 205 then C_hrrB else fun _ _ _ => False
theorem ct_hrrC_ran {as : List ZV} {h : ZH} {post : Option ZV → ZH → Prop} : ct_hrrC 203 as h post = C_ran as h post := rfl
theorem ct_hrrC_of {as : List ZV} {h : ZH} {post : Option ZV → ZH → Prop} : ct_hrrC 126 as h post = C_of as h post := rfl
theorem ct_hrrC_knkC {as : List ZV} {h : ZH} {post : Option ZV → ZH → Prop} : ct_hrrC 204 as h post = C_knkC as h post := rfl
theorem ct_hrrC_dggC {as : List ZV} {h : ZH} {post : Option ZV → ZH → Prop} : ct_hrrC 206 as h post = C_dggC as h post := rfl
theorem ct_hrrC_above {as : List ZV} {h : ZH} {post : Option ZV → ZH → Prop} : ct_hrrC 128 as h post = C_above as h post := rfl
theorem ct_hrrC_hrrB {as : List ZV} {h : ZH} {post : Option ZV → ZH → Prop} : ct_hrrC 205 as h post = C_hrrB as h post := rfl
theorem c_hrrC {E : ZE} {d : Nat} (hd : 7 ≤ d) : zMet E d mX11_hearsBy C_hrrC := by
  refine zmet_of (o := 11) (ini := false) (CT := ct_hrrC) gd_X11_hearsBy rfl (fun h => by cases h) (by omega) ?_ ?_
  · intro n as h post hh
    unfold ct_hrrC at hh
    by_cases c : n = 203
    · subst c; exact ⟨gd_X11_ran, 1, by omega, c_ran (by omega)⟩
    rw [if_neg c] at hh
    by_cases c : n = 126
    · subst c; exact ⟨gd_X11_of, 1, by omega, c_of (by omega)⟩
    rw [if_neg c] at hh
    by_cases c : n = 204
    · subst c; exact ⟨gd_X11_knocksBy, 4, by omega, c_knkC (by omega)⟩
    rw [if_neg c] at hh
    by_cases c : n = 206
    · subst c; exact ⟨gd_X11_digsBy, 4, by omega, c_dggC (by omega)⟩
    rw [if_neg c] at hh
    by_cases c : n = 128
    · subst c; exact ⟨gd_X11_above, 1, by omega, c_above (by omega)⟩
    rw [if_neg c] at hh
    by_cases c : n = 205
    · subst c; exact ⟨gd_X11_hearsBy, 6, by omega, c_hrrB (by omega)⟩
    rw [if_neg c] at hh
    exact hh.elim
  intro as h post hC
  match as, hC with
  | [.inr (.inr (.inl 87)), .inl k, .inl x], hC =>
    refine ⟨Nat.le_of_ble_eq_true rfl, fun X hX => bs_X11_hearsBy_0 hX ?_⟩
    obtain ⟨G, M⟩ := h
    obtain ⟨hG, hC⟩ := hC
    dsimp only at hG
    subst hG
    simp only [B_hrrC] at hC
    show bk_X11_hearsBy_0 E ct_hrrC X _ [some (.inr (.inr (.inl 87))), some (.inl k), some (.inl x), none] [] (zG, M) (0, 0)
    obtain ⟨hk, vt, hC⟩ := hC
    have hw := vt.2.2
    have ek := (Vd_ei vt.1 (e := M 87 20) (by omega) (by omega)).1
    have zk : zr k = k := zr_of (by omega) (by omega)
    simp only [bk_X11_hearsBy_0, k_X11_hearsBy_0, bk_X11_hearsBy_36, k_X11_hearsBy_36, bk_X11_hearsBy_59, k_X11_hearsBy_59, bk_X11_hearsBy_92, k_X11_hearsBy_92, bk_X11_hearsBy_110, k_X11_hearsBy_110, ↓e_rk1, ↓e_rk0, ↓e_sk0, ↓e_sks, ↓e_ldi0, ↓e_ldis, ↓e_ldl0, ↓e_ldls, ↓e_lda0, ↓e_ldas, ↓e_ok0, ↓e_okss, ↓e_ok1i, ↓e_ok1r, ↓e_ok1n, ↓e_sti, ↓e_sta, ↓e_1, ↓e_2, ↓e_l1, ↓e_l2, ↓e_li, ↓e_sw0, ↓e_sws, ↓e_ceq, ↓e_cne, ↓e_clt, ↓e_cge, ↓e_cgt, ↓e_cle, ↓e_nil, ↓e_cons, ↓e_iconst, ↓e_bipush, ↓e_sipush, ↓e_ldc, ↓e_ldcw, ↓e_ldc2, ↓e_lconst, ↓e_iloadn, ↓e_iload, ↓e_lloadn, ↓e_lload, ↓e_aloadn, ↓e_aload, ↓e_istoren, ↓e_istore, ↓e_astoren, ↓e_astore, ↓e_add, ↓e_iinc, ↓e_iadd, ↓e_isub, ↓e_imul, ↓e_iand, ↓e_ior, ↓e_ixor, ↓e_ishl, ↓e_iushr, ↓e_idiv, ↓e_irem, ↓e_ineg, ↓e_i2l, ↓e_i2b, ↓e_i2s, ↓e_l2i, ↓e_land, ↓e_lor, ↓e_lshl, ↓e_lshr, ↓e_lushr, ↓e_lcmp, ↓e_dupi, ↓e_dupr, ↓e_popi, ↓e_dup2, ↓e_goto, ↓e_if, ↓e_icmp, ↓e_tsw, ↓e_lsw, ↓e_getf, ↓e_putf, ↓e_gets, ↓e_iald, ↓e_cald, ↓e_iast, ↓e_aald, ↓e_aast, ↓e_len, ↓e_copy, ↓e_abs, ↓e_max, ↓e_min, ↓e_iret, ↓e_aret, ↓e_vret, ↓e_is0, ↓e_is1, ↓e_is2, ↓e_is3, ↓e_is4, ↓e_iv1, ↓e_iv2, ↓e_iv3, ↓e_iv4, ↓e_iv5, ↓e_iv6, ↓rt_X11_hearsBy, ↓reduceIte, Nat.reduceAdd, Nat.reduceEqDiff, ↓zcl0, ↓zclv, List.map_nil, List.sum_nil, List.map_cons, List.sum_cons, zcat, true_and, and_true, Nat.reduceLeDiff, Nat.reduceAdd, eq_self, forall_const, e_ok0, e_okss, e_ok1i, e_ok1r, e_ok1n, zl_0, zl_1, zl_2, zl_5, zl_11, zl_30, zl_60, Int.reduceToNat, Int.reduceAdd, Int.reduceMul, Int.reduceSub, Int.reduceNeg, Int.reduceLT, Int.reduceLE, Int.reduceEq, not_false_eq_true, not_true_eq_false, false_implies, true_implies, implies_true, Int.reduceDiv, Int.reduceMod, zr8_zr, zr_zbo, z01_zbo, z01_0, z01_1, zbo_eq0, zup_eq, zup_o, zup_k, ne_eq, ↓ct_hrrC_ran, ↓r_ran, ↓B_ran, ↓ct_hrrC_of, ↓r_of, ↓B_of, ↓ct_hrrC_knkC, ↓r_knkC, ↓B_knkC, ↓ct_hrrC_dggC, ↓r_dggC, ↓B_dggC, ↓ct_hrrC_above, ↓r_above, ↓B_above, ↓ct_hrrC_hrrB, ↓r_hrrB, ↓B_hrrB, ↓v_87, ↓g_87_0, ↓l_88, ↓s_88, ↓n_88, ↓g_87_1, ↓l_89, ↓s_89, ↓n_89, ↓g_87_2, ↓l_90, ↓s_90, ↓n_90, ↓g_87_3, ↓p_87_3, ↓g_87_4, ↓l_91, ↓s_91, ↓n_91, ↓g_87_5, ↓p_87_5, ↓g_87_6, ↓p_87_6, ↓g_87_7, ↓p_87_7, ↓g_87_8, ↓p_87_8, ↓g_87_9, ↓p_87_9, ↓g_87_10, ↓p_87_10, ↓g_87_11, ↓l_92, ↓s_92, ↓n_92, ↓g_87_12, ↓l_93, ↓s_93, ↓n_93, ↓g_87_13, ↓p_87_13, ↓g_87_14, ↓l_94, ↓s_94, ↓n_94, ↓g_87_15, ↓p_87_15, ↓g_87_16, ↓l_95, ↓s_95, ↓n_95, ↓g_87_17, ↓l_96, ↓s_96, ↓n_96, ↓g_87_18, ↓l_97, ↓s_97, ↓n_97, ↓g_87_19, ↓p_87_19, ↓g_87_20, ↓p_87_20, ↓g_87_21, ↓l_98, ↓s_98, ↓n_98, ↓g_87_22, ↓l_99, ↓s_99, ↓n_99, ↓g_87_23, ↓l_100, ↓s_100, ↓n_100, ↓g_87_24, ↓l_101, ↓s_101, ↓n_101, zk]
    refine ⟨fun c => ?_, fun c => ⟨fun c2 => ?_, fun c2 => ⟨fun c3 => ?_, fun c3 => ?_⟩⟩⟩
    · refine bs_X11_hearsBy_36 hX ?_
      simp only [bk_X11_hearsBy_0, k_X11_hearsBy_0, bk_X11_hearsBy_36, k_X11_hearsBy_36, bk_X11_hearsBy_59, k_X11_hearsBy_59, bk_X11_hearsBy_92, k_X11_hearsBy_92, bk_X11_hearsBy_110, k_X11_hearsBy_110, ↓e_rk1, ↓e_rk0, ↓e_sk0, ↓e_sks, ↓e_ldi0, ↓e_ldis, ↓e_ldl0, ↓e_ldls, ↓e_lda0, ↓e_ldas, ↓e_ok0, ↓e_okss, ↓e_ok1i, ↓e_ok1r, ↓e_ok1n, ↓e_sti, ↓e_sta, ↓e_1, ↓e_2, ↓e_l1, ↓e_l2, ↓e_li, ↓e_sw0, ↓e_sws, ↓e_ceq, ↓e_cne, ↓e_clt, ↓e_cge, ↓e_cgt, ↓e_cle, ↓e_nil, ↓e_cons, ↓e_iconst, ↓e_bipush, ↓e_sipush, ↓e_ldc, ↓e_ldcw, ↓e_ldc2, ↓e_lconst, ↓e_iloadn, ↓e_iload, ↓e_lloadn, ↓e_lload, ↓e_aloadn, ↓e_aload, ↓e_istoren, ↓e_istore, ↓e_astoren, ↓e_astore, ↓e_add, ↓e_iinc, ↓e_iadd, ↓e_isub, ↓e_imul, ↓e_iand, ↓e_ior, ↓e_ixor, ↓e_ishl, ↓e_iushr, ↓e_idiv, ↓e_irem, ↓e_ineg, ↓e_i2l, ↓e_i2b, ↓e_i2s, ↓e_l2i, ↓e_land, ↓e_lor, ↓e_lshl, ↓e_lshr, ↓e_lushr, ↓e_lcmp, ↓e_dupi, ↓e_dupr, ↓e_popi, ↓e_dup2, ↓e_goto, ↓e_if, ↓e_icmp, ↓e_tsw, ↓e_lsw, ↓e_getf, ↓e_putf, ↓e_gets, ↓e_iald, ↓e_cald, ↓e_iast, ↓e_aald, ↓e_aast, ↓e_len, ↓e_copy, ↓e_abs, ↓e_max, ↓e_min, ↓e_iret, ↓e_aret, ↓e_vret, ↓e_is0, ↓e_is1, ↓e_is2, ↓e_is3, ↓e_is4, ↓e_iv1, ↓e_iv2, ↓e_iv3, ↓e_iv4, ↓e_iv5, ↓e_iv6, ↓rt_X11_hearsBy, ↓reduceIte, Nat.reduceAdd, Nat.reduceEqDiff, ↓zcl0, ↓zclv, List.map_nil, List.sum_nil, List.map_cons, List.sum_cons, zcat, true_and, and_true, Nat.reduceLeDiff, Nat.reduceAdd, eq_self, forall_const, e_ok0, e_okss, e_ok1i, e_ok1r, e_ok1n, zl_0, zl_1, zl_2, zl_5, zl_11, zl_30, zl_60, Int.reduceToNat, Int.reduceAdd, Int.reduceMul, Int.reduceSub, Int.reduceNeg, Int.reduceLT, Int.reduceLE, Int.reduceEq, not_false_eq_true, not_true_eq_false, false_implies, true_implies, implies_true, Int.reduceDiv, Int.reduceMod, zr8_zr, zr_zbo, z01_zbo, z01_0, z01_1, zbo_eq0, zup_eq, zup_o, zup_k, ne_eq, ↓ct_hrrC_ran, ↓r_ran, ↓B_ran, ↓ct_hrrC_of, ↓r_of, ↓B_of, ↓ct_hrrC_knkC, ↓r_knkC, ↓B_knkC, ↓ct_hrrC_dggC, ↓r_dggC, ↓B_dggC, ↓ct_hrrC_above, ↓r_above, ↓B_above, ↓ct_hrrC_hrrB, ↓r_hrrB, ↓B_hrrB, ↓v_87, ↓g_87_0, ↓l_88, ↓s_88, ↓n_88, ↓g_87_1, ↓l_89, ↓s_89, ↓n_89, ↓g_87_2, ↓l_90, ↓s_90, ↓n_90, ↓g_87_3, ↓p_87_3, ↓g_87_4, ↓l_91, ↓s_91, ↓n_91, ↓g_87_5, ↓p_87_5, ↓g_87_6, ↓p_87_6, ↓g_87_7, ↓p_87_7, ↓g_87_8, ↓p_87_8, ↓g_87_9, ↓p_87_9, ↓g_87_10, ↓p_87_10, ↓g_87_11, ↓l_92, ↓s_92, ↓n_92, ↓g_87_12, ↓l_93, ↓s_93, ↓n_93, ↓g_87_13, ↓p_87_13, ↓g_87_14, ↓l_94, ↓s_94, ↓n_94, ↓g_87_15, ↓p_87_15, ↓g_87_16, ↓l_95, ↓s_95, ↓n_95, ↓g_87_17, ↓l_96, ↓s_96, ↓n_96, ↓g_87_18, ↓l_97, ↓s_97, ↓n_97, ↓g_87_19, ↓p_87_19, ↓g_87_20, ↓p_87_20, ↓g_87_21, ↓l_98, ↓s_98, ↓n_98, ↓g_87_22, ↓l_99, ↓s_99, ↓n_99, ↓g_87_23, ↓l_100, ↓s_100, ↓n_100, ↓g_87_24, ↓l_101, ↓s_101, ↓n_101]
      rw [vhe_0 (by omega)] at hC
      refine ⟨vt, fun M1 n1 => ?_⟩
      rw [n1.who, n1.d, n1.1]
      exact ⟨by omega, by omega, ek, n1.ok vt (rn1_ok vt.tok), fun M2 n2 => hC M2 (n1.trans n2)⟩
    · refine bs_X11_hearsBy_59 hX ?_
      simp only [bk_X11_hearsBy_0, k_X11_hearsBy_0, bk_X11_hearsBy_36, k_X11_hearsBy_36, bk_X11_hearsBy_59, k_X11_hearsBy_59, bk_X11_hearsBy_92, k_X11_hearsBy_92, bk_X11_hearsBy_110, k_X11_hearsBy_110, ↓e_rk1, ↓e_rk0, ↓e_sk0, ↓e_sks, ↓e_ldi0, ↓e_ldis, ↓e_ldl0, ↓e_ldls, ↓e_lda0, ↓e_ldas, ↓e_ok0, ↓e_okss, ↓e_ok1i, ↓e_ok1r, ↓e_ok1n, ↓e_sti, ↓e_sta, ↓e_1, ↓e_2, ↓e_l1, ↓e_l2, ↓e_li, ↓e_sw0, ↓e_sws, ↓e_ceq, ↓e_cne, ↓e_clt, ↓e_cge, ↓e_cgt, ↓e_cle, ↓e_nil, ↓e_cons, ↓e_iconst, ↓e_bipush, ↓e_sipush, ↓e_ldc, ↓e_ldcw, ↓e_ldc2, ↓e_lconst, ↓e_iloadn, ↓e_iload, ↓e_lloadn, ↓e_lload, ↓e_aloadn, ↓e_aload, ↓e_istoren, ↓e_istore, ↓e_astoren, ↓e_astore, ↓e_add, ↓e_iinc, ↓e_iadd, ↓e_isub, ↓e_imul, ↓e_iand, ↓e_ior, ↓e_ixor, ↓e_ishl, ↓e_iushr, ↓e_idiv, ↓e_irem, ↓e_ineg, ↓e_i2l, ↓e_i2b, ↓e_i2s, ↓e_l2i, ↓e_land, ↓e_lor, ↓e_lshl, ↓e_lshr, ↓e_lushr, ↓e_lcmp, ↓e_dupi, ↓e_dupr, ↓e_popi, ↓e_dup2, ↓e_goto, ↓e_if, ↓e_icmp, ↓e_tsw, ↓e_lsw, ↓e_getf, ↓e_putf, ↓e_gets, ↓e_iald, ↓e_cald, ↓e_iast, ↓e_aald, ↓e_aast, ↓e_len, ↓e_copy, ↓e_abs, ↓e_max, ↓e_min, ↓e_iret, ↓e_aret, ↓e_vret, ↓e_is0, ↓e_is1, ↓e_is2, ↓e_is3, ↓e_is4, ↓e_iv1, ↓e_iv2, ↓e_iv3, ↓e_iv4, ↓e_iv5, ↓e_iv6, ↓rt_X11_hearsBy, ↓reduceIte, Nat.reduceAdd, Nat.reduceEqDiff, ↓zcl0, ↓zclv, List.map_nil, List.sum_nil, List.map_cons, List.sum_cons, zcat, true_and, and_true, Nat.reduceLeDiff, Nat.reduceAdd, eq_self, forall_const, e_ok0, e_okss, e_ok1i, e_ok1r, e_ok1n, zl_0, zl_1, zl_2, zl_5, zl_11, zl_30, zl_60, Int.reduceToNat, Int.reduceAdd, Int.reduceMul, Int.reduceSub, Int.reduceNeg, Int.reduceLT, Int.reduceLE, Int.reduceEq, not_false_eq_true, not_true_eq_false, false_implies, true_implies, implies_true, Int.reduceDiv, Int.reduceMod, zr8_zr, zr_zbo, z01_zbo, z01_0, z01_1, zbo_eq0, zup_eq, zup_o, zup_k, ne_eq, ↓ct_hrrC_ran, ↓r_ran, ↓B_ran, ↓ct_hrrC_of, ↓r_of, ↓B_of, ↓ct_hrrC_knkC, ↓r_knkC, ↓B_knkC, ↓ct_hrrC_dggC, ↓r_dggC, ↓B_dggC, ↓ct_hrrC_above, ↓r_above, ↓B_above, ↓ct_hrrC_hrrB, ↓r_hrrB, ↓B_hrrB, ↓v_87, ↓g_87_0, ↓l_88, ↓s_88, ↓n_88, ↓g_87_1, ↓l_89, ↓s_89, ↓n_89, ↓g_87_2, ↓l_90, ↓s_90, ↓n_90, ↓g_87_3, ↓p_87_3, ↓g_87_4, ↓l_91, ↓s_91, ↓n_91, ↓g_87_5, ↓p_87_5, ↓g_87_6, ↓p_87_6, ↓g_87_7, ↓p_87_7, ↓g_87_8, ↓p_87_8, ↓g_87_9, ↓p_87_9, ↓g_87_10, ↓p_87_10, ↓g_87_11, ↓l_92, ↓s_92, ↓n_92, ↓g_87_12, ↓l_93, ↓s_93, ↓n_93, ↓g_87_13, ↓p_87_13, ↓g_87_14, ↓l_94, ↓s_94, ↓n_94, ↓g_87_15, ↓p_87_15, ↓g_87_16, ↓l_95, ↓s_95, ↓n_95, ↓g_87_17, ↓l_96, ↓s_96, ↓n_96, ↓g_87_18, ↓l_97, ↓s_97, ↓n_97, ↓g_87_19, ↓p_87_19, ↓g_87_20, ↓p_87_20, ↓g_87_21, ↓l_98, ↓s_98, ↓n_98, ↓g_87_22, ↓l_99, ↓s_99, ↓n_99, ↓g_87_23, ↓l_100, ↓s_100, ↓n_100, ↓g_87_24, ↓l_101, ↓s_101, ↓n_101, ab_2]
      rw [vhe_2 (by omega)] at hC
      refine ⟨vt, fun M1 n1 => ⟨rg_i (by omega) (by omega), n1.ok vt (rn1_ok vt.tok), fun M2 n2 => ?_⟩⟩
      rw [n1.who, n1.d, n1.1, vhe_0 (by omega)] at n2 ⊢
      rw [n2.who, n2.d, n1.who, n1.d, n2.1]
      exact ⟨by omega, by omega, ek, (n1.trans n2).ok vt (vh0_ok (rn1_ok vt.tok)), fun M3 n3 => hC M3 ((n1.trans n2).trans n3)⟩
    · refine bs_X11_hearsBy_92 hX ?_
      simp only [bk_X11_hearsBy_0, k_X11_hearsBy_0, bk_X11_hearsBy_36, k_X11_hearsBy_36, bk_X11_hearsBy_59, k_X11_hearsBy_59, bk_X11_hearsBy_92, k_X11_hearsBy_92, bk_X11_hearsBy_110, k_X11_hearsBy_110, ↓e_rk1, ↓e_rk0, ↓e_sk0, ↓e_sks, ↓e_ldi0, ↓e_ldis, ↓e_ldl0, ↓e_ldls, ↓e_lda0, ↓e_ldas, ↓e_ok0, ↓e_okss, ↓e_ok1i, ↓e_ok1r, ↓e_ok1n, ↓e_sti, ↓e_sta, ↓e_1, ↓e_2, ↓e_l1, ↓e_l2, ↓e_li, ↓e_sw0, ↓e_sws, ↓e_ceq, ↓e_cne, ↓e_clt, ↓e_cge, ↓e_cgt, ↓e_cle, ↓e_nil, ↓e_cons, ↓e_iconst, ↓e_bipush, ↓e_sipush, ↓e_ldc, ↓e_ldcw, ↓e_ldc2, ↓e_lconst, ↓e_iloadn, ↓e_iload, ↓e_lloadn, ↓e_lload, ↓e_aloadn, ↓e_aload, ↓e_istoren, ↓e_istore, ↓e_astoren, ↓e_astore, ↓e_add, ↓e_iinc, ↓e_iadd, ↓e_isub, ↓e_imul, ↓e_iand, ↓e_ior, ↓e_ixor, ↓e_ishl, ↓e_iushr, ↓e_idiv, ↓e_irem, ↓e_ineg, ↓e_i2l, ↓e_i2b, ↓e_i2s, ↓e_l2i, ↓e_land, ↓e_lor, ↓e_lshl, ↓e_lshr, ↓e_lushr, ↓e_lcmp, ↓e_dupi, ↓e_dupr, ↓e_popi, ↓e_dup2, ↓e_goto, ↓e_if, ↓e_icmp, ↓e_tsw, ↓e_lsw, ↓e_getf, ↓e_putf, ↓e_gets, ↓e_iald, ↓e_cald, ↓e_iast, ↓e_aald, ↓e_aast, ↓e_len, ↓e_copy, ↓e_abs, ↓e_max, ↓e_min, ↓e_iret, ↓e_aret, ↓e_vret, ↓e_is0, ↓e_is1, ↓e_is2, ↓e_is3, ↓e_is4, ↓e_iv1, ↓e_iv2, ↓e_iv3, ↓e_iv4, ↓e_iv5, ↓e_iv6, ↓rt_X11_hearsBy, ↓reduceIte, Nat.reduceAdd, Nat.reduceEqDiff, ↓zcl0, ↓zclv, List.map_nil, List.sum_nil, List.map_cons, List.sum_cons, zcat, true_and, and_true, Nat.reduceLeDiff, Nat.reduceAdd, eq_self, forall_const, e_ok0, e_okss, e_ok1i, e_ok1r, e_ok1n, zl_0, zl_1, zl_2, zl_5, zl_11, zl_30, zl_60, Int.reduceToNat, Int.reduceAdd, Int.reduceMul, Int.reduceSub, Int.reduceNeg, Int.reduceLT, Int.reduceLE, Int.reduceEq, not_false_eq_true, not_true_eq_false, false_implies, true_implies, implies_true, Int.reduceDiv, Int.reduceMod, zr8_zr, zr_zbo, z01_zbo, z01_0, z01_1, zbo_eq0, zup_eq, zup_o, zup_k, ne_eq, ↓ct_hrrC_ran, ↓r_ran, ↓B_ran, ↓ct_hrrC_of, ↓r_of, ↓B_of, ↓ct_hrrC_knkC, ↓r_knkC, ↓B_knkC, ↓ct_hrrC_dggC, ↓r_dggC, ↓B_dggC, ↓ct_hrrC_above, ↓r_above, ↓B_above, ↓ct_hrrC_hrrB, ↓r_hrrB, ↓B_hrrB, ↓v_87, ↓g_87_0, ↓l_88, ↓s_88, ↓n_88, ↓g_87_1, ↓l_89, ↓s_89, ↓n_89, ↓g_87_2, ↓l_90, ↓s_90, ↓n_90, ↓g_87_3, ↓p_87_3, ↓g_87_4, ↓l_91, ↓s_91, ↓n_91, ↓g_87_5, ↓p_87_5, ↓g_87_6, ↓p_87_6, ↓g_87_7, ↓p_87_7, ↓g_87_8, ↓p_87_8, ↓g_87_9, ↓p_87_9, ↓g_87_10, ↓p_87_10, ↓g_87_11, ↓l_92, ↓s_92, ↓n_92, ↓g_87_12, ↓l_93, ↓s_93, ↓n_93, ↓g_87_13, ↓p_87_13, ↓g_87_14, ↓l_94, ↓s_94, ↓n_94, ↓g_87_15, ↓p_87_15, ↓g_87_16, ↓l_95, ↓s_95, ↓n_95, ↓g_87_17, ↓l_96, ↓s_96, ↓n_96, ↓g_87_18, ↓l_97, ↓s_97, ↓n_97, ↓g_87_19, ↓p_87_19, ↓g_87_20, ↓p_87_20, ↓g_87_21, ↓l_98, ↓s_98, ↓n_98, ↓g_87_22, ↓l_99, ↓s_99, ↓n_99, ↓g_87_23, ↓l_100, ↓s_100, ↓n_100, ↓g_87_24, ↓l_101, ↓s_101, ↓n_101, ab_5]
      rw [vhe_5 (by omega)] at hC
      refine ⟨vt, fun M1 n1 => ⟨rg_i (by omega) (by omega), n1.ok vt (rn1_ok vt.tok), fun M2 n2 => ?_⟩⟩
      rw [n1.who, n1.d, n1.1, vhe_2 (by omega)] at n2 ⊢
      exact hC M2 (n1.trans n2)
    · refine bs_X11_hearsBy_110 hX ?_
      simp only [bk_X11_hearsBy_0, k_X11_hearsBy_0, bk_X11_hearsBy_36, k_X11_hearsBy_36, bk_X11_hearsBy_59, k_X11_hearsBy_59, bk_X11_hearsBy_92, k_X11_hearsBy_92, bk_X11_hearsBy_110, k_X11_hearsBy_110, ↓e_rk1, ↓e_rk0, ↓e_sk0, ↓e_sks, ↓e_ldi0, ↓e_ldis, ↓e_ldl0, ↓e_ldls, ↓e_lda0, ↓e_ldas, ↓e_ok0, ↓e_okss, ↓e_ok1i, ↓e_ok1r, ↓e_ok1n, ↓e_sti, ↓e_sta, ↓e_1, ↓e_2, ↓e_l1, ↓e_l2, ↓e_li, ↓e_sw0, ↓e_sws, ↓e_ceq, ↓e_cne, ↓e_clt, ↓e_cge, ↓e_cgt, ↓e_cle, ↓e_nil, ↓e_cons, ↓e_iconst, ↓e_bipush, ↓e_sipush, ↓e_ldc, ↓e_ldcw, ↓e_ldc2, ↓e_lconst, ↓e_iloadn, ↓e_iload, ↓e_lloadn, ↓e_lload, ↓e_aloadn, ↓e_aload, ↓e_istoren, ↓e_istore, ↓e_astoren, ↓e_astore, ↓e_add, ↓e_iinc, ↓e_iadd, ↓e_isub, ↓e_imul, ↓e_iand, ↓e_ior, ↓e_ixor, ↓e_ishl, ↓e_iushr, ↓e_idiv, ↓e_irem, ↓e_ineg, ↓e_i2l, ↓e_i2b, ↓e_i2s, ↓e_l2i, ↓e_land, ↓e_lor, ↓e_lshl, ↓e_lshr, ↓e_lushr, ↓e_lcmp, ↓e_dupi, ↓e_dupr, ↓e_popi, ↓e_dup2, ↓e_goto, ↓e_if, ↓e_icmp, ↓e_tsw, ↓e_lsw, ↓e_getf, ↓e_putf, ↓e_gets, ↓e_iald, ↓e_cald, ↓e_iast, ↓e_aald, ↓e_aast, ↓e_len, ↓e_copy, ↓e_abs, ↓e_max, ↓e_min, ↓e_iret, ↓e_aret, ↓e_vret, ↓e_is0, ↓e_is1, ↓e_is2, ↓e_is3, ↓e_is4, ↓e_iv1, ↓e_iv2, ↓e_iv3, ↓e_iv4, ↓e_iv5, ↓e_iv6, ↓rt_X11_hearsBy, ↓reduceIte, Nat.reduceAdd, Nat.reduceEqDiff, ↓zcl0, ↓zclv, List.map_nil, List.sum_nil, List.map_cons, List.sum_cons, zcat, true_and, and_true, Nat.reduceLeDiff, Nat.reduceAdd, eq_self, forall_const, e_ok0, e_okss, e_ok1i, e_ok1r, e_ok1n, zl_0, zl_1, zl_2, zl_5, zl_11, zl_30, zl_60, Int.reduceToNat, Int.reduceAdd, Int.reduceMul, Int.reduceSub, Int.reduceNeg, Int.reduceLT, Int.reduceLE, Int.reduceEq, not_false_eq_true, not_true_eq_false, false_implies, true_implies, implies_true, Int.reduceDiv, Int.reduceMod, zr8_zr, zr_zbo, z01_zbo, z01_0, z01_1, zbo_eq0, zup_eq, zup_o, zup_k, ne_eq, ↓ct_hrrC_ran, ↓r_ran, ↓B_ran, ↓ct_hrrC_of, ↓r_of, ↓B_of, ↓ct_hrrC_knkC, ↓r_knkC, ↓B_knkC, ↓ct_hrrC_dggC, ↓r_dggC, ↓B_dggC, ↓ct_hrrC_above, ↓r_above, ↓B_above, ↓ct_hrrC_hrrB, ↓r_hrrB, ↓B_hrrB, ↓v_87, ↓g_87_0, ↓l_88, ↓s_88, ↓n_88, ↓g_87_1, ↓l_89, ↓s_89, ↓n_89, ↓g_87_2, ↓l_90, ↓s_90, ↓n_90, ↓g_87_3, ↓p_87_3, ↓g_87_4, ↓l_91, ↓s_91, ↓n_91, ↓g_87_5, ↓p_87_5, ↓g_87_6, ↓p_87_6, ↓g_87_7, ↓p_87_7, ↓g_87_8, ↓p_87_8, ↓g_87_9, ↓p_87_9, ↓g_87_10, ↓p_87_10, ↓g_87_11, ↓l_92, ↓s_92, ↓n_92, ↓g_87_12, ↓l_93, ↓s_93, ↓n_93, ↓g_87_13, ↓p_87_13, ↓g_87_14, ↓l_94, ↓s_94, ↓n_94, ↓g_87_15, ↓p_87_15, ↓g_87_16, ↓l_95, ↓s_95, ↓n_95, ↓g_87_17, ↓l_96, ↓s_96, ↓n_96, ↓g_87_18, ↓l_97, ↓s_97, ↓n_97, ↓g_87_19, ↓p_87_19, ↓g_87_20, ↓p_87_20, ↓g_87_21, ↓l_98, ↓s_98, ↓n_98, ↓g_87_22, ↓l_99, ↓s_99, ↓n_99, ↓g_87_23, ↓l_100, ↓s_100, ↓n_100, ↓g_87_24, ↓l_101, ↓s_101, ↓n_101]
      have ea : vhe (M 87 20) (ei (M 88) (M 87 20) 1) (ei (M 88) (M 87 20) 0) (abv k) x (tS M) = vhe (M 87 20) (ei (M 88) (M 87 20) 1) (ei (M 88) (M 87 20) 0) k x (tS M) := by
        unfold vhe
        rw [abv_if]
        (repeat' split) <;> first | rfl | omega
      have ab := abv_if k
      refine ⟨rg_i (by omega) (by omega), ?_, vt, fun M2 n2 => ?_⟩
      · split at ab <;> omega
      rw [ea] at n2 ⊢
      exact hC M2 n2
def B_tllA (k : Int) (x : Int) (M : Nat → Nat → Int) (post : Option ZV → (Nat → Nat → Int) → Prop) : Prop := (0 ≤ k ∧ k ≤ 0) ∧ Vtr M ∧ ∀ M2 : ZMm, Nx M (vte (M 87 20) (ei (M 88) (M 87 20) 1) (ei (M 88) (M 87 20) 0) k x (tS M)).2 M2 → post (some (.inl (vte (M 87 20) (ei (M 88) (M 87 20) 1) (ei (M 88) (M 87 20) 0) k x (tS M)).1)) M2
def C_tllA : ZC := fun as h post => match as with
  | [.inr (.inr (.inl 87)), .inl k, .inl x] => h.1 = zG ∧ B_tllA k x h.2 (fun v M => post v (zG, M))
  | _ => False
theorem r_tllA {k : Int} {x : Int} {M : Nat → Nat → Int} {post : Option ZV → ZH → Prop} : C_tllA [.inr (.inr (.inl 87)), .inl k, .inl x] (zG, M) post = B_tllA k x M (fun v M => post v (zG, M)) := by show (zG = zG ∧ _) = _; simp
def ct_tllA : Nat → ZC := fun n => if n = 203 then C_ran else if n = 126 then C_of else if n = 206 then C_dggC else if n = 205 then C_hrrC else fun _ _ _ => False
theorem ct_tllA_ran {as : List ZV} {h : ZH} {post : Option ZV → ZH → Prop} : ct_tllA 203 as h post = C_ran as h post := rfl
theorem ct_tllA_of {as : List ZV} {h : ZH} {post : Option ZV → ZH → Prop} : ct_tllA 126 as h post = C_of as h post := rfl
theorem ct_tllA_dggC {as : List ZV} {h : ZH} {post : Option ZV → ZH → Prop} : ct_tllA 206 as h post = C_dggC as h post := rfl
theorem ct_tllA_hrrC {as : List ZV} {h : ZH} {post : Option ZV → ZH → Prop} : ct_tllA 205 as h post = C_hrrC as h post := rfl
theorem c_tllA {E : ZE} {d : Nat} (hd : 8 ≤ d) : zMet E d mX11_tellsBy C_tllA := by
  refine zmet_of (o := 11) (ini := false) (CT := ct_tllA) gd_X11_tellsBy rfl (fun h => by cases h) (by omega) ?_ ?_
  · intro n as h post hh
    unfold ct_tllA at hh
    by_cases c : n = 203
    · subst c; exact ⟨gd_X11_ran, 1, by omega, c_ran (by omega)⟩
    rw [if_neg c] at hh
    by_cases c : n = 126
    · subst c; exact ⟨gd_X11_of, 1, by omega, c_of (by omega)⟩
    rw [if_neg c] at hh
    by_cases c : n = 206
    · subst c; exact ⟨gd_X11_digsBy, 4, by omega, c_dggC (by omega)⟩
    rw [if_neg c] at hh
    by_cases c : n = 205
    · subst c; exact ⟨gd_X11_hearsBy, 7, by omega, c_hrrC (by omega)⟩
    rw [if_neg c] at hh
    exact hh.elim
  intro as h post hC
  match as, hC with
  | [.inr (.inr (.inl 87)), .inl k, .inl x], hC =>
    refine ⟨Nat.le_of_ble_eq_true rfl, fun X hX => bs_X11_tellsBy_0 hX ?_⟩
    obtain ⟨G, M⟩ := h
    obtain ⟨hG, hC⟩ := hC
    dsimp only at hG
    subst hG
    simp only [B_tllA] at hC
    show bk_X11_tellsBy_0 E ct_tllA X _ [some (.inr (.inr (.inl 87))), some (.inl k), some (.inl x), none] [] (zG, M) (0, 0)
    obtain ⟨hk, vt, hC⟩ := hC
    have hw := vt.2.2
    have ek := (Vd_ei vt.1 (e := M 87 20) (by omega) (by omega)).1
    have zk : zr k = k := zr_of (by omega) (by omega)
    simp only [bk_X11_tellsBy_0, k_X11_tellsBy_0, bk_X11_tellsBy_36, k_X11_tellsBy_36, bk_X11_tellsBy_74, k_X11_tellsBy_74, bk_X11_tellsBy_107, k_X11_tellsBy_107, bk_X11_tellsBy_141, k_X11_tellsBy_141, ↓e_rk1, ↓e_rk0, ↓e_sk0, ↓e_sks, ↓e_ldi0, ↓e_ldis, ↓e_ldl0, ↓e_ldls, ↓e_lda0, ↓e_ldas, ↓e_ok0, ↓e_okss, ↓e_ok1i, ↓e_ok1r, ↓e_ok1n, ↓e_sti, ↓e_sta, ↓e_1, ↓e_2, ↓e_l1, ↓e_l2, ↓e_li, ↓e_sw0, ↓e_sws, ↓e_ceq, ↓e_cne, ↓e_clt, ↓e_cge, ↓e_cgt, ↓e_cle, ↓e_nil, ↓e_cons, ↓e_iconst, ↓e_bipush, ↓e_sipush, ↓e_ldc, ↓e_ldcw, ↓e_ldc2, ↓e_lconst, ↓e_iloadn, ↓e_iload, ↓e_lloadn, ↓e_lload, ↓e_aloadn, ↓e_aload, ↓e_istoren, ↓e_istore, ↓e_astoren, ↓e_astore, ↓e_add, ↓e_iinc, ↓e_iadd, ↓e_isub, ↓e_imul, ↓e_iand, ↓e_ior, ↓e_ixor, ↓e_ishl, ↓e_iushr, ↓e_idiv, ↓e_irem, ↓e_ineg, ↓e_i2l, ↓e_i2b, ↓e_i2s, ↓e_l2i, ↓e_land, ↓e_lor, ↓e_lshl, ↓e_lshr, ↓e_lushr, ↓e_lcmp, ↓e_dupi, ↓e_dupr, ↓e_popi, ↓e_dup2, ↓e_goto, ↓e_if, ↓e_icmp, ↓e_tsw, ↓e_lsw, ↓e_getf, ↓e_putf, ↓e_gets, ↓e_iald, ↓e_cald, ↓e_iast, ↓e_aald, ↓e_aast, ↓e_len, ↓e_copy, ↓e_abs, ↓e_max, ↓e_min, ↓e_iret, ↓e_aret, ↓e_vret, ↓e_is0, ↓e_is1, ↓e_is2, ↓e_is3, ↓e_is4, ↓e_iv1, ↓e_iv2, ↓e_iv3, ↓e_iv4, ↓e_iv5, ↓e_iv6, ↓rt_X11_tellsBy, ↓reduceIte, Nat.reduceAdd, Nat.reduceEqDiff, ↓zcl0, ↓zclv, List.map_nil, List.sum_nil, List.map_cons, List.sum_cons, zcat, true_and, and_true, Nat.reduceLeDiff, Nat.reduceAdd, eq_self, forall_const, e_ok0, e_okss, e_ok1i, e_ok1r, e_ok1n, zl_0, zl_2, zl_4, zl_6, zl_13, zl_50, zl_71, Int.reduceToNat, Int.reduceAdd, Int.reduceMul, Int.reduceSub, Int.reduceNeg, Int.reduceLT, Int.reduceLE, Int.reduceEq, not_false_eq_true, not_true_eq_false, false_implies, true_implies, implies_true, Int.reduceDiv, Int.reduceMod, zr8_zr, zr_zbo, z01_zbo, z01_0, z01_1, zbo_eq0, zup_eq, zup_o, zup_k, ne_eq, ↓ct_tllA_ran, ↓r_ran, ↓B_ran, ↓ct_tllA_of, ↓r_of, ↓B_of, ↓ct_tllA_dggC, ↓r_dggC, ↓B_dggC, ↓ct_tllA_hrrC, ↓r_hrrC, ↓B_hrrC, ↓v_87, ↓g_87_0, ↓l_88, ↓s_88, ↓n_88, ↓g_87_1, ↓l_89, ↓s_89, ↓n_89, ↓g_87_2, ↓l_90, ↓s_90, ↓n_90, ↓g_87_3, ↓p_87_3, ↓g_87_4, ↓l_91, ↓s_91, ↓n_91, ↓g_87_5, ↓p_87_5, ↓g_87_6, ↓p_87_6, ↓g_87_7, ↓p_87_7, ↓g_87_8, ↓p_87_8, ↓g_87_9, ↓p_87_9, ↓g_87_10, ↓p_87_10, ↓g_87_11, ↓l_92, ↓s_92, ↓n_92, ↓g_87_12, ↓l_93, ↓s_93, ↓n_93, ↓g_87_13, ↓p_87_13, ↓g_87_14, ↓l_94, ↓s_94, ↓n_94, ↓g_87_15, ↓p_87_15, ↓g_87_16, ↓l_95, ↓s_95, ↓n_95, ↓g_87_17, ↓l_96, ↓s_96, ↓n_96, ↓g_87_18, ↓l_97, ↓s_97, ↓n_97, ↓g_87_19, ↓p_87_19, ↓g_87_20, ↓p_87_20, ↓g_87_21, ↓l_98, ↓s_98, ↓n_98, ↓g_87_22, ↓l_99, ↓s_99, ↓n_99, ↓g_87_23, ↓l_100, ↓s_100, ↓n_100, ↓g_87_24, ↓l_101, ↓s_101, ↓n_101, zk]
    refine ⟨fun c => ?_, fun c => ⟨fun c2 => ?_, fun c2 => ⟨fun c3 => ?_, fun c3 => ?_⟩⟩⟩
    · refine bs_X11_tellsBy_36 hX ?_
      simp only [bk_X11_tellsBy_0, k_X11_tellsBy_0, bk_X11_tellsBy_36, k_X11_tellsBy_36, bk_X11_tellsBy_74, k_X11_tellsBy_74, bk_X11_tellsBy_107, k_X11_tellsBy_107, bk_X11_tellsBy_141, k_X11_tellsBy_141, ↓e_rk1, ↓e_rk0, ↓e_sk0, ↓e_sks, ↓e_ldi0, ↓e_ldis, ↓e_ldl0, ↓e_ldls, ↓e_lda0, ↓e_ldas, ↓e_ok0, ↓e_okss, ↓e_ok1i, ↓e_ok1r, ↓e_ok1n, ↓e_sti, ↓e_sta, ↓e_1, ↓e_2, ↓e_l1, ↓e_l2, ↓e_li, ↓e_sw0, ↓e_sws, ↓e_ceq, ↓e_cne, ↓e_clt, ↓e_cge, ↓e_cgt, ↓e_cle, ↓e_nil, ↓e_cons, ↓e_iconst, ↓e_bipush, ↓e_sipush, ↓e_ldc, ↓e_ldcw, ↓e_ldc2, ↓e_lconst, ↓e_iloadn, ↓e_iload, ↓e_lloadn, ↓e_lload, ↓e_aloadn, ↓e_aload, ↓e_istoren, ↓e_istore, ↓e_astoren, ↓e_astore, ↓e_add, ↓e_iinc, ↓e_iadd, ↓e_isub, ↓e_imul, ↓e_iand, ↓e_ior, ↓e_ixor, ↓e_ishl, ↓e_iushr, ↓e_idiv, ↓e_irem, ↓e_ineg, ↓e_i2l, ↓e_i2b, ↓e_i2s, ↓e_l2i, ↓e_land, ↓e_lor, ↓e_lshl, ↓e_lshr, ↓e_lushr, ↓e_lcmp, ↓e_dupi, ↓e_dupr, ↓e_popi, ↓e_dup2, ↓e_goto, ↓e_if, ↓e_icmp, ↓e_tsw, ↓e_lsw, ↓e_getf, ↓e_putf, ↓e_gets, ↓e_iald, ↓e_cald, ↓e_iast, ↓e_aald, ↓e_aast, ↓e_len, ↓e_copy, ↓e_abs, ↓e_max, ↓e_min, ↓e_iret, ↓e_aret, ↓e_vret, ↓e_is0, ↓e_is1, ↓e_is2, ↓e_is3, ↓e_is4, ↓e_iv1, ↓e_iv2, ↓e_iv3, ↓e_iv4, ↓e_iv5, ↓e_iv6, ↓rt_X11_tellsBy, ↓reduceIte, Nat.reduceAdd, Nat.reduceEqDiff, ↓zcl0, ↓zclv, List.map_nil, List.sum_nil, List.map_cons, List.sum_cons, zcat, true_and, and_true, Nat.reduceLeDiff, Nat.reduceAdd, eq_self, forall_const, e_ok0, e_okss, e_ok1i, e_ok1r, e_ok1n, zl_0, zl_2, zl_4, zl_6, zl_13, zl_50, zl_71, Int.reduceToNat, Int.reduceAdd, Int.reduceMul, Int.reduceSub, Int.reduceNeg, Int.reduceLT, Int.reduceLE, Int.reduceEq, not_false_eq_true, not_true_eq_false, false_implies, true_implies, implies_true, Int.reduceDiv, Int.reduceMod, zr8_zr, zr_zbo, z01_zbo, z01_0, z01_1, zbo_eq0, zup_eq, zup_o, zup_k, ne_eq, ↓ct_tllA_ran, ↓r_ran, ↓B_ran, ↓ct_tllA_of, ↓r_of, ↓B_of, ↓ct_tllA_dggC, ↓r_dggC, ↓B_dggC, ↓ct_tllA_hrrC, ↓r_hrrC, ↓B_hrrC, ↓v_87, ↓g_87_0, ↓l_88, ↓s_88, ↓n_88, ↓g_87_1, ↓l_89, ↓s_89, ↓n_89, ↓g_87_2, ↓l_90, ↓s_90, ↓n_90, ↓g_87_3, ↓p_87_3, ↓g_87_4, ↓l_91, ↓s_91, ↓n_91, ↓g_87_5, ↓p_87_5, ↓g_87_6, ↓p_87_6, ↓g_87_7, ↓p_87_7, ↓g_87_8, ↓p_87_8, ↓g_87_9, ↓p_87_9, ↓g_87_10, ↓p_87_10, ↓g_87_11, ↓l_92, ↓s_92, ↓n_92, ↓g_87_12, ↓l_93, ↓s_93, ↓n_93, ↓g_87_13, ↓p_87_13, ↓g_87_14, ↓l_94, ↓s_94, ↓n_94, ↓g_87_15, ↓p_87_15, ↓g_87_16, ↓l_95, ↓s_95, ↓n_95, ↓g_87_17, ↓l_96, ↓s_96, ↓n_96, ↓g_87_18, ↓l_97, ↓s_97, ↓n_97, ↓g_87_19, ↓p_87_19, ↓g_87_20, ↓p_87_20, ↓g_87_21, ↓l_98, ↓s_98, ↓n_98, ↓g_87_22, ↓l_99, ↓s_99, ↓n_99, ↓g_87_23, ↓l_100, ↓s_100, ↓n_100, ↓g_87_24, ↓l_101, ↓s_101, ↓n_101]
      rw [vte_0 (by omega)] at hC
      refine ⟨vt, fun M1 n1 => ?_⟩
      rw [n1.who, n1.d, n1.1]
      refine ⟨by omega, by omega, ek, n1.ok vt (rn1_ok vt.tok), fun M2 n2 => ?_⟩
      rw [n2.who, n2.d, n1.who, n1.d, n2.1]
      exact ⟨by omega, by omega, ek, (n1.trans n2).ok vt (vhe_ok (rn1_ok vt.tok)), fun M3 n3 => hC M3 ((n1.trans n2).trans n3)⟩
    · omega
    · omega
    · omega
def B_tllB (k : Int) (x : Int) (M : Nat → Nat → Int) (post : Option ZV → (Nat → Nat → Int) → Prop) : Prop := (0 ≤ k ∧ k ≤ 3) ∧ Vtr M ∧ ∀ M2 : ZMm, Nx M (vte (M 87 20) (ei (M 88) (M 87 20) 1) (ei (M 88) (M 87 20) 0) k x (tS M)).2 M2 → post (some (.inl (vte (M 87 20) (ei (M 88) (M 87 20) 1) (ei (M 88) (M 87 20) 0) k x (tS M)).1)) M2
def C_tllB : ZC := fun as h post => match as with
  | [.inr (.inr (.inl 87)), .inl k, .inl x] => h.1 = zG ∧ B_tllB k x h.2 (fun v M => post v (zG, M))
  | _ => False
theorem r_tllB {k : Int} {x : Int} {M : Nat → Nat → Int} {post : Option ZV → ZH → Prop} : C_tllB [.inr (.inr (.inl 87)), .inl k, .inl x] (zG, M) post = B_tllB k x M (fun v M => post v (zG, M)) := by show (zG = zG ∧ _) = _; simp
def ct_tllB : Nat → ZC := fun n => if n = 203 then C_ran else if n = 126 then C_of else if n = 204 then C_knkC else if n = 206 then C_dggC else if n = 205 then C_hrrC else if n = 128 then C_above else if n = 207 then C_tllA else fun _ _ _ => False
theorem ct_tllB_ran {as : List ZV} {h : ZH} {post : Option ZV → ZH → Prop} : ct_tllB 203 as h post = C_ran as h post := rfl
theorem ct_tllB_of {as : List ZV} {h : ZH} {post : Option ZV → ZH → Prop} : ct_tllB 126 as h post = C_of as h post := rfl
theorem ct_tllB_knkC {as : List ZV} {h : ZH} {post : Option ZV → ZH → Prop} : ct_tllB 204 as h post = C_knkC as h post := rfl
theorem ct_tllB_dggC {as : List ZV} {h : ZH} {post : Option ZV → ZH → Prop} : ct_tllB 206 as h post = C_dggC as h post := rfl
theorem ct_tllB_hrrC {as : List ZV} {h : ZH} {post : Option ZV → ZH → Prop} : ct_tllB 205 as h post = C_hrrC as h post := rfl
theorem ct_tllB_above {as : List ZV} {h : ZH} {post : Option ZV → ZH → Prop} : ct_tllB 128 as h post = C_above as h post := rfl
theorem ct_tllB_tllA {as : List ZV} {h : ZH} {post : Option ZV → ZH → Prop} : ct_tllB 207 as h post = C_tllA as h post := rfl
theorem c_tllB {E : ZE} {d : Nat} (hd : 9 ≤ d) : zMet E d mX11_tellsBy C_tllB := by
  refine zmet_of (o := 11) (ini := false) (CT := ct_tllB) gd_X11_tellsBy rfl (fun h => by cases h) (by omega) ?_ ?_
  · intro n as h post hh
    unfold ct_tllB at hh
    by_cases c : n = 203
    · subst c; exact ⟨gd_X11_ran, 1, by omega, c_ran (by omega)⟩
    rw [if_neg c] at hh
    by_cases c : n = 126
    · subst c; exact ⟨gd_X11_of, 1, by omega, c_of (by omega)⟩
    rw [if_neg c] at hh
    by_cases c : n = 204
    · subst c; exact ⟨gd_X11_knocksBy, 4, by omega, c_knkC (by omega)⟩
    rw [if_neg c] at hh
    by_cases c : n = 206
    · subst c; exact ⟨gd_X11_digsBy, 4, by omega, c_dggC (by omega)⟩
    rw [if_neg c] at hh
    by_cases c : n = 205
    · subst c; exact ⟨gd_X11_hearsBy, 7, by omega, c_hrrC (by omega)⟩
    rw [if_neg c] at hh
    by_cases c : n = 128
    · subst c; exact ⟨gd_X11_above, 1, by omega, c_above (by omega)⟩
    rw [if_neg c] at hh
    by_cases c : n = 207
    · subst c; exact ⟨gd_X11_tellsBy, 8, by omega, c_tllA (by omega)⟩
    rw [if_neg c] at hh
    exact hh.elim
  intro as h post hC
  match as, hC with
  | [.inr (.inr (.inl 87)), .inl k, .inl x], hC =>
    refine ⟨Nat.le_of_ble_eq_true rfl, fun X hX => bs_X11_tellsBy_0 hX ?_⟩
    obtain ⟨G, M⟩ := h
    obtain ⟨hG, hC⟩ := hC
    dsimp only at hG
    subst hG
    simp only [B_tllB] at hC
    show bk_X11_tellsBy_0 E ct_tllB X _ [some (.inr (.inr (.inl 87))), some (.inl k), some (.inl x), none] [] (zG, M) (0, 0)
    obtain ⟨hk, vt, hC⟩ := hC
    have hw := vt.2.2
    have ek := (Vd_ei vt.1 (e := M 87 20) (by omega) (by omega)).1
    have zk : zr k = k := zr_of (by omega) (by omega)
    simp only [bk_X11_tellsBy_0, k_X11_tellsBy_0, bk_X11_tellsBy_36, k_X11_tellsBy_36, bk_X11_tellsBy_74, k_X11_tellsBy_74, bk_X11_tellsBy_107, k_X11_tellsBy_107, bk_X11_tellsBy_141, k_X11_tellsBy_141, ↓e_rk1, ↓e_rk0, ↓e_sk0, ↓e_sks, ↓e_ldi0, ↓e_ldis, ↓e_ldl0, ↓e_ldls, ↓e_lda0, ↓e_ldas, ↓e_ok0, ↓e_okss, ↓e_ok1i, ↓e_ok1r, ↓e_ok1n, ↓e_sti, ↓e_sta, ↓e_1, ↓e_2, ↓e_l1, ↓e_l2, ↓e_li, ↓e_sw0, ↓e_sws, ↓e_ceq, ↓e_cne, ↓e_clt, ↓e_cge, ↓e_cgt, ↓e_cle, ↓e_nil, ↓e_cons, ↓e_iconst, ↓e_bipush, ↓e_sipush, ↓e_ldc, ↓e_ldcw, ↓e_ldc2, ↓e_lconst, ↓e_iloadn, ↓e_iload, ↓e_lloadn, ↓e_lload, ↓e_aloadn, ↓e_aload, ↓e_istoren, ↓e_istore, ↓e_astoren, ↓e_astore, ↓e_add, ↓e_iinc, ↓e_iadd, ↓e_isub, ↓e_imul, ↓e_iand, ↓e_ior, ↓e_ixor, ↓e_ishl, ↓e_iushr, ↓e_idiv, ↓e_irem, ↓e_ineg, ↓e_i2l, ↓e_i2b, ↓e_i2s, ↓e_l2i, ↓e_land, ↓e_lor, ↓e_lshl, ↓e_lshr, ↓e_lushr, ↓e_lcmp, ↓e_dupi, ↓e_dupr, ↓e_popi, ↓e_dup2, ↓e_goto, ↓e_if, ↓e_icmp, ↓e_tsw, ↓e_lsw, ↓e_getf, ↓e_putf, ↓e_gets, ↓e_iald, ↓e_cald, ↓e_iast, ↓e_aald, ↓e_aast, ↓e_len, ↓e_copy, ↓e_abs, ↓e_max, ↓e_min, ↓e_iret, ↓e_aret, ↓e_vret, ↓e_is0, ↓e_is1, ↓e_is2, ↓e_is3, ↓e_is4, ↓e_iv1, ↓e_iv2, ↓e_iv3, ↓e_iv4, ↓e_iv5, ↓e_iv6, ↓rt_X11_tellsBy, ↓reduceIte, Nat.reduceAdd, Nat.reduceEqDiff, ↓zcl0, ↓zclv, List.map_nil, List.sum_nil, List.map_cons, List.sum_cons, zcat, true_and, and_true, Nat.reduceLeDiff, Nat.reduceAdd, eq_self, forall_const, e_ok0, e_okss, e_ok1i, e_ok1r, e_ok1n, zl_0, zl_2, zl_4, zl_6, zl_13, zl_50, zl_71, Int.reduceToNat, Int.reduceAdd, Int.reduceMul, Int.reduceSub, Int.reduceNeg, Int.reduceLT, Int.reduceLE, Int.reduceEq, not_false_eq_true, not_true_eq_false, false_implies, true_implies, implies_true, Int.reduceDiv, Int.reduceMod, zr8_zr, zr_zbo, z01_zbo, z01_0, z01_1, zbo_eq0, zup_eq, zup_o, zup_k, ne_eq, ↓ct_tllB_ran, ↓r_ran, ↓B_ran, ↓ct_tllB_of, ↓r_of, ↓B_of, ↓ct_tllB_knkC, ↓r_knkC, ↓B_knkC, ↓ct_tllB_dggC, ↓r_dggC, ↓B_dggC, ↓ct_tllB_hrrC, ↓r_hrrC, ↓B_hrrC, ↓ct_tllB_above, ↓r_above, ↓B_above, ↓ct_tllB_tllA, ↓r_tllA, ↓B_tllA, ↓v_87, ↓g_87_0, ↓l_88, ↓s_88, ↓n_88, ↓g_87_1, ↓l_89, ↓s_89, ↓n_89, ↓g_87_2, ↓l_90, ↓s_90, ↓n_90, ↓g_87_3, ↓p_87_3, ↓g_87_4, ↓l_91, ↓s_91, ↓n_91, ↓g_87_5, ↓p_87_5, ↓g_87_6, ↓p_87_6, ↓g_87_7, ↓p_87_7, ↓g_87_8, ↓p_87_8, ↓g_87_9, ↓p_87_9, ↓g_87_10, ↓p_87_10, ↓g_87_11, ↓l_92, ↓s_92, ↓n_92, ↓g_87_12, ↓l_93, ↓s_93, ↓n_93, ↓g_87_13, ↓p_87_13, ↓g_87_14, ↓l_94, ↓s_94, ↓n_94, ↓g_87_15, ↓p_87_15, ↓g_87_16, ↓l_95, ↓s_95, ↓n_95, ↓g_87_17, ↓l_96, ↓s_96, ↓n_96, ↓g_87_18, ↓l_97, ↓s_97, ↓n_97, ↓g_87_19, ↓p_87_19, ↓g_87_20, ↓p_87_20, ↓g_87_21, ↓l_98, ↓s_98, ↓n_98, ↓g_87_22, ↓l_99, ↓s_99, ↓n_99, ↓g_87_23, ↓l_100, ↓s_100, ↓n_100, ↓g_87_24, ↓l_101, ↓s_101, ↓n_101, zk]
    refine ⟨fun c => ?_, fun c => ⟨fun c2 => ?_, fun c2 => ⟨fun c3 => ?_, fun c3 => ?_⟩⟩⟩
    · refine bs_X11_tellsBy_36 hX ?_
      simp only [bk_X11_tellsBy_0, k_X11_tellsBy_0, bk_X11_tellsBy_36, k_X11_tellsBy_36, bk_X11_tellsBy_74, k_X11_tellsBy_74, bk_X11_tellsBy_107, k_X11_tellsBy_107, bk_X11_tellsBy_141, k_X11_tellsBy_141, ↓e_rk1, ↓e_rk0, ↓e_sk0, ↓e_sks, ↓e_ldi0, ↓e_ldis, ↓e_ldl0, ↓e_ldls, ↓e_lda0, ↓e_ldas, ↓e_ok0, ↓e_okss, ↓e_ok1i, ↓e_ok1r, ↓e_ok1n, ↓e_sti, ↓e_sta, ↓e_1, ↓e_2, ↓e_l1, ↓e_l2, ↓e_li, ↓e_sw0, ↓e_sws, ↓e_ceq, ↓e_cne, ↓e_clt, ↓e_cge, ↓e_cgt, ↓e_cle, ↓e_nil, ↓e_cons, ↓e_iconst, ↓e_bipush, ↓e_sipush, ↓e_ldc, ↓e_ldcw, ↓e_ldc2, ↓e_lconst, ↓e_iloadn, ↓e_iload, ↓e_lloadn, ↓e_lload, ↓e_aloadn, ↓e_aload, ↓e_istoren, ↓e_istore, ↓e_astoren, ↓e_astore, ↓e_add, ↓e_iinc, ↓e_iadd, ↓e_isub, ↓e_imul, ↓e_iand, ↓e_ior, ↓e_ixor, ↓e_ishl, ↓e_iushr, ↓e_idiv, ↓e_irem, ↓e_ineg, ↓e_i2l, ↓e_i2b, ↓e_i2s, ↓e_l2i, ↓e_land, ↓e_lor, ↓e_lshl, ↓e_lshr, ↓e_lushr, ↓e_lcmp, ↓e_dupi, ↓e_dupr, ↓e_popi, ↓e_dup2, ↓e_goto, ↓e_if, ↓e_icmp, ↓e_tsw, ↓e_lsw, ↓e_getf, ↓e_putf, ↓e_gets, ↓e_iald, ↓e_cald, ↓e_iast, ↓e_aald, ↓e_aast, ↓e_len, ↓e_copy, ↓e_abs, ↓e_max, ↓e_min, ↓e_iret, ↓e_aret, ↓e_vret, ↓e_is0, ↓e_is1, ↓e_is2, ↓e_is3, ↓e_is4, ↓e_iv1, ↓e_iv2, ↓e_iv3, ↓e_iv4, ↓e_iv5, ↓e_iv6, ↓rt_X11_tellsBy, ↓reduceIte, Nat.reduceAdd, Nat.reduceEqDiff, ↓zcl0, ↓zclv, List.map_nil, List.sum_nil, List.map_cons, List.sum_cons, zcat, true_and, and_true, Nat.reduceLeDiff, Nat.reduceAdd, eq_self, forall_const, e_ok0, e_okss, e_ok1i, e_ok1r, e_ok1n, zl_0, zl_2, zl_4, zl_6, zl_13, zl_50, zl_71, Int.reduceToNat, Int.reduceAdd, Int.reduceMul, Int.reduceSub, Int.reduceNeg, Int.reduceLT, Int.reduceLE, Int.reduceEq, not_false_eq_true, not_true_eq_false, false_implies, true_implies, implies_true, Int.reduceDiv, Int.reduceMod, zr8_zr, zr_zbo, z01_zbo, z01_0, z01_1, zbo_eq0, zup_eq, zup_o, zup_k, ne_eq, ↓ct_tllB_ran, ↓r_ran, ↓B_ran, ↓ct_tllB_of, ↓r_of, ↓B_of, ↓ct_tllB_knkC, ↓r_knkC, ↓B_knkC, ↓ct_tllB_dggC, ↓r_dggC, ↓B_dggC, ↓ct_tllB_hrrC, ↓r_hrrC, ↓B_hrrC, ↓ct_tllB_above, ↓r_above, ↓B_above, ↓ct_tllB_tllA, ↓r_tllA, ↓B_tllA, ↓v_87, ↓g_87_0, ↓l_88, ↓s_88, ↓n_88, ↓g_87_1, ↓l_89, ↓s_89, ↓n_89, ↓g_87_2, ↓l_90, ↓s_90, ↓n_90, ↓g_87_3, ↓p_87_3, ↓g_87_4, ↓l_91, ↓s_91, ↓n_91, ↓g_87_5, ↓p_87_5, ↓g_87_6, ↓p_87_6, ↓g_87_7, ↓p_87_7, ↓g_87_8, ↓p_87_8, ↓g_87_9, ↓p_87_9, ↓g_87_10, ↓p_87_10, ↓g_87_11, ↓l_92, ↓s_92, ↓n_92, ↓g_87_12, ↓l_93, ↓s_93, ↓n_93, ↓g_87_13, ↓p_87_13, ↓g_87_14, ↓l_94, ↓s_94, ↓n_94, ↓g_87_15, ↓p_87_15, ↓g_87_16, ↓l_95, ↓s_95, ↓n_95, ↓g_87_17, ↓l_96, ↓s_96, ↓n_96, ↓g_87_18, ↓l_97, ↓s_97, ↓n_97, ↓g_87_19, ↓p_87_19, ↓g_87_20, ↓p_87_20, ↓g_87_21, ↓l_98, ↓s_98, ↓n_98, ↓g_87_22, ↓l_99, ↓s_99, ↓n_99, ↓g_87_23, ↓l_100, ↓s_100, ↓n_100, ↓g_87_24, ↓l_101, ↓s_101, ↓n_101]
      rw [vte_0 (by omega)] at hC
      refine ⟨vt, fun M1 n1 => ?_⟩
      rw [n1.who, n1.d, n1.1]
      refine ⟨by omega, by omega, ek, n1.ok vt (rn1_ok vt.tok), fun M2 n2 => ?_⟩
      rw [n2.who, n2.d, n1.who, n1.d, n2.1]
      exact ⟨by omega, by omega, ek, (n1.trans n2).ok vt (vhe_ok (rn1_ok vt.tok)), fun M3 n3 => hC M3 ((n1.trans n2).trans n3)⟩
    · omega
    · omega
    · refine bs_X11_tellsBy_141 hX ?_
      simp only [bk_X11_tellsBy_0, k_X11_tellsBy_0, bk_X11_tellsBy_36, k_X11_tellsBy_36, bk_X11_tellsBy_74, k_X11_tellsBy_74, bk_X11_tellsBy_107, k_X11_tellsBy_107, bk_X11_tellsBy_141, k_X11_tellsBy_141, ↓e_rk1, ↓e_rk0, ↓e_sk0, ↓e_sks, ↓e_ldi0, ↓e_ldis, ↓e_ldl0, ↓e_ldls, ↓e_lda0, ↓e_ldas, ↓e_ok0, ↓e_okss, ↓e_ok1i, ↓e_ok1r, ↓e_ok1n, ↓e_sti, ↓e_sta, ↓e_1, ↓e_2, ↓e_l1, ↓e_l2, ↓e_li, ↓e_sw0, ↓e_sws, ↓e_ceq, ↓e_cne, ↓e_clt, ↓e_cge, ↓e_cgt, ↓e_cle, ↓e_nil, ↓e_cons, ↓e_iconst, ↓e_bipush, ↓e_sipush, ↓e_ldc, ↓e_ldcw, ↓e_ldc2, ↓e_lconst, ↓e_iloadn, ↓e_iload, ↓e_lloadn, ↓e_lload, ↓e_aloadn, ↓e_aload, ↓e_istoren, ↓e_istore, ↓e_astoren, ↓e_astore, ↓e_add, ↓e_iinc, ↓e_iadd, ↓e_isub, ↓e_imul, ↓e_iand, ↓e_ior, ↓e_ixor, ↓e_ishl, ↓e_iushr, ↓e_idiv, ↓e_irem, ↓e_ineg, ↓e_i2l, ↓e_i2b, ↓e_i2s, ↓e_l2i, ↓e_land, ↓e_lor, ↓e_lshl, ↓e_lshr, ↓e_lushr, ↓e_lcmp, ↓e_dupi, ↓e_dupr, ↓e_popi, ↓e_dup2, ↓e_goto, ↓e_if, ↓e_icmp, ↓e_tsw, ↓e_lsw, ↓e_getf, ↓e_putf, ↓e_gets, ↓e_iald, ↓e_cald, ↓e_iast, ↓e_aald, ↓e_aast, ↓e_len, ↓e_copy, ↓e_abs, ↓e_max, ↓e_min, ↓e_iret, ↓e_aret, ↓e_vret, ↓e_is0, ↓e_is1, ↓e_is2, ↓e_is3, ↓e_is4, ↓e_iv1, ↓e_iv2, ↓e_iv3, ↓e_iv4, ↓e_iv5, ↓e_iv6, ↓rt_X11_tellsBy, ↓reduceIte, Nat.reduceAdd, Nat.reduceEqDiff, ↓zcl0, ↓zclv, List.map_nil, List.sum_nil, List.map_cons, List.sum_cons, zcat, true_and, and_true, Nat.reduceLeDiff, Nat.reduceAdd, eq_self, forall_const, e_ok0, e_okss, e_ok1i, e_ok1r, e_ok1n, zl_0, zl_2, zl_4, zl_6, zl_13, zl_50, zl_71, Int.reduceToNat, Int.reduceAdd, Int.reduceMul, Int.reduceSub, Int.reduceNeg, Int.reduceLT, Int.reduceLE, Int.reduceEq, not_false_eq_true, not_true_eq_false, false_implies, true_implies, implies_true, Int.reduceDiv, Int.reduceMod, zr8_zr, zr_zbo, z01_zbo, z01_0, z01_1, zbo_eq0, zup_eq, zup_o, zup_k, ne_eq, ↓ct_tllB_ran, ↓r_ran, ↓B_ran, ↓ct_tllB_of, ↓r_of, ↓B_of, ↓ct_tllB_knkC, ↓r_knkC, ↓B_knkC, ↓ct_tllB_dggC, ↓r_dggC, ↓B_dggC, ↓ct_tllB_hrrC, ↓r_hrrC, ↓B_hrrC, ↓ct_tllB_above, ↓r_above, ↓B_above, ↓ct_tllB_tllA, ↓r_tllA, ↓B_tllA, ↓v_87, ↓g_87_0, ↓l_88, ↓s_88, ↓n_88, ↓g_87_1, ↓l_89, ↓s_89, ↓n_89, ↓g_87_2, ↓l_90, ↓s_90, ↓n_90, ↓g_87_3, ↓p_87_3, ↓g_87_4, ↓l_91, ↓s_91, ↓n_91, ↓g_87_5, ↓p_87_5, ↓g_87_6, ↓p_87_6, ↓g_87_7, ↓p_87_7, ↓g_87_8, ↓p_87_8, ↓g_87_9, ↓p_87_9, ↓g_87_10, ↓p_87_10, ↓g_87_11, ↓l_92, ↓s_92, ↓n_92, ↓g_87_12, ↓l_93, ↓s_93, ↓n_93, ↓g_87_13, ↓p_87_13, ↓g_87_14, ↓l_94, ↓s_94, ↓n_94, ↓g_87_15, ↓p_87_15, ↓g_87_16, ↓l_95, ↓s_95, ↓n_95, ↓g_87_17, ↓l_96, ↓s_96, ↓n_96, ↓g_87_18, ↓l_97, ↓s_97, ↓n_97, ↓g_87_19, ↓p_87_19, ↓g_87_20, ↓p_87_20, ↓g_87_21, ↓l_98, ↓s_98, ↓n_98, ↓g_87_22, ↓l_99, ↓s_99, ↓n_99, ↓g_87_23, ↓l_100, ↓s_100, ↓n_100, ↓g_87_24, ↓l_101, ↓s_101, ↓n_101]
      have ea : vte (M 87 20) (ei (M 88) (M 87 20) 1) (ei (M 88) (M 87 20) 0) (abv k) x (tS M) = vte (M 87 20) (ei (M 88) (M 87 20) 1) (ei (M 88) (M 87 20) 0) k x (tS M) := by
        unfold vte
        rw [abv_if]
        (repeat' split) <;> first | rfl | omega
      have ab := abv_if k
      refine ⟨rg_i (by omega) (by omega), ?_, vt, fun M2 n2 => ?_⟩
      · split at ab <;> omega
      rw [ea] at n2 ⊢
      exact hC M2 n2
def B_tllC (k : Int) (x : Int) (M : Nat → Nat → Int) (post : Option ZV → (Nat → Nat → Int) → Prop) : Prop := (0 ≤ k ∧ k ≤ 6) ∧ Vtr M ∧ ∀ M2 : ZMm, Nx M (vte (M 87 20) (ei (M 88) (M 87 20) 1) (ei (M 88) (M 87 20) 0) k x (tS M)).2 M2 → post (some (.inl (vte (M 87 20) (ei (M 88) (M 87 20) 1) (ei (M 88) (M 87 20) 0) k x (tS M)).1)) M2
def C_tllC : ZC := fun as h post => match as with
  | [.inr (.inr (.inl 87)), .inl k, .inl x] => h.1 = zG ∧ B_tllC k x h.2 (fun v M => post v (zG, M))
  | _ => False
theorem r_tllC {k : Int} {x : Int} {M : Nat → Nat → Int} {post : Option ZV → ZH → Prop} : C_tllC [.inr (.inr (.inl 87)), .inl k, .inl x] (zG, M) post = B_tllC k x M (fun v M => post v (zG, M)) := by show (zG = zG ∧ _) = _; simp
def ct_tllC : Nat → ZC := fun n => if n = 203 then C_ran else if n = 126 then C_of else if n = 204 then C_knkC else if n = 206 then C_dggC else if n = 205 then C_hrrC else if n = 128 then C_above else if n = 207 then C_tllB else fun _ _ _ => False
theorem ct_tllC_ran {as : List ZV} {h : ZH} {post : Option ZV → ZH → Prop} : ct_tllC 203 as h post = C_ran as h post := rfl
theorem ct_tllC_of {as : List ZV} {h : ZH} {post : Option ZV → ZH → Prop} : ct_tllC 126 as h post = C_of as h post := rfl
theorem ct_tllC_knkC {as : List ZV} {h : ZH} {post : Option ZV → ZH → Prop} : ct_tllC 204 as h post = C_knkC as h post := rfl
theorem ct_tllC_dggC {as : List ZV} {h : ZH} {post : Option ZV → ZH → Prop} : ct_tllC 206 as h post = C_dggC as h post := rfl
theorem ct_tllC_hrrC {as : List ZV} {h : ZH} {post : Option ZV → ZH → Prop} : ct_tllC 205 as h post = C_hrrC as h post := rfl
theorem ct_tllC_above {as : List ZV} {h : ZH} {post : Option ZV → ZH → Prop} : ct_tllC 128 as h post = C_above as h post := rfl
theorem ct_tllC_tllB {as : List ZV} {h : ZH} {post : Option ZV → ZH → Prop} : ct_tllC 207 as h post = C_tllB as h post := rfl
theorem c_tllC {E : ZE} {d : Nat} (hd : 10 ≤ d) : zMet E d mX11_tellsBy C_tllC := by
  refine zmet_of (o := 11) (ini := false) (CT := ct_tllC) gd_X11_tellsBy rfl (fun h => by cases h) (by omega) ?_ ?_
  · intro n as h post hh
    unfold ct_tllC at hh
    by_cases c : n = 203
    · subst c; exact ⟨gd_X11_ran, 1, by omega, c_ran (by omega)⟩
    rw [if_neg c] at hh
    by_cases c : n = 126
    · subst c; exact ⟨gd_X11_of, 1, by omega, c_of (by omega)⟩
    rw [if_neg c] at hh
    by_cases c : n = 204
    · subst c; exact ⟨gd_X11_knocksBy, 4, by omega, c_knkC (by omega)⟩
    rw [if_neg c] at hh
    by_cases c : n = 206
    · subst c; exact ⟨gd_X11_digsBy, 4, by omega, c_dggC (by omega)⟩
    rw [if_neg c] at hh
    by_cases c : n = 205
    · subst c; exact ⟨gd_X11_hearsBy, 7, by omega, c_hrrC (by omega)⟩
    rw [if_neg c] at hh
    by_cases c : n = 128
    · subst c; exact ⟨gd_X11_above, 1, by omega, c_above (by omega)⟩
    rw [if_neg c] at hh
    by_cases c : n = 207
    · subst c; exact ⟨gd_X11_tellsBy, 9, by omega, c_tllB (by omega)⟩
    rw [if_neg c] at hh
    exact hh.elim
  intro as h post hC
  match as, hC with
  | [.inr (.inr (.inl 87)), .inl k, .inl x], hC =>
    refine ⟨Nat.le_of_ble_eq_true rfl, fun X hX => bs_X11_tellsBy_0 hX ?_⟩
    obtain ⟨G, M⟩ := h
    obtain ⟨hG, hC⟩ := hC
    dsimp only at hG
    subst hG
    simp only [B_tllC] at hC
    show bk_X11_tellsBy_0 E ct_tllC X _ [some (.inr (.inr (.inl 87))), some (.inl k), some (.inl x), none] [] (zG, M) (0, 0)
    obtain ⟨hk, vt, hC⟩ := hC
    have hw := vt.2.2
    have ek := (Vd_ei vt.1 (e := M 87 20) (by omega) (by omega)).1
    have zk : zr k = k := zr_of (by omega) (by omega)
    simp only [bk_X11_tellsBy_0, k_X11_tellsBy_0, bk_X11_tellsBy_36, k_X11_tellsBy_36, bk_X11_tellsBy_74, k_X11_tellsBy_74, bk_X11_tellsBy_107, k_X11_tellsBy_107, bk_X11_tellsBy_141, k_X11_tellsBy_141, ↓e_rk1, ↓e_rk0, ↓e_sk0, ↓e_sks, ↓e_ldi0, ↓e_ldis, ↓e_ldl0, ↓e_ldls, ↓e_lda0, ↓e_ldas, ↓e_ok0, ↓e_okss, ↓e_ok1i, ↓e_ok1r, ↓e_ok1n, ↓e_sti, ↓e_sta, ↓e_1, ↓e_2, ↓e_l1, ↓e_l2, ↓e_li, ↓e_sw0, ↓e_sws, ↓e_ceq, ↓e_cne, ↓e_clt, ↓e_cge, ↓e_cgt, ↓e_cle, ↓e_nil, ↓e_cons, ↓e_iconst, ↓e_bipush, ↓e_sipush, ↓e_ldc, ↓e_ldcw, ↓e_ldc2, ↓e_lconst, ↓e_iloadn, ↓e_iload, ↓e_lloadn, ↓e_lload, ↓e_aloadn, ↓e_aload, ↓e_istoren, ↓e_istore, ↓e_astoren, ↓e_astore, ↓e_add, ↓e_iinc, ↓e_iadd, ↓e_isub, ↓e_imul, ↓e_iand, ↓e_ior, ↓e_ixor, ↓e_ishl, ↓e_iushr, ↓e_idiv, ↓e_irem, ↓e_ineg, ↓e_i2l, ↓e_i2b, ↓e_i2s, ↓e_l2i, ↓e_land, ↓e_lor, ↓e_lshl, ↓e_lshr, ↓e_lushr, ↓e_lcmp, ↓e_dupi, ↓e_dupr, ↓e_popi, ↓e_dup2, ↓e_goto, ↓e_if, ↓e_icmp, ↓e_tsw, ↓e_lsw, ↓e_getf, ↓e_putf, ↓e_gets, ↓e_iald, ↓e_cald, ↓e_iast, ↓e_aald, ↓e_aast, ↓e_len, ↓e_copy, ↓e_abs, ↓e_max, ↓e_min, ↓e_iret, ↓e_aret, ↓e_vret, ↓e_is0, ↓e_is1, ↓e_is2, ↓e_is3, ↓e_is4, ↓e_iv1, ↓e_iv2, ↓e_iv3, ↓e_iv4, ↓e_iv5, ↓e_iv6, ↓rt_X11_tellsBy, ↓reduceIte, Nat.reduceAdd, Nat.reduceEqDiff, ↓zcl0, ↓zclv, List.map_nil, List.sum_nil, List.map_cons, List.sum_cons, zcat, true_and, and_true, Nat.reduceLeDiff, Nat.reduceAdd, eq_self, forall_const, e_ok0, e_okss, e_ok1i, e_ok1r, e_ok1n, zl_0, zl_2, zl_4, zl_6, zl_13, zl_50, zl_71, Int.reduceToNat, Int.reduceAdd, Int.reduceMul, Int.reduceSub, Int.reduceNeg, Int.reduceLT, Int.reduceLE, Int.reduceEq, not_false_eq_true, not_true_eq_false, false_implies, true_implies, implies_true, Int.reduceDiv, Int.reduceMod, zr8_zr, zr_zbo, z01_zbo, z01_0, z01_1, zbo_eq0, zup_eq, zup_o, zup_k, ne_eq, ↓ct_tllC_ran, ↓r_ran, ↓B_ran, ↓ct_tllC_of, ↓r_of, ↓B_of, ↓ct_tllC_knkC, ↓r_knkC, ↓B_knkC, ↓ct_tllC_dggC, ↓r_dggC, ↓B_dggC, ↓ct_tllC_hrrC, ↓r_hrrC, ↓B_hrrC, ↓ct_tllC_above, ↓r_above, ↓B_above, ↓ct_tllC_tllB, ↓r_tllB, ↓B_tllB, ↓v_87, ↓g_87_0, ↓l_88, ↓s_88, ↓n_88, ↓g_87_1, ↓l_89, ↓s_89, ↓n_89, ↓g_87_2, ↓l_90, ↓s_90, ↓n_90, ↓g_87_3, ↓p_87_3, ↓g_87_4, ↓l_91, ↓s_91, ↓n_91, ↓g_87_5, ↓p_87_5, ↓g_87_6, ↓p_87_6, ↓g_87_7, ↓p_87_7, ↓g_87_8, ↓p_87_8, ↓g_87_9, ↓p_87_9, ↓g_87_10, ↓p_87_10, ↓g_87_11, ↓l_92, ↓s_92, ↓n_92, ↓g_87_12, ↓l_93, ↓s_93, ↓n_93, ↓g_87_13, ↓p_87_13, ↓g_87_14, ↓l_94, ↓s_94, ↓n_94, ↓g_87_15, ↓p_87_15, ↓g_87_16, ↓l_95, ↓s_95, ↓n_95, ↓g_87_17, ↓l_96, ↓s_96, ↓n_96, ↓g_87_18, ↓l_97, ↓s_97, ↓n_97, ↓g_87_19, ↓p_87_19, ↓g_87_20, ↓p_87_20, ↓g_87_21, ↓l_98, ↓s_98, ↓n_98, ↓g_87_22, ↓l_99, ↓s_99, ↓n_99, ↓g_87_23, ↓l_100, ↓s_100, ↓n_100, ↓g_87_24, ↓l_101, ↓s_101, ↓n_101, zk]
    refine ⟨fun c => ?_, fun c => ⟨fun c2 => ?_, fun c2 => ⟨fun c3 => ?_, fun c3 => ?_⟩⟩⟩
    · refine bs_X11_tellsBy_36 hX ?_
      simp only [bk_X11_tellsBy_0, k_X11_tellsBy_0, bk_X11_tellsBy_36, k_X11_tellsBy_36, bk_X11_tellsBy_74, k_X11_tellsBy_74, bk_X11_tellsBy_107, k_X11_tellsBy_107, bk_X11_tellsBy_141, k_X11_tellsBy_141, ↓e_rk1, ↓e_rk0, ↓e_sk0, ↓e_sks, ↓e_ldi0, ↓e_ldis, ↓e_ldl0, ↓e_ldls, ↓e_lda0, ↓e_ldas, ↓e_ok0, ↓e_okss, ↓e_ok1i, ↓e_ok1r, ↓e_ok1n, ↓e_sti, ↓e_sta, ↓e_1, ↓e_2, ↓e_l1, ↓e_l2, ↓e_li, ↓e_sw0, ↓e_sws, ↓e_ceq, ↓e_cne, ↓e_clt, ↓e_cge, ↓e_cgt, ↓e_cle, ↓e_nil, ↓e_cons, ↓e_iconst, ↓e_bipush, ↓e_sipush, ↓e_ldc, ↓e_ldcw, ↓e_ldc2, ↓e_lconst, ↓e_iloadn, ↓e_iload, ↓e_lloadn, ↓e_lload, ↓e_aloadn, ↓e_aload, ↓e_istoren, ↓e_istore, ↓e_astoren, ↓e_astore, ↓e_add, ↓e_iinc, ↓e_iadd, ↓e_isub, ↓e_imul, ↓e_iand, ↓e_ior, ↓e_ixor, ↓e_ishl, ↓e_iushr, ↓e_idiv, ↓e_irem, ↓e_ineg, ↓e_i2l, ↓e_i2b, ↓e_i2s, ↓e_l2i, ↓e_land, ↓e_lor, ↓e_lshl, ↓e_lshr, ↓e_lushr, ↓e_lcmp, ↓e_dupi, ↓e_dupr, ↓e_popi, ↓e_dup2, ↓e_goto, ↓e_if, ↓e_icmp, ↓e_tsw, ↓e_lsw, ↓e_getf, ↓e_putf, ↓e_gets, ↓e_iald, ↓e_cald, ↓e_iast, ↓e_aald, ↓e_aast, ↓e_len, ↓e_copy, ↓e_abs, ↓e_max, ↓e_min, ↓e_iret, ↓e_aret, ↓e_vret, ↓e_is0, ↓e_is1, ↓e_is2, ↓e_is3, ↓e_is4, ↓e_iv1, ↓e_iv2, ↓e_iv3, ↓e_iv4, ↓e_iv5, ↓e_iv6, ↓rt_X11_tellsBy, ↓reduceIte, Nat.reduceAdd, Nat.reduceEqDiff, ↓zcl0, ↓zclv, List.map_nil, List.sum_nil, List.map_cons, List.sum_cons, zcat, true_and, and_true, Nat.reduceLeDiff, Nat.reduceAdd, eq_self, forall_const, e_ok0, e_okss, e_ok1i, e_ok1r, e_ok1n, zl_0, zl_2, zl_4, zl_6, zl_13, zl_50, zl_71, Int.reduceToNat, Int.reduceAdd, Int.reduceMul, Int.reduceSub, Int.reduceNeg, Int.reduceLT, Int.reduceLE, Int.reduceEq, not_false_eq_true, not_true_eq_false, false_implies, true_implies, implies_true, Int.reduceDiv, Int.reduceMod, zr8_zr, zr_zbo, z01_zbo, z01_0, z01_1, zbo_eq0, zup_eq, zup_o, zup_k, ne_eq, ↓ct_tllC_ran, ↓r_ran, ↓B_ran, ↓ct_tllC_of, ↓r_of, ↓B_of, ↓ct_tllC_knkC, ↓r_knkC, ↓B_knkC, ↓ct_tllC_dggC, ↓r_dggC, ↓B_dggC, ↓ct_tllC_hrrC, ↓r_hrrC, ↓B_hrrC, ↓ct_tllC_above, ↓r_above, ↓B_above, ↓ct_tllC_tllB, ↓r_tllB, ↓B_tllB, ↓v_87, ↓g_87_0, ↓l_88, ↓s_88, ↓n_88, ↓g_87_1, ↓l_89, ↓s_89, ↓n_89, ↓g_87_2, ↓l_90, ↓s_90, ↓n_90, ↓g_87_3, ↓p_87_3, ↓g_87_4, ↓l_91, ↓s_91, ↓n_91, ↓g_87_5, ↓p_87_5, ↓g_87_6, ↓p_87_6, ↓g_87_7, ↓p_87_7, ↓g_87_8, ↓p_87_8, ↓g_87_9, ↓p_87_9, ↓g_87_10, ↓p_87_10, ↓g_87_11, ↓l_92, ↓s_92, ↓n_92, ↓g_87_12, ↓l_93, ↓s_93, ↓n_93, ↓g_87_13, ↓p_87_13, ↓g_87_14, ↓l_94, ↓s_94, ↓n_94, ↓g_87_15, ↓p_87_15, ↓g_87_16, ↓l_95, ↓s_95, ↓n_95, ↓g_87_17, ↓l_96, ↓s_96, ↓n_96, ↓g_87_18, ↓l_97, ↓s_97, ↓n_97, ↓g_87_19, ↓p_87_19, ↓g_87_20, ↓p_87_20, ↓g_87_21, ↓l_98, ↓s_98, ↓n_98, ↓g_87_22, ↓l_99, ↓s_99, ↓n_99, ↓g_87_23, ↓l_100, ↓s_100, ↓n_100, ↓g_87_24, ↓l_101, ↓s_101, ↓n_101]
      rw [vte_0 (by omega)] at hC
      refine ⟨vt, fun M1 n1 => ?_⟩
      rw [n1.who, n1.d, n1.1]
      refine ⟨by omega, by omega, ek, n1.ok vt (rn1_ok vt.tok), fun M2 n2 => ?_⟩
      rw [n2.who, n2.d, n1.who, n1.d, n2.1]
      exact ⟨by omega, by omega, ek, (n1.trans n2).ok vt (vhe_ok (rn1_ok vt.tok)), fun M3 n3 => hC M3 ((n1.trans n2).trans n3)⟩
    · refine bs_X11_tellsBy_74 hX ?_
      simp only [bk_X11_tellsBy_0, k_X11_tellsBy_0, bk_X11_tellsBy_36, k_X11_tellsBy_36, bk_X11_tellsBy_74, k_X11_tellsBy_74, bk_X11_tellsBy_107, k_X11_tellsBy_107, bk_X11_tellsBy_141, k_X11_tellsBy_141, ↓e_rk1, ↓e_rk0, ↓e_sk0, ↓e_sks, ↓e_ldi0, ↓e_ldis, ↓e_ldl0, ↓e_ldls, ↓e_lda0, ↓e_ldas, ↓e_ok0, ↓e_okss, ↓e_ok1i, ↓e_ok1r, ↓e_ok1n, ↓e_sti, ↓e_sta, ↓e_1, ↓e_2, ↓e_l1, ↓e_l2, ↓e_li, ↓e_sw0, ↓e_sws, ↓e_ceq, ↓e_cne, ↓e_clt, ↓e_cge, ↓e_cgt, ↓e_cle, ↓e_nil, ↓e_cons, ↓e_iconst, ↓e_bipush, ↓e_sipush, ↓e_ldc, ↓e_ldcw, ↓e_ldc2, ↓e_lconst, ↓e_iloadn, ↓e_iload, ↓e_lloadn, ↓e_lload, ↓e_aloadn, ↓e_aload, ↓e_istoren, ↓e_istore, ↓e_astoren, ↓e_astore, ↓e_add, ↓e_iinc, ↓e_iadd, ↓e_isub, ↓e_imul, ↓e_iand, ↓e_ior, ↓e_ixor, ↓e_ishl, ↓e_iushr, ↓e_idiv, ↓e_irem, ↓e_ineg, ↓e_i2l, ↓e_i2b, ↓e_i2s, ↓e_l2i, ↓e_land, ↓e_lor, ↓e_lshl, ↓e_lshr, ↓e_lushr, ↓e_lcmp, ↓e_dupi, ↓e_dupr, ↓e_popi, ↓e_dup2, ↓e_goto, ↓e_if, ↓e_icmp, ↓e_tsw, ↓e_lsw, ↓e_getf, ↓e_putf, ↓e_gets, ↓e_iald, ↓e_cald, ↓e_iast, ↓e_aald, ↓e_aast, ↓e_len, ↓e_copy, ↓e_abs, ↓e_max, ↓e_min, ↓e_iret, ↓e_aret, ↓e_vret, ↓e_is0, ↓e_is1, ↓e_is2, ↓e_is3, ↓e_is4, ↓e_iv1, ↓e_iv2, ↓e_iv3, ↓e_iv4, ↓e_iv5, ↓e_iv6, ↓rt_X11_tellsBy, ↓reduceIte, Nat.reduceAdd, Nat.reduceEqDiff, ↓zcl0, ↓zclv, List.map_nil, List.sum_nil, List.map_cons, List.sum_cons, zcat, true_and, and_true, Nat.reduceLeDiff, Nat.reduceAdd, eq_self, forall_const, e_ok0, e_okss, e_ok1i, e_ok1r, e_ok1n, zl_0, zl_2, zl_4, zl_6, zl_13, zl_50, zl_71, Int.reduceToNat, Int.reduceAdd, Int.reduceMul, Int.reduceSub, Int.reduceNeg, Int.reduceLT, Int.reduceLE, Int.reduceEq, not_false_eq_true, not_true_eq_false, false_implies, true_implies, implies_true, Int.reduceDiv, Int.reduceMod, zr8_zr, zr_zbo, z01_zbo, z01_0, z01_1, zbo_eq0, zup_eq, zup_o, zup_k, ne_eq, ↓ct_tllC_ran, ↓r_ran, ↓B_ran, ↓ct_tllC_of, ↓r_of, ↓B_of, ↓ct_tllC_knkC, ↓r_knkC, ↓B_knkC, ↓ct_tllC_dggC, ↓r_dggC, ↓B_dggC, ↓ct_tllC_hrrC, ↓r_hrrC, ↓B_hrrC, ↓ct_tllC_above, ↓r_above, ↓B_above, ↓ct_tllC_tllB, ↓r_tllB, ↓B_tllB, ↓v_87, ↓g_87_0, ↓l_88, ↓s_88, ↓n_88, ↓g_87_1, ↓l_89, ↓s_89, ↓n_89, ↓g_87_2, ↓l_90, ↓s_90, ↓n_90, ↓g_87_3, ↓p_87_3, ↓g_87_4, ↓l_91, ↓s_91, ↓n_91, ↓g_87_5, ↓p_87_5, ↓g_87_6, ↓p_87_6, ↓g_87_7, ↓p_87_7, ↓g_87_8, ↓p_87_8, ↓g_87_9, ↓p_87_9, ↓g_87_10, ↓p_87_10, ↓g_87_11, ↓l_92, ↓s_92, ↓n_92, ↓g_87_12, ↓l_93, ↓s_93, ↓n_93, ↓g_87_13, ↓p_87_13, ↓g_87_14, ↓l_94, ↓s_94, ↓n_94, ↓g_87_15, ↓p_87_15, ↓g_87_16, ↓l_95, ↓s_95, ↓n_95, ↓g_87_17, ↓l_96, ↓s_96, ↓n_96, ↓g_87_18, ↓l_97, ↓s_97, ↓n_97, ↓g_87_19, ↓p_87_19, ↓g_87_20, ↓p_87_20, ↓g_87_21, ↓l_98, ↓s_98, ↓n_98, ↓g_87_22, ↓l_99, ↓s_99, ↓n_99, ↓g_87_23, ↓l_100, ↓s_100, ↓n_100, ↓g_87_24, ↓l_101, ↓s_101, ↓n_101, ab_4]
      rw [vte_4 (by omega)] at hC
      refine ⟨vt, fun M1 n1 => ⟨rg_i (by omega) (by omega), n1.ok vt (rn1_ok vt.tok), fun M2 n2 => ?_⟩⟩
      rw [n1.who, n1.d, n1.1, vte_0 (by omega)] at n2 ⊢
      rw [n2.who, n2.d, n1.who, n1.d, n2.1]
      exact ⟨by omega, by omega, ek, (n1.trans n2).ok vt (vt0_ok (rn1_ok vt.tok)), fun M3 n3 => hC M3 ((n1.trans n2).trans n3)⟩
    · refine bs_X11_tellsBy_107 hX ?_
      simp only [bk_X11_tellsBy_0, k_X11_tellsBy_0, bk_X11_tellsBy_36, k_X11_tellsBy_36, bk_X11_tellsBy_74, k_X11_tellsBy_74, bk_X11_tellsBy_107, k_X11_tellsBy_107, bk_X11_tellsBy_141, k_X11_tellsBy_141, ↓e_rk1, ↓e_rk0, ↓e_sk0, ↓e_sks, ↓e_ldi0, ↓e_ldis, ↓e_ldl0, ↓e_ldls, ↓e_lda0, ↓e_ldas, ↓e_ok0, ↓e_okss, ↓e_ok1i, ↓e_ok1r, ↓e_ok1n, ↓e_sti, ↓e_sta, ↓e_1, ↓e_2, ↓e_l1, ↓e_l2, ↓e_li, ↓e_sw0, ↓e_sws, ↓e_ceq, ↓e_cne, ↓e_clt, ↓e_cge, ↓e_cgt, ↓e_cle, ↓e_nil, ↓e_cons, ↓e_iconst, ↓e_bipush, ↓e_sipush, ↓e_ldc, ↓e_ldcw, ↓e_ldc2, ↓e_lconst, ↓e_iloadn, ↓e_iload, ↓e_lloadn, ↓e_lload, ↓e_aloadn, ↓e_aload, ↓e_istoren, ↓e_istore, ↓e_astoren, ↓e_astore, ↓e_add, ↓e_iinc, ↓e_iadd, ↓e_isub, ↓e_imul, ↓e_iand, ↓e_ior, ↓e_ixor, ↓e_ishl, ↓e_iushr, ↓e_idiv, ↓e_irem, ↓e_ineg, ↓e_i2l, ↓e_i2b, ↓e_i2s, ↓e_l2i, ↓e_land, ↓e_lor, ↓e_lshl, ↓e_lshr, ↓e_lushr, ↓e_lcmp, ↓e_dupi, ↓e_dupr, ↓e_popi, ↓e_dup2, ↓e_goto, ↓e_if, ↓e_icmp, ↓e_tsw, ↓e_lsw, ↓e_getf, ↓e_putf, ↓e_gets, ↓e_iald, ↓e_cald, ↓e_iast, ↓e_aald, ↓e_aast, ↓e_len, ↓e_copy, ↓e_abs, ↓e_max, ↓e_min, ↓e_iret, ↓e_aret, ↓e_vret, ↓e_is0, ↓e_is1, ↓e_is2, ↓e_is3, ↓e_is4, ↓e_iv1, ↓e_iv2, ↓e_iv3, ↓e_iv4, ↓e_iv5, ↓e_iv6, ↓rt_X11_tellsBy, ↓reduceIte, Nat.reduceAdd, Nat.reduceEqDiff, ↓zcl0, ↓zclv, List.map_nil, List.sum_nil, List.map_cons, List.sum_cons, zcat, true_and, and_true, Nat.reduceLeDiff, Nat.reduceAdd, eq_self, forall_const, e_ok0, e_okss, e_ok1i, e_ok1r, e_ok1n, zl_0, zl_2, zl_4, zl_6, zl_13, zl_50, zl_71, Int.reduceToNat, Int.reduceAdd, Int.reduceMul, Int.reduceSub, Int.reduceNeg, Int.reduceLT, Int.reduceLE, Int.reduceEq, not_false_eq_true, not_true_eq_false, false_implies, true_implies, implies_true, Int.reduceDiv, Int.reduceMod, zr8_zr, zr_zbo, z01_zbo, z01_0, z01_1, zbo_eq0, zup_eq, zup_o, zup_k, ne_eq, ↓ct_tllC_ran, ↓r_ran, ↓B_ran, ↓ct_tllC_of, ↓r_of, ↓B_of, ↓ct_tllC_knkC, ↓r_knkC, ↓B_knkC, ↓ct_tllC_dggC, ↓r_dggC, ↓B_dggC, ↓ct_tllC_hrrC, ↓r_hrrC, ↓B_hrrC, ↓ct_tllC_above, ↓r_above, ↓B_above, ↓ct_tllC_tllB, ↓r_tllB, ↓B_tllB, ↓v_87, ↓g_87_0, ↓l_88, ↓s_88, ↓n_88, ↓g_87_1, ↓l_89, ↓s_89, ↓n_89, ↓g_87_2, ↓l_90, ↓s_90, ↓n_90, ↓g_87_3, ↓p_87_3, ↓g_87_4, ↓l_91, ↓s_91, ↓n_91, ↓g_87_5, ↓p_87_5, ↓g_87_6, ↓p_87_6, ↓g_87_7, ↓p_87_7, ↓g_87_8, ↓p_87_8, ↓g_87_9, ↓p_87_9, ↓g_87_10, ↓p_87_10, ↓g_87_11, ↓l_92, ↓s_92, ↓n_92, ↓g_87_12, ↓l_93, ↓s_93, ↓n_93, ↓g_87_13, ↓p_87_13, ↓g_87_14, ↓l_94, ↓s_94, ↓n_94, ↓g_87_15, ↓p_87_15, ↓g_87_16, ↓l_95, ↓s_95, ↓n_95, ↓g_87_17, ↓l_96, ↓s_96, ↓n_96, ↓g_87_18, ↓l_97, ↓s_97, ↓n_97, ↓g_87_19, ↓p_87_19, ↓g_87_20, ↓p_87_20, ↓g_87_21, ↓l_98, ↓s_98, ↓n_98, ↓g_87_22, ↓l_99, ↓s_99, ↓n_99, ↓g_87_23, ↓l_100, ↓s_100, ↓n_100, ↓g_87_24, ↓l_101, ↓s_101, ↓n_101, ab_6]
      rw [vte_6 (by omega)] at hC
      refine ⟨vt, fun M1 n1 => ?_⟩
      rw [n1.who, n1.d, n1.1]
      refine ⟨by omega, by omega, ek, n1.ok vt (rn1_ok vt.tok), fun M2 n2 => ⟨rg_i (by omega) (by omega), (n1.trans n2).ok vt (vhe_ok (rn1_ok vt.tok)), fun M3 n3 => ?_⟩⟩
      rw [n2.who, n2.d, n1.who, n1.d, n2.1, vte_0 (by omega)] at n3 ⊢
      exact hC M3 ((n1.trans n2).trans n3)
    · refine bs_X11_tellsBy_141 hX ?_
      simp only [bk_X11_tellsBy_0, k_X11_tellsBy_0, bk_X11_tellsBy_36, k_X11_tellsBy_36, bk_X11_tellsBy_74, k_X11_tellsBy_74, bk_X11_tellsBy_107, k_X11_tellsBy_107, bk_X11_tellsBy_141, k_X11_tellsBy_141, ↓e_rk1, ↓e_rk0, ↓e_sk0, ↓e_sks, ↓e_ldi0, ↓e_ldis, ↓e_ldl0, ↓e_ldls, ↓e_lda0, ↓e_ldas, ↓e_ok0, ↓e_okss, ↓e_ok1i, ↓e_ok1r, ↓e_ok1n, ↓e_sti, ↓e_sta, ↓e_1, ↓e_2, ↓e_l1, ↓e_l2, ↓e_li, ↓e_sw0, ↓e_sws, ↓e_ceq, ↓e_cne, ↓e_clt, ↓e_cge, ↓e_cgt, ↓e_cle, ↓e_nil, ↓e_cons, ↓e_iconst, ↓e_bipush, ↓e_sipush, ↓e_ldc, ↓e_ldcw, ↓e_ldc2, ↓e_lconst, ↓e_iloadn, ↓e_iload, ↓e_lloadn, ↓e_lload, ↓e_aloadn, ↓e_aload, ↓e_istoren, ↓e_istore, ↓e_astoren, ↓e_astore, ↓e_add, ↓e_iinc, ↓e_iadd, ↓e_isub, ↓e_imul, ↓e_iand, ↓e_ior, ↓e_ixor, ↓e_ishl, ↓e_iushr, ↓e_idiv, ↓e_irem, ↓e_ineg, ↓e_i2l, ↓e_i2b, ↓e_i2s, ↓e_l2i, ↓e_land, ↓e_lor, ↓e_lshl, ↓e_lshr, ↓e_lushr, ↓e_lcmp, ↓e_dupi, ↓e_dupr, ↓e_popi, ↓e_dup2, ↓e_goto, ↓e_if, ↓e_icmp, ↓e_tsw, ↓e_lsw, ↓e_getf, ↓e_putf, ↓e_gets, ↓e_iald, ↓e_cald, ↓e_iast, ↓e_aald, ↓e_aast, ↓e_len, ↓e_copy, ↓e_abs, ↓e_max, ↓e_min, ↓e_iret, ↓e_aret, ↓e_vret, ↓e_is0, ↓e_is1, ↓e_is2, ↓e_is3, ↓e_is4, ↓e_iv1, ↓e_iv2, ↓e_iv3, ↓e_iv4, ↓e_iv5, ↓e_iv6, ↓rt_X11_tellsBy, ↓reduceIte, Nat.reduceAdd, Nat.reduceEqDiff, ↓zcl0, ↓zclv, List.map_nil, List.sum_nil, List.map_cons, List.sum_cons, zcat, true_and, and_true, Nat.reduceLeDiff, Nat.reduceAdd, eq_self, forall_const, e_ok0, e_okss, e_ok1i, e_ok1r, e_ok1n, zl_0, zl_2, zl_4, zl_6, zl_13, zl_50, zl_71, Int.reduceToNat, Int.reduceAdd, Int.reduceMul, Int.reduceSub, Int.reduceNeg, Int.reduceLT, Int.reduceLE, Int.reduceEq, not_false_eq_true, not_true_eq_false, false_implies, true_implies, implies_true, Int.reduceDiv, Int.reduceMod, zr8_zr, zr_zbo, z01_zbo, z01_0, z01_1, zbo_eq0, zup_eq, zup_o, zup_k, ne_eq, ↓ct_tllC_ran, ↓r_ran, ↓B_ran, ↓ct_tllC_of, ↓r_of, ↓B_of, ↓ct_tllC_knkC, ↓r_knkC, ↓B_knkC, ↓ct_tllC_dggC, ↓r_dggC, ↓B_dggC, ↓ct_tllC_hrrC, ↓r_hrrC, ↓B_hrrC, ↓ct_tllC_above, ↓r_above, ↓B_above, ↓ct_tllC_tllB, ↓r_tllB, ↓B_tllB, ↓v_87, ↓g_87_0, ↓l_88, ↓s_88, ↓n_88, ↓g_87_1, ↓l_89, ↓s_89, ↓n_89, ↓g_87_2, ↓l_90, ↓s_90, ↓n_90, ↓g_87_3, ↓p_87_3, ↓g_87_4, ↓l_91, ↓s_91, ↓n_91, ↓g_87_5, ↓p_87_5, ↓g_87_6, ↓p_87_6, ↓g_87_7, ↓p_87_7, ↓g_87_8, ↓p_87_8, ↓g_87_9, ↓p_87_9, ↓g_87_10, ↓p_87_10, ↓g_87_11, ↓l_92, ↓s_92, ↓n_92, ↓g_87_12, ↓l_93, ↓s_93, ↓n_93, ↓g_87_13, ↓p_87_13, ↓g_87_14, ↓l_94, ↓s_94, ↓n_94, ↓g_87_15, ↓p_87_15, ↓g_87_16, ↓l_95, ↓s_95, ↓n_95, ↓g_87_17, ↓l_96, ↓s_96, ↓n_96, ↓g_87_18, ↓l_97, ↓s_97, ↓n_97, ↓g_87_19, ↓p_87_19, ↓g_87_20, ↓p_87_20, ↓g_87_21, ↓l_98, ↓s_98, ↓n_98, ↓g_87_22, ↓l_99, ↓s_99, ↓n_99, ↓g_87_23, ↓l_100, ↓s_100, ↓n_100, ↓g_87_24, ↓l_101, ↓s_101, ↓n_101]
      have ea : vte (M 87 20) (ei (M 88) (M 87 20) 1) (ei (M 88) (M 87 20) 0) (abv k) x (tS M) = vte (M 87 20) (ei (M 88) (M 87 20) 1) (ei (M 88) (M 87 20) 0) k x (tS M) := by
        unfold vte
        rw [abv_if]
        (repeat' split) <;> first | rfl | omega
      have ab := abv_if k
      refine ⟨rg_i (by omega) (by omega), ?_, vt, fun M2 n2 => ?_⟩
      · split at ab <;> omega
      rw [ea] at n2 ⊢
      exact hC M2 n2
/-- the state behind a voice -/
def stT (S : ZMm) (e : Int) (t : T2) : ZMm := fun x k => if x = 97 then t.1 k else if x = 87 ∧ k = 19 then t.2 else if x = 87 ∧ k = 20 then e else S x k
def vce (S : ZMm) (e a x : Int) : Int × T2 := if a = 0 then vkn e (ei (S 88) e 0) x (S 97, 0) else if a = 1 then vhe e (ei (S 88) e 1) (ei (S 88) e 0) (ei (S 88) e 0) x (S 97, 0) else if a = 2 then vdg e (ei (S 88) e 1) (ei (S 88) e 0) x (S 97, 0) else vte e (ei (S 88) e 1) (ei (S 88) e 0) (ei (S 88) e 0) x (S 97, 0)
def R_voice (S : ZMm) (e a x : Int) : Int × ZMm := if (0 ≤ e ∧ e < S 88 0) ∧ 0 ≤ a ∧ a ≤ 3 then ((vce S e a x).1, stT S e (vce S e a x).2) else no S 1
def B_voice (e : Int) (a : Int) (x : Int) (M : Nat → Nat → Int) (post : Option ZV → (Nat → Nat → Int) → Prop) : Prop := rg e ∧ rg a ∧ pub M (R_voice (st M) e a x) post
def C_voice : ZC := fun as h post => match as with
  | [.inr (.inr (.inl 87)), .inl e, .inl a, .inl x] => h.1 = zG ∧ B_voice e a x h.2 (fun v M => post v (zG, M))
  | _ => False
theorem r_voice {e : Int} {a : Int} {x : Int} {M : Nat → Nat → Int} {post : Option ZV → ZH → Prop} : C_voice [.inr (.inr (.inl 87)), .inl e, .inl a, .inl x] (zG, M) post = B_voice e a x M (fun v M => post v (zG, M)) := by show (zG = zG ∧ _) = _; simp
def ct_voice : Nat → ZC := fun n => if n = 123 then C_isEngineer else if n = 120 then C_in else if n = 126 then C_of else if n = 204 then C_knkC else if n = 205 then C_hrrC else if n = 206 then C_dggC else if n = 207 then C_tllC else if n = 119 then C_finds else fun _ _ _ => False
theorem ct_voice_isEngineer {as : List ZV} {h : ZH} {post : Option ZV → ZH → Prop} : ct_voice 123 as h post = C_isEngineer as h post := rfl
theorem ct_voice_in {as : List ZV} {h : ZH} {post : Option ZV → ZH → Prop} : ct_voice 120 as h post = C_in as h post := rfl
theorem ct_voice_of {as : List ZV} {h : ZH} {post : Option ZV → ZH → Prop} : ct_voice 126 as h post = C_of as h post := rfl
theorem ct_voice_knkC {as : List ZV} {h : ZH} {post : Option ZV → ZH → Prop} : ct_voice 204 as h post = C_knkC as h post := rfl
theorem ct_voice_hrrC {as : List ZV} {h : ZH} {post : Option ZV → ZH → Prop} : ct_voice 205 as h post = C_hrrC as h post := rfl
theorem ct_voice_dggC {as : List ZV} {h : ZH} {post : Option ZV → ZH → Prop} : ct_voice 206 as h post = C_dggC as h post := rfl
theorem ct_voice_tllC {as : List ZV} {h : ZH} {post : Option ZV → ZH → Prop} : ct_voice 207 as h post = C_tllC as h post := rfl
theorem ct_voice_finds {as : List ZV} {h : ZH} {post : Option ZV → ZH → Prop} : ct_voice 119 as h post = C_finds as h post := rfl
theorem c_voice {E : ZE} {d : Nat} (hd : 11 ≤ d) : zMet E d mX11_voice C_voice := by
  refine zmet_of (o := 11) (ini := false) (CT := ct_voice) gd_X11_voice rfl (fun h => by cases h) (by omega) ?_ ?_
  · intro n as h post hh
    unfold ct_voice at hh
    by_cases c : n = 123
    · subst c; exact ⟨gd_X11_isEngineer, 2, by omega, c_isEngineer (by omega)⟩
    rw [if_neg c] at hh
    by_cases c : n = 120
    · subst c; exact ⟨gd_X11_in, 1, by omega, c_in (by omega)⟩
    rw [if_neg c] at hh
    by_cases c : n = 126
    · subst c; exact ⟨gd_X11_of, 1, by omega, c_of (by omega)⟩
    rw [if_neg c] at hh
    by_cases c : n = 204
    · subst c; exact ⟨gd_X11_knocksBy, 4, by omega, c_knkC (by omega)⟩
    rw [if_neg c] at hh
    by_cases c : n = 205
    · subst c; exact ⟨gd_X11_hearsBy, 7, by omega, c_hrrC (by omega)⟩
    rw [if_neg c] at hh
    by_cases c : n = 206
    · subst c; exact ⟨gd_X11_digsBy, 4, by omega, c_dggC (by omega)⟩
    rw [if_neg c] at hh
    by_cases c : n = 207
    · subst c; exact ⟨gd_X11_tellsBy, 10, by omega, c_tllC (by omega)⟩
    rw [if_neg c] at hh
    by_cases c : n = 119
    · subst c; exact ⟨gd_X11_finds, 1, by omega, c_finds (by omega)⟩
    rw [if_neg c] at hh
    exact hh.elim
  intro as h post hC
  match as, hC with
  | [.inr (.inr (.inl 87)), .inl e, .inl a, .inl x], hC =>
    refine ⟨Nat.le_of_ble_eq_true rfl, fun X hX => bs_X11_voice_0 hX ?_⟩
    obtain ⟨G, M⟩ := h
    obtain ⟨hG, hC⟩ := hC
    dsimp only at hG
    subst hG
    simp only [B_voice] at hC
    show bk_X11_voice_0 E ct_voice X _ [some (.inr (.inr (.inl 87))), some (.inl e), some (.inl a), some (.inl x), none] [] (zG, M) (0, 0)
    obtain ⟨h1, h2, hC⟩ := hC
    have vd : Vd (M 88) := hC.1.1
    have v0 := vd.1
    have s0 : st M 88 0 = M 88 0 := rfl
    have s88 : st M 88 = M 88 := rfl
    have s97 : st M 97 = M 97 := rfl
    have J20 : ¬ ((0 ≤ e ∧ e < M 88 0) ∧ 0 ≤ a ∧ a ≤ 3) → X 20 [some (.inr (.inr (.inl 87))), some (.inl e), some (.inl a), some (.inl x), none] [] (zG, M) (0, 0) := by
      intro q
      refine bs_X11_voice_20 hX ?_
      simp only [bk_X11_voice_0, k_X11_voice_0, bk_X11_voice_8, k_X11_voice_8, bk_X11_voice_20, k_X11_voice_20, bk_X11_voice_26, k_X11_voice_26, bk_X11_voice_47, k_X11_voice_47, bk_X11_voice_61, k_X11_voice_61, bk_X11_voice_76, k_X11_voice_76, bk_X11_voice_91, k_X11_voice_91, bk_X11_voice_98, k_X11_voice_98, ↓e_rk1, ↓e_rk0, ↓e_sk0, ↓e_sks, ↓e_ldi0, ↓e_ldis, ↓e_ldl0, ↓e_ldls, ↓e_lda0, ↓e_ldas, ↓e_ok0, ↓e_okss, ↓e_ok1i, ↓e_ok1r, ↓e_ok1n, ↓e_sti, ↓e_sta, ↓e_1, ↓e_2, ↓e_l1, ↓e_l2, ↓e_li, ↓e_sw0, ↓e_sws, ↓e_ceq, ↓e_cne, ↓e_clt, ↓e_cge, ↓e_cgt, ↓e_cle, ↓e_nil, ↓e_cons, ↓e_iconst, ↓e_bipush, ↓e_sipush, ↓e_ldc, ↓e_ldcw, ↓e_ldc2, ↓e_lconst, ↓e_iloadn, ↓e_iload, ↓e_lloadn, ↓e_lload, ↓e_aloadn, ↓e_aload, ↓e_istoren, ↓e_istore, ↓e_astoren, ↓e_astore, ↓e_add, ↓e_iinc, ↓e_iadd, ↓e_isub, ↓e_imul, ↓e_iand, ↓e_ior, ↓e_ixor, ↓e_ishl, ↓e_iushr, ↓e_idiv, ↓e_irem, ↓e_ineg, ↓e_i2l, ↓e_i2b, ↓e_i2s, ↓e_l2i, ↓e_land, ↓e_lor, ↓e_lshl, ↓e_lshr, ↓e_lushr, ↓e_lcmp, ↓e_dupi, ↓e_dupr, ↓e_popi, ↓e_dup2, ↓e_goto, ↓e_if, ↓e_icmp, ↓e_tsw, ↓e_lsw, ↓e_getf, ↓e_putf, ↓e_gets, ↓e_iald, ↓e_cald, ↓e_iast, ↓e_aald, ↓e_aast, ↓e_len, ↓e_copy, ↓e_abs, ↓e_max, ↓e_min, ↓e_iret, ↓e_aret, ↓e_vret, ↓e_is0, ↓e_is1, ↓e_is2, ↓e_is3, ↓e_is4, ↓e_iv1, ↓e_iv2, ↓e_iv3, ↓e_iv4, ↓e_iv5, ↓e_iv6, ↓rt_X11_voice, ↓reduceIte, Nat.reduceAdd, Nat.reduceEqDiff, ↓zcl0, ↓zclv, List.map_nil, List.sum_nil, List.map_cons, List.sum_cons, zcat, true_and, and_true, Nat.reduceLeDiff, Nat.reduceAdd, eq_self, forall_const, e_ok0, e_okss, e_ok1i, e_ok1r, e_ok1n, zl_0, zl_1, zl_2, zq_0, zq_3, Int.reduceToNat, Int.reduceAdd, Int.reduceMul, Int.reduceSub, Int.reduceNeg, Int.reduceLT, Int.reduceLE, Int.reduceEq, not_false_eq_true, not_true_eq_false, false_implies, true_implies, implies_true, Int.reduceDiv, Int.reduceMod, zr8_zr, zr_zbo, z01_zbo, z01_0, z01_1, zbo_eq0, zup_eq, zup_o, zup_k, ne_eq, ↓ct_voice_isEngineer, ↓r_isEngineer, ↓B_isEngineer, ↓ct_voice_in, ↓r_in, ↓B_in, ↓ct_voice_of, ↓r_of, ↓B_of, ↓ct_voice_knkC, ↓r_knkC, ↓B_knkC, ↓ct_voice_hrrC, ↓r_hrrC, ↓B_hrrC, ↓ct_voice_dggC, ↓r_dggC, ↓B_dggC, ↓ct_voice_tllC, ↓r_tllC, ↓B_tllC, ↓ct_voice_finds, ↓r_finds, ↓B_finds, ↓v_87, ↓g_87_0, ↓l_88, ↓s_88, ↓n_88, ↓g_87_1, ↓l_89, ↓s_89, ↓n_89, ↓g_87_2, ↓l_90, ↓s_90, ↓n_90, ↓g_87_3, ↓p_87_3, ↓g_87_4, ↓l_91, ↓s_91, ↓n_91, ↓g_87_5, ↓p_87_5, ↓g_87_6, ↓p_87_6, ↓g_87_7, ↓p_87_7, ↓g_87_8, ↓p_87_8, ↓g_87_9, ↓p_87_9, ↓g_87_10, ↓p_87_10, ↓g_87_11, ↓l_92, ↓s_92, ↓n_92, ↓g_87_12, ↓l_93, ↓s_93, ↓n_93, ↓g_87_13, ↓p_87_13, ↓g_87_14, ↓l_94, ↓s_94, ↓n_94, ↓g_87_15, ↓p_87_15, ↓g_87_16, ↓l_95, ↓s_95, ↓n_95, ↓g_87_17, ↓l_96, ↓s_96, ↓n_96, ↓g_87_18, ↓l_97, ↓s_97, ↓n_97, ↓g_87_19, ↓p_87_19, ↓g_87_20, ↓p_87_20, ↓g_87_21, ↓l_98, ↓s_98, ↓n_98, ↓g_87_22, ↓l_99, ↓s_99, ↓n_99, ↓g_87_23, ↓l_100, ↓s_100, ↓n_100, ↓g_87_24, ↓l_101, ↓s_101, ↓n_101]
      exact pub_no hC (by unfold R_voice; rw [s0, if_neg q]) rfl
    have J26 : ((0 ≤ e ∧ e < M 88 0) ∧ 0 ≤ a ∧ a ≤ 3) → X 26 [some (.inr (.inr (.inl 87))), some (.inl e), some (.inl a), some (.inl x), none] [] (zG, M) (0, 0) := by
      intro q
      have za : zr a = a := zr_of (by omega) (by omega)
      obtain ⟨M1, hM1⟩ : ∃ M1 : ZMm, zup (zup M 87 20 e) 87 19 0 = M1 := ⟨_, rfl⟩
      have d1 : M1 88 = M 88 := by rw [← hM1, zup_ne _ (by decide), zup_ne _ (by decide)]
      have w1 : M1 87 20 = e := by rw [← hM1, zup_k (by decide), zup_eq]
      have n1 : M1 87 19 = 0 := by rw [← hM1, zup_eq]
      have t1 : tS M1 = (M 97, 0) := by
        unfold tS
        rw [n1, ← hM1, zup_ne _ (by decide), zup_ne _ (by decide)]
      have vt : Vtr M1 := ⟨by rw [d1]; exact vd, by omega, by omega⟩
      have ek := (Vd_ei vd (e := e) (by omega) (by omega)).1
      have fin : ∀ (V : Int × T2), vce (st M) e a x = V → ∀ M2, Nx M1 V.2 M2 → post (some (.inl V.1)) (zG, M2) := by
        intro V hV M2 n2
        have n15 : M2 87 15 = M 87 15 := by rw [n2.2 87 15 (by omega) (by omega), ← hM1, zup_k (by decide), zup_k (by decide)]
        have nn : ∀ x i, ¬ x = 97 → ¬ (x = 87 ∧ i = 19) → ¬ (x = 87 ∧ i = 20) → M2 x i = M x i := fun x i q1 q2 q3 => by
          rw [n2.2 x i q1 q2, ← hM1]
          simp [zup, q2, q3]
        refine pub_of hC ?_ n15 (fun x qx => funext fun i => nn x i (by omega) (by omega) (by omega))
        unfold R_voice
        rw [s0, if_pos q, hV]
        refine congrArg (Prod.mk V.1) ?_
        have e97 : M2 97 = V.2.1 := congrArg Prod.fst n2.1
        have e19 : M2 87 19 = V.2.2 := congrArg Prod.snd n2.1
        have e20 : M2 87 20 = e := by rw [n2.who, w1]
        funext y i
        unfold stT
        by_cases q1 : y = 97
        · subst q1
          rw [if_pos rfl, st97, e97]
        · rw [if_neg q1]
          by_cases q2 : y = 87 ∧ i = 19
          · obtain ⟨qa, qb⟩ := q2
            subst qa; subst qb
            rw [if_pos ⟨rfl, rfl⟩]
            exact e19.symm
          · rw [if_neg q2]
            by_cases q3 : y = 87 ∧ i = 20
            · obtain ⟨qa, qb⟩ := q3
              subst qa; subst qb
              rw [if_pos ⟨rfl, rfl⟩]
              exact e20.symm
            · rw [if_neg q3]
              unfold st
              rw [nn y i q1 q2 q3]
      refine bs_X11_voice_26 hX ?_
      simp only [bk_X11_voice_0, k_X11_voice_0, bk_X11_voice_8, k_X11_voice_8, bk_X11_voice_20, k_X11_voice_20, bk_X11_voice_26, k_X11_voice_26, bk_X11_voice_47, k_X11_voice_47, bk_X11_voice_61, k_X11_voice_61, bk_X11_voice_76, k_X11_voice_76, bk_X11_voice_91, k_X11_voice_91, bk_X11_voice_98, k_X11_voice_98, ↓e_rk1, ↓e_rk0, ↓e_sk0, ↓e_sks, ↓e_ldi0, ↓e_ldis, ↓e_ldl0, ↓e_ldls, ↓e_lda0, ↓e_ldas, ↓e_ok0, ↓e_okss, ↓e_ok1i, ↓e_ok1r, ↓e_ok1n, ↓e_sti, ↓e_sta, ↓e_1, ↓e_2, ↓e_l1, ↓e_l2, ↓e_li, ↓e_sw0, ↓e_sws, ↓e_ceq, ↓e_cne, ↓e_clt, ↓e_cge, ↓e_cgt, ↓e_cle, ↓e_nil, ↓e_cons, ↓e_iconst, ↓e_bipush, ↓e_sipush, ↓e_ldc, ↓e_ldcw, ↓e_ldc2, ↓e_lconst, ↓e_iloadn, ↓e_iload, ↓e_lloadn, ↓e_lload, ↓e_aloadn, ↓e_aload, ↓e_istoren, ↓e_istore, ↓e_astoren, ↓e_astore, ↓e_add, ↓e_iinc, ↓e_iadd, ↓e_isub, ↓e_imul, ↓e_iand, ↓e_ior, ↓e_ixor, ↓e_ishl, ↓e_iushr, ↓e_idiv, ↓e_irem, ↓e_ineg, ↓e_i2l, ↓e_i2b, ↓e_i2s, ↓e_l2i, ↓e_land, ↓e_lor, ↓e_lshl, ↓e_lshr, ↓e_lushr, ↓e_lcmp, ↓e_dupi, ↓e_dupr, ↓e_popi, ↓e_dup2, ↓e_goto, ↓e_if, ↓e_icmp, ↓e_tsw, ↓e_lsw, ↓e_getf, ↓e_putf, ↓e_gets, ↓e_iald, ↓e_cald, ↓e_iast, ↓e_aald, ↓e_aast, ↓e_len, ↓e_copy, ↓e_abs, ↓e_max, ↓e_min, ↓e_iret, ↓e_aret, ↓e_vret, ↓e_is0, ↓e_is1, ↓e_is2, ↓e_is3, ↓e_is4, ↓e_iv1, ↓e_iv2, ↓e_iv3, ↓e_iv4, ↓e_iv5, ↓e_iv6, ↓rt_X11_voice, ↓reduceIte, Nat.reduceAdd, Nat.reduceEqDiff, ↓zcl0, ↓zclv, List.map_nil, List.sum_nil, List.map_cons, List.sum_cons, zcat, true_and, and_true, Nat.reduceLeDiff, Nat.reduceAdd, eq_self, forall_const, e_ok0, e_okss, e_ok1i, e_ok1r, e_ok1n, zl_0, zl_1, zl_2, zq_0, zq_3, Int.reduceToNat, Int.reduceAdd, Int.reduceMul, Int.reduceSub, Int.reduceNeg, Int.reduceLT, Int.reduceLE, Int.reduceEq, not_false_eq_true, not_true_eq_false, false_implies, true_implies, implies_true, Int.reduceDiv, Int.reduceMod, zr8_zr, zr_zbo, z01_zbo, z01_0, z01_1, zbo_eq0, zup_eq, zup_o, zup_k, ne_eq, ↓ct_voice_isEngineer, ↓r_isEngineer, ↓B_isEngineer, ↓ct_voice_in, ↓r_in, ↓B_in, ↓ct_voice_of, ↓r_of, ↓B_of, ↓ct_voice_knkC, ↓r_knkC, ↓B_knkC, ↓ct_voice_hrrC, ↓r_hrrC, ↓B_hrrC, ↓ct_voice_dggC, ↓r_dggC, ↓B_dggC, ↓ct_voice_tllC, ↓r_tllC, ↓B_tllC, ↓ct_voice_finds, ↓r_finds, ↓B_finds, ↓v_87, ↓g_87_0, ↓l_88, ↓s_88, ↓n_88, ↓g_87_1, ↓l_89, ↓s_89, ↓n_89, ↓g_87_2, ↓l_90, ↓s_90, ↓n_90, ↓g_87_3, ↓p_87_3, ↓g_87_4, ↓l_91, ↓s_91, ↓n_91, ↓g_87_5, ↓p_87_5, ↓g_87_6, ↓p_87_6, ↓g_87_7, ↓p_87_7, ↓g_87_8, ↓p_87_8, ↓g_87_9, ↓p_87_9, ↓g_87_10, ↓p_87_10, ↓g_87_11, ↓l_92, ↓s_92, ↓n_92, ↓g_87_12, ↓l_93, ↓s_93, ↓n_93, ↓g_87_13, ↓p_87_13, ↓g_87_14, ↓l_94, ↓s_94, ↓n_94, ↓g_87_15, ↓p_87_15, ↓g_87_16, ↓l_95, ↓s_95, ↓n_95, ↓g_87_17, ↓l_96, ↓s_96, ↓n_96, ↓g_87_18, ↓l_97, ↓s_97, ↓n_97, ↓g_87_19, ↓p_87_19, ↓g_87_20, ↓p_87_20, ↓g_87_21, ↓l_98, ↓s_98, ↓n_98, ↓g_87_22, ↓l_99, ↓s_99, ↓n_99, ↓g_87_23, ↓l_100, ↓s_100, ↓n_100, ↓g_87_24, ↓l_101, ↓s_101, ↓n_101, hM1, w1, d1]
      refine ⟨by omega, by omega, ?_⟩
      have ee : M 88 (162 + 3 * e + 0).toNat = ei (M 88) e 0 := rfl
      rw [ee]
      have V0 : a = 0 → vce (st M) e a x = vkn e (ei (M 88) e 0) x (M 97, 0) := fun c => by unfold vce; rw [if_pos c]; rfl
      have V1 : a = 1 → vce (st M) e a x = vhe e (ei (M 88) e 1) (ei (M 88) e 0) (ei (M 88) e 0) x (M 97, 0) := fun c => by unfold vce; rw [if_neg (by omega), if_pos c]; rfl
      have V2 : a = 2 → vce (st M) e a x = vdg e (ei (M 88) e 1) (ei (M 88) e 0) x (M 97, 0) := fun c => by unfold vce; rw [if_neg (by omega), if_neg (by omega), if_pos c]; rfl
      have V3 : a = 3 → vce (st M) e a x = vte e (ei (M 88) e 1) (ei (M 88) e 0) (ei (M 88) e 0) x (M 97, 0) := fun c => by unfold vce; rw [if_neg (by omega), if_neg (by omega), if_neg (by omega)]; rfl
      have J76 : ¬ a = 0 → ¬ a = 1 → X 76 [some (.inr (.inr (.inl 87))), some (.inl e), some (.inl a), some (.inl x), some (.inl (ei (M 88) e 0))] [] (zG, M1) (0, 0) := by
        intro c0 c1
        refine bs_X11_voice_76 hX ?_
        simp only [bk_X11_voice_0, k_X11_voice_0, bk_X11_voice_8, k_X11_voice_8, bk_X11_voice_20, k_X11_voice_20, bk_X11_voice_26, k_X11_voice_26, bk_X11_voice_47, k_X11_voice_47, bk_X11_voice_61, k_X11_voice_61, bk_X11_voice_76, k_X11_voice_76, bk_X11_voice_91, k_X11_voice_91, bk_X11_voice_98, k_X11_voice_98, ↓e_rk1, ↓e_rk0, ↓e_sk0, ↓e_sks, ↓e_ldi0, ↓e_ldis, ↓e_ldl0, ↓e_ldls, ↓e_lda0, ↓e_ldas, ↓e_ok0, ↓e_okss, ↓e_ok1i, ↓e_ok1r, ↓e_ok1n, ↓e_sti, ↓e_sta, ↓e_1, ↓e_2, ↓e_l1, ↓e_l2, ↓e_li, ↓e_sw0, ↓e_sws, ↓e_ceq, ↓e_cne, ↓e_clt, ↓e_cge, ↓e_cgt, ↓e_cle, ↓e_nil, ↓e_cons, ↓e_iconst, ↓e_bipush, ↓e_sipush, ↓e_ldc, ↓e_ldcw, ↓e_ldc2, ↓e_lconst, ↓e_iloadn, ↓e_iload, ↓e_lloadn, ↓e_lload, ↓e_aloadn, ↓e_aload, ↓e_istoren, ↓e_istore, ↓e_astoren, ↓e_astore, ↓e_add, ↓e_iinc, ↓e_iadd, ↓e_isub, ↓e_imul, ↓e_iand, ↓e_ior, ↓e_ixor, ↓e_ishl, ↓e_iushr, ↓e_idiv, ↓e_irem, ↓e_ineg, ↓e_i2l, ↓e_i2b, ↓e_i2s, ↓e_l2i, ↓e_land, ↓e_lor, ↓e_lshl, ↓e_lshr, ↓e_lushr, ↓e_lcmp, ↓e_dupi, ↓e_dupr, ↓e_popi, ↓e_dup2, ↓e_goto, ↓e_if, ↓e_icmp, ↓e_tsw, ↓e_lsw, ↓e_getf, ↓e_putf, ↓e_gets, ↓e_iald, ↓e_cald, ↓e_iast, ↓e_aald, ↓e_aast, ↓e_len, ↓e_copy, ↓e_abs, ↓e_max, ↓e_min, ↓e_iret, ↓e_aret, ↓e_vret, ↓e_is0, ↓e_is1, ↓e_is2, ↓e_is3, ↓e_is4, ↓e_iv1, ↓e_iv2, ↓e_iv3, ↓e_iv4, ↓e_iv5, ↓e_iv6, ↓rt_X11_voice, ↓reduceIte, Nat.reduceAdd, Nat.reduceEqDiff, ↓zcl0, ↓zclv, List.map_nil, List.sum_nil, List.map_cons, List.sum_cons, zcat, true_and, and_true, Nat.reduceLeDiff, Nat.reduceAdd, eq_self, forall_const, e_ok0, e_okss, e_ok1i, e_ok1r, e_ok1n, zl_0, zl_1, zl_2, zq_0, zq_3, Int.reduceToNat, Int.reduceAdd, Int.reduceMul, Int.reduceSub, Int.reduceNeg, Int.reduceLT, Int.reduceLE, Int.reduceEq, not_false_eq_true, not_true_eq_false, false_implies, true_implies, implies_true, Int.reduceDiv, Int.reduceMod, zr8_zr, zr_zbo, z01_zbo, z01_0, z01_1, zbo_eq0, zup_eq, zup_o, zup_k, ne_eq, ↓ct_voice_isEngineer, ↓r_isEngineer, ↓B_isEngineer, ↓ct_voice_in, ↓r_in, ↓B_in, ↓ct_voice_of, ↓r_of, ↓B_of, ↓ct_voice_knkC, ↓r_knkC, ↓B_knkC, ↓ct_voice_hrrC, ↓r_hrrC, ↓B_hrrC, ↓ct_voice_dggC, ↓r_dggC, ↓B_dggC, ↓ct_voice_tllC, ↓r_tllC, ↓B_tllC, ↓ct_voice_finds, ↓r_finds, ↓B_finds, ↓v_87, ↓g_87_0, ↓l_88, ↓s_88, ↓n_88, ↓g_87_1, ↓l_89, ↓s_89, ↓n_89, ↓g_87_2, ↓l_90, ↓s_90, ↓n_90, ↓g_87_3, ↓p_87_3, ↓g_87_4, ↓l_91, ↓s_91, ↓n_91, ↓g_87_5, ↓p_87_5, ↓g_87_6, ↓p_87_6, ↓g_87_7, ↓p_87_7, ↓g_87_8, ↓p_87_8, ↓g_87_9, ↓p_87_9, ↓g_87_10, ↓p_87_10, ↓g_87_11, ↓l_92, ↓s_92, ↓n_92, ↓g_87_12, ↓l_93, ↓s_93, ↓n_93, ↓g_87_13, ↓p_87_13, ↓g_87_14, ↓l_94, ↓s_94, ↓n_94, ↓g_87_15, ↓p_87_15, ↓g_87_16, ↓l_95, ↓s_95, ↓n_95, ↓g_87_17, ↓l_96, ↓s_96, ↓n_96, ↓g_87_18, ↓l_97, ↓s_97, ↓n_97, ↓g_87_19, ↓p_87_19, ↓g_87_20, ↓p_87_20, ↓g_87_21, ↓l_98, ↓s_98, ↓n_98, ↓g_87_22, ↓l_99, ↓s_99, ↓n_99, ↓g_87_23, ↓l_100, ↓s_100, ↓n_100, ↓g_87_24, ↓l_101, ↓s_101, ↓n_101, za, w1, d1, t1]
        refine ⟨fun c => ⟨ek, vt, fun M2 n2 => ?_⟩, fun c => ⟨ek, vt, fun M2 n2 => ?_⟩⟩
        · first | exact fin _ (V2 c) M2 n2 | exact fin _ (V3 (by omega)) M2 n2
        · first | exact fin _ (V2 c) M2 n2 | exact fin _ (V3 (by omega)) M2 n2
      have J61 : ¬ a = 0 → X 61 [some (.inr (.inr (.inl 87))), some (.inl e), some (.inl a), some (.inl x), some (.inl (ei (M 88) e 0))] [] (zG, M1) (0, 0) := by
        intro c0
        refine bs_X11_voice_61 hX ?_
        simp only [bk_X11_voice_0, k_X11_voice_0, bk_X11_voice_8, k_X11_voice_8, bk_X11_voice_20, k_X11_voice_20, bk_X11_voice_26, k_X11_voice_26, bk_X11_voice_47, k_X11_voice_47, bk_X11_voice_61, k_X11_voice_61, bk_X11_voice_76, k_X11_voice_76, bk_X11_voice_91, k_X11_voice_91, bk_X11_voice_98, k_X11_voice_98, ↓e_rk1, ↓e_rk0, ↓e_sk0, ↓e_sks, ↓e_ldi0, ↓e_ldis, ↓e_ldl0, ↓e_ldls, ↓e_lda0, ↓e_ldas, ↓e_ok0, ↓e_okss, ↓e_ok1i, ↓e_ok1r, ↓e_ok1n, ↓e_sti, ↓e_sta, ↓e_1, ↓e_2, ↓e_l1, ↓e_l2, ↓e_li, ↓e_sw0, ↓e_sws, ↓e_ceq, ↓e_cne, ↓e_clt, ↓e_cge, ↓e_cgt, ↓e_cle, ↓e_nil, ↓e_cons, ↓e_iconst, ↓e_bipush, ↓e_sipush, ↓e_ldc, ↓e_ldcw, ↓e_ldc2, ↓e_lconst, ↓e_iloadn, ↓e_iload, ↓e_lloadn, ↓e_lload, ↓e_aloadn, ↓e_aload, ↓e_istoren, ↓e_istore, ↓e_astoren, ↓e_astore, ↓e_add, ↓e_iinc, ↓e_iadd, ↓e_isub, ↓e_imul, ↓e_iand, ↓e_ior, ↓e_ixor, ↓e_ishl, ↓e_iushr, ↓e_idiv, ↓e_irem, ↓e_ineg, ↓e_i2l, ↓e_i2b, ↓e_i2s, ↓e_l2i, ↓e_land, ↓e_lor, ↓e_lshl, ↓e_lshr, ↓e_lushr, ↓e_lcmp, ↓e_dupi, ↓e_dupr, ↓e_popi, ↓e_dup2, ↓e_goto, ↓e_if, ↓e_icmp, ↓e_tsw, ↓e_lsw, ↓e_getf, ↓e_putf, ↓e_gets, ↓e_iald, ↓e_cald, ↓e_iast, ↓e_aald, ↓e_aast, ↓e_len, ↓e_copy, ↓e_abs, ↓e_max, ↓e_min, ↓e_iret, ↓e_aret, ↓e_vret, ↓e_is0, ↓e_is1, ↓e_is2, ↓e_is3, ↓e_is4, ↓e_iv1, ↓e_iv2, ↓e_iv3, ↓e_iv4, ↓e_iv5, ↓e_iv6, ↓rt_X11_voice, ↓reduceIte, Nat.reduceAdd, Nat.reduceEqDiff, ↓zcl0, ↓zclv, List.map_nil, List.sum_nil, List.map_cons, List.sum_cons, zcat, true_and, and_true, Nat.reduceLeDiff, Nat.reduceAdd, eq_self, forall_const, e_ok0, e_okss, e_ok1i, e_ok1r, e_ok1n, zl_0, zl_1, zl_2, zq_0, zq_3, Int.reduceToNat, Int.reduceAdd, Int.reduceMul, Int.reduceSub, Int.reduceNeg, Int.reduceLT, Int.reduceLE, Int.reduceEq, not_false_eq_true, not_true_eq_false, false_implies, true_implies, implies_true, Int.reduceDiv, Int.reduceMod, zr8_zr, zr_zbo, z01_zbo, z01_0, z01_1, zbo_eq0, zup_eq, zup_o, zup_k, ne_eq, ↓ct_voice_isEngineer, ↓r_isEngineer, ↓B_isEngineer, ↓ct_voice_in, ↓r_in, ↓B_in, ↓ct_voice_of, ↓r_of, ↓B_of, ↓ct_voice_knkC, ↓r_knkC, ↓B_knkC, ↓ct_voice_hrrC, ↓r_hrrC, ↓B_hrrC, ↓ct_voice_dggC, ↓r_dggC, ↓B_dggC, ↓ct_voice_tllC, ↓r_tllC, ↓B_tllC, ↓ct_voice_finds, ↓r_finds, ↓B_finds, ↓v_87, ↓g_87_0, ↓l_88, ↓s_88, ↓n_88, ↓g_87_1, ↓l_89, ↓s_89, ↓n_89, ↓g_87_2, ↓l_90, ↓s_90, ↓n_90, ↓g_87_3, ↓p_87_3, ↓g_87_4, ↓l_91, ↓s_91, ↓n_91, ↓g_87_5, ↓p_87_5, ↓g_87_6, ↓p_87_6, ↓g_87_7, ↓p_87_7, ↓g_87_8, ↓p_87_8, ↓g_87_9, ↓p_87_9, ↓g_87_10, ↓p_87_10, ↓g_87_11, ↓l_92, ↓s_92, ↓n_92, ↓g_87_12, ↓l_93, ↓s_93, ↓n_93, ↓g_87_13, ↓p_87_13, ↓g_87_14, ↓l_94, ↓s_94, ↓n_94, ↓g_87_15, ↓p_87_15, ↓g_87_16, ↓l_95, ↓s_95, ↓n_95, ↓g_87_17, ↓l_96, ↓s_96, ↓n_96, ↓g_87_18, ↓l_97, ↓s_97, ↓n_97, ↓g_87_19, ↓p_87_19, ↓g_87_20, ↓p_87_20, ↓g_87_21, ↓l_98, ↓s_98, ↓n_98, ↓g_87_22, ↓l_99, ↓s_99, ↓n_99, ↓g_87_23, ↓l_100, ↓s_100, ↓n_100, ↓g_87_24, ↓l_101, ↓s_101, ↓n_101, za, w1, d1, t1]
        refine ⟨fun c => ?_, fun c => ?_⟩
        · first | exact J76 c0 c | exact ⟨ek, vt, fun M2 n2 => fin _ (V1 c) M2 n2⟩
        · first | exact J76 c0 c | exact ⟨ek, vt, fun M2 n2 => fin _ (V1 c) M2 n2⟩
      refine bs_X11_voice_47 hX ?_
      simp only [bk_X11_voice_0, k_X11_voice_0, bk_X11_voice_8, k_X11_voice_8, bk_X11_voice_20, k_X11_voice_20, bk_X11_voice_26, k_X11_voice_26, bk_X11_voice_47, k_X11_voice_47, bk_X11_voice_61, k_X11_voice_61, bk_X11_voice_76, k_X11_voice_76, bk_X11_voice_91, k_X11_voice_91, bk_X11_voice_98, k_X11_voice_98, ↓e_rk1, ↓e_rk0, ↓e_sk0, ↓e_sks, ↓e_ldi0, ↓e_ldis, ↓e_ldl0, ↓e_ldls, ↓e_lda0, ↓e_ldas, ↓e_ok0, ↓e_okss, ↓e_ok1i, ↓e_ok1r, ↓e_ok1n, ↓e_sti, ↓e_sta, ↓e_1, ↓e_2, ↓e_l1, ↓e_l2, ↓e_li, ↓e_sw0, ↓e_sws, ↓e_ceq, ↓e_cne, ↓e_clt, ↓e_cge, ↓e_cgt, ↓e_cle, ↓e_nil, ↓e_cons, ↓e_iconst, ↓e_bipush, ↓e_sipush, ↓e_ldc, ↓e_ldcw, ↓e_ldc2, ↓e_lconst, ↓e_iloadn, ↓e_iload, ↓e_lloadn, ↓e_lload, ↓e_aloadn, ↓e_aload, ↓e_istoren, ↓e_istore, ↓e_astoren, ↓e_astore, ↓e_add, ↓e_iinc, ↓e_iadd, ↓e_isub, ↓e_imul, ↓e_iand, ↓e_ior, ↓e_ixor, ↓e_ishl, ↓e_iushr, ↓e_idiv, ↓e_irem, ↓e_ineg, ↓e_i2l, ↓e_i2b, ↓e_i2s, ↓e_l2i, ↓e_land, ↓e_lor, ↓e_lshl, ↓e_lshr, ↓e_lushr, ↓e_lcmp, ↓e_dupi, ↓e_dupr, ↓e_popi, ↓e_dup2, ↓e_goto, ↓e_if, ↓e_icmp, ↓e_tsw, ↓e_lsw, ↓e_getf, ↓e_putf, ↓e_gets, ↓e_iald, ↓e_cald, ↓e_iast, ↓e_aald, ↓e_aast, ↓e_len, ↓e_copy, ↓e_abs, ↓e_max, ↓e_min, ↓e_iret, ↓e_aret, ↓e_vret, ↓e_is0, ↓e_is1, ↓e_is2, ↓e_is3, ↓e_is4, ↓e_iv1, ↓e_iv2, ↓e_iv3, ↓e_iv4, ↓e_iv5, ↓e_iv6, ↓rt_X11_voice, ↓reduceIte, Nat.reduceAdd, Nat.reduceEqDiff, ↓zcl0, ↓zclv, List.map_nil, List.sum_nil, List.map_cons, List.sum_cons, zcat, true_and, and_true, Nat.reduceLeDiff, Nat.reduceAdd, eq_self, forall_const, e_ok0, e_okss, e_ok1i, e_ok1r, e_ok1n, zl_0, zl_1, zl_2, zq_0, zq_3, Int.reduceToNat, Int.reduceAdd, Int.reduceMul, Int.reduceSub, Int.reduceNeg, Int.reduceLT, Int.reduceLE, Int.reduceEq, not_false_eq_true, not_true_eq_false, false_implies, true_implies, implies_true, Int.reduceDiv, Int.reduceMod, zr8_zr, zr_zbo, z01_zbo, z01_0, z01_1, zbo_eq0, zup_eq, zup_o, zup_k, ne_eq, ↓ct_voice_isEngineer, ↓r_isEngineer, ↓B_isEngineer, ↓ct_voice_in, ↓r_in, ↓B_in, ↓ct_voice_of, ↓r_of, ↓B_of, ↓ct_voice_knkC, ↓r_knkC, ↓B_knkC, ↓ct_voice_hrrC, ↓r_hrrC, ↓B_hrrC, ↓ct_voice_dggC, ↓r_dggC, ↓B_dggC, ↓ct_voice_tllC, ↓r_tllC, ↓B_tllC, ↓ct_voice_finds, ↓r_finds, ↓B_finds, ↓v_87, ↓g_87_0, ↓l_88, ↓s_88, ↓n_88, ↓g_87_1, ↓l_89, ↓s_89, ↓n_89, ↓g_87_2, ↓l_90, ↓s_90, ↓n_90, ↓g_87_3, ↓p_87_3, ↓g_87_4, ↓l_91, ↓s_91, ↓n_91, ↓g_87_5, ↓p_87_5, ↓g_87_6, ↓p_87_6, ↓g_87_7, ↓p_87_7, ↓g_87_8, ↓p_87_8, ↓g_87_9, ↓p_87_9, ↓g_87_10, ↓p_87_10, ↓g_87_11, ↓l_92, ↓s_92, ↓n_92, ↓g_87_12, ↓l_93, ↓s_93, ↓n_93, ↓g_87_13, ↓p_87_13, ↓g_87_14, ↓l_94, ↓s_94, ↓n_94, ↓g_87_15, ↓p_87_15, ↓g_87_16, ↓l_95, ↓s_95, ↓n_95, ↓g_87_17, ↓l_96, ↓s_96, ↓n_96, ↓g_87_18, ↓l_97, ↓s_97, ↓n_97, ↓g_87_19, ↓p_87_19, ↓g_87_20, ↓p_87_20, ↓g_87_21, ↓l_98, ↓s_98, ↓n_98, ↓g_87_22, ↓l_99, ↓s_99, ↓n_99, ↓g_87_23, ↓l_100, ↓s_100, ↓n_100, ↓g_87_24, ↓l_101, ↓s_101, ↓n_101, za, w1, d1, t1]
      refine ⟨fun c => ?_, fun c => ?_⟩
      · first | exact J61 c | exact ⟨ek, vt, fun M2 n2 => fin _ (V0 c) M2 n2⟩
      · first | exact J61 c | exact ⟨ek, vt, fun M2 n2 => fin _ (V0 c) M2 n2⟩
    have J8 : (0 ≤ e ∧ e < M 88 0) → X 8 [some (.inr (.inr (.inl 87))), some (.inl e), some (.inl a), some (.inl x), none] [] (zG, M) (0, 0) := by
      intro q
      refine bs_X11_voice_8 hX ?_
      simp only [bk_X11_voice_0, k_X11_voice_0, bk_X11_voice_8, k_X11_voice_8, bk_X11_voice_20, k_X11_voice_20, bk_X11_voice_26, k_X11_voice_26, bk_X11_voice_47, k_X11_voice_47, bk_X11_voice_61, k_X11_voice_61, bk_X11_voice_76, k_X11_voice_76, bk_X11_voice_91, k_X11_voice_91, bk_X11_voice_98, k_X11_voice_98, ↓e_rk1, ↓e_rk0, ↓e_sk0, ↓e_sks, ↓e_ldi0, ↓e_ldis, ↓e_ldl0, ↓e_ldls, ↓e_lda0, ↓e_ldas, ↓e_ok0, ↓e_okss, ↓e_ok1i, ↓e_ok1r, ↓e_ok1n, ↓e_sti, ↓e_sta, ↓e_1, ↓e_2, ↓e_l1, ↓e_l2, ↓e_li, ↓e_sw0, ↓e_sws, ↓e_ceq, ↓e_cne, ↓e_clt, ↓e_cge, ↓e_cgt, ↓e_cle, ↓e_nil, ↓e_cons, ↓e_iconst, ↓e_bipush, ↓e_sipush, ↓e_ldc, ↓e_ldcw, ↓e_ldc2, ↓e_lconst, ↓e_iloadn, ↓e_iload, ↓e_lloadn, ↓e_lload, ↓e_aloadn, ↓e_aload, ↓e_istoren, ↓e_istore, ↓e_astoren, ↓e_astore, ↓e_add, ↓e_iinc, ↓e_iadd, ↓e_isub, ↓e_imul, ↓e_iand, ↓e_ior, ↓e_ixor, ↓e_ishl, ↓e_iushr, ↓e_idiv, ↓e_irem, ↓e_ineg, ↓e_i2l, ↓e_i2b, ↓e_i2s, ↓e_l2i, ↓e_land, ↓e_lor, ↓e_lshl, ↓e_lshr, ↓e_lushr, ↓e_lcmp, ↓e_dupi, ↓e_dupr, ↓e_popi, ↓e_dup2, ↓e_goto, ↓e_if, ↓e_icmp, ↓e_tsw, ↓e_lsw, ↓e_getf, ↓e_putf, ↓e_gets, ↓e_iald, ↓e_cald, ↓e_iast, ↓e_aald, ↓e_aast, ↓e_len, ↓e_copy, ↓e_abs, ↓e_max, ↓e_min, ↓e_iret, ↓e_aret, ↓e_vret, ↓e_is0, ↓e_is1, ↓e_is2, ↓e_is3, ↓e_is4, ↓e_iv1, ↓e_iv2, ↓e_iv3, ↓e_iv4, ↓e_iv5, ↓e_iv6, ↓rt_X11_voice, ↓reduceIte, Nat.reduceAdd, Nat.reduceEqDiff, ↓zcl0, ↓zclv, List.map_nil, List.sum_nil, List.map_cons, List.sum_cons, zcat, true_and, and_true, Nat.reduceLeDiff, Nat.reduceAdd, eq_self, forall_const, e_ok0, e_okss, e_ok1i, e_ok1r, e_ok1n, zl_0, zl_1, zl_2, zq_0, zq_3, Int.reduceToNat, Int.reduceAdd, Int.reduceMul, Int.reduceSub, Int.reduceNeg, Int.reduceLT, Int.reduceLE, Int.reduceEq, not_false_eq_true, not_true_eq_false, false_implies, true_implies, implies_true, Int.reduceDiv, Int.reduceMod, zr8_zr, zr_zbo, z01_zbo, z01_0, z01_1, zbo_eq0, zup_eq, zup_o, zup_k, ne_eq, ↓ct_voice_isEngineer, ↓r_isEngineer, ↓B_isEngineer, ↓ct_voice_in, ↓r_in, ↓B_in, ↓ct_voice_of, ↓r_of, ↓B_of, ↓ct_voice_knkC, ↓r_knkC, ↓B_knkC, ↓ct_voice_hrrC, ↓r_hrrC, ↓B_hrrC, ↓ct_voice_dggC, ↓r_dggC, ↓B_dggC, ↓ct_voice_tllC, ↓r_tllC, ↓B_tllC, ↓ct_voice_finds, ↓r_finds, ↓B_finds, ↓v_87, ↓g_87_0, ↓l_88, ↓s_88, ↓n_88, ↓g_87_1, ↓l_89, ↓s_89, ↓n_89, ↓g_87_2, ↓l_90, ↓s_90, ↓n_90, ↓g_87_3, ↓p_87_3, ↓g_87_4, ↓l_91, ↓s_91, ↓n_91, ↓g_87_5, ↓p_87_5, ↓g_87_6, ↓p_87_6, ↓g_87_7, ↓p_87_7, ↓g_87_8, ↓p_87_8, ↓g_87_9, ↓p_87_9, ↓g_87_10, ↓p_87_10, ↓g_87_11, ↓l_92, ↓s_92, ↓n_92, ↓g_87_12, ↓l_93, ↓s_93, ↓n_93, ↓g_87_13, ↓p_87_13, ↓g_87_14, ↓l_94, ↓s_94, ↓n_94, ↓g_87_15, ↓p_87_15, ↓g_87_16, ↓l_95, ↓s_95, ↓n_95, ↓g_87_17, ↓l_96, ↓s_96, ↓n_96, ↓g_87_18, ↓l_97, ↓s_97, ↓n_97, ↓g_87_19, ↓p_87_19, ↓g_87_20, ↓p_87_20, ↓g_87_21, ↓l_98, ↓s_98, ↓n_98, ↓g_87_22, ↓l_99, ↓s_99, ↓n_99, ↓g_87_23, ↓l_100, ↓s_100, ↓n_100, ↓g_87_24, ↓l_101, ↓s_101, ↓n_101, zr_rg, h2, zr8_rg, h2, zr8_zr, zr_zbo, zbo_eq0]
      exact ⟨fun c => J20 (by omega), fun c => J26 (by omega)⟩
    simp only [bk_X11_voice_0, k_X11_voice_0, bk_X11_voice_8, k_X11_voice_8, bk_X11_voice_20, k_X11_voice_20, bk_X11_voice_26, k_X11_voice_26, bk_X11_voice_47, k_X11_voice_47, bk_X11_voice_61, k_X11_voice_61, bk_X11_voice_76, k_X11_voice_76, bk_X11_voice_91, k_X11_voice_91, bk_X11_voice_98, k_X11_voice_98, ↓e_rk1, ↓e_rk0, ↓e_sk0, ↓e_sks, ↓e_ldi0, ↓e_ldis, ↓e_ldl0, ↓e_ldls, ↓e_lda0, ↓e_ldas, ↓e_ok0, ↓e_okss, ↓e_ok1i, ↓e_ok1r, ↓e_ok1n, ↓e_sti, ↓e_sta, ↓e_1, ↓e_2, ↓e_l1, ↓e_l2, ↓e_li, ↓e_sw0, ↓e_sws, ↓e_ceq, ↓e_cne, ↓e_clt, ↓e_cge, ↓e_cgt, ↓e_cle, ↓e_nil, ↓e_cons, ↓e_iconst, ↓e_bipush, ↓e_sipush, ↓e_ldc, ↓e_ldcw, ↓e_ldc2, ↓e_lconst, ↓e_iloadn, ↓e_iload, ↓e_lloadn, ↓e_lload, ↓e_aloadn, ↓e_aload, ↓e_istoren, ↓e_istore, ↓e_astoren, ↓e_astore, ↓e_add, ↓e_iinc, ↓e_iadd, ↓e_isub, ↓e_imul, ↓e_iand, ↓e_ior, ↓e_ixor, ↓e_ishl, ↓e_iushr, ↓e_idiv, ↓e_irem, ↓e_ineg, ↓e_i2l, ↓e_i2b, ↓e_i2s, ↓e_l2i, ↓e_land, ↓e_lor, ↓e_lshl, ↓e_lshr, ↓e_lushr, ↓e_lcmp, ↓e_dupi, ↓e_dupr, ↓e_popi, ↓e_dup2, ↓e_goto, ↓e_if, ↓e_icmp, ↓e_tsw, ↓e_lsw, ↓e_getf, ↓e_putf, ↓e_gets, ↓e_iald, ↓e_cald, ↓e_iast, ↓e_aald, ↓e_aast, ↓e_len, ↓e_copy, ↓e_abs, ↓e_max, ↓e_min, ↓e_iret, ↓e_aret, ↓e_vret, ↓e_is0, ↓e_is1, ↓e_is2, ↓e_is3, ↓e_is4, ↓e_iv1, ↓e_iv2, ↓e_iv3, ↓e_iv4, ↓e_iv5, ↓e_iv6, ↓rt_X11_voice, ↓reduceIte, Nat.reduceAdd, Nat.reduceEqDiff, ↓zcl0, ↓zclv, List.map_nil, List.sum_nil, List.map_cons, List.sum_cons, zcat, true_and, and_true, Nat.reduceLeDiff, Nat.reduceAdd, eq_self, forall_const, e_ok0, e_okss, e_ok1i, e_ok1r, e_ok1n, zl_0, zl_1, zl_2, zq_0, zq_3, Int.reduceToNat, Int.reduceAdd, Int.reduceMul, Int.reduceSub, Int.reduceNeg, Int.reduceLT, Int.reduceLE, Int.reduceEq, not_false_eq_true, not_true_eq_false, false_implies, true_implies, implies_true, Int.reduceDiv, Int.reduceMod, zr8_zr, zr_zbo, z01_zbo, z01_0, z01_1, zbo_eq0, zup_eq, zup_o, zup_k, ne_eq, ↓ct_voice_isEngineer, ↓r_isEngineer, ↓B_isEngineer, ↓ct_voice_in, ↓r_in, ↓B_in, ↓ct_voice_of, ↓r_of, ↓B_of, ↓ct_voice_knkC, ↓r_knkC, ↓B_knkC, ↓ct_voice_hrrC, ↓r_hrrC, ↓B_hrrC, ↓ct_voice_dggC, ↓r_dggC, ↓B_dggC, ↓ct_voice_tllC, ↓r_tllC, ↓B_tllC, ↓ct_voice_finds, ↓r_finds, ↓B_finds, ↓v_87, ↓g_87_0, ↓l_88, ↓s_88, ↓n_88, ↓g_87_1, ↓l_89, ↓s_89, ↓n_89, ↓g_87_2, ↓l_90, ↓s_90, ↓n_90, ↓g_87_3, ↓p_87_3, ↓g_87_4, ↓l_91, ↓s_91, ↓n_91, ↓g_87_5, ↓p_87_5, ↓g_87_6, ↓p_87_6, ↓g_87_7, ↓p_87_7, ↓g_87_8, ↓p_87_8, ↓g_87_9, ↓p_87_9, ↓g_87_10, ↓p_87_10, ↓g_87_11, ↓l_92, ↓s_92, ↓n_92, ↓g_87_12, ↓l_93, ↓s_93, ↓n_93, ↓g_87_13, ↓p_87_13, ↓g_87_14, ↓l_94, ↓s_94, ↓n_94, ↓g_87_15, ↓p_87_15, ↓g_87_16, ↓l_95, ↓s_95, ↓n_95, ↓g_87_17, ↓l_96, ↓s_96, ↓n_96, ↓g_87_18, ↓l_97, ↓s_97, ↓n_97, ↓g_87_19, ↓p_87_19, ↓g_87_20, ↓p_87_20, ↓g_87_21, ↓l_98, ↓s_98, ↓n_98, ↓g_87_22, ↓l_99, ↓s_99, ↓n_99, ↓g_87_23, ↓l_100, ↓s_100, ↓n_100, ↓g_87_24, ↓l_101, ↓s_101, ↓n_101, zr_zbo, zbo_eq0]
    exact ⟨h1, v0.1, v0.2, fun c => J20 (by omega), fun c => J8 (by omega)⟩
