/-! THE REFERENCE: where the other was, as what kind -/
def k_X11_isTold_0 : List ZI := [(.iconst 1, 1, (0, [], [])), (.istore_n 3, 1, (0, [3], [])), (.iconst 0, 1, (0, [], [])), (.istore 4, 2, (0, [4], []))]
theorem ok_X11_isTold_0 : zOK cX11_isTold 11 false 5 k_X11_isTold_0 0 = true := zOK_by (by decide +kernel)
def k_X11_isTold_5 : List ZI := [(.iload 4, 2, (0, [4], [])), (.aload_n 0, 1, (0, [0], [])), (.getfield 47, 3, (0, [11, 22], [])), (.iload_n 1, 1, (0, [1], [])), (.iaload, 1, (0, [], [])), (.if_icmp .ge 44, 3, (0, [57], [])), (.iload_n 3, 1, (0, [3], [])), (.ifCond .eq 40, 3, (0, [57], [])), (.aload_n 0, 1, (0, [0], [])), (.invokevirtual 200, 3, (0, [163, 1, 0, 11], [])), (.aload_n 0, 1, (0, [0], [])), (.getfield 50, 3, (0, [11, 23], [])), (.bipush 40, 2, (0, [], [])), (.iload_n 1, 1, (0, [1], [])), (.imul, 1, (0, [], [])), (.iload 4, 2, (0, [4], [])), (.iadd, 1, (0, [], [])), (.iaload, 1, (0, [], [])), (.aload_n 0, 1, (0, [0], [])), (.iload_n 2, 1, (0, [2], [])), (.iconst 0, 1, (0, [], [])), (.invokevirtual 161, 3, (0, [127, 3, 0, 11], [])), (.if_icmp .ne 7, 3, (0, [49], [])), (.iconst 1, 1, (0, [], [])), (.goto 4, 3, (0, [50], []))]
theorem ok_X11_isTold_5 : zOK cX11_isTold 11 false 5 k_X11_isTold_5 5 = true := zOK_by (by decide +kernel)
def k_X11_isTold_49 : List ZI := [(.iconst 0, 1, (0, [], []))]
theorem ok_X11_isTold_49 : zOK cX11_isTold 11 false 5 k_X11_isTold_49 49 = true := zOK_by (by decide +kernel)
def k_X11_isTold_50 : List ZI := [(.istore_n 3, 1, (0, [3], [])), (.iinc 4 1, 3, (0, [4], [])), (.goto (-49), 3, (0, [5], []))]
theorem ok_X11_isTold_50 : zOK cX11_isTold 11 false 5 k_X11_isTold_50 50 = true := zOK_by (by decide +kernel)
def k_X11_isTold_57 : List ZI := [(.aload_n 0, 1, (0, [0], [])), (.invokevirtual 260, 3, (0, [131, 1, 0, 11], [])), (.iload_n 3, 1, (0, [3], [])), (.ireturn, 1, (0, [], []))]
theorem ok_X11_isTold_57 : zOK cX11_isTold 11 false 5 k_X11_isTold_57 57 = true := zOK_by (by decide +kernel)
theorem rt_X11_isTold {g : Nat} {post : Option ZV → ZH → Prop} {h : ZH} {b : ZB2} {z : Int} : zRt mX11_isTold g post (some (.inl z)) h b = (post (some (.inl z)) h ∧ h.1.length = g ∧ z01 z) := rfl
def bk_X11_isTold_0 (E : ZE) (CT : Nat → ZC) (X : ZK) (Rt : ZR) (ls : ZL) (st : List ZV) (h : ZH) (b : ZB2) : Prop := zB E CT k_X11_isTold_0 0 ls st h b (fun t ls st h b => X t ls st h b) Rt
theorem bs_X11_isTold_0 {E : ZE} {CT : Nat → ZC} {X : ZK} {Rt : ZR} {ls : ZL} {st : List ZV} {h : ZH} {b : ZB2} (hX : zCl E mX11_isTold 11 false CT Rt X) (q : bk_X11_isTold_0 E CT X Rt ls st h b) : X 0 ls st h b := by
  refine hX k_X11_isTold_0 0 ok_X11_isTold_0 _ ?_ ls st h b q
  exact fun t ls st h b q => q
def bk_X11_isTold_50 (E : ZE) (CT : Nat → ZC) (X : ZK) (Rt : ZR) (ls : ZL) (st : List ZV) (h : ZH) (b : ZB2) : Prop := zB E CT k_X11_isTold_50 50 ls st h b (fun t ls st h b => X t ls st h b) Rt
theorem bs_X11_isTold_50 {E : ZE} {CT : Nat → ZC} {X : ZK} {Rt : ZR} {ls : ZL} {st : List ZV} {h : ZH} {b : ZB2} (hX : zCl E mX11_isTold 11 false CT Rt X) (q : bk_X11_isTold_50 E CT X Rt ls st h b) : X 50 ls st h b := by
  refine hX k_X11_isTold_50 50 ok_X11_isTold_50 _ ?_ ls st h b q
  exact fun t ls st h b q => q
def bk_X11_isTold_49 (E : ZE) (CT : Nat → ZC) (X : ZK) (Rt : ZR) (ls : ZL) (st : List ZV) (h : ZH) (b : ZB2) : Prop := zB E CT k_X11_isTold_49 49 ls st h b (fun t ls st h b => if t = 50 then bk_X11_isTold_50 E CT X Rt ls st h b else X t ls st h b) Rt
theorem bs_X11_isTold_49 {E : ZE} {CT : Nat → ZC} {X : ZK} {Rt : ZR} {ls : ZL} {st : List ZV} {h : ZH} {b : ZB2} (hX : zCl E mX11_isTold 11 false CT Rt X) (q : bk_X11_isTold_49 E CT X Rt ls st h b) : X 49 ls st h b := by
  refine hX k_X11_isTold_49 49 ok_X11_isTold_49 _ ?_ ls st h b q
  exact by
    intro t ls st h b q
    by_cases c : t = 50
    · subst c; rw [if_pos rfl] at q; exact bs_X11_isTold_50 hX q
    rw [if_neg c] at q
    exact q
def bk_X11_isTold_57 (E : ZE) (CT : Nat → ZC) (X : ZK) (Rt : ZR) (ls : ZL) (st : List ZV) (h : ZH) (b : ZB2) : Prop := zB E CT k_X11_isTold_57 57 ls st h b (fun t ls st h b => X t ls st h b) Rt
theorem bs_X11_isTold_57 {E : ZE} {CT : Nat → ZC} {X : ZK} {Rt : ZR} {ls : ZL} {st : List ZV} {h : ZH} {b : ZB2} (hX : zCl E mX11_isTold 11 false CT Rt X) (q : bk_X11_isTold_57 E CT X Rt ls st h b) : X 57 ls st h b := by
  refine hX k_X11_isTold_57 57 ok_X11_isTold_57 _ ?_ ls st h b q
  exact fun t ls st h b q => q
def bk_X11_isTold_5 (E : ZE) (CT : Nat → ZC) (X : ZK) (Rt : ZR) (ls : ZL) (st : List ZV) (h : ZH) (b : ZB2) : Prop := zB E CT k_X11_isTold_5 5 ls st h b (fun t ls st h b => if t = 49 then bk_X11_isTold_49 E CT X Rt ls st h b else if t = 50 then bk_X11_isTold_50 E CT X Rt ls st h b else if t = 57 then bk_X11_isTold_57 E CT X Rt ls st h b else X t ls st h b) Rt
theorem bs_X11_isTold_5 {E : ZE} {CT : Nat → ZC} {X : ZK} {Rt : ZR} {ls : ZL} {st : List ZV} {h : ZH} {b : ZB2} (hX : zCl E mX11_isTold 11 false CT Rt X) (q : bk_X11_isTold_5 E CT X Rt ls st h b) : X 5 ls st h b := by
  refine hX k_X11_isTold_5 5 ok_X11_isTold_5 _ ?_ ls st h b q
  exact by
    intro t ls st h b q
    by_cases c : t = 49
    · subst c; rw [if_pos rfl] at q; exact bs_X11_isTold_49 hX q
    rw [if_neg c] at q
    by_cases c : t = 50
    · subst c; rw [if_pos rfl] at q; exact bs_X11_isTold_50 hX q
    rw [if_neg c] at q
    by_cases c : t = 57
    · subst c; rw [if_pos rfl] at q; exact bs_X11_isTold_57 hX q
    rw [if_neg c] at q
    exact q
-- X11_isTold: cuts [5]
def k_X11_heard_0 : List ZI := [(.iload_n 1, 1, (0, [1], [])), (.invokestatic 269, 3, (0, [210, 1, 0, 11], [])), (.ifCond .eq 20, 3, (0, [24], []))]
theorem ok_X11_heard_0 : zOK cX11_heard 11 false 8 k_X11_heard_0 0 = true := zOK_by (by decide +kernel)
def k_X11_heard_7 : List ZI := [(.iload_n 2, 1, (0, [2], [])), (.invokestatic 216, 3, (0, [125, 1, 0, 11], [])), (.ifCond .eq 13, 3, (0, [24], []))]
theorem ok_X11_heard_7 : zOK cX11_heard 11 false 8 k_X11_heard_7 7 = true := zOK_by (by decide +kernel)
def k_X11_heard_14 : List ZI := [(.iload_n 3, 1, (0, [3], [])), (.i2l, 1, (0, [], [])), (.lconst 0, 1, (0, [], [])), (.lconst 1, 1, (1, [], [])), (.invokestatic 61, 3, (0, [120, 3, 0, 11], [])), (.ifCond .ne 9, 3, (0, [30], []))]
theorem ok_X11_heard_14 : zOK cX11_heard 11 false 8 k_X11_heard_14 14 = true := zOK_by (by decide +kernel)
def k_X11_heard_24 : List ZI := [(.aload_n 0, 1, (0, [0], [])), (.iconst 1, 1, (0, [], [])), (.invokevirtual 139, 3, (0, [119, 2, 0, 11], [])), (.ireturn, 1, (0, [], []))]
theorem ok_X11_heard_24 : zOK cX11_heard 11 false 8 k_X11_heard_24 24 = true := zOK_by (by decide +kernel)
def k_X11_heard_30 : List ZI := [(.aload_n 0, 1, (0, [0], [])), (.getfield 44, 3, (0, [11, 21], [])), (.iload_n 1, 1, (0, [1], [])), (.iaload, 1, (0, [], [])), (.ifCond .ne 9, 3, (0, [45], [])), (.aload_n 0, 1, (0, [0], [])), (.iconst 2, 1, (0, [], [])), (.invokevirtual 139, 3, (0, [119, 2, 0, 11], [])), (.ireturn, 1, (0, [], []))]
theorem ok_X11_heard_30 : zOK cX11_heard 11 false 8 k_X11_heard_30 30 = true := zOK_by (by decide +kernel)
def k_X11_heard_45 : List ZI := [(.aload_n 0, 1, (0, [0], [])), (.invokevirtual 257, 3, (0, [130, 1, 0, 11], [])), (.iconst 0, 1, (0, [], [])), (.istore 4, 2, (0, [4], [])), (.iconst (-1), 1, (0, [], [])), (.istore 5, 2, (0, [5], [])), (.bipush 63, 2, (0, [], [])), (.istore 6, 2, (0, [6], []))]
theorem ok_X11_heard_45 : zOK cX11_heard 11 false 8 k_X11_heard_45 45 = true := zOK_by (by decide +kernel)
def k_X11_heard_59 : List ZI := [(.iload 6, 2, (0, [6], [])), (.ifCond .lt 55, 3, (0, [116], [])), (.aload_n 0, 1, (0, [0], [])), (.iconst 1, 1, (0, [], [])), (.iload_n 2, 1, (0, [2], [])), (.isub, 1, (0, [], [])), (.iload 6, 2, (0, [6], [])), (.invokevirtual 56, 3, (0, [154, 3, 0, 11], [])), (.aload_n 0, 1, (0, [0], [])), (.iload_n 1, 1, (0, [1], [])), (.iload_n 2, 1, (0, [2], [])), (.invokevirtual 272, 3, (0, [191, 3, 0, 11], [])), (.istore 7, 2, (0, [7], []))]
theorem ok_X11_heard_59 : zOK cX11_heard 11 false 8 k_X11_heard_59 59 = true := zOK_by (by decide +kernel)
def k_X11_heard_81 : List ZI := [(.iload 4, 2, (0, [4], [])), (.iload 7, 2, (0, [7], [])), (.ifCond .eq 7, 3, (0, [92], [])), (.iconst 1, 1, (0, [], [])), (.goto 4, 3, (0, [93], []))]
theorem ok_X11_heard_81 : zOK cX11_heard 11 false 8 k_X11_heard_81 81 = true := zOK_by (by decide +kernel)
def k_X11_heard_92 : List ZI := [(.iconst 0, 1, (0, [], []))]
theorem ok_X11_heard_92 : zOK cX11_heard 11 false 8 k_X11_heard_92 92 = true := zOK_by (by decide +kernel)
def k_X11_heard_93 : List ZI := [(.iadd, 1, (0, [], [])), (.istore 4, 2, (0, [4], [])), (.iload 7, 2, (0, [7], [])), (.ifCond .eq 8, 3, (0, [106], [])), (.iload 6, 2, (0, [6], [])), (.goto 5, 3, (0, [108], []))]
theorem ok_X11_heard_93 : zOK cX11_heard 11 false 8 k_X11_heard_93 93 = true := zOK_by (by decide +kernel)
def k_X11_heard_106 : List ZI := [(.iload 5, 2, (0, [5], []))]
theorem ok_X11_heard_106 : zOK cX11_heard 11 false 8 k_X11_heard_106 106 = true := zOK_by (by decide +kernel)
def k_X11_heard_108 : List ZI := [(.istore 5, 2, (0, [5], [])), (.iinc 6 (-1), 3, (0, [6], [])), (.goto (-54), 3, (0, [59], []))]
theorem ok_X11_heard_108 : zOK cX11_heard 11 false 8 k_X11_heard_108 108 = true := zOK_by (by decide +kernel)
def k_X11_heard_116 : List ZI := [(.iload_n 3, 1, (0, [3], [])), (.ifCond .ne 8, 3, (0, [125], [])), (.iload 4, 2, (0, [4], [])), (.goto 18, 3, (0, [140], []))]
theorem ok_X11_heard_116 : zOK cX11_heard 11 false 8 k_X11_heard_116 116 = true := zOK_by (by decide +kernel)
def k_X11_heard_125 : List ZI := [(.iload 5, 2, (0, [5], [])), (.ifCond .ge 11, 3, (0, [138], [])), (.aload_n 0, 1, (0, [0], [])), (.iconst 2, 1, (0, [], [])), (.invokevirtual 139, 3, (0, [119, 2, 0, 11], [])), (.goto 5, 3, (0, [140], []))]
theorem ok_X11_heard_125 : zOK cX11_heard 11 false 8 k_X11_heard_125 125 = true := zOK_by (by decide +kernel)
def k_X11_heard_138 : List ZI := [(.iload 5, 2, (0, [5], []))]
theorem ok_X11_heard_138 : zOK cX11_heard 11 false 8 k_X11_heard_138 138 = true := zOK_by (by decide +kernel)
def k_X11_heard_140 : List ZI := [(.ireturn, 1, (0, [], []))]
theorem ok_X11_heard_140 : zOK cX11_heard 11 false 8 k_X11_heard_140 140 = true := zOK_by (by decide +kernel)
theorem rt_X11_heard {g : Nat} {post : Option ZV → ZH → Prop} {h : ZH} {b : ZB2} {z : Int} : zRt mX11_heard g post (some (.inl z)) h b = (post (some (.inl z)) h ∧ h.1.length = g) := by show (_ ∧ _ ∧ True) = _; simp
def bk_X11_heard_0 (E : ZE) (CT : Nat → ZC) (X : ZK) (Rt : ZR) (ls : ZL) (st : List ZV) (h : ZH) (b : ZB2) : Prop := zB E CT k_X11_heard_0 0 ls st h b (fun t ls st h b => X t ls st h b) Rt
theorem bs_X11_heard_0 {E : ZE} {CT : Nat → ZC} {X : ZK} {Rt : ZR} {ls : ZL} {st : List ZV} {h : ZH} {b : ZB2} (hX : zCl E mX11_heard 11 false CT Rt X) (q : bk_X11_heard_0 E CT X Rt ls st h b) : X 0 ls st h b := by
  refine hX k_X11_heard_0 0 ok_X11_heard_0 _ ?_ ls st h b q
  exact fun t ls st h b q => q
def bk_X11_heard_7 (E : ZE) (CT : Nat → ZC) (X : ZK) (Rt : ZR) (ls : ZL) (st : List ZV) (h : ZH) (b : ZB2) : Prop := zB E CT k_X11_heard_7 7 ls st h b (fun t ls st h b => X t ls st h b) Rt
theorem bs_X11_heard_7 {E : ZE} {CT : Nat → ZC} {X : ZK} {Rt : ZR} {ls : ZL} {st : List ZV} {h : ZH} {b : ZB2} (hX : zCl E mX11_heard 11 false CT Rt X) (q : bk_X11_heard_7 E CT X Rt ls st h b) : X 7 ls st h b := by
  refine hX k_X11_heard_7 7 ok_X11_heard_7 _ ?_ ls st h b q
  exact fun t ls st h b q => q
def bk_X11_heard_14 (E : ZE) (CT : Nat → ZC) (X : ZK) (Rt : ZR) (ls : ZL) (st : List ZV) (h : ZH) (b : ZB2) : Prop := zB E CT k_X11_heard_14 14 ls st h b (fun t ls st h b => X t ls st h b) Rt
theorem bs_X11_heard_14 {E : ZE} {CT : Nat → ZC} {X : ZK} {Rt : ZR} {ls : ZL} {st : List ZV} {h : ZH} {b : ZB2} (hX : zCl E mX11_heard 11 false CT Rt X) (q : bk_X11_heard_14 E CT X Rt ls st h b) : X 14 ls st h b := by
  refine hX k_X11_heard_14 14 ok_X11_heard_14 _ ?_ ls st h b q
  exact fun t ls st h b q => q
def bk_X11_heard_24 (E : ZE) (CT : Nat → ZC) (X : ZK) (Rt : ZR) (ls : ZL) (st : List ZV) (h : ZH) (b : ZB2) : Prop := zB E CT k_X11_heard_24 24 ls st h b (fun t ls st h b => X t ls st h b) Rt
theorem bs_X11_heard_24 {E : ZE} {CT : Nat → ZC} {X : ZK} {Rt : ZR} {ls : ZL} {st : List ZV} {h : ZH} {b : ZB2} (hX : zCl E mX11_heard 11 false CT Rt X) (q : bk_X11_heard_24 E CT X Rt ls st h b) : X 24 ls st h b := by
  refine hX k_X11_heard_24 24 ok_X11_heard_24 _ ?_ ls st h b q
  exact fun t ls st h b q => q
def bk_X11_heard_45 (E : ZE) (CT : Nat → ZC) (X : ZK) (Rt : ZR) (ls : ZL) (st : List ZV) (h : ZH) (b : ZB2) : Prop := zB E CT k_X11_heard_45 45 ls st h b (fun t ls st h b => X t ls st h b) Rt
theorem bs_X11_heard_45 {E : ZE} {CT : Nat → ZC} {X : ZK} {Rt : ZR} {ls : ZL} {st : List ZV} {h : ZH} {b : ZB2} (hX : zCl E mX11_heard 11 false CT Rt X) (q : bk_X11_heard_45 E CT X Rt ls st h b) : X 45 ls st h b := by
  refine hX k_X11_heard_45 45 ok_X11_heard_45 _ ?_ ls st h b q
  exact fun t ls st h b q => q
def bk_X11_heard_30 (E : ZE) (CT : Nat → ZC) (X : ZK) (Rt : ZR) (ls : ZL) (st : List ZV) (h : ZH) (b : ZB2) : Prop := zB E CT k_X11_heard_30 30 ls st h b (fun t ls st h b => if t = 45 then bk_X11_heard_45 E CT X Rt ls st h b else X t ls st h b) Rt
theorem bs_X11_heard_30 {E : ZE} {CT : Nat → ZC} {X : ZK} {Rt : ZR} {ls : ZL} {st : List ZV} {h : ZH} {b : ZB2} (hX : zCl E mX11_heard 11 false CT Rt X) (q : bk_X11_heard_30 E CT X Rt ls st h b) : X 30 ls st h b := by
  refine hX k_X11_heard_30 30 ok_X11_heard_30 _ ?_ ls st h b q
  exact by
    intro t ls st h b q
    by_cases c : t = 45
    · subst c; rw [if_pos rfl] at q; exact bs_X11_heard_45 hX q
    rw [if_neg c] at q
    exact q
def bk_X11_heard_59 (E : ZE) (CT : Nat → ZC) (X : ZK) (Rt : ZR) (ls : ZL) (st : List ZV) (h : ZH) (b : ZB2) : Prop := zB E CT k_X11_heard_59 59 ls st h b (fun t ls st h b => X t ls st h b) Rt
theorem bs_X11_heard_59 {E : ZE} {CT : Nat → ZC} {X : ZK} {Rt : ZR} {ls : ZL} {st : List ZV} {h : ZH} {b : ZB2} (hX : zCl E mX11_heard 11 false CT Rt X) (q : bk_X11_heard_59 E CT X Rt ls st h b) : X 59 ls st h b := by
  refine hX k_X11_heard_59 59 ok_X11_heard_59 _ ?_ ls st h b q
  exact fun t ls st h b q => q
def bk_X11_heard_108 (E : ZE) (CT : Nat → ZC) (X : ZK) (Rt : ZR) (ls : ZL) (st : List ZV) (h : ZH) (b : ZB2) : Prop := zB E CT k_X11_heard_108 108 ls st h b (fun t ls st h b => X t ls st h b) Rt
theorem bs_X11_heard_108 {E : ZE} {CT : Nat → ZC} {X : ZK} {Rt : ZR} {ls : ZL} {st : List ZV} {h : ZH} {b : ZB2} (hX : zCl E mX11_heard 11 false CT Rt X) (q : bk_X11_heard_108 E CT X Rt ls st h b) : X 108 ls st h b := by
  refine hX k_X11_heard_108 108 ok_X11_heard_108 _ ?_ ls st h b q
  exact fun t ls st h b q => q
def bk_X11_heard_106 (E : ZE) (CT : Nat → ZC) (X : ZK) (Rt : ZR) (ls : ZL) (st : List ZV) (h : ZH) (b : ZB2) : Prop := zB E CT k_X11_heard_106 106 ls st h b (fun t ls st h b => if t = 108 then bk_X11_heard_108 E CT X Rt ls st h b else X t ls st h b) Rt
theorem bs_X11_heard_106 {E : ZE} {CT : Nat → ZC} {X : ZK} {Rt : ZR} {ls : ZL} {st : List ZV} {h : ZH} {b : ZB2} (hX : zCl E mX11_heard 11 false CT Rt X) (q : bk_X11_heard_106 E CT X Rt ls st h b) : X 106 ls st h b := by
  refine hX k_X11_heard_106 106 ok_X11_heard_106 _ ?_ ls st h b q
  exact by
    intro t ls st h b q
    by_cases c : t = 108
    · subst c; rw [if_pos rfl] at q; exact bs_X11_heard_108 hX q
    rw [if_neg c] at q
    exact q
def bk_X11_heard_93 (E : ZE) (CT : Nat → ZC) (X : ZK) (Rt : ZR) (ls : ZL) (st : List ZV) (h : ZH) (b : ZB2) : Prop := zB E CT k_X11_heard_93 93 ls st h b (fun t ls st h b => if t = 106 then bk_X11_heard_106 E CT X Rt ls st h b else if t = 108 then bk_X11_heard_108 E CT X Rt ls st h b else X t ls st h b) Rt
theorem bs_X11_heard_93 {E : ZE} {CT : Nat → ZC} {X : ZK} {Rt : ZR} {ls : ZL} {st : List ZV} {h : ZH} {b : ZB2} (hX : zCl E mX11_heard 11 false CT Rt X) (q : bk_X11_heard_93 E CT X Rt ls st h b) : X 93 ls st h b := by
  refine hX k_X11_heard_93 93 ok_X11_heard_93 _ ?_ ls st h b q
  exact by
    intro t ls st h b q
    by_cases c : t = 106
    · subst c; rw [if_pos rfl] at q; exact bs_X11_heard_106 hX q
    rw [if_neg c] at q
    by_cases c : t = 108
    · subst c; rw [if_pos rfl] at q; exact bs_X11_heard_108 hX q
    rw [if_neg c] at q
    exact q
def bk_X11_heard_92 (E : ZE) (CT : Nat → ZC) (X : ZK) (Rt : ZR) (ls : ZL) (st : List ZV) (h : ZH) (b : ZB2) : Prop := zB E CT k_X11_heard_92 92 ls st h b (fun t ls st h b => if t = 93 then bk_X11_heard_93 E CT X Rt ls st h b else X t ls st h b) Rt
theorem bs_X11_heard_92 {E : ZE} {CT : Nat → ZC} {X : ZK} {Rt : ZR} {ls : ZL} {st : List ZV} {h : ZH} {b : ZB2} (hX : zCl E mX11_heard 11 false CT Rt X) (q : bk_X11_heard_92 E CT X Rt ls st h b) : X 92 ls st h b := by
  refine hX k_X11_heard_92 92 ok_X11_heard_92 _ ?_ ls st h b q
  exact by
    intro t ls st h b q
    by_cases c : t = 93
    · subst c; rw [if_pos rfl] at q; exact bs_X11_heard_93 hX q
    rw [if_neg c] at q
    exact q
def bk_X11_heard_81 (E : ZE) (CT : Nat → ZC) (X : ZK) (Rt : ZR) (ls : ZL) (st : List ZV) (h : ZH) (b : ZB2) : Prop := zB E CT k_X11_heard_81 81 ls st h b (fun t ls st h b => if t = 92 then bk_X11_heard_92 E CT X Rt ls st h b else if t = 93 then bk_X11_heard_93 E CT X Rt ls st h b else X t ls st h b) Rt
theorem bs_X11_heard_81 {E : ZE} {CT : Nat → ZC} {X : ZK} {Rt : ZR} {ls : ZL} {st : List ZV} {h : ZH} {b : ZB2} (hX : zCl E mX11_heard 11 false CT Rt X) (q : bk_X11_heard_81 E CT X Rt ls st h b) : X 81 ls st h b := by
  refine hX k_X11_heard_81 81 ok_X11_heard_81 _ ?_ ls st h b q
  exact by
    intro t ls st h b q
    by_cases c : t = 92
    · subst c; rw [if_pos rfl] at q; exact bs_X11_heard_92 hX q
    rw [if_neg c] at q
    by_cases c : t = 93
    · subst c; rw [if_pos rfl] at q; exact bs_X11_heard_93 hX q
    rw [if_neg c] at q
    exact q
def bk_X11_heard_140 (E : ZE) (CT : Nat → ZC) (X : ZK) (Rt : ZR) (ls : ZL) (st : List ZV) (h : ZH) (b : ZB2) : Prop := zB E CT k_X11_heard_140 140 ls st h b (fun t ls st h b => X t ls st h b) Rt
theorem bs_X11_heard_140 {E : ZE} {CT : Nat → ZC} {X : ZK} {Rt : ZR} {ls : ZL} {st : List ZV} {h : ZH} {b : ZB2} (hX : zCl E mX11_heard 11 false CT Rt X) (q : bk_X11_heard_140 E CT X Rt ls st h b) : X 140 ls st h b := by
  refine hX k_X11_heard_140 140 ok_X11_heard_140 _ ?_ ls st h b q
  exact fun t ls st h b q => q
def bk_X11_heard_138 (E : ZE) (CT : Nat → ZC) (X : ZK) (Rt : ZR) (ls : ZL) (st : List ZV) (h : ZH) (b : ZB2) : Prop := zB E CT k_X11_heard_138 138 ls st h b (fun t ls st h b => if t = 140 then bk_X11_heard_140 E CT X Rt ls st h b else X t ls st h b) Rt
theorem bs_X11_heard_138 {E : ZE} {CT : Nat → ZC} {X : ZK} {Rt : ZR} {ls : ZL} {st : List ZV} {h : ZH} {b : ZB2} (hX : zCl E mX11_heard 11 false CT Rt X) (q : bk_X11_heard_138 E CT X Rt ls st h b) : X 138 ls st h b := by
  refine hX k_X11_heard_138 138 ok_X11_heard_138 _ ?_ ls st h b q
  exact by
    intro t ls st h b q
    by_cases c : t = 140
    · subst c; rw [if_pos rfl] at q; exact bs_X11_heard_140 hX q
    rw [if_neg c] at q
    exact q
def bk_X11_heard_125 (E : ZE) (CT : Nat → ZC) (X : ZK) (Rt : ZR) (ls : ZL) (st : List ZV) (h : ZH) (b : ZB2) : Prop := zB E CT k_X11_heard_125 125 ls st h b (fun t ls st h b => if t = 138 then bk_X11_heard_138 E CT X Rt ls st h b else if t = 140 then bk_X11_heard_140 E CT X Rt ls st h b else X t ls st h b) Rt
theorem bs_X11_heard_125 {E : ZE} {CT : Nat → ZC} {X : ZK} {Rt : ZR} {ls : ZL} {st : List ZV} {h : ZH} {b : ZB2} (hX : zCl E mX11_heard 11 false CT Rt X) (q : bk_X11_heard_125 E CT X Rt ls st h b) : X 125 ls st h b := by
  refine hX k_X11_heard_125 125 ok_X11_heard_125 _ ?_ ls st h b q
  exact by
    intro t ls st h b q
    by_cases c : t = 138
    · subst c; rw [if_pos rfl] at q; exact bs_X11_heard_138 hX q
    rw [if_neg c] at q
    by_cases c : t = 140
    · subst c; rw [if_pos rfl] at q; exact bs_X11_heard_140 hX q
    rw [if_neg c] at q
    exact q
def bk_X11_heard_116 (E : ZE) (CT : Nat → ZC) (X : ZK) (Rt : ZR) (ls : ZL) (st : List ZV) (h : ZH) (b : ZB2) : Prop := zB E CT k_X11_heard_116 116 ls st h b (fun t ls st h b => if t = 125 then bk_X11_heard_125 E CT X Rt ls st h b else if t = 140 then bk_X11_heard_140 E CT X Rt ls st h b else X t ls st h b) Rt
theorem bs_X11_heard_116 {E : ZE} {CT : Nat → ZC} {X : ZK} {Rt : ZR} {ls : ZL} {st : List ZV} {h : ZH} {b : ZB2} (hX : zCl E mX11_heard 11 false CT Rt X) (q : bk_X11_heard_116 E CT X Rt ls st h b) : X 116 ls st h b := by
  refine hX k_X11_heard_116 116 ok_X11_heard_116 _ ?_ ls st h b q
  exact by
    intro t ls st h b q
    by_cases c : t = 125
    · subst c; rw [if_pos rfl] at q; exact bs_X11_heard_125 hX q
    rw [if_neg c] at q
    by_cases c : t = 140
    · subst c; rw [if_pos rfl] at q; exact bs_X11_heard_140 hX q
    rw [if_neg c] at q
    exact q
-- X11_heard: cuts [7, 14, 24, 30, 59, 81, 116]
def k_X11_which_0 : List ZI := [(.iload_n 1, 1, (0, [1], [])), (.invokestatic 269, 3, (0, [210, 1, 0, 11], [])), (.ifCond .eq 11, 3, (0, [15], []))]
theorem ok_X11_which_0 : zOK cX11_which 11 false 5 k_X11_which_0 0 = true := zOK_by (by decide +kernel)
def k_X11_which_7 : List ZI := [(.aload_n 0, 1, (0, [0], [])), (.iload_n 2, 1, (0, [2], [])), (.invokevirtual 230, 3, (0, [123, 2, 0, 11], [])), (.ifCond .ne 9, 3, (0, [21], []))]
theorem ok_X11_which_7 : zOK cX11_which 11 false 5 k_X11_which_7 7 = true := zOK_by (by decide +kernel)
def k_X11_which_15 : List ZI := [(.aload_n 0, 1, (0, [0], [])), (.iconst 1, 1, (0, [], [])), (.invokevirtual 139, 3, (0, [119, 2, 0, 11], [])), (.ireturn, 1, (0, [], []))]
theorem ok_X11_which_15 : zOK cX11_which 11 false 5 k_X11_which_15 15 = true := zOK_by (by decide +kernel)
def k_X11_which_21 : List ZI := [(.aload_n 0, 1, (0, [0], [])), (.getfield 44, 3, (0, [11, 21], [])), (.iload_n 1, 1, (0, [1], [])), (.iaload, 1, (0, [], [])), (.ifCond .ne 9, 3, (0, [36], [])), (.aload_n 0, 1, (0, [0], [])), (.iconst 2, 1, (0, [], [])), (.invokevirtual 139, 3, (0, [119, 2, 0, 11], [])), (.ireturn, 1, (0, [], []))]
theorem ok_X11_which_21 : zOK cX11_which 11 false 5 k_X11_which_21 21 = true := zOK_by (by decide +kernel)
def k_X11_which_36 : List ZI := [(.aload_n 0, 1, (0, [0], [])), (.invokevirtual 257, 3, (0, [130, 1, 0, 11], [])), (.iconst 0, 1, (0, [], [])), (.istore_n 3, 1, (0, [3], [])), (.iconst 0, 1, (0, [], [])), (.istore 4, 2, (0, [4], []))]
theorem ok_X11_which_36 : zOK cX11_which 11 false 5 k_X11_which_36 36 = true := zOK_by (by decide +kernel)
def k_X11_which_45 : List ZI := [(.iload 4, 2, (0, [4], [])), (.bipush 6, 2, (0, [], [])), (.if_icmp .gt 48, 3, (0, [97], [])), (.aload_n 0, 1, (0, [0], [])), (.getfield 7, 3, (0, [11, 0], [])), (.sipush 162, 3, (0, [], [])), (.iconst 3, 1, (0, [], [])), (.iload_n 2, 1, (0, [2], [])), (.imul, 1, (0, [], [])), (.iadd, 1, (0, [], [])), (.iload 4, 2, (0, [4], [])), (.iastore, 1, (0, [], [])), (.iload_n 3, 1, (0, [3], [])), (.aload_n 0, 1, (0, [0], [])), (.iload_n 1, 1, (0, [1], [])), (.aload_n 0, 1, (0, [0], [])), (.iload_n 2, 1, (0, [2], [])), (.iconst 2, 1, (0, [], [])), (.invokevirtual 167, 3, (0, [126, 3, 0, 11], [])), (.invokevirtual 272, 3, (0, [191, 3, 0, 11], []))]
theorem ok_X11_which_45 : zOK cX11_which 11 false 5 k_X11_which_45 45 = true := zOK_by (by decide +kernel)
def k_X11_which_78 : List ZI := [(.ifCond .eq 10, 3, (0, [88], [])), (.iconst 1, 1, (0, [], [])), (.iload 4, 2, (0, [4], [])), (.ishl, 1, (0, [], [])), (.goto 4, 3, (0, [89], []))]
theorem ok_X11_which_78 : zOK cX11_which 11 false 5 k_X11_which_78 78 = true := zOK_by (by decide +kernel)
def k_X11_which_88 : List ZI := [(.iconst 0, 1, (0, [], []))]
theorem ok_X11_which_88 : zOK cX11_which 11 false 5 k_X11_which_88 88 = true := zOK_by (by decide +kernel)
def k_X11_which_89 : List ZI := [(.ior, 1, (0, [], [])), (.istore_n 3, 1, (0, [3], [])), (.iinc 4 1, 3, (0, [4], [])), (.goto (-49), 3, (0, [45], []))]
theorem ok_X11_which_89 : zOK cX11_which 11 false 5 k_X11_which_89 89 = true := zOK_by (by decide +kernel)
def k_X11_which_97 : List ZI := [(.iload_n 3, 1, (0, [3], [])), (.ireturn, 1, (0, [], []))]
theorem ok_X11_which_97 : zOK cX11_which 11 false 5 k_X11_which_97 97 = true := zOK_by (by decide +kernel)
theorem rt_X11_which {g : Nat} {post : Option ZV → ZH → Prop} {h : ZH} {b : ZB2} {z : Int} : zRt mX11_which g post (some (.inl z)) h b = (post (some (.inl z)) h ∧ h.1.length = g) := by show (_ ∧ _ ∧ True) = _; simp
def bk_X11_which_0 (E : ZE) (CT : Nat → ZC) (X : ZK) (Rt : ZR) (ls : ZL) (st : List ZV) (h : ZH) (b : ZB2) : Prop := zB E CT k_X11_which_0 0 ls st h b (fun t ls st h b => X t ls st h b) Rt
theorem bs_X11_which_0 {E : ZE} {CT : Nat → ZC} {X : ZK} {Rt : ZR} {ls : ZL} {st : List ZV} {h : ZH} {b : ZB2} (hX : zCl E mX11_which 11 false CT Rt X) (q : bk_X11_which_0 E CT X Rt ls st h b) : X 0 ls st h b := by
  refine hX k_X11_which_0 0 ok_X11_which_0 _ ?_ ls st h b q
  exact fun t ls st h b q => q
def bk_X11_which_7 (E : ZE) (CT : Nat → ZC) (X : ZK) (Rt : ZR) (ls : ZL) (st : List ZV) (h : ZH) (b : ZB2) : Prop := zB E CT k_X11_which_7 7 ls st h b (fun t ls st h b => X t ls st h b) Rt
theorem bs_X11_which_7 {E : ZE} {CT : Nat → ZC} {X : ZK} {Rt : ZR} {ls : ZL} {st : List ZV} {h : ZH} {b : ZB2} (hX : zCl E mX11_which 11 false CT Rt X) (q : bk_X11_which_7 E CT X Rt ls st h b) : X 7 ls st h b := by
  refine hX k_X11_which_7 7 ok_X11_which_7 _ ?_ ls st h b q
  exact fun t ls st h b q => q
def bk_X11_which_15 (E : ZE) (CT : Nat → ZC) (X : ZK) (Rt : ZR) (ls : ZL) (st : List ZV) (h : ZH) (b : ZB2) : Prop := zB E CT k_X11_which_15 15 ls st h b (fun t ls st h b => X t ls st h b) Rt
theorem bs_X11_which_15 {E : ZE} {CT : Nat → ZC} {X : ZK} {Rt : ZR} {ls : ZL} {st : List ZV} {h : ZH} {b : ZB2} (hX : zCl E mX11_which 11 false CT Rt X) (q : bk_X11_which_15 E CT X Rt ls st h b) : X 15 ls st h b := by
  refine hX k_X11_which_15 15 ok_X11_which_15 _ ?_ ls st h b q
  exact fun t ls st h b q => q
def bk_X11_which_36 (E : ZE) (CT : Nat → ZC) (X : ZK) (Rt : ZR) (ls : ZL) (st : List ZV) (h : ZH) (b : ZB2) : Prop := zB E CT k_X11_which_36 36 ls st h b (fun t ls st h b => X t ls st h b) Rt
theorem bs_X11_which_36 {E : ZE} {CT : Nat → ZC} {X : ZK} {Rt : ZR} {ls : ZL} {st : List ZV} {h : ZH} {b : ZB2} (hX : zCl E mX11_which 11 false CT Rt X) (q : bk_X11_which_36 E CT X Rt ls st h b) : X 36 ls st h b := by
  refine hX k_X11_which_36 36 ok_X11_which_36 _ ?_ ls st h b q
  exact fun t ls st h b q => q
def bk_X11_which_21 (E : ZE) (CT : Nat → ZC) (X : ZK) (Rt : ZR) (ls : ZL) (st : List ZV) (h : ZH) (b : ZB2) : Prop := zB E CT k_X11_which_21 21 ls st h b (fun t ls st h b => if t = 36 then bk_X11_which_36 E CT X Rt ls st h b else X t ls st h b) Rt
theorem bs_X11_which_21 {E : ZE} {CT : Nat → ZC} {X : ZK} {Rt : ZR} {ls : ZL} {st : List ZV} {h : ZH} {b : ZB2} (hX : zCl E mX11_which 11 false CT Rt X) (q : bk_X11_which_21 E CT X Rt ls st h b) : X 21 ls st h b := by
  refine hX k_X11_which_21 21 ok_X11_which_21 _ ?_ ls st h b q
  exact by
    intro t ls st h b q
    by_cases c : t = 36
    · subst c; rw [if_pos rfl] at q; exact bs_X11_which_36 hX q
    rw [if_neg c] at q
    exact q
def bk_X11_which_97 (E : ZE) (CT : Nat → ZC) (X : ZK) (Rt : ZR) (ls : ZL) (st : List ZV) (h : ZH) (b : ZB2) : Prop := zB E CT k_X11_which_97 97 ls st h b (fun t ls st h b => X t ls st h b) Rt
theorem bs_X11_which_97 {E : ZE} {CT : Nat → ZC} {X : ZK} {Rt : ZR} {ls : ZL} {st : List ZV} {h : ZH} {b : ZB2} (hX : zCl E mX11_which 11 false CT Rt X) (q : bk_X11_which_97 E CT X Rt ls st h b) : X 97 ls st h b := by
  refine hX k_X11_which_97 97 ok_X11_which_97 _ ?_ ls st h b q
  exact fun t ls st h b q => q
def bk_X11_which_45 (E : ZE) (CT : Nat → ZC) (X : ZK) (Rt : ZR) (ls : ZL) (st : List ZV) (h : ZH) (b : ZB2) : Prop := zB E CT k_X11_which_45 45 ls st h b (fun t ls st h b => if t = 97 then bk_X11_which_97 E CT X Rt ls st h b else X t ls st h b) Rt
theorem bs_X11_which_45 {E : ZE} {CT : Nat → ZC} {X : ZK} {Rt : ZR} {ls : ZL} {st : List ZV} {h : ZH} {b : ZB2} (hX : zCl E mX11_which 11 false CT Rt X) (q : bk_X11_which_45 E CT X Rt ls st h b) : X 45 ls st h b := by
  refine hX k_X11_which_45 45 ok_X11_which_45 _ ?_ ls st h b q
  exact by
    intro t ls st h b q
    by_cases c : t = 97
    · subst c; rw [if_pos rfl] at q; exact bs_X11_which_97 hX q
    rw [if_neg c] at q
    exact q
def bk_X11_which_89 (E : ZE) (CT : Nat → ZC) (X : ZK) (Rt : ZR) (ls : ZL) (st : List ZV) (h : ZH) (b : ZB2) : Prop := zB E CT k_X11_which_89 89 ls st h b (fun t ls st h b => X t ls st h b) Rt
theorem bs_X11_which_89 {E : ZE} {CT : Nat → ZC} {X : ZK} {Rt : ZR} {ls : ZL} {st : List ZV} {h : ZH} {b : ZB2} (hX : zCl E mX11_which 11 false CT Rt X) (q : bk_X11_which_89 E CT X Rt ls st h b) : X 89 ls st h b := by
  refine hX k_X11_which_89 89 ok_X11_which_89 _ ?_ ls st h b q
  exact fun t ls st h b q => q
def bk_X11_which_88 (E : ZE) (CT : Nat → ZC) (X : ZK) (Rt : ZR) (ls : ZL) (st : List ZV) (h : ZH) (b : ZB2) : Prop := zB E CT k_X11_which_88 88 ls st h b (fun t ls st h b => if t = 89 then bk_X11_which_89 E CT X Rt ls st h b else X t ls st h b) Rt
theorem bs_X11_which_88 {E : ZE} {CT : Nat → ZC} {X : ZK} {Rt : ZR} {ls : ZL} {st : List ZV} {h : ZH} {b : ZB2} (hX : zCl E mX11_which 11 false CT Rt X) (q : bk_X11_which_88 E CT X Rt ls st h b) : X 88 ls st h b := by
  refine hX k_X11_which_88 88 ok_X11_which_88 _ ?_ ls st h b q
  exact by
    intro t ls st h b q
    by_cases c : t = 89
    · subst c; rw [if_pos rfl] at q; exact bs_X11_which_89 hX q
    rw [if_neg c] at q
    exact q
def bk_X11_which_78 (E : ZE) (CT : Nat → ZC) (X : ZK) (Rt : ZR) (ls : ZL) (st : List ZV) (h : ZH) (b : ZB2) : Prop := zB E CT k_X11_which_78 78 ls st h b (fun t ls st h b => if t = 88 then bk_X11_which_88 E CT X Rt ls st h b else if t = 89 then bk_X11_which_89 E CT X Rt ls st h b else X t ls st h b) Rt
theorem bs_X11_which_78 {E : ZE} {CT : Nat → ZC} {X : ZK} {Rt : ZR} {ls : ZL} {st : List ZV} {h : ZH} {b : ZB2} (hX : zCl E mX11_which 11 false CT Rt X) (q : bk_X11_which_78 E CT X Rt ls st h b) : X 78 ls st h b := by
  refine hX k_X11_which_78 78 ok_X11_which_78 _ ?_ ls st h b q
  exact by
    intro t ls st h b q
    by_cases c : t = 88
    · subst c; rw [if_pos rfl] at q; exact bs_X11_which_88 hX q
    rw [if_neg c] at q
    by_cases c : t = 89
    · subst c; rw [if_pos rfl] at q; exact bs_X11_which_89 hX q
    rw [if_neg c] at q
    exact q
-- X11_which: cuts [7, 15, 21, 45, 78]
/-- whether a head is year by year where a row tells -/
def tlb (d f : Nat → Int) (g : Int) : Nat → Bool
  | 0 => true
  | k + 1 => tlb d f g k && decide (f k = hi4 (yrs d (-1) (k + 1)) g 0)
theorem tlb_no {d f : Nat → Int} {g : Int} {k : Nat} (h : ¬ tlb d f g k = true) : ∀ j : Nat, ¬ tlb d f g (k + j) = true
  | 0 => h
  | j + 1 => by
    have := tlb_no h j
    show ¬ (tlb d f g (k + j) && _) = true
    simp [this]
theorem ub_past {k : Nat} (h1 : 142 ≤ k) (h2 : k < 162) : ub k = 63 := by
  unfold ub
  rw [if_neg (by omega), if_neg (by omega), if_neg (by omega), if_neg (by omega), if_neg (by omega), if_neg (by omega), if_neg (by omega), if_neg (by omega), if_pos (by omega)]
theorem ub_dug {k : Nat} (h1 : 70 ≤ k) (h2 : k < 134) : ub k = 1 := by
  unfold ub
  rw [if_neg (by omega), if_neg (by omega), if_neg (by omega), if_neg (by omega), if_neg (by omega), if_neg (by omega), if_pos (by omega)]
theorem ub_rock {k : Nat} (h1 : 6 ≤ k) (h2 : k < 70) : ub k = 9 := by
  unfold ub
  rw [if_neg (by omega), if_neg (by omega), if_neg (by omega), if_neg (by omega), if_neg (by omega), if_pos (by omega)]
theorem Vd_ptd {d : Nat → Int} (h : Vd d) {g c : Int} (g0 : 0 ≤ g) (g1 : g < 2) (c0 : 0 ≤ c) (c1 : c ≤ 63) : Vd (ptd d g c) := by
  have hh : ub (134 + 4 * g).toNat = 63 := by
    have := ub_hi (g := g.toNat) (w := 0) (by omega) (by omega)
    rw [show (134 + 4 * g).toNat = 134 + 4 * g.toNat + 0 by omega, this]; rfl
  have hd : ub (70 + c).toNat = 1 := ub_dug (by omega) (by omega)
  have v2 : Vd (up1 (up1 d (134 + 4 * g).toNat c) (70 + c).toNat 1) := Vd_up (Vd_up h (by omega) (Or.inr ⟨by omega, by omega⟩)) (by omega) (Or.inr ⟨by omega, by omega⟩)
  have lo : ∀ k : Nat, ¬ (142 + 10 * g ≤ k ∧ k < 152 + 10 * g) → ptd d g c k = up1 (up1 d (134 + 4 * g).toNat c) (70 + c).toNat 1 k := fun k q => by unfold ptd; rw [if_neg q]
  refine Vd_of (fun k a b => ?_) (Vt_eq (Or.inl rfl) v2.2.2.2.2.2.2.2.2.2.2.1 (fun j q => lo j (by omega))) (Vt_eq (Or.inr rfl) v2.2.2.2.2.2.2.2.2.2.2.2 (fun j q => lo j (by omega)))
  by_cases q : 142 + 10 * g ≤ (k : Int) ∧ (k : Int) < 152 + 10 * g
  · unfold ptd
    rw [if_pos q, ub_past (by omega) (by omega)]
    omega
  · rw [lo k q]
    exact Vd_b v2 a b
theorem ptd_1 {d : Nat → Int} {g c : Int} (g0 : 0 ≤ g) (c0 : 0 ≤ c) : ptd d g c 1 = d 1 := by
  unfold ptd
  rw [if_neg (by omega), up1_ne (by omega), up1_ne (by omega)]
theorem ptd_hi {d : Nat → Int} {g c : Int} (g0 : 0 ≤ g) (g1 : g < 2) (c0 : 0 ≤ c) (c1 : c ≤ 63) {k : Nat} (hk : ¬ k < 186) : ptd d g c k = d k := by
  unfold ptd
  rw [if_neg (by omega), up1_ne (by omega), up1_ne (by omega)]
def B_isTold (s : Int) (g : Int) (M : Nat → Nat → Int) (post : Option ZV → (Nat → Nat → Int) → Prop) : Prop := 0 ≤ s ∧ s ≤ 3 ∧ 0 ≤ g ∧ g ≤ 1 ∧ M 87 15 = -1 ∧ Vd (M 88) ∧ M 88 1 ≤ 10000 ∧ (0 ≤ M 99 s.toNat ∧ M 99 s.toNat ≤ 40) ∧ (∀ k, rg (M 100 k)) ∧ ∀ M' : ZMm, M' 88 = (fun k => if k < 186 then M 90 k else M 88 k) → (∀ x, ¬ x = 88 → ¬ x = 92 → ¬ x = 94 → M' x = M x) → post (some (.inl (zbo (tlb (M 88) (fun k => M 100 ((40 * s).toNat + k)) g (M 99 s.toNat).toNat = true)))) M'
def C_isTold : ZC := fun as h post => match as with
  | [.inr (.inr (.inl 87)), .inl s, .inl g] => h.1 = zG ∧ B_isTold s g h.2 (fun v M => post v (zG, M))
  | _ => False
theorem r_isTold {s : Int} {g : Int} {M : Nat → Nat → Int} {post : Option ZV → ZH → Prop} : C_isTold [.inr (.inr (.inl 87)), .inl s, .inl g] (zG, M) post = B_isTold s g M (fun v M => post v (zG, M)) := by show (zG = zG ∧ _) = _; simp
def ct_isTold : Nat → ZC := fun n => if n = 163 then C_yearGoes else if n = 127 then C_its else if n = 131 then C_putBack else fun _ _ _ => False
theorem ct_isTold_yearGoes {as : List ZV} {h : ZH} {post : Option ZV → ZH → Prop} : ct_isTold 163 as h post = C_yearGoes as h post := rfl
theorem ct_isTold_its {as : List ZV} {h : ZH} {post : Option ZV → ZH → Prop} : ct_isTold 127 as h post = C_its as h post := rfl
theorem ct_isTold_putBack {as : List ZV} {h : ZH} {post : Option ZV → ZH → Prop} : ct_isTold 131 as h post = C_putBack as h post := rfl
theorem c_isTold {E : ZE} {d : Nat} (hd : 8 ≤ d) : zMet E d mX11_isTold C_isTold := by
  refine zmet_of (o := 11) (ini := false) (CT := ct_isTold) gd_X11_isTold rfl (fun h => by cases h) (by omega) ?_ ?_
  · intro n as h post hh
    unfold ct_isTold at hh
    by_cases c : n = 163
    · subst c; exact ⟨gd_X11_yearGoes, 7, by omega, c_yearGoes (by omega)⟩
    rw [if_neg c] at hh
    by_cases c : n = 127
    · subst c; exact ⟨gd_X11_its, 1, by omega, c_its (by omega)⟩
    rw [if_neg c] at hh
    by_cases c : n = 131
    · subst c; exact ⟨gd_X11_putBack, 1, by omega, c_putBack (by omega)⟩
    rw [if_neg c] at hh
    exact hh.elim
  intro as h post hC
  match as, hC with
  | [.inr (.inr (.inl 87)), .inl s, .inl g], hC =>
    refine ⟨Nat.le_of_ble_eq_true rfl, fun X hX => bs_X11_isTold_0 hX ?_⟩
    obtain ⟨G, M⟩ := h
    obtain ⟨hG, hC⟩ := hC
    dsimp only at hG
    subst hG
    simp only [B_isTold] at hC
    show bk_X11_isTold_0 E ct_isTold X _ [some (.inr (.inr (.inl 87))), some (.inl s), some (.inl g), none, none] [] (zG, M) (0, 0)
    obtain ⟨h1, h2, h3, h4, m15, vd, y1, ⟨n1, n2⟩, hr, hC⟩ := hC
    have v1 := vd.2.1
    have rm : rg (-1) := ⟨by omega, by omega⟩
    obtain ⟨F, hF⟩ : ∃ F : Nat → Int, (fun k => M 100 ((40 * s).toNat + k)) = F := ⟨_, rfl⟩
    obtain ⟨n, hn⟩ : ∃ n : Nat, M 99 s.toNat = n := ⟨(M 99 s.toNat).toNat, by omega⟩
    have hnn : (M 99 s.toNat).toNat = n := by omega
    rw [hF, hnn] at hC
    have zs : zr s = s := zr_of (by omega) (by omega)
    have zn : zr (n : Int) = n := zr_of (by omega) (by omega)
    have ex : ∀ (k : Nat) (M' : ZMm) (t : Int), k ≤ n → t = zbo (tlb (M 88) F g n = true) → M' 88 = yrs (M 88) (-1) k → (∀ x, ¬ x = 88 → ¬ x = 92 → ¬ x = 94 → M' x = M x) → ∀ M2 : ZMm, (M2 88 = fun i => if i < 186 then M' 90 i else M' 88 i) → (∀ x, ¬ x = 88 → M2 x = M' x) → post (some (.inl t)) (zG, M2) := by
      intro k M' t hk ht hd hM M2 h2 hM2
      subst ht
      refine hC M2 ?_ (fun x q1 q2 q3 => (hM2 x q1).trans (hM x q1 q2 q3))
      rw [h2, hd]
      funext i
      by_cases q : i < 186
      · rw [if_pos q, if_pos q, hM 90 (by decide) (by decide) (by decide)]
      · rw [if_neg q, if_neg q, yrs_hi vd (-1) (by omega) k (by omega)]
    have lp : ∀ (j k : Nat) (M' : ZMm), j + k = n → M' 88 = yrs (M 88) (-1) k → (∀ x, ¬ x = 88 → ¬ x = 92 → ¬ x = 94 → M' x = M x) → X 5 [some (.inr (.inr (.inl 87))), some (.inl s), some (.inl g), some (.inl (zbo (tlb (M 88) F g k = true))), some (.inl (k : Int))] [] (zG, M') (0, 0) := by
      intro j
      induction j with
      | zero =>
        intro k M' hk hd hM
        refine bs_X11_isTold_5 hX ?_
        have zk : zr (k : Int) = k := zr_of (by omega) (by omega)
        have lk : ((k : Int) < n) = False := eq_false (by omega)
        have e99 : M' 99 s.toNat = n := (congrFun (hM 99 (by decide) (by decide) (by decide)) _).trans hn
        simp only [bk_X11_isTold_0, k_X11_isTold_0, bk_X11_isTold_5, k_X11_isTold_5, bk_X11_isTold_49, k_X11_isTold_49, bk_X11_isTold_50, k_X11_isTold_50, bk_X11_isTold_57, k_X11_isTold_57, ↓e_rk1, ↓e_rk0, ↓e_sk0, ↓e_sks, ↓e_ldi0, ↓e_ldis, ↓e_ldl0, ↓e_ldls, ↓e_lda0, ↓e_ldas, ↓e_ok0, ↓e_okss, ↓e_ok1i, ↓e_ok1r, ↓e_ok1n, ↓e_sti, ↓e_sta, ↓e_1, ↓e_2, ↓e_l1, ↓e_l2, ↓e_li, ↓e_sw0, ↓e_sws, ↓e_ceq, ↓e_cne, ↓e_clt, ↓e_cge, ↓e_cgt, ↓e_cle, ↓e_nil, ↓e_cons, ↓e_iconst, ↓e_bipush, ↓e_sipush, ↓e_ldc, ↓e_ldcw, ↓e_ldc2, ↓e_lconst, ↓e_iloadn, ↓e_iload, ↓e_lloadn, ↓e_lload, ↓e_aloadn, ↓e_aload, ↓e_istoren, ↓e_istore, ↓e_astoren, ↓e_astore, ↓e_add, ↓e_iinc, ↓e_iadd, ↓e_isub, ↓e_imul, ↓e_iand, ↓e_ior, ↓e_ixor, ↓e_ishl, ↓e_iushr, ↓e_idiv, ↓e_irem, ↓e_ineg, ↓e_i2l, ↓e_i2b, ↓e_i2s, ↓e_l2i, ↓e_land, ↓e_lor, ↓e_lshl, ↓e_lshr, ↓e_lushr, ↓e_lcmp, ↓e_dupi, ↓e_dupr, ↓e_popi, ↓e_dup2, ↓e_goto, ↓e_if, ↓e_icmp, ↓e_tsw, ↓e_lsw, ↓e_getf, ↓e_putf, ↓e_gets, ↓e_iald, ↓e_cald, ↓e_iast, ↓e_aald, ↓e_aast, ↓e_len, ↓e_copy, ↓e_abs, ↓e_max, ↓e_min, ↓e_iret, ↓e_aret, ↓e_vret, ↓e_is0, ↓e_is1, ↓e_is2, ↓e_is3, ↓e_is4, ↓e_iv1, ↓e_iv2, ↓e_iv3, ↓e_iv4, ↓e_iv5, ↓e_iv6, ↓rt_X11_isTold, ↓reduceIte, Nat.reduceAdd, Nat.reduceEqDiff, ↓zcl0, ↓zclv, List.map_nil, List.sum_nil, List.map_cons, List.sum_cons, zcat, true_and, and_true, Nat.reduceLeDiff, Nat.reduceAdd, eq_self, forall_const, e_ok0, e_okss, e_ok1i, e_ok1r, e_ok1n, zl_0, zl_1, zl_40, Int.reduceToNat, Int.reduceAdd, Int.reduceMul, Int.reduceSub, Int.reduceNeg, Int.reduceLT, Int.reduceLE, Int.reduceEq, not_false_eq_true, not_true_eq_false, false_implies, true_implies, implies_true, Int.reduceDiv, Int.reduceMod, zr8_zr, zr_zbo, z01_zbo, z01_0, z01_1, zbo_eq0, zup_eq, zup_o, zup_k, ne_eq, ↓ct_isTold_yearGoes, ↓r_yearGoes, ↓B_yearGoes, ↓ct_isTold_its, ↓r_its, ↓B_its, ↓ct_isTold_putBack, ↓r_putBack, ↓B_putBack, ↓v_87, ↓g_87_0, ↓l_88, ↓s_88, ↓n_88, ↓g_87_1, ↓l_89, ↓s_89, ↓n_89, ↓g_87_2, ↓l_90, ↓s_90, ↓n_90, ↓g_87_3, ↓p_87_3, ↓g_87_4, ↓l_91, ↓s_91, ↓n_91, ↓g_87_5, ↓p_87_5, ↓g_87_6, ↓p_87_6, ↓g_87_7, ↓p_87_7, ↓g_87_8, ↓p_87_8, ↓g_87_9, ↓p_87_9, ↓g_87_10, ↓p_87_10, ↓g_87_11, ↓l_92, ↓s_92, ↓n_92, ↓g_87_12, ↓l_93, ↓s_93, ↓n_93, ↓g_87_13, ↓p_87_13, ↓g_87_14, ↓l_94, ↓s_94, ↓n_94, ↓g_87_15, ↓p_87_15, ↓g_87_16, ↓l_95, ↓s_95, ↓n_95, ↓g_87_17, ↓l_96, ↓s_96, ↓n_96, ↓g_87_18, ↓l_97, ↓s_97, ↓n_97, ↓g_87_19, ↓p_87_19, ↓g_87_20, ↓p_87_20, ↓g_87_21, ↓l_98, ↓s_98, ↓n_98, ↓g_87_22, ↓l_99, ↓s_99, ↓n_99, ↓g_87_23, ↓l_100, ↓s_100, ↓n_100, ↓g_87_24, ↓l_101, ↓s_101, ↓n_101, zk, lk, zs, zn, e99]
        refine ⟨by omega, by omega, ex k M' _ (by omega) ?_ hd hM⟩
        rw [show k = n by omega]
      | succ j ih =>
        intro k M' hk hd hM
        refine bs_X11_isTold_5 hX ?_
        have zk : zr (k : Int) = k := zr_of (by omega) (by omega)
        have lk : ((k : Int) < n) = True := eq_true (by omega)
        have e99 : M' 99 s.toNat = n := (congrFun (hM 99 (by decide) (by decide) (by decide)) _).trans hn
        have m87 : M' 87 15 = -1 := (congrFun (hM 87 (by decide) (by decide) (by decide)) _).trans m15
        have zi : zr (40 * s + k) = 40 * s + k := zr_of (by omega) (by omega)
        simp only [bk_X11_isTold_0, k_X11_isTold_0, bk_X11_isTold_5, k_X11_isTold_5, bk_X11_isTold_49, k_X11_isTold_49, bk_X11_isTold_50, k_X11_isTold_50, bk_X11_isTold_57, k_X11_isTold_57, ↓e_rk1, ↓e_rk0, ↓e_sk0, ↓e_sks, ↓e_ldi0, ↓e_ldis, ↓e_ldl0, ↓e_ldls, ↓e_lda0, ↓e_ldas, ↓e_ok0, ↓e_okss, ↓e_ok1i, ↓e_ok1r, ↓e_ok1n, ↓e_sti, ↓e_sta, ↓e_1, ↓e_2, ↓e_l1, ↓e_l2, ↓e_li, ↓e_sw0, ↓e_sws, ↓e_ceq, ↓e_cne, ↓e_clt, ↓e_cge, ↓e_cgt, ↓e_cle, ↓e_nil, ↓e_cons, ↓e_iconst, ↓e_bipush, ↓e_sipush, ↓e_ldc, ↓e_ldcw, ↓e_ldc2, ↓e_lconst, ↓e_iloadn, ↓e_iload, ↓e_lloadn, ↓e_lload, ↓e_aloadn, ↓e_aload, ↓e_istoren, ↓e_istore, ↓e_astoren, ↓e_astore, ↓e_add, ↓e_iinc, ↓e_iadd, ↓e_isub, ↓e_imul, ↓e_iand, ↓e_ior, ↓e_ixor, ↓e_ishl, ↓e_iushr, ↓e_idiv, ↓e_irem, ↓e_ineg, ↓e_i2l, ↓e_i2b, ↓e_i2s, ↓e_l2i, ↓e_land, ↓e_lor, ↓e_lshl, ↓e_lshr, ↓e_lushr, ↓e_lcmp, ↓e_dupi, ↓e_dupr, ↓e_popi, ↓e_dup2, ↓e_goto, ↓e_if, ↓e_icmp, ↓e_tsw, ↓e_lsw, ↓e_getf, ↓e_putf, ↓e_gets, ↓e_iald, ↓e_cald, ↓e_iast, ↓e_aald, ↓e_aast, ↓e_len, ↓e_copy, ↓e_abs, ↓e_max, ↓e_min, ↓e_iret, ↓e_aret, ↓e_vret, ↓e_is0, ↓e_is1, ↓e_is2, ↓e_is3, ↓e_is4, ↓e_iv1, ↓e_iv2, ↓e_iv3, ↓e_iv4, ↓e_iv5, ↓e_iv6, ↓rt_X11_isTold, ↓reduceIte, Nat.reduceAdd, Nat.reduceEqDiff, ↓zcl0, ↓zclv, List.map_nil, List.sum_nil, List.map_cons, List.sum_cons, zcat, true_and, and_true, Nat.reduceLeDiff, Nat.reduceAdd, eq_self, forall_const, e_ok0, e_okss, e_ok1i, e_ok1r, e_ok1n, zl_0, zl_1, zl_40, Int.reduceToNat, Int.reduceAdd, Int.reduceMul, Int.reduceSub, Int.reduceNeg, Int.reduceLT, Int.reduceLE, Int.reduceEq, not_false_eq_true, not_true_eq_false, false_implies, true_implies, implies_true, Int.reduceDiv, Int.reduceMod, zr8_zr, zr_zbo, z01_zbo, z01_0, z01_1, zbo_eq0, zup_eq, zup_o, zup_k, ne_eq, ↓ct_isTold_yearGoes, ↓r_yearGoes, ↓B_yearGoes, ↓ct_isTold_its, ↓r_its, ↓B_its, ↓ct_isTold_putBack, ↓r_putBack, ↓B_putBack, ↓v_87, ↓g_87_0, ↓l_88, ↓s_88, ↓n_88, ↓g_87_1, ↓l_89, ↓s_89, ↓n_89, ↓g_87_2, ↓l_90, ↓s_90, ↓n_90, ↓g_87_3, ↓p_87_3, ↓g_87_4, ↓l_91, ↓s_91, ↓n_91, ↓g_87_5, ↓p_87_5, ↓g_87_6, ↓p_87_6, ↓g_87_7, ↓p_87_7, ↓g_87_8, ↓p_87_8, ↓g_87_9, ↓p_87_9, ↓g_87_10, ↓p_87_10, ↓g_87_11, ↓l_92, ↓s_92, ↓n_92, ↓g_87_12, ↓l_93, ↓s_93, ↓n_93, ↓g_87_13, ↓p_87_13, ↓g_87_14, ↓l_94, ↓s_94, ↓n_94, ↓g_87_15, ↓p_87_15, ↓g_87_16, ↓l_95, ↓s_95, ↓n_95, ↓g_87_17, ↓l_96, ↓s_96, ↓n_96, ↓g_87_18, ↓l_97, ↓s_97, ↓n_97, ↓g_87_19, ↓p_87_19, ↓g_87_20, ↓p_87_20, ↓g_87_21, ↓l_98, ↓s_98, ↓n_98, ↓g_87_22, ↓l_99, ↓s_99, ↓n_99, ↓g_87_23, ↓l_100, ↓s_100, ↓n_100, ↓g_87_24, ↓l_101, ↓s_101, ↓n_101, zk, lk, zs, zn, e99, m87, zi]
        have ok := yrs_ok vd (-1) k (by omega)
        have ok1 := yrs_ok vd (-1) (k + 1) (by omega)
        refine ⟨by omega, by omega, fun c => ex k M' _ (by omega) ?_ hd hM, fun c => ⟨rm, ?_, ?_, fun M2 hd2 hM2 => ⟨by omega, by omega, ?_⟩⟩⟩
        · have := tlb_no c (j + 1)
          rw [show k + (j + 1) = n by omega] at this
          rw [zbo_f c, zbo_f this]
        · rw [hd]; exact ok.1
        · rw [hd]; omega
        have d2 : M2 88 = yrs (M 88) (-1) (k + 1) := by rw [hd2, hd]; rfl
        have q0 := (Vd_hi ok1.1 (e := g) (by omega) (by omega)).1
        have hM2' : ∀ x, ¬ x = 88 → ¬ x = 92 → ¬ x = 94 → M2 x = M x := fun x q1 q2 q3 => (hM2 x q1 q2 q3).trans (hM x q1 q2 q3)
        have fk : M2 100 (40 * s + (k : Int)).toNat = F k := by
          rw [hM2' 100 (by decide) (by decide) (by decide), ← hF]
          show M 100 _ = M 100 _
          congr 1
          omega
        have fr : rg (F k) := by rw [← hF]; exact hr _
        have ei : M2 88 (134 + 4 * g + 0).toNat = hi4 (yrs (M 88) (-1) (k + 1)) g 0 := by rw [d2]; rfl
        rw [fk, ei, zr_rg fr, zr_of (z := hi4 (yrs (M 88) (-1) (k + 1)) g 0) (by omega) (by omega)]
        have nx := ih (k + 1) M2 (by omega) d2 hM2'
        have c' : tlb (M 88) F g k = true := Classical.byContradiction c
        have et : tlb (M 88) F g (k + 1) = decide (F k = hi4 (yrs (M 88) (-1) (k + 1)) g 0) := by
          show (tlb (M 88) F g k && _) = _
          rw [c']; rfl
        repeat' (first | assumption | apply And.intro | intro _)
        all_goals first
          | omega
          | (rename_i c2; rw [zbo_t (by rw [et]; exact decide_eq_true c2)] at nx; exact nx)
          | (rename_i c2; rw [zbo_f (by rw [et]; simpa using c2)] at nx; exact nx)
    simp only [bk_X11_isTold_0, k_X11_isTold_0, bk_X11_isTold_5, k_X11_isTold_5, bk_X11_isTold_49, k_X11_isTold_49, bk_X11_isTold_50, k_X11_isTold_50, bk_X11_isTold_57, k_X11_isTold_57, ↓e_rk1, ↓e_rk0, ↓e_sk0, ↓e_sks, ↓e_ldi0, ↓e_ldis, ↓e_ldl0, ↓e_ldls, ↓e_lda0, ↓e_ldas, ↓e_ok0, ↓e_okss, ↓e_ok1i, ↓e_ok1r, ↓e_ok1n, ↓e_sti, ↓e_sta, ↓e_1, ↓e_2, ↓e_l1, ↓e_l2, ↓e_li, ↓e_sw0, ↓e_sws, ↓e_ceq, ↓e_cne, ↓e_clt, ↓e_cge, ↓e_cgt, ↓e_cle, ↓e_nil, ↓e_cons, ↓e_iconst, ↓e_bipush, ↓e_sipush, ↓e_ldc, ↓e_ldcw, ↓e_ldc2, ↓e_lconst, ↓e_iloadn, ↓e_iload, ↓e_lloadn, ↓e_lload, ↓e_aloadn, ↓e_aload, ↓e_istoren, ↓e_istore, ↓e_astoren, ↓e_astore, ↓e_add, ↓e_iinc, ↓e_iadd, ↓e_isub, ↓e_imul, ↓e_iand, ↓e_ior, ↓e_ixor, ↓e_ishl, ↓e_iushr, ↓e_idiv, ↓e_irem, ↓e_ineg, ↓e_i2l, ↓e_i2b, ↓e_i2s, ↓e_l2i, ↓e_land, ↓e_lor, ↓e_lshl, ↓e_lshr, ↓e_lushr, ↓e_lcmp, ↓e_dupi, ↓e_dupr, ↓e_popi, ↓e_dup2, ↓e_goto, ↓e_if, ↓e_icmp, ↓e_tsw, ↓e_lsw, ↓e_getf, ↓e_putf, ↓e_gets, ↓e_iald, ↓e_cald, ↓e_iast, ↓e_aald, ↓e_aast, ↓e_len, ↓e_copy, ↓e_abs, ↓e_max, ↓e_min, ↓e_iret, ↓e_aret, ↓e_vret, ↓e_is0, ↓e_is1, ↓e_is2, ↓e_is3, ↓e_is4, ↓e_iv1, ↓e_iv2, ↓e_iv3, ↓e_iv4, ↓e_iv5, ↓e_iv6, ↓rt_X11_isTold, ↓reduceIte, Nat.reduceAdd, Nat.reduceEqDiff, ↓zcl0, ↓zclv, List.map_nil, List.sum_nil, List.map_cons, List.sum_cons, zcat, true_and, and_true, Nat.reduceLeDiff, Nat.reduceAdd, eq_self, forall_const, e_ok0, e_okss, e_ok1i, e_ok1r, e_ok1n, zl_0, zl_1, zl_40, Int.reduceToNat, Int.reduceAdd, Int.reduceMul, Int.reduceSub, Int.reduceNeg, Int.reduceLT, Int.reduceLE, Int.reduceEq, not_false_eq_true, not_true_eq_false, false_implies, true_implies, implies_true, Int.reduceDiv, Int.reduceMod, zr8_zr, zr_zbo, z01_zbo, z01_0, z01_1, zbo_eq0, zup_eq, zup_o, zup_k, ne_eq, ↓ct_isTold_yearGoes, ↓r_yearGoes, ↓B_yearGoes, ↓ct_isTold_its, ↓r_its, ↓B_its, ↓ct_isTold_putBack, ↓r_putBack, ↓B_putBack, ↓v_87, ↓g_87_0, ↓l_88, ↓s_88, ↓n_88, ↓g_87_1, ↓l_89, ↓s_89, ↓n_89, ↓g_87_2, ↓l_90, ↓s_90, ↓n_90, ↓g_87_3, ↓p_87_3, ↓g_87_4, ↓l_91, ↓s_91, ↓n_91, ↓g_87_5, ↓p_87_5, ↓g_87_6, ↓p_87_6, ↓g_87_7, ↓p_87_7, ↓g_87_8, ↓p_87_8, ↓g_87_9, ↓p_87_9, ↓g_87_10, ↓p_87_10, ↓g_87_11, ↓l_92, ↓s_92, ↓n_92, ↓g_87_12, ↓l_93, ↓s_93, ↓n_93, ↓g_87_13, ↓p_87_13, ↓g_87_14, ↓l_94, ↓s_94, ↓n_94, ↓g_87_15, ↓p_87_15, ↓g_87_16, ↓l_95, ↓s_95, ↓n_95, ↓g_87_17, ↓l_96, ↓s_96, ↓n_96, ↓g_87_18, ↓l_97, ↓s_97, ↓n_97, ↓g_87_19, ↓p_87_19, ↓g_87_20, ↓p_87_20, ↓g_87_21, ↓l_98, ↓s_98, ↓n_98, ↓g_87_22, ↓l_99, ↓s_99, ↓n_99, ↓g_87_23, ↓l_100, ↓s_100, ↓n_100, ↓g_87_24, ↓l_101, ↓s_101, ↓n_101]
    have := lp n 0 M (by omega) rfl (fun _ _ _ _ => rfl)
    rw [zbo_t (c := tlb (M 88) F g 0 = true) rfl] at this
    exact this
def hdw (d f : Nat → Int) (g : Int) (n : Nat) : Nat → Int × Int
  | 0 => (0, -1)
  | k + 1 => if tlb (ptd d (1 - g) (63 - (k : Int))) f g n = true then ((hdw d f g n k).1 + 1, 63 - (k : Int)) else hdw d f g n k
theorem hdw_rng {d f : Nat → Int} {g : Int} {n : Nat} : ∀ k : Nat, k ≤ 64 → (0 ≤ (hdw d f g n k).1 ∧ (hdw d f g n k).1 ≤ k) ∧ -1 ≤ (hdw d f g n k).2 ∧ (hdw d f g n k).2 ≤ 63
  | 0, _ => by simp [hdw]
  | k + 1, hk => by
    have := hdw_rng (d := d) (f := f) (g := g) (n := n) k (by omega)
    simp only [hdw]
    split
    · dsimp only; omega
    · omega
def hds (S : ZMm) (s g : Int) : Int × Int := hdw (S 88) (fun k => S 100 ((40 * s).toNat + k)) g (S 99 s.toNat).toNat 64
def R_heard (S : ZMm) (s g w : Int) : Int × ZMm := if (0 ≤ s ∧ s ≤ 3) ∧ (0 ≤ g ∧ g ≤ 1) ∧ 0 ≤ w ∧ w ≤ 1 then (if S 98 s.toNat = 0 then no S 2 else if w = 0 then ((hds S s g).1, S) else if (hds S s g).2 < 0 then no S 2 else ((hds S s g).2, S)) else no S 1
def B_heard (s : Int) (g : Int) (w : Int) (M : Nat → Nat → Int) (post : Option ZV → (Nat → Nat → Int) → Prop) : Prop := rg s ∧ rg g ∧ rg w ∧ pub M (R_heard (st M) s g w) post
def C_heard : ZC := fun as h post => match as with
  | [.inr (.inr (.inl 87)), .inl s, .inl g, .inl w] => h.1 = zG ∧ B_heard s g w h.2 (fun v M => post v (zG, M))
  | _ => False
theorem r_heard {s : Int} {g : Int} {w : Int} {M : Nat → Nat → Int} {post : Option ZV → ZH → Prop} : C_heard [.inr (.inr (.inl 87)), .inl s, .inl g, .inl w] (zG, M) post = B_heard s g w M (fun v M => post v (zG, M)) := by show (zG = zG ∧ _) = _; simp
def ct_heard : Nat → ZC := fun n => if n = 210 then C_isSheet else if n = 125 then C_isHead else if n = 120 then C_in else if n = 130 then C_keepAside else if n = 154 then C_isPut else if n = 191 then C_isTold else if n = 119 then C_finds else fun _ _ _ => False
theorem ct_heard_isSheet {as : List ZV} {h : ZH} {post : Option ZV → ZH → Prop} : ct_heard 210 as h post = C_isSheet as h post := rfl
theorem ct_heard_isHead {as : List ZV} {h : ZH} {post : Option ZV → ZH → Prop} : ct_heard 125 as h post = C_isHead as h post := rfl
theorem ct_heard_in {as : List ZV} {h : ZH} {post : Option ZV → ZH → Prop} : ct_heard 120 as h post = C_in as h post := rfl
theorem ct_heard_keepAside {as : List ZV} {h : ZH} {post : Option ZV → ZH → Prop} : ct_heard 130 as h post = C_keepAside as h post := rfl
theorem ct_heard_isPut {as : List ZV} {h : ZH} {post : Option ZV → ZH → Prop} : ct_heard 154 as h post = C_isPut as h post := rfl
theorem ct_heard_isTold {as : List ZV} {h : ZH} {post : Option ZV → ZH → Prop} : ct_heard 191 as h post = C_isTold as h post := rfl
theorem ct_heard_finds {as : List ZV} {h : ZH} {post : Option ZV → ZH → Prop} : ct_heard 119 as h post = C_finds as h post := rfl
theorem c_heard {E : ZE} {d : Nat} (hd : 9 ≤ d) : zMet E d mX11_heard C_heard := by
  refine zmet_of (o := 11) (ini := false) (CT := ct_heard) gd_X11_heard rfl (fun h => by cases h) (by omega) ?_ ?_
  · intro n as h post hh
    unfold ct_heard at hh
    by_cases c : n = 210
    · subst c; exact ⟨gd_X11_isSheet, 2, by omega, c_isSheet (by omega)⟩
    rw [if_neg c] at hh
    by_cases c : n = 125
    · subst c; exact ⟨gd_X11_isHead, 2, by omega, c_isHead (by omega)⟩
    rw [if_neg c] at hh
    by_cases c : n = 120
    · subst c; exact ⟨gd_X11_in, 1, by omega, c_in (by omega)⟩
    rw [if_neg c] at hh
    by_cases c : n = 130
    · subst c; exact ⟨gd_X11_keepAside, 1, by omega, c_keepAside (by omega)⟩
    rw [if_neg c] at hh
    by_cases c : n = 154
    · subst c; exact ⟨gd_X11_isPut, 1, by omega, c_isPut (by omega)⟩
    rw [if_neg c] at hh
    by_cases c : n = 191
    · subst c; exact ⟨gd_X11_isTold, 8, by omega, c_isTold (by omega)⟩
    rw [if_neg c] at hh
    by_cases c : n = 119
    · subst c; exact ⟨gd_X11_finds, 1, by omega, c_finds (by omega)⟩
    rw [if_neg c] at hh
    exact hh.elim
  intro as h post hC
  match as, hC with
  | [.inr (.inr (.inl 87)), .inl s, .inl g, .inl w], hC =>
    refine ⟨Nat.le_of_ble_eq_true rfl, fun X hX => bs_X11_heard_0 hX ?_⟩
    obtain ⟨G, M⟩ := h
    obtain ⟨hG, hC⟩ := hC
    dsimp only at hG
    subst hG
    simp only [B_heard] at hC
    show bk_X11_heard_0 E ct_heard X _ [some (.inr (.inr (.inl 87))), some (.inl s), some (.inl g), some (.inl w), none, none, none, none] [] (zG, M) (0, 0)
    obtain ⟨h1, h2, h3, hC⟩ := hC
    have vd : Vd (M 88) := hC.1.1
    have v1 := vd.2.1
    have y1 : st M 88 1 ≤ 9999 := hC.1.2.1
    have m15 : M 87 15 = -1 := hC.2.1
    have s1 : st M 88 1 = M 88 1 := rfl
    have sh := hC.1.2.2.2.2.2.1
    have hr : ∀ k, rg (M 100 k) := hC.1.2.2.2.2.2.2.1
    have rm : rg (-1) := ⟨by omega, by omega⟩
    have J24 : ¬ ((0 ≤ s ∧ s ≤ 3) ∧ (0 ≤ g ∧ g ≤ 1) ∧ 0 ≤ w ∧ w ≤ 1) → X 24 [some (.inr (.inr (.inl 87))), some (.inl s), some (.inl g), some (.inl w), none, none, none, none] [] (zG, M) (0, 0) := by
      intro q
      refine bs_X11_heard_24 hX ?_
      simp only [bk_X11_heard_0, k_X11_heard_0, bk_X11_heard_7, k_X11_heard_7, bk_X11_heard_14, k_X11_heard_14, bk_X11_heard_24, k_X11_heard_24, bk_X11_heard_30, k_X11_heard_30, bk_X11_heard_45, k_X11_heard_45, bk_X11_heard_59, k_X11_heard_59, bk_X11_heard_81, k_X11_heard_81, bk_X11_heard_92, k_X11_heard_92, bk_X11_heard_93, k_X11_heard_93, bk_X11_heard_106, k_X11_heard_106, bk_X11_heard_108, k_X11_heard_108, bk_X11_heard_116, k_X11_heard_116, bk_X11_heard_125, k_X11_heard_125, bk_X11_heard_138, k_X11_heard_138, bk_X11_heard_140, k_X11_heard_140, ↓e_rk1, ↓e_rk0, ↓e_sk0, ↓e_sks, ↓e_ldi0, ↓e_ldis, ↓e_ldl0, ↓e_ldls, ↓e_lda0, ↓e_ldas, ↓e_ok0, ↓e_okss, ↓e_ok1i, ↓e_ok1r, ↓e_ok1n, ↓e_sti, ↓e_sta, ↓e_1, ↓e_2, ↓e_l1, ↓e_l2, ↓e_li, ↓e_sw0, ↓e_sws, ↓e_ceq, ↓e_cne, ↓e_clt, ↓e_cge, ↓e_cgt, ↓e_cle, ↓e_nil, ↓e_cons, ↓e_iconst, ↓e_bipush, ↓e_sipush, ↓e_ldc, ↓e_ldcw, ↓e_ldc2, ↓e_lconst, ↓e_iloadn, ↓e_iload, ↓e_lloadn, ↓e_lload, ↓e_aloadn, ↓e_aload, ↓e_istoren, ↓e_istore, ↓e_astoren, ↓e_astore, ↓e_add, ↓e_iinc, ↓e_iadd, ↓e_isub, ↓e_imul, ↓e_iand, ↓e_ior, ↓e_ixor, ↓e_ishl, ↓e_iushr, ↓e_idiv, ↓e_irem, ↓e_ineg, ↓e_i2l, ↓e_i2b, ↓e_i2s, ↓e_l2i, ↓e_land, ↓e_lor, ↓e_lshl, ↓e_lshr, ↓e_lushr, ↓e_lcmp, ↓e_dupi, ↓e_dupr, ↓e_popi, ↓e_dup2, ↓e_goto, ↓e_if, ↓e_icmp, ↓e_tsw, ↓e_lsw, ↓e_getf, ↓e_putf, ↓e_gets, ↓e_iald, ↓e_cald, ↓e_iast, ↓e_aald, ↓e_aast, ↓e_len, ↓e_copy, ↓e_abs, ↓e_max, ↓e_min, ↓e_iret, ↓e_aret, ↓e_vret, ↓e_is0, ↓e_is1, ↓e_is2, ↓e_is3, ↓e_is4, ↓e_iv1, ↓e_iv2, ↓e_iv3, ↓e_iv4, ↓e_iv5, ↓e_iv6, ↓rt_X11_heard, ↓reduceIte, Nat.reduceAdd, Nat.reduceEqDiff, ↓zcl0, ↓zclv, List.map_nil, List.sum_nil, List.map_cons, List.sum_cons, zcat, true_and, and_true, Nat.reduceLeDiff, Nat.reduceAdd, eq_self, forall_const, e_ok0, e_okss, e_ok1i, e_ok1r, e_ok1n, zl_m1, zl_0, zl_1, zl_2, zl_63, zq_0, zq_1, Int.reduceToNat, Int.reduceAdd, Int.reduceMul, Int.reduceSub, Int.reduceNeg, Int.reduceLT, Int.reduceLE, Int.reduceEq, not_false_eq_true, not_true_eq_false, false_implies, true_implies, implies_true, Int.reduceDiv, Int.reduceMod, zr8_zr, zr_zbo, z01_zbo, z01_0, z01_1, zbo_eq0, zup_eq, zup_o, zup_k, ne_eq, ↓ct_heard_isSheet, ↓r_isSheet, ↓B_isSheet, ↓ct_heard_isHead, ↓r_isHead, ↓B_isHead, ↓ct_heard_in, ↓r_in, ↓B_in, ↓ct_heard_keepAside, ↓r_keepAside, ↓B_keepAside, ↓ct_heard_isPut, ↓r_isPut, ↓B_isPut, ↓ct_heard_isTold, ↓r_isTold, ↓B_isTold, ↓ct_heard_finds, ↓r_finds, ↓B_finds, ↓v_87, ↓g_87_0, ↓l_88, ↓s_88, ↓n_88, ↓g_87_1, ↓l_89, ↓s_89, ↓n_89, ↓g_87_2, ↓l_90, ↓s_90, ↓n_90, ↓g_87_3, ↓p_87_3, ↓g_87_4, ↓l_91, ↓s_91, ↓n_91, ↓g_87_5, ↓p_87_5, ↓g_87_6, ↓p_87_6, ↓g_87_7, ↓p_87_7, ↓g_87_8, ↓p_87_8, ↓g_87_9, ↓p_87_9, ↓g_87_10, ↓p_87_10, ↓g_87_11, ↓l_92, ↓s_92, ↓n_92, ↓g_87_12, ↓l_93, ↓s_93, ↓n_93, ↓g_87_13, ↓p_87_13, ↓g_87_14, ↓l_94, ↓s_94, ↓n_94, ↓g_87_15, ↓p_87_15, ↓g_87_16, ↓l_95, ↓s_95, ↓n_95, ↓g_87_17, ↓l_96, ↓s_96, ↓n_96, ↓g_87_18, ↓l_97, ↓s_97, ↓n_97, ↓g_87_19, ↓p_87_19, ↓g_87_20, ↓p_87_20, ↓g_87_21, ↓l_98, ↓s_98, ↓n_98, ↓g_87_22, ↓l_99, ↓s_99, ↓n_99, ↓g_87_23, ↓l_100, ↓s_100, ↓n_100, ↓g_87_24, ↓l_101, ↓s_101, ↓n_101]
      exact pub_no hC (by unfold R_heard; rw [if_neg q]) rfl
    have J30 : ((0 ≤ s ∧ s ≤ 3) ∧ (0 ≤ g ∧ g ≤ 1) ∧ 0 ≤ w ∧ w ≤ 1) → X 30 [some (.inr (.inr (.inl 87))), some (.inl s), some (.inl g), some (.inl w), none, none, none, none] [] (zG, M) (0, 0) := by
      intro q
      obtain ⟨bs, n1, n2⟩ := sh s.toNat (by omega)
      have e98 : st M 98 s.toNat = M 98 s.toNat := rfl
      have e99 : st M 99 s.toNat = M 99 s.toNat := rfl
      rw [e98] at bs
      rw [e99] at n1 n2
      have zs : zr s = s := zr_of (by omega) (by omega)
      have zb : zr (M 98 s.toNat) = M 98 s.toNat := zr_of (by omega) (by omega)
      have zw : zr w = w := zr_of (by omega) (by omega)
      obtain ⟨F, hF⟩ : ∃ F : Nat → Int, (fun k => M 100 ((40 * s).toNat + k)) = F := ⟨_, rfl⟩
      obtain ⟨n, hnn⟩ : ∃ n : Nat, (M 99 s.toNat).toNat = n := ⟨_, rfl⟩
      have hh : hds (st M) s g = hdw (M 88) F g n 64 := by rw [← hF, ← hnn]; rfl
      have lp : ¬ M 98 s.toNat = 0 → ∀ (j k : Nat) (x7 : Option ZV) (M' : ZMm), j + k = 64 → M' 88 = M 88 → (∀ i, i < 186 → M' 90 i = M 88 i) → (∀ x, ¬ x = 88 → ¬ x = 90 → ¬ x = 92 → ¬ x = 94 → M' x = M x) → X 59 [some (.inr (.inr (.inl 87))), some (.inl s), some (.inl g), some (.inl w), some (.inl (hdw (M 88) F g n k).1), some (.inl (hdw (M 88) F g n k).2), some (.inl (63 - (k : Int))), x7] [] (zG, M') (0, 0) := by
        intro hb j
        induction j with
        | zero =>
          intro k x7 M' hk hd ha hM
          have ek : k = 64 := by omega
          subst ek
          refine bs_X11_heard_59 hX ?_
          have zk : zr (63 - ((64 : Nat) : Int)) = -1 := rfl
          simp only [bk_X11_heard_0, k_X11_heard_0, bk_X11_heard_7, k_X11_heard_7, bk_X11_heard_14, k_X11_heard_14, bk_X11_heard_24, k_X11_heard_24, bk_X11_heard_30, k_X11_heard_30, bk_X11_heard_45, k_X11_heard_45, bk_X11_heard_59, k_X11_heard_59, bk_X11_heard_81, k_X11_heard_81, bk_X11_heard_92, k_X11_heard_92, bk_X11_heard_93, k_X11_heard_93, bk_X11_heard_106, k_X11_heard_106, bk_X11_heard_108, k_X11_heard_108, bk_X11_heard_116, k_X11_heard_116, bk_X11_heard_125, k_X11_heard_125, bk_X11_heard_138, k_X11_heard_138, bk_X11_heard_140, k_X11_heard_140, ↓e_rk1, ↓e_rk0, ↓e_sk0, ↓e_sks, ↓e_ldi0, ↓e_ldis, ↓e_ldl0, ↓e_ldls, ↓e_lda0, ↓e_ldas, ↓e_ok0, ↓e_okss, ↓e_ok1i, ↓e_ok1r, ↓e_ok1n, ↓e_sti, ↓e_sta, ↓e_1, ↓e_2, ↓e_l1, ↓e_l2, ↓e_li, ↓e_sw0, ↓e_sws, ↓e_ceq, ↓e_cne, ↓e_clt, ↓e_cge, ↓e_cgt, ↓e_cle, ↓e_nil, ↓e_cons, ↓e_iconst, ↓e_bipush, ↓e_sipush, ↓e_ldc, ↓e_ldcw, ↓e_ldc2, ↓e_lconst, ↓e_iloadn, ↓e_iload, ↓e_lloadn, ↓e_lload, ↓e_aloadn, ↓e_aload, ↓e_istoren, ↓e_istore, ↓e_astoren, ↓e_astore, ↓e_add, ↓e_iinc, ↓e_iadd, ↓e_isub, ↓e_imul, ↓e_iand, ↓e_ior, ↓e_ixor, ↓e_ishl, ↓e_iushr, ↓e_idiv, ↓e_irem, ↓e_ineg, ↓e_i2l, ↓e_i2b, ↓e_i2s, ↓e_l2i, ↓e_land, ↓e_lor, ↓e_lshl, ↓e_lshr, ↓e_lushr, ↓e_lcmp, ↓e_dupi, ↓e_dupr, ↓e_popi, ↓e_dup2, ↓e_goto, ↓e_if, ↓e_icmp, ↓e_tsw, ↓e_lsw, ↓e_getf, ↓e_putf, ↓e_gets, ↓e_iald, ↓e_cald, ↓e_iast, ↓e_aald, ↓e_aast, ↓e_len, ↓e_copy, ↓e_abs, ↓e_max, ↓e_min, ↓e_iret, ↓e_aret, ↓e_vret, ↓e_is0, ↓e_is1, ↓e_is2, ↓e_is3, ↓e_is4, ↓e_iv1, ↓e_iv2, ↓e_iv3, ↓e_iv4, ↓e_iv5, ↓e_iv6, ↓rt_X11_heard, ↓reduceIte, Nat.reduceAdd, Nat.reduceEqDiff, ↓zcl0, ↓zclv, List.map_nil, List.sum_nil, List.map_cons, List.sum_cons, zcat, true_and, and_true, Nat.reduceLeDiff, Nat.reduceAdd, eq_self, forall_const, e_ok0, e_okss, e_ok1i, e_ok1r, e_ok1n, zl_m1, zl_0, zl_1, zl_2, zl_63, zq_0, zq_1, Int.reduceToNat, Int.reduceAdd, Int.reduceMul, Int.reduceSub, Int.reduceNeg, Int.reduceLT, Int.reduceLE, Int.reduceEq, not_false_eq_true, not_true_eq_false, false_implies, true_implies, implies_true, Int.reduceDiv, Int.reduceMod, zr8_zr, zr_zbo, z01_zbo, z01_0, z01_1, zbo_eq0, zup_eq, zup_o, zup_k, ne_eq, ↓ct_heard_isSheet, ↓r_isSheet, ↓B_isSheet, ↓ct_heard_isHead, ↓r_isHead, ↓B_isHead, ↓ct_heard_in, ↓r_in, ↓B_in, ↓ct_heard_keepAside, ↓r_keepAside, ↓B_keepAside, ↓ct_heard_isPut, ↓r_isPut, ↓B_isPut, ↓ct_heard_isTold, ↓r_isTold, ↓B_isTold, ↓ct_heard_finds, ↓r_finds, ↓B_finds, ↓v_87, ↓g_87_0, ↓l_88, ↓s_88, ↓n_88, ↓g_87_1, ↓l_89, ↓s_89, ↓n_89, ↓g_87_2, ↓l_90, ↓s_90, ↓n_90, ↓g_87_3, ↓p_87_3, ↓g_87_4, ↓l_91, ↓s_91, ↓n_91, ↓g_87_5, ↓p_87_5, ↓g_87_6, ↓p_87_6, ↓g_87_7, ↓p_87_7, ↓g_87_8, ↓p_87_8, ↓g_87_9, ↓p_87_9, ↓g_87_10, ↓p_87_10, ↓g_87_11, ↓l_92, ↓s_92, ↓n_92, ↓g_87_12, ↓l_93, ↓s_93, ↓n_93, ↓g_87_13, ↓p_87_13, ↓g_87_14, ↓l_94, ↓s_94, ↓n_94, ↓g_87_15, ↓p_87_15, ↓g_87_16, ↓l_95, ↓s_95, ↓n_95, ↓g_87_17, ↓l_96, ↓s_96, ↓n_96, ↓g_87_18, ↓l_97, ↓s_97, ↓n_97, ↓g_87_19, ↓p_87_19, ↓g_87_20, ↓p_87_20, ↓g_87_21, ↓l_98, ↓s_98, ↓n_98, ↓g_87_22, ↓l_99, ↓s_99, ↓n_99, ↓g_87_23, ↓l_100, ↓s_100, ↓n_100, ↓g_87_24, ↓l_101, ↓s_101, ↓n_101, zk]
          refine bs_X11_heard_116 hX ?_
          have wr := hdw_rng (d := M 88) (f := F) (g := g) (n := n) 64 (by omega)
          have z5 : zr (hdw (M 88) F g n 64).2 = (hdw (M 88) F g n 64).2 := zr_of (by omega) (by omega)
          simp only [bk_X11_heard_0, k_X11_heard_0, bk_X11_heard_7, k_X11_heard_7, bk_X11_heard_14, k_X11_heard_14, bk_X11_heard_24, k_X11_heard_24, bk_X11_heard_30, k_X11_heard_30, bk_X11_heard_45, k_X11_heard_45, bk_X11_heard_59, k_X11_heard_59, bk_X11_heard_81, k_X11_heard_81, bk_X11_heard_92, k_X11_heard_92, bk_X11_heard_93, k_X11_heard_93, bk_X11_heard_106, k_X11_heard_106, bk_X11_heard_108, k_X11_heard_108, bk_X11_heard_116, k_X11_heard_116, bk_X11_heard_125, k_X11_heard_125, bk_X11_heard_138, k_X11_heard_138, bk_X11_heard_140, k_X11_heard_140, ↓e_rk1, ↓e_rk0, ↓e_sk0, ↓e_sks, ↓e_ldi0, ↓e_ldis, ↓e_ldl0, ↓e_ldls, ↓e_lda0, ↓e_ldas, ↓e_ok0, ↓e_okss, ↓e_ok1i, ↓e_ok1r, ↓e_ok1n, ↓e_sti, ↓e_sta, ↓e_1, ↓e_2, ↓e_l1, ↓e_l2, ↓e_li, ↓e_sw0, ↓e_sws, ↓e_ceq, ↓e_cne, ↓e_clt, ↓e_cge, ↓e_cgt, ↓e_cle, ↓e_nil, ↓e_cons, ↓e_iconst, ↓e_bipush, ↓e_sipush, ↓e_ldc, ↓e_ldcw, ↓e_ldc2, ↓e_lconst, ↓e_iloadn, ↓e_iload, ↓e_lloadn, ↓e_lload, ↓e_aloadn, ↓e_aload, ↓e_istoren, ↓e_istore, ↓e_astoren, ↓e_astore, ↓e_add, ↓e_iinc, ↓e_iadd, ↓e_isub, ↓e_imul, ↓e_iand, ↓e_ior, ↓e_ixor, ↓e_ishl, ↓e_iushr, ↓e_idiv, ↓e_irem, ↓e_ineg, ↓e_i2l, ↓e_i2b, ↓e_i2s, ↓e_l2i, ↓e_land, ↓e_lor, ↓e_lshl, ↓e_lshr, ↓e_lushr, ↓e_lcmp, ↓e_dupi, ↓e_dupr, ↓e_popi, ↓e_dup2, ↓e_goto, ↓e_if, ↓e_icmp, ↓e_tsw, ↓e_lsw, ↓e_getf, ↓e_putf, ↓e_gets, ↓e_iald, ↓e_cald, ↓e_iast, ↓e_aald, ↓e_aast, ↓e_len, ↓e_copy, ↓e_abs, ↓e_max, ↓e_min, ↓e_iret, ↓e_aret, ↓e_vret, ↓e_is0, ↓e_is1, ↓e_is2, ↓e_is3, ↓e_is4, ↓e_iv1, ↓e_iv2, ↓e_iv3, ↓e_iv4, ↓e_iv5, ↓e_iv6, ↓rt_X11_heard, ↓reduceIte, Nat.reduceAdd, Nat.reduceEqDiff, ↓zcl0, ↓zclv, List.map_nil, List.sum_nil, List.map_cons, List.sum_cons, zcat, true_and, and_true, Nat.reduceLeDiff, Nat.reduceAdd, eq_self, forall_const, e_ok0, e_okss, e_ok1i, e_ok1r, e_ok1n, zl_m1, zl_0, zl_1, zl_2, zl_63, zq_0, zq_1, Int.reduceToNat, Int.reduceAdd, Int.reduceMul, Int.reduceSub, Int.reduceNeg, Int.reduceLT, Int.reduceLE, Int.reduceEq, not_false_eq_true, not_true_eq_false, false_implies, true_implies, implies_true, Int.reduceDiv, Int.reduceMod, zr8_zr, zr_zbo, z01_zbo, z01_0, z01_1, zbo_eq0, zup_eq, zup_o, zup_k, ne_eq, ↓ct_heard_isSheet, ↓r_isSheet, ↓B_isSheet, ↓ct_heard_isHead, ↓r_isHead, ↓B_isHead, ↓ct_heard_in, ↓r_in, ↓B_in, ↓ct_heard_keepAside, ↓r_keepAside, ↓B_keepAside, ↓ct_heard_isPut, ↓r_isPut, ↓B_isPut, ↓ct_heard_isTold, ↓r_isTold, ↓B_isTold, ↓ct_heard_finds, ↓r_finds, ↓B_finds, ↓v_87, ↓g_87_0, ↓l_88, ↓s_88, ↓n_88, ↓g_87_1, ↓l_89, ↓s_89, ↓n_89, ↓g_87_2, ↓l_90, ↓s_90, ↓n_90, ↓g_87_3, ↓p_87_3, ↓g_87_4, ↓l_91, ↓s_91, ↓n_91, ↓g_87_5, ↓p_87_5, ↓g_87_6, ↓p_87_6, ↓g_87_7, ↓p_87_7, ↓g_87_8, ↓p_87_8, ↓g_87_9, ↓p_87_9, ↓g_87_10, ↓p_87_10, ↓g_87_11, ↓l_92, ↓s_92, ↓n_92, ↓g_87_12, ↓l_93, ↓s_93, ↓n_93, ↓g_87_13, ↓p_87_13, ↓g_87_14, ↓l_94, ↓s_94, ↓n_94, ↓g_87_15, ↓p_87_15, ↓g_87_16, ↓l_95, ↓s_95, ↓n_95, ↓g_87_17, ↓l_96, ↓s_96, ↓n_96, ↓g_87_18, ↓l_97, ↓s_97, ↓n_97, ↓g_87_19, ↓p_87_19, ↓g_87_20, ↓p_87_20, ↓g_87_21, ↓l_98, ↓s_98, ↓n_98, ↓g_87_22, ↓l_99, ↓s_99, ↓n_99, ↓g_87_23, ↓l_100, ↓s_100, ↓n_100, ↓g_87_24, ↓l_101, ↓s_101, ↓n_101, zw, z5]
          refine ⟨fun c => ?_, fun c => ⟨fun c2 => ?_, fun c2 => ?_⟩⟩
          · exact pub_sm hC hM hd (by unfold R_heard; rw [if_pos q, e98, if_neg hb, if_pos c, hh])
          · exact pub_nb hC hM hd (by unfold R_heard; rw [if_pos q, e98, if_neg hb, if_neg c, hh, if_pos c2]) rfl
          · exact pub_sm hC hM hd (by unfold R_heard; rw [if_pos q, e98, if_neg hb, if_neg c, hh, if_neg c2])
        | succ j ih =>
          intro k x7 M' hk hd ha hM
          refine bs_X11_heard_59 hX ?_
          have zk : zr (63 - (k : Int)) = 63 - k := zr_of (by omega) (by omega)
          have lk : (63 - (k : Int) < 0) = False := eq_false (by omega)
          have go : ∀ (t : Int) (M2 : ZMm), t = zbo (tlb (ptd (M 88) (1 - g) (63 - (k : Int))) F g n = true) → M2 88 = M 88 → (∀ i, i < 186 → M2 90 i = M 88 i) → (∀ x, ¬ x = 88 → ¬ x = 90 → ¬ x = 92 → ¬ x = 94 → M2 x = M x) → X 81 [some (.inr (.inr (.inl 87))), some (.inl s), some (.inl g), some (.inl w), some (.inl (hdw (M 88) F g n k).1), some (.inl (hdw (M 88) F g n k).2), some (.inl (63 - (k : Int))), some (.inl t)] [] (zG, M2) (0, 0) := by
            intro t M2 ht hd2 ha2 hM2
            refine bs_X11_heard_81 hX ?_
            have nx := ih (k + 1) (some (.inl t)) M2 (by omega) hd2 ha2 hM2
            have e9 : 63 - ((k + 1 : Nat) : Int) = 63 - (k : Int) + -1 := by omega
            rw [e9] at nx
            by_cases c : tlb (ptd (M 88) (1 - g) (63 - (k : Int))) F g n = true
            · rw [zbo_t c] at ht
              subst ht
              simp only [hdw, if_pos c] at nx
              simp only [bk_X11_heard_0, k_X11_heard_0, bk_X11_heard_7, k_X11_heard_7, bk_X11_heard_14, k_X11_heard_14, bk_X11_heard_24, k_X11_heard_24, bk_X11_heard_30, k_X11_heard_30, bk_X11_heard_45, k_X11_heard_45, bk_X11_heard_59, k_X11_heard_59, bk_X11_heard_81, k_X11_heard_81, bk_X11_heard_92, k_X11_heard_92, bk_X11_heard_93, k_X11_heard_93, bk_X11_heard_106, k_X11_heard_106, bk_X11_heard_108, k_X11_heard_108, bk_X11_heard_116, k_X11_heard_116, bk_X11_heard_125, k_X11_heard_125, bk_X11_heard_138, k_X11_heard_138, bk_X11_heard_140, k_X11_heard_140, ↓e_rk1, ↓e_rk0, ↓e_sk0, ↓e_sks, ↓e_ldi0, ↓e_ldis, ↓e_ldl0, ↓e_ldls, ↓e_lda0, ↓e_ldas, ↓e_ok0, ↓e_okss, ↓e_ok1i, ↓e_ok1r, ↓e_ok1n, ↓e_sti, ↓e_sta, ↓e_1, ↓e_2, ↓e_l1, ↓e_l2, ↓e_li, ↓e_sw0, ↓e_sws, ↓e_ceq, ↓e_cne, ↓e_clt, ↓e_cge, ↓e_cgt, ↓e_cle, ↓e_nil, ↓e_cons, ↓e_iconst, ↓e_bipush, ↓e_sipush, ↓e_ldc, ↓e_ldcw, ↓e_ldc2, ↓e_lconst, ↓e_iloadn, ↓e_iload, ↓e_lloadn, ↓e_lload, ↓e_aloadn, ↓e_aload, ↓e_istoren, ↓e_istore, ↓e_astoren, ↓e_astore, ↓e_add, ↓e_iinc, ↓e_iadd, ↓e_isub, ↓e_imul, ↓e_iand, ↓e_ior, ↓e_ixor, ↓e_ishl, ↓e_iushr, ↓e_idiv, ↓e_irem, ↓e_ineg, ↓e_i2l, ↓e_i2b, ↓e_i2s, ↓e_l2i, ↓e_land, ↓e_lor, ↓e_lshl, ↓e_lshr, ↓e_lushr, ↓e_lcmp, ↓e_dupi, ↓e_dupr, ↓e_popi, ↓e_dup2, ↓e_goto, ↓e_if, ↓e_icmp, ↓e_tsw, ↓e_lsw, ↓e_getf, ↓e_putf, ↓e_gets, ↓e_iald, ↓e_cald, ↓e_iast, ↓e_aald, ↓e_aast, ↓e_len, ↓e_copy, ↓e_abs, ↓e_max, ↓e_min, ↓e_iret, ↓e_aret, ↓e_vret, ↓e_is0, ↓e_is1, ↓e_is2, ↓e_is3, ↓e_is4, ↓e_iv1, ↓e_iv2, ↓e_iv3, ↓e_iv4, ↓e_iv5, ↓e_iv6, ↓rt_X11_heard, ↓reduceIte, Nat.reduceAdd, Nat.reduceEqDiff, ↓zcl0, ↓zclv, List.map_nil, List.sum_nil, List.map_cons, List.sum_cons, zcat, true_and, and_true, Nat.reduceLeDiff, Nat.reduceAdd, eq_self, forall_const, e_ok0, e_okss, e_ok1i, e_ok1r, e_ok1n, zl_m1, zl_0, zl_1, zl_2, zl_63, zq_0, zq_1, Int.reduceToNat, Int.reduceAdd, Int.reduceMul, Int.reduceSub, Int.reduceNeg, Int.reduceLT, Int.reduceLE, Int.reduceEq, not_false_eq_true, not_true_eq_false, false_implies, true_implies, implies_true, Int.reduceDiv, Int.reduceMod, zr8_zr, zr_zbo, z01_zbo, z01_0, z01_1, zbo_eq0, zup_eq, zup_o, zup_k, ne_eq, ↓ct_heard_isSheet, ↓r_isSheet, ↓B_isSheet, ↓ct_heard_isHead, ↓r_isHead, ↓B_isHead, ↓ct_heard_in, ↓r_in, ↓B_in, ↓ct_heard_keepAside, ↓r_keepAside, ↓B_keepAside, ↓ct_heard_isPut, ↓r_isPut, ↓B_isPut, ↓ct_heard_isTold, ↓r_isTold, ↓B_isTold, ↓ct_heard_finds, ↓r_finds, ↓B_finds, ↓v_87, ↓g_87_0, ↓l_88, ↓s_88, ↓n_88, ↓g_87_1, ↓l_89, ↓s_89, ↓n_89, ↓g_87_2, ↓l_90, ↓s_90, ↓n_90, ↓g_87_3, ↓p_87_3, ↓g_87_4, ↓l_91, ↓s_91, ↓n_91, ↓g_87_5, ↓p_87_5, ↓g_87_6, ↓p_87_6, ↓g_87_7, ↓p_87_7, ↓g_87_8, ↓p_87_8, ↓g_87_9, ↓p_87_9, ↓g_87_10, ↓p_87_10, ↓g_87_11, ↓l_92, ↓s_92, ↓n_92, ↓g_87_12, ↓l_93, ↓s_93, ↓n_93, ↓g_87_13, ↓p_87_13, ↓g_87_14, ↓l_94, ↓s_94, ↓n_94, ↓g_87_15, ↓p_87_15, ↓g_87_16, ↓l_95, ↓s_95, ↓n_95, ↓g_87_17, ↓l_96, ↓s_96, ↓n_96, ↓g_87_18, ↓l_97, ↓s_97, ↓n_97, ↓g_87_19, ↓p_87_19, ↓g_87_20, ↓p_87_20, ↓g_87_21, ↓l_98, ↓s_98, ↓n_98, ↓g_87_22, ↓l_99, ↓s_99, ↓n_99, ↓g_87_23, ↓l_100, ↓s_100, ↓n_100, ↓g_87_24, ↓l_101, ↓s_101, ↓n_101]
              exact nx
            · rw [zbo_f c] at ht
              subst ht
              simp only [hdw, if_neg c] at nx
              simp only [bk_X11_heard_0, k_X11_heard_0, bk_X11_heard_7, k_X11_heard_7, bk_X11_heard_14, k_X11_heard_14, bk_X11_heard_24, k_X11_heard_24, bk_X11_heard_30, k_X11_heard_30, bk_X11_heard_45, k_X11_heard_45, bk_X11_heard_59, k_X11_heard_59, bk_X11_heard_81, k_X11_heard_81, bk_X11_heard_92, k_X11_heard_92, bk_X11_heard_93, k_X11_heard_93, bk_X11_heard_106, k_X11_heard_106, bk_X11_heard_108, k_X11_heard_108, bk_X11_heard_116, k_X11_heard_116, bk_X11_heard_125, k_X11_heard_125, bk_X11_heard_138, k_X11_heard_138, bk_X11_heard_140, k_X11_heard_140, ↓e_rk1, ↓e_rk0, ↓e_sk0, ↓e_sks, ↓e_ldi0, ↓e_ldis, ↓e_ldl0, ↓e_ldls, ↓e_lda0, ↓e_ldas, ↓e_ok0, ↓e_okss, ↓e_ok1i, ↓e_ok1r, ↓e_ok1n, ↓e_sti, ↓e_sta, ↓e_1, ↓e_2, ↓e_l1, ↓e_l2, ↓e_li, ↓e_sw0, ↓e_sws, ↓e_ceq, ↓e_cne, ↓e_clt, ↓e_cge, ↓e_cgt, ↓e_cle, ↓e_nil, ↓e_cons, ↓e_iconst, ↓e_bipush, ↓e_sipush, ↓e_ldc, ↓e_ldcw, ↓e_ldc2, ↓e_lconst, ↓e_iloadn, ↓e_iload, ↓e_lloadn, ↓e_lload, ↓e_aloadn, ↓e_aload, ↓e_istoren, ↓e_istore, ↓e_astoren, ↓e_astore, ↓e_add, ↓e_iinc, ↓e_iadd, ↓e_isub, ↓e_imul, ↓e_iand, ↓e_ior, ↓e_ixor, ↓e_ishl, ↓e_iushr, ↓e_idiv, ↓e_irem, ↓e_ineg, ↓e_i2l, ↓e_i2b, ↓e_i2s, ↓e_l2i, ↓e_land, ↓e_lor, ↓e_lshl, ↓e_lshr, ↓e_lushr, ↓e_lcmp, ↓e_dupi, ↓e_dupr, ↓e_popi, ↓e_dup2, ↓e_goto, ↓e_if, ↓e_icmp, ↓e_tsw, ↓e_lsw, ↓e_getf, ↓e_putf, ↓e_gets, ↓e_iald, ↓e_cald, ↓e_iast, ↓e_aald, ↓e_aast, ↓e_len, ↓e_copy, ↓e_abs, ↓e_max, ↓e_min, ↓e_iret, ↓e_aret, ↓e_vret, ↓e_is0, ↓e_is1, ↓e_is2, ↓e_is3, ↓e_is4, ↓e_iv1, ↓e_iv2, ↓e_iv3, ↓e_iv4, ↓e_iv5, ↓e_iv6, ↓rt_X11_heard, ↓reduceIte, Nat.reduceAdd, Nat.reduceEqDiff, ↓zcl0, ↓zclv, List.map_nil, List.sum_nil, List.map_cons, List.sum_cons, zcat, true_and, and_true, Nat.reduceLeDiff, Nat.reduceAdd, eq_self, forall_const, e_ok0, e_okss, e_ok1i, e_ok1r, e_ok1n, zl_m1, zl_0, zl_1, zl_2, zl_63, zq_0, zq_1, Int.reduceToNat, Int.reduceAdd, Int.reduceMul, Int.reduceSub, Int.reduceNeg, Int.reduceLT, Int.reduceLE, Int.reduceEq, not_false_eq_true, not_true_eq_false, false_implies, true_implies, implies_true, Int.reduceDiv, Int.reduceMod, zr8_zr, zr_zbo, z01_zbo, z01_0, z01_1, zbo_eq0, zup_eq, zup_o, zup_k, ne_eq, ↓ct_heard_isSheet, ↓r_isSheet, ↓B_isSheet, ↓ct_heard_isHead, ↓r_isHead, ↓B_isHead, ↓ct_heard_in, ↓r_in, ↓B_in, ↓ct_heard_keepAside, ↓r_keepAside, ↓B_keepAside, ↓ct_heard_isPut, ↓r_isPut, ↓B_isPut, ↓ct_heard_isTold, ↓r_isTold, ↓B_isTold, ↓ct_heard_finds, ↓r_finds, ↓B_finds, ↓v_87, ↓g_87_0, ↓l_88, ↓s_88, ↓n_88, ↓g_87_1, ↓l_89, ↓s_89, ↓n_89, ↓g_87_2, ↓l_90, ↓s_90, ↓n_90, ↓g_87_3, ↓p_87_3, ↓g_87_4, ↓l_91, ↓s_91, ↓n_91, ↓g_87_5, ↓p_87_5, ↓g_87_6, ↓p_87_6, ↓g_87_7, ↓p_87_7, ↓g_87_8, ↓p_87_8, ↓g_87_9, ↓p_87_9, ↓g_87_10, ↓p_87_10, ↓g_87_11, ↓l_92, ↓s_92, ↓n_92, ↓g_87_12, ↓l_93, ↓s_93, ↓n_93, ↓g_87_13, ↓p_87_13, ↓g_87_14, ↓l_94, ↓s_94, ↓n_94, ↓g_87_15, ↓p_87_15, ↓g_87_16, ↓l_95, ↓s_95, ↓n_95, ↓g_87_17, ↓l_96, ↓s_96, ↓n_96, ↓g_87_18, ↓l_97, ↓s_97, ↓n_97, ↓g_87_19, ↓p_87_19, ↓g_87_20, ↓p_87_20, ↓g_87_21, ↓l_98, ↓s_98, ↓n_98, ↓g_87_22, ↓l_99, ↓s_99, ↓n_99, ↓g_87_23, ↓l_100, ↓s_100, ↓n_100, ↓g_87_24, ↓l_101, ↓s_101, ↓n_101, Int.add_zero]
              exact nx
          simp only [bk_X11_heard_0, k_X11_heard_0, bk_X11_heard_7, k_X11_heard_7, bk_X11_heard_14, k_X11_heard_14, bk_X11_heard_24, k_X11_heard_24, bk_X11_heard_30, k_X11_heard_30, bk_X11_heard_45, k_X11_heard_45, bk_X11_heard_59, k_X11_heard_59, bk_X11_heard_81, k_X11_heard_81, bk_X11_heard_92, k_X11_heard_92, bk_X11_heard_93, k_X11_heard_93, bk_X11_heard_106, k_X11_heard_106, bk_X11_heard_108, k_X11_heard_108, bk_X11_heard_116, k_X11_heard_116, bk_X11_heard_125, k_X11_heard_125, bk_X11_heard_138, k_X11_heard_138, bk_X11_heard_140, k_X11_heard_140, ↓e_rk1, ↓e_rk0, ↓e_sk0, ↓e_sks, ↓e_ldi0, ↓e_ldis, ↓e_ldl0, ↓e_ldls, ↓e_lda0, ↓e_ldas, ↓e_ok0, ↓e_okss, ↓e_ok1i, ↓e_ok1r, ↓e_ok1n, ↓e_sti, ↓e_sta, ↓e_1, ↓e_2, ↓e_l1, ↓e_l2, ↓e_li, ↓e_sw0, ↓e_sws, ↓e_ceq, ↓e_cne, ↓e_clt, ↓e_cge, ↓e_cgt, ↓e_cle, ↓e_nil, ↓e_cons, ↓e_iconst, ↓e_bipush, ↓e_sipush, ↓e_ldc, ↓e_ldcw, ↓e_ldc2, ↓e_lconst, ↓e_iloadn, ↓e_iload, ↓e_lloadn, ↓e_lload, ↓e_aloadn, ↓e_aload, ↓e_istoren, ↓e_istore, ↓e_astoren, ↓e_astore, ↓e_add, ↓e_iinc, ↓e_iadd, ↓e_isub, ↓e_imul, ↓e_iand, ↓e_ior, ↓e_ixor, ↓e_ishl, ↓e_iushr, ↓e_idiv, ↓e_irem, ↓e_ineg, ↓e_i2l, ↓e_i2b, ↓e_i2s, ↓e_l2i, ↓e_land, ↓e_lor, ↓e_lshl, ↓e_lshr, ↓e_lushr, ↓e_lcmp, ↓e_dupi, ↓e_dupr, ↓e_popi, ↓e_dup2, ↓e_goto, ↓e_if, ↓e_icmp, ↓e_tsw, ↓e_lsw, ↓e_getf, ↓e_putf, ↓e_gets, ↓e_iald, ↓e_cald, ↓e_iast, ↓e_aald, ↓e_aast, ↓e_len, ↓e_copy, ↓e_abs, ↓e_max, ↓e_min, ↓e_iret, ↓e_aret, ↓e_vret, ↓e_is0, ↓e_is1, ↓e_is2, ↓e_is3, ↓e_is4, ↓e_iv1, ↓e_iv2, ↓e_iv3, ↓e_iv4, ↓e_iv5, ↓e_iv6, ↓rt_X11_heard, ↓reduceIte, Nat.reduceAdd, Nat.reduceEqDiff, ↓zcl0, ↓zclv, List.map_nil, List.sum_nil, List.map_cons, List.sum_cons, zcat, true_and, and_true, Nat.reduceLeDiff, Nat.reduceAdd, eq_self, forall_const, e_ok0, e_okss, e_ok1i, e_ok1r, e_ok1n, zl_m1, zl_0, zl_1, zl_2, zl_63, zq_0, zq_1, Int.reduceToNat, Int.reduceAdd, Int.reduceMul, Int.reduceSub, Int.reduceNeg, Int.reduceLT, Int.reduceLE, Int.reduceEq, not_false_eq_true, not_true_eq_false, false_implies, true_implies, implies_true, Int.reduceDiv, Int.reduceMod, zr8_zr, zr_zbo, z01_zbo, z01_0, z01_1, zbo_eq0, zup_eq, zup_o, zup_k, ne_eq, ↓ct_heard_isSheet, ↓r_isSheet, ↓B_isSheet, ↓ct_heard_isHead, ↓r_isHead, ↓B_isHead, ↓ct_heard_in, ↓r_in, ↓B_in, ↓ct_heard_keepAside, ↓r_keepAside, ↓B_keepAside, ↓ct_heard_isPut, ↓r_isPut, ↓B_isPut, ↓ct_heard_isTold, ↓r_isTold, ↓B_isTold, ↓ct_heard_finds, ↓r_finds, ↓B_finds, ↓v_87, ↓g_87_0, ↓l_88, ↓s_88, ↓n_88, ↓g_87_1, ↓l_89, ↓s_89, ↓n_89, ↓g_87_2, ↓l_90, ↓s_90, ↓n_90, ↓g_87_3, ↓p_87_3, ↓g_87_4, ↓l_91, ↓s_91, ↓n_91, ↓g_87_5, ↓p_87_5, ↓g_87_6, ↓p_87_6, ↓g_87_7, ↓p_87_7, ↓g_87_8, ↓p_87_8, ↓g_87_9, ↓p_87_9, ↓g_87_10, ↓p_87_10, ↓g_87_11, ↓l_92, ↓s_92, ↓n_92, ↓g_87_12, ↓l_93, ↓s_93, ↓n_93, ↓g_87_13, ↓p_87_13, ↓g_87_14, ↓l_94, ↓s_94, ↓n_94, ↓g_87_15, ↓p_87_15, ↓g_87_16, ↓l_95, ↓s_95, ↓n_95, ↓g_87_17, ↓l_96, ↓s_96, ↓n_96, ↓g_87_18, ↓l_97, ↓s_97, ↓n_97, ↓g_87_19, ↓p_87_19, ↓g_87_20, ↓p_87_20, ↓g_87_21, ↓l_98, ↓s_98, ↓n_98, ↓g_87_22, ↓l_99, ↓s_99, ↓n_99, ↓g_87_23, ↓l_100, ↓s_100, ↓n_100, ↓g_87_24, ↓l_101, ↓s_101, ↓n_101, zk, lk]
          refine ⟨by omega, by omega, by omega, by omega, fun M1 hd1 hM1 => ?_⟩
          have M1f : ∀ x, ¬ x = 88 → ¬ x = 90 → ¬ x = 92 → ¬ x = 94 → M1 x = M x := fun x q q0 q1 q2 => (hM1 x q).trans (hM x q q0 q1 q2)
          rw [M1f 99 (by decide) (by decide) (by decide) (by decide), M1f 100 (by decide) (by decide) (by decide) (by decide), M1f 87 (by decide) (by decide) (by decide) (by decide), hd1, hd, hF, hnn]
          refine ⟨by omega, by omega, by omega, by omega, m15, Vd_ptd vd (by omega) (by omega) (by omega) (by omega), ?_, ⟨n1, n2⟩, hr, fun M2 hd2 hM2 => go _ M2 rfl ?_ (fun i hi => ?_) (fun x q q0 q1 q2 => (hM2 x q q1 q2).trans (M1f x q q0 q1 q2))⟩
          · rw [ptd_1 (by omega) (by omega)]; omega
          · rw [hd2]
            funext i
            by_cases qi : i < 186
            · rw [if_pos qi, hM1 90 (by decide), ha i qi]
            · rw [if_neg qi, ptd_hi (by omega) (by omega) (by omega) (by omega) qi]
          · rw [hM2 90 (by decide) (by decide) (by decide), hM1 90 (by decide), ha i hi]
      refine bs_X11_heard_30 hX ?_
      simp only [bk_X11_heard_0, k_X11_heard_0, bk_X11_heard_7, k_X11_heard_7, bk_X11_heard_14, k_X11_heard_14, bk_X11_heard_24, k_X11_heard_24, bk_X11_heard_30, k_X11_heard_30, bk_X11_heard_45, k_X11_heard_45, bk_X11_heard_59, k_X11_heard_59, bk_X11_heard_81, k_X11_heard_81, bk_X11_heard_92, k_X11_heard_92, bk_X11_heard_93, k_X11_heard_93, bk_X11_heard_106, k_X11_heard_106, bk_X11_heard_108, k_X11_heard_108, bk_X11_heard_116, k_X11_heard_116, bk_X11_heard_125, k_X11_heard_125, bk_X11_heard_138, k_X11_heard_138, bk_X11_heard_140, k_X11_heard_140, ↓e_rk1, ↓e_rk0, ↓e_sk0, ↓e_sks, ↓e_ldi0, ↓e_ldis, ↓e_ldl0, ↓e_ldls, ↓e_lda0, ↓e_ldas, ↓e_ok0, ↓e_okss, ↓e_ok1i, ↓e_ok1r, ↓e_ok1n, ↓e_sti, ↓e_sta, ↓e_1, ↓e_2, ↓e_l1, ↓e_l2, ↓e_li, ↓e_sw0, ↓e_sws, ↓e_ceq, ↓e_cne, ↓e_clt, ↓e_cge, ↓e_cgt, ↓e_cle, ↓e_nil, ↓e_cons, ↓e_iconst, ↓e_bipush, ↓e_sipush, ↓e_ldc, ↓e_ldcw, ↓e_ldc2, ↓e_lconst, ↓e_iloadn, ↓e_iload, ↓e_lloadn, ↓e_lload, ↓e_aloadn, ↓e_aload, ↓e_istoren, ↓e_istore, ↓e_astoren, ↓e_astore, ↓e_add, ↓e_iinc, ↓e_iadd, ↓e_isub, ↓e_imul, ↓e_iand, ↓e_ior, ↓e_ixor, ↓e_ishl, ↓e_iushr, ↓e_idiv, ↓e_irem, ↓e_ineg, ↓e_i2l, ↓e_i2b, ↓e_i2s, ↓e_l2i, ↓e_land, ↓e_lor, ↓e_lshl, ↓e_lshr, ↓e_lushr, ↓e_lcmp, ↓e_dupi, ↓e_dupr, ↓e_popi, ↓e_dup2, ↓e_goto, ↓e_if, ↓e_icmp, ↓e_tsw, ↓e_lsw, ↓e_getf, ↓e_putf, ↓e_gets, ↓e_iald, ↓e_cald, ↓e_iast, ↓e_aald, ↓e_aast, ↓e_len, ↓e_copy, ↓e_abs, ↓e_max, ↓e_min, ↓e_iret, ↓e_aret, ↓e_vret, ↓e_is0, ↓e_is1, ↓e_is2, ↓e_is3, ↓e_is4, ↓e_iv1, ↓e_iv2, ↓e_iv3, ↓e_iv4, ↓e_iv5, ↓e_iv6, ↓rt_X11_heard, ↓reduceIte, Nat.reduceAdd, Nat.reduceEqDiff, ↓zcl0, ↓zclv, List.map_nil, List.sum_nil, List.map_cons, List.sum_cons, zcat, true_and, and_true, Nat.reduceLeDiff, Nat.reduceAdd, eq_self, forall_const, e_ok0, e_okss, e_ok1i, e_ok1r, e_ok1n, zl_m1, zl_0, zl_1, zl_2, zl_63, zq_0, zq_1, Int.reduceToNat, Int.reduceAdd, Int.reduceMul, Int.reduceSub, Int.reduceNeg, Int.reduceLT, Int.reduceLE, Int.reduceEq, not_false_eq_true, not_true_eq_false, false_implies, true_implies, implies_true, Int.reduceDiv, Int.reduceMod, zr8_zr, zr_zbo, z01_zbo, z01_0, z01_1, zbo_eq0, zup_eq, zup_o, zup_k, ne_eq, ↓ct_heard_isSheet, ↓r_isSheet, ↓B_isSheet, ↓ct_heard_isHead, ↓r_isHead, ↓B_isHead, ↓ct_heard_in, ↓r_in, ↓B_in, ↓ct_heard_keepAside, ↓r_keepAside, ↓B_keepAside, ↓ct_heard_isPut, ↓r_isPut, ↓B_isPut, ↓ct_heard_isTold, ↓r_isTold, ↓B_isTold, ↓ct_heard_finds, ↓r_finds, ↓B_finds, ↓v_87, ↓g_87_0, ↓l_88, ↓s_88, ↓n_88, ↓g_87_1, ↓l_89, ↓s_89, ↓n_89, ↓g_87_2, ↓l_90, ↓s_90, ↓n_90, ↓g_87_3, ↓p_87_3, ↓g_87_4, ↓l_91, ↓s_91, ↓n_91, ↓g_87_5, ↓p_87_5, ↓g_87_6, ↓p_87_6, ↓g_87_7, ↓p_87_7, ↓g_87_8, ↓p_87_8, ↓g_87_9, ↓p_87_9, ↓g_87_10, ↓p_87_10, ↓g_87_11, ↓l_92, ↓s_92, ↓n_92, ↓g_87_12, ↓l_93, ↓s_93, ↓n_93, ↓g_87_13, ↓p_87_13, ↓g_87_14, ↓l_94, ↓s_94, ↓n_94, ↓g_87_15, ↓p_87_15, ↓g_87_16, ↓l_95, ↓s_95, ↓n_95, ↓g_87_17, ↓l_96, ↓s_96, ↓n_96, ↓g_87_18, ↓l_97, ↓s_97, ↓n_97, ↓g_87_19, ↓p_87_19, ↓g_87_20, ↓p_87_20, ↓g_87_21, ↓l_98, ↓s_98, ↓n_98, ↓g_87_22, ↓l_99, ↓s_99, ↓n_99, ↓g_87_23, ↓l_100, ↓s_100, ↓n_100, ↓g_87_24, ↓l_101, ↓s_101, ↓n_101, zs, zb]
      refine ⟨by omega, by omega, fun c => ?_, fun c => ?_⟩
      · first | exact pub_no hC (by unfold R_heard; rw [if_pos q, e98, if_pos c]) rfl | exact fun M1 hk1 hM1 => lp c 64 0 none M1 (by omega) (hM1 88 (by decide)) hk1 (fun x _ q _ _ => hM1 x q)
      · first | exact pub_no hC (by unfold R_heard; rw [if_pos q, e98, if_pos c]) rfl | exact fun M1 hk1 hM1 => lp c 64 0 none M1 (by omega) (hM1 88 (by decide)) hk1 (fun x _ q _ _ => hM1 x q)
    have J14 : (0 ≤ s ∧ s ≤ 3) ∧ (0 ≤ g ∧ g ≤ 1) → X 14 [some (.inr (.inr (.inl 87))), some (.inl s), some (.inl g), some (.inl w), none, none, none, none] [] (zG, M) (0, 0) := by
      intro q
      refine bs_X11_heard_14 hX ?_
      simp only [bk_X11_heard_0, k_X11_heard_0, bk_X11_heard_7, k_X11_heard_7, bk_X11_heard_14, k_X11_heard_14, bk_X11_heard_24, k_X11_heard_24, bk_X11_heard_30, k_X11_heard_30, bk_X11_heard_45, k_X11_heard_45, bk_X11_heard_59, k_X11_heard_59, bk_X11_heard_81, k_X11_heard_81, bk_X11_heard_92, k_X11_heard_92, bk_X11_heard_93, k_X11_heard_93, bk_X11_heard_106, k_X11_heard_106, bk_X11_heard_108, k_X11_heard_108, bk_X11_heard_116, k_X11_heard_116, bk_X11_heard_125, k_X11_heard_125, bk_X11_heard_138, k_X11_heard_138, bk_X11_heard_140, k_X11_heard_140, ↓e_rk1, ↓e_rk0, ↓e_sk0, ↓e_sks, ↓e_ldi0, ↓e_ldis, ↓e_ldl0, ↓e_ldls, ↓e_lda0, ↓e_ldas, ↓e_ok0, ↓e_okss, ↓e_ok1i, ↓e_ok1r, ↓e_ok1n, ↓e_sti, ↓e_sta, ↓e_1, ↓e_2, ↓e_l1, ↓e_l2, ↓e_li, ↓e_sw0, ↓e_sws, ↓e_ceq, ↓e_cne, ↓e_clt, ↓e_cge, ↓e_cgt, ↓e_cle, ↓e_nil, ↓e_cons, ↓e_iconst, ↓e_bipush, ↓e_sipush, ↓e_ldc, ↓e_ldcw, ↓e_ldc2, ↓e_lconst, ↓e_iloadn, ↓e_iload, ↓e_lloadn, ↓e_lload, ↓e_aloadn, ↓e_aload, ↓e_istoren, ↓e_istore, ↓e_astoren, ↓e_astore, ↓e_add, ↓e_iinc, ↓e_iadd, ↓e_isub, ↓e_imul, ↓e_iand, ↓e_ior, ↓e_ixor, ↓e_ishl, ↓e_iushr, ↓e_idiv, ↓e_irem, ↓e_ineg, ↓e_i2l, ↓e_i2b, ↓e_i2s, ↓e_l2i, ↓e_land, ↓e_lor, ↓e_lshl, ↓e_lshr, ↓e_lushr, ↓e_lcmp, ↓e_dupi, ↓e_dupr, ↓e_popi, ↓e_dup2, ↓e_goto, ↓e_if, ↓e_icmp, ↓e_tsw, ↓e_lsw, ↓e_getf, ↓e_putf, ↓e_gets, ↓e_iald, ↓e_cald, ↓e_iast, ↓e_aald, ↓e_aast, ↓e_len, ↓e_copy, ↓e_abs, ↓e_max, ↓e_min, ↓e_iret, ↓e_aret, ↓e_vret, ↓e_is0, ↓e_is1, ↓e_is2, ↓e_is3, ↓e_is4, ↓e_iv1, ↓e_iv2, ↓e_iv3, ↓e_iv4, ↓e_iv5, ↓e_iv6, ↓rt_X11_heard, ↓reduceIte, Nat.reduceAdd, Nat.reduceEqDiff, ↓zcl0, ↓zclv, List.map_nil, List.sum_nil, List.map_cons, List.sum_cons, zcat, true_and, and_true, Nat.reduceLeDiff, Nat.reduceAdd, eq_self, forall_const, e_ok0, e_okss, e_ok1i, e_ok1r, e_ok1n, zl_m1, zl_0, zl_1, zl_2, zl_63, zq_0, zq_1, Int.reduceToNat, Int.reduceAdd, Int.reduceMul, Int.reduceSub, Int.reduceNeg, Int.reduceLT, Int.reduceLE, Int.reduceEq, not_false_eq_true, not_true_eq_false, false_implies, true_implies, implies_true, Int.reduceDiv, Int.reduceMod, zr8_zr, zr_zbo, z01_zbo, z01_0, z01_1, zbo_eq0, zup_eq, zup_o, zup_k, ne_eq, ↓ct_heard_isSheet, ↓r_isSheet, ↓B_isSheet, ↓ct_heard_isHead, ↓r_isHead, ↓B_isHead, ↓ct_heard_in, ↓r_in, ↓B_in, ↓ct_heard_keepAside, ↓r_keepAside, ↓B_keepAside, ↓ct_heard_isPut, ↓r_isPut, ↓B_isPut, ↓ct_heard_isTold, ↓r_isTold, ↓B_isTold, ↓ct_heard_finds, ↓r_finds, ↓B_finds, ↓v_87, ↓g_87_0, ↓l_88, ↓s_88, ↓n_88, ↓g_87_1, ↓l_89, ↓s_89, ↓n_89, ↓g_87_2, ↓l_90, ↓s_90, ↓n_90, ↓g_87_3, ↓p_87_3, ↓g_87_4, ↓l_91, ↓s_91, ↓n_91, ↓g_87_5, ↓p_87_5, ↓g_87_6, ↓p_87_6, ↓g_87_7, ↓p_87_7, ↓g_87_8, ↓p_87_8, ↓g_87_9, ↓p_87_9, ↓g_87_10, ↓p_87_10, ↓g_87_11, ↓l_92, ↓s_92, ↓n_92, ↓g_87_12, ↓l_93, ↓s_93, ↓n_93, ↓g_87_13, ↓p_87_13, ↓g_87_14, ↓l_94, ↓s_94, ↓n_94, ↓g_87_15, ↓p_87_15, ↓g_87_16, ↓l_95, ↓s_95, ↓n_95, ↓g_87_17, ↓l_96, ↓s_96, ↓n_96, ↓g_87_18, ↓l_97, ↓s_97, ↓n_97, ↓g_87_19, ↓p_87_19, ↓g_87_20, ↓p_87_20, ↓g_87_21, ↓l_98, ↓s_98, ↓n_98, ↓g_87_22, ↓l_99, ↓s_99, ↓n_99, ↓g_87_23, ↓l_100, ↓s_100, ↓n_100, ↓g_87_24, ↓l_101, ↓s_101, ↓n_101, zr_rg, h3, zr8_rg, h3, zr8_zr, zr_zbo, zbo_eq0]
      exact ⟨fun c => J24 (by omega), fun c => J30 (by omega)⟩
    have J7 : (0 ≤ s ∧ s ≤ 3) → X 7 [some (.inr (.inr (.inl 87))), some (.inl s), some (.inl g), some (.inl w), none, none, none, none] [] (zG, M) (0, 0) := by
      intro q
      refine bs_X11_heard_7 hX ?_
      simp only [bk_X11_heard_0, k_X11_heard_0, bk_X11_heard_7, k_X11_heard_7, bk_X11_heard_14, k_X11_heard_14, bk_X11_heard_24, k_X11_heard_24, bk_X11_heard_30, k_X11_heard_30, bk_X11_heard_45, k_X11_heard_45, bk_X11_heard_59, k_X11_heard_59, bk_X11_heard_81, k_X11_heard_81, bk_X11_heard_92, k_X11_heard_92, bk_X11_heard_93, k_X11_heard_93, bk_X11_heard_106, k_X11_heard_106, bk_X11_heard_108, k_X11_heard_108, bk_X11_heard_116, k_X11_heard_116, bk_X11_heard_125, k_X11_heard_125, bk_X11_heard_138, k_X11_heard_138, bk_X11_heard_140, k_X11_heard_140, ↓e_rk1, ↓e_rk0, ↓e_sk0, ↓e_sks, ↓e_ldi0, ↓e_ldis, ↓e_ldl0, ↓e_ldls, ↓e_lda0, ↓e_ldas, ↓e_ok0, ↓e_okss, ↓e_ok1i, ↓e_ok1r, ↓e_ok1n, ↓e_sti, ↓e_sta, ↓e_1, ↓e_2, ↓e_l1, ↓e_l2, ↓e_li, ↓e_sw0, ↓e_sws, ↓e_ceq, ↓e_cne, ↓e_clt, ↓e_cge, ↓e_cgt, ↓e_cle, ↓e_nil, ↓e_cons, ↓e_iconst, ↓e_bipush, ↓e_sipush, ↓e_ldc, ↓e_ldcw, ↓e_ldc2, ↓e_lconst, ↓e_iloadn, ↓e_iload, ↓e_lloadn, ↓e_lload, ↓e_aloadn, ↓e_aload, ↓e_istoren, ↓e_istore, ↓e_astoren, ↓e_astore, ↓e_add, ↓e_iinc, ↓e_iadd, ↓e_isub, ↓e_imul, ↓e_iand, ↓e_ior, ↓e_ixor, ↓e_ishl, ↓e_iushr, ↓e_idiv, ↓e_irem, ↓e_ineg, ↓e_i2l, ↓e_i2b, ↓e_i2s, ↓e_l2i, ↓e_land, ↓e_lor, ↓e_lshl, ↓e_lshr, ↓e_lushr, ↓e_lcmp, ↓e_dupi, ↓e_dupr, ↓e_popi, ↓e_dup2, ↓e_goto, ↓e_if, ↓e_icmp, ↓e_tsw, ↓e_lsw, ↓e_getf, ↓e_putf, ↓e_gets, ↓e_iald, ↓e_cald, ↓e_iast, ↓e_aald, ↓e_aast, ↓e_len, ↓e_copy, ↓e_abs, ↓e_max, ↓e_min, ↓e_iret, ↓e_aret, ↓e_vret, ↓e_is0, ↓e_is1, ↓e_is2, ↓e_is3, ↓e_is4, ↓e_iv1, ↓e_iv2, ↓e_iv3, ↓e_iv4, ↓e_iv5, ↓e_iv6, ↓rt_X11_heard, ↓reduceIte, Nat.reduceAdd, Nat.reduceEqDiff, ↓zcl0, ↓zclv, List.map_nil, List.sum_nil, List.map_cons, List.sum_cons, zcat, true_and, and_true, Nat.reduceLeDiff, Nat.reduceAdd, eq_self, forall_const, e_ok0, e_okss, e_ok1i, e_ok1r, e_ok1n, zl_m1, zl_0, zl_1, zl_2, zl_63, zq_0, zq_1, Int.reduceToNat, Int.reduceAdd, Int.reduceMul, Int.reduceSub, Int.reduceNeg, Int.reduceLT, Int.reduceLE, Int.reduceEq, not_false_eq_true, not_true_eq_false, false_implies, true_implies, implies_true, Int.reduceDiv, Int.reduceMod, zr8_zr, zr_zbo, z01_zbo, z01_0, z01_1, zbo_eq0, zup_eq, zup_o, zup_k, ne_eq, ↓ct_heard_isSheet, ↓r_isSheet, ↓B_isSheet, ↓ct_heard_isHead, ↓r_isHead, ↓B_isHead, ↓ct_heard_in, ↓r_in, ↓B_in, ↓ct_heard_keepAside, ↓r_keepAside, ↓B_keepAside, ↓ct_heard_isPut, ↓r_isPut, ↓B_isPut, ↓ct_heard_isTold, ↓r_isTold, ↓B_isTold, ↓ct_heard_finds, ↓r_finds, ↓B_finds, ↓v_87, ↓g_87_0, ↓l_88, ↓s_88, ↓n_88, ↓g_87_1, ↓l_89, ↓s_89, ↓n_89, ↓g_87_2, ↓l_90, ↓s_90, ↓n_90, ↓g_87_3, ↓p_87_3, ↓g_87_4, ↓l_91, ↓s_91, ↓n_91, ↓g_87_5, ↓p_87_5, ↓g_87_6, ↓p_87_6, ↓g_87_7, ↓p_87_7, ↓g_87_8, ↓p_87_8, ↓g_87_9, ↓p_87_9, ↓g_87_10, ↓p_87_10, ↓g_87_11, ↓l_92, ↓s_92, ↓n_92, ↓g_87_12, ↓l_93, ↓s_93, ↓n_93, ↓g_87_13, ↓p_87_13, ↓g_87_14, ↓l_94, ↓s_94, ↓n_94, ↓g_87_15, ↓p_87_15, ↓g_87_16, ↓l_95, ↓s_95, ↓n_95, ↓g_87_17, ↓l_96, ↓s_96, ↓n_96, ↓g_87_18, ↓l_97, ↓s_97, ↓n_97, ↓g_87_19, ↓p_87_19, ↓g_87_20, ↓p_87_20, ↓g_87_21, ↓l_98, ↓s_98, ↓n_98, ↓g_87_22, ↓l_99, ↓s_99, ↓n_99, ↓g_87_23, ↓l_100, ↓s_100, ↓n_100, ↓g_87_24, ↓l_101, ↓s_101, ↓n_101, zr_zbo, zbo_eq0]
      exact ⟨h2, fun c => J24 (by omega), fun c => J14 (by omega)⟩
    simp only [bk_X11_heard_0, k_X11_heard_0, bk_X11_heard_7, k_X11_heard_7, bk_X11_heard_14, k_X11_heard_14, bk_X11_heard_24, k_X11_heard_24, bk_X11_heard_30, k_X11_heard_30, bk_X11_heard_45, k_X11_heard_45, bk_X11_heard_59, k_X11_heard_59, bk_X11_heard_81, k_X11_heard_81, bk_X11_heard_92, k_X11_heard_92, bk_X11_heard_93, k_X11_heard_93, bk_X11_heard_106, k_X11_heard_106, bk_X11_heard_108, k_X11_heard_108, bk_X11_heard_116, k_X11_heard_116, bk_X11_heard_125, k_X11_heard_125, bk_X11_heard_138, k_X11_heard_138, bk_X11_heard_140, k_X11_heard_140, ↓e_rk1, ↓e_rk0, ↓e_sk0, ↓e_sks, ↓e_ldi0, ↓e_ldis, ↓e_ldl0, ↓e_ldls, ↓e_lda0, ↓e_ldas, ↓e_ok0, ↓e_okss, ↓e_ok1i, ↓e_ok1r, ↓e_ok1n, ↓e_sti, ↓e_sta, ↓e_1, ↓e_2, ↓e_l1, ↓e_l2, ↓e_li, ↓e_sw0, ↓e_sws, ↓e_ceq, ↓e_cne, ↓e_clt, ↓e_cge, ↓e_cgt, ↓e_cle, ↓e_nil, ↓e_cons, ↓e_iconst, ↓e_bipush, ↓e_sipush, ↓e_ldc, ↓e_ldcw, ↓e_ldc2, ↓e_lconst, ↓e_iloadn, ↓e_iload, ↓e_lloadn, ↓e_lload, ↓e_aloadn, ↓e_aload, ↓e_istoren, ↓e_istore, ↓e_astoren, ↓e_astore, ↓e_add, ↓e_iinc, ↓e_iadd, ↓e_isub, ↓e_imul, ↓e_iand, ↓e_ior, ↓e_ixor, ↓e_ishl, ↓e_iushr, ↓e_idiv, ↓e_irem, ↓e_ineg, ↓e_i2l, ↓e_i2b, ↓e_i2s, ↓e_l2i, ↓e_land, ↓e_lor, ↓e_lshl, ↓e_lshr, ↓e_lushr, ↓e_lcmp, ↓e_dupi, ↓e_dupr, ↓e_popi, ↓e_dup2, ↓e_goto, ↓e_if, ↓e_icmp, ↓e_tsw, ↓e_lsw, ↓e_getf, ↓e_putf, ↓e_gets, ↓e_iald, ↓e_cald, ↓e_iast, ↓e_aald, ↓e_aast, ↓e_len, ↓e_copy, ↓e_abs, ↓e_max, ↓e_min, ↓e_iret, ↓e_aret, ↓e_vret, ↓e_is0, ↓e_is1, ↓e_is2, ↓e_is3, ↓e_is4, ↓e_iv1, ↓e_iv2, ↓e_iv3, ↓e_iv4, ↓e_iv5, ↓e_iv6, ↓rt_X11_heard, ↓reduceIte, Nat.reduceAdd, Nat.reduceEqDiff, ↓zcl0, ↓zclv, List.map_nil, List.sum_nil, List.map_cons, List.sum_cons, zcat, true_and, and_true, Nat.reduceLeDiff, Nat.reduceAdd, eq_self, forall_const, e_ok0, e_okss, e_ok1i, e_ok1r, e_ok1n, zl_m1, zl_0, zl_1, zl_2, zl_63, zq_0, zq_1, Int.reduceToNat, Int.reduceAdd, Int.reduceMul, Int.reduceSub, Int.reduceNeg, Int.reduceLT, Int.reduceLE, Int.reduceEq, not_false_eq_true, not_true_eq_false, false_implies, true_implies, implies_true, Int.reduceDiv, Int.reduceMod, zr8_zr, zr_zbo, z01_zbo, z01_0, z01_1, zbo_eq0, zup_eq, zup_o, zup_k, ne_eq, ↓ct_heard_isSheet, ↓r_isSheet, ↓B_isSheet, ↓ct_heard_isHead, ↓r_isHead, ↓B_isHead, ↓ct_heard_in, ↓r_in, ↓B_in, ↓ct_heard_keepAside, ↓r_keepAside, ↓B_keepAside, ↓ct_heard_isPut, ↓r_isPut, ↓B_isPut, ↓ct_heard_isTold, ↓r_isTold, ↓B_isTold, ↓ct_heard_finds, ↓r_finds, ↓B_finds, ↓v_87, ↓g_87_0, ↓l_88, ↓s_88, ↓n_88, ↓g_87_1, ↓l_89, ↓s_89, ↓n_89, ↓g_87_2, ↓l_90, ↓s_90, ↓n_90, ↓g_87_3, ↓p_87_3, ↓g_87_4, ↓l_91, ↓s_91, ↓n_91, ↓g_87_5, ↓p_87_5, ↓g_87_6, ↓p_87_6, ↓g_87_7, ↓p_87_7, ↓g_87_8, ↓p_87_8, ↓g_87_9, ↓p_87_9, ↓g_87_10, ↓p_87_10, ↓g_87_11, ↓l_92, ↓s_92, ↓n_92, ↓g_87_12, ↓l_93, ↓s_93, ↓n_93, ↓g_87_13, ↓p_87_13, ↓g_87_14, ↓l_94, ↓s_94, ↓n_94, ↓g_87_15, ↓p_87_15, ↓g_87_16, ↓l_95, ↓s_95, ↓n_95, ↓g_87_17, ↓l_96, ↓s_96, ↓n_96, ↓g_87_18, ↓l_97, ↓s_97, ↓n_97, ↓g_87_19, ↓p_87_19, ↓g_87_20, ↓p_87_20, ↓g_87_21, ↓l_98, ↓s_98, ↓n_98, ↓g_87_22, ↓l_99, ↓s_99, ↓n_99, ↓g_87_23, ↓l_100, ↓s_100, ↓n_100, ↓g_87_24, ↓l_101, ↓s_101, ↓n_101, zr_zbo, zbo_eq0]
    exact ⟨h1, fun c => J24 (by omega), fun c => J7 (by omega)⟩
def whw (d f : Nat → Int) (e : Int) (n : Nat) : Nat → Int
  | 0 => 0
  | k + 1 => zor (whw d f e n k) (if tlb (up1 d (162 + 3 * e).toNat (k : Int)) f (ei d e 2) n = true then zshl 1 k else 0)
def whs (S : ZMm) (s e : Int) : Int := whw (S 88) (fun k => S 100 ((40 * s).toNat + k)) e (S 99 s.toNat).toNat 7
def R_which (S : ZMm) (s e : Int) : Int × ZMm := if (0 ≤ s ∧ s ≤ 3) ∧ 0 ≤ e ∧ e < S 88 0 then (if S 98 s.toNat = 0 then no S 2 else (whs S s e, S)) else no S 1
def B_which (s : Int) (e : Int) (M : Nat → Nat → Int) (post : Option ZV → (Nat → Nat → Int) → Prop) : Prop := rg s ∧ rg e ∧ pub M (R_which (st M) s e) post
def C_which : ZC := fun as h post => match as with
  | [.inr (.inr (.inl 87)), .inl s, .inl e] => h.1 = zG ∧ B_which s e h.2 (fun v M => post v (zG, M))
  | _ => False
theorem r_which {s : Int} {e : Int} {M : Nat → Nat → Int} {post : Option ZV → ZH → Prop} : C_which [.inr (.inr (.inl 87)), .inl s, .inl e] (zG, M) post = B_which s e M (fun v M => post v (zG, M)) := by show (zG = zG ∧ _) = _; simp
def ct_which : Nat → ZC := fun n => if n = 210 then C_isSheet else if n = 123 then C_isEngineer else if n = 130 then C_keepAside else if n = 126 then C_of else if n = 191 then C_isTold else if n = 119 then C_finds else fun _ _ _ => False
theorem ct_which_isSheet {as : List ZV} {h : ZH} {post : Option ZV → ZH → Prop} : ct_which 210 as h post = C_isSheet as h post := rfl
theorem ct_which_isEngineer {as : List ZV} {h : ZH} {post : Option ZV → ZH → Prop} : ct_which 123 as h post = C_isEngineer as h post := rfl
theorem ct_which_keepAside {as : List ZV} {h : ZH} {post : Option ZV → ZH → Prop} : ct_which 130 as h post = C_keepAside as h post := rfl
theorem ct_which_of {as : List ZV} {h : ZH} {post : Option ZV → ZH → Prop} : ct_which 126 as h post = C_of as h post := rfl
theorem ct_which_isTold {as : List ZV} {h : ZH} {post : Option ZV → ZH → Prop} : ct_which 191 as h post = C_isTold as h post := rfl
theorem ct_which_finds {as : List ZV} {h : ZH} {post : Option ZV → ZH → Prop} : ct_which 119 as h post = C_finds as h post := rfl
theorem c_which {E : ZE} {d : Nat} (hd : 9 ≤ d) : zMet E d mX11_which C_which := by
  refine zmet_of (o := 11) (ini := false) (CT := ct_which) gd_X11_which rfl (fun h => by cases h) (by omega) ?_ ?_
  · intro n as h post hh
    unfold ct_which at hh
    by_cases c : n = 210
    · subst c; exact ⟨gd_X11_isSheet, 2, by omega, c_isSheet (by omega)⟩
    rw [if_neg c] at hh
    by_cases c : n = 123
    · subst c; exact ⟨gd_X11_isEngineer, 2, by omega, c_isEngineer (by omega)⟩
    rw [if_neg c] at hh
    by_cases c : n = 130
    · subst c; exact ⟨gd_X11_keepAside, 1, by omega, c_keepAside (by omega)⟩
    rw [if_neg c] at hh
    by_cases c : n = 126
    · subst c; exact ⟨gd_X11_of, 1, by omega, c_of (by omega)⟩
    rw [if_neg c] at hh
    by_cases c : n = 191
    · subst c; exact ⟨gd_X11_isTold, 8, by omega, c_isTold (by omega)⟩
    rw [if_neg c] at hh
    by_cases c : n = 119
    · subst c; exact ⟨gd_X11_finds, 1, by omega, c_finds (by omega)⟩
    rw [if_neg c] at hh
    exact hh.elim
  intro as h post hC
  match as, hC with
  | [.inr (.inr (.inl 87)), .inl s, .inl e], hC =>
    refine ⟨Nat.le_of_ble_eq_true rfl, fun X hX => bs_X11_which_0 hX ?_⟩
    obtain ⟨G, M⟩ := h
    obtain ⟨hG, hC⟩ := hC
    dsimp only at hG
    subst hG
    simp only [B_which] at hC
    show bk_X11_which_0 E ct_which X _ [some (.inr (.inr (.inl 87))), some (.inl s), some (.inl e), none, none] [] (zG, M) (0, 0)
    obtain ⟨h1, h2, hC⟩ := hC
    have vd : Vd (M 88) := hC.1.1
    have v0 := vd.1
    have v1 := vd.2.1
    have y1 : st M 88 1 ≤ 9999 := hC.1.2.1
    have m15 : M 87 15 = -1 := hC.2.1
    have s1 : st M 88 1 = M 88 1 := rfl
    have s0 : st M 88 0 = M 88 0 := rfl
    have sh := hC.1.2.2.2.2.2.1
    have hr : ∀ k, rg (M 100 k) := hC.1.2.2.2.2.2.2.1
    have rm : rg (-1) := ⟨by omega, by omega⟩
    have J15 : ¬ ((0 ≤ s ∧ s ≤ 3) ∧ 0 ≤ e ∧ e < M 88 0) → X 15 [some (.inr (.inr (.inl 87))), some (.inl s), some (.inl e), none, none] [] (zG, M) (0, 0) := by
      intro q
      refine bs_X11_which_15 hX ?_
      simp only [bk_X11_which_0, k_X11_which_0, bk_X11_which_7, k_X11_which_7, bk_X11_which_15, k_X11_which_15, bk_X11_which_21, k_X11_which_21, bk_X11_which_36, k_X11_which_36, bk_X11_which_45, k_X11_which_45, bk_X11_which_78, k_X11_which_78, bk_X11_which_88, k_X11_which_88, bk_X11_which_89, k_X11_which_89, bk_X11_which_97, k_X11_which_97, ↓e_rk1, ↓e_rk0, ↓e_sk0, ↓e_sks, ↓e_ldi0, ↓e_ldis, ↓e_ldl0, ↓e_ldls, ↓e_lda0, ↓e_ldas, ↓e_ok0, ↓e_okss, ↓e_ok1i, ↓e_ok1r, ↓e_ok1n, ↓e_sti, ↓e_sta, ↓e_1, ↓e_2, ↓e_l1, ↓e_l2, ↓e_li, ↓e_sw0, ↓e_sws, ↓e_ceq, ↓e_cne, ↓e_clt, ↓e_cge, ↓e_cgt, ↓e_cle, ↓e_nil, ↓e_cons, ↓e_iconst, ↓e_bipush, ↓e_sipush, ↓e_ldc, ↓e_ldcw, ↓e_ldc2, ↓e_lconst, ↓e_iloadn, ↓e_iload, ↓e_lloadn, ↓e_lload, ↓e_aloadn, ↓e_aload, ↓e_istoren, ↓e_istore, ↓e_astoren, ↓e_astore, ↓e_add, ↓e_iinc, ↓e_iadd, ↓e_isub, ↓e_imul, ↓e_iand, ↓e_ior, ↓e_ixor, ↓e_ishl, ↓e_iushr, ↓e_idiv, ↓e_irem, ↓e_ineg, ↓e_i2l, ↓e_i2b, ↓e_i2s, ↓e_l2i, ↓e_land, ↓e_lor, ↓e_lshl, ↓e_lshr, ↓e_lushr, ↓e_lcmp, ↓e_dupi, ↓e_dupr, ↓e_popi, ↓e_dup2, ↓e_goto, ↓e_if, ↓e_icmp, ↓e_tsw, ↓e_lsw, ↓e_getf, ↓e_putf, ↓e_gets, ↓e_iald, ↓e_cald, ↓e_iast, ↓e_aald, ↓e_aast, ↓e_len, ↓e_copy, ↓e_abs, ↓e_max, ↓e_min, ↓e_iret, ↓e_aret, ↓e_vret, ↓e_is0, ↓e_is1, ↓e_is2, ↓e_is3, ↓e_is4, ↓e_iv1, ↓e_iv2, ↓e_iv3, ↓e_iv4, ↓e_iv5, ↓e_iv6, ↓rt_X11_which, ↓reduceIte, Nat.reduceAdd, Nat.reduceEqDiff, ↓zcl0, ↓zclv, List.map_nil, List.sum_nil, List.map_cons, List.sum_cons, zcat, true_and, and_true, Nat.reduceLeDiff, Nat.reduceAdd, eq_self, forall_const, e_ok0, e_okss, e_ok1i, e_ok1r, e_ok1n, zl_0, zl_1, zl_2, zl_3, zl_6, zl_162, Int.reduceToNat, Int.reduceAdd, Int.reduceMul, Int.reduceSub, Int.reduceNeg, Int.reduceLT, Int.reduceLE, Int.reduceEq, not_false_eq_true, not_true_eq_false, false_implies, true_implies, implies_true, Int.reduceDiv, Int.reduceMod, zr8_zr, zr_zbo, z01_zbo, z01_0, z01_1, zbo_eq0, zup_eq, zup_o, zup_k, ne_eq, ↓ct_which_isSheet, ↓r_isSheet, ↓B_isSheet, ↓ct_which_isEngineer, ↓r_isEngineer, ↓B_isEngineer, ↓ct_which_keepAside, ↓r_keepAside, ↓B_keepAside, ↓ct_which_of, ↓r_of, ↓B_of, ↓ct_which_isTold, ↓r_isTold, ↓B_isTold, ↓ct_which_finds, ↓r_finds, ↓B_finds, ↓v_87, ↓g_87_0, ↓l_88, ↓s_88, ↓n_88, ↓g_87_1, ↓l_89, ↓s_89, ↓n_89, ↓g_87_2, ↓l_90, ↓s_90, ↓n_90, ↓g_87_3, ↓p_87_3, ↓g_87_4, ↓l_91, ↓s_91, ↓n_91, ↓g_87_5, ↓p_87_5, ↓g_87_6, ↓p_87_6, ↓g_87_7, ↓p_87_7, ↓g_87_8, ↓p_87_8, ↓g_87_9, ↓p_87_9, ↓g_87_10, ↓p_87_10, ↓g_87_11, ↓l_92, ↓s_92, ↓n_92, ↓g_87_12, ↓l_93, ↓s_93, ↓n_93, ↓g_87_13, ↓p_87_13, ↓g_87_14, ↓l_94, ↓s_94, ↓n_94, ↓g_87_15, ↓p_87_15, ↓g_87_16, ↓l_95, ↓s_95, ↓n_95, ↓g_87_17, ↓l_96, ↓s_96, ↓n_96, ↓g_87_18, ↓l_97, ↓s_97, ↓n_97, ↓g_87_19, ↓p_87_19, ↓g_87_20, ↓p_87_20, ↓g_87_21, ↓l_98, ↓s_98, ↓n_98, ↓g_87_22, ↓l_99, ↓s_99, ↓n_99, ↓g_87_23, ↓l_100, ↓s_100, ↓n_100, ↓g_87_24, ↓l_101, ↓s_101, ↓n_101]
      exact pub_no hC (by unfold R_which; rw [s0, if_neg q]) rfl
    have J21 : ((0 ≤ s ∧ s ≤ 3) ∧ 0 ≤ e ∧ e < M 88 0) → X 21 [some (.inr (.inr (.inl 87))), some (.inl s), some (.inl e), none, none] [] (zG, M) (0, 0) := by
      intro q
      obtain ⟨bs, n1, n2⟩ := sh s.toNat (by omega)
      have e98 : st M 98 s.toNat = M 98 s.toNat := rfl
      have e99 : st M 99 s.toNat = M 99 s.toNat := rfl
      rw [e98] at bs
      rw [e99] at n1 n2
      have zs : zr s = s := zr_of (by omega) (by omega)
      have zb : zr (M 98 s.toNat) = M 98 s.toNat := zr_of (by omega) (by omega)
      have ze : zr (162 + 3 * e) = 162 + 3 * e := zr_of (by omega) (by omega)
      obtain ⟨F, hF⟩ : ∃ F : Nat → Int, (fun k => M 100 ((40 * s).toNat + k)) = F := ⟨_, rfl⟩
      obtain ⟨n, hnn⟩ : ∃ n : Nat, (M 99 s.toNat).toNat = n := ⟨_, rfl⟩
      have hh : whs (st M) s e = whw (M 88) F e n 7 := by rw [← hF, ← hnn]; rfl
      have eb := (Vd_ei vd (e := e) (by omega) (by omega))
      have lp : ¬ M 98 s.toNat = 0 → ∀ (j k : Nat) (M' : ZMm), j + k = 7 → M' 88 = M 88 → (∀ i, i < 186 → M' 90 i = M 88 i) → (∀ x, ¬ x = 88 → ¬ x = 90 → ¬ x = 92 → ¬ x = 94 → M' x = M x) → X 45 [some (.inr (.inr (.inl 87))), some (.inl s), some (.inl e), some (.inl (whw (M 88) F e n k)), some (.inl ((k : Int)))] [] (zG, M') (0, 0) := by
        intro hb j
        induction j with
        | zero =>
          intro k M' hk hd ha hM
          have ek : k = 7 := by omega
          subst ek
          refine bs_X11_which_45 hX ?_
          have zk : zr ((7 : Nat) : Int) = 7 := rfl
          simp only [bk_X11_which_0, k_X11_which_0, bk_X11_which_7, k_X11_which_7, bk_X11_which_15, k_X11_which_15, bk_X11_which_21, k_X11_which_21, bk_X11_which_36, k_X11_which_36, bk_X11_which_45, k_X11_which_45, bk_X11_which_78, k_X11_which_78, bk_X11_which_88, k_X11_which_88, bk_X11_which_89, k_X11_which_89, bk_X11_which_97, k_X11_which_97, ↓e_rk1, ↓e_rk0, ↓e_sk0, ↓e_sks, ↓e_ldi0, ↓e_ldis, ↓e_ldl0, ↓e_ldls, ↓e_lda0, ↓e_ldas, ↓e_ok0, ↓e_okss, ↓e_ok1i, ↓e_ok1r, ↓e_ok1n, ↓e_sti, ↓e_sta, ↓e_1, ↓e_2, ↓e_l1, ↓e_l2, ↓e_li, ↓e_sw0, ↓e_sws, ↓e_ceq, ↓e_cne, ↓e_clt, ↓e_cge, ↓e_cgt, ↓e_cle, ↓e_nil, ↓e_cons, ↓e_iconst, ↓e_bipush, ↓e_sipush, ↓e_ldc, ↓e_ldcw, ↓e_ldc2, ↓e_lconst, ↓e_iloadn, ↓e_iload, ↓e_lloadn, ↓e_lload, ↓e_aloadn, ↓e_aload, ↓e_istoren, ↓e_istore, ↓e_astoren, ↓e_astore, ↓e_add, ↓e_iinc, ↓e_iadd, ↓e_isub, ↓e_imul, ↓e_iand, ↓e_ior, ↓e_ixor, ↓e_ishl, ↓e_iushr, ↓e_idiv, ↓e_irem, ↓e_ineg, ↓e_i2l, ↓e_i2b, ↓e_i2s, ↓e_l2i, ↓e_land, ↓e_lor, ↓e_lshl, ↓e_lshr, ↓e_lushr, ↓e_lcmp, ↓e_dupi, ↓e_dupr, ↓e_popi, ↓e_dup2, ↓e_goto, ↓e_if, ↓e_icmp, ↓e_tsw, ↓e_lsw, ↓e_getf, ↓e_putf, ↓e_gets, ↓e_iald, ↓e_cald, ↓e_iast, ↓e_aald, ↓e_aast, ↓e_len, ↓e_copy, ↓e_abs, ↓e_max, ↓e_min, ↓e_iret, ↓e_aret, ↓e_vret, ↓e_is0, ↓e_is1, ↓e_is2, ↓e_is3, ↓e_is4, ↓e_iv1, ↓e_iv2, ↓e_iv3, ↓e_iv4, ↓e_iv5, ↓e_iv6, ↓rt_X11_which, ↓reduceIte, Nat.reduceAdd, Nat.reduceEqDiff, ↓zcl0, ↓zclv, List.map_nil, List.sum_nil, List.map_cons, List.sum_cons, zcat, true_and, and_true, Nat.reduceLeDiff, Nat.reduceAdd, eq_self, forall_const, e_ok0, e_okss, e_ok1i, e_ok1r, e_ok1n, zl_0, zl_1, zl_2, zl_3, zl_6, zl_162, Int.reduceToNat, Int.reduceAdd, Int.reduceMul, Int.reduceSub, Int.reduceNeg, Int.reduceLT, Int.reduceLE, Int.reduceEq, not_false_eq_true, not_true_eq_false, false_implies, true_implies, implies_true, Int.reduceDiv, Int.reduceMod, zr8_zr, zr_zbo, z01_zbo, z01_0, z01_1, zbo_eq0, zup_eq, zup_o, zup_k, ne_eq, ↓ct_which_isSheet, ↓r_isSheet, ↓B_isSheet, ↓ct_which_isEngineer, ↓r_isEngineer, ↓B_isEngineer, ↓ct_which_keepAside, ↓r_keepAside, ↓B_keepAside, ↓ct_which_of, ↓r_of, ↓B_of, ↓ct_which_isTold, ↓r_isTold, ↓B_isTold, ↓ct_which_finds, ↓r_finds, ↓B_finds, ↓v_87, ↓g_87_0, ↓l_88, ↓s_88, ↓n_88, ↓g_87_1, ↓l_89, ↓s_89, ↓n_89, ↓g_87_2, ↓l_90, ↓s_90, ↓n_90, ↓g_87_3, ↓p_87_3, ↓g_87_4, ↓l_91, ↓s_91, ↓n_91, ↓g_87_5, ↓p_87_5, ↓g_87_6, ↓p_87_6, ↓g_87_7, ↓p_87_7, ↓g_87_8, ↓p_87_8, ↓g_87_9, ↓p_87_9, ↓g_87_10, ↓p_87_10, ↓g_87_11, ↓l_92, ↓s_92, ↓n_92, ↓g_87_12, ↓l_93, ↓s_93, ↓n_93, ↓g_87_13, ↓p_87_13, ↓g_87_14, ↓l_94, ↓s_94, ↓n_94, ↓g_87_15, ↓p_87_15, ↓g_87_16, ↓l_95, ↓s_95, ↓n_95, ↓g_87_17, ↓l_96, ↓s_96, ↓n_96, ↓g_87_18, ↓l_97, ↓s_97, ↓n_97, ↓g_87_19, ↓p_87_19, ↓g_87_20, ↓p_87_20, ↓g_87_21, ↓l_98, ↓s_98, ↓n_98, ↓g_87_22, ↓l_99, ↓s_99, ↓n_99, ↓g_87_23, ↓l_100, ↓s_100, ↓n_100, ↓g_87_24, ↓l_101, ↓s_101, ↓n_101, zk]
          exact pub_sm hC hM hd (by unfold R_which; rw [s0, if_pos q, e98, if_neg hb, hh])
        | succ j ih =>
          intro k M' hk hd ha hM
          refine bs_X11_which_45 hX ?_
          have zk : zr (k : Int) = k := zr_of (by omega) (by omega)
          have lk : (6 < (k : Int)) = False := eq_false (by omega)
          have go : ∀ (t : Int) (M2 : ZMm), t = zbo (tlb (up1 (M 88) (162 + 3 * e).toNat (k : Int)) F (ei (M 88) e 2) n = true) → M2 88 = M 88 → (∀ i, i < 186 → M2 90 i = M 88 i) → (∀ x, ¬ x = 88 → ¬ x = 90 → ¬ x = 92 → ¬ x = 94 → M2 x = M x) → X 78 [some (.inr (.inr (.inl 87))), some (.inl s), some (.inl e), some (.inl (whw (M 88) F e n k)), some (.inl ((k : Int)))] [.inl (t), .inl (whw (M 88) F e n k)] (zG, M2) (0, 0) := by
            intro t M2 ht hd2 ha2 hM2
            refine bs_X11_which_78 hX ?_
            have nx := ih (k + 1) M2 (by omega) hd2 ha2 hM2
            by_cases c : tlb (up1 (M 88) (162 + 3 * e).toNat (k : Int)) F (ei (M 88) e 2) n = true
            · rw [zbo_t c] at ht
              subst ht
              simp only [whw, if_pos c] at nx
              simp only [bk_X11_which_0, k_X11_which_0, bk_X11_which_7, k_X11_which_7, bk_X11_which_15, k_X11_which_15, bk_X11_which_21, k_X11_which_21, bk_X11_which_36, k_X11_which_36, bk_X11_which_45, k_X11_which_45, bk_X11_which_78, k_X11_which_78, bk_X11_which_88, k_X11_which_88, bk_X11_which_89, k_X11_which_89, bk_X11_which_97, k_X11_which_97, ↓e_rk1, ↓e_rk0, ↓e_sk0, ↓e_sks, ↓e_ldi0, ↓e_ldis, ↓e_ldl0, ↓e_ldls, ↓e_lda0, ↓e_ldas, ↓e_ok0, ↓e_okss, ↓e_ok1i, ↓e_ok1r, ↓e_ok1n, ↓e_sti, ↓e_sta, ↓e_1, ↓e_2, ↓e_l1, ↓e_l2, ↓e_li, ↓e_sw0, ↓e_sws, ↓e_ceq, ↓e_cne, ↓e_clt, ↓e_cge, ↓e_cgt, ↓e_cle, ↓e_nil, ↓e_cons, ↓e_iconst, ↓e_bipush, ↓e_sipush, ↓e_ldc, ↓e_ldcw, ↓e_ldc2, ↓e_lconst, ↓e_iloadn, ↓e_iload, ↓e_lloadn, ↓e_lload, ↓e_aloadn, ↓e_aload, ↓e_istoren, ↓e_istore, ↓e_astoren, ↓e_astore, ↓e_add, ↓e_iinc, ↓e_iadd, ↓e_isub, ↓e_imul, ↓e_iand, ↓e_ior, ↓e_ixor, ↓e_ishl, ↓e_iushr, ↓e_idiv, ↓e_irem, ↓e_ineg, ↓e_i2l, ↓e_i2b, ↓e_i2s, ↓e_l2i, ↓e_land, ↓e_lor, ↓e_lshl, ↓e_lshr, ↓e_lushr, ↓e_lcmp, ↓e_dupi, ↓e_dupr, ↓e_popi, ↓e_dup2, ↓e_goto, ↓e_if, ↓e_icmp, ↓e_tsw, ↓e_lsw, ↓e_getf, ↓e_putf, ↓e_gets, ↓e_iald, ↓e_cald, ↓e_iast, ↓e_aald, ↓e_aast, ↓e_len, ↓e_copy, ↓e_abs, ↓e_max, ↓e_min, ↓e_iret, ↓e_aret, ↓e_vret, ↓e_is0, ↓e_is1, ↓e_is2, ↓e_is3, ↓e_is4, ↓e_iv1, ↓e_iv2, ↓e_iv3, ↓e_iv4, ↓e_iv5, ↓e_iv6, ↓rt_X11_which, ↓reduceIte, Nat.reduceAdd, Nat.reduceEqDiff, ↓zcl0, ↓zclv, List.map_nil, List.sum_nil, List.map_cons, List.sum_cons, zcat, true_and, and_true, Nat.reduceLeDiff, Nat.reduceAdd, eq_self, forall_const, e_ok0, e_okss, e_ok1i, e_ok1r, e_ok1n, zl_0, zl_1, zl_2, zl_3, zl_6, zl_162, Int.reduceToNat, Int.reduceAdd, Int.reduceMul, Int.reduceSub, Int.reduceNeg, Int.reduceLT, Int.reduceLE, Int.reduceEq, not_false_eq_true, not_true_eq_false, false_implies, true_implies, implies_true, Int.reduceDiv, Int.reduceMod, zr8_zr, zr_zbo, z01_zbo, z01_0, z01_1, zbo_eq0, zup_eq, zup_o, zup_k, ne_eq, ↓ct_which_isSheet, ↓r_isSheet, ↓B_isSheet, ↓ct_which_isEngineer, ↓r_isEngineer, ↓B_isEngineer, ↓ct_which_keepAside, ↓r_keepAside, ↓B_keepAside, ↓ct_which_of, ↓r_of, ↓B_of, ↓ct_which_isTold, ↓r_isTold, ↓B_isTold, ↓ct_which_finds, ↓r_finds, ↓B_finds, ↓v_87, ↓g_87_0, ↓l_88, ↓s_88, ↓n_88, ↓g_87_1, ↓l_89, ↓s_89, ↓n_89, ↓g_87_2, ↓l_90, ↓s_90, ↓n_90, ↓g_87_3, ↓p_87_3, ↓g_87_4, ↓l_91, ↓s_91, ↓n_91, ↓g_87_5, ↓p_87_5, ↓g_87_6, ↓p_87_6, ↓g_87_7, ↓p_87_7, ↓g_87_8, ↓p_87_8, ↓g_87_9, ↓p_87_9, ↓g_87_10, ↓p_87_10, ↓g_87_11, ↓l_92, ↓s_92, ↓n_92, ↓g_87_12, ↓l_93, ↓s_93, ↓n_93, ↓g_87_13, ↓p_87_13, ↓g_87_14, ↓l_94, ↓s_94, ↓n_94, ↓g_87_15, ↓p_87_15, ↓g_87_16, ↓l_95, ↓s_95, ↓n_95, ↓g_87_17, ↓l_96, ↓s_96, ↓n_96, ↓g_87_18, ↓l_97, ↓s_97, ↓n_97, ↓g_87_19, ↓p_87_19, ↓g_87_20, ↓p_87_20, ↓g_87_21, ↓l_98, ↓s_98, ↓n_98, ↓g_87_22, ↓l_99, ↓s_99, ↓n_99, ↓g_87_23, ↓l_100, ↓s_100, ↓n_100, ↓g_87_24, ↓l_101, ↓s_101, ↓n_101]
              exact nx
            · rw [zbo_f c] at ht
              subst ht
              simp only [whw, if_neg c] at nx
              simp only [bk_X11_which_0, k_X11_which_0, bk_X11_which_7, k_X11_which_7, bk_X11_which_15, k_X11_which_15, bk_X11_which_21, k_X11_which_21, bk_X11_which_36, k_X11_which_36, bk_X11_which_45, k_X11_which_45, bk_X11_which_78, k_X11_which_78, bk_X11_which_88, k_X11_which_88, bk_X11_which_89, k_X11_which_89, bk_X11_which_97, k_X11_which_97, ↓e_rk1, ↓e_rk0, ↓e_sk0, ↓e_sks, ↓e_ldi0, ↓e_ldis, ↓e_ldl0, ↓e_ldls, ↓e_lda0, ↓e_ldas, ↓e_ok0, ↓e_okss, ↓e_ok1i, ↓e_ok1r, ↓e_ok1n, ↓e_sti, ↓e_sta, ↓e_1, ↓e_2, ↓e_l1, ↓e_l2, ↓e_li, ↓e_sw0, ↓e_sws, ↓e_ceq, ↓e_cne, ↓e_clt, ↓e_cge, ↓e_cgt, ↓e_cle, ↓e_nil, ↓e_cons, ↓e_iconst, ↓e_bipush, ↓e_sipush, ↓e_ldc, ↓e_ldcw, ↓e_ldc2, ↓e_lconst, ↓e_iloadn, ↓e_iload, ↓e_lloadn, ↓e_lload, ↓e_aloadn, ↓e_aload, ↓e_istoren, ↓e_istore, ↓e_astoren, ↓e_astore, ↓e_add, ↓e_iinc, ↓e_iadd, ↓e_isub, ↓e_imul, ↓e_iand, ↓e_ior, ↓e_ixor, ↓e_ishl, ↓e_iushr, ↓e_idiv, ↓e_irem, ↓e_ineg, ↓e_i2l, ↓e_i2b, ↓e_i2s, ↓e_l2i, ↓e_land, ↓e_lor, ↓e_lshl, ↓e_lshr, ↓e_lushr, ↓e_lcmp, ↓e_dupi, ↓e_dupr, ↓e_popi, ↓e_dup2, ↓e_goto, ↓e_if, ↓e_icmp, ↓e_tsw, ↓e_lsw, ↓e_getf, ↓e_putf, ↓e_gets, ↓e_iald, ↓e_cald, ↓e_iast, ↓e_aald, ↓e_aast, ↓e_len, ↓e_copy, ↓e_abs, ↓e_max, ↓e_min, ↓e_iret, ↓e_aret, ↓e_vret, ↓e_is0, ↓e_is1, ↓e_is2, ↓e_is3, ↓e_is4, ↓e_iv1, ↓e_iv2, ↓e_iv3, ↓e_iv4, ↓e_iv5, ↓e_iv6, ↓rt_X11_which, ↓reduceIte, Nat.reduceAdd, Nat.reduceEqDiff, ↓zcl0, ↓zclv, List.map_nil, List.sum_nil, List.map_cons, List.sum_cons, zcat, true_and, and_true, Nat.reduceLeDiff, Nat.reduceAdd, eq_self, forall_const, e_ok0, e_okss, e_ok1i, e_ok1r, e_ok1n, zl_0, zl_1, zl_2, zl_3, zl_6, zl_162, Int.reduceToNat, Int.reduceAdd, Int.reduceMul, Int.reduceSub, Int.reduceNeg, Int.reduceLT, Int.reduceLE, Int.reduceEq, not_false_eq_true, not_true_eq_false, false_implies, true_implies, implies_true, Int.reduceDiv, Int.reduceMod, zr8_zr, zr_zbo, z01_zbo, z01_0, z01_1, zbo_eq0, zup_eq, zup_o, zup_k, ne_eq, ↓ct_which_isSheet, ↓r_isSheet, ↓B_isSheet, ↓ct_which_isEngineer, ↓r_isEngineer, ↓B_isEngineer, ↓ct_which_keepAside, ↓r_keepAside, ↓B_keepAside, ↓ct_which_of, ↓r_of, ↓B_of, ↓ct_which_isTold, ↓r_isTold, ↓B_isTold, ↓ct_which_finds, ↓r_finds, ↓B_finds, ↓v_87, ↓g_87_0, ↓l_88, ↓s_88, ↓n_88, ↓g_87_1, ↓l_89, ↓s_89, ↓n_89, ↓g_87_2, ↓l_90, ↓s_90, ↓n_90, ↓g_87_3, ↓p_87_3, ↓g_87_4, ↓l_91, ↓s_91, ↓n_91, ↓g_87_5, ↓p_87_5, ↓g_87_6, ↓p_87_6, ↓g_87_7, ↓p_87_7, ↓g_87_8, ↓p_87_8, ↓g_87_9, ↓p_87_9, ↓g_87_10, ↓p_87_10, ↓g_87_11, ↓l_92, ↓s_92, ↓n_92, ↓g_87_12, ↓l_93, ↓s_93, ↓n_93, ↓g_87_13, ↓p_87_13, ↓g_87_14, ↓l_94, ↓s_94, ↓n_94, ↓g_87_15, ↓p_87_15, ↓g_87_16, ↓l_95, ↓s_95, ↓n_95, ↓g_87_17, ↓l_96, ↓s_96, ↓n_96, ↓g_87_18, ↓l_97, ↓s_97, ↓n_97, ↓g_87_19, ↓p_87_19, ↓g_87_20, ↓p_87_20, ↓g_87_21, ↓l_98, ↓s_98, ↓n_98, ↓g_87_22, ↓l_99, ↓s_99, ↓n_99, ↓g_87_23, ↓l_100, ↓s_100, ↓n_100, ↓g_87_24, ↓l_101, ↓s_101, ↓n_101]
              exact nx
          simp only [bk_X11_which_0, k_X11_which_0, bk_X11_which_7, k_X11_which_7, bk_X11_which_15, k_X11_which_15, bk_X11_which_21, k_X11_which_21, bk_X11_which_36, k_X11_which_36, bk_X11_which_45, k_X11_which_45, bk_X11_which_78, k_X11_which_78, bk_X11_which_88, k_X11_which_88, bk_X11_which_89, k_X11_which_89, bk_X11_which_97, k_X11_which_97, ↓e_rk1, ↓e_rk0, ↓e_sk0, ↓e_sks, ↓e_ldi0, ↓e_ldis, ↓e_ldl0, ↓e_ldls, ↓e_lda0, ↓e_ldas, ↓e_ok0, ↓e_okss, ↓e_ok1i, ↓e_ok1r, ↓e_ok1n, ↓e_sti, ↓e_sta, ↓e_1, ↓e_2, ↓e_l1, ↓e_l2, ↓e_li, ↓e_sw0, ↓e_sws, ↓e_ceq, ↓e_cne, ↓e_clt, ↓e_cge, ↓e_cgt, ↓e_cle, ↓e_nil, ↓e_cons, ↓e_iconst, ↓e_bipush, ↓e_sipush, ↓e_ldc, ↓e_ldcw, ↓e_ldc2, ↓e_lconst, ↓e_iloadn, ↓e_iload, ↓e_lloadn, ↓e_lload, ↓e_aloadn, ↓e_aload, ↓e_istoren, ↓e_istore, ↓e_astoren, ↓e_astore, ↓e_add, ↓e_iinc, ↓e_iadd, ↓e_isub, ↓e_imul, ↓e_iand, ↓e_ior, ↓e_ixor, ↓e_ishl, ↓e_iushr, ↓e_idiv, ↓e_irem, ↓e_ineg, ↓e_i2l, ↓e_i2b, ↓e_i2s, ↓e_l2i, ↓e_land, ↓e_lor, ↓e_lshl, ↓e_lshr, ↓e_lushr, ↓e_lcmp, ↓e_dupi, ↓e_dupr, ↓e_popi, ↓e_dup2, ↓e_goto, ↓e_if, ↓e_icmp, ↓e_tsw, ↓e_lsw, ↓e_getf, ↓e_putf, ↓e_gets, ↓e_iald, ↓e_cald, ↓e_iast, ↓e_aald, ↓e_aast, ↓e_len, ↓e_copy, ↓e_abs, ↓e_max, ↓e_min, ↓e_iret, ↓e_aret, ↓e_vret, ↓e_is0, ↓e_is1, ↓e_is2, ↓e_is3, ↓e_is4, ↓e_iv1, ↓e_iv2, ↓e_iv3, ↓e_iv4, ↓e_iv5, ↓e_iv6, ↓rt_X11_which, ↓reduceIte, Nat.reduceAdd, Nat.reduceEqDiff, ↓zcl0, ↓zclv, List.map_nil, List.sum_nil, List.map_cons, List.sum_cons, zcat, true_and, and_true, Nat.reduceLeDiff, Nat.reduceAdd, eq_self, forall_const, e_ok0, e_okss, e_ok1i, e_ok1r, e_ok1n, zl_0, zl_1, zl_2, zl_3, zl_6, zl_162, Int.reduceToNat, Int.reduceAdd, Int.reduceMul, Int.reduceSub, Int.reduceNeg, Int.reduceLT, Int.reduceLE, Int.reduceEq, not_false_eq_true, not_true_eq_false, false_implies, true_implies, implies_true, Int.reduceDiv, Int.reduceMod, zr8_zr, zr_zbo, z01_zbo, z01_0, z01_1, zbo_eq0, zup_eq, zup_o, zup_k, ne_eq, ↓ct_which_isSheet, ↓r_isSheet, ↓B_isSheet, ↓ct_which_isEngineer, ↓r_isEngineer, ↓B_isEngineer, ↓ct_which_keepAside, ↓r_keepAside, ↓B_keepAside, ↓ct_which_of, ↓r_of, ↓B_of, ↓ct_which_isTold, ↓r_isTold, ↓B_isTold, ↓ct_which_finds, ↓r_finds, ↓B_finds, ↓v_87, ↓g_87_0, ↓l_88, ↓s_88, ↓n_88, ↓g_87_1, ↓l_89, ↓s_89, ↓n_89, ↓g_87_2, ↓l_90, ↓s_90, ↓n_90, ↓g_87_3, ↓p_87_3, ↓g_87_4, ↓l_91, ↓s_91, ↓n_91, ↓g_87_5, ↓p_87_5, ↓g_87_6, ↓p_87_6, ↓g_87_7, ↓p_87_7, ↓g_87_8, ↓p_87_8, ↓g_87_9, ↓p_87_9, ↓g_87_10, ↓p_87_10, ↓g_87_11, ↓l_92, ↓s_92, ↓n_92, ↓g_87_12, ↓l_93, ↓s_93, ↓n_93, ↓g_87_13, ↓p_87_13, ↓g_87_14, ↓l_94, ↓s_94, ↓n_94, ↓g_87_15, ↓p_87_15, ↓g_87_16, ↓l_95, ↓s_95, ↓n_95, ↓g_87_17, ↓l_96, ↓s_96, ↓n_96, ↓g_87_18, ↓l_97, ↓s_97, ↓n_97, ↓g_87_19, ↓p_87_19, ↓g_87_20, ↓p_87_20, ↓g_87_21, ↓l_98, ↓s_98, ↓n_98, ↓g_87_22, ↓l_99, ↓s_99, ↓n_99, ↓g_87_23, ↓l_100, ↓s_100, ↓n_100, ↓g_87_24, ↓l_101, ↓s_101, ↓n_101, zk, lk, ze]
          have bd : ub (162 + 3 * e).toNat = 6 := by
            have := ub_ei (e := e.toNat) (w := 0) (by omega) (by omega)
            rw [show (162 + 3 * e).toNat = 162 + 3 * e.toNat + 0 by omega, this]; rfl
          have vu : Vd (up1 (M 88) (162 + 3 * e).toNat (k : Int)) := Vd_up vd (by omega) (Or.inr ⟨by omega, by omega⟩)
          have es : zup M' 88 (162 + 3 * e).toNat (k : Int) 88 (162 + 3 * e + 2).toNat = ei (M 88) e 2 := by
            rw [zup_k (by omega), hd]; rfl
          have Mf : ∀ x, ¬ x = 88 → zup M' 88 (162 + 3 * e).toNat (k : Int) x = M' x := fun x q => zup_ne _ q
          rw [es, zup_up, hd, hM 99 (by decide) (by decide) (by decide) (by decide), hM 100 (by decide) (by decide) (by decide) (by decide), hM 87 (by decide) (by decide) (by decide) (by decide), hF, hnn]
          repeat (refine And.intro (by omega) ?_)
          refine ⟨?_, ⟨n1, n2⟩, hr, fun M2 hd2 hM2 => go _ M2 rfl ?_ (fun i hi => ?_) (fun x q q0 q1 q2 => (hM2 x q q1 q2).trans ((Mf x q).trans (hM x q q0 q1 q2)))⟩
          · rw [up1_ne (by omega)]; omega
          · rw [hd2]
            funext i
            by_cases qi : i < 186
            · rw [if_pos qi, ha i qi]
            · rw [if_neg qi, up1_ne (by omega)]
          · rw [hM2 90 (by decide) (by decide) (by decide), Mf 90 (by decide), ha i hi]
      refine bs_X11_which_21 hX ?_
      simp only [bk_X11_which_0, k_X11_which_0, bk_X11_which_7, k_X11_which_7, bk_X11_which_15, k_X11_which_15, bk_X11_which_21, k_X11_which_21, bk_X11_which_36, k_X11_which_36, bk_X11_which_45, k_X11_which_45, bk_X11_which_78, k_X11_which_78, bk_X11_which_88, k_X11_which_88, bk_X11_which_89, k_X11_which_89, bk_X11_which_97, k_X11_which_97, ↓e_rk1, ↓e_rk0, ↓e_sk0, ↓e_sks, ↓e_ldi0, ↓e_ldis, ↓e_ldl0, ↓e_ldls, ↓e_lda0, ↓e_ldas, ↓e_ok0, ↓e_okss, ↓e_ok1i, ↓e_ok1r, ↓e_ok1n, ↓e_sti, ↓e_sta, ↓e_1, ↓e_2, ↓e_l1, ↓e_l2, ↓e_li, ↓e_sw0, ↓e_sws, ↓e_ceq, ↓e_cne, ↓e_clt, ↓e_cge, ↓e_cgt, ↓e_cle, ↓e_nil, ↓e_cons, ↓e_iconst, ↓e_bipush, ↓e_sipush, ↓e_ldc, ↓e_ldcw, ↓e_ldc2, ↓e_lconst, ↓e_iloadn, ↓e_iload, ↓e_lloadn, ↓e_lload, ↓e_aloadn, ↓e_aload, ↓e_istoren, ↓e_istore, ↓e_astoren, ↓e_astore, ↓e_add, ↓e_iinc, ↓e_iadd, ↓e_isub, ↓e_imul, ↓e_iand, ↓e_ior, ↓e_ixor, ↓e_ishl, ↓e_iushr, ↓e_idiv, ↓e_irem, ↓e_ineg, ↓e_i2l, ↓e_i2b, ↓e_i2s, ↓e_l2i, ↓e_land, ↓e_lor, ↓e_lshl, ↓e_lshr, ↓e_lushr, ↓e_lcmp, ↓e_dupi, ↓e_dupr, ↓e_popi, ↓e_dup2, ↓e_goto, ↓e_if, ↓e_icmp, ↓e_tsw, ↓e_lsw, ↓e_getf, ↓e_putf, ↓e_gets, ↓e_iald, ↓e_cald, ↓e_iast, ↓e_aald, ↓e_aast, ↓e_len, ↓e_copy, ↓e_abs, ↓e_max, ↓e_min, ↓e_iret, ↓e_aret, ↓e_vret, ↓e_is0, ↓e_is1, ↓e_is2, ↓e_is3, ↓e_is4, ↓e_iv1, ↓e_iv2, ↓e_iv3, ↓e_iv4, ↓e_iv5, ↓e_iv6, ↓rt_X11_which, ↓reduceIte, Nat.reduceAdd, Nat.reduceEqDiff, ↓zcl0, ↓zclv, List.map_nil, List.sum_nil, List.map_cons, List.sum_cons, zcat, true_and, and_true, Nat.reduceLeDiff, Nat.reduceAdd, eq_self, forall_const, e_ok0, e_okss, e_ok1i, e_ok1r, e_ok1n, zl_0, zl_1, zl_2, zl_3, zl_6, zl_162, Int.reduceToNat, Int.reduceAdd, Int.reduceMul, Int.reduceSub, Int.reduceNeg, Int.reduceLT, Int.reduceLE, Int.reduceEq, not_false_eq_true, not_true_eq_false, false_implies, true_implies, implies_true, Int.reduceDiv, Int.reduceMod, zr8_zr, zr_zbo, z01_zbo, z01_0, z01_1, zbo_eq0, zup_eq, zup_o, zup_k, ne_eq, ↓ct_which_isSheet, ↓r_isSheet, ↓B_isSheet, ↓ct_which_isEngineer, ↓r_isEngineer, ↓B_isEngineer, ↓ct_which_keepAside, ↓r_keepAside, ↓B_keepAside, ↓ct_which_of, ↓r_of, ↓B_of, ↓ct_which_isTold, ↓r_isTold, ↓B_isTold, ↓ct_which_finds, ↓r_finds, ↓B_finds, ↓v_87, ↓g_87_0, ↓l_88, ↓s_88, ↓n_88, ↓g_87_1, ↓l_89, ↓s_89, ↓n_89, ↓g_87_2, ↓l_90, ↓s_90, ↓n_90, ↓g_87_3, ↓p_87_3, ↓g_87_4, ↓l_91, ↓s_91, ↓n_91, ↓g_87_5, ↓p_87_5, ↓g_87_6, ↓p_87_6, ↓g_87_7, ↓p_87_7, ↓g_87_8, ↓p_87_8, ↓g_87_9, ↓p_87_9, ↓g_87_10, ↓p_87_10, ↓g_87_11, ↓l_92, ↓s_92, ↓n_92, ↓g_87_12, ↓l_93, ↓s_93, ↓n_93, ↓g_87_13, ↓p_87_13, ↓g_87_14, ↓l_94, ↓s_94, ↓n_94, ↓g_87_15, ↓p_87_15, ↓g_87_16, ↓l_95, ↓s_95, ↓n_95, ↓g_87_17, ↓l_96, ↓s_96, ↓n_96, ↓g_87_18, ↓l_97, ↓s_97, ↓n_97, ↓g_87_19, ↓p_87_19, ↓g_87_20, ↓p_87_20, ↓g_87_21, ↓l_98, ↓s_98, ↓n_98, ↓g_87_22, ↓l_99, ↓s_99, ↓n_99, ↓g_87_23, ↓l_100, ↓s_100, ↓n_100, ↓g_87_24, ↓l_101, ↓s_101, ↓n_101, zs, zb]
      refine ⟨by omega, by omega, fun c => ?_, fun c => ?_⟩
      · first | exact pub_no hC (by unfold R_which; rw [s0, if_pos q, e98, if_pos c]) rfl | exact fun M1 hk1 hM1 => lp c 7 0 M1 (by omega) (hM1 88 (by decide)) hk1 (fun x _ q _ _ => hM1 x q)
      · first | exact pub_no hC (by unfold R_which; rw [s0, if_pos q, e98, if_pos c]) rfl | exact fun M1 hk1 hM1 => lp c 7 0 M1 (by omega) (hM1 88 (by decide)) hk1 (fun x _ q _ _ => hM1 x q)
    have J7 : (0 ≤ s ∧ s ≤ 3) → X 7 [some (.inr (.inr (.inl 87))), some (.inl s), some (.inl e), none, none] [] (zG, M) (0, 0) := by
      intro q
      refine bs_X11_which_7 hX ?_
      simp only [bk_X11_which_0, k_X11_which_0, bk_X11_which_7, k_X11_which_7, bk_X11_which_15, k_X11_which_15, bk_X11_which_21, k_X11_which_21, bk_X11_which_36, k_X11_which_36, bk_X11_which_45, k_X11_which_45, bk_X11_which_78, k_X11_which_78, bk_X11_which_88, k_X11_which_88, bk_X11_which_89, k_X11_which_89, bk_X11_which_97, k_X11_which_97, ↓e_rk1, ↓e_rk0, ↓e_sk0, ↓e_sks, ↓e_ldi0, ↓e_ldis, ↓e_ldl0, ↓e_ldls, ↓e_lda0, ↓e_ldas, ↓e_ok0, ↓e_okss, ↓e_ok1i, ↓e_ok1r, ↓e_ok1n, ↓e_sti, ↓e_sta, ↓e_1, ↓e_2, ↓e_l1, ↓e_l2, ↓e_li, ↓e_sw0, ↓e_sws, ↓e_ceq, ↓e_cne, ↓e_clt, ↓e_cge, ↓e_cgt, ↓e_cle, ↓e_nil, ↓e_cons, ↓e_iconst, ↓e_bipush, ↓e_sipush, ↓e_ldc, ↓e_ldcw, ↓e_ldc2, ↓e_lconst, ↓e_iloadn, ↓e_iload, ↓e_lloadn, ↓e_lload, ↓e_aloadn, ↓e_aload, ↓e_istoren, ↓e_istore, ↓e_astoren, ↓e_astore, ↓e_add, ↓e_iinc, ↓e_iadd, ↓e_isub, ↓e_imul, ↓e_iand, ↓e_ior, ↓e_ixor, ↓e_ishl, ↓e_iushr, ↓e_idiv, ↓e_irem, ↓e_ineg, ↓e_i2l, ↓e_i2b, ↓e_i2s, ↓e_l2i, ↓e_land, ↓e_lor, ↓e_lshl, ↓e_lshr, ↓e_lushr, ↓e_lcmp, ↓e_dupi, ↓e_dupr, ↓e_popi, ↓e_dup2, ↓e_goto, ↓e_if, ↓e_icmp, ↓e_tsw, ↓e_lsw, ↓e_getf, ↓e_putf, ↓e_gets, ↓e_iald, ↓e_cald, ↓e_iast, ↓e_aald, ↓e_aast, ↓e_len, ↓e_copy, ↓e_abs, ↓e_max, ↓e_min, ↓e_iret, ↓e_aret, ↓e_vret, ↓e_is0, ↓e_is1, ↓e_is2, ↓e_is3, ↓e_is4, ↓e_iv1, ↓e_iv2, ↓e_iv3, ↓e_iv4, ↓e_iv5, ↓e_iv6, ↓rt_X11_which, ↓reduceIte, Nat.reduceAdd, Nat.reduceEqDiff, ↓zcl0, ↓zclv, List.map_nil, List.sum_nil, List.map_cons, List.sum_cons, zcat, true_and, and_true, Nat.reduceLeDiff, Nat.reduceAdd, eq_self, forall_const, e_ok0, e_okss, e_ok1i, e_ok1r, e_ok1n, zl_0, zl_1, zl_2, zl_3, zl_6, zl_162, Int.reduceToNat, Int.reduceAdd, Int.reduceMul, Int.reduceSub, Int.reduceNeg, Int.reduceLT, Int.reduceLE, Int.reduceEq, not_false_eq_true, not_true_eq_false, false_implies, true_implies, implies_true, Int.reduceDiv, Int.reduceMod, zr8_zr, zr_zbo, z01_zbo, z01_0, z01_1, zbo_eq0, zup_eq, zup_o, zup_k, ne_eq, ↓ct_which_isSheet, ↓r_isSheet, ↓B_isSheet, ↓ct_which_isEngineer, ↓r_isEngineer, ↓B_isEngineer, ↓ct_which_keepAside, ↓r_keepAside, ↓B_keepAside, ↓ct_which_of, ↓r_of, ↓B_of, ↓ct_which_isTold, ↓r_isTold, ↓B_isTold, ↓ct_which_finds, ↓r_finds, ↓B_finds, ↓v_87, ↓g_87_0, ↓l_88, ↓s_88, ↓n_88, ↓g_87_1, ↓l_89, ↓s_89, ↓n_89, ↓g_87_2, ↓l_90, ↓s_90, ↓n_90, ↓g_87_3, ↓p_87_3, ↓g_87_4, ↓l_91, ↓s_91, ↓n_91, ↓g_87_5, ↓p_87_5, ↓g_87_6, ↓p_87_6, ↓g_87_7, ↓p_87_7, ↓g_87_8, ↓p_87_8, ↓g_87_9, ↓p_87_9, ↓g_87_10, ↓p_87_10, ↓g_87_11, ↓l_92, ↓s_92, ↓n_92, ↓g_87_12, ↓l_93, ↓s_93, ↓n_93, ↓g_87_13, ↓p_87_13, ↓g_87_14, ↓l_94, ↓s_94, ↓n_94, ↓g_87_15, ↓p_87_15, ↓g_87_16, ↓l_95, ↓s_95, ↓n_95, ↓g_87_17, ↓l_96, ↓s_96, ↓n_96, ↓g_87_18, ↓l_97, ↓s_97, ↓n_97, ↓g_87_19, ↓p_87_19, ↓g_87_20, ↓p_87_20, ↓g_87_21, ↓l_98, ↓s_98, ↓n_98, ↓g_87_22, ↓l_99, ↓s_99, ↓n_99, ↓g_87_23, ↓l_100, ↓s_100, ↓n_100, ↓g_87_24, ↓l_101, ↓s_101, ↓n_101, zr_zbo, zbo_eq0]
      exact ⟨h2, v0.1, v0.2, fun c => J15 (by omega), fun c => J21 (by omega)⟩
    simp only [bk_X11_which_0, k_X11_which_0, bk_X11_which_7, k_X11_which_7, bk_X11_which_15, k_X11_which_15, bk_X11_which_21, k_X11_which_21, bk_X11_which_36, k_X11_which_36, bk_X11_which_45, k_X11_which_45, bk_X11_which_78, k_X11_which_78, bk_X11_which_88, k_X11_which_88, bk_X11_which_89, k_X11_which_89, bk_X11_which_97, k_X11_which_97, ↓e_rk1, ↓e_rk0, ↓e_sk0, ↓e_sks, ↓e_ldi0, ↓e_ldis, ↓e_ldl0, ↓e_ldls, ↓e_lda0, ↓e_ldas, ↓e_ok0, ↓e_okss, ↓e_ok1i, ↓e_ok1r, ↓e_ok1n, ↓e_sti, ↓e_sta, ↓e_1, ↓e_2, ↓e_l1, ↓e_l2, ↓e_li, ↓e_sw0, ↓e_sws, ↓e_ceq, ↓e_cne, ↓e_clt, ↓e_cge, ↓e_cgt, ↓e_cle, ↓e_nil, ↓e_cons, ↓e_iconst, ↓e_bipush, ↓e_sipush, ↓e_ldc, ↓e_ldcw, ↓e_ldc2, ↓e_lconst, ↓e_iloadn, ↓e_iload, ↓e_lloadn, ↓e_lload, ↓e_aloadn, ↓e_aload, ↓e_istoren, ↓e_istore, ↓e_astoren, ↓e_astore, ↓e_add, ↓e_iinc, ↓e_iadd, ↓e_isub, ↓e_imul, ↓e_iand, ↓e_ior, ↓e_ixor, ↓e_ishl, ↓e_iushr, ↓e_idiv, ↓e_irem, ↓e_ineg, ↓e_i2l, ↓e_i2b, ↓e_i2s, ↓e_l2i, ↓e_land, ↓e_lor, ↓e_lshl, ↓e_lshr, ↓e_lushr, ↓e_lcmp, ↓e_dupi, ↓e_dupr, ↓e_popi, ↓e_dup2, ↓e_goto, ↓e_if, ↓e_icmp, ↓e_tsw, ↓e_lsw, ↓e_getf, ↓e_putf, ↓e_gets, ↓e_iald, ↓e_cald, ↓e_iast, ↓e_aald, ↓e_aast, ↓e_len, ↓e_copy, ↓e_abs, ↓e_max, ↓e_min, ↓e_iret, ↓e_aret, ↓e_vret, ↓e_is0, ↓e_is1, ↓e_is2, ↓e_is3, ↓e_is4, ↓e_iv1, ↓e_iv2, ↓e_iv3, ↓e_iv4, ↓e_iv5, ↓e_iv6, ↓rt_X11_which, ↓reduceIte, Nat.reduceAdd, Nat.reduceEqDiff, ↓zcl0, ↓zclv, List.map_nil, List.sum_nil, List.map_cons, List.sum_cons, zcat, true_and, and_true, Nat.reduceLeDiff, Nat.reduceAdd, eq_self, forall_const, e_ok0, e_okss, e_ok1i, e_ok1r, e_ok1n, zl_0, zl_1, zl_2, zl_3, zl_6, zl_162, Int.reduceToNat, Int.reduceAdd, Int.reduceMul, Int.reduceSub, Int.reduceNeg, Int.reduceLT, Int.reduceLE, Int.reduceEq, not_false_eq_true, not_true_eq_false, false_implies, true_implies, implies_true, Int.reduceDiv, Int.reduceMod, zr8_zr, zr_zbo, z01_zbo, z01_0, z01_1, zbo_eq0, zup_eq, zup_o, zup_k, ne_eq, ↓ct_which_isSheet, ↓r_isSheet, ↓B_isSheet, ↓ct_which_isEngineer, ↓r_isEngineer, ↓B_isEngineer, ↓ct_which_keepAside, ↓r_keepAside, ↓B_keepAside, ↓ct_which_of, ↓r_of, ↓B_of, ↓ct_which_isTold, ↓r_isTold, ↓B_isTold, ↓ct_which_finds, ↓r_finds, ↓B_finds, ↓v_87, ↓g_87_0, ↓l_88, ↓s_88, ↓n_88, ↓g_87_1, ↓l_89, ↓s_89, ↓n_89, ↓g_87_2, ↓l_90, ↓s_90, ↓n_90, ↓g_87_3, ↓p_87_3, ↓g_87_4, ↓l_91, ↓s_91, ↓n_91, ↓g_87_5, ↓p_87_5, ↓g_87_6, ↓p_87_6, ↓g_87_7, ↓p_87_7, ↓g_87_8, ↓p_87_8, ↓g_87_9, ↓p_87_9, ↓g_87_10, ↓p_87_10, ↓g_87_11, ↓l_92, ↓s_92, ↓n_92, ↓g_87_12, ↓l_93, ↓s_93, ↓n_93, ↓g_87_13, ↓p_87_13, ↓g_87_14, ↓l_94, ↓s_94, ↓n_94, ↓g_87_15, ↓p_87_15, ↓g_87_16, ↓l_95, ↓s_95, ↓n_95, ↓g_87_17, ↓l_96, ↓s_96, ↓n_96, ↓g_87_18, ↓l_97, ↓s_97, ↓n_97, ↓g_87_19, ↓p_87_19, ↓g_87_20, ↓p_87_20, ↓g_87_21, ↓l_98, ↓s_98, ↓n_98, ↓g_87_22, ↓l_99, ↓s_99, ↓n_99, ↓g_87_23, ↓l_100, ↓s_100, ↓n_100, ↓g_87_24, ↓l_101, ↓s_101, ↓n_101, zr_zbo, zbo_eq0]
    exact ⟨h1, fun c => J15 (by omega), fun c => J7 (by omega)⟩
