/-! THE CLASS: what it holds against what the reference holds -/
def k_X10_failed_0 : List ZI := [(.aload_n 0, 1, (0, [0], [])), (.getfield 87, 3, (0, [10, 8], [])), (.ldc_w 291, 3, ((-1000000000), [], [])), (.iload_n 1, 1, (0, [1], [])), (.isub, 1, (0, [], [])), (.dup2, 1, (0, [], [])), (.iaload, 1, (0, [], [])), (.iconst 1, 1, (0, [], [])), (.iadd, 1, (0, [], [])), (.iastore, 1, (0, [], [])), (.iload_n 1, 1, (0, [1], [])), (.ireturn, 1, (0, [], []))]
theorem ok_X10_failed_0 : zOK cX10_failed 10 false 2 k_X10_failed_0 0 = true := zOK_by (by decide +kernel)
theorem rt_X10_failed {g : Nat} {post : Option ZV → ZH → Prop} {h : ZH} {b : ZB2} {z : Int} : zRt mX10_failed g post (some (.inl z)) h b = (post (some (.inl z)) h ∧ h.1.length = g) := by show (_ ∧ _ ∧ True) = _; simp
def bk_X10_failed_0 (E : ZE) (CT : Nat → ZC) (X : ZK) (Rt : ZR) (ls : ZL) (st : List ZV) (h : ZH) (b : ZB2) : Prop := zB E CT k_X10_failed_0 0 ls st h b (fun t ls st h b => X t ls st h b) Rt
theorem bs_X10_failed_0 {E : ZE} {CT : Nat → ZC} {X : ZK} {Rt : ZR} {ls : ZL} {st : List ZV} {h : ZH} {b : ZB2} (hX : zCl E mX10_failed 10 false CT Rt X) (q : bk_X10_failed_0 E CT X Rt ls st h b) : X 0 ls st h b := by
  refine hX k_X10_failed_0 0 ok_X10_failed_0 _ ?_ ls st h b q
  exact fun t ls st h b q => q
-- X10_failed: cuts []
def k_X10_isBeyond_0 : List ZI := [(.iload_n 0, 1, (0, [0], [])), (.ifCond .lt 8, 3, (0, [9], [])), (.iload_n 0, 1, (0, [0], [])), (.iload_n 1, 1, (0, [1], [])), (.if_icmp .le 7, 3, (0, [13], []))]
theorem ok_X10_isBeyond_0 : zOK cX10_isBeyond 10 false 2 k_X10_isBeyond_0 0 = true := zOK_by (by decide +kernel)
def k_X10_isBeyond_9 : List ZI := [(.iconst 1, 1, (0, [], [])), (.goto 4, 3, (0, [14], []))]
theorem ok_X10_isBeyond_9 : zOK cX10_isBeyond 10 false 2 k_X10_isBeyond_9 9 = true := zOK_by (by decide +kernel)
def k_X10_isBeyond_13 : List ZI := [(.iconst 0, 1, (0, [], []))]
theorem ok_X10_isBeyond_13 : zOK cX10_isBeyond 10 false 2 k_X10_isBeyond_13 13 = true := zOK_by (by decide +kernel)
def k_X10_isBeyond_14 : List ZI := [(.ireturn, 1, (0, [], []))]
theorem ok_X10_isBeyond_14 : zOK cX10_isBeyond 10 false 2 k_X10_isBeyond_14 14 = true := zOK_by (by decide +kernel)
theorem rt_X10_isBeyond {g : Nat} {post : Option ZV → ZH → Prop} {h : ZH} {b : ZB2} {z : Int} : zRt mX10_isBeyond g post (some (.inl z)) h b = (post (some (.inl z)) h ∧ h.1.length = g ∧ z01 z) := rfl
def bk_X10_isBeyond_14 (E : ZE) (CT : Nat → ZC) (X : ZK) (Rt : ZR) (ls : ZL) (st : List ZV) (h : ZH) (b : ZB2) : Prop := zB E CT k_X10_isBeyond_14 14 ls st h b (fun t ls st h b => X t ls st h b) Rt
theorem bs_X10_isBeyond_14 {E : ZE} {CT : Nat → ZC} {X : ZK} {Rt : ZR} {ls : ZL} {st : List ZV} {h : ZH} {b : ZB2} (hX : zCl E mX10_isBeyond 10 false CT Rt X) (q : bk_X10_isBeyond_14 E CT X Rt ls st h b) : X 14 ls st h b := by
  refine hX k_X10_isBeyond_14 14 ok_X10_isBeyond_14 _ ?_ ls st h b q
  exact fun t ls st h b q => q
def bk_X10_isBeyond_9 (E : ZE) (CT : Nat → ZC) (X : ZK) (Rt : ZR) (ls : ZL) (st : List ZV) (h : ZH) (b : ZB2) : Prop := zB E CT k_X10_isBeyond_9 9 ls st h b (fun t ls st h b => if t = 14 then bk_X10_isBeyond_14 E CT X Rt ls st h b else X t ls st h b) Rt
theorem bs_X10_isBeyond_9 {E : ZE} {CT : Nat → ZC} {X : ZK} {Rt : ZR} {ls : ZL} {st : List ZV} {h : ZH} {b : ZB2} (hX : zCl E mX10_isBeyond 10 false CT Rt X) (q : bk_X10_isBeyond_9 E CT X Rt ls st h b) : X 9 ls st h b := by
  refine hX k_X10_isBeyond_9 9 ok_X10_isBeyond_9 _ ?_ ls st h b q
  exact by
    intro t ls st h b q
    by_cases c : t = 14
    · subst c; rw [if_pos rfl] at q; exact bs_X10_isBeyond_14 hX q
    rw [if_neg c] at q
    exact q
def bk_X10_isBeyond_13 (E : ZE) (CT : Nat → ZC) (X : ZK) (Rt : ZR) (ls : ZL) (st : List ZV) (h : ZH) (b : ZB2) : Prop := zB E CT k_X10_isBeyond_13 13 ls st h b (fun t ls st h b => if t = 14 then bk_X10_isBeyond_14 E CT X Rt ls st h b else X t ls st h b) Rt
theorem bs_X10_isBeyond_13 {E : ZE} {CT : Nat → ZC} {X : ZK} {Rt : ZR} {ls : ZL} {st : List ZV} {h : ZH} {b : ZB2} (hX : zCl E mX10_isBeyond 10 false CT Rt X) (q : bk_X10_isBeyond_13 E CT X Rt ls st h b) : X 13 ls st h b := by
  refine hX k_X10_isBeyond_13 13 ok_X10_isBeyond_13 _ ?_ ls st h b q
  exact by
    intro t ls st h b q
    by_cases c : t = 14
    · subst c; rw [if_pos rfl] at q; exact bs_X10_isBeyond_14 hX q
    rw [if_neg c] at q
    exact q
def bk_X10_isBeyond_0 (E : ZE) (CT : Nat → ZC) (X : ZK) (Rt : ZR) (ls : ZL) (st : List ZV) (h : ZH) (b : ZB2) : Prop := zB E CT k_X10_isBeyond_0 0 ls st h b (fun t ls st h b => if t = 9 then bk_X10_isBeyond_9 E CT X Rt ls st h b else if t = 13 then bk_X10_isBeyond_13 E CT X Rt ls st h b else X t ls st h b) Rt
theorem bs_X10_isBeyond_0 {E : ZE} {CT : Nat → ZC} {X : ZK} {Rt : ZR} {ls : ZL} {st : List ZV} {h : ZH} {b : ZB2} (hX : zCl E mX10_isBeyond 10 false CT Rt X) (q : bk_X10_isBeyond_0 E CT X Rt ls st h b) : X 0 ls st h b := by
  refine hX k_X10_isBeyond_0 0 ok_X10_isBeyond_0 _ ?_ ls st h b q
  exact by
    intro t ls st h b q
    by_cases c : t = 9
    · subst c; rw [if_pos rfl] at q; exact bs_X10_isBeyond_9 hX q
    rw [if_neg c] at q
    by_cases c : t = 13
    · subst c; rw [if_pos rfl] at q; exact bs_X10_isBeyond_13 hX q
    rw [if_neg c] at q
    exact q
-- X10_isBeyond: cuts []
def k_X10_isNobody_0 : List ZI := [(.iload_n 1, 1, (0, [1], [])), (.aload_n 0, 1, (0, [0], [])), (.getfield 12, 3, (0, [10, 0], [])), (.getfield 25, 3, (0, [6, 1], [])), (.getfield 140, 3, (0, [0, 3], [])), (.iconst 1, 1, (0, [], [])), (.isub, 1, (0, [], [])), (.invokestatic 92, 3, (0, [111, 2, 0, 10], [])), (.ireturn, 1, (0, [], []))]
theorem ok_X10_isNobody_0 : zOK cX10_isNobody 10 false 2 k_X10_isNobody_0 0 = true := zOK_by (by decide +kernel)
theorem rt_X10_isNobody {g : Nat} {post : Option ZV → ZH → Prop} {h : ZH} {b : ZB2} {z : Int} : zRt mX10_isNobody g post (some (.inl z)) h b = (post (some (.inl z)) h ∧ h.1.length = g ∧ z01 z) := rfl
def bk_X10_isNobody_0 (E : ZE) (CT : Nat → ZC) (X : ZK) (Rt : ZR) (ls : ZL) (st : List ZV) (h : ZH) (b : ZB2) : Prop := zB E CT k_X10_isNobody_0 0 ls st h b (fun t ls st h b => X t ls st h b) Rt
theorem bs_X10_isNobody_0 {E : ZE} {CT : Nat → ZC} {X : ZK} {Rt : ZR} {ls : ZL} {st : List ZV} {h : ZH} {b : ZB2} (hX : zCl E mX10_isNobody 10 false CT Rt X) (q : bk_X10_isNobody_0 E CT X Rt ls st h b) : X 0 ls st h b := by
  refine hX k_X10_isNobody_0 0 ok_X10_isNobody_0 _ ?_ ls st h b q
  exact fun t ls st h b q => q
-- X10_isNobody: cuts []
def k_X10_think_0 : List ZI := [(.aload_n 0, 1, (0, [0], [])), (.getfield 49, 3, (0, [10, 3], [])), (.getfield 216, 3, (0, [1, 0], [])), (.aload_n 0, 1, (0, [0], [])), (.getfield 12, 3, (0, [10, 0], [])), (.getfield 21, 3, (0, [6, 0], [])), (.invokevirtual 292, 3, (0, [24, 2, 0, 2], [])), (.aload_n 0, 1, (0, [0], [])), (.getfield 49, 3, (0, [10, 3], [])), (.getfield 218, 3, (0, [1, 1], [])), (.aload_n 0, 1, (0, [0], [])), (.getfield 12, 3, (0, [10, 0], [])), (.getfield 25, 3, (0, [6, 1], [])), (.invokevirtual 294, 3, (0, [2, 2, 0, 0], [])), (.return_, 1, (0, [], []))]
theorem ok_X10_think_0 : zOK cX10_think 10 false 1 k_X10_think_0 0 = true := zOK_by (by decide +kernel)
theorem rt_X10_think {g : Nat} {post : Option ZV → ZH → Prop} {h : ZH} {b : ZB2} : zRt mX10_think g post none h b = (post none h ∧ h.1.length = g) := by show (_ ∧ _ ∧ True) = _; simp
def bk_X10_think_0 (E : ZE) (CT : Nat → ZC) (X : ZK) (Rt : ZR) (ls : ZL) (st : List ZV) (h : ZH) (b : ZB2) : Prop := zB E CT k_X10_think_0 0 ls st h b (fun t ls st h b => X t ls st h b) Rt
theorem bs_X10_think_0 {E : ZE} {CT : Nat → ZC} {X : ZK} {Rt : ZR} {ls : ZL} {st : List ZV} {h : ZH} {b : ZB2} (hX : zCl E mX10_think 10 false CT Rt X) (q : bk_X10_think_0 E CT X Rt ls st h b) : X 0 ls st h b := by
  refine hX k_X10_think_0 0 ok_X10_think_0 _ ?_ ls st h b q
  exact fun t ls st h b q => q
-- X10_think: cuts []
def k_X10_gapBehind_0 : List ZI := [(.iconst 0, 1, (0, [], [])), (.istore_n 2, 1, (0, [2], []))]
theorem ok_X10_gapBehind_0 : zOK cX10_gapBehind 10 false 3 k_X10_gapBehind_0 0 = true := zOK_by (by decide +kernel)
def k_X10_gapBehind_2 : List ZI := [(.iload_n 2, 1, (0, [2], [])), (.iload_n 1, 1, (0, [1], [])), (.if_icmp .ge 16, 3, (0, [20], [])), (.aload_n 0, 1, (0, [0], [])), (.getfield 49, 3, (0, [10, 3], [])), (.invokevirtual 200, 3, (0, [4, 1, 0, 1], [])), (.iinc 2 1, 3, (0, [2], [])), (.goto (-15), 3, (0, [2], []))]
theorem ok_X10_gapBehind_2 : zOK cX10_gapBehind 10 false 3 k_X10_gapBehind_2 2 = true := zOK_by (by decide +kernel)
def k_X10_gapBehind_20 : List ZI := [(.aload_n 0, 1, (0, [0], [])), (.getfield 49, 3, (0, [10, 3], [])), (.getfield 216, 3, (0, [1, 0], [])), (.invokevirtual 203, 3, (0, [18, 1, 0, 2], [])), (.ireturn, 1, (0, [], []))]
theorem ok_X10_gapBehind_20 : zOK cX10_gapBehind 10 false 3 k_X10_gapBehind_20 20 = true := zOK_by (by decide +kernel)
theorem rt_X10_gapBehind {g : Nat} {post : Option ZV → ZH → Prop} {h : ZH} {b : ZB2} {z : Int} : zRt mX10_gapBehind g post (some (.inl z)) h b = (post (some (.inl z)) h ∧ h.1.length = g) := by show (_ ∧ _ ∧ True) = _; simp
def bk_X10_gapBehind_0 (E : ZE) (CT : Nat → ZC) (X : ZK) (Rt : ZR) (ls : ZL) (st : List ZV) (h : ZH) (b : ZB2) : Prop := zB E CT k_X10_gapBehind_0 0 ls st h b (fun t ls st h b => X t ls st h b) Rt
theorem bs_X10_gapBehind_0 {E : ZE} {CT : Nat → ZC} {X : ZK} {Rt : ZR} {ls : ZL} {st : List ZV} {h : ZH} {b : ZB2} (hX : zCl E mX10_gapBehind 10 false CT Rt X) (q : bk_X10_gapBehind_0 E CT X Rt ls st h b) : X 0 ls st h b := by
  refine hX k_X10_gapBehind_0 0 ok_X10_gapBehind_0 _ ?_ ls st h b q
  exact fun t ls st h b q => q
def bk_X10_gapBehind_20 (E : ZE) (CT : Nat → ZC) (X : ZK) (Rt : ZR) (ls : ZL) (st : List ZV) (h : ZH) (b : ZB2) : Prop := zB E CT k_X10_gapBehind_20 20 ls st h b (fun t ls st h b => X t ls st h b) Rt
theorem bs_X10_gapBehind_20 {E : ZE} {CT : Nat → ZC} {X : ZK} {Rt : ZR} {ls : ZL} {st : List ZV} {h : ZH} {b : ZB2} (hX : zCl E mX10_gapBehind 10 false CT Rt X) (q : bk_X10_gapBehind_20 E CT X Rt ls st h b) : X 20 ls st h b := by
  refine hX k_X10_gapBehind_20 20 ok_X10_gapBehind_20 _ ?_ ls st h b q
  exact fun t ls st h b q => q
def bk_X10_gapBehind_2 (E : ZE) (CT : Nat → ZC) (X : ZK) (Rt : ZR) (ls : ZL) (st : List ZV) (h : ZH) (b : ZB2) : Prop := zB E CT k_X10_gapBehind_2 2 ls st h b (fun t ls st h b => if t = 20 then bk_X10_gapBehind_20 E CT X Rt ls st h b else X t ls st h b) Rt
theorem bs_X10_gapBehind_2 {E : ZE} {CT : Nat → ZC} {X : ZK} {Rt : ZR} {ls : ZL} {st : List ZV} {h : ZH} {b : ZB2} (hX : zCl E mX10_gapBehind 10 false CT Rt X) (q : bk_X10_gapBehind_2 E CT X Rt ls st h b) : X 2 ls st h b := by
  refine hX k_X10_gapBehind_2 2 ok_X10_gapBehind_2 _ ?_ ls st h b q
  exact by
    intro t ls st h b q
    by_cases c : t = 20
    · subst c; rw [if_pos rfl] at q; exact bs_X10_gapBehind_20 hX q
    rw [if_neg c] at q
    exact q
-- X10_gapBehind: cuts [2]
def k_X10_mostOfHead_0 : List ZI := [(.iload_n 0, 1, (0, [0], [])), (.lookupswitch 33 #[(0, 27), (1, 30)], 27, (0, [34], [(0, 28), (1, 31)]))]
theorem ok_X10_mostOfHead_0 : zOK cX10_mostOfHead 10 false 1 k_X10_mostOfHead_0 0 = true := zOK_by (by decide +kernel)
def k_X10_mostOfHead_28 : List ZI := [(.bipush 63, 2, (0, [], [])), (.ireturn, 1, (0, [], []))]
theorem ok_X10_mostOfHead_28 : zOK cX10_mostOfHead 10 false 1 k_X10_mostOfHead_28 28 = true := zOK_by (by decide +kernel)
def k_X10_mostOfHead_31 : List ZI := [(.bipush 20, 2, (0, [], [])), (.ireturn, 1, (0, [], []))]
theorem ok_X10_mostOfHead_31 : zOK cX10_mostOfHead 10 false 1 k_X10_mostOfHead_31 31 = true := zOK_by (by decide +kernel)
def k_X10_mostOfHead_34 : List ZI := [(.bipush 99, 2, (0, [], [])), (.ireturn, 1, (0, [], []))]
theorem ok_X10_mostOfHead_34 : zOK cX10_mostOfHead 10 false 1 k_X10_mostOfHead_34 34 = true := zOK_by (by decide +kernel)
theorem rt_X10_mostOfHead {g : Nat} {post : Option ZV → ZH → Prop} {h : ZH} {b : ZB2} {z : Int} : zRt mX10_mostOfHead g post (some (.inl z)) h b = (post (some (.inl z)) h ∧ h.1.length = g) := by show (_ ∧ _ ∧ True) = _; simp
def bk_X10_mostOfHead_28 (E : ZE) (CT : Nat → ZC) (X : ZK) (Rt : ZR) (ls : ZL) (st : List ZV) (h : ZH) (b : ZB2) : Prop := zB E CT k_X10_mostOfHead_28 28 ls st h b (fun t ls st h b => X t ls st h b) Rt
theorem bs_X10_mostOfHead_28 {E : ZE} {CT : Nat → ZC} {X : ZK} {Rt : ZR} {ls : ZL} {st : List ZV} {h : ZH} {b : ZB2} (hX : zCl E mX10_mostOfHead 10 false CT Rt X) (q : bk_X10_mostOfHead_28 E CT X Rt ls st h b) : X 28 ls st h b := by
  refine hX k_X10_mostOfHead_28 28 ok_X10_mostOfHead_28 _ ?_ ls st h b q
  exact fun t ls st h b q => q
def bk_X10_mostOfHead_31 (E : ZE) (CT : Nat → ZC) (X : ZK) (Rt : ZR) (ls : ZL) (st : List ZV) (h : ZH) (b : ZB2) : Prop := zB E CT k_X10_mostOfHead_31 31 ls st h b (fun t ls st h b => X t ls st h b) Rt
theorem bs_X10_mostOfHead_31 {E : ZE} {CT : Nat → ZC} {X : ZK} {Rt : ZR} {ls : ZL} {st : List ZV} {h : ZH} {b : ZB2} (hX : zCl E mX10_mostOfHead 10 false CT Rt X) (q : bk_X10_mostOfHead_31 E CT X Rt ls st h b) : X 31 ls st h b := by
  refine hX k_X10_mostOfHead_31 31 ok_X10_mostOfHead_31 _ ?_ ls st h b q
  exact fun t ls st h b q => q
def bk_X10_mostOfHead_34 (E : ZE) (CT : Nat → ZC) (X : ZK) (Rt : ZR) (ls : ZL) (st : List ZV) (h : ZH) (b : ZB2) : Prop := zB E CT k_X10_mostOfHead_34 34 ls st h b (fun t ls st h b => X t ls st h b) Rt
theorem bs_X10_mostOfHead_34 {E : ZE} {CT : Nat → ZC} {X : ZK} {Rt : ZR} {ls : ZL} {st : List ZV} {h : ZH} {b : ZB2} (hX : zCl E mX10_mostOfHead 10 false CT Rt X) (q : bk_X10_mostOfHead_34 E CT X Rt ls st h b) : X 34 ls st h b := by
  refine hX k_X10_mostOfHead_34 34 ok_X10_mostOfHead_34 _ ?_ ls st h b q
  exact fun t ls st h b q => q
def bk_X10_mostOfHead_0 (E : ZE) (CT : Nat → ZC) (X : ZK) (Rt : ZR) (ls : ZL) (st : List ZV) (h : ZH) (b : ZB2) : Prop := zB E CT k_X10_mostOfHead_0 0 ls st h b (fun t ls st h b => if t = 28 then bk_X10_mostOfHead_28 E CT X Rt ls st h b else if t = 31 then bk_X10_mostOfHead_31 E CT X Rt ls st h b else if t = 34 then bk_X10_mostOfHead_34 E CT X Rt ls st h b else X t ls st h b) Rt
theorem bs_X10_mostOfHead_0 {E : ZE} {CT : Nat → ZC} {X : ZK} {Rt : ZR} {ls : ZL} {st : List ZV} {h : ZH} {b : ZB2} (hX : zCl E mX10_mostOfHead 10 false CT Rt X) (q : bk_X10_mostOfHead_0 E CT X Rt ls st h b) : X 0 ls st h b := by
  refine hX k_X10_mostOfHead_0 0 ok_X10_mostOfHead_0 _ ?_ ls st h b q
  exact by
    intro t ls st h b q
    by_cases c : t = 28
    · subst c; rw [if_pos rfl] at q; exact bs_X10_mostOfHead_28 hX q
    rw [if_neg c] at q
    by_cases c : t = 31
    · subst c; rw [if_pos rfl] at q; exact bs_X10_mostOfHead_31 hX q
    rw [if_neg c] at q
    by_cases c : t = 34
    · subst c; rw [if_pos rfl] at q; exact bs_X10_mostOfHead_34 hX q
    rw [if_neg c] at q
    exact q
-- X10_mostOfHead: cuts []
def TR (t : Nat) (M : ZMm) (d : Nat → Int) (s f : Nat) : Prop := M t 1 = d s ∧ ∀ k : Nat, (k : Int) < d s → M (t + 1) k = d (f + k)
def SR (s h c l1 l2 t w : Nat) (M : ZMm) (d : Nat → Int) : Prop := HR h M d ∧ CR c M d (-1) ∧ LR l1 M d 0 ∧ LR l2 M d 1 ∧ TR t M d 4 308 ∧ TR w M d 5 188 ∧ M s 6 = d 3
def SRn (M : ZMm) (d : Nat → Int) : Prop := SR 1 2 10 14 18 22 24 M d
def SRk (M : ZMm) (d : Nat → Int) : Prop := SR 26 27 35 39 43 47 49 M d
def cvt (b x : Int) : Int := if b = 8 then x % 256 else if b = 16 then x % 65536 else x
def srg (b x : Int) : Prop := (b = 8 → -128 ≤ x ∧ x ≤ 127) ∧ (b = 16 → -32768 ≤ x ∧ x ≤ 32767)
def ShR (S M : ZMm) : Prop := ∀ s, s < 4 → M (79 + 2 * s) 1 = S 98 s ∧ M (79 + 2 * s) 2 = S 99 s ∧ ∀ k, k < 40 → M (80 + 2 * s) k = cvt (S 98 s) (S 100 (40 * s + k)) ∧ srg (S 98 s) (S 100 (40 * s + k))
def Rc (S M : ZMm) : Prop := SRn M (S 88) ∧ (¬ S 87 3 = 0 → SRk M (S 89)) ∧ M 0 9 = S 87 3 ∧ (∀ k, k < 6 → M 78 k = S 91 k) ∧ (M 75 1 = S 87 19 ∧ ∀ k : Nat, (k : Int) < S 87 19 → M 76 k = S 97 k) ∧ ShR S M
theorem TR_cg {t s f : Nat} {M M' : ZMm} {d d' : Nat → Int} (H : TR t M d s f) (e : ∀ x, x = t ∨ x = t + 1 → M' x = M x) (e1 : d' s = d s) (e2 : ∀ k : Nat, (k : Int) < d s → d' (f + k) = d (f + k)) : TR t M' d' s f := by
  refine ⟨by rw [e t (Or.inl rfl), e1]; exact H.1, fun k hk => ?_⟩
  rw [e1] at hk
  rw [e _ (Or.inr rfl), e2 k hk]
  exact H.2 k hk
theorem Vd_l {d : Nat → Int} (h : Vd d) : (d 186 ≤ 50 ∧ d 187 ≤ 50) ∧ d 4 ≤ 50 ∧ d 5 ≤ 20 := ⟨⟨h.2.2.2.2.2.2.2.2.2.2.1.2.1, h.2.2.2.2.2.2.2.2.2.2.2.2.1⟩, h.2.2.2.1.2, h.2.2.2.2.1.2⟩
/-- the hill alone has changed -/
theorem SRn_hill {M M' : ZMm} {d d' : Nat → Int} (H : SRn M d) (vd : Vd d) (h' : HR 2 M' d') (f : ∀ x, x = 1 ∨ ((10 ≤ x ∧ x ≤ 25) ∧ ¬ x = 17 ∧ ¬ x = 21) → M' x = M x) (e : ∀ k, k = 0 ∨ k = 3 ∨ k = 4 ∨ k = 5 ∨ 162 ≤ k → d' k = d k) : SRn M' d' := by
  obtain ⟨_, c, l1, l2, t, w, z⟩ := H
  have v := Vd_l vd
  refine ⟨h', CR_cg c (fun x p q => f x (by omega)) (fun k hk => e k (by omega)), LR_cg l1 v.1.1 (by omega) (fun x p q => f x (by omega)) (fun k hk => e k (by omega)), LR_cg l2 v.1.2 (by omega) (fun x p q => f x (by omega)) (fun k hk => e k (by omega)), TR_cg t (fun x p => f x (by omega)) (e 4 (by omega)) (fun k _ => e _ (by omega)), TR_cg w (fun x p => f x (by omega)) (e 5 (by omega)) (fun k _ => e _ (by omega)), ?_⟩
  rw [f 1 (by omega), e 3 (by omega)]
  exact z
theorem SRn_cg {M M' : ZMm} {d : Nat → Int} (H : SRn M d) (vd : Vd d) (f : ∀ x, (1 ≤ x ∧ x ≤ 25) → ¬ x = 17 → ¬ x = 21 → M' x = M x) : SRn M' d :=
  SRn_hill H vd (HR_cg H.1 (fun x p q => f x (by omega) (by omega) (by omega)) (fun _ _ => rfl)) (fun x p => f x (by omega) (by omega) (by omega)) (fun _ _ => rfl)
theorem SRk_cg {M M' : ZMm} {d : Nat → Int} (H : SRk M d) (f : ∀ x, (26 ≤ x ∧ x ≤ 50) → M' x = M x) : SRk M' d := by
  obtain ⟨h, c, l1, l2, t, w, z⟩ := H
  refine ⟨HR_cg h (fun x p q => f x (by omega)) (fun _ _ => rfl), CR_cg c (fun x p q => f x (by omega)) (fun _ _ => rfl), ⟨?_, fun k hk => ?_⟩, ⟨?_, fun k hk => ?_⟩, TR_cg t (fun x p => f x (by omega)) rfl (fun _ _ => rfl), TR_cg w (fun x p => f x (by omega)) rfl (fun _ _ => rfl), ?_⟩
  · rw [f _ (by omega)]; exact l1.1
  · rw [f _ (by omega)]; exact l1.2 k hk
  · rw [f _ (by omega)]; exact l2.1
  · rw [f _ (by omega)]; exact l2.2 k hk
  · rw [f _ (by omega)]; exact z
/-- of the class's rows those of what is now have changed -/
theorem Rc_now {S M M' : ZMm} {f : Nat → Int} (H : Rc S M) (h : SRn M' f) (hf : ∀ x, x = 0 ∨ (26 ≤ x ∧ x ≤ 50) ∨ (75 ≤ x ∧ x ≤ 86) → M' x = M x) : Rc (r88 S f) M' := by
  obtain ⟨_, k, i, e, v, s⟩ := H
  refine ⟨h, fun q => SRk_cg (k q) (fun x p => hf x (by omega)), ?_, fun j hj => ?_, ⟨?_, fun j hj => ?_⟩, fun j hj => ?_⟩
  · rw [hf 0 (by omega)]; exact i
  · rw [hf 78 (by omega)]; exact e j hj
  · rw [hf 75 (by omega)]; exact v.1
  · rw [hf 76 (by omega)]; exact v.2 j hj
  · rw [hf _ (by omega), hf _ (by omega)]; exact s j hj
theorem Rc_same {S M M' : ZMm} (H : Rc S M) (vd : Vd (S 88)) (hf : ∀ x, x ≤ 50 ∨ (75 ≤ x ∧ x ≤ 86) → ¬ x = 17 → ¬ x = 21 → M' x = M x) : Rc S M' := by
  have := Rc_now H (SRn_cg H.1 vd (fun x p q1 q2 => hf x (by omega) q1 q2)) (fun x p => hf x (by omega) (by omega) (by omega))
  rw [r88_id] at this
  exact this
def cp (M : ZMm) (R : Int × ZMm) (post : Option ZV → ZMm → Prop) : Prop := ∀ M2 : ZMm, Rc R.2 M2 → (∀ x, 87 ≤ x → M2 x = M x) → post (some (.inl R.1)) M2
/-- thinking changes these rows alone -/
def Tf (M M' : ZMm) : Prop := ∀ x, ¬ x = 17 → ¬ x = 21 → (x < 53 ∨ 66 < x) → M' x = M x
theorem Tf.rf {M : ZMm} : Tf M M := fun _ _ _ _ => rfl
theorem Tf.trans {M M1 M2 : ZMm} (h : Tf M M1) (h2 : Tf M1 M2) : Tf M M2 := fun x a b c => (h2 x a b c).trans (h x a b c)
theorem Tf.rc {S M M' : ZMm} (h : Tf M M') (H : Rc S M) (vd : Vd (S 88)) : Rc S M' := Rc_same H vd (fun x p q1 q2 => h x q1 q2 (by omega))
theorem cp_mk {M : ZMm} {R : Int × ZMm} {post : Option ZV → ZMm → Prop} (h : cp M R post) {a : Int} {S' M' : ZMm} (e : R = (a, S')) (hr : Rc S' M') (hf : ∀ x, 87 ≤ x → M' x = M x) : post (some (.inl a)) M' := by
  subst e
  exact h M' hr hf
theorem cp_T {M M' S : ZMm} {R : Int × ZMm} {post : Option ZV → ZMm → Prop} (h : cp M R post) (H : Rc S M) (vd : Vd (S 88)) (t : Tf M M') {a : Int} (e : R = (a, S)) : post (some (.inl a)) M' := cp_mk h e (t.rc H vd) (fun x q => t x (by omega) (by omega) (by omega))
theorem Rc_no {S M : ZMm} (H : Rc S M) (vd : Vd (S 88)) {k : Nat} (hk : k < 6) : Rc (no S k).2 (zup M 78 k (M 78 k + 1)) := by
  obtain ⟨n, kp, i, e, v, s⟩ := H
  have f : ∀ x, ¬ x = 78 → zup M 78 k (M 78 k + 1) x = M x := fun x q => zup_ne _ q
  refine ⟨SRn_cg n vd (fun x p _ _ => f x (by omega)), fun q => SRk_cg (kp q) (fun x p => f x (by omega)), ?_, fun j hj => ?_, ⟨?_, fun j hj => ?_⟩, fun j hj => ?_⟩
  · rw [f 0 (by omega)]; exact i
  · by_cases q : j = k
    · subst q
      show zup M 78 j (M 78 j + 1) 78 j = zup S 91 j (S 91 j + 1) 91 j
      rw [zup_eq, zup_eq, e j hj]
    · show zup M 78 k (M 78 k + 1) 78 j = zup S 91 k (S 91 k + 1) 91 j
      rw [zup_k q, zup_k q, e j hj]
  · rw [f 75 (by omega)]; exact v.1
  · rw [f 76 (by omega)]; exact v.2 j hj
  · rw [f _ (by omega), f _ (by omega)]; exact s j hj
theorem cp_nT {M M' S : ZMm} {R : Int × ZMm} {post : Option ZV → ZMm → Prop} (h : cp M R post) (H : Rc S M) (vd : Vd (S 88)) (t : Tf M M') {k : Nat} {a : Int} (hk : k < 6) (e : R = no S k) (ea : a = -1000000000 - (k : Int)) : post (some (.inl a)) (zup M' 78 k (M' 78 k + 1)) := by
  subst ea
  exact cp_mk h (S' := (no S k).2) (by rw [e]; rfl) (Rc_no (t.rc H vd) vd hk) (fun x q => by rw [zup_ne _ (by omega), t x (by omega) (by omega) (by omega)])
theorem cp_no {M S : ZMm} {R : Int × ZMm} {post : Option ZV → ZMm → Prop} (h : cp M R post) (H : Rc S M) (vd : Vd (S 88)) {k : Nat} {a : Int} (hk : k < 6) (e : R = no S k) (ea : a = -1000000000 - (k : Int)) : post (some (.inl a)) (zup M 78 k (M 78 k + 1)) := cp_nT h H vd Tf.rf hk e ea
theorem cp_id {M S : ZMm} {R : Int × ZMm} {post : Option ZV → ZMm → Prop} (h : cp M R post) (H : Rc S M) {a : Int} (e : R = (a, S)) : post (some (.inl a)) M := cp_mk h e H (fun _ _ => rfl)
theorem cp_now {M M' S : ZMm} {R : Int × ZMm} {post : Option ZV → ZMm → Prop} (h : cp M R post) (H : Rc S M) {a : Int} {f : Nat → Int} (e : R = (a, r88 S f)) (hn : SRn M' f) (hf : ∀ x, x = 0 ∨ (26 ≤ x ∧ x ≤ 50) ∨ 75 ≤ x → M' x = M x) : post (some (.inl a)) M' := cp_mk h e (Rc_now H hn (fun x p => hf x (by omega))) (fun x q => hf x (by omega))
def B_cfail (e : Int) (M : Nat → Nat → Int) (post : Option ZV → (Nat → Nat → Int) → Prop) : Prop := ∃ k : Nat, e = -1000000000 - (k : Int) ∧ k < 6 ∧ post (some (.inl e)) (zup M 78 k (M 78 k + 1))
def C_cfail : ZC := fun as h post => match as with
  | [.inr (.inr (.inl 0)), .inl e] => h.1 = zG ∧ B_cfail e h.2 (fun v M => post v (zG, M))
  | _ => False
theorem r_cfail {e : Int} {M : Nat → Nat → Int} {post : Option ZV → ZH → Prop} : C_cfail [.inr (.inr (.inl 0)), .inl e] (zG, M) post = B_cfail e M (fun v M => post v (zG, M)) := by show (zG = zG ∧ _) = _; simp
def ct_cfail : Nat → ZC := fun n => fun _ _ _ => False
theorem c_cfail {E : ZE} {d : Nat} (hd : 1 ≤ d) : zMet E d mX10_failed C_cfail := by
  refine zmet_of (o := 10) (ini := false) (CT := ct_cfail) gd_X10_failed rfl (fun h => by cases h) (by omega) ?_ ?_
  · intro n as h post hh
    unfold ct_cfail at hh
    exact hh.elim
  intro as h post hC
  match as, hC with
  | [.inr (.inr (.inl 0)), .inl e], hC =>
    refine ⟨Nat.le_of_ble_eq_true rfl, fun X hX => bs_X10_failed_0 hX ?_⟩
    obtain ⟨G, M⟩ := h
    obtain ⟨hG, hC⟩ := hC
    dsimp only at hG
    subst hG
    simp only [B_cfail] at hC
    show bk_X10_failed_0 E ct_cfail X _ [some (.inr (.inr (.inl 0))), some (.inl e)] [] (zG, M) (0, 0)
    obtain ⟨k, he, hk, hC⟩ := hC
    have zk : zr (-1000000000 - e) = k := by rw [zr_of (by omega) (by omega)]; omega
    simp only [bk_X10_failed_0, k_X10_failed_0, ↓e_rk1, ↓e_rk0, ↓e_sk0, ↓e_sks, ↓e_ldi0, ↓e_ldis, ↓e_ldl0, ↓e_ldls, ↓e_lda0, ↓e_ldas, ↓e_ok0, ↓e_okss, ↓e_ok1i, ↓e_ok1r, ↓e_ok1n, ↓e_sti, ↓e_sta, ↓e_1, ↓e_2, ↓e_l1, ↓e_l2, ↓e_li, ↓e_sw0, ↓e_sws, ↓e_ceq, ↓e_cne, ↓e_clt, ↓e_cge, ↓e_cgt, ↓e_cle, ↓e_nil, ↓e_cons, ↓e_iconst, ↓e_bipush, ↓e_sipush, ↓e_ldc, ↓e_ldcw, ↓e_ldc2, ↓e_lconst, ↓e_iloadn, ↓e_iload, ↓e_lloadn, ↓e_lload, ↓e_aloadn, ↓e_aload, ↓e_istoren, ↓e_istore, ↓e_astoren, ↓e_astore, ↓e_add, ↓e_iinc, ↓e_iadd, ↓e_isub, ↓e_imul, ↓e_iand, ↓e_ior, ↓e_ixor, ↓e_ishl, ↓e_iushr, ↓e_idiv, ↓e_irem, ↓e_ineg, ↓e_i2l, ↓e_i2b, ↓e_i2s, ↓e_l2i, ↓e_land, ↓e_lor, ↓e_lshl, ↓e_lshr, ↓e_lushr, ↓e_lcmp, ↓e_dupi, ↓e_dupr, ↓e_popi, ↓e_dup2, ↓e_goto, ↓e_if, ↓e_icmp, ↓e_tsw, ↓e_lsw, ↓e_getf, ↓e_putf, ↓e_gets, ↓e_iald, ↓e_cald, ↓e_iast, ↓e_aald, ↓e_aast, ↓e_len, ↓e_copy, ↓e_abs, ↓e_max, ↓e_min, ↓e_iret, ↓e_aret, ↓e_vret, ↓e_is0, ↓e_is1, ↓e_is2, ↓e_is3, ↓e_is4, ↓e_iv1, ↓e_iv2, ↓e_iv3, ↓e_iv4, ↓e_iv5, ↓e_iv6, ↓rt_X10_failed, ↓reduceIte, Nat.reduceAdd, Nat.reduceEqDiff, ↓zcl0, ↓zclv, List.map_nil, List.sum_nil, List.map_cons, List.sum_cons, zcat, true_and, and_true, Nat.reduceLeDiff, Nat.reduceAdd, eq_self, forall_const, e_ok0, e_okss, e_ok1i, e_ok1r, e_ok1n, zl_m1000000000, zl_1, Int.reduceToNat, Int.reduceAdd, Int.reduceMul, Int.reduceSub, Int.reduceNeg, Int.reduceLT, Int.reduceLE, Int.reduceEq, not_false_eq_true, not_true_eq_false, false_implies, true_implies, implies_true, Int.reduceDiv, Int.reduceMod, zr8_zr, zr_zbo, z01_zbo, z01_0, z01_1, zbo_eq0, zup_eq, zup_o, zup_k, ne_eq, ↓v_0, ↓g_0_0, ↓g_0_1, ↓g_0_2, ↓g_0_3, ↓g_0_4, ↓g_0_5, ↓g_0_6, ↓g_0_7, ↓g_0_8, ↓l_78, ↓s_78, ↓n_78, ↓g_0_9, ↓p_0_9, zk, Int.toNat_natCast]
    exact ⟨by omega, by omega, by omega, by omega, hC⟩
def B_cbey (v : Int) (m : Int) (post : Option ZV → Prop) : Prop := rg v ∧ rg m ∧ post (some (.inl (zbo (¬ (0 ≤ v ∧ v ≤ m)))))
def C_cbey : ZC := fun as h post => match as with
  | [.inl v, .inl m] => B_cbey v m (fun v => post v h)
  | _ => False
theorem r_cbey {v : Int} {m : Int} {h : ZH} {post : Option ZV → ZH → Prop} : C_cbey [.inl v, .inl m] h post = B_cbey v m (fun v => post v h) := rfl
def ct_cbey : Nat → ZC := fun n => fun _ _ _ => False
theorem c_cbey {E : ZE} {d : Nat} (hd : 1 ≤ d) : zMet E d mX10_isBeyond C_cbey := by
  refine zmet_of (o := 10) (ini := false) (CT := ct_cbey) gd_X10_isBeyond rfl (fun h => by cases h) (by omega) ?_ ?_
  · intro n as h post hh
    unfold ct_cbey at hh
    exact hh.elim
  intro as h post hC
  match as, hC with
  | [.inl v, .inl m], hC =>
    refine ⟨Nat.le_of_ble_eq_true rfl, fun X hX => bs_X10_isBeyond_0 hX ?_⟩
    have hC : B_cbey v m (fun v => post v h) := hC
    simp only [B_cbey] at hC
    show bk_X10_isBeyond_0 E ct_cbey X _ [some (.inl v), some (.inl m)] [] h (0, 0)
    obtain ⟨h1, h2, hC⟩ := hC
    simp only [bk_X10_isBeyond_0, k_X10_isBeyond_0, bk_X10_isBeyond_9, k_X10_isBeyond_9, bk_X10_isBeyond_13, k_X10_isBeyond_13, bk_X10_isBeyond_14, k_X10_isBeyond_14, ↓e_rk1, ↓e_rk0, ↓e_sk0, ↓e_sks, ↓e_ldi0, ↓e_ldis, ↓e_ldl0, ↓e_ldls, ↓e_lda0, ↓e_ldas, ↓e_ok0, ↓e_okss, ↓e_ok1i, ↓e_ok1r, ↓e_ok1n, ↓e_sti, ↓e_sta, ↓e_1, ↓e_2, ↓e_l1, ↓e_l2, ↓e_li, ↓e_sw0, ↓e_sws, ↓e_ceq, ↓e_cne, ↓e_clt, ↓e_cge, ↓e_cgt, ↓e_cle, ↓e_nil, ↓e_cons, ↓e_iconst, ↓e_bipush, ↓e_sipush, ↓e_ldc, ↓e_ldcw, ↓e_ldc2, ↓e_lconst, ↓e_iloadn, ↓e_iload, ↓e_lloadn, ↓e_lload, ↓e_aloadn, ↓e_aload, ↓e_istoren, ↓e_istore, ↓e_astoren, ↓e_astore, ↓e_add, ↓e_iinc, ↓e_iadd, ↓e_isub, ↓e_imul, ↓e_iand, ↓e_ior, ↓e_ixor, ↓e_ishl, ↓e_iushr, ↓e_idiv, ↓e_irem, ↓e_ineg, ↓e_i2l, ↓e_i2b, ↓e_i2s, ↓e_l2i, ↓e_land, ↓e_lor, ↓e_lshl, ↓e_lshr, ↓e_lushr, ↓e_lcmp, ↓e_dupi, ↓e_dupr, ↓e_popi, ↓e_dup2, ↓e_goto, ↓e_if, ↓e_icmp, ↓e_tsw, ↓e_lsw, ↓e_getf, ↓e_putf, ↓e_gets, ↓e_iald, ↓e_cald, ↓e_iast, ↓e_aald, ↓e_aast, ↓e_len, ↓e_copy, ↓e_abs, ↓e_max, ↓e_min, ↓e_iret, ↓e_aret, ↓e_vret, ↓e_is0, ↓e_is1, ↓e_is2, ↓e_is3, ↓e_is4, ↓e_iv1, ↓e_iv2, ↓e_iv3, ↓e_iv4, ↓e_iv5, ↓e_iv6, ↓rt_X10_isBeyond, ↓reduceIte, Nat.reduceAdd, Nat.reduceEqDiff, ↓zcl0, ↓zclv, List.map_nil, List.sum_nil, List.map_cons, List.sum_cons, zcat, true_and, and_true, Nat.reduceLeDiff, Nat.reduceAdd, eq_self, forall_const, e_ok0, e_okss, e_ok1i, e_ok1r, e_ok1n, zl_0, zl_1, Int.reduceToNat, Int.reduceAdd, Int.reduceMul, Int.reduceSub, Int.reduceNeg, Int.reduceLT, Int.reduceLE, Int.reduceEq, not_false_eq_true, not_true_eq_false, false_implies, true_implies, implies_true, Int.reduceDiv, Int.reduceMod, zr8_zr, zr_zbo, z01_zbo, z01_0, z01_1, zbo_eq0, zup_eq, zup_o, zup_k, ne_eq, zr_rg, h1, zr_rg, h2]
    repeat' (first | assumption | apply And.intro | intro _)
    all_goals first | exact zpost hC (zbo_t (by omega)) | exact zpost hC (zbo_f (by omega))
def B_cnob (e : Int) (M : Nat → Nat → Int) (post : Option ZV → (Nat → Nat → Int) → Prop) : Prop := rg e ∧ (0 ≤ M 10 3 ∧ M 10 3 ≤ 8) ∧ post (some (.inl (zbo (¬ (0 ≤ e ∧ e < M 10 3))))) M
def C_cnob : ZC := fun as h post => match as with
  | [.inr (.inr (.inl 0)), .inl e] => h.1 = zG ∧ B_cnob e h.2 (fun v M => post v (zG, M))
  | _ => False
theorem r_cnob {e : Int} {M : Nat → Nat → Int} {post : Option ZV → ZH → Prop} : C_cnob [.inr (.inr (.inl 0)), .inl e] (zG, M) post = B_cnob e M (fun v M => post v (zG, M)) := by show (zG = zG ∧ _) = _; simp
def ct_cnob : Nat → ZC := fun n => if n = 111 then C_cbey else fun _ _ _ => False
theorem ct_cnob_cbey {as : List ZV} {h : ZH} {post : Option ZV → ZH → Prop} : ct_cnob 111 as h post = C_cbey as h post := rfl
theorem c_cnob {E : ZE} {d : Nat} (hd : 2 ≤ d) : zMet E d mX10_isNobody C_cnob := by
  refine zmet_of (o := 10) (ini := false) (CT := ct_cnob) gd_X10_isNobody rfl (fun h => by cases h) (by omega) ?_ ?_
  · intro n as h post hh
    unfold ct_cnob at hh
    by_cases c : n = 111
    · subst c; exact ⟨gd_X10_isBeyond, 1, by omega, c_cbey (by omega)⟩
    rw [if_neg c] at hh
    exact hh.elim
  intro as h post hC
  match as, hC with
  | [.inr (.inr (.inl 0)), .inl e], hC =>
    refine ⟨Nat.le_of_ble_eq_true rfl, fun X hX => bs_X10_isNobody_0 hX ?_⟩
    obtain ⟨G, M⟩ := h
    obtain ⟨hG, hC⟩ := hC
    dsimp only at hG
    subst hG
    simp only [B_cnob] at hC
    show bk_X10_isNobody_0 E ct_cnob X _ [some (.inr (.inr (.inl 0))), some (.inl e)] [] (zG, M) (0, 0)
    obtain ⟨h1, h2, hC⟩ := hC
    simp only [bk_X10_isNobody_0, k_X10_isNobody_0, ↓e_rk1, ↓e_rk0, ↓e_sk0, ↓e_sks, ↓e_ldi0, ↓e_ldis, ↓e_ldl0, ↓e_ldls, ↓e_lda0, ↓e_ldas, ↓e_ok0, ↓e_okss, ↓e_ok1i, ↓e_ok1r, ↓e_ok1n, ↓e_sti, ↓e_sta, ↓e_1, ↓e_2, ↓e_l1, ↓e_l2, ↓e_li, ↓e_sw0, ↓e_sws, ↓e_ceq, ↓e_cne, ↓e_clt, ↓e_cge, ↓e_cgt, ↓e_cle, ↓e_nil, ↓e_cons, ↓e_iconst, ↓e_bipush, ↓e_sipush, ↓e_ldc, ↓e_ldcw, ↓e_ldc2, ↓e_lconst, ↓e_iloadn, ↓e_iload, ↓e_lloadn, ↓e_lload, ↓e_aloadn, ↓e_aload, ↓e_istoren, ↓e_istore, ↓e_astoren, ↓e_astore, ↓e_add, ↓e_iinc, ↓e_iadd, ↓e_isub, ↓e_imul, ↓e_iand, ↓e_ior, ↓e_ixor, ↓e_ishl, ↓e_iushr, ↓e_idiv, ↓e_irem, ↓e_ineg, ↓e_i2l, ↓e_i2b, ↓e_i2s, ↓e_l2i, ↓e_land, ↓e_lor, ↓e_lshl, ↓e_lshr, ↓e_lushr, ↓e_lcmp, ↓e_dupi, ↓e_dupr, ↓e_popi, ↓e_dup2, ↓e_goto, ↓e_if, ↓e_icmp, ↓e_tsw, ↓e_lsw, ↓e_getf, ↓e_putf, ↓e_gets, ↓e_iald, ↓e_cald, ↓e_iast, ↓e_aald, ↓e_aast, ↓e_len, ↓e_copy, ↓e_abs, ↓e_max, ↓e_min, ↓e_iret, ↓e_aret, ↓e_vret, ↓e_is0, ↓e_is1, ↓e_is2, ↓e_is3, ↓e_is4, ↓e_iv1, ↓e_iv2, ↓e_iv3, ↓e_iv4, ↓e_iv5, ↓e_iv6, ↓rt_X10_isNobody, ↓reduceIte, Nat.reduceAdd, Nat.reduceEqDiff, ↓zcl0, ↓zclv, List.map_nil, List.sum_nil, List.map_cons, List.sum_cons, zcat, true_and, and_true, Nat.reduceLeDiff, Nat.reduceAdd, eq_self, forall_const, e_ok0, e_okss, e_ok1i, e_ok1r, e_ok1n, zl_1, Int.reduceToNat, Int.reduceAdd, Int.reduceMul, Int.reduceSub, Int.reduceNeg, Int.reduceLT, Int.reduceLE, Int.reduceEq, not_false_eq_true, not_true_eq_false, false_implies, true_implies, implies_true, Int.reduceDiv, Int.reduceMod, zr8_zr, zr_zbo, z01_zbo, z01_0, z01_1, zbo_eq0, zup_eq, zup_o, zup_k, ne_eq, ↓ct_cnob_cbey, ↓r_cbey, ↓B_cbey, ↓v_0, ↓g_0_0, ↓g_0_1, ↓g_0_2, ↓g_0_3, ↓g_0_4, ↓g_0_5, ↓g_0_6, ↓g_0_7, ↓g_0_8, ↓l_78, ↓s_78, ↓n_78, ↓g_0_9, ↓p_0_9, ↓v_1, ↓g_1_0, ↓g_1_1, ↓g_1_2, ↓g_1_3, ↓g_1_4, ↓g_1_5, ↓g_1_6, ↓p_1_6, ↓v_10, ↓g_10_0, ↓l_11, ↓s_11, ↓n_11, ↓g_10_1, ↓l_12, ↓s_12, ↓n_12, ↓g_10_2, ↓l_13, ↓s_13, ↓n_13, ↓g_10_3, ↓p_10_3, zr_zbo, z01_zbo]
    refine ⟨h1, ⟨by omega, by omega⟩, zpost hC ?_⟩
    unfold zbo
    (repeat' split) <;> omega
def B_cthink (M : Nat → Nat → Int) (post : Option ZV → (Nat → Nat → Int) → Prop) : Prop := ∃ d : Nat → Int, SRn M d ∧ ∀ M2 : ZMm, HR 54 M2 d → CR 62 M2 d (-1) → Tf M M2 → post none M2
def C_cthink : ZC := fun as h post => match as with
  | [.inr (.inr (.inl 0))] => h.1 = zG ∧ B_cthink h.2 (fun v M => post v (zG, M))
  | _ => False
theorem r_cthink {M : Nat → Nat → Int} {post : Option ZV → ZH → Prop} : C_cthink [.inr (.inr (.inl 0))] (zG, M) post = B_cthink M (fun v M => post v (zG, M)) := by show (zG = zG ∧ _) = _; simp
def ct_cthink : Nat → ZC := fun n => if n = 24 then C_hcopy else if n = 2 then C_ccopy else fun _ _ _ => False
theorem ct_cthink_hcopy {as : List ZV} {h : ZH} {post : Option ZV → ZH → Prop} : ct_cthink 24 as h post = C_hcopy as h post := rfl
theorem ct_cthink_ccopy {as : List ZV} {h : ZH} {post : Option ZV → ZH → Prop} : ct_cthink 2 as h post = C_ccopy as h post := rfl
theorem c_cthink {E : ZE} {d : Nat} (hd : 2 ≤ d) : zMet E d mX10_think C_cthink := by
  refine zmet_of (o := 10) (ini := false) (CT := ct_cthink) gd_X10_think rfl (fun h => by cases h) (by omega) ?_ ?_
  · intro n as h post hh
    unfold ct_cthink at hh
    by_cases c : n = 24
    · subst c; exact ⟨gd_X2_copyFrom, 1, by omega, c_hcopy (by omega)⟩
    rw [if_neg c] at hh
    by_cases c : n = 2
    · subst c; exact ⟨gd_X0_copyFrom, 1, by omega, c_ccopy (by omega)⟩
    rw [if_neg c] at hh
    exact hh.elim
  intro as h post hC
  match as, hC with
  | [.inr (.inr (.inl 0))], hC =>
    refine ⟨Nat.le_of_ble_eq_true rfl, fun X hX => bs_X10_think_0 hX ?_⟩
    obtain ⟨G, M⟩ := h
    obtain ⟨hG, hC⟩ := hC
    dsimp only at hG
    subst hG
    simp only [B_cthink] at hC
    show bk_X10_think_0 E ct_cthink X _ [some (.inr (.inr (.inl 0)))] [] (zG, M) (0, 0)
    obtain ⟨d9, n, hC⟩ := hC
    simp only [bk_X10_think_0, k_X10_think_0, ↓e_rk1, ↓e_rk0, ↓e_sk0, ↓e_sks, ↓e_ldi0, ↓e_ldis, ↓e_ldl0, ↓e_ldls, ↓e_lda0, ↓e_ldas, ↓e_ok0, ↓e_okss, ↓e_ok1i, ↓e_ok1r, ↓e_ok1n, ↓e_sti, ↓e_sta, ↓e_1, ↓e_2, ↓e_l1, ↓e_l2, ↓e_li, ↓e_sw0, ↓e_sws, ↓e_ceq, ↓e_cne, ↓e_clt, ↓e_cge, ↓e_cgt, ↓e_cle, ↓e_nil, ↓e_cons, ↓e_iconst, ↓e_bipush, ↓e_sipush, ↓e_ldc, ↓e_ldcw, ↓e_ldc2, ↓e_lconst, ↓e_iloadn, ↓e_iload, ↓e_lloadn, ↓e_lload, ↓e_aloadn, ↓e_aload, ↓e_istoren, ↓e_istore, ↓e_astoren, ↓e_astore, ↓e_add, ↓e_iinc, ↓e_iadd, ↓e_isub, ↓e_imul, ↓e_iand, ↓e_ior, ↓e_ixor, ↓e_ishl, ↓e_iushr, ↓e_idiv, ↓e_irem, ↓e_ineg, ↓e_i2l, ↓e_i2b, ↓e_i2s, ↓e_l2i, ↓e_land, ↓e_lor, ↓e_lshl, ↓e_lshr, ↓e_lushr, ↓e_lcmp, ↓e_dupi, ↓e_dupr, ↓e_popi, ↓e_dup2, ↓e_goto, ↓e_if, ↓e_icmp, ↓e_tsw, ↓e_lsw, ↓e_getf, ↓e_putf, ↓e_gets, ↓e_iald, ↓e_cald, ↓e_iast, ↓e_aald, ↓e_aast, ↓e_len, ↓e_copy, ↓e_abs, ↓e_max, ↓e_min, ↓e_iret, ↓e_aret, ↓e_vret, ↓e_is0, ↓e_is1, ↓e_is2, ↓e_is3, ↓e_is4, ↓e_iv1, ↓e_iv2, ↓e_iv3, ↓e_iv4, ↓e_iv5, ↓e_iv6, ↓rt_X10_think, ↓reduceIte, Nat.reduceAdd, Nat.reduceEqDiff, ↓zcl0, ↓zclv, List.map_nil, List.sum_nil, List.map_cons, List.sum_cons, zcat, true_and, and_true, Nat.reduceLeDiff, Nat.reduceAdd, eq_self, forall_const, e_ok0, e_okss, e_ok1i, e_ok1r, e_ok1n, Int.reduceToNat, Int.reduceAdd, Int.reduceMul, Int.reduceSub, Int.reduceNeg, Int.reduceLT, Int.reduceLE, Int.reduceEq, not_false_eq_true, not_true_eq_false, false_implies, true_implies, implies_true, Int.reduceDiv, Int.reduceMod, zr8_zr, zr_zbo, z01_zbo, z01_0, z01_1, zbo_eq0, zup_eq, zup_o, zup_k, ne_eq, ↓ct_cthink_hcopy, ↓r_hcopy, ↓B_hcopy, ↓ct_cthink_ccopy, ↓r_ccopy, ↓B_ccopy, ↓v_0, ↓g_0_0, ↓g_0_1, ↓g_0_2, ↓g_0_3, ↓g_0_4, ↓g_0_5, ↓g_0_6, ↓g_0_7, ↓g_0_8, ↓l_78, ↓s_78, ↓n_78, ↓g_0_9, ↓p_0_9, ↓v_1, ↓g_1_0, ↓g_1_1, ↓g_1_2, ↓g_1_3, ↓g_1_4, ↓g_1_5, ↓g_1_6, ↓p_1_6, ↓v_2, ↓g_2_0, ↓l_3, ↓s_3, ↓n_3, ↓g_2_1, ↓l_4, ↓s_4, ↓n_4, ↓g_2_2, ↓l_5, ↓s_5, ↓n_5, ↓g_2_3, ↓l_6, ↓s_6, ↓n_6, ↓g_2_4, ↓l_7, ↓s_7, ↓n_7, ↓g_2_5, ↓l_8, ↓s_8, ↓n_8, ↓g_2_6, ↓l_9, ↓s_9, ↓n_9, ↓g_2_7, ↓p_2_7, ↓g_2_8, ↓p_2_8, ↓g_2_9, ↓p_2_9, ↓v_10, ↓g_10_0, ↓l_11, ↓s_11, ↓n_11, ↓g_10_1, ↓l_12, ↓s_12, ↓n_12, ↓g_10_2, ↓l_13, ↓s_13, ↓n_13, ↓g_10_3, ↓p_10_3, ↓v_53, ↓g_53_0, ↓g_53_1, ↓g_53_2, ↓g_53_3, ↓g_53_4, ↓l_66, ↓s_66, ↓n_66, ↓g_53_5, ↓p_53_5, ↓g_53_6, ↓p_53_6, ↓g_53_7, ↓p_53_7, ↓g_53_8, ↓p_53_8, ↓g_53_9, ↓p_53_9, ↓v_54, ↓g_54_0, ↓l_55, ↓s_55, ↓n_55, ↓g_54_1, ↓l_56, ↓s_56, ↓n_56, ↓g_54_2, ↓l_57, ↓s_57, ↓n_57, ↓g_54_3, ↓l_58, ↓s_58, ↓n_58, ↓g_54_4, ↓l_59, ↓s_59, ↓n_59, ↓g_54_5, ↓l_60, ↓s_60, ↓n_60, ↓g_54_6, ↓l_61, ↓s_61, ↓n_61, ↓g_54_7, ↓p_54_7, ↓g_54_8, ↓p_54_8, ↓g_54_9, ↓p_54_9, ↓v_62, ↓g_62_0, ↓l_63, ↓s_63, ↓n_63, ↓g_62_1, ↓l_64, ↓s_64, ↓n_64, ↓g_62_2, ↓l_65, ↓s_65, ↓n_65, ↓g_62_3, ↓p_62_3]
    refine ⟨Or.inr (Or.inr rfl), Or.inl rfl, d9, n.1, fun M1 h1 f1 => ⟨Or.inr (Or.inr rfl), Or.inl rfl, d9, -1, CR_cg n.2.1 (fun x p q => f1 x (by omega)) (fun _ _ => rfl), fun M2 h2 f2 => hC M2 (HR_cg h1 (fun x p q => f2 x (by omega)) (fun _ _ => rfl)) h2 (fun x p q r => ?_)⟩⟩
    rw [f2 x (by omega), f1 x (by omega)]
def B_cgapb (n : Int) (M : Nat → Nat → Int) (post : Option ZV → (Nat → Nat → Int) → Prop) : Prop := (0 ≤ n ∧ n ≤ 100) ∧ ∃ (d : Nat → Int) (wo : Int), DG 53 54 62 66 M d wo ∧ d 1 + n ≤ 20000 ∧ ∀ M2 : ZMm, HR 54 M2 (yrs d wo n.toNat) → (∀ x, ¬ x = 17 → ¬ x = 21 → (x < 53 ∨ 61 < x) → ¬ x = 66 → M2 x = M x) → post (some (.inl (gap (yrs d wo n.toNat)))) M2
def C_cgapb : ZC := fun as h post => match as with
  | [.inr (.inr (.inl 0)), .inl n] => h.1 = zG ∧ B_cgapb n h.2 (fun v M => post v (zG, M))
  | _ => False
theorem r_cgapb {n : Int} {M : Nat → Nat → Int} {post : Option ZV → ZH → Prop} : C_cgapb [.inr (.inr (.inl 0)), .inl n] (zG, M) post = B_cgapb n M (fun v M => post v (zG, M)) := by show (zG = zG ∧ _) = _; simp
def ct_cgapb : Nat → ZC := fun n => if n = 4 then C_dyear else if n = 18 then C_hgap else fun _ _ _ => False
theorem ct_cgapb_dyear {as : List ZV} {h : ZH} {post : Option ZV → ZH → Prop} : ct_cgapb 4 as h post = C_dyear as h post := rfl
theorem ct_cgapb_hgap {as : List ZV} {h : ZH} {post : Option ZV → ZH → Prop} : ct_cgapb 18 as h post = C_hgap as h post := rfl
theorem c_cgapb {E : ZE} {d : Nat} (hd : 6 ≤ d) : zMet E d mX10_gapBehind C_cgapb := by
  refine zmet_of (o := 10) (ini := false) (CT := ct_cgapb) gd_X10_gapBehind rfl (fun h => by cases h) (by omega) ?_ ?_
  · intro n as h post hh
    unfold ct_cgapb at hh
    by_cases c : n = 4
    · subst c; exact ⟨gd_X1_goYear, 5, by omega, c_dyear (by omega)⟩
    rw [if_neg c] at hh
    by_cases c : n = 18
    · subst c; exact ⟨gd_X2_gap, 2, by omega, c_hgap (by omega)⟩
    rw [if_neg c] at hh
    exact hh.elim
  intro as h post hC
  match as, hC with
  | [.inr (.inr (.inl 0)), .inl n], hC =>
    refine ⟨Nat.le_of_ble_eq_true rfl, fun X hX => bs_X10_gapBehind_0 hX ?_⟩
    obtain ⟨G, M⟩ := h
    obtain ⟨hG, hC⟩ := hC
    dsimp only at hG
    subst hG
    simp only [B_cgapb] at hC
    show bk_X10_gapBehind_0 E ct_cgapb X _ [some (.inr (.inr (.inl 0))), some (.inl n), none] [] (zG, M) (0, 0)
    obtain ⟨hn, d9, wo, D, hy, hC⟩ := hC
    have zn : zr n = n := zr_of (by omega) (by omega)
    obtain ⟨hb9, H, C, L14, L18, vd⟩ := D
    have v := Vd_l vd
    have lp : ∀ (j k : Nat) (M' : ZMm), j + k = n.toNat → HR 54 M' (yrs d9 wo k) → (∀ x, ¬ x = 17 → ¬ x = 21 → (x < 53 ∨ 61 < x) → ¬ x = 66 → M' x = M x) → X 2 [some (.inr (.inr (.inl 0))), some (.inl n), some (.inl ((k : Int)))] [] (zG, M') (0, 0) := by
      intro j
      induction j with
      | zero =>
        intro k M' hk h1 f1
        refine bs_X10_gapBehind_2 hX ?_
        have zk : zr (k : Int) = k := zr_of (by omega) (by omega)
        have lk : ((k : Int) < n) = False := eq_false (by omega)
        have ok := yrs_ok vd wo k (by omega)
        simp only [bk_X10_gapBehind_0, k_X10_gapBehind_0, bk_X10_gapBehind_2, k_X10_gapBehind_2, bk_X10_gapBehind_20, k_X10_gapBehind_20, ↓e_rk1, ↓e_rk0, ↓e_sk0, ↓e_sks, ↓e_ldi0, ↓e_ldis, ↓e_ldl0, ↓e_ldls, ↓e_lda0, ↓e_ldas, ↓e_ok0, ↓e_okss, ↓e_ok1i, ↓e_ok1r, ↓e_ok1n, ↓e_sti, ↓e_sta, ↓e_1, ↓e_2, ↓e_l1, ↓e_l2, ↓e_li, ↓e_sw0, ↓e_sws, ↓e_ceq, ↓e_cne, ↓e_clt, ↓e_cge, ↓e_cgt, ↓e_cle, ↓e_nil, ↓e_cons, ↓e_iconst, ↓e_bipush, ↓e_sipush, ↓e_ldc, ↓e_ldcw, ↓e_ldc2, ↓e_lconst, ↓e_iloadn, ↓e_iload, ↓e_lloadn, ↓e_lload, ↓e_aloadn, ↓e_aload, ↓e_istoren, ↓e_istore, ↓e_astoren, ↓e_astore, ↓e_add, ↓e_iinc, ↓e_iadd, ↓e_isub, ↓e_imul, ↓e_iand, ↓e_ior, ↓e_ixor, ↓e_ishl, ↓e_iushr, ↓e_idiv, ↓e_irem, ↓e_ineg, ↓e_i2l, ↓e_i2b, ↓e_i2s, ↓e_l2i, ↓e_land, ↓e_lor, ↓e_lshl, ↓e_lshr, ↓e_lushr, ↓e_lcmp, ↓e_dupi, ↓e_dupr, ↓e_popi, ↓e_dup2, ↓e_goto, ↓e_if, ↓e_icmp, ↓e_tsw, ↓e_lsw, ↓e_getf, ↓e_putf, ↓e_gets, ↓e_iald, ↓e_cald, ↓e_iast, ↓e_aald, ↓e_aast, ↓e_len, ↓e_copy, ↓e_abs, ↓e_max, ↓e_min, ↓e_iret, ↓e_aret, ↓e_vret, ↓e_is0, ↓e_is1, ↓e_is2, ↓e_is3, ↓e_is4, ↓e_iv1, ↓e_iv2, ↓e_iv3, ↓e_iv4, ↓e_iv5, ↓e_iv6, ↓rt_X10_gapBehind, ↓reduceIte, Nat.reduceAdd, Nat.reduceEqDiff, ↓zcl0, ↓zclv, List.map_nil, List.sum_nil, List.map_cons, List.sum_cons, zcat, true_and, and_true, Nat.reduceLeDiff, Nat.reduceAdd, eq_self, forall_const, e_ok0, e_okss, e_ok1i, e_ok1r, e_ok1n, zl_0, Int.reduceToNat, Int.reduceAdd, Int.reduceMul, Int.reduceSub, Int.reduceNeg, Int.reduceLT, Int.reduceLE, Int.reduceEq, not_false_eq_true, not_true_eq_false, false_implies, true_implies, implies_true, Int.reduceDiv, Int.reduceMod, zr8_zr, zr_zbo, z01_zbo, z01_0, z01_1, zbo_eq0, zup_eq, zup_o, zup_k, ne_eq, ↓ct_cgapb_dyear, ↓r_dyear, ↓B_dyear, ↓ct_cgapb_hgap, ↓r_hgap, ↓B_hgap, ↓v_0, ↓g_0_0, ↓g_0_1, ↓g_0_2, ↓g_0_3, ↓g_0_4, ↓g_0_5, ↓g_0_6, ↓g_0_7, ↓g_0_8, ↓l_78, ↓s_78, ↓n_78, ↓g_0_9, ↓p_0_9, ↓v_53, ↓g_53_0, ↓g_53_1, ↓g_53_2, ↓g_53_3, ↓g_53_4, ↓l_66, ↓s_66, ↓n_66, ↓g_53_5, ↓p_53_5, ↓g_53_6, ↓p_53_6, ↓g_53_7, ↓p_53_7, ↓g_53_8, ↓p_53_8, ↓g_53_9, ↓p_53_9, ↓v_54, ↓g_54_0, ↓l_55, ↓s_55, ↓n_55, ↓g_54_1, ↓l_56, ↓s_56, ↓n_56, ↓g_54_2, ↓l_57, ↓s_57, ↓n_57, ↓g_54_3, ↓l_58, ↓s_58, ↓n_58, ↓g_54_4, ↓l_59, ↓s_59, ↓n_59, ↓g_54_5, ↓l_60, ↓s_60, ↓n_60, ↓g_54_6, ↓l_61, ↓s_61, ↓n_61, ↓g_54_7, ↓p_54_7, ↓g_54_8, ↓p_54_8, ↓g_54_9, ↓p_54_9, zk, zn, lk]
        have ek : k = n.toNat := by omega
        subst ek
        exact ⟨Or.inr (Or.inr rfl), _, h1, ok.1, hC M' h1 f1⟩
      | succ j ih =>
        intro k M' hk h1 f1
        refine bs_X10_gapBehind_2 hX ?_
        have zk : zr (k : Int) = k := zr_of (by omega) (by omega)
        have lk : ((k : Int) < n) = True := eq_true (by omega)
        have ok := yrs_ok vd wo k (by omega)
        have hi : ∀ i : Nat, (162 ≤ i ∨ (i < 70 ∧ ¬ i = 1)) → yrs d9 wo k i = d9 i := fun i q => yrs_hi vd wo q k (by omega)
        simp only [bk_X10_gapBehind_0, k_X10_gapBehind_0, bk_X10_gapBehind_2, k_X10_gapBehind_2, bk_X10_gapBehind_20, k_X10_gapBehind_20, ↓e_rk1, ↓e_rk0, ↓e_sk0, ↓e_sks, ↓e_ldi0, ↓e_ldis, ↓e_ldl0, ↓e_ldls, ↓e_lda0, ↓e_ldas, ↓e_ok0, ↓e_okss, ↓e_ok1i, ↓e_ok1r, ↓e_ok1n, ↓e_sti, ↓e_sta, ↓e_1, ↓e_2, ↓e_l1, ↓e_l2, ↓e_li, ↓e_sw0, ↓e_sws, ↓e_ceq, ↓e_cne, ↓e_clt, ↓e_cge, ↓e_cgt, ↓e_cle, ↓e_nil, ↓e_cons, ↓e_iconst, ↓e_bipush, ↓e_sipush, ↓e_ldc, ↓e_ldcw, ↓e_ldc2, ↓e_lconst, ↓e_iloadn, ↓e_iload, ↓e_lloadn, ↓e_lload, ↓e_aloadn, ↓e_aload, ↓e_istoren, ↓e_istore, ↓e_astoren, ↓e_astore, ↓e_add, ↓e_iinc, ↓e_iadd, ↓e_isub, ↓e_imul, ↓e_iand, ↓e_ior, ↓e_ixor, ↓e_ishl, ↓e_iushr, ↓e_idiv, ↓e_irem, ↓e_ineg, ↓e_i2l, ↓e_i2b, ↓e_i2s, ↓e_l2i, ↓e_land, ↓e_lor, ↓e_lshl, ↓e_lshr, ↓e_lushr, ↓e_lcmp, ↓e_dupi, ↓e_dupr, ↓e_popi, ↓e_dup2, ↓e_goto, ↓e_if, ↓e_icmp, ↓e_tsw, ↓e_lsw, ↓e_getf, ↓e_putf, ↓e_gets, ↓e_iald, ↓e_cald, ↓e_iast, ↓e_aald, ↓e_aast, ↓e_len, ↓e_copy, ↓e_abs, ↓e_max, ↓e_min, ↓e_iret, ↓e_aret, ↓e_vret, ↓e_is0, ↓e_is1, ↓e_is2, ↓e_is3, ↓e_is4, ↓e_iv1, ↓e_iv2, ↓e_iv3, ↓e_iv4, ↓e_iv5, ↓e_iv6, ↓rt_X10_gapBehind, ↓reduceIte, Nat.reduceAdd, Nat.reduceEqDiff, ↓zcl0, ↓zclv, List.map_nil, List.sum_nil, List.map_cons, List.sum_cons, zcat, true_and, and_true, Nat.reduceLeDiff, Nat.reduceAdd, eq_self, forall_const, e_ok0, e_okss, e_ok1i, e_ok1r, e_ok1n, zl_0, Int.reduceToNat, Int.reduceAdd, Int.reduceMul, Int.reduceSub, Int.reduceNeg, Int.reduceLT, Int.reduceLE, Int.reduceEq, not_false_eq_true, not_true_eq_false, false_implies, true_implies, implies_true, Int.reduceDiv, Int.reduceMod, zr8_zr, zr_zbo, z01_zbo, z01_0, z01_1, zbo_eq0, zup_eq, zup_o, zup_k, ne_eq, ↓ct_cgapb_dyear, ↓r_dyear, ↓B_dyear, ↓ct_cgapb_hgap, ↓r_hgap, ↓B_hgap, ↓v_0, ↓g_0_0, ↓g_0_1, ↓g_0_2, ↓g_0_3, ↓g_0_4, ↓g_0_5, ↓g_0_6, ↓g_0_7, ↓g_0_8, ↓l_78, ↓s_78, ↓n_78, ↓g_0_9, ↓p_0_9, ↓v_53, ↓g_53_0, ↓g_53_1, ↓g_53_2, ↓g_53_3, ↓g_53_4, ↓l_66, ↓s_66, ↓n_66, ↓g_53_5, ↓p_53_5, ↓g_53_6, ↓p_53_6, ↓g_53_7, ↓p_53_7, ↓g_53_8, ↓p_53_8, ↓g_53_9, ↓p_53_9, zk, zn, lk]
        refine ⟨54, 62, 66, yrs d9 wo k, wo, ⟨hb9, h1, CR_cg C (fun x p q => f1 x (by omega) (by omega) (by omega) (by omega)) (fun i q => hi i (by omega)), LR_cg L14 v.1.1 (by omega) (fun x p q => f1 x (by omega) (by omega) (by omega) (by omega)) (fun i q => hi i (by omega)), LR_cg L18 v.1.2 (by omega) (fun x p q => f1 x (by omega) (by omega) (by omega) (by omega)) (fun i q => hi i (by omega)), ok.1⟩, fun M2 h2 f2 => ih (k + 1) M2 (by omega) h2 (fun x p q r s => ?_)⟩
        rw [f2 x (by omega) (by omega) (by omega) (by omega) (by omega), f1 x p q r s]
    simp only [bk_X10_gapBehind_0, k_X10_gapBehind_0, bk_X10_gapBehind_2, k_X10_gapBehind_2, bk_X10_gapBehind_20, k_X10_gapBehind_20, ↓e_rk1, ↓e_rk0, ↓e_sk0, ↓e_sks, ↓e_ldi0, ↓e_ldis, ↓e_ldl0, ↓e_ldls, ↓e_lda0, ↓e_ldas, ↓e_ok0, ↓e_okss, ↓e_ok1i, ↓e_ok1r, ↓e_ok1n, ↓e_sti, ↓e_sta, ↓e_1, ↓e_2, ↓e_l1, ↓e_l2, ↓e_li, ↓e_sw0, ↓e_sws, ↓e_ceq, ↓e_cne, ↓e_clt, ↓e_cge, ↓e_cgt, ↓e_cle, ↓e_nil, ↓e_cons, ↓e_iconst, ↓e_bipush, ↓e_sipush, ↓e_ldc, ↓e_ldcw, ↓e_ldc2, ↓e_lconst, ↓e_iloadn, ↓e_iload, ↓e_lloadn, ↓e_lload, ↓e_aloadn, ↓e_aload, ↓e_istoren, ↓e_istore, ↓e_astoren, ↓e_astore, ↓e_add, ↓e_iinc, ↓e_iadd, ↓e_isub, ↓e_imul, ↓e_iand, ↓e_ior, ↓e_ixor, ↓e_ishl, ↓e_iushr, ↓e_idiv, ↓e_irem, ↓e_ineg, ↓e_i2l, ↓e_i2b, ↓e_i2s, ↓e_l2i, ↓e_land, ↓e_lor, ↓e_lshl, ↓e_lshr, ↓e_lushr, ↓e_lcmp, ↓e_dupi, ↓e_dupr, ↓e_popi, ↓e_dup2, ↓e_goto, ↓e_if, ↓e_icmp, ↓e_tsw, ↓e_lsw, ↓e_getf, ↓e_putf, ↓e_gets, ↓e_iald, ↓e_cald, ↓e_iast, ↓e_aald, ↓e_aast, ↓e_len, ↓e_copy, ↓e_abs, ↓e_max, ↓e_min, ↓e_iret, ↓e_aret, ↓e_vret, ↓e_is0, ↓e_is1, ↓e_is2, ↓e_is3, ↓e_is4, ↓e_iv1, ↓e_iv2, ↓e_iv3, ↓e_iv4, ↓e_iv5, ↓e_iv6, ↓rt_X10_gapBehind, ↓reduceIte, Nat.reduceAdd, Nat.reduceEqDiff, ↓zcl0, ↓zclv, List.map_nil, List.sum_nil, List.map_cons, List.sum_cons, zcat, true_and, and_true, Nat.reduceLeDiff, Nat.reduceAdd, eq_self, forall_const, e_ok0, e_okss, e_ok1i, e_ok1r, e_ok1n, zl_0, Int.reduceToNat, Int.reduceAdd, Int.reduceMul, Int.reduceSub, Int.reduceNeg, Int.reduceLT, Int.reduceLE, Int.reduceEq, not_false_eq_true, not_true_eq_false, false_implies, true_implies, implies_true, Int.reduceDiv, Int.reduceMod, zr8_zr, zr_zbo, z01_zbo, z01_0, z01_1, zbo_eq0, zup_eq, zup_o, zup_k, ne_eq, ↓ct_cgapb_dyear, ↓r_dyear, ↓B_dyear, ↓ct_cgapb_hgap, ↓r_hgap, ↓B_hgap, ↓v_0, ↓g_0_0, ↓g_0_1, ↓g_0_2, ↓g_0_3, ↓g_0_4, ↓g_0_5, ↓g_0_6, ↓g_0_7, ↓g_0_8, ↓l_78, ↓s_78, ↓n_78, ↓g_0_9, ↓p_0_9]
    exact lp n.toNat 0 M (by omega) H (fun _ _ _ _ _ => rfl)
