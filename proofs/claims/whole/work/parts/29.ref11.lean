/-! THE REFERENCE: calls that let years go -/
def k_X11_isLate_0 : List ZI := [(.aload_n 0, 1, (0, [0], [])), (.getfield 7, 3, (0, [11, 0], [])), (.iconst 1, 1, (0, [], [])), (.iaload, 1, (0, [], [])), (.iload_n 1, 1, (0, [1], [])), (.iadd, 1, (0, [], [])), (.sipush 9999, 3, (0, [], [])), (.if_icmp .le 7, 3, (0, [18], [])), (.iconst 1, 1, (0, [], [])), (.goto 4, 3, (0, [19], []))]
theorem ok_X11_isLate_0 : zOK cX11_isLate 11 false 2 k_X11_isLate_0 0 = true := zOK_by (by decide +kernel)
def k_X11_isLate_18 : List ZI := [(.iconst 0, 1, (0, [], []))]
theorem ok_X11_isLate_18 : zOK cX11_isLate 11 false 2 k_X11_isLate_18 18 = true := zOK_by (by decide +kernel)
def k_X11_isLate_19 : List ZI := [(.ireturn, 1, (0, [], []))]
theorem ok_X11_isLate_19 : zOK cX11_isLate 11 false 2 k_X11_isLate_19 19 = true := zOK_by (by decide +kernel)
theorem rt_X11_isLate {g : Nat} {post : Option ZV → ZH → Prop} {h : ZH} {b : ZB2} {z : Int} : zRt mX11_isLate g post (some (.inl z)) h b = (post (some (.inl z)) h ∧ h.1.length = g ∧ z01 z) := rfl
def bk_X11_isLate_19 (E : ZE) (CT : Nat → ZC) (X : ZK) (Rt : ZR) (ls : ZL) (st : List ZV) (h : ZH) (b : ZB2) : Prop := zB E CT k_X11_isLate_19 19 ls st h b (fun t ls st h b => X t ls st h b) Rt
theorem bs_X11_isLate_19 {E : ZE} {CT : Nat → ZC} {X : ZK} {Rt : ZR} {ls : ZL} {st : List ZV} {h : ZH} {b : ZB2} (hX : zCl E mX11_isLate 11 false CT Rt X) (q : bk_X11_isLate_19 E CT X Rt ls st h b) : X 19 ls st h b := by
  refine hX k_X11_isLate_19 19 ok_X11_isLate_19 _ ?_ ls st h b q
  exact fun t ls st h b q => q
def bk_X11_isLate_18 (E : ZE) (CT : Nat → ZC) (X : ZK) (Rt : ZR) (ls : ZL) (st : List ZV) (h : ZH) (b : ZB2) : Prop := zB E CT k_X11_isLate_18 18 ls st h b (fun t ls st h b => if t = 19 then bk_X11_isLate_19 E CT X Rt ls st h b else X t ls st h b) Rt
theorem bs_X11_isLate_18 {E : ZE} {CT : Nat → ZC} {X : ZK} {Rt : ZR} {ls : ZL} {st : List ZV} {h : ZH} {b : ZB2} (hX : zCl E mX11_isLate 11 false CT Rt X) (q : bk_X11_isLate_18 E CT X Rt ls st h b) : X 18 ls st h b := by
  refine hX k_X11_isLate_18 18 ok_X11_isLate_18 _ ?_ ls st h b q
  exact by
    intro t ls st h b q
    by_cases c : t = 19
    · subst c; rw [if_pos rfl] at q; exact bs_X11_isLate_19 hX q
    rw [if_neg c] at q
    exact q
def bk_X11_isLate_0 (E : ZE) (CT : Nat → ZC) (X : ZK) (Rt : ZR) (ls : ZL) (st : List ZV) (h : ZH) (b : ZB2) : Prop := zB E CT k_X11_isLate_0 0 ls st h b (fun t ls st h b => if t = 18 then bk_X11_isLate_18 E CT X Rt ls st h b else if t = 19 then bk_X11_isLate_19 E CT X Rt ls st h b else X t ls st h b) Rt
theorem bs_X11_isLate_0 {E : ZE} {CT : Nat → ZC} {X : ZK} {Rt : ZR} {ls : ZL} {st : List ZV} {h : ZH} {b : ZB2} (hX : zCl E mX11_isLate 11 false CT Rt X) (q : bk_X11_isLate_0 E CT X Rt ls st h b) : X 0 ls st h b := by
  refine hX k_X11_isLate_0 0 ok_X11_isLate_0 _ ?_ ls st h b q
  exact by
    intro t ls st h b q
    by_cases c : t = 18
    · subst c; rw [if_pos rfl] at q; exact bs_X11_isLate_18 hX q
    rw [if_neg c] at q
    by_cases c : t = 19
    · subst c; rw [if_pos rfl] at q; exact bs_X11_isLate_19 hX q
    rw [if_neg c] at q
    exact q
-- X11_isLate: cuts []
def k_X11_years_0 : List ZI := [(.iload_n 1, 1, (0, [1], [])), (.i2l, 1, (0, [], [])), (.lconst 1, 1, (1, [], [])), (.ldc2_w 240, 3, (60, [], [])), (.invokestatic 61, 3, (0, [120, 3, 0, 11], [])), (.ifCond .ne 9, 3, (0, [18], [])), (.aload_n 0, 1, (0, [0], [])), (.iconst 1, 1, (0, [], [])), (.invokevirtual 139, 3, (0, [119, 2, 0, 11], [])), (.ireturn, 1, (0, [], []))]
theorem ok_X11_years_0 : zOK cX11_years 11 false 2 k_X11_years_0 0 = true := zOK_by (by decide +kernel)
def k_X11_years_18 : List ZI := [(.aload_n 0, 1, (0, [0], [])), (.iload_n 1, 1, (0, [1], [])), (.invokevirtual 242, 3, (0, [178, 2, 0, 11], [])), (.ifCond .eq 9, 3, (0, [32], [])), (.aload_n 0, 1, (0, [0], [])), (.iconst 3, 1, (0, [], [])), (.invokevirtual 139, 3, (0, [119, 2, 0, 11], [])), (.ireturn, 1, (0, [], []))]
theorem ok_X11_years_18 : zOK cX11_years 11 false 2 k_X11_years_18 18 = true := zOK_by (by decide +kernel)
def k_X11_years_32 : List ZI := [(.aload_n 0, 1, (0, [0], [])), (.iload_n 1, 1, (0, [1], [])), (.invokevirtual 245, 3, (0, [164, 2, 0, 11], [])), (.aload_n 0, 1, (0, [0], [])), (.invokevirtual 194, 3, (0, [153, 1, 0, 11], [])), (.ireturn, 1, (0, [], []))]
theorem ok_X11_years_32 : zOK cX11_years 11 false 2 k_X11_years_32 32 = true := zOK_by (by decide +kernel)
theorem rt_X11_years {g : Nat} {post : Option ZV → ZH → Prop} {h : ZH} {b : ZB2} {z : Int} : zRt mX11_years g post (some (.inl z)) h b = (post (some (.inl z)) h ∧ h.1.length = g) := by show (_ ∧ _ ∧ True) = _; simp
def bk_X11_years_32 (E : ZE) (CT : Nat → ZC) (X : ZK) (Rt : ZR) (ls : ZL) (st : List ZV) (h : ZH) (b : ZB2) : Prop := zB E CT k_X11_years_32 32 ls st h b (fun t ls st h b => X t ls st h b) Rt
theorem bs_X11_years_32 {E : ZE} {CT : Nat → ZC} {X : ZK} {Rt : ZR} {ls : ZL} {st : List ZV} {h : ZH} {b : ZB2} (hX : zCl E mX11_years 11 false CT Rt X) (q : bk_X11_years_32 E CT X Rt ls st h b) : X 32 ls st h b := by
  refine hX k_X11_years_32 32 ok_X11_years_32 _ ?_ ls st h b q
  exact fun t ls st h b q => q
def bk_X11_years_18 (E : ZE) (CT : Nat → ZC) (X : ZK) (Rt : ZR) (ls : ZL) (st : List ZV) (h : ZH) (b : ZB2) : Prop := zB E CT k_X11_years_18 18 ls st h b (fun t ls st h b => if t = 32 then bk_X11_years_32 E CT X Rt ls st h b else X t ls st h b) Rt
theorem bs_X11_years_18 {E : ZE} {CT : Nat → ZC} {X : ZK} {Rt : ZR} {ls : ZL} {st : List ZV} {h : ZH} {b : ZB2} (hX : zCl E mX11_years 11 false CT Rt X) (q : bk_X11_years_18 E CT X Rt ls st h b) : X 18 ls st h b := by
  refine hX k_X11_years_18 18 ok_X11_years_18 _ ?_ ls st h b q
  exact by
    intro t ls st h b q
    by_cases c : t = 32
    · subst c; rw [if_pos rfl] at q; exact bs_X11_years_32 hX q
    rw [if_neg c] at q
    exact q
def bk_X11_years_0 (E : ZE) (CT : Nat → ZC) (X : ZK) (Rt : ZR) (ls : ZL) (st : List ZV) (h : ZH) (b : ZB2) : Prop := zB E CT k_X11_years_0 0 ls st h b (fun t ls st h b => if t = 18 then bk_X11_years_18 E CT X Rt ls st h b else X t ls st h b) Rt
theorem bs_X11_years_0 {E : ZE} {CT : Nat → ZC} {X : ZK} {Rt : ZR} {ls : ZL} {st : List ZV} {h : ZH} {b : ZB2} (hX : zCl E mX11_years 11 false CT Rt X) (q : bk_X11_years_0 E CT X Rt ls st h b) : X 0 ls st h b := by
  refine hX k_X11_years_0 0 ok_X11_years_0 _ ?_ ls st h b q
  exact by
    intro t ls st h b q
    by_cases c : t = 18
    · subst c; rw [if_pos rfl] at q; exact bs_X11_years_18 hX q
    rw [if_neg c] at q
    exact q
-- X11_years: cuts []
def k_X11_isAhead_0 : List ZI := [(.iload_n 0, 1, (0, [0], [])), (.i2l, 1, (0, [], [])), (.lconst 0, 1, (0, [], [])), (.ldc2_w 240, 3, (60, [], [])), (.invokestatic 61, 3, (0, [120, 3, 0, 11], [])), (.ireturn, 1, (0, [], []))]
theorem ok_X11_isAhead_0 : zOK cX11_isAhead 11 false 1 k_X11_isAhead_0 0 = true := zOK_by (by decide +kernel)
theorem rt_X11_isAhead {g : Nat} {post : Option ZV → ZH → Prop} {h : ZH} {b : ZB2} {z : Int} : zRt mX11_isAhead g post (some (.inl z)) h b = (post (some (.inl z)) h ∧ h.1.length = g ∧ z01 z) := rfl
def bk_X11_isAhead_0 (E : ZE) (CT : Nat → ZC) (X : ZK) (Rt : ZR) (ls : ZL) (st : List ZV) (h : ZH) (b : ZB2) : Prop := zB E CT k_X11_isAhead_0 0 ls st h b (fun t ls st h b => X t ls st h b) Rt
theorem bs_X11_isAhead_0 {E : ZE} {CT : Nat → ZC} {X : ZK} {Rt : ZR} {ls : ZL} {st : List ZV} {h : ZH} {b : ZB2} (hX : zCl E mX11_isAhead 11 false CT Rt X) (q : bk_X11_isAhead_0 E CT X Rt ls st h b) : X 0 ls st h b := by
  refine hX k_X11_isAhead_0 0 ok_X11_isAhead_0 _ ?_ ls st h b q
  exact fun t ls st h b q => q
-- X11_isAhead: cuts []
def k_X11_then_0 : List ZI := [(.iload_n 1, 1, (0, [1], [])), (.invokestatic 254, 3, (0, [183, 1, 0, 11], [])), (.ifCond .eq 20, 3, (0, [24], [])), (.iload_n 2, 1, (0, [2], [])), (.invokestatic 216, 3, (0, [125, 1, 0, 11], [])), (.ifCond .eq 13, 3, (0, [24], [])), (.iload_n 3, 1, (0, [3], [])), (.i2l, 1, (0, [], [])), (.lconst 0, 1, (0, [], [])), (.lconst 1, 1, (1, [], [])), (.invokestatic 61, 3, (0, [120, 3, 0, 11], [])), (.ifCond .ne 9, 3, (0, [30], []))]
theorem ok_X11_then_0 : zOK cX11_then 11 false 5 k_X11_then_0 0 = true := zOK_by (by decide +kernel)
def k_X11_then_24 : List ZI := [(.aload_n 0, 1, (0, [0], [])), (.iconst 1, 1, (0, [], [])), (.invokevirtual 139, 3, (0, [119, 2, 0, 11], [])), (.ireturn, 1, (0, [], []))]
theorem ok_X11_then_24 : zOK cX11_then 11 false 5 k_X11_then_24 24 = true := zOK_by (by decide +kernel)
def k_X11_then_30 : List ZI := [(.aload_n 0, 1, (0, [0], [])), (.invokevirtual 257, 3, (0, [130, 1, 0, 11], [])), (.aload_n 0, 1, (0, [0], [])), (.iload_n 1, 1, (0, [1], [])), (.invokevirtual 245, 3, (0, [164, 2, 0, 11], [])), (.aload_n 0, 1, (0, [0], [])), (.iload_n 2, 1, (0, [2], [])), (.iload_n 3, 1, (0, [3], [])), (.ifCond .ne 7, 3, (0, [49], [])), (.iconst 0, 1, (0, [], [])), (.goto 4, 3, (0, [50], []))]
theorem ok_X11_then_30 : zOK cX11_then 11 false 5 k_X11_then_30 30 = true := zOK_by (by decide +kernel)
def k_X11_then_49 : List ZI := [(.iconst 2, 1, (0, [], []))]
theorem ok_X11_then_49 : zOK cX11_then 11 false 5 k_X11_then_49 49 = true := zOK_by (by decide +kernel)
def k_X11_then_50 : List ZI := [(.invokevirtual 161, 3, (0, [127, 3, 0, 11], [])), (.istore 4, 2, (0, [4], [])), (.aload_n 0, 1, (0, [0], [])), (.invokevirtual 260, 3, (0, [131, 1, 0, 11], [])), (.iload 4, 2, (0, [4], [])), (.ireturn, 1, (0, [], []))]
theorem ok_X11_then_50 : zOK cX11_then 11 false 5 k_X11_then_50 50 = true := zOK_by (by decide +kernel)
theorem rt_X11_then {g : Nat} {post : Option ZV → ZH → Prop} {h : ZH} {b : ZB2} {z : Int} : zRt mX11_then g post (some (.inl z)) h b = (post (some (.inl z)) h ∧ h.1.length = g) := by show (_ ∧ _ ∧ True) = _; simp
def bk_X11_then_24 (E : ZE) (CT : Nat → ZC) (X : ZK) (Rt : ZR) (ls : ZL) (st : List ZV) (h : ZH) (b : ZB2) : Prop := zB E CT k_X11_then_24 24 ls st h b (fun t ls st h b => X t ls st h b) Rt
theorem bs_X11_then_24 {E : ZE} {CT : Nat → ZC} {X : ZK} {Rt : ZR} {ls : ZL} {st : List ZV} {h : ZH} {b : ZB2} (hX : zCl E mX11_then 11 false CT Rt X) (q : bk_X11_then_24 E CT X Rt ls st h b) : X 24 ls st h b := by
  refine hX k_X11_then_24 24 ok_X11_then_24 _ ?_ ls st h b q
  exact fun t ls st h b q => q
def bk_X11_then_50 (E : ZE) (CT : Nat → ZC) (X : ZK) (Rt : ZR) (ls : ZL) (st : List ZV) (h : ZH) (b : ZB2) : Prop := zB E CT k_X11_then_50 50 ls st h b (fun t ls st h b => X t ls st h b) Rt
theorem bs_X11_then_50 {E : ZE} {CT : Nat → ZC} {X : ZK} {Rt : ZR} {ls : ZL} {st : List ZV} {h : ZH} {b : ZB2} (hX : zCl E mX11_then 11 false CT Rt X) (q : bk_X11_then_50 E CT X Rt ls st h b) : X 50 ls st h b := by
  refine hX k_X11_then_50 50 ok_X11_then_50 _ ?_ ls st h b q
  exact fun t ls st h b q => q
def bk_X11_then_49 (E : ZE) (CT : Nat → ZC) (X : ZK) (Rt : ZR) (ls : ZL) (st : List ZV) (h : ZH) (b : ZB2) : Prop := zB E CT k_X11_then_49 49 ls st h b (fun t ls st h b => if t = 50 then bk_X11_then_50 E CT X Rt ls st h b else X t ls st h b) Rt
theorem bs_X11_then_49 {E : ZE} {CT : Nat → ZC} {X : ZK} {Rt : ZR} {ls : ZL} {st : List ZV} {h : ZH} {b : ZB2} (hX : zCl E mX11_then 11 false CT Rt X) (q : bk_X11_then_49 E CT X Rt ls st h b) : X 49 ls st h b := by
  refine hX k_X11_then_49 49 ok_X11_then_49 _ ?_ ls st h b q
  exact by
    intro t ls st h b q
    by_cases c : t = 50
    · subst c; rw [if_pos rfl] at q; exact bs_X11_then_50 hX q
    rw [if_neg c] at q
    exact q
def bk_X11_then_30 (E : ZE) (CT : Nat → ZC) (X : ZK) (Rt : ZR) (ls : ZL) (st : List ZV) (h : ZH) (b : ZB2) : Prop := zB E CT k_X11_then_30 30 ls st h b (fun t ls st h b => if t = 49 then bk_X11_then_49 E CT X Rt ls st h b else if t = 50 then bk_X11_then_50 E CT X Rt ls st h b else X t ls st h b) Rt
theorem bs_X11_then_30 {E : ZE} {CT : Nat → ZC} {X : ZK} {Rt : ZR} {ls : ZL} {st : List ZV} {h : ZH} {b : ZB2} (hX : zCl E mX11_then 11 false CT Rt X) (q : bk_X11_then_30 E CT X Rt ls st h b) : X 30 ls st h b := by
  refine hX k_X11_then_30 30 ok_X11_then_30 _ ?_ ls st h b q
  exact by
    intro t ls st h b q
    by_cases c : t = 49
    · subst c; rw [if_pos rfl] at q; exact bs_X11_then_49 hX q
    rw [if_neg c] at q
    by_cases c : t = 50
    · subst c; rw [if_pos rfl] at q; exact bs_X11_then_50 hX q
    rw [if_neg c] at q
    exact q
def bk_X11_then_0 (E : ZE) (CT : Nat → ZC) (X : ZK) (Rt : ZR) (ls : ZL) (st : List ZV) (h : ZH) (b : ZB2) : Prop := zB E CT k_X11_then_0 0 ls st h b (fun t ls st h b => if t = 24 then bk_X11_then_24 E CT X Rt ls st h b else if t = 30 then bk_X11_then_30 E CT X Rt ls st h b else X t ls st h b) Rt
theorem bs_X11_then_0 {E : ZE} {CT : Nat → ZC} {X : ZK} {Rt : ZR} {ls : ZL} {st : List ZV} {h : ZH} {b : ZB2} (hX : zCl E mX11_then 11 false CT Rt X) (q : bk_X11_then_0 E CT X Rt ls st h b) : X 0 ls st h b := by
  refine hX k_X11_then_0 0 ok_X11_then_0 _ ?_ ls st h b q
  exact by
    intro t ls st h b q
    by_cases c : t = 24
    · subst c; rw [if_pos rfl] at q; exact bs_X11_then_24 hX q
    rw [if_neg c] at q
    by_cases c : t = 30
    · subst c; rw [if_pos rfl] at q; exact bs_X11_then_30 hX q
    rw [if_neg c] at q
    exact q
-- X11_then: cuts []
def k_X11_meets_0 : List ZI := [(.aload_n 0, 1, (0, [0], [])), (.invokevirtual 257, 3, (0, [130, 1, 0, 11], [])), (.iconst 0, 1, (0, [], [])), (.istore_n 1, 1, (0, [1], []))]
theorem ok_X11_meets_0 : zOK cX11_meets 11 false 3 k_X11_meets_0 0 = true := zOK_by (by decide +kernel)
def k_X11_meets_6 : List ZI := [(.iload_n 1, 1, (0, [1], [])), (.bipush 60, 2, (0, [], [])), (.if_icmp .ge 20, 3, (0, [29], [])), (.aload_n 0, 1, (0, [0], [])), (.invokevirtual 194, 3, (0, [153, 1, 0, 11], [])), (.ifCond .le 13, 3, (0, [29], [])), (.aload_n 0, 1, (0, [0], [])), (.invokevirtual 200, 3, (0, [163, 1, 0, 11], [])), (.iinc 1 1, 3, (0, [1], [])), (.goto (-20), 3, (0, [6], []))]
theorem ok_X11_meets_6 : zOK cX11_meets 11 false 3 k_X11_meets_6 6 = true := zOK_by (by decide +kernel)
def k_X11_meets_29 : List ZI := [(.aload_n 0, 1, (0, [0], [])), (.invokevirtual 194, 3, (0, [153, 1, 0, 11], [])), (.ifCond .ne 7, 3, (0, [40], [])), (.iconst 1, 1, (0, [], [])), (.goto 4, 3, (0, [41], []))]
theorem ok_X11_meets_29 : zOK cX11_meets 11 false 3 k_X11_meets_29 29 = true := zOK_by (by decide +kernel)
def k_X11_meets_40 : List ZI := [(.iconst 0, 1, (0, [], []))]
theorem ok_X11_meets_40 : zOK cX11_meets 11 false 3 k_X11_meets_40 40 = true := zOK_by (by decide +kernel)
def k_X11_meets_41 : List ZI := [(.istore_n 2, 1, (0, [2], [])), (.aload_n 0, 1, (0, [0], [])), (.invokevirtual 260, 3, (0, [131, 1, 0, 11], [])), (.iload_n 2, 1, (0, [2], [])), (.ifCond .eq 7, 3, (0, [54], [])), (.iload_n 1, 1, (0, [1], [])), (.goto 8, 3, (0, [59], []))]
theorem ok_X11_meets_41 : zOK cX11_meets 11 false 3 k_X11_meets_41 41 = true := zOK_by (by decide +kernel)
def k_X11_meets_54 : List ZI := [(.aload_n 0, 1, (0, [0], [])), (.iconst 2, 1, (0, [], [])), (.invokevirtual 139, 3, (0, [119, 2, 0, 11], []))]
theorem ok_X11_meets_54 : zOK cX11_meets 11 false 3 k_X11_meets_54 54 = true := zOK_by (by decide +kernel)
def k_X11_meets_59 : List ZI := [(.ireturn, 1, (0, [], []))]
theorem ok_X11_meets_59 : zOK cX11_meets 11 false 3 k_X11_meets_59 59 = true := zOK_by (by decide +kernel)
theorem rt_X11_meets {g : Nat} {post : Option ZV → ZH → Prop} {h : ZH} {b : ZB2} {z : Int} : zRt mX11_meets g post (some (.inl z)) h b = (post (some (.inl z)) h ∧ h.1.length = g) := by show (_ ∧ _ ∧ True) = _; simp
def bk_X11_meets_0 (E : ZE) (CT : Nat → ZC) (X : ZK) (Rt : ZR) (ls : ZL) (st : List ZV) (h : ZH) (b : ZB2) : Prop := zB E CT k_X11_meets_0 0 ls st h b (fun t ls st h b => X t ls st h b) Rt
theorem bs_X11_meets_0 {E : ZE} {CT : Nat → ZC} {X : ZK} {Rt : ZR} {ls : ZL} {st : List ZV} {h : ZH} {b : ZB2} (hX : zCl E mX11_meets 11 false CT Rt X) (q : bk_X11_meets_0 E CT X Rt ls st h b) : X 0 ls st h b := by
  refine hX k_X11_meets_0 0 ok_X11_meets_0 _ ?_ ls st h b q
  exact fun t ls st h b q => q
def bk_X11_meets_59 (E : ZE) (CT : Nat → ZC) (X : ZK) (Rt : ZR) (ls : ZL) (st : List ZV) (h : ZH) (b : ZB2) : Prop := zB E CT k_X11_meets_59 59 ls st h b (fun t ls st h b => X t ls st h b) Rt
theorem bs_X11_meets_59 {E : ZE} {CT : Nat → ZC} {X : ZK} {Rt : ZR} {ls : ZL} {st : List ZV} {h : ZH} {b : ZB2} (hX : zCl E mX11_meets 11 false CT Rt X) (q : bk_X11_meets_59 E CT X Rt ls st h b) : X 59 ls st h b := by
  refine hX k_X11_meets_59 59 ok_X11_meets_59 _ ?_ ls st h b q
  exact fun t ls st h b q => q
def bk_X11_meets_54 (E : ZE) (CT : Nat → ZC) (X : ZK) (Rt : ZR) (ls : ZL) (st : List ZV) (h : ZH) (b : ZB2) : Prop := zB E CT k_X11_meets_54 54 ls st h b (fun t ls st h b => if t = 59 then bk_X11_meets_59 E CT X Rt ls st h b else X t ls st h b) Rt
theorem bs_X11_meets_54 {E : ZE} {CT : Nat → ZC} {X : ZK} {Rt : ZR} {ls : ZL} {st : List ZV} {h : ZH} {b : ZB2} (hX : zCl E mX11_meets 11 false CT Rt X) (q : bk_X11_meets_54 E CT X Rt ls st h b) : X 54 ls st h b := by
  refine hX k_X11_meets_54 54 ok_X11_meets_54 _ ?_ ls st h b q
  exact by
    intro t ls st h b q
    by_cases c : t = 59
    · subst c; rw [if_pos rfl] at q; exact bs_X11_meets_59 hX q
    rw [if_neg c] at q
    exact q
def bk_X11_meets_41 (E : ZE) (CT : Nat → ZC) (X : ZK) (Rt : ZR) (ls : ZL) (st : List ZV) (h : ZH) (b : ZB2) : Prop := zB E CT k_X11_meets_41 41 ls st h b (fun t ls st h b => if t = 54 then bk_X11_meets_54 E CT X Rt ls st h b else if t = 59 then bk_X11_meets_59 E CT X Rt ls st h b else X t ls st h b) Rt
theorem bs_X11_meets_41 {E : ZE} {CT : Nat → ZC} {X : ZK} {Rt : ZR} {ls : ZL} {st : List ZV} {h : ZH} {b : ZB2} (hX : zCl E mX11_meets 11 false CT Rt X) (q : bk_X11_meets_41 E CT X Rt ls st h b) : X 41 ls st h b := by
  refine hX k_X11_meets_41 41 ok_X11_meets_41 _ ?_ ls st h b q
  exact by
    intro t ls st h b q
    by_cases c : t = 54
    · subst c; rw [if_pos rfl] at q; exact bs_X11_meets_54 hX q
    rw [if_neg c] at q
    by_cases c : t = 59
    · subst c; rw [if_pos rfl] at q; exact bs_X11_meets_59 hX q
    rw [if_neg c] at q
    exact q
def bk_X11_meets_40 (E : ZE) (CT : Nat → ZC) (X : ZK) (Rt : ZR) (ls : ZL) (st : List ZV) (h : ZH) (b : ZB2) : Prop := zB E CT k_X11_meets_40 40 ls st h b (fun t ls st h b => if t = 41 then bk_X11_meets_41 E CT X Rt ls st h b else X t ls st h b) Rt
theorem bs_X11_meets_40 {E : ZE} {CT : Nat → ZC} {X : ZK} {Rt : ZR} {ls : ZL} {st : List ZV} {h : ZH} {b : ZB2} (hX : zCl E mX11_meets 11 false CT Rt X) (q : bk_X11_meets_40 E CT X Rt ls st h b) : X 40 ls st h b := by
  refine hX k_X11_meets_40 40 ok_X11_meets_40 _ ?_ ls st h b q
  exact by
    intro t ls st h b q
    by_cases c : t = 41
    · subst c; rw [if_pos rfl] at q; exact bs_X11_meets_41 hX q
    rw [if_neg c] at q
    exact q
def bk_X11_meets_29 (E : ZE) (CT : Nat → ZC) (X : ZK) (Rt : ZR) (ls : ZL) (st : List ZV) (h : ZH) (b : ZB2) : Prop := zB E CT k_X11_meets_29 29 ls st h b (fun t ls st h b => if t = 40 then bk_X11_meets_40 E CT X Rt ls st h b else if t = 41 then bk_X11_meets_41 E CT X Rt ls st h b else X t ls st h b) Rt
theorem bs_X11_meets_29 {E : ZE} {CT : Nat → ZC} {X : ZK} {Rt : ZR} {ls : ZL} {st : List ZV} {h : ZH} {b : ZB2} (hX : zCl E mX11_meets 11 false CT Rt X) (q : bk_X11_meets_29 E CT X Rt ls st h b) : X 29 ls st h b := by
  refine hX k_X11_meets_29 29 ok_X11_meets_29 _ ?_ ls st h b q
  exact by
    intro t ls st h b q
    by_cases c : t = 40
    · subst c; rw [if_pos rfl] at q; exact bs_X11_meets_40 hX q
    rw [if_neg c] at q
    by_cases c : t = 41
    · subst c; rw [if_pos rfl] at q; exact bs_X11_meets_41 hX q
    rw [if_neg c] at q
    exact q
def bk_X11_meets_6 (E : ZE) (CT : Nat → ZC) (X : ZK) (Rt : ZR) (ls : ZL) (st : List ZV) (h : ZH) (b : ZB2) : Prop := zB E CT k_X11_meets_6 6 ls st h b (fun t ls st h b => if t = 29 then bk_X11_meets_29 E CT X Rt ls st h b else X t ls st h b) Rt
theorem bs_X11_meets_6 {E : ZE} {CT : Nat → ZC} {X : ZK} {Rt : ZR} {ls : ZL} {st : List ZV} {h : ZH} {b : ZB2} (hX : zCl E mX11_meets 11 false CT Rt X) (q : bk_X11_meets_6 E CT X Rt ls st h b) : X 6 ls st h b := by
  refine hX k_X11_meets_6 6 ok_X11_meets_6 _ ?_ ls st h b q
  exact by
    intro t ls st h b q
    by_cases c : t = 29
    · subst c; rw [if_pos rfl] at q; exact bs_X11_meets_29 hX q
    rw [if_neg c] at q
    exact q
-- X11_meets: cuts [6]
def k_X11_apart_0 : List ZI := [(.iload_n 1, 1, (0, [1], [])), (.invokestatic 254, 3, (0, [183, 1, 0, 11], [])), (.ifCond .ne 9, 3, (0, [13], [])), (.aload_n 0, 1, (0, [0], [])), (.iconst 1, 1, (0, [], [])), (.invokevirtual 139, 3, (0, [119, 2, 0, 11], [])), (.ireturn, 1, (0, [], []))]
theorem ok_X11_apart_0 : zOK cX11_apart 11 false 2 k_X11_apart_0 0 = true := zOK_by (by decide +kernel)
def k_X11_apart_13 : List ZI := [(.aload_n 0, 1, (0, [0], [])), (.invokevirtual 257, 3, (0, [130, 1, 0, 11], [])), (.aload_n 0, 1, (0, [0], [])), (.iload_n 1, 1, (0, [1], [])), (.invokevirtual 263, 3, (0, [186, 2, 0, 11], [])), (.ireturn, 1, (0, [], []))]
theorem ok_X11_apart_13 : zOK cX11_apart 11 false 2 k_X11_apart_13 13 = true := zOK_by (by decide +kernel)
theorem rt_X11_apart {g : Nat} {post : Option ZV → ZH → Prop} {h : ZH} {b : ZB2} {z : Int} : zRt mX11_apart g post (some (.inl z)) h b = (post (some (.inl z)) h ∧ h.1.length = g) := by show (_ ∧ _ ∧ True) = _; simp
def bk_X11_apart_13 (E : ZE) (CT : Nat → ZC) (X : ZK) (Rt : ZR) (ls : ZL) (st : List ZV) (h : ZH) (b : ZB2) : Prop := zB E CT k_X11_apart_13 13 ls st h b (fun t ls st h b => X t ls st h b) Rt
theorem bs_X11_apart_13 {E : ZE} {CT : Nat → ZC} {X : ZK} {Rt : ZR} {ls : ZL} {st : List ZV} {h : ZH} {b : ZB2} (hX : zCl E mX11_apart 11 false CT Rt X) (q : bk_X11_apart_13 E CT X Rt ls st h b) : X 13 ls st h b := by
  refine hX k_X11_apart_13 13 ok_X11_apart_13 _ ?_ ls st h b q
  exact fun t ls st h b q => q
def bk_X11_apart_0 (E : ZE) (CT : Nat → ZC) (X : ZK) (Rt : ZR) (ls : ZL) (st : List ZV) (h : ZH) (b : ZB2) : Prop := zB E CT k_X11_apart_0 0 ls st h b (fun t ls st h b => if t = 13 then bk_X11_apart_13 E CT X Rt ls st h b else X t ls st h b) Rt
theorem bs_X11_apart_0 {E : ZE} {CT : Nat → ZC} {X : ZK} {Rt : ZR} {ls : ZL} {st : List ZV} {h : ZH} {b : ZB2} (hX : zCl E mX11_apart 11 false CT Rt X) (q : bk_X11_apart_0 E CT X Rt ls st h b) : X 0 ls st h b := by
  refine hX k_X11_apart_0 0 ok_X11_apart_0 _ ?_ ls st h b q
  exact by
    intro t ls st h b q
    by_cases c : t = 13
    · subst c; rw [if_pos rfl] at q; exact bs_X11_apart_13 hX q
    rw [if_neg c] at q
    exact q
-- X11_apart: cuts []
def k_X11_delayFor_0 : List ZI := [(.iload_n 1, 1, (0, [1], [])), (.invokestatic 254, 3, (0, [183, 1, 0, 11], [])), (.ifCond .ne 9, 3, (0, [13], [])), (.aload_n 0, 1, (0, [0], [])), (.iconst 1, 1, (0, [], [])), (.invokevirtual 139, 3, (0, [119, 2, 0, 11], [])), (.ireturn, 1, (0, [], []))]
theorem ok_X11_delayFor_0 : zOK cX11_delayFor 11 false 6 k_X11_delayFor_0 0 = true := zOK_by (by decide +kernel)
def k_X11_delayFor_13 : List ZI := [(.aload_n 0, 1, (0, [0], [])), (.invokevirtual 257, 3, (0, [130, 1, 0, 11], [])), (.iconst 0, 1, (0, [], [])), (.istore_n 2, 1, (0, [2], [])), (.ldc_w 266, 3, (100000, [], [])), (.istore_n 3, 1, (0, [3], [])), (.iconst 0, 1, (0, [], [])), (.istore 4, 2, (0, [4], []))]
theorem ok_X11_delayFor_13 : zOK cX11_delayFor 11 false 6 k_X11_delayFor_13 13 = true := zOK_by (by decide +kernel)
def k_X11_delayFor_26 : List ZI := [(.iload 4, 2, (0, [4], [])), (.bipush 10, 2, (0, [], [])), (.if_icmp .ge 36, 3, (0, [66], [])), (.aload_n 0, 1, (0, [0], [])), (.getfield 7, 3, (0, [11, 0], [])), (.iconst 2, 1, (0, [], [])), (.iload 4, 2, (0, [4], [])), (.iastore, 1, (0, [], [])), (.aload_n 0, 1, (0, [0], [])), (.iload_n 1, 1, (0, [1], [])), (.invokevirtual 263, 3, (0, [186, 2, 0, 11], [])), (.istore 5, 2, (0, [5], [])), (.iload 5, 2, (0, [5], [])), (.iload_n 3, 1, (0, [3], [])), (.if_icmp .ge 9, 3, (0, [60], [])), (.iload 4, 2, (0, [4], [])), (.istore_n 2, 1, (0, [2], [])), (.iload 5, 2, (0, [5], [])), (.istore_n 3, 1, (0, [3], []))]
theorem ok_X11_delayFor_26 : zOK cX11_delayFor 11 false 6 k_X11_delayFor_26 26 = true := zOK_by (by decide +kernel)
def k_X11_delayFor_60 : List ZI := [(.iinc 4 1, 3, (0, [4], [])), (.goto (-37), 3, (0, [26], []))]
theorem ok_X11_delayFor_60 : zOK cX11_delayFor 11 false 6 k_X11_delayFor_60 60 = true := zOK_by (by decide +kernel)
def k_X11_delayFor_66 : List ZI := [(.iload_n 2, 1, (0, [2], [])), (.ireturn, 1, (0, [], []))]
theorem ok_X11_delayFor_66 : zOK cX11_delayFor 11 false 6 k_X11_delayFor_66 66 = true := zOK_by (by decide +kernel)
theorem rt_X11_delayFor {g : Nat} {post : Option ZV → ZH → Prop} {h : ZH} {b : ZB2} {z : Int} : zRt mX11_delayFor g post (some (.inl z)) h b = (post (some (.inl z)) h ∧ h.1.length = g) := by show (_ ∧ _ ∧ True) = _; simp
def bk_X11_delayFor_13 (E : ZE) (CT : Nat → ZC) (X : ZK) (Rt : ZR) (ls : ZL) (st : List ZV) (h : ZH) (b : ZB2) : Prop := zB E CT k_X11_delayFor_13 13 ls st h b (fun t ls st h b => X t ls st h b) Rt
theorem bs_X11_delayFor_13 {E : ZE} {CT : Nat → ZC} {X : ZK} {Rt : ZR} {ls : ZL} {st : List ZV} {h : ZH} {b : ZB2} (hX : zCl E mX11_delayFor 11 false CT Rt X) (q : bk_X11_delayFor_13 E CT X Rt ls st h b) : X 13 ls st h b := by
  refine hX k_X11_delayFor_13 13 ok_X11_delayFor_13 _ ?_ ls st h b q
  exact fun t ls st h b q => q
def bk_X11_delayFor_0 (E : ZE) (CT : Nat → ZC) (X : ZK) (Rt : ZR) (ls : ZL) (st : List ZV) (h : ZH) (b : ZB2) : Prop := zB E CT k_X11_delayFor_0 0 ls st h b (fun t ls st h b => if t = 13 then bk_X11_delayFor_13 E CT X Rt ls st h b else X t ls st h b) Rt
theorem bs_X11_delayFor_0 {E : ZE} {CT : Nat → ZC} {X : ZK} {Rt : ZR} {ls : ZL} {st : List ZV} {h : ZH} {b : ZB2} (hX : zCl E mX11_delayFor 11 false CT Rt X) (q : bk_X11_delayFor_0 E CT X Rt ls st h b) : X 0 ls st h b := by
  refine hX k_X11_delayFor_0 0 ok_X11_delayFor_0 _ ?_ ls st h b q
  exact by
    intro t ls st h b q
    by_cases c : t = 13
    · subst c; rw [if_pos rfl] at q; exact bs_X11_delayFor_13 hX q
    rw [if_neg c] at q
    exact q
def bk_X11_delayFor_60 (E : ZE) (CT : Nat → ZC) (X : ZK) (Rt : ZR) (ls : ZL) (st : List ZV) (h : ZH) (b : ZB2) : Prop := zB E CT k_X11_delayFor_60 60 ls st h b (fun t ls st h b => X t ls st h b) Rt
theorem bs_X11_delayFor_60 {E : ZE} {CT : Nat → ZC} {X : ZK} {Rt : ZR} {ls : ZL} {st : List ZV} {h : ZH} {b : ZB2} (hX : zCl E mX11_delayFor 11 false CT Rt X) (q : bk_X11_delayFor_60 E CT X Rt ls st h b) : X 60 ls st h b := by
  refine hX k_X11_delayFor_60 60 ok_X11_delayFor_60 _ ?_ ls st h b q
  exact fun t ls st h b q => q
def bk_X11_delayFor_66 (E : ZE) (CT : Nat → ZC) (X : ZK) (Rt : ZR) (ls : ZL) (st : List ZV) (h : ZH) (b : ZB2) : Prop := zB E CT k_X11_delayFor_66 66 ls st h b (fun t ls st h b => X t ls st h b) Rt
theorem bs_X11_delayFor_66 {E : ZE} {CT : Nat → ZC} {X : ZK} {Rt : ZR} {ls : ZL} {st : List ZV} {h : ZH} {b : ZB2} (hX : zCl E mX11_delayFor 11 false CT Rt X) (q : bk_X11_delayFor_66 E CT X Rt ls st h b) : X 66 ls st h b := by
  refine hX k_X11_delayFor_66 66 ok_X11_delayFor_66 _ ?_ ls st h b q
  exact fun t ls st h b q => q
def bk_X11_delayFor_26 (E : ZE) (CT : Nat → ZC) (X : ZK) (Rt : ZR) (ls : ZL) (st : List ZV) (h : ZH) (b : ZB2) : Prop := zB E CT k_X11_delayFor_26 26 ls st h b (fun t ls st h b => if t = 60 then bk_X11_delayFor_60 E CT X Rt ls st h b else if t = 66 then bk_X11_delayFor_66 E CT X Rt ls st h b else X t ls st h b) Rt
theorem bs_X11_delayFor_26 {E : ZE} {CT : Nat → ZC} {X : ZK} {Rt : ZR} {ls : ZL} {st : List ZV} {h : ZH} {b : ZB2} (hX : zCl E mX11_delayFor 11 false CT Rt X) (q : bk_X11_delayFor_26 E CT X Rt ls st h b) : X 26 ls st h b := by
  refine hX k_X11_delayFor_26 26 ok_X11_delayFor_26 _ ?_ ls st h b q
  exact by
    intro t ls st h b q
    by_cases c : t = 60
    · subst c; rw [if_pos rfl] at q; exact bs_X11_delayFor_60 hX q
    rw [if_neg c] at q
    by_cases c : t = 66
    · subst c; rw [if_pos rfl] at q; exact bs_X11_delayFor_66 hX q
    rw [if_neg c] at q
    exact q
-- X11_delayFor: cuts [26]
def k_X11_powerFor_0 : List ZI := [(.iload_n 1, 1, (0, [1], [])), (.invokestatic 216, 3, (0, [125, 1, 0, 11], [])), (.ifCond .eq 22, 3, (0, [26], [])), (.iload_n 2, 1, (0, [2], [])), (.invokestatic 254, 3, (0, [183, 1, 0, 11], [])), (.ifCond .eq 15, 3, (0, [26], [])), (.iload_n 3, 1, (0, [3], [])), (.i2l, 1, (0, [], [])), (.lconst 0, 1, (0, [], [])), (.ldc2_w 267, 3, (14, [], [])), (.invokestatic 61, 3, (0, [120, 3, 0, 11], [])), (.ifCond .ne 9, 3, (0, [32], []))]
theorem ok_X11_powerFor_0 : zOK cX11_powerFor 11 false 5 k_X11_powerFor_0 0 = true := zOK_by (by decide +kernel)
def k_X11_powerFor_26 : List ZI := [(.aload_n 0, 1, (0, [0], [])), (.iconst 1, 1, (0, [], [])), (.invokevirtual 139, 3, (0, [119, 2, 0, 11], [])), (.ireturn, 1, (0, [], []))]
theorem ok_X11_powerFor_26 : zOK cX11_powerFor 11 false 5 k_X11_powerFor_26 26 = true := zOK_by (by decide +kernel)
def k_X11_powerFor_32 : List ZI := [(.aload_n 0, 1, (0, [0], [])), (.invokevirtual 257, 3, (0, [130, 1, 0, 11], [])), (.iconst 0, 1, (0, [], [])), (.istore 4, 2, (0, [4], []))]
theorem ok_X11_powerFor_32 : zOK cX11_powerFor 11 false 5 k_X11_powerFor_32 32 = true := zOK_by (by decide +kernel)
def k_X11_powerFor_39 : List ZI := [(.iload 4, 2, (0, [4], [])), (.bipush 20, 2, (0, [], [])), (.if_icmp .gt 37, 3, (0, [80], [])), (.aload_n 0, 1, (0, [0], [])), (.getfield 7, 3, (0, [11, 0], [])), (.sipush 134, 3, (0, [], [])), (.iconst 4, 1, (0, [], [])), (.iload_n 1, 1, (0, [1], [])), (.imul, 1, (0, [], [])), (.iadd, 1, (0, [], [])), (.iconst 1, 1, (0, [], [])), (.iadd, 1, (0, [], [])), (.iload 4, 2, (0, [4], [])), (.iastore, 1, (0, [], [])), (.aload_n 0, 1, (0, [0], [])), (.iload_n 2, 1, (0, [2], [])), (.invokevirtual 263, 3, (0, [186, 2, 0, 11], [])), (.iload_n 3, 1, (0, [3], [])), (.if_icmp .gt 6, 3, (0, [74], [])), (.iload 4, 2, (0, [4], [])), (.ireturn, 1, (0, [], []))]
theorem ok_X11_powerFor_39 : zOK cX11_powerFor 11 false 5 k_X11_powerFor_39 39 = true := zOK_by (by decide +kernel)
def k_X11_powerFor_74 : List ZI := [(.iinc 4 1, 3, (0, [4], [])), (.goto (-38), 3, (0, [39], []))]
theorem ok_X11_powerFor_74 : zOK cX11_powerFor 11 false 5 k_X11_powerFor_74 74 = true := zOK_by (by decide +kernel)
def k_X11_powerFor_80 : List ZI := [(.aload_n 0, 1, (0, [0], [])), (.iconst 2, 1, (0, [], [])), (.invokevirtual 139, 3, (0, [119, 2, 0, 11], [])), (.ireturn, 1, (0, [], []))]
theorem ok_X11_powerFor_80 : zOK cX11_powerFor 11 false 5 k_X11_powerFor_80 80 = true := zOK_by (by decide +kernel)
theorem rt_X11_powerFor {g : Nat} {post : Option ZV → ZH → Prop} {h : ZH} {b : ZB2} {z : Int} : zRt mX11_powerFor g post (some (.inl z)) h b = (post (some (.inl z)) h ∧ h.1.length = g) := by show (_ ∧ _ ∧ True) = _; simp
def bk_X11_powerFor_26 (E : ZE) (CT : Nat → ZC) (X : ZK) (Rt : ZR) (ls : ZL) (st : List ZV) (h : ZH) (b : ZB2) : Prop := zB E CT k_X11_powerFor_26 26 ls st h b (fun t ls st h b => X t ls st h b) Rt
theorem bs_X11_powerFor_26 {E : ZE} {CT : Nat → ZC} {X : ZK} {Rt : ZR} {ls : ZL} {st : List ZV} {h : ZH} {b : ZB2} (hX : zCl E mX11_powerFor 11 false CT Rt X) (q : bk_X11_powerFor_26 E CT X Rt ls st h b) : X 26 ls st h b := by
  refine hX k_X11_powerFor_26 26 ok_X11_powerFor_26 _ ?_ ls st h b q
  exact fun t ls st h b q => q
def bk_X11_powerFor_32 (E : ZE) (CT : Nat → ZC) (X : ZK) (Rt : ZR) (ls : ZL) (st : List ZV) (h : ZH) (b : ZB2) : Prop := zB E CT k_X11_powerFor_32 32 ls st h b (fun t ls st h b => X t ls st h b) Rt
theorem bs_X11_powerFor_32 {E : ZE} {CT : Nat → ZC} {X : ZK} {Rt : ZR} {ls : ZL} {st : List ZV} {h : ZH} {b : ZB2} (hX : zCl E mX11_powerFor 11 false CT Rt X) (q : bk_X11_powerFor_32 E CT X Rt ls st h b) : X 32 ls st h b := by
  refine hX k_X11_powerFor_32 32 ok_X11_powerFor_32 _ ?_ ls st h b q
  exact fun t ls st h b q => q
def bk_X11_powerFor_0 (E : ZE) (CT : Nat → ZC) (X : ZK) (Rt : ZR) (ls : ZL) (st : List ZV) (h : ZH) (b : ZB2) : Prop := zB E CT k_X11_powerFor_0 0 ls st h b (fun t ls st h b => if t = 26 then bk_X11_powerFor_26 E CT X Rt ls st h b else if t = 32 then bk_X11_powerFor_32 E CT X Rt ls st h b else X t ls st h b) Rt
theorem bs_X11_powerFor_0 {E : ZE} {CT : Nat → ZC} {X : ZK} {Rt : ZR} {ls : ZL} {st : List ZV} {h : ZH} {b : ZB2} (hX : zCl E mX11_powerFor 11 false CT Rt X) (q : bk_X11_powerFor_0 E CT X Rt ls st h b) : X 0 ls st h b := by
  refine hX k_X11_powerFor_0 0 ok_X11_powerFor_0 _ ?_ ls st h b q
  exact by
    intro t ls st h b q
    by_cases c : t = 26
    · subst c; rw [if_pos rfl] at q; exact bs_X11_powerFor_26 hX q
    rw [if_neg c] at q
    by_cases c : t = 32
    · subst c; rw [if_pos rfl] at q; exact bs_X11_powerFor_32 hX q
    rw [if_neg c] at q
    exact q
def bk_X11_powerFor_74 (E : ZE) (CT : Nat → ZC) (X : ZK) (Rt : ZR) (ls : ZL) (st : List ZV) (h : ZH) (b : ZB2) : Prop := zB E CT k_X11_powerFor_74 74 ls st h b (fun t ls st h b => X t ls st h b) Rt
theorem bs_X11_powerFor_74 {E : ZE} {CT : Nat → ZC} {X : ZK} {Rt : ZR} {ls : ZL} {st : List ZV} {h : ZH} {b : ZB2} (hX : zCl E mX11_powerFor 11 false CT Rt X) (q : bk_X11_powerFor_74 E CT X Rt ls st h b) : X 74 ls st h b := by
  refine hX k_X11_powerFor_74 74 ok_X11_powerFor_74 _ ?_ ls st h b q
  exact fun t ls st h b q => q
def bk_X11_powerFor_80 (E : ZE) (CT : Nat → ZC) (X : ZK) (Rt : ZR) (ls : ZL) (st : List ZV) (h : ZH) (b : ZB2) : Prop := zB E CT k_X11_powerFor_80 80 ls st h b (fun t ls st h b => X t ls st h b) Rt
theorem bs_X11_powerFor_80 {E : ZE} {CT : Nat → ZC} {X : ZK} {Rt : ZR} {ls : ZL} {st : List ZV} {h : ZH} {b : ZB2} (hX : zCl E mX11_powerFor 11 false CT Rt X) (q : bk_X11_powerFor_80 E CT X Rt ls st h b) : X 80 ls st h b := by
  refine hX k_X11_powerFor_80 80 ok_X11_powerFor_80 _ ?_ ls st h b q
  exact fun t ls st h b q => q
def bk_X11_powerFor_39 (E : ZE) (CT : Nat → ZC) (X : ZK) (Rt : ZR) (ls : ZL) (st : List ZV) (h : ZH) (b : ZB2) : Prop := zB E CT k_X11_powerFor_39 39 ls st h b (fun t ls st h b => if t = 74 then bk_X11_powerFor_74 E CT X Rt ls st h b else if t = 80 then bk_X11_powerFor_80 E CT X Rt ls st h b else X t ls st h b) Rt
theorem bs_X11_powerFor_39 {E : ZE} {CT : Nat → ZC} {X : ZK} {Rt : ZR} {ls : ZL} {st : List ZV} {h : ZH} {b : ZB2} (hX : zCl E mX11_powerFor 11 false CT Rt X) (q : bk_X11_powerFor_39 E CT X Rt ls st h b) : X 39 ls st h b := by
  refine hX k_X11_powerFor_39 39 ok_X11_powerFor_39 _ ?_ ls st h b q
  exact by
    intro t ls st h b q
    by_cases c : t = 74
    · subst c; rw [if_pos rfl] at q; exact bs_X11_powerFor_74 hX q
    rw [if_neg c] at q
    by_cases c : t = 80
    · subst c; rw [if_pos rfl] at q; exact bs_X11_powerFor_80 hX q
    rw [if_neg c] at q
    exact q
-- X11_powerFor: cuts [39]
def k_X11_needless_0 : List ZI := [(.iload_n 1, 1, (0, [1], [])), (.invokestatic 254, 3, (0, [183, 1, 0, 11], [])), (.ifCond .ne 9, 3, (0, [13], [])), (.aload_n 0, 1, (0, [0], [])), (.iconst 1, 1, (0, [], [])), (.invokevirtual 139, 3, (0, [119, 2, 0, 11], [])), (.ireturn, 1, (0, [], []))]
theorem ok_X11_needless_0 : zOK cX11_needless 11 false 5 k_X11_needless_0 0 = true := zOK_by (by decide +kernel)
def k_X11_needless_13 : List ZI := [(.aload_n 0, 1, (0, [0], [])), (.invokevirtual 257, 3, (0, [130, 1, 0, 11], [])), (.aload_n 0, 1, (0, [0], [])), (.iload_n 1, 1, (0, [1], [])), (.invokevirtual 263, 3, (0, [186, 2, 0, 11], [])), (.istore_n 2, 1, (0, [2], [])), (.iconst 0, 1, (0, [], [])), (.istore_n 3, 1, (0, [3], [])), (.iconst 0, 1, (0, [], [])), (.istore 4, 2, (0, [4], []))]
theorem ok_X11_needless_13 : zOK cX11_needless 11 false 5 k_X11_needless_13 13 = true := zOK_by (by decide +kernel)
def k_X11_needless_28 : List ZI := [(.iload 4, 2, (0, [4], [])), (.aload_n 0, 1, (0, [0], [])), (.getfield 7, 3, (0, [11, 0], [])), (.iconst 0, 1, (0, [], [])), (.iaload, 1, (0, [], [])), (.if_icmp .ge 35, 3, (0, [71], [])), (.aload_n 0, 1, (0, [0], [])), (.iload 4, 2, (0, [4], [])), (.putfield 31, 3, (0, [11, 15], [])), (.iload_n 3, 1, (0, [3], [])), (.aload_n 0, 1, (0, [0], [])), (.iload_n 1, 1, (0, [1], [])), (.invokevirtual 263, 3, (0, [186, 2, 0, 11], [])), (.iload_n 2, 1, (0, [2], [])), (.if_icmp .gt 10, 3, (0, [62], [])), (.iconst 1, 1, (0, [], [])), (.iload 4, 2, (0, [4], [])), (.ishl, 1, (0, [], [])), (.goto 4, 3, (0, [63], []))]
theorem ok_X11_needless_28 : zOK cX11_needless 11 false 5 k_X11_needless_28 28 = true := zOK_by (by decide +kernel)
def k_X11_needless_62 : List ZI := [(.iconst 0, 1, (0, [], []))]
theorem ok_X11_needless_62 : zOK cX11_needless 11 false 5 k_X11_needless_62 62 = true := zOK_by (by decide +kernel)
def k_X11_needless_63 : List ZI := [(.ior, 1, (0, [], [])), (.istore_n 3, 1, (0, [3], [])), (.iinc 4 1, 3, (0, [4], [])), (.goto (-40), 3, (0, [28], []))]
theorem ok_X11_needless_63 : zOK cX11_needless 11 false 5 k_X11_needless_63 63 = true := zOK_by (by decide +kernel)
def k_X11_needless_71 : List ZI := [(.aload_n 0, 1, (0, [0], [])), (.iconst (-1), 1, (0, [], [])), (.putfield 31, 3, (0, [11, 15], [])), (.iload_n 3, 1, (0, [3], [])), (.ireturn, 1, (0, [], []))]
theorem ok_X11_needless_71 : zOK cX11_needless 11 false 5 k_X11_needless_71 71 = true := zOK_by (by decide +kernel)
theorem rt_X11_needless {g : Nat} {post : Option ZV → ZH → Prop} {h : ZH} {b : ZB2} {z : Int} : zRt mX11_needless g post (some (.inl z)) h b = (post (some (.inl z)) h ∧ h.1.length = g) := by show (_ ∧ _ ∧ True) = _; simp
def bk_X11_needless_13 (E : ZE) (CT : Nat → ZC) (X : ZK) (Rt : ZR) (ls : ZL) (st : List ZV) (h : ZH) (b : ZB2) : Prop := zB E CT k_X11_needless_13 13 ls st h b (fun t ls st h b => X t ls st h b) Rt
theorem bs_X11_needless_13 {E : ZE} {CT : Nat → ZC} {X : ZK} {Rt : ZR} {ls : ZL} {st : List ZV} {h : ZH} {b : ZB2} (hX : zCl E mX11_needless 11 false CT Rt X) (q : bk_X11_needless_13 E CT X Rt ls st h b) : X 13 ls st h b := by
  refine hX k_X11_needless_13 13 ok_X11_needless_13 _ ?_ ls st h b q
  exact fun t ls st h b q => q
def bk_X11_needless_0 (E : ZE) (CT : Nat → ZC) (X : ZK) (Rt : ZR) (ls : ZL) (st : List ZV) (h : ZH) (b : ZB2) : Prop := zB E CT k_X11_needless_0 0 ls st h b (fun t ls st h b => if t = 13 then bk_X11_needless_13 E CT X Rt ls st h b else X t ls st h b) Rt
theorem bs_X11_needless_0 {E : ZE} {CT : Nat → ZC} {X : ZK} {Rt : ZR} {ls : ZL} {st : List ZV} {h : ZH} {b : ZB2} (hX : zCl E mX11_needless 11 false CT Rt X) (q : bk_X11_needless_0 E CT X Rt ls st h b) : X 0 ls st h b := by
  refine hX k_X11_needless_0 0 ok_X11_needless_0 _ ?_ ls st h b q
  exact by
    intro t ls st h b q
    by_cases c : t = 13
    · subst c; rw [if_pos rfl] at q; exact bs_X11_needless_13 hX q
    rw [if_neg c] at q
    exact q
def bk_X11_needless_63 (E : ZE) (CT : Nat → ZC) (X : ZK) (Rt : ZR) (ls : ZL) (st : List ZV) (h : ZH) (b : ZB2) : Prop := zB E CT k_X11_needless_63 63 ls st h b (fun t ls st h b => X t ls st h b) Rt
theorem bs_X11_needless_63 {E : ZE} {CT : Nat → ZC} {X : ZK} {Rt : ZR} {ls : ZL} {st : List ZV} {h : ZH} {b : ZB2} (hX : zCl E mX11_needless 11 false CT Rt X) (q : bk_X11_needless_63 E CT X Rt ls st h b) : X 63 ls st h b := by
  refine hX k_X11_needless_63 63 ok_X11_needless_63 _ ?_ ls st h b q
  exact fun t ls st h b q => q
def bk_X11_needless_62 (E : ZE) (CT : Nat → ZC) (X : ZK) (Rt : ZR) (ls : ZL) (st : List ZV) (h : ZH) (b : ZB2) : Prop := zB E CT k_X11_needless_62 62 ls st h b (fun t ls st h b => if t = 63 then bk_X11_needless_63 E CT X Rt ls st h b else X t ls st h b) Rt
theorem bs_X11_needless_62 {E : ZE} {CT : Nat → ZC} {X : ZK} {Rt : ZR} {ls : ZL} {st : List ZV} {h : ZH} {b : ZB2} (hX : zCl E mX11_needless 11 false CT Rt X) (q : bk_X11_needless_62 E CT X Rt ls st h b) : X 62 ls st h b := by
  refine hX k_X11_needless_62 62 ok_X11_needless_62 _ ?_ ls st h b q
  exact by
    intro t ls st h b q
    by_cases c : t = 63
    · subst c; rw [if_pos rfl] at q; exact bs_X11_needless_63 hX q
    rw [if_neg c] at q
    exact q
def bk_X11_needless_71 (E : ZE) (CT : Nat → ZC) (X : ZK) (Rt : ZR) (ls : ZL) (st : List ZV) (h : ZH) (b : ZB2) : Prop := zB E CT k_X11_needless_71 71 ls st h b (fun t ls st h b => X t ls st h b) Rt
theorem bs_X11_needless_71 {E : ZE} {CT : Nat → ZC} {X : ZK} {Rt : ZR} {ls : ZL} {st : List ZV} {h : ZH} {b : ZB2} (hX : zCl E mX11_needless 11 false CT Rt X) (q : bk_X11_needless_71 E CT X Rt ls st h b) : X 71 ls st h b := by
  refine hX k_X11_needless_71 71 ok_X11_needless_71 _ ?_ ls st h b q
  exact fun t ls st h b q => q
def bk_X11_needless_28 (E : ZE) (CT : Nat → ZC) (X : ZK) (Rt : ZR) (ls : ZL) (st : List ZV) (h : ZH) (b : ZB2) : Prop := zB E CT k_X11_needless_28 28 ls st h b (fun t ls st h b => if t = 62 then bk_X11_needless_62 E CT X Rt ls st h b else if t = 63 then bk_X11_needless_63 E CT X Rt ls st h b else if t = 71 then bk_X11_needless_71 E CT X Rt ls st h b else X t ls st h b) Rt
theorem bs_X11_needless_28 {E : ZE} {CT : Nat → ZC} {X : ZK} {Rt : ZR} {ls : ZL} {st : List ZV} {h : ZH} {b : ZB2} (hX : zCl E mX11_needless 11 false CT Rt X) (q : bk_X11_needless_28 E CT X Rt ls st h b) : X 28 ls st h b := by
  refine hX k_X11_needless_28 28 ok_X11_needless_28 _ ?_ ls st h b q
  exact by
    intro t ls st h b q
    by_cases c : t = 62
    · subst c; rw [if_pos rfl] at q; exact bs_X11_needless_62 hX q
    rw [if_neg c] at q
    by_cases c : t = 63
    · subst c; rw [if_pos rfl] at q; exact bs_X11_needless_63 hX q
    rw [if_neg c] at q
    by_cases c : t = 71
    · subst c; rw [if_pos rfl] at q; exact bs_X11_needless_71 hX q
    rw [if_neg c] at q
    exact q
-- X11_needless: cuts [28]
def B_isAhead (n : Int) (post : Option ZV → Prop) : Prop := rg n ∧ post (some (.inl (zbo (0 ≤ n ∧ n ≤ 60))))
def C_isAhead : ZC := fun as h post => match as with
  | [.inl n] => B_isAhead n (fun v => post v h)
  | _ => False
theorem r_isAhead {n : Int} {h : ZH} {post : Option ZV → ZH → Prop} : C_isAhead [.inl n] h post = B_isAhead n (fun v => post v h) := rfl
def ct_isAhead : Nat → ZC := fun n => if n = 120 then C_in else fun _ _ _ => False
theorem ct_isAhead_in {as : List ZV} {h : ZH} {post : Option ZV → ZH → Prop} : ct_isAhead 120 as h post = C_in as h post := rfl
theorem c_isAhead {E : ZE} {d : Nat} (hd : 2 ≤ d) : zMet E d mX11_isAhead C_isAhead := by
  refine zmet_of (o := 11) (ini := false) (CT := ct_isAhead) gd_X11_isAhead rfl (fun h => by cases h) (by omega) ?_ ?_
  · intro n as h post hh
    unfold ct_isAhead at hh
    by_cases c : n = 120
    · subst c; exact ⟨gd_X11_in, 1, by omega, c_in (by omega)⟩
    rw [if_neg c] at hh
    exact hh.elim
  intro as h post hC
  match as, hC with
  | [.inl n], hC =>
    refine ⟨Nat.le_of_ble_eq_true rfl, fun X hX => bs_X11_isAhead_0 hX ?_⟩
    have hC : B_isAhead n (fun v => post v h) := hC
    simp only [B_isAhead] at hC
    show bk_X11_isAhead_0 E ct_isAhead X _ [some (.inl n)] [] h (0, 0)
    obtain ⟨h1, hC⟩ := hC
    simp only [bk_X11_isAhead_0, k_X11_isAhead_0, ↓e_rk1, ↓e_rk0, ↓e_sk0, ↓e_sks, ↓e_ldi0, ↓e_ldis, ↓e_ldl0, ↓e_ldls, ↓e_lda0, ↓e_ldas, ↓e_ok0, ↓e_okss, ↓e_ok1i, ↓e_ok1r, ↓e_ok1n, ↓e_sti, ↓e_sta, ↓e_1, ↓e_2, ↓e_l1, ↓e_l2, ↓e_li, ↓e_sw0, ↓e_sws, ↓e_ceq, ↓e_cne, ↓e_clt, ↓e_cge, ↓e_cgt, ↓e_cle, ↓e_nil, ↓e_cons, ↓e_iconst, ↓e_bipush, ↓e_sipush, ↓e_ldc, ↓e_ldcw, ↓e_ldc2, ↓e_lconst, ↓e_iloadn, ↓e_iload, ↓e_lloadn, ↓e_lload, ↓e_aloadn, ↓e_aload, ↓e_istoren, ↓e_istore, ↓e_astoren, ↓e_astore, ↓e_add, ↓e_iinc, ↓e_iadd, ↓e_isub, ↓e_imul, ↓e_iand, ↓e_ior, ↓e_ixor, ↓e_ishl, ↓e_iushr, ↓e_idiv, ↓e_irem, ↓e_ineg, ↓e_i2l, ↓e_i2b, ↓e_i2s, ↓e_l2i, ↓e_land, ↓e_lor, ↓e_lshl, ↓e_lshr, ↓e_lushr, ↓e_lcmp, ↓e_dupi, ↓e_dupr, ↓e_popi, ↓e_dup2, ↓e_goto, ↓e_if, ↓e_icmp, ↓e_tsw, ↓e_lsw, ↓e_getf, ↓e_putf, ↓e_gets, ↓e_iald, ↓e_cald, ↓e_iast, ↓e_aald, ↓e_aast, ↓e_len, ↓e_copy, ↓e_abs, ↓e_max, ↓e_min, ↓e_iret, ↓e_aret, ↓e_vret, ↓e_is0, ↓e_is1, ↓e_is2, ↓e_is3, ↓e_is4, ↓e_iv1, ↓e_iv2, ↓e_iv3, ↓e_iv4, ↓e_iv5, ↓e_iv6, ↓rt_X11_isAhead, ↓reduceIte, Nat.reduceAdd, Nat.reduceEqDiff, ↓zcl0, ↓zclv, List.map_nil, List.sum_nil, List.map_cons, List.sum_cons, zcat, true_and, and_true, Nat.reduceLeDiff, Nat.reduceAdd, eq_self, forall_const, e_ok0, e_okss, e_ok1i, e_ok1r, e_ok1n, zq_0, zq_60, Int.reduceToNat, Int.reduceAdd, Int.reduceMul, Int.reduceSub, Int.reduceNeg, Int.reduceLT, Int.reduceLE, Int.reduceEq, not_false_eq_true, not_true_eq_false, false_implies, true_implies, implies_true, Int.reduceDiv, Int.reduceMod, zr8_zr, zr_zbo, z01_zbo, z01_0, z01_1, zbo_eq0, zup_eq, zup_o, zup_k, ne_eq, ↓ct_isAhead_in, ↓r_in, ↓B_in, zr_rg, h1, zr8_zr, zr_zbo, zbo_01, zr8_rg, h1]
    exact hC
def B_isLate (n : Int) (M : Nat → Nat → Int) (post : Option ZV → (Nat → Nat → Int) → Prop) : Prop := 0 ≤ n ∧ n ≤ 100 ∧ 0 ≤ M 88 1 ∧ M 88 1 ≤ 20000 ∧ post (some (.inl (zbo (9999 < M 88 1 + n)))) M
def C_isLate : ZC := fun as h post => match as with
  | [.inr (.inr (.inl 87)), .inl n] => h.1 = zG ∧ B_isLate n h.2 (fun v M => post v (zG, M))
  | _ => False
theorem r_isLate {n : Int} {M : Nat → Nat → Int} {post : Option ZV → ZH → Prop} : C_isLate [.inr (.inr (.inl 87)), .inl n] (zG, M) post = B_isLate n M (fun v M => post v (zG, M)) := by show (zG = zG ∧ _) = _; simp
def ct_isLate : Nat → ZC := fun n => fun _ _ _ => False
theorem c_isLate {E : ZE} {d : Nat} (hd : 1 ≤ d) : zMet E d mX11_isLate C_isLate := by
  refine zmet_of (o := 11) (ini := false) (CT := ct_isLate) gd_X11_isLate rfl (fun h => by cases h) (by omega) ?_ ?_
  · intro n as h post hh
    unfold ct_isLate at hh
    exact hh.elim
  intro as h post hC
  match as, hC with
  | [.inr (.inr (.inl 87)), .inl n], hC =>
    refine ⟨Nat.le_of_ble_eq_true rfl, fun X hX => bs_X11_isLate_0 hX ?_⟩
    obtain ⟨G, M⟩ := h
    obtain ⟨hG, hC⟩ := hC
    dsimp only at hG
    subst hG
    simp only [B_isLate] at hC
    show bk_X11_isLate_0 E ct_isLate X _ [some (.inr (.inr (.inl 87))), some (.inl n)] [] (zG, M) (0, 0)
    obtain ⟨h1, h2, h3, h4, hC⟩ := hC
    have zn : zr (M 88 1 + n) = M 88 1 + n := zr_of (by omega) (by omega)
    simp only [bk_X11_isLate_0, k_X11_isLate_0, bk_X11_isLate_18, k_X11_isLate_18, bk_X11_isLate_19, k_X11_isLate_19, ↓e_rk1, ↓e_rk0, ↓e_sk0, ↓e_sks, ↓e_ldi0, ↓e_ldis, ↓e_ldl0, ↓e_ldls, ↓e_lda0, ↓e_ldas, ↓e_ok0, ↓e_okss, ↓e_ok1i, ↓e_ok1r, ↓e_ok1n, ↓e_sti, ↓e_sta, ↓e_1, ↓e_2, ↓e_l1, ↓e_l2, ↓e_li, ↓e_sw0, ↓e_sws, ↓e_ceq, ↓e_cne, ↓e_clt, ↓e_cge, ↓e_cgt, ↓e_cle, ↓e_nil, ↓e_cons, ↓e_iconst, ↓e_bipush, ↓e_sipush, ↓e_ldc, ↓e_ldcw, ↓e_ldc2, ↓e_lconst, ↓e_iloadn, ↓e_iload, ↓e_lloadn, ↓e_lload, ↓e_aloadn, ↓e_aload, ↓e_istoren, ↓e_istore, ↓e_astoren, ↓e_astore, ↓e_add, ↓e_iinc, ↓e_iadd, ↓e_isub, ↓e_imul, ↓e_iand, ↓e_ior, ↓e_ixor, ↓e_ishl, ↓e_iushr, ↓e_idiv, ↓e_irem, ↓e_ineg, ↓e_i2l, ↓e_i2b, ↓e_i2s, ↓e_l2i, ↓e_land, ↓e_lor, ↓e_lshl, ↓e_lshr, ↓e_lushr, ↓e_lcmp, ↓e_dupi, ↓e_dupr, ↓e_popi, ↓e_dup2, ↓e_goto, ↓e_if, ↓e_icmp, ↓e_tsw, ↓e_lsw, ↓e_getf, ↓e_putf, ↓e_gets, ↓e_iald, ↓e_cald, ↓e_iast, ↓e_aald, ↓e_aast, ↓e_len, ↓e_copy, ↓e_abs, ↓e_max, ↓e_min, ↓e_iret, ↓e_aret, ↓e_vret, ↓e_is0, ↓e_is1, ↓e_is2, ↓e_is3, ↓e_is4, ↓e_iv1, ↓e_iv2, ↓e_iv3, ↓e_iv4, ↓e_iv5, ↓e_iv6, ↓rt_X11_isLate, ↓reduceIte, Nat.reduceAdd, Nat.reduceEqDiff, ↓zcl0, ↓zclv, List.map_nil, List.sum_nil, List.map_cons, List.sum_cons, zcat, true_and, and_true, Nat.reduceLeDiff, Nat.reduceAdd, eq_self, forall_const, e_ok0, e_okss, e_ok1i, e_ok1r, e_ok1n, zl_0, zl_1, zl_9999, Int.reduceToNat, Int.reduceAdd, Int.reduceMul, Int.reduceSub, Int.reduceNeg, Int.reduceLT, Int.reduceLE, Int.reduceEq, not_false_eq_true, not_true_eq_false, false_implies, true_implies, implies_true, Int.reduceDiv, Int.reduceMod, zr8_zr, zr_zbo, z01_zbo, z01_0, z01_1, zbo_eq0, zup_eq, zup_o, zup_k, ne_eq, ↓v_87, ↓g_87_0, ↓l_88, ↓s_88, ↓n_88, ↓g_87_1, ↓l_89, ↓s_89, ↓n_89, ↓g_87_2, ↓l_90, ↓s_90, ↓n_90, ↓g_87_3, ↓p_87_3, ↓g_87_4, ↓l_91, ↓s_91, ↓n_91, ↓g_87_5, ↓p_87_5, ↓g_87_6, ↓p_87_6, ↓g_87_7, ↓p_87_7, ↓g_87_8, ↓p_87_8, ↓g_87_9, ↓p_87_9, ↓g_87_10, ↓p_87_10, ↓g_87_11, ↓l_92, ↓s_92, ↓n_92, ↓g_87_12, ↓l_93, ↓s_93, ↓n_93, ↓g_87_13, ↓p_87_13, ↓g_87_14, ↓l_94, ↓s_94, ↓n_94, ↓g_87_15, ↓p_87_15, ↓g_87_16, ↓l_95, ↓s_95, ↓n_95, ↓g_87_17, ↓l_96, ↓s_96, ↓n_96, ↓g_87_18, ↓l_97, ↓s_97, ↓n_97, ↓g_87_19, ↓p_87_19, ↓g_87_20, ↓p_87_20, ↓g_87_21, ↓l_98, ↓s_98, ↓n_98, ↓g_87_22, ↓l_99, ↓s_99, ↓n_99, ↓g_87_23, ↓l_100, ↓s_100, ↓n_100, ↓g_87_24, ↓l_101, ↓s_101, ↓n_101, zn]
    refine ⟨fun c => zpost hC (zbo_t (by omega)), fun c => zpost hC (zbo_f (by omega))⟩
def R_years (S : ZMm) (n : Int) : Int × ZMm := if 1 ≤ n ∧ n ≤ 60 then (if 9999 < S 88 1 + n then no S 3 else (gap (yrs (S 88) (-1) n.toNat), r88 S (yrs (S 88) (-1) n.toNat))) else no S 1
def B_years (n : Int) (M : Nat → Nat → Int) (post : Option ZV → (Nat → Nat → Int) → Prop) : Prop := rg n ∧ pub M (R_years (st M) n) post
def C_years : ZC := fun as h post => match as with
  | [.inr (.inr (.inl 87)), .inl n] => h.1 = zG ∧ B_years n h.2 (fun v M => post v (zG, M))
  | _ => False
theorem r_years {n : Int} {M : Nat → Nat → Int} {post : Option ZV → ZH → Prop} : C_years [.inr (.inr (.inl 87)), .inl n] (zG, M) post = B_years n M (fun v M => post v (zG, M)) := by show (zG = zG ∧ _) = _; simp
def ct_years : Nat → ZC := fun n => if n = 120 then C_in else if n = 178 then C_isLate else if n = 164 then C_yearsGo else if n = 153 then C_heads else if n = 119 then C_finds else fun _ _ _ => False
theorem ct_years_in {as : List ZV} {h : ZH} {post : Option ZV → ZH → Prop} : ct_years 120 as h post = C_in as h post := rfl
theorem ct_years_isLate {as : List ZV} {h : ZH} {post : Option ZV → ZH → Prop} : ct_years 178 as h post = C_isLate as h post := rfl
theorem ct_years_yearsGo {as : List ZV} {h : ZH} {post : Option ZV → ZH → Prop} : ct_years 164 as h post = C_yearsGo as h post := rfl
theorem ct_years_heads {as : List ZV} {h : ZH} {post : Option ZV → ZH → Prop} : ct_years 153 as h post = C_heads as h post := rfl
theorem ct_years_finds {as : List ZV} {h : ZH} {post : Option ZV → ZH → Prop} : ct_years 119 as h post = C_finds as h post := rfl
theorem c_years {E : ZE} {d : Nat} (hd : 9 ≤ d) : zMet E d mX11_years C_years := by
  refine zmet_of (o := 11) (ini := false) (CT := ct_years) gd_X11_years rfl (fun h => by cases h) (by omega) ?_ ?_
  · intro n as h post hh
    unfold ct_years at hh
    by_cases c : n = 120
    · subst c; exact ⟨gd_X11_in, 1, by omega, c_in (by omega)⟩
    rw [if_neg c] at hh
    by_cases c : n = 178
    · subst c; exact ⟨gd_X11_isLate, 1, by omega, c_isLate (by omega)⟩
    rw [if_neg c] at hh
    by_cases c : n = 164
    · subst c; exact ⟨gd_X11_yearsGo, 8, by omega, c_yearsGo (by omega)⟩
    rw [if_neg c] at hh
    by_cases c : n = 153
    · subst c; exact ⟨gd_X11_heads, 3, by omega, c_heads (by omega)⟩
    rw [if_neg c] at hh
    by_cases c : n = 119
    · subst c; exact ⟨gd_X11_finds, 1, by omega, c_finds (by omega)⟩
    rw [if_neg c] at hh
    exact hh.elim
  intro as h post hC
  match as, hC with
  | [.inr (.inr (.inl 87)), .inl n], hC =>
    refine ⟨Nat.le_of_ble_eq_true rfl, fun X hX => bs_X11_years_0 hX ?_⟩
    obtain ⟨G, M⟩ := h
    obtain ⟨hG, hC⟩ := hC
    dsimp only at hG
    subst hG
    simp only [B_years] at hC
    show bk_X11_years_0 E ct_years X _ [some (.inr (.inr (.inl 87))), some (.inl n)] [] (zG, M) (0, 0)
    obtain ⟨h1, hC⟩ := hC
    have vd : Vd (M 88) := hC.1.1
    have v1 := vd.2.1
    have m15 : M 87 15 = -1 := hC.2.1
    have s1 : st M 88 1 = M 88 1 := rfl
    have rm : rg (-1) := ⟨by omega, by omega⟩
    simp only [bk_X11_years_0, k_X11_years_0, bk_X11_years_18, k_X11_years_18, bk_X11_years_32, k_X11_years_32, ↓e_rk1, ↓e_rk0, ↓e_sk0, ↓e_sks, ↓e_ldi0, ↓e_ldis, ↓e_ldl0, ↓e_ldls, ↓e_lda0, ↓e_ldas, ↓e_ok0, ↓e_okss, ↓e_ok1i, ↓e_ok1r, ↓e_ok1n, ↓e_sti, ↓e_sta, ↓e_1, ↓e_2, ↓e_l1, ↓e_l2, ↓e_li, ↓e_sw0, ↓e_sws, ↓e_ceq, ↓e_cne, ↓e_clt, ↓e_cge, ↓e_cgt, ↓e_cle, ↓e_nil, ↓e_cons, ↓e_iconst, ↓e_bipush, ↓e_sipush, ↓e_ldc, ↓e_ldcw, ↓e_ldc2, ↓e_lconst, ↓e_iloadn, ↓e_iload, ↓e_lloadn, ↓e_lload, ↓e_aloadn, ↓e_aload, ↓e_istoren, ↓e_istore, ↓e_astoren, ↓e_astore, ↓e_add, ↓e_iinc, ↓e_iadd, ↓e_isub, ↓e_imul, ↓e_iand, ↓e_ior, ↓e_ixor, ↓e_ishl, ↓e_iushr, ↓e_idiv, ↓e_irem, ↓e_ineg, ↓e_i2l, ↓e_i2b, ↓e_i2s, ↓e_l2i, ↓e_land, ↓e_lor, ↓e_lshl, ↓e_lshr, ↓e_lushr, ↓e_lcmp, ↓e_dupi, ↓e_dupr, ↓e_popi, ↓e_dup2, ↓e_goto, ↓e_if, ↓e_icmp, ↓e_tsw, ↓e_lsw, ↓e_getf, ↓e_putf, ↓e_gets, ↓e_iald, ↓e_cald, ↓e_iast, ↓e_aald, ↓e_aast, ↓e_len, ↓e_copy, ↓e_abs, ↓e_max, ↓e_min, ↓e_iret, ↓e_aret, ↓e_vret, ↓e_is0, ↓e_is1, ↓e_is2, ↓e_is3, ↓e_is4, ↓e_iv1, ↓e_iv2, ↓e_iv3, ↓e_iv4, ↓e_iv5, ↓e_iv6, ↓rt_X11_years, ↓reduceIte, Nat.reduceAdd, Nat.reduceEqDiff, ↓zcl0, ↓zclv, List.map_nil, List.sum_nil, List.map_cons, List.sum_cons, zcat, true_and, and_true, Nat.reduceLeDiff, Nat.reduceAdd, eq_self, forall_const, e_ok0, e_okss, e_ok1i, e_ok1r, e_ok1n, zl_1, zl_3, zq_1, zq_60, Int.reduceToNat, Int.reduceAdd, Int.reduceMul, Int.reduceSub, Int.reduceNeg, Int.reduceLT, Int.reduceLE, Int.reduceEq, not_false_eq_true, not_true_eq_false, false_implies, true_implies, implies_true, Int.reduceDiv, Int.reduceMod, zr8_zr, zr_zbo, z01_zbo, z01_0, z01_1, zbo_eq0, zup_eq, zup_o, zup_k, ne_eq, ↓ct_years_in, ↓r_in, ↓B_in, ↓ct_years_isLate, ↓r_isLate, ↓B_isLate, ↓ct_years_yearsGo, ↓r_yearsGo, ↓B_yearsGo, ↓ct_years_heads, ↓r_heads, ↓B_heads, ↓ct_years_finds, ↓r_finds, ↓B_finds, ↓v_87, ↓g_87_0, ↓l_88, ↓s_88, ↓n_88, ↓g_87_1, ↓l_89, ↓s_89, ↓n_89, ↓g_87_2, ↓l_90, ↓s_90, ↓n_90, ↓g_87_3, ↓p_87_3, ↓g_87_4, ↓l_91, ↓s_91, ↓n_91, ↓g_87_5, ↓p_87_5, ↓g_87_6, ↓p_87_6, ↓g_87_7, ↓p_87_7, ↓g_87_8, ↓p_87_8, ↓g_87_9, ↓p_87_9, ↓g_87_10, ↓p_87_10, ↓g_87_11, ↓l_92, ↓s_92, ↓n_92, ↓g_87_12, ↓l_93, ↓s_93, ↓n_93, ↓g_87_13, ↓p_87_13, ↓g_87_14, ↓l_94, ↓s_94, ↓n_94, ↓g_87_15, ↓p_87_15, ↓g_87_16, ↓l_95, ↓s_95, ↓n_95, ↓g_87_17, ↓l_96, ↓s_96, ↓n_96, ↓g_87_18, ↓l_97, ↓s_97, ↓n_97, ↓g_87_19, ↓p_87_19, ↓g_87_20, ↓p_87_20, ↓g_87_21, ↓l_98, ↓s_98, ↓n_98, ↓g_87_22, ↓l_99, ↓s_99, ↓n_99, ↓g_87_23, ↓l_100, ↓s_100, ↓n_100, ↓g_87_24, ↓l_101, ↓s_101, ↓n_101, m15, zr_rg, h1, zr8_rg, h1, zr8_zr, zr_zbo, zbo_01, zbo_eq0, zbo_eq1]
    refine ⟨fun c1 => ?_, fun c1 => ⟨by omega, by omega, by omega, by omega, fun c2 => ⟨by omega, by omega, rm, vd, by omega, fun M1 hd1 hM1 => ?_⟩, fun c2 => ?_⟩⟩
    · exact pub_no hC (by unfold R_years; rw [if_neg (by omega)]) rfl
    rotate_left
    · exact pub_no hC (by unfold R_years; rw [if_pos (by omega), if_pos (by omega)]) rfl
    have ok := yrs_ok vd (-1) n.toNat (by omega)
    have q0 := (Vd_hi ok.1 (e := 0) (by omega) (by omega)).1
    have q1 := (Vd_hi ok.1 (e := 1) (by omega) (by omega)).1
    rw [hd1]
    refine ⟨q0.1, q0.2, q1.1, q1.2, ?_⟩
    refine pub_88 hC (fun x q _ q2 q3 => hM1 x q q2 q3) ?_
    unfold R_years
    rw [if_pos (by omega), if_neg (by omega), hd1]
    rfl
def R_then (S : ZMm) (n g w : Int) : Int × ZMm := if (0 ≤ n ∧ n ≤ 60) ∧ (0 ≤ g ∧ g ≤ 1) ∧ 0 ≤ w ∧ w ≤ 1 then (hi4 (yrs (S 88) (-1) n.toNat) g (2 * w), S) else no S 1
theorem pub_sm {M : ZMm} {R : Int × ZMm} {post : Option ZV → ZMm → Prop} (h : pub M R post) {a : Int} {M' : ZMm} (hM : ∀ x, ¬ x = 88 → ¬ x = 90 → ¬ x = 92 → ¬ x = 94 → M' x = M x) (hd : M' 88 = M 88) (e : R = (a, st M)) : post (some (.inl a)) M' :=
  pub_88 h hM (by rw [e, hd, ← st88 M, r88_id])
/-- what is put aside, and put back -/
theorem bk_of {M M2 : ZMm} (hk : ∀ k, k < 186 → M2 90 k = M 88 k) (hf : ∀ k, ¬ k < 186 → M2 88 k = M 88 k) : (fun k => if k < 186 then M2 90 k else M2 88 k) = M 88 := by
  funext k
  by_cases q : k < 186
  · rw [if_pos q, hk k q]
  · rw [if_neg q, hf k q]
def B_then (n : Int) (g : Int) (w : Int) (M : Nat → Nat → Int) (post : Option ZV → (Nat → Nat → Int) → Prop) : Prop := rg n ∧ rg g ∧ rg w ∧ pub M (R_then (st M) n g w) post
def C_then : ZC := fun as h post => match as with
  | [.inr (.inr (.inl 87)), .inl n, .inl g, .inl w] => h.1 = zG ∧ B_then n g w h.2 (fun v M => post v (zG, M))
  | _ => False
theorem r_then {n : Int} {g : Int} {w : Int} {M : Nat → Nat → Int} {post : Option ZV → ZH → Prop} : C_then [.inr (.inr (.inl 87)), .inl n, .inl g, .inl w] (zG, M) post = B_then n g w M (fun v M => post v (zG, M)) := by show (zG = zG ∧ _) = _; simp
def ct_then : Nat → ZC := fun n => if n = 183 then C_isAhead else if n = 125 then C_isHead else if n = 120 then C_in else if n = 130 then C_keepAside else if n = 164 then C_yearsGo else if n = 127 then C_its else if n = 131 then C_putBack else if n = 119 then C_finds else fun _ _ _ => False
theorem ct_then_isAhead {as : List ZV} {h : ZH} {post : Option ZV → ZH → Prop} : ct_then 183 as h post = C_isAhead as h post := rfl
theorem ct_then_isHead {as : List ZV} {h : ZH} {post : Option ZV → ZH → Prop} : ct_then 125 as h post = C_isHead as h post := rfl
theorem ct_then_in {as : List ZV} {h : ZH} {post : Option ZV → ZH → Prop} : ct_then 120 as h post = C_in as h post := rfl
theorem ct_then_keepAside {as : List ZV} {h : ZH} {post : Option ZV → ZH → Prop} : ct_then 130 as h post = C_keepAside as h post := rfl
theorem ct_then_yearsGo {as : List ZV} {h : ZH} {post : Option ZV → ZH → Prop} : ct_then 164 as h post = C_yearsGo as h post := rfl
theorem ct_then_its {as : List ZV} {h : ZH} {post : Option ZV → ZH → Prop} : ct_then 127 as h post = C_its as h post := rfl
theorem ct_then_putBack {as : List ZV} {h : ZH} {post : Option ZV → ZH → Prop} : ct_then 131 as h post = C_putBack as h post := rfl
theorem ct_then_finds {as : List ZV} {h : ZH} {post : Option ZV → ZH → Prop} : ct_then 119 as h post = C_finds as h post := rfl
theorem c_then {E : ZE} {d : Nat} (hd : 9 ≤ d) : zMet E d mX11_then C_then := by
  refine zmet_of (o := 11) (ini := false) (CT := ct_then) gd_X11_then rfl (fun h => by cases h) (by omega) ?_ ?_
  · intro n as h post hh
    unfold ct_then at hh
    by_cases c : n = 183
    · subst c; exact ⟨gd_X11_isAhead, 2, by omega, c_isAhead (by omega)⟩
    rw [if_neg c] at hh
    by_cases c : n = 125
    · subst c; exact ⟨gd_X11_isHead, 2, by omega, c_isHead (by omega)⟩
    rw [if_neg c] at hh
    by_cases c : n = 120
    · subst c; exact ⟨gd_X11_in, 1, by omega, c_in (by omega)⟩
    rw [if_neg c] at hh
    by_cases c : n = 130
    · subst c; exact ⟨gd_X11_keepAside, 1, by omega, c_keepAside (by omega)⟩
    rw [if_neg c] at hh
    by_cases c : n = 164
    · subst c; exact ⟨gd_X11_yearsGo, 8, by omega, c_yearsGo (by omega)⟩
    rw [if_neg c] at hh
    by_cases c : n = 127
    · subst c; exact ⟨gd_X11_its, 1, by omega, c_its (by omega)⟩
    rw [if_neg c] at hh
    by_cases c : n = 131
    · subst c; exact ⟨gd_X11_putBack, 1, by omega, c_putBack (by omega)⟩
    rw [if_neg c] at hh
    by_cases c : n = 119
    · subst c; exact ⟨gd_X11_finds, 1, by omega, c_finds (by omega)⟩
    rw [if_neg c] at hh
    exact hh.elim
  intro as h post hC
  match as, hC with
  | [.inr (.inr (.inl 87)), .inl n, .inl g, .inl w], hC =>
    refine ⟨Nat.le_of_ble_eq_true rfl, fun X hX => bs_X11_then_0 hX ?_⟩
    obtain ⟨G, M⟩ := h
    obtain ⟨hG, hC⟩ := hC
    dsimp only at hG
    subst hG
    simp only [B_then] at hC
    show bk_X11_then_0 E ct_then X _ [some (.inr (.inr (.inl 87))), some (.inl n), some (.inl g), some (.inl w), none] [] (zG, M) (0, 0)
    obtain ⟨h1, h2, h3, hC⟩ := hC
    have vd : Vd (M 88) := hC.1.1
    have v1 := vd.2.1
    have y1 : st M 88 1 ≤ 9999 := hC.1.2.1
    have m15 : M 87 15 = -1 := hC.2.1
    have s1 : st M 88 1 = M 88 1 := rfl
    have rm : rg (-1) := ⟨by omega, by omega⟩
    simp only [bk_X11_then_0, k_X11_then_0, bk_X11_then_24, k_X11_then_24, bk_X11_then_30, k_X11_then_30, bk_X11_then_49, k_X11_then_49, bk_X11_then_50, k_X11_then_50, ↓e_rk1, ↓e_rk0, ↓e_sk0, ↓e_sks, ↓e_ldi0, ↓e_ldis, ↓e_ldl0, ↓e_ldls, ↓e_lda0, ↓e_ldas, ↓e_ok0, ↓e_okss, ↓e_ok1i, ↓e_ok1r, ↓e_ok1n, ↓e_sti, ↓e_sta, ↓e_1, ↓e_2, ↓e_l1, ↓e_l2, ↓e_li, ↓e_sw0, ↓e_sws, ↓e_ceq, ↓e_cne, ↓e_clt, ↓e_cge, ↓e_cgt, ↓e_cle, ↓e_nil, ↓e_cons, ↓e_iconst, ↓e_bipush, ↓e_sipush, ↓e_ldc, ↓e_ldcw, ↓e_ldc2, ↓e_lconst, ↓e_iloadn, ↓e_iload, ↓e_lloadn, ↓e_lload, ↓e_aloadn, ↓e_aload, ↓e_istoren, ↓e_istore, ↓e_astoren, ↓e_astore, ↓e_add, ↓e_iinc, ↓e_iadd, ↓e_isub, ↓e_imul, ↓e_iand, ↓e_ior, ↓e_ixor, ↓e_ishl, ↓e_iushr, ↓e_idiv, ↓e_irem, ↓e_ineg, ↓e_i2l, ↓e_i2b, ↓e_i2s, ↓e_l2i, ↓e_land, ↓e_lor, ↓e_lshl, ↓e_lshr, ↓e_lushr, ↓e_lcmp, ↓e_dupi, ↓e_dupr, ↓e_popi, ↓e_dup2, ↓e_goto, ↓e_if, ↓e_icmp, ↓e_tsw, ↓e_lsw, ↓e_getf, ↓e_putf, ↓e_gets, ↓e_iald, ↓e_cald, ↓e_iast, ↓e_aald, ↓e_aast, ↓e_len, ↓e_copy, ↓e_abs, ↓e_max, ↓e_min, ↓e_iret, ↓e_aret, ↓e_vret, ↓e_is0, ↓e_is1, ↓e_is2, ↓e_is3, ↓e_is4, ↓e_iv1, ↓e_iv2, ↓e_iv3, ↓e_iv4, ↓e_iv5, ↓e_iv6, ↓rt_X11_then, ↓reduceIte, Nat.reduceAdd, Nat.reduceEqDiff, ↓zcl0, ↓zclv, List.map_nil, List.sum_nil, List.map_cons, List.sum_cons, zcat, true_and, and_true, Nat.reduceLeDiff, Nat.reduceAdd, eq_self, forall_const, e_ok0, e_okss, e_ok1i, e_ok1r, e_ok1n, zl_0, zl_1, zl_2, zq_0, zq_1, Int.reduceToNat, Int.reduceAdd, Int.reduceMul, Int.reduceSub, Int.reduceNeg, Int.reduceLT, Int.reduceLE, Int.reduceEq, not_false_eq_true, not_true_eq_false, false_implies, true_implies, implies_true, Int.reduceDiv, Int.reduceMod, zr8_zr, zr_zbo, z01_zbo, z01_0, z01_1, zbo_eq0, zup_eq, zup_o, zup_k, ne_eq, ↓ct_then_isAhead, ↓r_isAhead, ↓B_isAhead, ↓ct_then_isHead, ↓r_isHead, ↓B_isHead, ↓ct_then_in, ↓r_in, ↓B_in, ↓ct_then_keepAside, ↓r_keepAside, ↓B_keepAside, ↓ct_then_yearsGo, ↓r_yearsGo, ↓B_yearsGo, ↓ct_then_its, ↓r_its, ↓B_its, ↓ct_then_putBack, ↓r_putBack, ↓B_putBack, ↓ct_then_finds, ↓r_finds, ↓B_finds, ↓v_87, ↓g_87_0, ↓l_88, ↓s_88, ↓n_88, ↓g_87_1, ↓l_89, ↓s_89, ↓n_89, ↓g_87_2, ↓l_90, ↓s_90, ↓n_90, ↓g_87_3, ↓p_87_3, ↓g_87_4, ↓l_91, ↓s_91, ↓n_91, ↓g_87_5, ↓p_87_5, ↓g_87_6, ↓p_87_6, ↓g_87_7, ↓p_87_7, ↓g_87_8, ↓p_87_8, ↓g_87_9, ↓p_87_9, ↓g_87_10, ↓p_87_10, ↓g_87_11, ↓l_92, ↓s_92, ↓n_92, ↓g_87_12, ↓l_93, ↓s_93, ↓n_93, ↓g_87_13, ↓p_87_13, ↓g_87_14, ↓l_94, ↓s_94, ↓n_94, ↓g_87_15, ↓p_87_15, ↓g_87_16, ↓l_95, ↓s_95, ↓n_95, ↓g_87_17, ↓l_96, ↓s_96, ↓n_96, ↓g_87_18, ↓l_97, ↓s_97, ↓n_97, ↓g_87_19, ↓p_87_19, ↓g_87_20, ↓p_87_20, ↓g_87_21, ↓l_98, ↓s_98, ↓n_98, ↓g_87_22, ↓l_99, ↓s_99, ↓n_99, ↓g_87_23, ↓l_100, ↓s_100, ↓n_100, ↓g_87_24, ↓l_101, ↓s_101, ↓n_101, m15, zr_rg, h1, zr_rg, h2, zr_rg, h3, zr8_rg, h1, zr8_rg, h2, zr8_rg, h3, zr8_zr, zr_zbo, zbo_01, zbo_eq0, zbo_eq1]
    refine ⟨fun c1 => ?_, fun c1 => ⟨fun c2 => ?_, fun c2 => ⟨fun c3 => ?_, fun c3 M1 hk1 hM1 => ?_⟩⟩⟩
    · exact pub_no hC (by unfold R_then; rw [if_neg (by omega)]) rfl
    · exact pub_no hC (by unfold R_then; rw [if_neg (by omega)]) rfl
    · exact pub_no hC (by unfold R_then; rw [if_neg (by omega)]) rfl
    rw [hM1 88 (by decide), hM1 87 (by decide), m15]
    refine ⟨by omega, by omega, rm, vd, by omega, fun M2 hd2 hM2 => ?_⟩
    have fin : ∀ M3 : ZMm, (M3 88 = fun k => if k < 186 then M2 90 k else M2 88 k) → (∀ x, ¬ x = 88 → M3 x = M2 x) → post (some (.inl (hi4 (yrs (M 88) (-1) n.toNat) g (2 * w)))) (zG, M3) := by
      intro M3 hd3 hM3
      refine pub_sm hC (fun x q q0 q1 q2 => (hM3 x q).trans ((hM2 x q q1 q2).trans (hM1 x q0))) ?_ ?_
      · rw [hd3]
        refine bk_of (fun k q => ?_) (fun k q => ?_)
        · rw [hM2 90 (by decide) (by decide) (by decide), hk1 k q]
        · rw [hd2, yrs_hi vd (-1) (by omega) n.toNat (by omega)]
      · unfold R_then
        rw [if_pos (by omega)]
        rfl
    rw [hd2]
    refine ⟨fun c4 => ⟨by omega, by omega, fun M3 hd3 hM3 => ?_⟩, fun c4 => ⟨by omega, by omega, fun M3 hd3 hM3 => ?_⟩⟩
    · have := fin M3 (by rw [hd3, hd2]) hM3
      unfold hi4 at this
      rw [c4] at this
      exact this
    · have := fin M3 (by rw [hd3, hd2]) hM3
      unfold hi4 at this
      rw [show w = 1 by omega] at this
      exact this
def R_apart (S : ZMm) (n : Int) : Int × ZMm := if 0 ≤ n ∧ n ≤ 60 then (gap (yrs (S 88) (-1) n.toNat), S) else no S 1
def B_apart (n : Int) (M : Nat → Nat → Int) (post : Option ZV → (Nat → Nat → Int) → Prop) : Prop := rg n ∧ pub M (R_apart (st M) n) post
def C_apart : ZC := fun as h post => match as with
  | [.inr (.inr (.inl 87)), .inl n] => h.1 = zG ∧ B_apart n h.2 (fun v M => post v (zG, M))
  | _ => False
theorem r_apart {n : Int} {M : Nat → Nat → Int} {post : Option ZV → ZH → Prop} : C_apart [.inr (.inr (.inl 87)), .inl n] (zG, M) post = B_apart n M (fun v M => post v (zG, M)) := by show (zG = zG ∧ _) = _; simp
def ct_apart : Nat → ZC := fun n => if n = 183 then C_isAhead else if n = 130 then C_keepAside else if n = 186 then C_apartBehind else if n = 119 then C_finds else fun _ _ _ => False
theorem ct_apart_isAhead {as : List ZV} {h : ZH} {post : Option ZV → ZH → Prop} : ct_apart 183 as h post = C_isAhead as h post := rfl
theorem ct_apart_keepAside {as : List ZV} {h : ZH} {post : Option ZV → ZH → Prop} : ct_apart 130 as h post = C_keepAside as h post := rfl
theorem ct_apart_apartBehind {as : List ZV} {h : ZH} {post : Option ZV → ZH → Prop} : ct_apart 186 as h post = C_apartBehind as h post := rfl
theorem ct_apart_finds {as : List ZV} {h : ZH} {post : Option ZV → ZH → Prop} : ct_apart 119 as h post = C_finds as h post := rfl
theorem c_apart {E : ZE} {d : Nat} (hd : 10 ≤ d) : zMet E d mX11_apart C_apart := by
  refine zmet_of (o := 11) (ini := false) (CT := ct_apart) gd_X11_apart rfl (fun h => by cases h) (by omega) ?_ ?_
  · intro n as h post hh
    unfold ct_apart at hh
    by_cases c : n = 183
    · subst c; exact ⟨gd_X11_isAhead, 2, by omega, c_isAhead (by omega)⟩
    rw [if_neg c] at hh
    by_cases c : n = 130
    · subst c; exact ⟨gd_X11_keepAside, 1, by omega, c_keepAside (by omega)⟩
    rw [if_neg c] at hh
    by_cases c : n = 186
    · subst c; exact ⟨gd_X11_apartBehind, 9, by omega, c_apartBehind (by omega)⟩
    rw [if_neg c] at hh
    by_cases c : n = 119
    · subst c; exact ⟨gd_X11_finds, 1, by omega, c_finds (by omega)⟩
    rw [if_neg c] at hh
    exact hh.elim
  intro as h post hC
  match as, hC with
  | [.inr (.inr (.inl 87)), .inl n], hC =>
    refine ⟨Nat.le_of_ble_eq_true rfl, fun X hX => bs_X11_apart_0 hX ?_⟩
    obtain ⟨G, M⟩ := h
    obtain ⟨hG, hC⟩ := hC
    dsimp only at hG
    subst hG
    simp only [B_apart] at hC
    show bk_X11_apart_0 E ct_apart X _ [some (.inr (.inr (.inl 87))), some (.inl n)] [] (zG, M) (0, 0)
    obtain ⟨h1, hC⟩ := hC
    have vd : Vd (M 88) := hC.1.1
    have v1 := vd.2.1
    have y1 : st M 88 1 ≤ 9999 := hC.1.2.1
    have m15 : M 87 15 = -1 := hC.2.1
    have s1 : st M 88 1 = M 88 1 := rfl
    have rm : rg (-1) := ⟨by omega, by omega⟩
    simp only [bk_X11_apart_0, k_X11_apart_0, bk_X11_apart_13, k_X11_apart_13, ↓e_rk1, ↓e_rk0, ↓e_sk0, ↓e_sks, ↓e_ldi0, ↓e_ldis, ↓e_ldl0, ↓e_ldls, ↓e_lda0, ↓e_ldas, ↓e_ok0, ↓e_okss, ↓e_ok1i, ↓e_ok1r, ↓e_ok1n, ↓e_sti, ↓e_sta, ↓e_1, ↓e_2, ↓e_l1, ↓e_l2, ↓e_li, ↓e_sw0, ↓e_sws, ↓e_ceq, ↓e_cne, ↓e_clt, ↓e_cge, ↓e_cgt, ↓e_cle, ↓e_nil, ↓e_cons, ↓e_iconst, ↓e_bipush, ↓e_sipush, ↓e_ldc, ↓e_ldcw, ↓e_ldc2, ↓e_lconst, ↓e_iloadn, ↓e_iload, ↓e_lloadn, ↓e_lload, ↓e_aloadn, ↓e_aload, ↓e_istoren, ↓e_istore, ↓e_astoren, ↓e_astore, ↓e_add, ↓e_iinc, ↓e_iadd, ↓e_isub, ↓e_imul, ↓e_iand, ↓e_ior, ↓e_ixor, ↓e_ishl, ↓e_iushr, ↓e_idiv, ↓e_irem, ↓e_ineg, ↓e_i2l, ↓e_i2b, ↓e_i2s, ↓e_l2i, ↓e_land, ↓e_lor, ↓e_lshl, ↓e_lshr, ↓e_lushr, ↓e_lcmp, ↓e_dupi, ↓e_dupr, ↓e_popi, ↓e_dup2, ↓e_goto, ↓e_if, ↓e_icmp, ↓e_tsw, ↓e_lsw, ↓e_getf, ↓e_putf, ↓e_gets, ↓e_iald, ↓e_cald, ↓e_iast, ↓e_aald, ↓e_aast, ↓e_len, ↓e_copy, ↓e_abs, ↓e_max, ↓e_min, ↓e_iret, ↓e_aret, ↓e_vret, ↓e_is0, ↓e_is1, ↓e_is2, ↓e_is3, ↓e_is4, ↓e_iv1, ↓e_iv2, ↓e_iv3, ↓e_iv4, ↓e_iv5, ↓e_iv6, ↓rt_X11_apart, ↓reduceIte, Nat.reduceAdd, Nat.reduceEqDiff, ↓zcl0, ↓zclv, List.map_nil, List.sum_nil, List.map_cons, List.sum_cons, zcat, true_and, and_true, Nat.reduceLeDiff, Nat.reduceAdd, eq_self, forall_const, e_ok0, e_okss, e_ok1i, e_ok1r, e_ok1n, zl_1, Int.reduceToNat, Int.reduceAdd, Int.reduceMul, Int.reduceSub, Int.reduceNeg, Int.reduceLT, Int.reduceLE, Int.reduceEq, not_false_eq_true, not_true_eq_false, false_implies, true_implies, implies_true, Int.reduceDiv, Int.reduceMod, zr8_zr, zr_zbo, z01_zbo, z01_0, z01_1, zbo_eq0, zup_eq, zup_o, zup_k, ne_eq, ↓ct_apart_isAhead, ↓r_isAhead, ↓B_isAhead, ↓ct_apart_keepAside, ↓r_keepAside, ↓B_keepAside, ↓ct_apart_apartBehind, ↓r_apartBehind, ↓B_apartBehind, ↓ct_apart_finds, ↓r_finds, ↓B_finds, ↓v_87, ↓g_87_0, ↓l_88, ↓s_88, ↓n_88, ↓g_87_1, ↓l_89, ↓s_89, ↓n_89, ↓g_87_2, ↓l_90, ↓s_90, ↓n_90, ↓g_87_3, ↓p_87_3, ↓g_87_4, ↓l_91, ↓s_91, ↓n_91, ↓g_87_5, ↓p_87_5, ↓g_87_6, ↓p_87_6, ↓g_87_7, ↓p_87_7, ↓g_87_8, ↓p_87_8, ↓g_87_9, ↓p_87_9, ↓g_87_10, ↓p_87_10, ↓g_87_11, ↓l_92, ↓s_92, ↓n_92, ↓g_87_12, ↓l_93, ↓s_93, ↓n_93, ↓g_87_13, ↓p_87_13, ↓g_87_14, ↓l_94, ↓s_94, ↓n_94, ↓g_87_15, ↓p_87_15, ↓g_87_16, ↓l_95, ↓s_95, ↓n_95, ↓g_87_17, ↓l_96, ↓s_96, ↓n_96, ↓g_87_18, ↓l_97, ↓s_97, ↓n_97, ↓g_87_19, ↓p_87_19, ↓g_87_20, ↓p_87_20, ↓g_87_21, ↓l_98, ↓s_98, ↓n_98, ↓g_87_22, ↓l_99, ↓s_99, ↓n_99, ↓g_87_23, ↓l_100, ↓s_100, ↓n_100, ↓g_87_24, ↓l_101, ↓s_101, ↓n_101, m15, zr_rg, h1, zr8_rg, h1, zr8_zr, zr_zbo, zbo_01, zbo_eq0, zbo_eq1]
    refine ⟨fun c1 => ?_, fun c1 M1 hk1 hM1 => ?_⟩
    · exact pub_no hC (by unfold R_apart; rw [if_neg (by omega)]) rfl
    rw [hM1 88 (by decide), hM1 87 (by decide), m15]
    refine ⟨by omega, by omega, rm, vd, by omega, fun M2 hd2 hM2 => ?_⟩
    refine pub_sm hC (fun x q q0 q1 q2 => (hM2 x q q1 q2).trans (hM1 x q0)) ?_ ?_
    · rw [hd2, ← hM1 88 (by decide)]
      exact (bk_of hk1 (fun k _ => by rw [hM1 88 (by decide)])).trans (hM1 88 (by decide)).symm
    · unfold R_apart
      rw [if_pos (by omega)]
      rfl
