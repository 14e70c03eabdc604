/-! THE REFERENCE: its smallest methods -/
def k_X11_in_0 : List ZI := [(.lload_n 0, 1, (0, [0], [])), (.lload_n 2, 1, (0, [2], [])), (.lcmp, 1, (0, [], [])), (.ifCond .lt 14, 3, (0, [17], [])), (.lload_n 0, 1, (0, [0], [])), (.lload 4, 2, (0, [4], [])), (.lcmp, 1, (0, [], [])), (.ifCond .gt 7, 3, (0, [17], [])), (.iconst 1, 1, (0, [], [])), (.goto 4, 3, (0, [18], []))]
theorem ok_X11_in_0 : zOK cX11_in 11 false 6 k_X11_in_0 0 = true := zOK_by (by decide +kernel)
def k_X11_in_17 : List ZI := [(.iconst 0, 1, (0, [], []))]
theorem ok_X11_in_17 : zOK cX11_in 11 false 6 k_X11_in_17 17 = true := zOK_by (by decide +kernel)
def k_X11_in_18 : List ZI := [(.ireturn, 1, (0, [], []))]
theorem ok_X11_in_18 : zOK cX11_in 11 false 6 k_X11_in_18 18 = true := zOK_by (by decide +kernel)
theorem rt_X11_in {g : Nat} {post : Option ZV → ZH → Prop} {h : ZH} {b : ZB2} {z : Int} : zRt mX11_in g post (some (.inl z)) h b = (post (some (.inl z)) h ∧ h.1.length = g ∧ z01 z) := rfl
def bk_X11_in_18 (E : ZE) (CT : Nat → ZC) (X : ZK) (Rt : ZR) (ls : ZL) (st : List ZV) (h : ZH) (b : ZB2) : Prop := zB E CT k_X11_in_18 18 ls st h b (fun t ls st h b => X t ls st h b) Rt
theorem bs_X11_in_18 {E : ZE} {CT : Nat → ZC} {X : ZK} {Rt : ZR} {ls : ZL} {st : List ZV} {h : ZH} {b : ZB2} (hX : zCl E mX11_in 11 false CT Rt X) (q : bk_X11_in_18 E CT X Rt ls st h b) : X 18 ls st h b := by
  refine hX k_X11_in_18 18 ok_X11_in_18 _ ?_ ls st h b q
  exact fun t ls st h b q => q
def bk_X11_in_17 (E : ZE) (CT : Nat → ZC) (X : ZK) (Rt : ZR) (ls : ZL) (st : List ZV) (h : ZH) (b : ZB2) : Prop := zB E CT k_X11_in_17 17 ls st h b (fun t ls st h b => if t = 18 then bk_X11_in_18 E CT X Rt ls st h b else X t ls st h b) Rt
theorem bs_X11_in_17 {E : ZE} {CT : Nat → ZC} {X : ZK} {Rt : ZR} {ls : ZL} {st : List ZV} {h : ZH} {b : ZB2} (hX : zCl E mX11_in 11 false CT Rt X) (q : bk_X11_in_17 E CT X Rt ls st h b) : X 17 ls st h b := by
  refine hX k_X11_in_17 17 ok_X11_in_17 _ ?_ ls st h b q
  exact by
    intro t ls st h b q
    by_cases c : t = 18
    · subst c; rw [if_pos rfl] at q; exact bs_X11_in_18 hX q
    rw [if_neg c] at q
    exact q
def bk_X11_in_0 (E : ZE) (CT : Nat → ZC) (X : ZK) (Rt : ZR) (ls : ZL) (st : List ZV) (h : ZH) (b : ZB2) : Prop := zB E CT k_X11_in_0 0 ls st h b (fun t ls st h b => if t = 17 then bk_X11_in_17 E CT X Rt ls st h b else if t = 18 then bk_X11_in_18 E CT X Rt ls st h b else X t ls st h b) Rt
theorem bs_X11_in_0 {E : ZE} {CT : Nat → ZC} {X : ZK} {Rt : ZR} {ls : ZL} {st : List ZV} {h : ZH} {b : ZB2} (hX : zCl E mX11_in 11 false CT Rt X) (q : bk_X11_in_0 E CT X Rt ls st h b) : X 0 ls st h b := by
  refine hX k_X11_in_0 0 ok_X11_in_0 _ ?_ ls st h b q
  exact by
    intro t ls st h b q
    by_cases c : t = 17
    · subst c; rw [if_pos rfl] at q; exact bs_X11_in_17 hX q
    rw [if_neg c] at q
    by_cases c : t = 18
    · subst c; rw [if_pos rfl] at q; exact bs_X11_in_18 hX q
    rw [if_neg c] at q
    exact q
-- X11_in: cuts []
def k_X11_held_0 : List ZI := [(.iload_n 0, 1, (0, [0], [])), (.iload_n 1, 1, (0, [1], [])), (.if_icmp .ge 7, 3, (0, [9], [])), (.iload_n 1, 1, (0, [1], [])), (.goto 13, 3, (0, [19], []))]
theorem ok_X11_held_0 : zOK cX11_held 11 false 3 k_X11_held_0 0 = true := zOK_by (by decide +kernel)
def k_X11_held_9 : List ZI := [(.iload_n 0, 1, (0, [0], [])), (.iload_n 2, 1, (0, [2], [])), (.if_icmp .le 7, 3, (0, [18], [])), (.iload_n 2, 1, (0, [2], [])), (.goto 4, 3, (0, [19], []))]
theorem ok_X11_held_9 : zOK cX11_held 11 false 3 k_X11_held_9 9 = true := zOK_by (by decide +kernel)
def k_X11_held_18 : List ZI := [(.iload_n 0, 1, (0, [0], []))]
theorem ok_X11_held_18 : zOK cX11_held 11 false 3 k_X11_held_18 18 = true := zOK_by (by decide +kernel)
def k_X11_held_19 : List ZI := [(.ireturn, 1, (0, [], []))]
theorem ok_X11_held_19 : zOK cX11_held 11 false 3 k_X11_held_19 19 = true := zOK_by (by decide +kernel)
theorem rt_X11_held {g : Nat} {post : Option ZV → ZH → Prop} {h : ZH} {b : ZB2} {z : Int} : zRt mX11_held g post (some (.inl z)) h b = (post (some (.inl z)) h ∧ h.1.length = g) := by show (_ ∧ _ ∧ True) = _; simp
def bk_X11_held_19 (E : ZE) (CT : Nat → ZC) (X : ZK) (Rt : ZR) (ls : ZL) (st : List ZV) (h : ZH) (b : ZB2) : Prop := zB E CT k_X11_held_19 19 ls st h b (fun t ls st h b => X t ls st h b) Rt
theorem bs_X11_held_19 {E : ZE} {CT : Nat → ZC} {X : ZK} {Rt : ZR} {ls : ZL} {st : List ZV} {h : ZH} {b : ZB2} (hX : zCl E mX11_held 11 false CT Rt X) (q : bk_X11_held_19 E CT X Rt ls st h b) : X 19 ls st h b := by
  refine hX k_X11_held_19 19 ok_X11_held_19 _ ?_ ls st h b q
  exact fun t ls st h b q => q
def bk_X11_held_18 (E : ZE) (CT : Nat → ZC) (X : ZK) (Rt : ZR) (ls : ZL) (st : List ZV) (h : ZH) (b : ZB2) : Prop := zB E CT k_X11_held_18 18 ls st h b (fun t ls st h b => if t = 19 then bk_X11_held_19 E CT X Rt ls st h b else X t ls st h b) Rt
theorem bs_X11_held_18 {E : ZE} {CT : Nat → ZC} {X : ZK} {Rt : ZR} {ls : ZL} {st : List ZV} {h : ZH} {b : ZB2} (hX : zCl E mX11_held 11 false CT Rt X) (q : bk_X11_held_18 E CT X Rt ls st h b) : X 18 ls st h b := by
  refine hX k_X11_held_18 18 ok_X11_held_18 _ ?_ ls st h b q
  exact by
    intro t ls st h b q
    by_cases c : t = 19
    · subst c; rw [if_pos rfl] at q; exact bs_X11_held_19 hX q
    rw [if_neg c] at q
    exact q
def bk_X11_held_9 (E : ZE) (CT : Nat → ZC) (X : ZK) (Rt : ZR) (ls : ZL) (st : List ZV) (h : ZH) (b : ZB2) : Prop := zB E CT k_X11_held_9 9 ls st h b (fun t ls st h b => if t = 18 then bk_X11_held_18 E CT X Rt ls st h b else if t = 19 then bk_X11_held_19 E CT X Rt ls st h b else X t ls st h b) Rt
theorem bs_X11_held_9 {E : ZE} {CT : Nat → ZC} {X : ZK} {Rt : ZR} {ls : ZL} {st : List ZV} {h : ZH} {b : ZB2} (hX : zCl E mX11_held 11 false CT Rt X) (q : bk_X11_held_9 E CT X Rt ls st h b) : X 9 ls st h b := by
  refine hX k_X11_held_9 9 ok_X11_held_9 _ ?_ ls st h b q
  exact by
    intro t ls st h b q
    by_cases c : t = 18
    · subst c; rw [if_pos rfl] at q; exact bs_X11_held_18 hX q
    rw [if_neg c] at q
    by_cases c : t = 19
    · subst c; rw [if_pos rfl] at q; exact bs_X11_held_19 hX q
    rw [if_neg c] at q
    exact q
def bk_X11_held_0 (E : ZE) (CT : Nat → ZC) (X : ZK) (Rt : ZR) (ls : ZL) (st : List ZV) (h : ZH) (b : ZB2) : Prop := zB E CT k_X11_held_0 0 ls st h b (fun t ls st h b => if t = 9 then bk_X11_held_9 E CT X Rt ls st h b else if t = 19 then bk_X11_held_19 E CT X Rt ls st h b else X t ls st h b) Rt
theorem bs_X11_held_0 {E : ZE} {CT : Nat → ZC} {X : ZK} {Rt : ZR} {ls : ZL} {st : List ZV} {h : ZH} {b : ZB2} (hX : zCl E mX11_held 11 false CT Rt X) (q : bk_X11_held_0 E CT X Rt ls st h b) : X 0 ls st h b := by
  refine hX k_X11_held_0 0 ok_X11_held_0 _ ?_ ls st h b q
  exact by
    intro t ls st h b q
    by_cases c : t = 9
    · subst c; rw [if_pos rfl] at q; exact bs_X11_held_9 hX q
    rw [if_neg c] at q
    by_cases c : t = 19
    · subst c; rw [if_pos rfl] at q; exact bs_X11_held_19 hX q
    rw [if_neg c] at q
    exact q
-- X11_held: cuts []
def k_X11_size_0 : List ZI := [(.iload_n 0, 1, (0, [0], [])), (.ifCond .ge 8, 3, (0, [9], [])), (.iload_n 0, 1, (0, [0], [])), (.ineg, 1, (0, [], [])), (.goto 4, 3, (0, [10], []))]
theorem ok_X11_size_0 : zOK cX11_size 11 false 1 k_X11_size_0 0 = true := zOK_by (by decide +kernel)
def k_X11_size_9 : List ZI := [(.iload_n 0, 1, (0, [0], []))]
theorem ok_X11_size_9 : zOK cX11_size 11 false 1 k_X11_size_9 9 = true := zOK_by (by decide +kernel)
def k_X11_size_10 : List ZI := [(.ireturn, 1, (0, [], []))]
theorem ok_X11_size_10 : zOK cX11_size 11 false 1 k_X11_size_10 10 = true := zOK_by (by decide +kernel)
theorem rt_X11_size {g : Nat} {post : Option ZV → ZH → Prop} {h : ZH} {b : ZB2} {z : Int} : zRt mX11_size g post (some (.inl z)) h b = (post (some (.inl z)) h ∧ h.1.length = g) := by show (_ ∧ _ ∧ True) = _; simp
def bk_X11_size_10 (E : ZE) (CT : Nat → ZC) (X : ZK) (Rt : ZR) (ls : ZL) (st : List ZV) (h : ZH) (b : ZB2) : Prop := zB E CT k_X11_size_10 10 ls st h b (fun t ls st h b => X t ls st h b) Rt
theorem bs_X11_size_10 {E : ZE} {CT : Nat → ZC} {X : ZK} {Rt : ZR} {ls : ZL} {st : List ZV} {h : ZH} {b : ZB2} (hX : zCl E mX11_size 11 false CT Rt X) (q : bk_X11_size_10 E CT X Rt ls st h b) : X 10 ls st h b := by
  refine hX k_X11_size_10 10 ok_X11_size_10 _ ?_ ls st h b q
  exact fun t ls st h b q => q
def bk_X11_size_9 (E : ZE) (CT : Nat → ZC) (X : ZK) (Rt : ZR) (ls : ZL) (st : List ZV) (h : ZH) (b : ZB2) : Prop := zB E CT k_X11_size_9 9 ls st h b (fun t ls st h b => if t = 10 then bk_X11_size_10 E CT X Rt ls st h b else X t ls st h b) Rt
theorem bs_X11_size_9 {E : ZE} {CT : Nat → ZC} {X : ZK} {Rt : ZR} {ls : ZL} {st : List ZV} {h : ZH} {b : ZB2} (hX : zCl E mX11_size 11 false CT Rt X) (q : bk_X11_size_9 E CT X Rt ls st h b) : X 9 ls st h b := by
  refine hX k_X11_size_9 9 ok_X11_size_9 _ ?_ ls st h b q
  exact by
    intro t ls st h b q
    by_cases c : t = 10
    · subst c; rw [if_pos rfl] at q; exact bs_X11_size_10 hX q
    rw [if_neg c] at q
    exact q
def bk_X11_size_0 (E : ZE) (CT : Nat → ZC) (X : ZK) (Rt : ZR) (ls : ZL) (st : List ZV) (h : ZH) (b : ZB2) : Prop := zB E CT k_X11_size_0 0 ls st h b (fun t ls st h b => if t = 9 then bk_X11_size_9 E CT X Rt ls st h b else if t = 10 then bk_X11_size_10 E CT X Rt ls st h b else X t ls st h b) Rt
theorem bs_X11_size_0 {E : ZE} {CT : Nat → ZC} {X : ZK} {Rt : ZR} {ls : ZL} {st : List ZV} {h : ZH} {b : ZB2} (hX : zCl E mX11_size 11 false CT Rt X) (q : bk_X11_size_0 E CT X Rt ls st h b) : X 0 ls st h b := by
  refine hX k_X11_size_0 0 ok_X11_size_0 _ ?_ ls st h b q
  exact by
    intro t ls st h b q
    by_cases c : t = 9
    · subst c; rw [if_pos rfl] at q; exact bs_X11_size_9 hX q
    rw [if_neg c] at q
    by_cases c : t = 10
    · subst c; rw [if_pos rfl] at q; exact bs_X11_size_10 hX q
    rw [if_neg c] at q
    exact q
-- X11_size: cuts []
def k_X11_isCell_0 : List ZI := [(.iload_n 0, 1, (0, [0], [])), (.i2l, 1, (0, [], [])), (.lconst 0, 1, (0, [], [])), (.ldc2_w 65, 3, (63, [], [])), (.invokestatic 61, 3, (0, [120, 3, 0, 11], [])), (.ireturn, 1, (0, [], []))]
theorem ok_X11_isCell_0 : zOK cX11_isCell 11 false 1 k_X11_isCell_0 0 = true := zOK_by (by decide +kernel)
theorem rt_X11_isCell {g : Nat} {post : Option ZV → ZH → Prop} {h : ZH} {b : ZB2} {z : Int} : zRt mX11_isCell g post (some (.inl z)) h b = (post (some (.inl z)) h ∧ h.1.length = g ∧ z01 z) := rfl
def bk_X11_isCell_0 (E : ZE) (CT : Nat → ZC) (X : ZK) (Rt : ZR) (ls : ZL) (st : List ZV) (h : ZH) (b : ZB2) : Prop := zB E CT k_X11_isCell_0 0 ls st h b (fun t ls st h b => X t ls st h b) Rt
theorem bs_X11_isCell_0 {E : ZE} {CT : Nat → ZC} {X : ZK} {Rt : ZR} {ls : ZL} {st : List ZV} {h : ZH} {b : ZB2} (hX : zCl E mX11_isCell 11 false CT Rt X) (q : bk_X11_isCell_0 E CT X Rt ls st h b) : X 0 ls st h b := by
  refine hX k_X11_isCell_0 0 ok_X11_isCell_0 _ ?_ ls st h b q
  exact fun t ls st h b q => q
-- X11_isCell: cuts []
def k_X11_isHead_0 : List ZI := [(.iload_n 0, 1, (0, [0], [])), (.i2l, 1, (0, [], [])), (.lconst 0, 1, (0, [], [])), (.lconst 1, 1, (1, [], [])), (.invokestatic 61, 3, (0, [120, 3, 0, 11], [])), (.ireturn, 1, (0, [], []))]
theorem ok_X11_isHead_0 : zOK cX11_isHead 11 false 1 k_X11_isHead_0 0 = true := zOK_by (by decide +kernel)
theorem rt_X11_isHead {g : Nat} {post : Option ZV → ZH → Prop} {h : ZH} {b : ZB2} {z : Int} : zRt mX11_isHead g post (some (.inl z)) h b = (post (some (.inl z)) h ∧ h.1.length = g ∧ z01 z) := rfl
def bk_X11_isHead_0 (E : ZE) (CT : Nat → ZC) (X : ZK) (Rt : ZR) (ls : ZL) (st : List ZV) (h : ZH) (b : ZB2) : Prop := zB E CT k_X11_isHead_0 0 ls st h b (fun t ls st h b => X t ls st h b) Rt
theorem bs_X11_isHead_0 {E : ZE} {CT : Nat → ZC} {X : ZK} {Rt : ZR} {ls : ZL} {st : List ZV} {h : ZH} {b : ZB2} (hX : zCl E mX11_isHead 11 false CT Rt X) (q : bk_X11_isHead_0 E CT X Rt ls st h b) : X 0 ls st h b := by
  refine hX k_X11_isHead_0 0 ok_X11_isHead_0 _ ?_ ls st h b q
  exact fun t ls st h b q => q
-- X11_isHead: cuts []
def k_X11_isEngineer_0 : List ZI := [(.iload_n 1, 1, (0, [1], [])), (.i2l, 1, (0, [], [])), (.lconst 0, 1, (0, [], [])), (.aload_n 0, 1, (0, [0], [])), (.getfield 7, 3, (0, [11, 0], [])), (.iconst 0, 1, (0, [], [])), (.iaload, 1, (0, [], [])), (.iconst 1, 1, (0, [], [])), (.isub, 1, (0, [], [])), (.i2l, 1, (0, [], [])), (.invokestatic 61, 3, (0, [120, 3, 0, 11], [])), (.ireturn, 1, (0, [], []))]
theorem ok_X11_isEngineer_0 : zOK cX11_isEngineer 11 false 2 k_X11_isEngineer_0 0 = true := zOK_by (by decide +kernel)
theorem rt_X11_isEngineer {g : Nat} {post : Option ZV → ZH → Prop} {h : ZH} {b : ZB2} {z : Int} : zRt mX11_isEngineer g post (some (.inl z)) h b = (post (some (.inl z)) h ∧ h.1.length = g ∧ z01 z) := rfl
def bk_X11_isEngineer_0 (E : ZE) (CT : Nat → ZC) (X : ZK) (Rt : ZR) (ls : ZL) (st : List ZV) (h : ZH) (b : ZB2) : Prop := zB E CT k_X11_isEngineer_0 0 ls st h b (fun t ls st h b => X t ls st h b) Rt
theorem bs_X11_isEngineer_0 {E : ZE} {CT : Nat → ZC} {X : ZK} {Rt : ZR} {ls : ZL} {st : List ZV} {h : ZH} {b : ZB2} (hX : zCl E mX11_isEngineer 11 false CT Rt X) (q : bk_X11_isEngineer_0 E CT X Rt ls st h b) : X 0 ls st h b := by
  refine hX k_X11_isEngineer_0 0 ok_X11_isEngineer_0 _ ?_ ls st h b q
  exact fun t ls st h b q => q
-- X11_isEngineer: cuts []
def k_X11_of_0 : List ZI := [(.aload_n 0, 1, (0, [0], [])), (.getfield 7, 3, (0, [11, 0], [])), (.sipush 162, 3, (0, [], [])), (.iconst 3, 1, (0, [], [])), (.iload_n 1, 1, (0, [1], [])), (.imul, 1, (0, [], [])), (.iadd, 1, (0, [], [])), (.iload_n 2, 1, (0, [2], [])), (.iadd, 1, (0, [], [])), (.iaload, 1, (0, [], [])), (.ireturn, 1, (0, [], []))]
theorem ok_X11_of_0 : zOK cX11_of 11 false 3 k_X11_of_0 0 = true := zOK_by (by decide +kernel)
theorem rt_X11_of {g : Nat} {post : Option ZV → ZH → Prop} {h : ZH} {b : ZB2} {z : Int} : zRt mX11_of g post (some (.inl z)) h b = (post (some (.inl z)) h ∧ h.1.length = g) := by show (_ ∧ _ ∧ True) = _; simp
def bk_X11_of_0 (E : ZE) (CT : Nat → ZC) (X : ZK) (Rt : ZR) (ls : ZL) (st : List ZV) (h : ZH) (b : ZB2) : Prop := zB E CT k_X11_of_0 0 ls st h b (fun t ls st h b => X t ls st h b) Rt
theorem bs_X11_of_0 {E : ZE} {CT : Nat → ZC} {X : ZK} {Rt : ZR} {ls : ZL} {st : List ZV} {h : ZH} {b : ZB2} (hX : zCl E mX11_of 11 false CT Rt X) (q : bk_X11_of_0 E CT X Rt ls st h b) : X 0 ls st h b := by
  refine hX k_X11_of_0 0 ok_X11_of_0 _ ?_ ls st h b q
  exact fun t ls st h b q => q
-- X11_of: cuts []
def k_X11_its_0 : List ZI := [(.aload_n 0, 1, (0, [0], [])), (.getfield 7, 3, (0, [11, 0], [])), (.sipush 134, 3, (0, [], [])), (.iconst 4, 1, (0, [], [])), (.iload_n 1, 1, (0, [1], [])), (.imul, 1, (0, [], [])), (.iadd, 1, (0, [], [])), (.iload_n 2, 1, (0, [2], [])), (.iadd, 1, (0, [], [])), (.iaload, 1, (0, [], [])), (.ireturn, 1, (0, [], []))]
theorem ok_X11_its_0 : zOK cX11_its 11 false 3 k_X11_its_0 0 = true := zOK_by (by decide +kernel)
theorem rt_X11_its {g : Nat} {post : Option ZV → ZH → Prop} {h : ZH} {b : ZB2} {z : Int} : zRt mX11_its g post (some (.inl z)) h b = (post (some (.inl z)) h ∧ h.1.length = g) := by show (_ ∧ _ ∧ True) = _; simp
def bk_X11_its_0 (E : ZE) (CT : Nat → ZC) (X : ZK) (Rt : ZR) (ls : ZL) (st : List ZV) (h : ZH) (b : ZB2) : Prop := zB E CT k_X11_its_0 0 ls st h b (fun t ls st h b => X t ls st h b) Rt
theorem bs_X11_its_0 {E : ZE} {CT : Nat → ZC} {X : ZK} {Rt : ZR} {ls : ZL} {st : List ZV} {h : ZH} {b : ZB2} (hX : zCl E mX11_its 11 false CT Rt X) (q : bk_X11_its_0 E CT X Rt ls st h b) : X 0 ls st h b := by
  refine hX k_X11_its_0 0 ok_X11_its_0 _ ?_ ls st h b q
  exact fun t ls st h b q => q
-- X11_its: cuts []
def k_X11_above_0 : List ZI := [(.iload_n 0, 1, (0, [0], [])), (.iconst 3, 1, (0, [], [])), (.if_icmp .le 9, 3, (0, [11], [])), (.iload_n 0, 1, (0, [0], [])), (.iconst 3, 1, (0, [], [])), (.isub, 1, (0, [], [])), (.goto 4, 3, (0, [12], []))]
theorem ok_X11_above_0 : zOK cX11_above 11 false 1 k_X11_above_0 0 = true := zOK_by (by decide +kernel)
def k_X11_above_11 : List ZI := [(.iconst 0, 1, (0, [], []))]
theorem ok_X11_above_11 : zOK cX11_above 11 false 1 k_X11_above_11 11 = true := zOK_by (by decide +kernel)
def k_X11_above_12 : List ZI := [(.ireturn, 1, (0, [], []))]
theorem ok_X11_above_12 : zOK cX11_above 11 false 1 k_X11_above_12 12 = true := zOK_by (by decide +kernel)
theorem rt_X11_above {g : Nat} {post : Option ZV → ZH → Prop} {h : ZH} {b : ZB2} {z : Int} : zRt mX11_above g post (some (.inl z)) h b = (post (some (.inl z)) h ∧ h.1.length = g) := by show (_ ∧ _ ∧ True) = _; simp
def bk_X11_above_12 (E : ZE) (CT : Nat → ZC) (X : ZK) (Rt : ZR) (ls : ZL) (st : List ZV) (h : ZH) (b : ZB2) : Prop := zB E CT k_X11_above_12 12 ls st h b (fun t ls st h b => X t ls st h b) Rt
theorem bs_X11_above_12 {E : ZE} {CT : Nat → ZC} {X : ZK} {Rt : ZR} {ls : ZL} {st : List ZV} {h : ZH} {b : ZB2} (hX : zCl E mX11_above 11 false CT Rt X) (q : bk_X11_above_12 E CT X Rt ls st h b) : X 12 ls st h b := by
  refine hX k_X11_above_12 12 ok_X11_above_12 _ ?_ ls st h b q
  exact fun t ls st h b q => q
def bk_X11_above_11 (E : ZE) (CT : Nat → ZC) (X : ZK) (Rt : ZR) (ls : ZL) (st : List ZV) (h : ZH) (b : ZB2) : Prop := zB E CT k_X11_above_11 11 ls st h b (fun t ls st h b => if t = 12 then bk_X11_above_12 E CT X Rt ls st h b else X t ls st h b) Rt
theorem bs_X11_above_11 {E : ZE} {CT : Nat → ZC} {X : ZK} {Rt : ZR} {ls : ZL} {st : List ZV} {h : ZH} {b : ZB2} (hX : zCl E mX11_above 11 false CT Rt X) (q : bk_X11_above_11 E CT X Rt ls st h b) : X 11 ls st h b := by
  refine hX k_X11_above_11 11 ok_X11_above_11 _ ?_ ls st h b q
  exact by
    intro t ls st h b q
    by_cases c : t = 12
    · subst c; rw [if_pos rfl] at q; exact bs_X11_above_12 hX q
    rw [if_neg c] at q
    exact q
def bk_X11_above_0 (E : ZE) (CT : Nat → ZC) (X : ZK) (Rt : ZR) (ls : ZL) (st : List ZV) (h : ZH) (b : ZB2) : Prop := zB E CT k_X11_above_0 0 ls st h b (fun t ls st h b => if t = 11 then bk_X11_above_11 E CT X Rt ls st h b else if t = 12 then bk_X11_above_12 E CT X Rt ls st h b else X t ls st h b) Rt
theorem bs_X11_above_0 {E : ZE} {CT : Nat → ZC} {X : ZK} {Rt : ZR} {ls : ZL} {st : List ZV} {h : ZH} {b : ZB2} (hX : zCl E mX11_above 11 false CT Rt X) (q : bk_X11_above_0 E CT X Rt ls st h b) : X 0 ls st h b := by
  refine hX k_X11_above_0 0 ok_X11_above_0 _ ?_ ls st h b q
  exact by
    intro t ls st h b q
    by_cases c : t = 11
    · subst c; rw [if_pos rfl] at q; exact bs_X11_above_11 hX q
    rw [if_neg c] at q
    by_cases c : t = 12
    · subst c; rw [if_pos rfl] at q; exact bs_X11_above_12 hX q
    rw [if_neg c] at q
    exact q
-- X11_above: cuts []
def k_X11_becomes_0 : List ZI := [(.aload_n 0, 1, (0, [0], [])), (.getfield 7, 3, (0, [11, 0], [])), (.iload_n 1, 1, (0, [1], [])), (.iaload, 1, (0, [], [])), (.istore_n 3, 1, (0, [3], [])), (.aload_n 0, 1, (0, [0], [])), (.getfield 7, 3, (0, [11, 0], [])), (.iload_n 1, 1, (0, [1], [])), (.iload_n 2, 1, (0, [2], [])), (.iastore, 1, (0, [], [])), (.iload_n 3, 1, (0, [3], [])), (.ireturn, 1, (0, [], []))]
theorem ok_X11_becomes_0 : zOK cX11_becomes 11 false 4 k_X11_becomes_0 0 = true := zOK_by (by decide +kernel)
theorem rt_X11_becomes {g : Nat} {post : Option ZV → ZH → Prop} {h : ZH} {b : ZB2} {z : Int} : zRt mX11_becomes g post (some (.inl z)) h b = (post (some (.inl z)) h ∧ h.1.length = g) := by show (_ ∧ _ ∧ True) = _; simp
def bk_X11_becomes_0 (E : ZE) (CT : Nat → ZC) (X : ZK) (Rt : ZR) (ls : ZL) (st : List ZV) (h : ZH) (b : ZB2) : Prop := zB E CT k_X11_becomes_0 0 ls st h b (fun t ls st h b => X t ls st h b) Rt
theorem bs_X11_becomes_0 {E : ZE} {CT : Nat → ZC} {X : ZK} {Rt : ZR} {ls : ZL} {st : List ZV} {h : ZH} {b : ZB2} (hX : zCl E mX11_becomes 11 false CT Rt X) (q : bk_X11_becomes_0 E CT X Rt ls st h b) : X 0 ls st h b := by
  refine hX k_X11_becomes_0 0 ok_X11_becomes_0 _ ?_ ls st h b q
  exact fun t ls st h b q => q
-- X11_becomes: cuts []
def k_X11_finds_0 : List ZI := [(.aload_n 0, 1, (0, [0], [])), (.getfield 19, 3, (0, [11, 4], [])), (.iload_n 1, 1, (0, [1], [])), (.dup2, 1, (0, [], [])), (.iaload, 1, (0, [], [])), (.iconst 1, 1, (0, [], [])), (.iadd, 1, (0, [], [])), (.iastore, 1, (0, [], [])), (.ldc 60, 2, ((-1000000000), [], [])), (.iload_n 1, 1, (0, [1], [])), (.isub, 1, (0, [], [])), (.ireturn, 1, (0, [], []))]
theorem ok_X11_finds_0 : zOK cX11_finds 11 false 2 k_X11_finds_0 0 = true := zOK_by (by decide +kernel)
theorem rt_X11_finds {g : Nat} {post : Option ZV → ZH → Prop} {h : ZH} {b : ZB2} {z : Int} : zRt mX11_finds g post (some (.inl z)) h b = (post (some (.inl z)) h ∧ h.1.length = g) := by show (_ ∧ _ ∧ True) = _; simp
def bk_X11_finds_0 (E : ZE) (CT : Nat → ZC) (X : ZK) (Rt : ZR) (ls : ZL) (st : List ZV) (h : ZH) (b : ZB2) : Prop := zB E CT k_X11_finds_0 0 ls st h b (fun t ls st h b => X t ls st h b) Rt
theorem bs_X11_finds_0 {E : ZE} {CT : Nat → ZC} {X : ZK} {Rt : ZR} {ls : ZL} {st : List ZV} {h : ZH} {b : ZB2} (hX : zCl E mX11_finds 11 false CT Rt X) (q : bk_X11_finds_0 E CT X Rt ls st h b) : X 0 ls st h b := by
  refine hX k_X11_finds_0 0 ok_X11_finds_0 _ ?_ ls st h b q
  exact fun t ls st h b q => q
-- X11_finds: cuts []
def B_in (v : Int) (lo : Int) (hi : Int) (post : Option ZV → Prop) : Prop := post (some (.inl (zbo (zr8 lo ≤ zr8 v ∧ zr8 v ≤ zr8 hi))))
def C_in : ZC := fun as h post => match as with
  | [.inr (.inl v), .inr (.inl lo), .inr (.inl hi)] => B_in v lo hi (fun v => post v h)
  | _ => False
theorem r_in {v : Int} {lo : Int} {hi : Int} {h : ZH} {post : Option ZV → ZH → Prop} : C_in [.inr (.inl v), .inr (.inl lo), .inr (.inl hi)] h post = B_in v lo hi (fun v => post v h) := rfl
def ct_in : Nat → ZC := fun n => fun _ _ _ => False
theorem c_in {E : ZE} {d : Nat} (hd : 1 ≤ d) : zMet E d mX11_in C_in := by
  refine zmet_of (o := 11) (ini := false) (CT := ct_in) gd_X11_in rfl (fun h => by cases h) (by omega) ?_ ?_
  · intro n as h post hh
    unfold ct_in at hh
    exact hh.elim
  intro as h post hC
  match as, hC with
  | [.inr (.inl v), .inr (.inl lo), .inr (.inl hi)], hC =>
    refine ⟨Nat.le_of_ble_eq_true rfl, fun X hX => bs_X11_in_0 hX ?_⟩
    have hC : B_in v lo hi (fun v => post v h) := hC
    simp only [B_in] at hC
    show bk_X11_in_0 E ct_in X _ [some (.inr (.inl v)), none, some (.inr (.inl lo)), none, some (.inr (.inl hi)), none] [] h (0, 0)
    simp only [bk_X11_in_0, k_X11_in_0, bk_X11_in_17, k_X11_in_17, bk_X11_in_18, k_X11_in_18, ↓e_rk1, ↓e_rk0, ↓e_sk0, ↓e_sks, ↓e_ldi0, ↓e_ldis, ↓e_ldl0, ↓e_ldls, ↓e_lda0, ↓e_ldas, ↓e_ok0, ↓e_okss, ↓e_ok1i, ↓e_ok1r, ↓e_ok1n, ↓e_sti, ↓e_sta, ↓e_1, ↓e_2, ↓e_l1, ↓e_l2, ↓e_li, ↓e_sw0, ↓e_sws, ↓e_ceq, ↓e_cne, ↓e_clt, ↓e_cge, ↓e_cgt, ↓e_cle, ↓e_nil, ↓e_cons, ↓e_iconst, ↓e_bipush, ↓e_sipush, ↓e_ldc, ↓e_ldcw, ↓e_ldc2, ↓e_lconst, ↓e_iloadn, ↓e_iload, ↓e_lloadn, ↓e_lload, ↓e_aloadn, ↓e_aload, ↓e_istoren, ↓e_istore, ↓e_astoren, ↓e_astore, ↓e_add, ↓e_iinc, ↓e_iadd, ↓e_isub, ↓e_imul, ↓e_iand, ↓e_ior, ↓e_ixor, ↓e_ishl, ↓e_iushr, ↓e_idiv, ↓e_irem, ↓e_ineg, ↓e_i2l, ↓e_i2b, ↓e_i2s, ↓e_l2i, ↓e_land, ↓e_lor, ↓e_lshl, ↓e_lshr, ↓e_lushr, ↓e_lcmp, ↓e_dupi, ↓e_dupr, ↓e_popi, ↓e_dup2, ↓e_goto, ↓e_if, ↓e_icmp, ↓e_tsw, ↓e_lsw, ↓e_getf, ↓e_putf, ↓e_gets, ↓e_iald, ↓e_cald, ↓e_iast, ↓e_aald, ↓e_aast, ↓e_len, ↓e_copy, ↓e_abs, ↓e_max, ↓e_min, ↓e_iret, ↓e_aret, ↓e_vret, ↓e_is0, ↓e_is1, ↓e_is2, ↓e_is3, ↓e_is4, ↓e_iv1, ↓e_iv2, ↓e_iv3, ↓e_iv4, ↓e_iv5, ↓e_iv6, ↓rt_X11_in, ↓reduceIte, Nat.reduceAdd, Nat.reduceEqDiff, ↓zcl0, ↓zclv, List.map_nil, List.sum_nil, List.map_cons, List.sum_cons, zcat, true_and, and_true, Nat.reduceLeDiff, Nat.reduceAdd, eq_self, forall_const, e_ok0, e_okss, e_ok1i, e_ok1r, e_ok1n, zl_0, zl_1, Int.reduceToNat, Int.reduceAdd, Int.reduceMul, Int.reduceSub, Int.reduceNeg, Int.reduceLT, Int.reduceLE, Int.reduceEq, not_false_eq_true, not_true_eq_false, false_implies, true_implies, implies_true, Int.reduceDiv, Int.reduceMod, zr8_zr, zr_zbo, z01_zbo, z01_0, z01_1, zbo_eq0, zup_eq, zup_o, zup_k, ne_eq, zcmpL_zr, zcmpL_lt, zcmpL_gt]
    refine ⟨fun c1 => ?_, fun c1 => ⟨fun c2 => ?_, fun c2 => ?_⟩⟩
    · rw [zbo_f (by omega)] at hC; exact hC
    · rw [zbo_f (by omega)] at hC; exact hC
    · rw [zbo_t (by omega)] at hC; exact hC
def B_held0 (v : Int) (lo : Int) (hi : Int) (post : Option ZV → Prop) : Prop := rg lo ∧ rg hi ∧ post (some (.inl (if zr v < lo then lo else if hi < zr v then hi else v)))
def C_held0 : ZC := fun as h post => match as with
  | [.inl v, .inl lo, .inl hi] => B_held0 v lo hi (fun v => post v h)
  | _ => False
theorem r_held0 {v : Int} {lo : Int} {hi : Int} {h : ZH} {post : Option ZV → ZH → Prop} : C_held0 [.inl v, .inl lo, .inl hi] h post = B_held0 v lo hi (fun v => post v h) := rfl
def ct_held0 : Nat → ZC := fun n => fun _ _ _ => False
theorem c_held0 {E : ZE} {d : Nat} (hd : 1 ≤ d) : zMet E d mX11_held C_held0 := by
  refine zmet_of (o := 11) (ini := false) (CT := ct_held0) gd_X11_held rfl (fun h => by cases h) (by omega) ?_ ?_
  · intro n as h post hh
    unfold ct_held0 at hh
    exact hh.elim
  intro as h post hC
  match as, hC with
  | [.inl v, .inl lo, .inl hi], hC =>
    refine ⟨Nat.le_of_ble_eq_true rfl, fun X hX => bs_X11_held_0 hX ?_⟩
    have hC : B_held0 v lo hi (fun v => post v h) := hC
    simp only [B_held0] at hC
    show bk_X11_held_0 E ct_held0 X _ [some (.inl v), some (.inl lo), some (.inl hi)] [] h (0, 0)
    obtain ⟨h2, h3, hC⟩ := hC
    simp only [bk_X11_held_0, k_X11_held_0, bk_X11_held_9, k_X11_held_9, bk_X11_held_18, k_X11_held_18, bk_X11_held_19, k_X11_held_19, ↓e_rk1, ↓e_rk0, ↓e_sk0, ↓e_sks, ↓e_ldi0, ↓e_ldis, ↓e_ldl0, ↓e_ldls, ↓e_lda0, ↓e_ldas, ↓e_ok0, ↓e_okss, ↓e_ok1i, ↓e_ok1r, ↓e_ok1n, ↓e_sti, ↓e_sta, ↓e_1, ↓e_2, ↓e_l1, ↓e_l2, ↓e_li, ↓e_sw0, ↓e_sws, ↓e_ceq, ↓e_cne, ↓e_clt, ↓e_cge, ↓e_cgt, ↓e_cle, ↓e_nil, ↓e_cons, ↓e_iconst, ↓e_bipush, ↓e_sipush, ↓e_ldc, ↓e_ldcw, ↓e_ldc2, ↓e_lconst, ↓e_iloadn, ↓e_iload, ↓e_lloadn, ↓e_lload, ↓e_aloadn, ↓e_aload, ↓e_istoren, ↓e_istore, ↓e_astoren, ↓e_astore, ↓e_add, ↓e_iinc, ↓e_iadd, ↓e_isub, ↓e_imul, ↓e_iand, ↓e_ior, ↓e_ixor, ↓e_ishl, ↓e_iushr, ↓e_idiv, ↓e_irem, ↓e_ineg, ↓e_i2l, ↓e_i2b, ↓e_i2s, ↓e_l2i, ↓e_land, ↓e_lor, ↓e_lshl, ↓e_lshr, ↓e_lushr, ↓e_lcmp, ↓e_dupi, ↓e_dupr, ↓e_popi, ↓e_dup2, ↓e_goto, ↓e_if, ↓e_icmp, ↓e_tsw, ↓e_lsw, ↓e_getf, ↓e_putf, ↓e_gets, ↓e_iald, ↓e_cald, ↓e_iast, ↓e_aald, ↓e_aast, ↓e_len, ↓e_copy, ↓e_abs, ↓e_max, ↓e_min, ↓e_iret, ↓e_aret, ↓e_vret, ↓e_is0, ↓e_is1, ↓e_is2, ↓e_is3, ↓e_is4, ↓e_iv1, ↓e_iv2, ↓e_iv3, ↓e_iv4, ↓e_iv5, ↓e_iv6, ↓rt_X11_held, ↓reduceIte, Nat.reduceAdd, Nat.reduceEqDiff, ↓zcl0, ↓zclv, List.map_nil, List.sum_nil, List.map_cons, List.sum_cons, zcat, true_and, and_true, Nat.reduceLeDiff, Nat.reduceAdd, eq_self, forall_const, e_ok0, e_okss, e_ok1i, e_ok1r, e_ok1n, Int.reduceToNat, Int.reduceAdd, Int.reduceMul, Int.reduceSub, Int.reduceNeg, Int.reduceLT, Int.reduceLE, Int.reduceEq, not_false_eq_true, not_true_eq_false, false_implies, true_implies, implies_true, Int.reduceDiv, Int.reduceMod, zr8_zr, zr_zbo, z01_zbo, z01_0, z01_1, zbo_eq0, zup_eq, zup_o, zup_k, ne_eq, zr_rg, h2, zr_rg, h3]
    refine ⟨fun c => zpost hC ?_, fun c => ⟨fun c2 => zpost hC ?_, fun c2 => zpost hC ?_⟩⟩
    · rw [if_pos c]
    · rw [if_neg c, if_pos c2]
    · rw [if_neg c, if_neg c2]
def B_held (v : Int) (lo : Int) (hi : Int) (post : Option ZV → Prop) : Prop := rg lo ∧ rg hi ∧ post (some (.inl (hd3 (zr v) lo hi)))
def C_held : ZC := fun as h post => match as with
  | [.inl v, .inl lo, .inl hi] => B_held v lo hi (fun v => post v h)
  | _ => False
theorem r_held {v : Int} {lo : Int} {hi : Int} {h : ZH} {post : Option ZV → ZH → Prop} : C_held [.inl v, .inl lo, .inl hi] h post = B_held v lo hi (fun v => post v h) := rfl
-- depth held 1
theorem c_held {E : ZE} {d : Nat} (hd : 1 ≤ d) : zMet E d mX11_held C_held := by
  refine zmet_norm (c_held0 hd) ?_
  intro as h post hC
  match as, hC with
  | [.inl v, .inl lo, .inl hi], hC =>
    obtain ⟨h1, h2, hC⟩ := hC
    refine ⟨h1, h2, _, zc_zr ?_, hC⟩
    unfold hd3
    rw [zr_ite, zr_ite, zr_ite, zr_ite, zr_zr]
def B_size (v : Int) (post : Option ZV → Prop) : Prop := rg v ∧ post (some (.inl (sz v)))
def C_size : ZC := fun as h post => match as with
  | [.inl v] => B_size v (fun v => post v h)
  | _ => False
theorem r_size {v : Int} {h : ZH} {post : Option ZV → ZH → Prop} : C_size [.inl v] h post = B_size v (fun v => post v h) := rfl
def ct_size : Nat → ZC := fun n => fun _ _ _ => False
theorem c_size {E : ZE} {d : Nat} (hd : 1 ≤ d) : zMet E d mX11_size C_size := by
  refine zmet_of (o := 11) (ini := false) (CT := ct_size) gd_X11_size rfl (fun h => by cases h) (by omega) ?_ ?_
  · intro n as h post hh
    unfold ct_size at hh
    exact hh.elim
  intro as h post hC
  match as, hC with
  | [.inl v], hC =>
    refine ⟨Nat.le_of_ble_eq_true rfl, fun X hX => bs_X11_size_0 hX ?_⟩
    have hC : B_size v (fun v => post v h) := hC
    simp only [B_size] at hC
    show bk_X11_size_0 E ct_size X _ [some (.inl v)] [] h (0, 0)
    obtain ⟨h1, hC⟩ := hC
    simp only [bk_X11_size_0, k_X11_size_0, bk_X11_size_9, k_X11_size_9, bk_X11_size_10, k_X11_size_10, ↓e_rk1, ↓e_rk0, ↓e_sk0, ↓e_sks, ↓e_ldi0, ↓e_ldis, ↓e_ldl0, ↓e_ldls, ↓e_lda0, ↓e_ldas, ↓e_ok0, ↓e_okss, ↓e_ok1i, ↓e_ok1r, ↓e_ok1n, ↓e_sti, ↓e_sta, ↓e_1, ↓e_2, ↓e_l1, ↓e_l2, ↓e_li, ↓e_sw0, ↓e_sws, ↓e_ceq, ↓e_cne, ↓e_clt, ↓e_cge, ↓e_cgt, ↓e_cle, ↓e_nil, ↓e_cons, ↓e_iconst, ↓e_bipush, ↓e_sipush, ↓e_ldc, ↓e_ldcw, ↓e_ldc2, ↓e_lconst, ↓e_iloadn, ↓e_iload, ↓e_lloadn, ↓e_lload, ↓e_aloadn, ↓e_aload, ↓e_istoren, ↓e_istore, ↓e_astoren, ↓e_astore, ↓e_add, ↓e_iinc, ↓e_iadd, ↓e_isub, ↓e_imul, ↓e_iand, ↓e_ior, ↓e_ixor, ↓e_ishl, ↓e_iushr, ↓e_idiv, ↓e_irem, ↓e_ineg, ↓e_i2l, ↓e_i2b, ↓e_i2s, ↓e_l2i, ↓e_land, ↓e_lor, ↓e_lshl, ↓e_lshr, ↓e_lushr, ↓e_lcmp, ↓e_dupi, ↓e_dupr, ↓e_popi, ↓e_dup2, ↓e_goto, ↓e_if, ↓e_icmp, ↓e_tsw, ↓e_lsw, ↓e_getf, ↓e_putf, ↓e_gets, ↓e_iald, ↓e_cald, ↓e_iast, ↓e_aald, ↓e_aast, ↓e_len, ↓e_copy, ↓e_abs, ↓e_max, ↓e_min, ↓e_iret, ↓e_aret, ↓e_vret, ↓e_is0, ↓e_is1, ↓e_is2, ↓e_is3, ↓e_is4, ↓e_iv1, ↓e_iv2, ↓e_iv3, ↓e_iv4, ↓e_iv5, ↓e_iv6, ↓rt_X11_size, ↓reduceIte, Nat.reduceAdd, Nat.reduceEqDiff, ↓zcl0, ↓zclv, List.map_nil, List.sum_nil, List.map_cons, List.sum_cons, zcat, true_and, and_true, Nat.reduceLeDiff, Nat.reduceAdd, eq_self, forall_const, e_ok0, e_okss, e_ok1i, e_ok1r, e_ok1n, Int.reduceToNat, Int.reduceAdd, Int.reduceMul, Int.reduceSub, Int.reduceNeg, Int.reduceLT, Int.reduceLE, Int.reduceEq, not_false_eq_true, not_true_eq_false, false_implies, true_implies, implies_true, Int.reduceDiv, Int.reduceMod, zr8_zr, zr_zbo, z01_zbo, z01_0, z01_1, zbo_eq0, zup_eq, zup_o, zup_k, ne_eq, zr_rg, h1]
    refine ⟨fun c => zpost hC ?_, fun c => zpost hC ?_⟩ <;> (unfold sz; split <;> omega)
def B_isCell (c : Int) (post : Option ZV → Prop) : Prop := rg c ∧ post (some (.inl (zbo (0 ≤ c ∧ c ≤ 63))))
def C_isCell : ZC := fun as h post => match as with
  | [.inl c] => B_isCell c (fun v => post v h)
  | _ => False
theorem r_isCell {c : Int} {h : ZH} {post : Option ZV → ZH → Prop} : C_isCell [.inl c] h post = B_isCell c (fun v => post v h) := rfl
def ct_isCell : Nat → ZC := fun n => if n = 120 then C_in else fun _ _ _ => False
theorem ct_isCell_in {as : List ZV} {h : ZH} {post : Option ZV → ZH → Prop} : ct_isCell 120 as h post = C_in as h post := rfl
theorem c_isCell {E : ZE} {d : Nat} (hd : 2 ≤ d) : zMet E d mX11_isCell C_isCell := by
  refine zmet_of (o := 11) (ini := false) (CT := ct_isCell) gd_X11_isCell rfl (fun h => by cases h) (by omega) ?_ ?_
  · intro n as h post hh
    unfold ct_isCell at hh
    by_cases c : n = 120
    · subst c; exact ⟨gd_X11_in, 1, by omega, c_in (by omega)⟩
    rw [if_neg c] at hh
    exact hh.elim
  intro as h post hC
  match as, hC with
  | [.inl c], hC =>
    refine ⟨Nat.le_of_ble_eq_true rfl, fun X hX => bs_X11_isCell_0 hX ?_⟩
    have hC : B_isCell c (fun v => post v h) := hC
    simp only [B_isCell] at hC
    show bk_X11_isCell_0 E ct_isCell X _ [some (.inl c)] [] h (0, 0)
    obtain ⟨h1, hC⟩ := hC
    simp only [bk_X11_isCell_0, k_X11_isCell_0, ↓e_rk1, ↓e_rk0, ↓e_sk0, ↓e_sks, ↓e_ldi0, ↓e_ldis, ↓e_ldl0, ↓e_ldls, ↓e_lda0, ↓e_ldas, ↓e_ok0, ↓e_okss, ↓e_ok1i, ↓e_ok1r, ↓e_ok1n, ↓e_sti, ↓e_sta, ↓e_1, ↓e_2, ↓e_l1, ↓e_l2, ↓e_li, ↓e_sw0, ↓e_sws, ↓e_ceq, ↓e_cne, ↓e_clt, ↓e_cge, ↓e_cgt, ↓e_cle, ↓e_nil, ↓e_cons, ↓e_iconst, ↓e_bipush, ↓e_sipush, ↓e_ldc, ↓e_ldcw, ↓e_ldc2, ↓e_lconst, ↓e_iloadn, ↓e_iload, ↓e_lloadn, ↓e_lload, ↓e_aloadn, ↓e_aload, ↓e_istoren, ↓e_istore, ↓e_astoren, ↓e_astore, ↓e_add, ↓e_iinc, ↓e_iadd, ↓e_isub, ↓e_imul, ↓e_iand, ↓e_ior, ↓e_ixor, ↓e_ishl, ↓e_iushr, ↓e_idiv, ↓e_irem, ↓e_ineg, ↓e_i2l, ↓e_i2b, ↓e_i2s, ↓e_l2i, ↓e_land, ↓e_lor, ↓e_lshl, ↓e_lshr, ↓e_lushr, ↓e_lcmp, ↓e_dupi, ↓e_dupr, ↓e_popi, ↓e_dup2, ↓e_goto, ↓e_if, ↓e_icmp, ↓e_tsw, ↓e_lsw, ↓e_getf, ↓e_putf, ↓e_gets, ↓e_iald, ↓e_cald, ↓e_iast, ↓e_aald, ↓e_aast, ↓e_len, ↓e_copy, ↓e_abs, ↓e_max, ↓e_min, ↓e_iret, ↓e_aret, ↓e_vret, ↓e_is0, ↓e_is1, ↓e_is2, ↓e_is3, ↓e_is4, ↓e_iv1, ↓e_iv2, ↓e_iv3, ↓e_iv4, ↓e_iv5, ↓e_iv6, ↓rt_X11_isCell, ↓reduceIte, Nat.reduceAdd, Nat.reduceEqDiff, ↓zcl0, ↓zclv, List.map_nil, List.sum_nil, List.map_cons, List.sum_cons, zcat, true_and, and_true, Nat.reduceLeDiff, Nat.reduceAdd, eq_self, forall_const, e_ok0, e_okss, e_ok1i, e_ok1r, e_ok1n, zq_0, zq_63, Int.reduceToNat, Int.reduceAdd, Int.reduceMul, Int.reduceSub, Int.reduceNeg, Int.reduceLT, Int.reduceLE, Int.reduceEq, not_false_eq_true, not_true_eq_false, false_implies, true_implies, implies_true, Int.reduceDiv, Int.reduceMod, zr8_zr, zr_zbo, z01_zbo, z01_0, z01_1, zbo_eq0, zup_eq, zup_o, zup_k, ne_eq, ↓ct_isCell_in, ↓r_in, ↓B_in, zr_rg, h1, zr8_zr, zr_zbo, zbo_01, zr8_rg, h1]
    exact hC
def B_isHead (c : Int) (post : Option ZV → Prop) : Prop := rg c ∧ post (some (.inl (zbo (0 ≤ c ∧ c ≤ 1))))
def C_isHead : ZC := fun as h post => match as with
  | [.inl c] => B_isHead c (fun v => post v h)
  | _ => False
theorem r_isHead {c : Int} {h : ZH} {post : Option ZV → ZH → Prop} : C_isHead [.inl c] h post = B_isHead c (fun v => post v h) := rfl
def ct_isHead : Nat → ZC := fun n => if n = 120 then C_in else fun _ _ _ => False
theorem ct_isHead_in {as : List ZV} {h : ZH} {post : Option ZV → ZH → Prop} : ct_isHead 120 as h post = C_in as h post := rfl
theorem c_isHead {E : ZE} {d : Nat} (hd : 2 ≤ d) : zMet E d mX11_isHead C_isHead := by
  refine zmet_of (o := 11) (ini := false) (CT := ct_isHead) gd_X11_isHead rfl (fun h => by cases h) (by omega) ?_ ?_
  · intro n as h post hh
    unfold ct_isHead at hh
    by_cases c : n = 120
    · subst c; exact ⟨gd_X11_in, 1, by omega, c_in (by omega)⟩
    rw [if_neg c] at hh
    exact hh.elim
  intro as h post hC
  match as, hC with
  | [.inl c], hC =>
    refine ⟨Nat.le_of_ble_eq_true rfl, fun X hX => bs_X11_isHead_0 hX ?_⟩
    have hC : B_isHead c (fun v => post v h) := hC
    simp only [B_isHead] at hC
    show bk_X11_isHead_0 E ct_isHead X _ [some (.inl c)] [] h (0, 0)
    obtain ⟨h1, hC⟩ := hC
    simp only [bk_X11_isHead_0, k_X11_isHead_0, ↓e_rk1, ↓e_rk0, ↓e_sk0, ↓e_sks, ↓e_ldi0, ↓e_ldis, ↓e_ldl0, ↓e_ldls, ↓e_lda0, ↓e_ldas, ↓e_ok0, ↓e_okss, ↓e_ok1i, ↓e_ok1r, ↓e_ok1n, ↓e_sti, ↓e_sta, ↓e_1, ↓e_2, ↓e_l1, ↓e_l2, ↓e_li, ↓e_sw0, ↓e_sws, ↓e_ceq, ↓e_cne, ↓e_clt, ↓e_cge, ↓e_cgt, ↓e_cle, ↓e_nil, ↓e_cons, ↓e_iconst, ↓e_bipush, ↓e_sipush, ↓e_ldc, ↓e_ldcw, ↓e_ldc2, ↓e_lconst, ↓e_iloadn, ↓e_iload, ↓e_lloadn, ↓e_lload, ↓e_aloadn, ↓e_aload, ↓e_istoren, ↓e_istore, ↓e_astoren, ↓e_astore, ↓e_add, ↓e_iinc, ↓e_iadd, ↓e_isub, ↓e_imul, ↓e_iand, ↓e_ior, ↓e_ixor, ↓e_ishl, ↓e_iushr, ↓e_idiv, ↓e_irem, ↓e_ineg, ↓e_i2l, ↓e_i2b, ↓e_i2s, ↓e_l2i, ↓e_land, ↓e_lor, ↓e_lshl, ↓e_lshr, ↓e_lushr, ↓e_lcmp, ↓e_dupi, ↓e_dupr, ↓e_popi, ↓e_dup2, ↓e_goto, ↓e_if, ↓e_icmp, ↓e_tsw, ↓e_lsw, ↓e_getf, ↓e_putf, ↓e_gets, ↓e_iald, ↓e_cald, ↓e_iast, ↓e_aald, ↓e_aast, ↓e_len, ↓e_copy, ↓e_abs, ↓e_max, ↓e_min, ↓e_iret, ↓e_aret, ↓e_vret, ↓e_is0, ↓e_is1, ↓e_is2, ↓e_is3, ↓e_is4, ↓e_iv1, ↓e_iv2, ↓e_iv3, ↓e_iv4, ↓e_iv5, ↓e_iv6, ↓rt_X11_isHead, ↓reduceIte, Nat.reduceAdd, Nat.reduceEqDiff, ↓zcl0, ↓zclv, List.map_nil, List.sum_nil, List.map_cons, List.sum_cons, zcat, true_and, and_true, Nat.reduceLeDiff, Nat.reduceAdd, eq_self, forall_const, e_ok0, e_okss, e_ok1i, e_ok1r, e_ok1n, zq_0, zq_1, Int.reduceToNat, Int.reduceAdd, Int.reduceMul, Int.reduceSub, Int.reduceNeg, Int.reduceLT, Int.reduceLE, Int.reduceEq, not_false_eq_true, not_true_eq_false, false_implies, true_implies, implies_true, Int.reduceDiv, Int.reduceMod, zr8_zr, zr_zbo, z01_zbo, z01_0, z01_1, zbo_eq0, zup_eq, zup_o, zup_k, ne_eq, ↓ct_isHead_in, ↓r_in, ↓B_in, zr_rg, h1, zr8_zr, zr_zbo, zbo_01, zr8_rg, h1]
    exact hC
def B_of (e : Int) (w : Int) (M : Nat → Nat → Int) (post : Option ZV → (Nat → Nat → Int) → Prop) : Prop := 0 ≤ e ∧ e < 8 ∧ 0 ≤ w ∧ w < 3 ∧ post (some (.inl (M 88 (162 + 3 * e + w).toNat))) M
def C_of : ZC := fun as h post => match as with
  | [.inr (.inr (.inl 87)), .inl e, .inl w] => h.1 = zG ∧ B_of e w h.2 (fun v M => post v (zG, M))
  | _ => False
theorem r_of {e : Int} {w : Int} {M : Nat → Nat → Int} {post : Option ZV → ZH → Prop} : C_of [.inr (.inr (.inl 87)), .inl e, .inl w] (zG, M) post = B_of e w M (fun v M => post v (zG, M)) := by show (zG = zG ∧ _) = _; simp
def ct_of : Nat → ZC := fun n => fun _ _ _ => False
theorem c_of {E : ZE} {d : Nat} (hd : 1 ≤ d) : zMet E d mX11_of C_of := by
  refine zmet_of (o := 11) (ini := false) (CT := ct_of) gd_X11_of rfl (fun h => by cases h) (by omega) ?_ ?_
  · intro n as h post hh
    unfold ct_of at hh
    exact hh.elim
  intro as h post hC
  match as, hC with
  | [.inr (.inr (.inl 87)), .inl e, .inl w], hC =>
    refine ⟨Nat.le_of_ble_eq_true rfl, fun X hX => bs_X11_of_0 hX ?_⟩
    obtain ⟨G, M⟩ := h
    obtain ⟨hG, hC⟩ := hC
    dsimp only at hG
    subst hG
    simp only [B_of] at hC
    show bk_X11_of_0 E ct_of X _ [some (.inr (.inr (.inl 87))), some (.inl e), some (.inl w)] [] (zG, M) (0, 0)
    obtain ⟨h1, h2, h3, h4, hC⟩ := hC
    have hz : zr (162 + 3 * e + w) = 162 + 3 * e + w := zr_of (by omega) (by omega)
    simp only [bk_X11_of_0, k_X11_of_0, ↓e_rk1, ↓e_rk0, ↓e_sk0, ↓e_sks, ↓e_ldi0, ↓e_ldis, ↓e_ldl0, ↓e_ldls, ↓e_lda0, ↓e_ldas, ↓e_ok0, ↓e_okss, ↓e_ok1i, ↓e_ok1r, ↓e_ok1n, ↓e_sti, ↓e_sta, ↓e_1, ↓e_2, ↓e_l1, ↓e_l2, ↓e_li, ↓e_sw0, ↓e_sws, ↓e_ceq, ↓e_cne, ↓e_clt, ↓e_cge, ↓e_cgt, ↓e_cle, ↓e_nil, ↓e_cons, ↓e_iconst, ↓e_bipush, ↓e_sipush, ↓e_ldc, ↓e_ldcw, ↓e_ldc2, ↓e_lconst, ↓e_iloadn, ↓e_iload, ↓e_lloadn, ↓e_lload, ↓e_aloadn, ↓e_aload, ↓e_istoren, ↓e_istore, ↓e_astoren, ↓e_astore, ↓e_add, ↓e_iinc, ↓e_iadd, ↓e_isub, ↓e_imul, ↓e_iand, ↓e_ior, ↓e_ixor, ↓e_ishl, ↓e_iushr, ↓e_idiv, ↓e_irem, ↓e_ineg, ↓e_i2l, ↓e_i2b, ↓e_i2s, ↓e_l2i, ↓e_land, ↓e_lor, ↓e_lshl, ↓e_lshr, ↓e_lushr, ↓e_lcmp, ↓e_dupi, ↓e_dupr, ↓e_popi, ↓e_dup2, ↓e_goto, ↓e_if, ↓e_icmp, ↓e_tsw, ↓e_lsw, ↓e_getf, ↓e_putf, ↓e_gets, ↓e_iald, ↓e_cald, ↓e_iast, ↓e_aald, ↓e_aast, ↓e_len, ↓e_copy, ↓e_abs, ↓e_max, ↓e_min, ↓e_iret, ↓e_aret, ↓e_vret, ↓e_is0, ↓e_is1, ↓e_is2, ↓e_is3, ↓e_is4, ↓e_iv1, ↓e_iv2, ↓e_iv3, ↓e_iv4, ↓e_iv5, ↓e_iv6, ↓rt_X11_of, ↓reduceIte, Nat.reduceAdd, Nat.reduceEqDiff, ↓zcl0, ↓zclv, List.map_nil, List.sum_nil, List.map_cons, List.sum_cons, zcat, true_and, and_true, Nat.reduceLeDiff, Nat.reduceAdd, eq_self, forall_const, e_ok0, e_okss, e_ok1i, e_ok1r, e_ok1n, zl_3, zl_162, Int.reduceToNat, Int.reduceAdd, Int.reduceMul, Int.reduceSub, Int.reduceNeg, Int.reduceLT, Int.reduceLE, Int.reduceEq, not_false_eq_true, not_true_eq_false, false_implies, true_implies, implies_true, Int.reduceDiv, Int.reduceMod, zr8_zr, zr_zbo, z01_zbo, z01_0, z01_1, zbo_eq0, zup_eq, zup_o, zup_k, ne_eq, ↓v_87, ↓g_87_0, ↓l_88, ↓s_88, ↓n_88, ↓g_87_1, ↓l_89, ↓s_89, ↓n_89, ↓g_87_2, ↓l_90, ↓s_90, ↓n_90, ↓g_87_3, ↓p_87_3, ↓g_87_4, ↓l_91, ↓s_91, ↓n_91, ↓g_87_5, ↓p_87_5, ↓g_87_6, ↓p_87_6, ↓g_87_7, ↓p_87_7, ↓g_87_8, ↓p_87_8, ↓g_87_9, ↓p_87_9, ↓g_87_10, ↓p_87_10, ↓g_87_11, ↓l_92, ↓s_92, ↓n_92, ↓g_87_12, ↓l_93, ↓s_93, ↓n_93, ↓g_87_13, ↓p_87_13, ↓g_87_14, ↓l_94, ↓s_94, ↓n_94, ↓g_87_15, ↓p_87_15, ↓g_87_16, ↓l_95, ↓s_95, ↓n_95, ↓g_87_17, ↓l_96, ↓s_96, ↓n_96, ↓g_87_18, ↓l_97, ↓s_97, ↓n_97, ↓g_87_19, ↓p_87_19, ↓g_87_20, ↓p_87_20, ↓g_87_21, ↓l_98, ↓s_98, ↓n_98, ↓g_87_22, ↓l_99, ↓s_99, ↓n_99, ↓g_87_23, ↓l_100, ↓s_100, ↓n_100, ↓g_87_24, ↓l_101, ↓s_101, ↓n_101, hz]
    exact ⟨by omega, by omega, hC⟩
def B_its (e : Int) (w : Int) (M : Nat → Nat → Int) (post : Option ZV → (Nat → Nat → Int) → Prop) : Prop := 0 ≤ e ∧ e < 2 ∧ 0 ≤ w ∧ w < 4 ∧ post (some (.inl (M 88 (134 + 4 * e + w).toNat))) M
def C_its : ZC := fun as h post => match as with
  | [.inr (.inr (.inl 87)), .inl e, .inl w] => h.1 = zG ∧ B_its e w h.2 (fun v M => post v (zG, M))
  | _ => False
theorem r_its {e : Int} {w : Int} {M : Nat → Nat → Int} {post : Option ZV → ZH → Prop} : C_its [.inr (.inr (.inl 87)), .inl e, .inl w] (zG, M) post = B_its e w M (fun v M => post v (zG, M)) := by show (zG = zG ∧ _) = _; simp
def ct_its : Nat → ZC := fun n => fun _ _ _ => False
theorem c_its {E : ZE} {d : Nat} (hd : 1 ≤ d) : zMet E d mX11_its C_its := by
  refine zmet_of (o := 11) (ini := false) (CT := ct_its) gd_X11_its rfl (fun h => by cases h) (by omega) ?_ ?_
  · intro n as h post hh
    unfold ct_its at hh
    exact hh.elim
  intro as h post hC
  match as, hC with
  | [.inr (.inr (.inl 87)), .inl e, .inl w], hC =>
    refine ⟨Nat.le_of_ble_eq_true rfl, fun X hX => bs_X11_its_0 hX ?_⟩
    obtain ⟨G, M⟩ := h
    obtain ⟨hG, hC⟩ := hC
    dsimp only at hG
    subst hG
    simp only [B_its] at hC
    show bk_X11_its_0 E ct_its X _ [some (.inr (.inr (.inl 87))), some (.inl e), some (.inl w)] [] (zG, M) (0, 0)
    obtain ⟨h1, h2, h3, h4, hC⟩ := hC
    have hz : zr (134 + 4 * e + w) = 134 + 4 * e + w := zr_of (by omega) (by omega)
    simp only [bk_X11_its_0, k_X11_its_0, ↓e_rk1, ↓e_rk0, ↓e_sk0, ↓e_sks, ↓e_ldi0, ↓e_ldis, ↓e_ldl0, ↓e_ldls, ↓e_lda0, ↓e_ldas, ↓e_ok0, ↓e_okss, ↓e_ok1i, ↓e_ok1r, ↓e_ok1n, ↓e_sti, ↓e_sta, ↓e_1, ↓e_2, ↓e_l1, ↓e_l2, ↓e_li, ↓e_sw0, ↓e_sws, ↓e_ceq, ↓e_cne, ↓e_clt, ↓e_cge, ↓e_cgt, ↓e_cle, ↓e_nil, ↓e_cons, ↓e_iconst, ↓e_bipush, ↓e_sipush, ↓e_ldc, ↓e_ldcw, ↓e_ldc2, ↓e_lconst, ↓e_iloadn, ↓e_iload, ↓e_lloadn, ↓e_lload, ↓e_aloadn, ↓e_aload, ↓e_istoren, ↓e_istore, ↓e_astoren, ↓e_astore, ↓e_add, ↓e_iinc, ↓e_iadd, ↓e_isub, ↓e_imul, ↓e_iand, ↓e_ior, ↓e_ixor, ↓e_ishl, ↓e_iushr, ↓e_idiv, ↓e_irem, ↓e_ineg, ↓e_i2l, ↓e_i2b, ↓e_i2s, ↓e_l2i, ↓e_land, ↓e_lor, ↓e_lshl, ↓e_lshr, ↓e_lushr, ↓e_lcmp, ↓e_dupi, ↓e_dupr, ↓e_popi, ↓e_dup2, ↓e_goto, ↓e_if, ↓e_icmp, ↓e_tsw, ↓e_lsw, ↓e_getf, ↓e_putf, ↓e_gets, ↓e_iald, ↓e_cald, ↓e_iast, ↓e_aald, ↓e_aast, ↓e_len, ↓e_copy, ↓e_abs, ↓e_max, ↓e_min, ↓e_iret, ↓e_aret, ↓e_vret, ↓e_is0, ↓e_is1, ↓e_is2, ↓e_is3, ↓e_is4, ↓e_iv1, ↓e_iv2, ↓e_iv3, ↓e_iv4, ↓e_iv5, ↓e_iv6, ↓rt_X11_its, ↓reduceIte, Nat.reduceAdd, Nat.reduceEqDiff, ↓zcl0, ↓zclv, List.map_nil, List.sum_nil, List.map_cons, List.sum_cons, zcat, true_and, and_true, Nat.reduceLeDiff, Nat.reduceAdd, eq_self, forall_const, e_ok0, e_okss, e_ok1i, e_ok1r, e_ok1n, zl_4, zl_134, Int.reduceToNat, Int.reduceAdd, Int.reduceMul, Int.reduceSub, Int.reduceNeg, Int.reduceLT, Int.reduceLE, Int.reduceEq, not_false_eq_true, not_true_eq_false, false_implies, true_implies, implies_true, Int.reduceDiv, Int.reduceMod, zr8_zr, zr_zbo, z01_zbo, z01_0, z01_1, zbo_eq0, zup_eq, zup_o, zup_k, ne_eq, ↓v_87, ↓g_87_0, ↓l_88, ↓s_88, ↓n_88, ↓g_87_1, ↓l_89, ↓s_89, ↓n_89, ↓g_87_2, ↓l_90, ↓s_90, ↓n_90, ↓g_87_3, ↓p_87_3, ↓g_87_4, ↓l_91, ↓s_91, ↓n_91, ↓g_87_5, ↓p_87_5, ↓g_87_6, ↓p_87_6, ↓g_87_7, ↓p_87_7, ↓g_87_8, ↓p_87_8, ↓g_87_9, ↓p_87_9, ↓g_87_10, ↓p_87_10, ↓g_87_11, ↓l_92, ↓s_92, ↓n_92, ↓g_87_12, ↓l_93, ↓s_93, ↓n_93, ↓g_87_13, ↓p_87_13, ↓g_87_14, ↓l_94, ↓s_94, ↓n_94, ↓g_87_15, ↓p_87_15, ↓g_87_16, ↓l_95, ↓s_95, ↓n_95, ↓g_87_17, ↓l_96, ↓s_96, ↓n_96, ↓g_87_18, ↓l_97, ↓s_97, ↓n_97, ↓g_87_19, ↓p_87_19, ↓g_87_20, ↓p_87_20, ↓g_87_21, ↓l_98, ↓s_98, ↓n_98, ↓g_87_22, ↓l_99, ↓s_99, ↓n_99, ↓g_87_23, ↓l_100, ↓s_100, ↓n_100, ↓g_87_24, ↓l_101, ↓s_101, ↓n_101, hz]
    exact ⟨by omega, by omega, hC⟩
def B_above (k : Int) (post : Option ZV → Prop) : Prop := rg k ∧ post (some (.inl (abv k)))
def C_above : ZC := fun as h post => match as with
  | [.inl k] => B_above k (fun v => post v h)
  | _ => False
theorem r_above {k : Int} {h : ZH} {post : Option ZV → ZH → Prop} : C_above [.inl k] h post = B_above k (fun v => post v h) := rfl
def ct_above : Nat → ZC := fun n => fun _ _ _ => False
theorem c_above {E : ZE} {d : Nat} (hd : 1 ≤ d) : zMet E d mX11_above C_above := by
  refine zmet_of (o := 11) (ini := false) (CT := ct_above) gd_X11_above rfl (fun h => by cases h) (by omega) ?_ ?_
  · intro n as h post hh
    unfold ct_above at hh
    exact hh.elim
  intro as h post hC
  match as, hC with
  | [.inl k], hC =>
    refine ⟨Nat.le_of_ble_eq_true rfl, fun X hX => bs_X11_above_0 hX ?_⟩
    have hC : B_above k (fun v => post v h) := hC
    simp only [B_above] at hC
    show bk_X11_above_0 E ct_above X _ [some (.inl k)] [] h (0, 0)
    obtain ⟨h1, hC⟩ := hC
    simp only [bk_X11_above_0, k_X11_above_0, bk_X11_above_11, k_X11_above_11, bk_X11_above_12, k_X11_above_12, ↓e_rk1, ↓e_rk0, ↓e_sk0, ↓e_sks, ↓e_ldi0, ↓e_ldis, ↓e_ldl0, ↓e_ldls, ↓e_lda0, ↓e_ldas, ↓e_ok0, ↓e_okss, ↓e_ok1i, ↓e_ok1r, ↓e_ok1n, ↓e_sti, ↓e_sta, ↓e_1, ↓e_2, ↓e_l1, ↓e_l2, ↓e_li, ↓e_sw0, ↓e_sws, ↓e_ceq, ↓e_cne, ↓e_clt, ↓e_cge, ↓e_cgt, ↓e_cle, ↓e_nil, ↓e_cons, ↓e_iconst, ↓e_bipush, ↓e_sipush, ↓e_ldc, ↓e_ldcw, ↓e_ldc2, ↓e_lconst, ↓e_iloadn, ↓e_iload, ↓e_lloadn, ↓e_lload, ↓e_aloadn, ↓e_aload, ↓e_istoren, ↓e_istore, ↓e_astoren, ↓e_astore, ↓e_add, ↓e_iinc, ↓e_iadd, ↓e_isub, ↓e_imul, ↓e_iand, ↓e_ior, ↓e_ixor, ↓e_ishl, ↓e_iushr, ↓e_idiv, ↓e_irem, ↓e_ineg, ↓e_i2l, ↓e_i2b, ↓e_i2s, ↓e_l2i, ↓e_land, ↓e_lor, ↓e_lshl, ↓e_lshr, ↓e_lushr, ↓e_lcmp, ↓e_dupi, ↓e_dupr, ↓e_popi, ↓e_dup2, ↓e_goto, ↓e_if, ↓e_icmp, ↓e_tsw, ↓e_lsw, ↓e_getf, ↓e_putf, ↓e_gets, ↓e_iald, ↓e_cald, ↓e_iast, ↓e_aald, ↓e_aast, ↓e_len, ↓e_copy, ↓e_abs, ↓e_max, ↓e_min, ↓e_iret, ↓e_aret, ↓e_vret, ↓e_is0, ↓e_is1, ↓e_is2, ↓e_is3, ↓e_is4, ↓e_iv1, ↓e_iv2, ↓e_iv3, ↓e_iv4, ↓e_iv5, ↓e_iv6, ↓rt_X11_above, ↓reduceIte, Nat.reduceAdd, Nat.reduceEqDiff, ↓zcl0, ↓zclv, List.map_nil, List.sum_nil, List.map_cons, List.sum_cons, zcat, true_and, and_true, Nat.reduceLeDiff, Nat.reduceAdd, eq_self, forall_const, e_ok0, e_okss, e_ok1i, e_ok1r, e_ok1n, zl_0, zl_3, Int.reduceToNat, Int.reduceAdd, Int.reduceMul, Int.reduceSub, Int.reduceNeg, Int.reduceLT, Int.reduceLE, Int.reduceEq, not_false_eq_true, not_true_eq_false, false_implies, true_implies, implies_true, Int.reduceDiv, Int.reduceMod, zr8_zr, zr_zbo, z01_zbo, z01_0, z01_1, zbo_eq0, zup_eq, zup_o, zup_k, ne_eq, zr_rg, h1]
    refine ⟨fun c => zpost hC ?_, fun c => zpost hC ?_⟩ <;> (unfold abv; split <;> omega)
def B_becomes (w : Int) (v : Int) (M : Nat → Nat → Int) (post : Option ZV → (Nat → Nat → Int) → Prop) : Prop := 0 ≤ w ∧ w < 358 ∧ post (some (.inl (M 88 w.toNat))) (zup M 88 w.toNat v)
def C_becomes : ZC := fun as h post => match as with
  | [.inr (.inr (.inl 87)), .inl w, .inl v] => h.1 = zG ∧ B_becomes w v h.2 (fun v M => post v (zG, M))
  | _ => False
theorem r_becomes {w : Int} {v : Int} {M : Nat → Nat → Int} {post : Option ZV → ZH → Prop} : C_becomes [.inr (.inr (.inl 87)), .inl w, .inl v] (zG, M) post = B_becomes w v M (fun v M => post v (zG, M)) := by show (zG = zG ∧ _) = _; simp
def ct_becomes : Nat → ZC := fun n => fun _ _ _ => False
theorem c_becomes {E : ZE} {d : Nat} (hd : 1 ≤ d) : zMet E d mX11_becomes C_becomes := by
  refine zmet_of (o := 11) (ini := false) (CT := ct_becomes) gd_X11_becomes rfl (fun h => by cases h) (by omega) ?_ ?_
  · intro n as h post hh
    unfold ct_becomes at hh
    exact hh.elim
  intro as h post hC
  match as, hC with
  | [.inr (.inr (.inl 87)), .inl w, .inl v], hC =>
    refine ⟨Nat.le_of_ble_eq_true rfl, fun X hX => bs_X11_becomes_0 hX ?_⟩
    obtain ⟨G, M⟩ := h
    obtain ⟨hG, hC⟩ := hC
    dsimp only at hG
    subst hG
    simp only [B_becomes] at hC
    show bk_X11_becomes_0 E ct_becomes X _ [some (.inr (.inr (.inl 87))), some (.inl w), some (.inl v), none] [] (zG, M) (0, 0)
    obtain ⟨h1, h2, hC⟩ := hC
    have hz : zr w = w := zr_of (by omega) (by omega)
    simp only [bk_X11_becomes_0, k_X11_becomes_0, ↓e_rk1, ↓e_rk0, ↓e_sk0, ↓e_sks, ↓e_ldi0, ↓e_ldis, ↓e_ldl0, ↓e_ldls, ↓e_lda0, ↓e_ldas, ↓e_ok0, ↓e_okss, ↓e_ok1i, ↓e_ok1r, ↓e_ok1n, ↓e_sti, ↓e_sta, ↓e_1, ↓e_2, ↓e_l1, ↓e_l2, ↓e_li, ↓e_sw0, ↓e_sws, ↓e_ceq, ↓e_cne, ↓e_clt, ↓e_cge, ↓e_cgt, ↓e_cle, ↓e_nil, ↓e_cons, ↓e_iconst, ↓e_bipush, ↓e_sipush, ↓e_ldc, ↓e_ldcw, ↓e_ldc2, ↓e_lconst, ↓e_iloadn, ↓e_iload, ↓e_lloadn, ↓e_lload, ↓e_aloadn, ↓e_aload, ↓e_istoren, ↓e_istore, ↓e_astoren, ↓e_astore, ↓e_add, ↓e_iinc, ↓e_iadd, ↓e_isub, ↓e_imul, ↓e_iand, ↓e_ior, ↓e_ixor, ↓e_ishl, ↓e_iushr, ↓e_idiv, ↓e_irem, ↓e_ineg, ↓e_i2l, ↓e_i2b, ↓e_i2s, ↓e_l2i, ↓e_land, ↓e_lor, ↓e_lshl, ↓e_lshr, ↓e_lushr, ↓e_lcmp, ↓e_dupi, ↓e_dupr, ↓e_popi, ↓e_dup2, ↓e_goto, ↓e_if, ↓e_icmp, ↓e_tsw, ↓e_lsw, ↓e_getf, ↓e_putf, ↓e_gets, ↓e_iald, ↓e_cald, ↓e_iast, ↓e_aald, ↓e_aast, ↓e_len, ↓e_copy, ↓e_abs, ↓e_max, ↓e_min, ↓e_iret, ↓e_aret, ↓e_vret, ↓e_is0, ↓e_is1, ↓e_is2, ↓e_is3, ↓e_is4, ↓e_iv1, ↓e_iv2, ↓e_iv3, ↓e_iv4, ↓e_iv5, ↓e_iv6, ↓rt_X11_becomes, ↓reduceIte, Nat.reduceAdd, Nat.reduceEqDiff, ↓zcl0, ↓zclv, List.map_nil, List.sum_nil, List.map_cons, List.sum_cons, zcat, true_and, and_true, Nat.reduceLeDiff, Nat.reduceAdd, eq_self, forall_const, e_ok0, e_okss, e_ok1i, e_ok1r, e_ok1n, Int.reduceToNat, Int.reduceAdd, Int.reduceMul, Int.reduceSub, Int.reduceNeg, Int.reduceLT, Int.reduceLE, Int.reduceEq, not_false_eq_true, not_true_eq_false, false_implies, true_implies, implies_true, Int.reduceDiv, Int.reduceMod, zr8_zr, zr_zbo, z01_zbo, z01_0, z01_1, zbo_eq0, zup_eq, zup_o, zup_k, ne_eq, ↓v_87, ↓g_87_0, ↓l_88, ↓s_88, ↓n_88, ↓g_87_1, ↓l_89, ↓s_89, ↓n_89, ↓g_87_2, ↓l_90, ↓s_90, ↓n_90, ↓g_87_3, ↓p_87_3, ↓g_87_4, ↓l_91, ↓s_91, ↓n_91, ↓g_87_5, ↓p_87_5, ↓g_87_6, ↓p_87_6, ↓g_87_7, ↓p_87_7, ↓g_87_8, ↓p_87_8, ↓g_87_9, ↓p_87_9, ↓g_87_10, ↓p_87_10, ↓g_87_11, ↓l_92, ↓s_92, ↓n_92, ↓g_87_12, ↓l_93, ↓s_93, ↓n_93, ↓g_87_13, ↓p_87_13, ↓g_87_14, ↓l_94, ↓s_94, ↓n_94, ↓g_87_15, ↓p_87_15, ↓g_87_16, ↓l_95, ↓s_95, ↓n_95, ↓g_87_17, ↓l_96, ↓s_96, ↓n_96, ↓g_87_18, ↓l_97, ↓s_97, ↓n_97, ↓g_87_19, ↓p_87_19, ↓g_87_20, ↓p_87_20, ↓g_87_21, ↓l_98, ↓s_98, ↓n_98, ↓g_87_22, ↓l_99, ↓s_99, ↓n_99, ↓g_87_23, ↓l_100, ↓s_100, ↓n_100, ↓g_87_24, ↓l_101, ↓s_101, ↓n_101, hz]
    exact ⟨by omega, by omega, by omega, by omega, hC⟩
def B_finds (k : Int) (M : Nat → Nat → Int) (post : Option ZV → (Nat → Nat → Int) → Prop) : Prop := 0 ≤ k ∧ k < 6 ∧ post (some (.inl (-1000000000 - k))) (zup M 91 k.toNat (M 91 k.toNat + 1))
def C_finds : ZC := fun as h post => match as with
  | [.inr (.inr (.inl 87)), .inl k] => h.1 = zG ∧ B_finds k h.2 (fun v M => post v (zG, M))
  | _ => False
theorem r_finds {k : Int} {M : Nat → Nat → Int} {post : Option ZV → ZH → Prop} : C_finds [.inr (.inr (.inl 87)), .inl k] (zG, M) post = B_finds k M (fun v M => post v (zG, M)) := by show (zG = zG ∧ _) = _; simp
def ct_finds : Nat → ZC := fun n => fun _ _ _ => False
theorem c_finds {E : ZE} {d : Nat} (hd : 1 ≤ d) : zMet E d mX11_finds C_finds := by
  refine zmet_of (o := 11) (ini := false) (CT := ct_finds) gd_X11_finds rfl (fun h => by cases h) (by omega) ?_ ?_
  · intro n as h post hh
    unfold ct_finds at hh
    exact hh.elim
  intro as h post hC
  match as, hC with
  | [.inr (.inr (.inl 87)), .inl k], hC =>
    refine ⟨Nat.le_of_ble_eq_true rfl, fun X hX => bs_X11_finds_0 hX ?_⟩
    obtain ⟨G, M⟩ := h
    obtain ⟨hG, hC⟩ := hC
    dsimp only at hG
    subst hG
    simp only [B_finds] at hC
    show bk_X11_finds_0 E ct_finds X _ [some (.inr (.inr (.inl 87))), some (.inl k)] [] (zG, M) (0, 0)
    obtain ⟨h1, h2, hC⟩ := hC
    have hz : zr k = k := zr_of (by omega) (by omega)
    simp only [bk_X11_finds_0, k_X11_finds_0, ↓e_rk1, ↓e_rk0, ↓e_sk0, ↓e_sks, ↓e_ldi0, ↓e_ldis, ↓e_ldl0, ↓e_ldls, ↓e_lda0, ↓e_ldas, ↓e_ok0, ↓e_okss, ↓e_ok1i, ↓e_ok1r, ↓e_ok1n, ↓e_sti, ↓e_sta, ↓e_1, ↓e_2, ↓e_l1, ↓e_l2, ↓e_li, ↓e_sw0, ↓e_sws, ↓e_ceq, ↓e_cne, ↓e_clt, ↓e_cge, ↓e_cgt, ↓e_cle, ↓e_nil, ↓e_cons, ↓e_iconst, ↓e_bipush, ↓e_sipush, ↓e_ldc, ↓e_ldcw, ↓e_ldc2, ↓e_lconst, ↓e_iloadn, ↓e_iload, ↓e_lloadn, ↓e_lload, ↓e_aloadn, ↓e_aload, ↓e_istoren, ↓e_istore, ↓e_astoren, ↓e_astore, ↓e_add, ↓e_iinc, ↓e_iadd, ↓e_isub, ↓e_imul, ↓e_iand, ↓e_ior, ↓e_ixor, ↓e_ishl, ↓e_iushr, ↓e_idiv, ↓e_irem, ↓e_ineg, ↓e_i2l, ↓e_i2b, ↓e_i2s, ↓e_l2i, ↓e_land, ↓e_lor, ↓e_lshl, ↓e_lshr, ↓e_lushr, ↓e_lcmp, ↓e_dupi, ↓e_dupr, ↓e_popi, ↓e_dup2, ↓e_goto, ↓e_if, ↓e_icmp, ↓e_tsw, ↓e_lsw, ↓e_getf, ↓e_putf, ↓e_gets, ↓e_iald, ↓e_cald, ↓e_iast, ↓e_aald, ↓e_aast, ↓e_len, ↓e_copy, ↓e_abs, ↓e_max, ↓e_min, ↓e_iret, ↓e_aret, ↓e_vret, ↓e_is0, ↓e_is1, ↓e_is2, ↓e_is3, ↓e_is4, ↓e_iv1, ↓e_iv2, ↓e_iv3, ↓e_iv4, ↓e_iv5, ↓e_iv6, ↓rt_X11_finds, ↓reduceIte, Nat.reduceAdd, Nat.reduceEqDiff, ↓zcl0, ↓zclv, List.map_nil, List.sum_nil, List.map_cons, List.sum_cons, zcat, true_and, and_true, Nat.reduceLeDiff, Nat.reduceAdd, eq_self, forall_const, e_ok0, e_okss, e_ok1i, e_ok1r, e_ok1n, zl_m1000000000, zl_1, Int.reduceToNat, Int.reduceAdd, Int.reduceMul, Int.reduceSub, Int.reduceNeg, Int.reduceLT, Int.reduceLE, Int.reduceEq, not_false_eq_true, not_true_eq_false, false_implies, true_implies, implies_true, Int.reduceDiv, Int.reduceMod, zr8_zr, zr_zbo, z01_zbo, z01_0, z01_1, zbo_eq0, zup_eq, zup_o, zup_k, ne_eq, ↓v_87, ↓g_87_0, ↓l_88, ↓s_88, ↓n_88, ↓g_87_1, ↓l_89, ↓s_89, ↓n_89, ↓g_87_2, ↓l_90, ↓s_90, ↓n_90, ↓g_87_3, ↓p_87_3, ↓g_87_4, ↓l_91, ↓s_91, ↓n_91, ↓g_87_5, ↓p_87_5, ↓g_87_6, ↓p_87_6, ↓g_87_7, ↓p_87_7, ↓g_87_8, ↓p_87_8, ↓g_87_9, ↓p_87_9, ↓g_87_10, ↓p_87_10, ↓g_87_11, ↓l_92, ↓s_92, ↓n_92, ↓g_87_12, ↓l_93, ↓s_93, ↓n_93, ↓g_87_13, ↓p_87_13, ↓g_87_14, ↓l_94, ↓s_94, ↓n_94, ↓g_87_15, ↓p_87_15, ↓g_87_16, ↓l_95, ↓s_95, ↓n_95, ↓g_87_17, ↓l_96, ↓s_96, ↓n_96, ↓g_87_18, ↓l_97, ↓s_97, ↓n_97, ↓g_87_19, ↓p_87_19, ↓g_87_20, ↓p_87_20, ↓g_87_21, ↓l_98, ↓s_98, ↓n_98, ↓g_87_22, ↓l_99, ↓s_99, ↓n_99, ↓g_87_23, ↓l_100, ↓s_100, ↓n_100, ↓g_87_24, ↓l_101, ↓s_101, ↓n_101, hz]
    exact ⟨by omega, by omega, by omega, by omega, hC⟩
def B_isEngineer (e : Int) (M : Nat → Nat → Int) (post : Option ZV → (Nat → Nat → Int) → Prop) : Prop := rg e ∧ 0 ≤ M 88 0 ∧ M 88 0 ≤ 8 ∧ post (some (.inl (zbo (0 ≤ e ∧ e < M 88 0)))) M
def C_isEngineer : ZC := fun as h post => match as with
  | [.inr (.inr (.inl 87)), .inl e] => h.1 = zG ∧ B_isEngineer e h.2 (fun v M => post v (zG, M))
  | _ => False
theorem r_isEngineer {e : Int} {M : Nat → Nat → Int} {post : Option ZV → ZH → Prop} : C_isEngineer [.inr (.inr (.inl 87)), .inl e] (zG, M) post = B_isEngineer e M (fun v M => post v (zG, M)) := by show (zG = zG ∧ _) = _; simp
def ct_isEngineer : Nat → ZC := fun n => if n = 120 then C_in else fun _ _ _ => False
theorem ct_isEngineer_in {as : List ZV} {h : ZH} {post : Option ZV → ZH → Prop} : ct_isEngineer 120 as h post = C_in as h post := rfl
theorem c_isEngineer {E : ZE} {d : Nat} (hd : 2 ≤ d) : zMet E d mX11_isEngineer C_isEngineer := by
  refine zmet_of (o := 11) (ini := false) (CT := ct_isEngineer) gd_X11_isEngineer rfl (fun h => by cases h) (by omega) ?_ ?_
  · intro n as h post hh
    unfold ct_isEngineer at hh
    by_cases c : n = 120
    · subst c; exact ⟨gd_X11_in, 1, by omega, c_in (by omega)⟩
    rw [if_neg c] at hh
    exact hh.elim
  intro as h post hC
  match as, hC with
  | [.inr (.inr (.inl 87)), .inl e], hC =>
    refine ⟨Nat.le_of_ble_eq_true rfl, fun X hX => bs_X11_isEngineer_0 hX ?_⟩
    obtain ⟨G, M⟩ := h
    obtain ⟨hG, hC⟩ := hC
    dsimp only at hG
    subst hG
    simp only [B_isEngineer] at hC
    show bk_X11_isEngineer_0 E ct_isEngineer X _ [some (.inr (.inr (.inl 87))), some (.inl e)] [] (zG, M) (0, 0)
    obtain ⟨h1, h2, h3, hC⟩ := hC
    have hz : zr (M 88 0 - 1) = M 88 0 - 1 := zr_of (by omega) (by omega)
    simp only [bk_X11_isEngineer_0, k_X11_isEngineer_0, ↓e_rk1, ↓e_rk0, ↓e_sk0, ↓e_sks, ↓e_ldi0, ↓e_ldis, ↓e_ldl0, ↓e_ldls, ↓e_lda0, ↓e_ldas, ↓e_ok0, ↓e_okss, ↓e_ok1i, ↓e_ok1r, ↓e_ok1n, ↓e_sti, ↓e_sta, ↓e_1, ↓e_2, ↓e_l1, ↓e_l2, ↓e_li, ↓e_sw0, ↓e_sws, ↓e_ceq, ↓e_cne, ↓e_clt, ↓e_cge, ↓e_cgt, ↓e_cle, ↓e_nil, ↓e_cons, ↓e_iconst, ↓e_bipush, ↓e_sipush, ↓e_ldc, ↓e_ldcw, ↓e_ldc2, ↓e_lconst, ↓e_iloadn, ↓e_iload, ↓e_lloadn, ↓e_lload, ↓e_aloadn, ↓e_aload, ↓e_istoren, ↓e_istore, ↓e_astoren, ↓e_astore, ↓e_add, ↓e_iinc, ↓e_iadd, ↓e_isub, ↓e_imul, ↓e_iand, ↓e_ior, ↓e_ixor, ↓e_ishl, ↓e_iushr, ↓e_idiv, ↓e_irem, ↓e_ineg, ↓e_i2l, ↓e_i2b, ↓e_i2s, ↓e_l2i, ↓e_land, ↓e_lor, ↓e_lshl, ↓e_lshr, ↓e_lushr, ↓e_lcmp, ↓e_dupi, ↓e_dupr, ↓e_popi, ↓e_dup2, ↓e_goto, ↓e_if, ↓e_icmp, ↓e_tsw, ↓e_lsw, ↓e_getf, ↓e_putf, ↓e_gets, ↓e_iald, ↓e_cald, ↓e_iast, ↓e_aald, ↓e_aast, ↓e_len, ↓e_copy, ↓e_abs, ↓e_max, ↓e_min, ↓e_iret, ↓e_aret, ↓e_vret, ↓e_is0, ↓e_is1, ↓e_is2, ↓e_is3, ↓e_is4, ↓e_iv1, ↓e_iv2, ↓e_iv3, ↓e_iv4, ↓e_iv5, ↓e_iv6, ↓rt_X11_isEngineer, ↓reduceIte, Nat.reduceAdd, Nat.reduceEqDiff, ↓zcl0, ↓zclv, List.map_nil, List.sum_nil, List.map_cons, List.sum_cons, zcat, true_and, and_true, Nat.reduceLeDiff, Nat.reduceAdd, eq_self, forall_const, e_ok0, e_okss, e_ok1i, e_ok1r, e_ok1n, zl_0, zl_1, zq_0, Int.reduceToNat, Int.reduceAdd, Int.reduceMul, Int.reduceSub, Int.reduceNeg, Int.reduceLT, Int.reduceLE, Int.reduceEq, not_false_eq_true, not_true_eq_false, false_implies, true_implies, implies_true, Int.reduceDiv, Int.reduceMod, zr8_zr, zr_zbo, z01_zbo, z01_0, z01_1, zbo_eq0, zup_eq, zup_o, zup_k, ne_eq, ↓ct_isEngineer_in, ↓r_in, ↓B_in, ↓v_87, ↓g_87_0, ↓l_88, ↓s_88, ↓n_88, ↓g_87_1, ↓l_89, ↓s_89, ↓n_89, ↓g_87_2, ↓l_90, ↓s_90, ↓n_90, ↓g_87_3, ↓p_87_3, ↓g_87_4, ↓l_91, ↓s_91, ↓n_91, ↓g_87_5, ↓p_87_5, ↓g_87_6, ↓p_87_6, ↓g_87_7, ↓p_87_7, ↓g_87_8, ↓p_87_8, ↓g_87_9, ↓p_87_9, ↓g_87_10, ↓p_87_10, ↓g_87_11, ↓l_92, ↓s_92, ↓n_92, ↓g_87_12, ↓l_93, ↓s_93, ↓n_93, ↓g_87_13, ↓p_87_13, ↓g_87_14, ↓l_94, ↓s_94, ↓n_94, ↓g_87_15, ↓p_87_15, ↓g_87_16, ↓l_95, ↓s_95, ↓n_95, ↓g_87_17, ↓l_96, ↓s_96, ↓n_96, ↓g_87_18, ↓l_97, ↓s_97, ↓n_97, ↓g_87_19, ↓p_87_19, ↓g_87_20, ↓p_87_20, ↓g_87_21, ↓l_98, ↓s_98, ↓n_98, ↓g_87_22, ↓l_99, ↓s_99, ↓n_99, ↓g_87_23, ↓l_100, ↓s_100, ↓n_100, ↓g_87_24, ↓l_101, ↓s_101, ↓n_101, hz, zr_rg, h1, zr8_zr, zr_zbo, zbo_01, zr8_rg, h1]
    refine zpost hC ?_
    simp only [zbo]
    have h8 : zr8 (M 88 0 - 1) = M 88 0 - 1 := zr8_of (by omega) (by omega)
    rw [h8]
    split <;> split <;> omega
def k_X11_far_0 : List ZI := [(.iload_n 0, 1, (0, [0], [])), (.bipush 8, 2, (0, [], [])), (.idiv, 1, (0, [], [])), (.iload_n 1, 1, (0, [1], [])), (.bipush 8, 2, (0, [], [])), (.idiv, 1, (0, [], [])), (.isub, 1, (0, [], [])), (.invokestatic 159, 3, (0, [122, 1, 0, 11], [])), (.iload_n 0, 1, (0, [0], [])), (.bipush 8, 2, (0, [], [])), (.irem, 1, (0, [], [])), (.iload_n 1, 1, (0, [1], [])), (.bipush 8, 2, (0, [], [])), (.irem, 1, (0, [], [])), (.isub, 1, (0, [], [])), (.invokestatic 159, 3, (0, [122, 1, 0, 11], [])), (.iadd, 1, (0, [], [])), (.ireturn, 1, (0, [], []))]
theorem ok_X11_far_0 : zOK cX11_far 11 false 2 k_X11_far_0 0 = true := zOK_by (by decide +kernel)
theorem rt_X11_far {g : Nat} {post : Option ZV → ZH → Prop} {h : ZH} {b : ZB2} {z : Int} : zRt mX11_far g post (some (.inl z)) h b = (post (some (.inl z)) h ∧ h.1.length = g) := by show (_ ∧ _ ∧ True) = _; simp
def bk_X11_far_0 (E : ZE) (CT : Nat → ZC) (X : ZK) (Rt : ZR) (ls : ZL) (st : List ZV) (h : ZH) (b : ZB2) : Prop := zB E CT k_X11_far_0 0 ls st h b (fun t ls st h b => X t ls st h b) Rt
theorem bs_X11_far_0 {E : ZE} {CT : Nat → ZC} {X : ZK} {Rt : ZR} {ls : ZL} {st : List ZV} {h : ZH} {b : ZB2} (hX : zCl E mX11_far 11 false CT Rt X) (q : bk_X11_far_0 E CT X Rt ls st h b) : X 0 ls st h b := by
  refine hX k_X11_far_0 0 ok_X11_far_0 _ ?_ ls st h b q
  exact fun t ls st h b q => q
-- X11_far: cuts []
def k_X11_beside_0 : List ZI := [(.iload_n 1, 1, (0, [1], [])), (.tableswitch 93 0 3 #[31, 46, 63, 78], 31, (0, [94], [(0, 32), (1, 47), (2, 64), (3, 79)]))]
theorem ok_X11_beside_0 : zOK cX11_beside 11 false 2 k_X11_beside_0 0 = true := zOK_by (by decide +kernel)
def k_X11_beside_32 : List ZI := [(.iload_n 0, 1, (0, [0], [])), (.bipush 7, 2, (0, [], [])), (.if_icmp .le 10, 3, (0, [45], [])), (.iload_n 0, 1, (0, [0], [])), (.bipush 8, 2, (0, [], [])), (.isub, 1, (0, [], [])), (.goto 4, 3, (0, [46], []))]
theorem ok_X11_beside_32 : zOK cX11_beside 11 false 2 k_X11_beside_32 32 = true := zOK_by (by decide +kernel)
def k_X11_beside_45 : List ZI := [(.iconst (-1), 1, (0, [], []))]
theorem ok_X11_beside_45 : zOK cX11_beside 11 false 2 k_X11_beside_45 45 = true := zOK_by (by decide +kernel)
def k_X11_beside_46 : List ZI := [(.ireturn, 1, (0, [], []))]
theorem ok_X11_beside_46 : zOK cX11_beside 11 false 2 k_X11_beside_46 46 = true := zOK_by (by decide +kernel)
def k_X11_beside_47 : List ZI := [(.iload_n 0, 1, (0, [0], [])), (.bipush 8, 2, (0, [], [])), (.irem, 1, (0, [], [])), (.bipush 7, 2, (0, [], [])), (.if_icmp .ge 9, 3, (0, [62], [])), (.iload_n 0, 1, (0, [0], [])), (.iconst 1, 1, (0, [], [])), (.iadd, 1, (0, [], [])), (.goto 4, 3, (0, [63], []))]
theorem ok_X11_beside_47 : zOK cX11_beside 11 false 2 k_X11_beside_47 47 = true := zOK_by (by decide +kernel)
def k_X11_beside_62 : List ZI := [(.iconst (-1), 1, (0, [], []))]
theorem ok_X11_beside_62 : zOK cX11_beside 11 false 2 k_X11_beside_62 62 = true := zOK_by (by decide +kernel)
def k_X11_beside_63 : List ZI := [(.ireturn, 1, (0, [], []))]
theorem ok_X11_beside_63 : zOK cX11_beside 11 false 2 k_X11_beside_63 63 = true := zOK_by (by decide +kernel)
def k_X11_beside_64 : List ZI := [(.iload_n 0, 1, (0, [0], [])), (.bipush 56, 2, (0, [], [])), (.if_icmp .ge 10, 3, (0, [77], [])), (.iload_n 0, 1, (0, [0], [])), (.bipush 8, 2, (0, [], [])), (.iadd, 1, (0, [], [])), (.goto 4, 3, (0, [78], []))]
theorem ok_X11_beside_64 : zOK cX11_beside 11 false 2 k_X11_beside_64 64 = true := zOK_by (by decide +kernel)
def k_X11_beside_77 : List ZI := [(.iconst (-1), 1, (0, [], []))]
theorem ok_X11_beside_77 : zOK cX11_beside 11 false 2 k_X11_beside_77 77 = true := zOK_by (by decide +kernel)
def k_X11_beside_78 : List ZI := [(.ireturn, 1, (0, [], []))]
theorem ok_X11_beside_78 : zOK cX11_beside 11 false 2 k_X11_beside_78 78 = true := zOK_by (by decide +kernel)
def k_X11_beside_79 : List ZI := [(.iload_n 0, 1, (0, [0], [])), (.bipush 8, 2, (0, [], [])), (.irem, 1, (0, [], [])), (.ifCond .le 9, 3, (0, [92], [])), (.iload_n 0, 1, (0, [0], [])), (.iconst 1, 1, (0, [], [])), (.isub, 1, (0, [], [])), (.goto 4, 3, (0, [93], []))]
theorem ok_X11_beside_79 : zOK cX11_beside 11 false 2 k_X11_beside_79 79 = true := zOK_by (by decide +kernel)
def k_X11_beside_92 : List ZI := [(.iconst (-1), 1, (0, [], []))]
theorem ok_X11_beside_92 : zOK cX11_beside 11 false 2 k_X11_beside_92 92 = true := zOK_by (by decide +kernel)
def k_X11_beside_93 : List ZI := [(.ireturn, 1, (0, [], []))]
theorem ok_X11_beside_93 : zOK cX11_beside 11 false 2 k_X11_beside_93 93 = true := zOK_by (by decide +kernel)
def k_X11_beside_94 : List ZI := [(.iconst (-1), 1, (0, [], [])), (.ireturn, 1, (0, [], []))]
theorem ok_X11_beside_94 : zOK cX11_beside 11 false 2 k_X11_beside_94 94 = true := zOK_by (by decide +kernel)
theorem rt_X11_beside {g : Nat} {post : Option ZV → ZH → Prop} {h : ZH} {b : ZB2} {z : Int} : zRt mX11_beside g post (some (.inl z)) h b = (post (some (.inl z)) h ∧ h.1.length = g) := by show (_ ∧ _ ∧ True) = _; simp
def bk_X11_beside_46 (E : ZE) (CT : Nat → ZC) (X : ZK) (Rt : ZR) (ls : ZL) (st : List ZV) (h : ZH) (b : ZB2) : Prop := zB E CT k_X11_beside_46 46 ls st h b (fun t ls st h b => X t ls st h b) Rt
theorem bs_X11_beside_46 {E : ZE} {CT : Nat → ZC} {X : ZK} {Rt : ZR} {ls : ZL} {st : List ZV} {h : ZH} {b : ZB2} (hX : zCl E mX11_beside 11 false CT Rt X) (q : bk_X11_beside_46 E CT X Rt ls st h b) : X 46 ls st h b := by
  refine hX k_X11_beside_46 46 ok_X11_beside_46 _ ?_ ls st h b q
  exact fun t ls st h b q => q
def bk_X11_beside_45 (E : ZE) (CT : Nat → ZC) (X : ZK) (Rt : ZR) (ls : ZL) (st : List ZV) (h : ZH) (b : ZB2) : Prop := zB E CT k_X11_beside_45 45 ls st h b (fun t ls st h b => if t = 46 then bk_X11_beside_46 E CT X Rt ls st h b else X t ls st h b) Rt
theorem bs_X11_beside_45 {E : ZE} {CT : Nat → ZC} {X : ZK} {Rt : ZR} {ls : ZL} {st : List ZV} {h : ZH} {b : ZB2} (hX : zCl E mX11_beside 11 false CT Rt X) (q : bk_X11_beside_45 E CT X Rt ls st h b) : X 45 ls st h b := by
  refine hX k_X11_beside_45 45 ok_X11_beside_45 _ ?_ ls st h b q
  exact by
    intro t ls st h b q
    by_cases c : t = 46
    · subst c; rw [if_pos rfl] at q; exact bs_X11_beside_46 hX q
    rw [if_neg c] at q
    exact q
def bk_X11_beside_32 (E : ZE) (CT : Nat → ZC) (X : ZK) (Rt : ZR) (ls : ZL) (st : List ZV) (h : ZH) (b : ZB2) : Prop := zB E CT k_X11_beside_32 32 ls st h b (fun t ls st h b => if t = 45 then bk_X11_beside_45 E CT X Rt ls st h b else if t = 46 then bk_X11_beside_46 E CT X Rt ls st h b else X t ls st h b) Rt
theorem bs_X11_beside_32 {E : ZE} {CT : Nat → ZC} {X : ZK} {Rt : ZR} {ls : ZL} {st : List ZV} {h : ZH} {b : ZB2} (hX : zCl E mX11_beside 11 false CT Rt X) (q : bk_X11_beside_32 E CT X Rt ls st h b) : X 32 ls st h b := by
  refine hX k_X11_beside_32 32 ok_X11_beside_32 _ ?_ ls st h b q
  exact by
    intro t ls st h b q
    by_cases c : t = 45
    · subst c; rw [if_pos rfl] at q; exact bs_X11_beside_45 hX q
    rw [if_neg c] at q
    by_cases c : t = 46
    · subst c; rw [if_pos rfl] at q; exact bs_X11_beside_46 hX q
    rw [if_neg c] at q
    exact q
def bk_X11_beside_63 (E : ZE) (CT : Nat → ZC) (X : ZK) (Rt : ZR) (ls : ZL) (st : List ZV) (h : ZH) (b : ZB2) : Prop := zB E CT k_X11_beside_63 63 ls st h b (fun t ls st h b => X t ls st h b) Rt
theorem bs_X11_beside_63 {E : ZE} {CT : Nat → ZC} {X : ZK} {Rt : ZR} {ls : ZL} {st : List ZV} {h : ZH} {b : ZB2} (hX : zCl E mX11_beside 11 false CT Rt X) (q : bk_X11_beside_63 E CT X Rt ls st h b) : X 63 ls st h b := by
  refine hX k_X11_beside_63 63 ok_X11_beside_63 _ ?_ ls st h b q
  exact fun t ls st h b q => q
def bk_X11_beside_62 (E : ZE) (CT : Nat → ZC) (X : ZK) (Rt : ZR) (ls : ZL) (st : List ZV) (h : ZH) (b : ZB2) : Prop := zB E CT k_X11_beside_62 62 ls st h b (fun t ls st h b => if t = 63 then bk_X11_beside_63 E CT X Rt ls st h b else X t ls st h b) Rt
theorem bs_X11_beside_62 {E : ZE} {CT : Nat → ZC} {X : ZK} {Rt : ZR} {ls : ZL} {st : List ZV} {h : ZH} {b : ZB2} (hX : zCl E mX11_beside 11 false CT Rt X) (q : bk_X11_beside_62 E CT X Rt ls st h b) : X 62 ls st h b := by
  refine hX k_X11_beside_62 62 ok_X11_beside_62 _ ?_ ls st h b q
  exact by
    intro t ls st h b q
    by_cases c : t = 63
    · subst c; rw [if_pos rfl] at q; exact bs_X11_beside_63 hX q
    rw [if_neg c] at q
    exact q
def bk_X11_beside_47 (E : ZE) (CT : Nat → ZC) (X : ZK) (Rt : ZR) (ls : ZL) (st : List ZV) (h : ZH) (b : ZB2) : Prop := zB E CT k_X11_beside_47 47 ls st h b (fun t ls st h b => if t = 62 then bk_X11_beside_62 E CT X Rt ls st h b else if t = 63 then bk_X11_beside_63 E CT X Rt ls st h b else X t ls st h b) Rt
theorem bs_X11_beside_47 {E : ZE} {CT : Nat → ZC} {X : ZK} {Rt : ZR} {ls : ZL} {st : List ZV} {h : ZH} {b : ZB2} (hX : zCl E mX11_beside 11 false CT Rt X) (q : bk_X11_beside_47 E CT X Rt ls st h b) : X 47 ls st h b := by
  refine hX k_X11_beside_47 47 ok_X11_beside_47 _ ?_ ls st h b q
  exact by
    intro t ls st h b q
    by_cases c : t = 62
    · subst c; rw [if_pos rfl] at q; exact bs_X11_beside_62 hX q
    rw [if_neg c] at q
    by_cases c : t = 63
    · subst c; rw [if_pos rfl] at q; exact bs_X11_beside_63 hX q
    rw [if_neg c] at q
    exact q
def bk_X11_beside_78 (E : ZE) (CT : Nat → ZC) (X : ZK) (Rt : ZR) (ls : ZL) (st : List ZV) (h : ZH) (b : ZB2) : Prop := zB E CT k_X11_beside_78 78 ls st h b (fun t ls st h b => X t ls st h b) Rt
theorem bs_X11_beside_78 {E : ZE} {CT : Nat → ZC} {X : ZK} {Rt : ZR} {ls : ZL} {st : List ZV} {h : ZH} {b : ZB2} (hX : zCl E mX11_beside 11 false CT Rt X) (q : bk_X11_beside_78 E CT X Rt ls st h b) : X 78 ls st h b := by
  refine hX k_X11_beside_78 78 ok_X11_beside_78 _ ?_ ls st h b q
  exact fun t ls st h b q => q
def bk_X11_beside_77 (E : ZE) (CT : Nat → ZC) (X : ZK) (Rt : ZR) (ls : ZL) (st : List ZV) (h : ZH) (b : ZB2) : Prop := zB E CT k_X11_beside_77 77 ls st h b (fun t ls st h b => if t = 78 then bk_X11_beside_78 E CT X Rt ls st h b else X t ls st h b) Rt
theorem bs_X11_beside_77 {E : ZE} {CT : Nat → ZC} {X : ZK} {Rt : ZR} {ls : ZL} {st : List ZV} {h : ZH} {b : ZB2} (hX : zCl E mX11_beside 11 false CT Rt X) (q : bk_X11_beside_77 E CT X Rt ls st h b) : X 77 ls st h b := by
  refine hX k_X11_beside_77 77 ok_X11_beside_77 _ ?_ ls st h b q
  exact by
    intro t ls st h b q
    by_cases c : t = 78
    · subst c; rw [if_pos rfl] at q; exact bs_X11_beside_78 hX q
    rw [if_neg c] at q
    exact q
def bk_X11_beside_64 (E : ZE) (CT : Nat → ZC) (X : ZK) (Rt : ZR) (ls : ZL) (st : List ZV) (h : ZH) (b : ZB2) : Prop := zB E CT k_X11_beside_64 64 ls st h b (fun t ls st h b => if t = 77 then bk_X11_beside_77 E CT X Rt ls st h b else if t = 78 then bk_X11_beside_78 E CT X Rt ls st h b else X t ls st h b) Rt
theorem bs_X11_beside_64 {E : ZE} {CT : Nat → ZC} {X : ZK} {Rt : ZR} {ls : ZL} {st : List ZV} {h : ZH} {b : ZB2} (hX : zCl E mX11_beside 11 false CT Rt X) (q : bk_X11_beside_64 E CT X Rt ls st h b) : X 64 ls st h b := by
  refine hX k_X11_beside_64 64 ok_X11_beside_64 _ ?_ ls st h b q
  exact by
    intro t ls st h b q
    by_cases c : t = 77
    · subst c; rw [if_pos rfl] at q; exact bs_X11_beside_77 hX q
    rw [if_neg c] at q
    by_cases c : t = 78
    · subst c; rw [if_pos rfl] at q; exact bs_X11_beside_78 hX q
    rw [if_neg c] at q
    exact q
def bk_X11_beside_93 (E : ZE) (CT : Nat → ZC) (X : ZK) (Rt : ZR) (ls : ZL) (st : List ZV) (h : ZH) (b : ZB2) : Prop := zB E CT k_X11_beside_93 93 ls st h b (fun t ls st h b => X t ls st h b) Rt
theorem bs_X11_beside_93 {E : ZE} {CT : Nat → ZC} {X : ZK} {Rt : ZR} {ls : ZL} {st : List ZV} {h : ZH} {b : ZB2} (hX : zCl E mX11_beside 11 false CT Rt X) (q : bk_X11_beside_93 E CT X Rt ls st h b) : X 93 ls st h b := by
  refine hX k_X11_beside_93 93 ok_X11_beside_93 _ ?_ ls st h b q
  exact fun t ls st h b q => q
def bk_X11_beside_92 (E : ZE) (CT : Nat → ZC) (X : ZK) (Rt : ZR) (ls : ZL) (st : List ZV) (h : ZH) (b : ZB2) : Prop := zB E CT k_X11_beside_92 92 ls st h b (fun t ls st h b => if t = 93 then bk_X11_beside_93 E CT X Rt ls st h b else X t ls st h b) Rt
theorem bs_X11_beside_92 {E : ZE} {CT : Nat → ZC} {X : ZK} {Rt : ZR} {ls : ZL} {st : List ZV} {h : ZH} {b : ZB2} (hX : zCl E mX11_beside 11 false CT Rt X) (q : bk_X11_beside_92 E CT X Rt ls st h b) : X 92 ls st h b := by
  refine hX k_X11_beside_92 92 ok_X11_beside_92 _ ?_ ls st h b q
  exact by
    intro t ls st h b q
    by_cases c : t = 93
    · subst c; rw [if_pos rfl] at q; exact bs_X11_beside_93 hX q
    rw [if_neg c] at q
    exact q
def bk_X11_beside_79 (E : ZE) (CT : Nat → ZC) (X : ZK) (Rt : ZR) (ls : ZL) (st : List ZV) (h : ZH) (b : ZB2) : Prop := zB E CT k_X11_beside_79 79 ls st h b (fun t ls st h b => if t = 92 then bk_X11_beside_92 E CT X Rt ls st h b else if t = 93 then bk_X11_beside_93 E CT X Rt ls st h b else X t ls st h b) Rt
theorem bs_X11_beside_79 {E : ZE} {CT : Nat → ZC} {X : ZK} {Rt : ZR} {ls : ZL} {st : List ZV} {h : ZH} {b : ZB2} (hX : zCl E mX11_beside 11 false CT Rt X) (q : bk_X11_beside_79 E CT X Rt ls st h b) : X 79 ls st h b := by
  refine hX k_X11_beside_79 79 ok_X11_beside_79 _ ?_ ls st h b q
  exact by
    intro t ls st h b q
    by_cases c : t = 92
    · subst c; rw [if_pos rfl] at q; exact bs_X11_beside_92 hX q
    rw [if_neg c] at q
    by_cases c : t = 93
    · subst c; rw [if_pos rfl] at q; exact bs_X11_beside_93 hX q
    rw [if_neg c] at q
    exact q
def bk_X11_beside_94 (E : ZE) (CT : Nat → ZC) (X : ZK) (Rt : ZR) (ls : ZL) (st : List ZV) (h : ZH) (b : ZB2) : Prop := zB E CT k_X11_beside_94 94 ls st h b (fun t ls st h b => X t ls st h b) Rt
theorem bs_X11_beside_94 {E : ZE} {CT : Nat → ZC} {X : ZK} {Rt : ZR} {ls : ZL} {st : List ZV} {h : ZH} {b : ZB2} (hX : zCl E mX11_beside 11 false CT Rt X) (q : bk_X11_beside_94 E CT X Rt ls st h b) : X 94 ls st h b := by
  refine hX k_X11_beside_94 94 ok_X11_beside_94 _ ?_ ls st h b q
  exact fun t ls st h b q => q
def bk_X11_beside_0 (E : ZE) (CT : Nat → ZC) (X : ZK) (Rt : ZR) (ls : ZL) (st : List ZV) (h : ZH) (b : ZB2) : Prop := zB E CT k_X11_beside_0 0 ls st h b (fun t ls st h b => if t = 32 then bk_X11_beside_32 E CT X Rt ls st h b else if t = 47 then bk_X11_beside_47 E CT X Rt ls st h b else if t = 64 then bk_X11_beside_64 E CT X Rt ls st h b else if t = 79 then bk_X11_beside_79 E CT X Rt ls st h b else if t = 94 then bk_X11_beside_94 E CT X Rt ls st h b else X t ls st h b) Rt
theorem bs_X11_beside_0 {E : ZE} {CT : Nat → ZC} {X : ZK} {Rt : ZR} {ls : ZL} {st : List ZV} {h : ZH} {b : ZB2} (hX : zCl E mX11_beside 11 false CT Rt X) (q : bk_X11_beside_0 E CT X Rt ls st h b) : X 0 ls st h b := by
  refine hX k_X11_beside_0 0 ok_X11_beside_0 _ ?_ ls st h b q
  exact by
    intro t ls st h b q
    by_cases c : t = 32
    · subst c; rw [if_pos rfl] at q; exact bs_X11_beside_32 hX q
    rw [if_neg c] at q
    by_cases c : t = 47
    · subst c; rw [if_pos rfl] at q; exact bs_X11_beside_47 hX q
    rw [if_neg c] at q
    by_cases c : t = 64
    · subst c; rw [if_pos rfl] at q; exact bs_X11_beside_64 hX q
    rw [if_neg c] at q
    by_cases c : t = 79
    · subst c; rw [if_pos rfl] at q; exact bs_X11_beside_79 hX q
    rw [if_neg c] at q
    by_cases c : t = 94
    · subst c; rw [if_pos rfl] at q; exact bs_X11_beside_94 hX q
    rw [if_neg c] at q
    exact q
-- X11_beside: cuts []
def k_X11_heads_0 : List ZI := [(.aload_n 0, 1, (0, [0], [])), (.iconst 0, 1, (0, [], [])), (.iconst 0, 1, (0, [], [])), (.invokevirtual 161, 3, (0, [127, 3, 0, 11], [])), (.aload_n 0, 1, (0, [0], [])), (.iconst 1, 1, (0, [], [])), (.iconst 0, 1, (0, [], [])), (.invokevirtual 161, 3, (0, [127, 3, 0, 11], [])), (.invokestatic 164, 3, (0, [151, 2, 0, 11], [])), (.ireturn, 1, (0, [], []))]
theorem ok_X11_heads_0 : zOK cX11_heads 11 false 1 k_X11_heads_0 0 = true := zOK_by (by decide +kernel)
theorem rt_X11_heads {g : Nat} {post : Option ZV → ZH → Prop} {h : ZH} {b : ZB2} {z : Int} : zRt mX11_heads g post (some (.inl z)) h b = (post (some (.inl z)) h ∧ h.1.length = g) := by show (_ ∧ _ ∧ True) = _; simp
def bk_X11_heads_0 (E : ZE) (CT : Nat → ZC) (X : ZK) (Rt : ZR) (ls : ZL) (st : List ZV) (h : ZH) (b : ZB2) : Prop := zB E CT k_X11_heads_0 0 ls st h b (fun t ls st h b => X t ls st h b) Rt
theorem bs_X11_heads_0 {E : ZE} {CT : Nat → ZC} {X : ZK} {Rt : ZR} {ls : ZL} {st : List ZV} {h : ZH} {b : ZB2} (hX : zCl E mX11_heads 11 false CT Rt X) (q : bk_X11_heads_0 E CT X Rt ls st h b) : X 0 ls st h b := by
  refine hX k_X11_heads_0 0 ok_X11_heads_0 _ ?_ ls st h b q
  exact fun t ls st h b q => q
-- X11_heads: cuts []
def k_X11_isPut_0 : List ZI := [(.aload_n 0, 1, (0, [0], [])), (.getfield 7, 3, (0, [11, 0], [])), (.sipush 134, 3, (0, [], [])), (.iconst 4, 1, (0, [], [])), (.iload_n 1, 1, (0, [1], [])), (.imul, 1, (0, [], [])), (.iadd, 1, (0, [], [])), (.iconst 0, 1, (0, [], [])), (.iadd, 1, (0, [], [])), (.iload_n 2, 1, (0, [2], [])), (.iastore, 1, (0, [], [])), (.aload_n 0, 1, (0, [0], [])), (.getfield 7, 3, (0, [11, 0], [])), (.bipush 70, 2, (0, [], [])), (.iload_n 2, 1, (0, [2], [])), (.iadd, 1, (0, [], [])), (.iconst 1, 1, (0, [], [])), (.iastore, 1, (0, [], [])), (.iconst 0, 1, (0, [], [])), (.istore_n 3, 1, (0, [3], []))]
theorem ok_X11_isPut_0 : zOK cX11_isPut 11 false 4 k_X11_isPut_0 0 = true := zOK_by (by decide +kernel)
def k_X11_isPut_27 : List ZI := [(.iload_n 3, 1, (0, [3], [])), (.bipush 10, 2, (0, [], [])), (.if_icmp .ge 25, 3, (0, [55], [])), (.aload_n 0, 1, (0, [0], [])), (.getfield 7, 3, (0, [11, 0], [])), (.sipush 142, 3, (0, [], [])), (.bipush 10, 2, (0, [], [])), (.iload_n 1, 1, (0, [1], [])), (.imul, 1, (0, [], [])), (.iadd, 1, (0, [], [])), (.iload_n 3, 1, (0, [3], [])), (.iadd, 1, (0, [], [])), (.iload_n 2, 1, (0, [2], [])), (.iastore, 1, (0, [], [])), (.iinc 3 1, 3, (0, [3], [])), (.goto (-25), 3, (0, [27], []))]
theorem ok_X11_isPut_27 : zOK cX11_isPut 11 false 4 k_X11_isPut_27 27 = true := zOK_by (by decide +kernel)
def k_X11_isPut_55 : List ZI := [(.return_, 1, (0, [], []))]
theorem ok_X11_isPut_55 : zOK cX11_isPut 11 false 4 k_X11_isPut_55 55 = true := zOK_by (by decide +kernel)
theorem rt_X11_isPut {g : Nat} {post : Option ZV → ZH → Prop} {h : ZH} {b : ZB2} : zRt mX11_isPut g post none h b = (post none h ∧ h.1.length = g) := by show (_ ∧ _ ∧ True) = _; simp
def bk_X11_isPut_0 (E : ZE) (CT : Nat → ZC) (X : ZK) (Rt : ZR) (ls : ZL) (st : List ZV) (h : ZH) (b : ZB2) : Prop := zB E CT k_X11_isPut_0 0 ls st h b (fun t ls st h b => X t ls st h b) Rt
theorem bs_X11_isPut_0 {E : ZE} {CT : Nat → ZC} {X : ZK} {Rt : ZR} {ls : ZL} {st : List ZV} {h : ZH} {b : ZB2} (hX : zCl E mX11_isPut 11 false CT Rt X) (q : bk_X11_isPut_0 E CT X Rt ls st h b) : X 0 ls st h b := by
  refine hX k_X11_isPut_0 0 ok_X11_isPut_0 _ ?_ ls st h b q
  exact fun t ls st h b q => q
def bk_X11_isPut_55 (E : ZE) (CT : Nat → ZC) (X : ZK) (Rt : ZR) (ls : ZL) (st : List ZV) (h : ZH) (b : ZB2) : Prop := zB E CT k_X11_isPut_55 55 ls st h b (fun t ls st h b => X t ls st h b) Rt
theorem bs_X11_isPut_55 {E : ZE} {CT : Nat → ZC} {X : ZK} {Rt : ZR} {ls : ZL} {st : List ZV} {h : ZH} {b : ZB2} (hX : zCl E mX11_isPut 11 false CT Rt X) (q : bk_X11_isPut_55 E CT X Rt ls st h b) : X 55 ls st h b := by
  refine hX k_X11_isPut_55 55 ok_X11_isPut_55 _ ?_ ls st h b q
  exact fun t ls st h b q => q
def bk_X11_isPut_27 (E : ZE) (CT : Nat → ZC) (X : ZK) (Rt : ZR) (ls : ZL) (st : List ZV) (h : ZH) (b : ZB2) : Prop := zB E CT k_X11_isPut_27 27 ls st h b (fun t ls st h b => if t = 55 then bk_X11_isPut_55 E CT X Rt ls st h b else X t ls st h b) Rt
theorem bs_X11_isPut_27 {E : ZE} {CT : Nat → ZC} {X : ZK} {Rt : ZR} {ls : ZL} {st : List ZV} {h : ZH} {b : ZB2} (hX : zCl E mX11_isPut 11 false CT Rt X) (q : bk_X11_isPut_27 E CT X Rt ls st h b) : X 27 ls st h b := by
  refine hX k_X11_isPut_27 27 ok_X11_isPut_27 _ ?_ ls st h b q
  exact by
    intro t ls st h b q
    by_cases c : t = 55
    · subst c; rw [if_pos rfl] at q; exact bs_X11_isPut_55 hX q
    rw [if_neg c] at q
    exact q
-- X11_isPut: cuts [27]
def k_X11_heardBy_0 : List ZI := [(.aload_n 0, 1, (0, [0], [])), (.getfield 7, 3, (0, [11, 0], [])), (.sipush 142, 3, (0, [], [])), (.bipush 10, 2, (0, [], [])), (.iconst 1, 1, (0, [], [])), (.iload_n 1, 1, (0, [1], [])), (.isub, 1, (0, [], [])), (.imul, 1, (0, [], [])), (.iadd, 1, (0, [], [])), (.aload_n 0, 1, (0, [0], [])), (.getfield 7, 3, (0, [11, 0], [])), (.iconst 2, 1, (0, [], [])), (.iaload, 1, (0, [], [])), (.iadd, 1, (0, [], [])), (.iaload, 1, (0, [], [])), (.ireturn, 1, (0, [], []))]
theorem ok_X11_heardBy_0 : zOK cX11_heardBy 11 false 2 k_X11_heardBy_0 0 = true := zOK_by (by decide +kernel)
theorem rt_X11_heardBy {g : Nat} {post : Option ZV → ZH → Prop} {h : ZH} {b : ZB2} {z : Int} : zRt mX11_heardBy g post (some (.inl z)) h b = (post (some (.inl z)) h ∧ h.1.length = g) := by show (_ ∧ _ ∧ True) = _; simp
def bk_X11_heardBy_0 (E : ZE) (CT : Nat → ZC) (X : ZK) (Rt : ZR) (ls : ZL) (st : List ZV) (h : ZH) (b : ZB2) : Prop := zB E CT k_X11_heardBy_0 0 ls st h b (fun t ls st h b => X t ls st h b) Rt
theorem bs_X11_heardBy_0 {E : ZE} {CT : Nat → ZC} {X : ZK} {Rt : ZR} {ls : ZL} {st : List ZV} {h : ZH} {b : ZB2} (hX : zCl E mX11_heardBy 11 false CT Rt X) (q : bk_X11_heardBy_0 E CT X Rt ls st h b) : X 0 ls st h b := by
  refine hX k_X11_heardBy_0 0 ok_X11_heardBy_0 _ ?_ ls st h b q
  exact fun t ls st h b q => q
-- X11_heardBy: cuts []
def k_X11_farHeard_0 : List ZI := [(.aload_n 0, 1, (0, [0], [])), (.iload_n 1, 1, (0, [1], [])), (.iconst 2, 1, (0, [], [])), (.invokevirtual 167, 3, (0, [126, 3, 0, 11], [])), (.istore_n 2, 1, (0, [2], [])), (.aload_n 0, 1, (0, [0], [])), (.iload_n 2, 1, (0, [2], [])), (.iconst 0, 1, (0, [], [])), (.invokevirtual 161, 3, (0, [127, 3, 0, 11], [])), (.aload_n 0, 1, (0, [0], [])), (.iload_n 2, 1, (0, [2], [])), (.invokevirtual 170, 3, (0, [155, 2, 0, 11], [])), (.invokestatic 164, 3, (0, [151, 2, 0, 11], [])), (.ireturn, 1, (0, [], []))]
theorem ok_X11_farHeard_0 : zOK cX11_farHeard 11 false 3 k_X11_farHeard_0 0 = true := zOK_by (by decide +kernel)
theorem rt_X11_farHeard {g : Nat} {post : Option ZV → ZH → Prop} {h : ZH} {b : ZB2} {z : Int} : zRt mX11_farHeard g post (some (.inl z)) h b = (post (some (.inl z)) h ∧ h.1.length = g) := by show (_ ∧ _ ∧ True) = _; simp
def bk_X11_farHeard_0 (E : ZE) (CT : Nat → ZC) (X : ZK) (Rt : ZR) (ls : ZL) (st : List ZV) (h : ZH) (b : ZB2) : Prop := zB E CT k_X11_farHeard_0 0 ls st h b (fun t ls st h b => X t ls st h b) Rt
theorem bs_X11_farHeard_0 {E : ZE} {CT : Nat → ZC} {X : ZK} {Rt : ZR} {ls : ZL} {st : List ZV} {h : ZH} {b : ZB2} (hX : zCl E mX11_farHeard 11 false CT Rt X) (q : bk_X11_farHeard_0 E CT X Rt ls st h b) : X 0 ls st h b := by
  refine hX k_X11_farHeard_0 0 ok_X11_farHeard_0 _ ?_ ls st h b q
  exact fun t ls st h b q => q
-- X11_farHeard: cuts []
def k_X11_turned_0 : List ZI := [(.iload_n 0, 1, (0, [0], [])), (.iconst 4, 1, (0, [], [])), (.if_icmp .ne 7, 3, (0, [9], [])), (.iconst 4, 1, (0, [], [])), (.goto 8, 3, (0, [14], []))]
theorem ok_X11_turned_0 : zOK cX11_turned 11 false 2 k_X11_turned_0 0 = true := zOK_by (by decide +kernel)
def k_X11_turned_9 : List ZI := [(.iload_n 0, 1, (0, [0], [])), (.iload_n 1, 1, (0, [1], [])), (.iadd, 1, (0, [], [])), (.iconst 4, 1, (0, [], [])), (.irem, 1, (0, [], []))]
theorem ok_X11_turned_9 : zOK cX11_turned 11 false 2 k_X11_turned_9 9 = true := zOK_by (by decide +kernel)
def k_X11_turned_14 : List ZI := [(.ireturn, 1, (0, [], []))]
theorem ok_X11_turned_14 : zOK cX11_turned 11 false 2 k_X11_turned_14 14 = true := zOK_by (by decide +kernel)
theorem rt_X11_turned {g : Nat} {post : Option ZV → ZH → Prop} {h : ZH} {b : ZB2} {z : Int} : zRt mX11_turned g post (some (.inl z)) h b = (post (some (.inl z)) h ∧ h.1.length = g) := by show (_ ∧ _ ∧ True) = _; simp
def bk_X11_turned_14 (E : ZE) (CT : Nat → ZC) (X : ZK) (Rt : ZR) (ls : ZL) (st : List ZV) (h : ZH) (b : ZB2) : Prop := zB E CT k_X11_turned_14 14 ls st h b (fun t ls st h b => X t ls st h b) Rt
theorem bs_X11_turned_14 {E : ZE} {CT : Nat → ZC} {X : ZK} {Rt : ZR} {ls : ZL} {st : List ZV} {h : ZH} {b : ZB2} (hX : zCl E mX11_turned 11 false CT Rt X) (q : bk_X11_turned_14 E CT X Rt ls st h b) : X 14 ls st h b := by
  refine hX k_X11_turned_14 14 ok_X11_turned_14 _ ?_ ls st h b q
  exact fun t ls st h b q => q
def bk_X11_turned_9 (E : ZE) (CT : Nat → ZC) (X : ZK) (Rt : ZR) (ls : ZL) (st : List ZV) (h : ZH) (b : ZB2) : Prop := zB E CT k_X11_turned_9 9 ls st h b (fun t ls st h b => if t = 14 then bk_X11_turned_14 E CT X Rt ls st h b else X t ls st h b) Rt
theorem bs_X11_turned_9 {E : ZE} {CT : Nat → ZC} {X : ZK} {Rt : ZR} {ls : ZL} {st : List ZV} {h : ZH} {b : ZB2} (hX : zCl E mX11_turned 11 false CT Rt X) (q : bk_X11_turned_9 E CT X Rt ls st h b) : X 9 ls st h b := by
  refine hX k_X11_turned_9 9 ok_X11_turned_9 _ ?_ ls st h b q
  exact by
    intro t ls st h b q
    by_cases c : t = 14
    · subst c; rw [if_pos rfl] at q; exact bs_X11_turned_14 hX q
    rw [if_neg c] at q
    exact q
def bk_X11_turned_0 (E : ZE) (CT : Nat → ZC) (X : ZK) (Rt : ZR) (ls : ZL) (st : List ZV) (h : ZH) (b : ZB2) : Prop := zB E CT k_X11_turned_0 0 ls st h b (fun t ls st h b => if t = 9 then bk_X11_turned_9 E CT X Rt ls st h b else if t = 14 then bk_X11_turned_14 E CT X Rt ls st h b else X t ls st h b) Rt
theorem bs_X11_turned_0 {E : ZE} {CT : Nat → ZC} {X : ZK} {Rt : ZR} {ls : ZL} {st : List ZV} {h : ZH} {b : ZB2} (hX : zCl E mX11_turned 11 false CT Rt X) (q : bk_X11_turned_0 E CT X Rt ls st h b) : X 0 ls st h b := by
  refine hX k_X11_turned_0 0 ok_X11_turned_0 _ ?_ ls st h b q
  exact by
    intro t ls st h b q
    by_cases c : t = 9
    · subst c; rw [if_pos rfl] at q; exact bs_X11_turned_9 hX q
    rw [if_neg c] at q
    by_cases c : t = 14
    · subst c; rw [if_pos rfl] at q; exact bs_X11_turned_14 hX q
    rw [if_neg c] at q
    exact q
-- X11_turned: cuts []
def B_far (a : Int) (b : Int) (post : Option ZV → Prop) : Prop := 0 ≤ a ∧ a ≤ 63 ∧ 0 ≤ b ∧ b ≤ 63 ∧ post (some (.inl (fr a b)))
def C_far : ZC := fun as h post => match as with
  | [.inl a, .inl b] => B_far a b (fun v => post v h)
  | _ => False
theorem r_far {a : Int} {b : Int} {h : ZH} {post : Option ZV → ZH → Prop} : C_far [.inl a, .inl b] h post = B_far a b (fun v => post v h) := rfl
def ct_far : Nat → ZC := fun n => if n = 122 then C_size else fun _ _ _ => False
theorem ct_far_size {as : List ZV} {h : ZH} {post : Option ZV → ZH → Prop} : ct_far 122 as h post = C_size as h post := rfl
theorem c_far {E : ZE} {d : Nat} (hd : 2 ≤ d) : zMet E d mX11_far C_far := by
  refine zmet_of (o := 11) (ini := false) (CT := ct_far) gd_X11_far rfl (fun h => by cases h) (by omega) ?_ ?_
  · intro n as h post hh
    unfold ct_far at hh
    by_cases c : n = 122
    · subst c; exact ⟨gd_X11_size, 1, by omega, c_size (by omega)⟩
    rw [if_neg c] at hh
    exact hh.elim
  intro as h post hC
  match as, hC with
  | [.inl a, .inl b], hC =>
    refine ⟨Nat.le_of_ble_eq_true rfl, fun X hX => bs_X11_far_0 hX ?_⟩
    have hC : B_far a b (fun v => post v h) := hC
    simp only [B_far] at hC
    show bk_X11_far_0 E ct_far X _ [some (.inl a), some (.inl b)] [] h (0, 0)
    obtain ⟨h1, h2, h3, h4, hC⟩ := hC
    have ha : zr a = a := zr_of (by omega) (by omega)
    have hb : zr b = b := zr_of (by omega) (by omega)
    simp only [bk_X11_far_0, k_X11_far_0, ↓e_rk1, ↓e_rk0, ↓e_sk0, ↓e_sks, ↓e_ldi0, ↓e_ldis, ↓e_ldl0, ↓e_ldls, ↓e_lda0, ↓e_ldas, ↓e_ok0, ↓e_okss, ↓e_ok1i, ↓e_ok1r, ↓e_ok1n, ↓e_sti, ↓e_sta, ↓e_1, ↓e_2, ↓e_l1, ↓e_l2, ↓e_li, ↓e_sw0, ↓e_sws, ↓e_ceq, ↓e_cne, ↓e_clt, ↓e_cge, ↓e_cgt, ↓e_cle, ↓e_nil, ↓e_cons, ↓e_iconst, ↓e_bipush, ↓e_sipush, ↓e_ldc, ↓e_ldcw, ↓e_ldc2, ↓e_lconst, ↓e_iloadn, ↓e_iload, ↓e_lloadn, ↓e_lload, ↓e_aloadn, ↓e_aload, ↓e_istoren, ↓e_istore, ↓e_astoren, ↓e_astore, ↓e_add, ↓e_iinc, ↓e_iadd, ↓e_isub, ↓e_imul, ↓e_iand, ↓e_ior, ↓e_ixor, ↓e_ishl, ↓e_iushr, ↓e_idiv, ↓e_irem, ↓e_ineg, ↓e_i2l, ↓e_i2b, ↓e_i2s, ↓e_l2i, ↓e_land, ↓e_lor, ↓e_lshl, ↓e_lshr, ↓e_lushr, ↓e_lcmp, ↓e_dupi, ↓e_dupr, ↓e_popi, ↓e_dup2, ↓e_goto, ↓e_if, ↓e_icmp, ↓e_tsw, ↓e_lsw, ↓e_getf, ↓e_putf, ↓e_gets, ↓e_iald, ↓e_cald, ↓e_iast, ↓e_aald, ↓e_aast, ↓e_len, ↓e_copy, ↓e_abs, ↓e_max, ↓e_min, ↓e_iret, ↓e_aret, ↓e_vret, ↓e_is0, ↓e_is1, ↓e_is2, ↓e_is3, ↓e_is4, ↓e_iv1, ↓e_iv2, ↓e_iv3, ↓e_iv4, ↓e_iv5, ↓e_iv6, ↓rt_X11_far, ↓reduceIte, Nat.reduceAdd, Nat.reduceEqDiff, ↓zcl0, ↓zclv, List.map_nil, List.sum_nil, List.map_cons, List.sum_cons, zcat, true_and, and_true, Nat.reduceLeDiff, Nat.reduceAdd, eq_self, forall_const, e_ok0, e_okss, e_ok1i, e_ok1r, e_ok1n, zl_8, Int.reduceToNat, Int.reduceAdd, Int.reduceMul, Int.reduceSub, Int.reduceNeg, Int.reduceLT, Int.reduceLE, Int.reduceEq, not_false_eq_true, not_true_eq_false, false_implies, true_implies, implies_true, Int.reduceDiv, Int.reduceMod, zr8_zr, zr_zbo, z01_zbo, z01_0, z01_1, zbo_eq0, zup_eq, zup_o, zup_k, ne_eq, ↓ct_far_size, ↓r_size, ↓B_size, ha, hb, td_of, h1, td_of, h3, tm_of, h1, tm_of, h3]
    refine ⟨⟨by omega, by omega⟩, ⟨by omega, by omega⟩, hC⟩
def B_beside (c : Int) (w : Int) (post : Option ZV → Prop) : Prop := 0 ≤ c ∧ c ≤ 63 ∧ rg w ∧ post (some (.inl (bsd c w)))
def C_beside : ZC := fun as h post => match as with
  | [.inl c, .inl w] => B_beside c w (fun v => post v h)
  | _ => False
theorem r_beside {c : Int} {w : Int} {h : ZH} {post : Option ZV → ZH → Prop} : C_beside [.inl c, .inl w] h post = B_beside c w (fun v => post v h) := rfl
def ct_beside : Nat → ZC := fun n => fun _ _ _ => False
theorem c_beside {E : ZE} {d : Nat} (hd : 1 ≤ d) : zMet E d mX11_beside C_beside := by
  refine zmet_of (o := 11) (ini := false) (CT := ct_beside) gd_X11_beside rfl (fun h => by cases h) (by omega) ?_ ?_
  · intro n as h post hh
    unfold ct_beside at hh
    exact hh.elim
  intro as h post hC
  match as, hC with
  | [.inl c, .inl w], hC =>
    refine ⟨Nat.le_of_ble_eq_true rfl, fun X hX => bs_X11_beside_0 hX ?_⟩
    have hC : B_beside c w (fun v => post v h) := hC
    simp only [B_beside] at hC
    show bk_X11_beside_0 E ct_beside X _ [some (.inl c), some (.inl w)] [] h (0, 0)
    obtain ⟨h1, h2, h3, hC⟩ := hC
    have ha : zr c = c := zr_of (by omega) (by omega)
    have hm : zr (c % 8) = c % 8 := zr_of (by omega) (by omega)
    simp only [bk_X11_beside_0, k_X11_beside_0, bk_X11_beside_32, k_X11_beside_32, bk_X11_beside_45, k_X11_beside_45, bk_X11_beside_46, k_X11_beside_46, bk_X11_beside_47, k_X11_beside_47, bk_X11_beside_62, k_X11_beside_62, bk_X11_beside_63, k_X11_beside_63, bk_X11_beside_64, k_X11_beside_64, bk_X11_beside_77, k_X11_beside_77, bk_X11_beside_78, k_X11_beside_78, bk_X11_beside_79, k_X11_beside_79, bk_X11_beside_92, k_X11_beside_92, bk_X11_beside_93, k_X11_beside_93, bk_X11_beside_94, k_X11_beside_94, ↓e_rk1, ↓e_rk0, ↓e_sk0, ↓e_sks, ↓e_ldi0, ↓e_ldis, ↓e_ldl0, ↓e_ldls, ↓e_lda0, ↓e_ldas, ↓e_ok0, ↓e_okss, ↓e_ok1i, ↓e_ok1r, ↓e_ok1n, ↓e_sti, ↓e_sta, ↓e_1, ↓e_2, ↓e_l1, ↓e_l2, ↓e_li, ↓e_sw0, ↓e_sws, ↓e_ceq, ↓e_cne, ↓e_clt, ↓e_cge, ↓e_cgt, ↓e_cle, ↓e_nil, ↓e_cons, ↓e_iconst, ↓e_bipush, ↓e_sipush, ↓e_ldc, ↓e_ldcw, ↓e_ldc2, ↓e_lconst, ↓e_iloadn, ↓e_iload, ↓e_lloadn, ↓e_lload, ↓e_aloadn, ↓e_aload, ↓e_istoren, ↓e_istore, ↓e_astoren, ↓e_astore, ↓e_add, ↓e_iinc, ↓e_iadd, ↓e_isub, ↓e_imul, ↓e_iand, ↓e_ior, ↓e_ixor, ↓e_ishl, ↓e_iushr, ↓e_idiv, ↓e_irem, ↓e_ineg, ↓e_i2l, ↓e_i2b, ↓e_i2s, ↓e_l2i, ↓e_land, ↓e_lor, ↓e_lshl, ↓e_lshr, ↓e_lushr, ↓e_lcmp, ↓e_dupi, ↓e_dupr, ↓e_popi, ↓e_dup2, ↓e_goto, ↓e_if, ↓e_icmp, ↓e_tsw, ↓e_lsw, ↓e_getf, ↓e_putf, ↓e_gets, ↓e_iald, ↓e_cald, ↓e_iast, ↓e_aald, ↓e_aast, ↓e_len, ↓e_copy, ↓e_abs, ↓e_max, ↓e_min, ↓e_iret, ↓e_aret, ↓e_vret, ↓e_is0, ↓e_is1, ↓e_is2, ↓e_is3, ↓e_is4, ↓e_iv1, ↓e_iv2, ↓e_iv3, ↓e_iv4, ↓e_iv5, ↓e_iv6, ↓rt_X11_beside, ↓reduceIte, Nat.reduceAdd, Nat.reduceEqDiff, ↓zcl0, ↓zclv, List.map_nil, List.sum_nil, List.map_cons, List.sum_cons, zcat, true_and, and_true, Nat.reduceLeDiff, Nat.reduceAdd, eq_self, forall_const, e_ok0, e_okss, e_ok1i, e_ok1r, e_ok1n, zl_m1, zl_1, zl_7, zl_8, zl_56, Int.reduceToNat, Int.reduceAdd, Int.reduceMul, Int.reduceSub, Int.reduceNeg, Int.reduceLT, Int.reduceLE, Int.reduceEq, not_false_eq_true, not_true_eq_false, false_implies, true_implies, implies_true, Int.reduceDiv, Int.reduceMod, zr8_zr, zr_zbo, z01_zbo, z01_0, z01_1, zbo_eq0, zup_eq, zup_o, zup_k, ne_eq, ha, zr_rg, h3, tm_of, h1, hm]
    refine ⟨fun c1 => ⟨fun c2 => zpost hC ?_, fun c2 => zpost hC ?_⟩, fun c1 => ⟨fun c2 => ⟨fun c3 => zpost hC ?_, fun c3 => zpost hC ?_⟩, fun c2 => ⟨fun c3 => ⟨fun c4 => zpost hC ?_, fun c4 => zpost hC ?_⟩, fun c3 => ⟨fun c4 => ⟨fun c5 => zpost hC ?_, fun c5 => zpost hC ?_⟩, fun c4 => zpost hC ?_⟩⟩⟩⟩ <;> simp [bsd, *]
def B_heardBy (e : Int) (M : Nat → Nat → Int) (post : Option ZV → (Nat → Nat → Int) → Prop) : Prop := 0 ≤ e ∧ e < 2 ∧ 0 ≤ M 88 2 ∧ M 88 2 < 10 ∧ post (some (.inl (M 88 (142 + 10 * (1 - e) + M 88 2).toNat))) M
def C_heardBy : ZC := fun as h post => match as with
  | [.inr (.inr (.inl 87)), .inl e] => h.1 = zG ∧ B_heardBy e h.2 (fun v M => post v (zG, M))
  | _ => False
theorem r_heardBy {e : Int} {M : Nat → Nat → Int} {post : Option ZV → ZH → Prop} : C_heardBy [.inr (.inr (.inl 87)), .inl e] (zG, M) post = B_heardBy e M (fun v M => post v (zG, M)) := by show (zG = zG ∧ _) = _; simp
def ct_heardBy : Nat → ZC := fun n => fun _ _ _ => False
theorem c_heardBy {E : ZE} {d : Nat} (hd : 1 ≤ d) : zMet E d mX11_heardBy C_heardBy := by
  refine zmet_of (o := 11) (ini := false) (CT := ct_heardBy) gd_X11_heardBy rfl (fun h => by cases h) (by omega) ?_ ?_
  · intro n as h post hh
    unfold ct_heardBy at hh
    exact hh.elim
  intro as h post hC
  match as, hC with
  | [.inr (.inr (.inl 87)), .inl e], hC =>
    refine ⟨Nat.le_of_ble_eq_true rfl, fun X hX => bs_X11_heardBy_0 hX ?_⟩
    obtain ⟨G, M⟩ := h
    obtain ⟨hG, hC⟩ := hC
    dsimp only at hG
    subst hG
    simp only [B_heardBy] at hC
    show bk_X11_heardBy_0 E ct_heardBy X _ [some (.inr (.inr (.inl 87))), some (.inl e)] [] (zG, M) (0, 0)
    obtain ⟨h1, h2, h3, h4, hC⟩ := hC
    have hz : zr (142 + 10 * (1 - e) + M 88 2) = 142 + 10 * (1 - e) + M 88 2 := zr_of (by omega) (by omega)
    simp only [bk_X11_heardBy_0, k_X11_heardBy_0, ↓e_rk1, ↓e_rk0, ↓e_sk0, ↓e_sks, ↓e_ldi0, ↓e_ldis, ↓e_ldl0, ↓e_ldls, ↓e_lda0, ↓e_ldas, ↓e_ok0, ↓e_okss, ↓e_ok1i, ↓e_ok1r, ↓e_ok1n, ↓e_sti, ↓e_sta, ↓e_1, ↓e_2, ↓e_l1, ↓e_l2, ↓e_li, ↓e_sw0, ↓e_sws, ↓e_ceq, ↓e_cne, ↓e_clt, ↓e_cge, ↓e_cgt, ↓e_cle, ↓e_nil, ↓e_cons, ↓e_iconst, ↓e_bipush, ↓e_sipush, ↓e_ldc, ↓e_ldcw, ↓e_ldc2, ↓e_lconst, ↓e_iloadn, ↓e_iload, ↓e_lloadn, ↓e_lload, ↓e_aloadn, ↓e_aload, ↓e_istoren, ↓e_istore, ↓e_astoren, ↓e_astore, ↓e_add, ↓e_iinc, ↓e_iadd, ↓e_isub, ↓e_imul, ↓e_iand, ↓e_ior, ↓e_ixor, ↓e_ishl, ↓e_iushr, ↓e_idiv, ↓e_irem, ↓e_ineg, ↓e_i2l, ↓e_i2b, ↓e_i2s, ↓e_l2i, ↓e_land, ↓e_lor, ↓e_lshl, ↓e_lshr, ↓e_lushr, ↓e_lcmp, ↓e_dupi, ↓e_dupr, ↓e_popi, ↓e_dup2, ↓e_goto, ↓e_if, ↓e_icmp, ↓e_tsw, ↓e_lsw, ↓e_getf, ↓e_putf, ↓e_gets, ↓e_iald, ↓e_cald, ↓e_iast, ↓e_aald, ↓e_aast, ↓e_len, ↓e_copy, ↓e_abs, ↓e_max, ↓e_min, ↓e_iret, ↓e_aret, ↓e_vret, ↓e_is0, ↓e_is1, ↓e_is2, ↓e_is3, ↓e_is4, ↓e_iv1, ↓e_iv2, ↓e_iv3, ↓e_iv4, ↓e_iv5, ↓e_iv6, ↓rt_X11_heardBy, ↓reduceIte, Nat.reduceAdd, Nat.reduceEqDiff, ↓zcl0, ↓zclv, List.map_nil, List.sum_nil, List.map_cons, List.sum_cons, zcat, true_and, and_true, Nat.reduceLeDiff, Nat.reduceAdd, eq_self, forall_const, e_ok0, e_okss, e_ok1i, e_ok1r, e_ok1n, zl_1, zl_2, zl_10, zl_142, Int.reduceToNat, Int.reduceAdd, Int.reduceMul, Int.reduceSub, Int.reduceNeg, Int.reduceLT, Int.reduceLE, Int.reduceEq, not_false_eq_true, not_true_eq_false, false_implies, true_implies, implies_true, Int.reduceDiv, Int.reduceMod, zr8_zr, zr_zbo, z01_zbo, z01_0, z01_1, zbo_eq0, zup_eq, zup_o, zup_k, ne_eq, ↓v_87, ↓g_87_0, ↓l_88, ↓s_88, ↓n_88, ↓g_87_1, ↓l_89, ↓s_89, ↓n_89, ↓g_87_2, ↓l_90, ↓s_90, ↓n_90, ↓g_87_3, ↓p_87_3, ↓g_87_4, ↓l_91, ↓s_91, ↓n_91, ↓g_87_5, ↓p_87_5, ↓g_87_6, ↓p_87_6, ↓g_87_7, ↓p_87_7, ↓g_87_8, ↓p_87_8, ↓g_87_9, ↓p_87_9, ↓g_87_10, ↓p_87_10, ↓g_87_11, ↓l_92, ↓s_92, ↓n_92, ↓g_87_12, ↓l_93, ↓s_93, ↓n_93, ↓g_87_13, ↓p_87_13, ↓g_87_14, ↓l_94, ↓s_94, ↓n_94, ↓g_87_15, ↓p_87_15, ↓g_87_16, ↓l_95, ↓s_95, ↓n_95, ↓g_87_17, ↓l_96, ↓s_96, ↓n_96, ↓g_87_18, ↓l_97, ↓s_97, ↓n_97, ↓g_87_19, ↓p_87_19, ↓g_87_20, ↓p_87_20, ↓g_87_21, ↓l_98, ↓s_98, ↓n_98, ↓g_87_22, ↓l_99, ↓s_99, ↓n_99, ↓g_87_23, ↓l_100, ↓s_100, ↓n_100, ↓g_87_24, ↓l_101, ↓s_101, ↓n_101, hz]
    exact ⟨by omega, by omega, hC⟩
def B_turned (w : Int) (q : Int) (post : Option ZV → Prop) : Prop := 0 ≤ w ∧ w ≤ 4 ∧ 0 ≤ q ∧ q ≤ 4 ∧ post (some (.inl (trn w q)))
def C_turned : ZC := fun as h post => match as with
  | [.inl w, .inl q] => B_turned w q (fun v => post v h)
  | _ => False
theorem r_turned {w : Int} {q : Int} {h : ZH} {post : Option ZV → ZH → Prop} : C_turned [.inl w, .inl q] h post = B_turned w q (fun v => post v h) := rfl
def ct_turned : Nat → ZC := fun n => fun _ _ _ => False
theorem c_turned {E : ZE} {d : Nat} (hd : 1 ≤ d) : zMet E d mX11_turned C_turned := by
  refine zmet_of (o := 11) (ini := false) (CT := ct_turned) gd_X11_turned rfl (fun h => by cases h) (by omega) ?_ ?_
  · intro n as h post hh
    unfold ct_turned at hh
    exact hh.elim
  intro as h post hC
  match as, hC with
  | [.inl w, .inl q], hC =>
    refine ⟨Nat.le_of_ble_eq_true rfl, fun X hX => bs_X11_turned_0 hX ?_⟩
    have hC : B_turned w q (fun v => post v h) := hC
    simp only [B_turned] at hC
    show bk_X11_turned_0 E ct_turned X _ [some (.inl w), some (.inl q)] [] h (0, 0)
    obtain ⟨h1, h2, h3, h4, hC⟩ := hC
    have ha : zr w = w := zr_of (by omega) (by omega)
    have hb : zr (w + q) = w + q := zr_of (by omega) (by omega)
    simp only [bk_X11_turned_0, k_X11_turned_0, bk_X11_turned_9, k_X11_turned_9, bk_X11_turned_14, k_X11_turned_14, ↓e_rk1, ↓e_rk0, ↓e_sk0, ↓e_sks, ↓e_ldi0, ↓e_ldis, ↓e_ldl0, ↓e_ldls, ↓e_lda0, ↓e_ldas, ↓e_ok0, ↓e_okss, ↓e_ok1i, ↓e_ok1r, ↓e_ok1n, ↓e_sti, ↓e_sta, ↓e_1, ↓e_2, ↓e_l1, ↓e_l2, ↓e_li, ↓e_sw0, ↓e_sws, ↓e_ceq, ↓e_cne, ↓e_clt, ↓e_cge, ↓e_cgt, ↓e_cle, ↓e_nil, ↓e_cons, ↓e_iconst, ↓e_bipush, ↓e_sipush, ↓e_ldc, ↓e_ldcw, ↓e_ldc2, ↓e_lconst, ↓e_iloadn, ↓e_iload, ↓e_lloadn, ↓e_lload, ↓e_aloadn, ↓e_aload, ↓e_istoren, ↓e_istore, ↓e_astoren, ↓e_astore, ↓e_add, ↓e_iinc, ↓e_iadd, ↓e_isub, ↓e_imul, ↓e_iand, ↓e_ior, ↓e_ixor, ↓e_ishl, ↓e_iushr, ↓e_idiv, ↓e_irem, ↓e_ineg, ↓e_i2l, ↓e_i2b, ↓e_i2s, ↓e_l2i, ↓e_land, ↓e_lor, ↓e_lshl, ↓e_lshr, ↓e_lushr, ↓e_lcmp, ↓e_dupi, ↓e_dupr, ↓e_popi, ↓e_dup2, ↓e_goto, ↓e_if, ↓e_icmp, ↓e_tsw, ↓e_lsw, ↓e_getf, ↓e_putf, ↓e_gets, ↓e_iald, ↓e_cald, ↓e_iast, ↓e_aald, ↓e_aast, ↓e_len, ↓e_copy, ↓e_abs, ↓e_max, ↓e_min, ↓e_iret, ↓e_aret, ↓e_vret, ↓e_is0, ↓e_is1, ↓e_is2, ↓e_is3, ↓e_is4, ↓e_iv1, ↓e_iv2, ↓e_iv3, ↓e_iv4, ↓e_iv5, ↓e_iv6, ↓rt_X11_turned, ↓reduceIte, Nat.reduceAdd, Nat.reduceEqDiff, ↓zcl0, ↓zclv, List.map_nil, List.sum_nil, List.map_cons, List.sum_cons, zcat, true_and, and_true, Nat.reduceLeDiff, Nat.reduceAdd, eq_self, forall_const, e_ok0, e_okss, e_ok1i, e_ok1r, e_ok1n, zl_4, Int.reduceToNat, Int.reduceAdd, Int.reduceMul, Int.reduceSub, Int.reduceNeg, Int.reduceLT, Int.reduceLE, Int.reduceEq, not_false_eq_true, not_true_eq_false, false_implies, true_implies, implies_true, Int.reduceDiv, Int.reduceMod, zr8_zr, zr_zbo, z01_zbo, z01_0, z01_1, zbo_eq0, zup_eq, zup_o, zup_k, ne_eq, ha, hb]
    refine ⟨fun c1 => zpost hC ?_, fun c1 => zpost hC ?_⟩ <;> simp [trn, *]
    exact (tm_of (by omega)).symm
def B_heads (M : Nat → Nat → Int) (post : Option ZV → (Nat → Nat → Int) → Prop) : Prop := 0 ≤ M 88 134 ∧ M 88 134 ≤ 63 ∧ 0 ≤ M 88 138 ∧ M 88 138 ≤ 63 ∧ post (some (.inl (fr (M 88 134) (M 88 138)))) M
def C_heads : ZC := fun as h post => match as with
  | [.inr (.inr (.inl 87))] => h.1 = zG ∧ B_heads h.2 (fun v M => post v (zG, M))
  | _ => False
theorem r_heads {M : Nat → Nat → Int} {post : Option ZV → ZH → Prop} : C_heads [.inr (.inr (.inl 87))] (zG, M) post = B_heads M (fun v M => post v (zG, M)) := by show (zG = zG ∧ _) = _; simp
def ct_heads : Nat → ZC := fun n => if n = 127 then C_its else if n = 151 then C_far else fun _ _ _ => False
theorem ct_heads_its {as : List ZV} {h : ZH} {post : Option ZV → ZH → Prop} : ct_heads 127 as h post = C_its as h post := rfl
theorem ct_heads_far {as : List ZV} {h : ZH} {post : Option ZV → ZH → Prop} : ct_heads 151 as h post = C_far as h post := rfl
theorem c_heads {E : ZE} {d : Nat} (hd : 3 ≤ d) : zMet E d mX11_heads C_heads := by
  refine zmet_of (o := 11) (ini := false) (CT := ct_heads) gd_X11_heads rfl (fun h => by cases h) (by omega) ?_ ?_
  · intro n as h post hh
    unfold ct_heads at hh
    by_cases c : n = 127
    · subst c; exact ⟨gd_X11_its, 1, by omega, c_its (by omega)⟩
    rw [if_neg c] at hh
    by_cases c : n = 151
    · subst c; exact ⟨gd_X11_far, 2, by omega, c_far (by omega)⟩
    rw [if_neg c] at hh
    exact hh.elim
  intro as h post hC
  match as, hC with
  | [.inr (.inr (.inl 87))], hC =>
    refine ⟨Nat.le_of_ble_eq_true rfl, fun X hX => bs_X11_heads_0 hX ?_⟩
    obtain ⟨G, M⟩ := h
    obtain ⟨hG, hC⟩ := hC
    dsimp only at hG
    subst hG
    simp only [B_heads] at hC
    show bk_X11_heads_0 E ct_heads X _ [some (.inr (.inr (.inl 87)))] [] (zG, M) (0, 0)
    obtain ⟨h1, h2, h3, h4, hC⟩ := hC
    simp only [bk_X11_heads_0, k_X11_heads_0, ↓e_rk1, ↓e_rk0, ↓e_sk0, ↓e_sks, ↓e_ldi0, ↓e_ldis, ↓e_ldl0, ↓e_ldls, ↓e_lda0, ↓e_ldas, ↓e_ok0, ↓e_okss, ↓e_ok1i, ↓e_ok1r, ↓e_ok1n, ↓e_sti, ↓e_sta, ↓e_1, ↓e_2, ↓e_l1, ↓e_l2, ↓e_li, ↓e_sw0, ↓e_sws, ↓e_ceq, ↓e_cne, ↓e_clt, ↓e_cge, ↓e_cgt, ↓e_cle, ↓e_nil, ↓e_cons, ↓e_iconst, ↓e_bipush, ↓e_sipush, ↓e_ldc, ↓e_ldcw, ↓e_ldc2, ↓e_lconst, ↓e_iloadn, ↓e_iload, ↓e_lloadn, ↓e_lload, ↓e_aloadn, ↓e_aload, ↓e_istoren, ↓e_istore, ↓e_astoren, ↓e_astore, ↓e_add, ↓e_iinc, ↓e_iadd, ↓e_isub, ↓e_imul, ↓e_iand, ↓e_ior, ↓e_ixor, ↓e_ishl, ↓e_iushr, ↓e_idiv, ↓e_irem, ↓e_ineg, ↓e_i2l, ↓e_i2b, ↓e_i2s, ↓e_l2i, ↓e_land, ↓e_lor, ↓e_lshl, ↓e_lshr, ↓e_lushr, ↓e_lcmp, ↓e_dupi, ↓e_dupr, ↓e_popi, ↓e_dup2, ↓e_goto, ↓e_if, ↓e_icmp, ↓e_tsw, ↓e_lsw, ↓e_getf, ↓e_putf, ↓e_gets, ↓e_iald, ↓e_cald, ↓e_iast, ↓e_aald, ↓e_aast, ↓e_len, ↓e_copy, ↓e_abs, ↓e_max, ↓e_min, ↓e_iret, ↓e_aret, ↓e_vret, ↓e_is0, ↓e_is1, ↓e_is2, ↓e_is3, ↓e_is4, ↓e_iv1, ↓e_iv2, ↓e_iv3, ↓e_iv4, ↓e_iv5, ↓e_iv6, ↓rt_X11_heads, ↓reduceIte, Nat.reduceAdd, Nat.reduceEqDiff, ↓zcl0, ↓zclv, List.map_nil, List.sum_nil, List.map_cons, List.sum_cons, zcat, true_and, and_true, Nat.reduceLeDiff, Nat.reduceAdd, eq_self, forall_const, e_ok0, e_okss, e_ok1i, e_ok1r, e_ok1n, zl_0, zl_1, Int.reduceToNat, Int.reduceAdd, Int.reduceMul, Int.reduceSub, Int.reduceNeg, Int.reduceLT, Int.reduceLE, Int.reduceEq, not_false_eq_true, not_true_eq_false, false_implies, true_implies, implies_true, Int.reduceDiv, Int.reduceMod, zr8_zr, zr_zbo, z01_zbo, z01_0, z01_1, zbo_eq0, zup_eq, zup_o, zup_k, ne_eq, ↓ct_heads_its, ↓r_its, ↓B_its, ↓ct_heads_far, ↓r_far, ↓B_far, ↓v_87, ↓g_87_0, ↓l_88, ↓s_88, ↓n_88, ↓g_87_1, ↓l_89, ↓s_89, ↓n_89, ↓g_87_2, ↓l_90, ↓s_90, ↓n_90, ↓g_87_3, ↓p_87_3, ↓g_87_4, ↓l_91, ↓s_91, ↓n_91, ↓g_87_5, ↓p_87_5, ↓g_87_6, ↓p_87_6, ↓g_87_7, ↓p_87_7, ↓g_87_8, ↓p_87_8, ↓g_87_9, ↓p_87_9, ↓g_87_10, ↓p_87_10, ↓g_87_11, ↓l_92, ↓s_92, ↓n_92, ↓g_87_12, ↓l_93, ↓s_93, ↓n_93, ↓g_87_13, ↓p_87_13, ↓g_87_14, ↓l_94, ↓s_94, ↓n_94, ↓g_87_15, ↓p_87_15, ↓g_87_16, ↓l_95, ↓s_95, ↓n_95, ↓g_87_17, ↓l_96, ↓s_96, ↓n_96, ↓g_87_18, ↓l_97, ↓s_97, ↓n_97, ↓g_87_19, ↓p_87_19, ↓g_87_20, ↓p_87_20, ↓g_87_21, ↓l_98, ↓s_98, ↓n_98, ↓g_87_22, ↓l_99, ↓s_99, ↓n_99, ↓g_87_23, ↓l_100, ↓s_100, ↓n_100, ↓g_87_24, ↓l_101, ↓s_101, ↓n_101]
    exact ⟨h1, h2, h3, h4, hC⟩
