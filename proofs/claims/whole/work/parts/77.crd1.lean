/-! THE CLASS: texts read, its small methods -/
def k_X4_next_0 : List ZI := [(.aload_n 0, 1, (0, [0], [])), (.getfield 30, 3, (0, [4, 4], [])), (.iconst (-1), 1, (0, [], [])), (.if_icmp .ne 32, 3, (0, [37], [])), (.aload_n 0, 1, (0, [0], [])), (.getfield 27, 3, (0, [4, 3], [])), (.aload_n 0, 1, (0, [0], [])), (.getfield 20, 3, (0, [4, 1], [])), (.getfield 33, 3, (0, [5, 1], [])), (.if_icmp .ge 18, 3, (0, [37], [])), (.aload_n 0, 1, (0, [0], [])), (.getfield 20, 3, (0, [4, 1], [])), (.getfield 72, 3, (0, [5, 0], [])), (.aload_n 0, 1, (0, [0], [])), (.getfield 27, 3, (0, [4, 3], [])), (.iaload, 1, (0, [], [])), (.goto 4, 3, (0, [38], []))]
theorem ok_X4_next_0 : zOK cX4_next 4 false 1 k_X4_next_0 0 = true := zOK_by (by decide +kernel)
def k_X4_next_37 : List ZI := [(.iconst (-1), 1, (0, [], []))]
theorem ok_X4_next_37 : zOK cX4_next 4 false 1 k_X4_next_37 37 = true := zOK_by (by decide +kernel)
def k_X4_next_38 : List ZI := [(.ireturn, 1, (0, [], []))]
theorem ok_X4_next_38 : zOK cX4_next 4 false 1 k_X4_next_38 38 = true := zOK_by (by decide +kernel)
theorem rt_X4_next {g : Nat} {post : Option ZV → ZH → Prop} {h : ZH} {b : ZB2} {z : Int} : zRt mX4_next g post (some (.inl z)) h b = (post (some (.inl z)) h ∧ h.1.length = g) := by show (_ ∧ _ ∧ True) = _; simp
def bk_X4_next_38 (E : ZE) (CT : Nat → ZC) (X : ZK) (Rt : ZR) (ls : ZL) (st : List ZV) (h : ZH) (b : ZB2) : Prop := zB E CT k_X4_next_38 38 ls st h b (fun t ls st h b => X t ls st h b) Rt
theorem bs_X4_next_38 {E : ZE} {CT : Nat → ZC} {X : ZK} {Rt : ZR} {ls : ZL} {st : List ZV} {h : ZH} {b : ZB2} (hX : zCl E mX4_next 4 false CT Rt X) (q : bk_X4_next_38 E CT X Rt ls st h b) : X 38 ls st h b := by
  refine hX k_X4_next_38 38 ok_X4_next_38 _ ?_ ls st h b q
  exact fun t ls st h b q => q
def bk_X4_next_37 (E : ZE) (CT : Nat → ZC) (X : ZK) (Rt : ZR) (ls : ZL) (st : List ZV) (h : ZH) (b : ZB2) : Prop := zB E CT k_X4_next_37 37 ls st h b (fun t ls st h b => if t = 38 then bk_X4_next_38 E CT X Rt ls st h b else X t ls st h b) Rt
theorem bs_X4_next_37 {E : ZE} {CT : Nat → ZC} {X : ZK} {Rt : ZR} {ls : ZL} {st : List ZV} {h : ZH} {b : ZB2} (hX : zCl E mX4_next 4 false CT Rt X) (q : bk_X4_next_37 E CT X Rt ls st h b) : X 37 ls st h b := by
  refine hX k_X4_next_37 37 ok_X4_next_37 _ ?_ ls st h b q
  exact by
    intro t ls st h b q
    by_cases c : t = 38
    · subst c; rw [if_pos rfl] at q; exact bs_X4_next_38 hX q
    rw [if_neg c] at q
    exact q
def bk_X4_next_0 (E : ZE) (CT : Nat → ZC) (X : ZK) (Rt : ZR) (ls : ZL) (st : List ZV) (h : ZH) (b : ZB2) : Prop := zB E CT k_X4_next_0 0 ls st h b (fun t ls st h b => if t = 37 then bk_X4_next_37 E CT X Rt ls st h b else if t = 38 then bk_X4_next_38 E CT X Rt ls st h b else X t ls st h b) Rt
theorem bs_X4_next_0 {E : ZE} {CT : Nat → ZC} {X : ZK} {Rt : ZR} {ls : ZL} {st : List ZV} {h : ZH} {b : ZB2} (hX : zCl E mX4_next 4 false CT Rt X) (q : bk_X4_next_0 E CT X Rt ls st h b) : X 0 ls st h b := by
  refine hX k_X4_next_0 0 ok_X4_next_0 _ ?_ ls st h b q
  exact by
    intro t ls st h b q
    by_cases c : t = 37
    · subst c; rw [if_pos rfl] at q; exact bs_X4_next_37 hX q
    rw [if_neg c] at q
    by_cases c : t = 38
    · subst c; rw [if_pos rfl] at q; exact bs_X4_next_38 hX q
    rw [if_neg c] at q
    exact q
-- X4_next: cuts []
def k_X4_failHere_0 : List ZI := [(.aload_n 0, 1, (0, [0], [])), (.getfield 30, 3, (0, [4, 4], [])), (.iconst (-1), 1, (0, [], [])), (.if_icmp .ne 11, 3, (0, [16], [])), (.aload_n 0, 1, (0, [0], [])), (.aload_n 0, 1, (0, [0], [])), (.getfield 27, 3, (0, [4, 3], [])), (.putfield 30, 3, (0, [4, 4], []))]
theorem ok_X4_failHere_0 : zOK cX4_failHere 4 false 1 k_X4_failHere_0 0 = true := zOK_by (by decide +kernel)
def k_X4_failHere_16 : List ZI := [(.return_, 1, (0, [], []))]
theorem ok_X4_failHere_16 : zOK cX4_failHere 4 false 1 k_X4_failHere_16 16 = true := zOK_by (by decide +kernel)
theorem rt_X4_failHere {g : Nat} {post : Option ZV → ZH → Prop} {h : ZH} {b : ZB2} : zRt mX4_failHere g post none h b = (post none h ∧ h.1.length = g) := by show (_ ∧ _ ∧ True) = _; simp
def bk_X4_failHere_16 (E : ZE) (CT : Nat → ZC) (X : ZK) (Rt : ZR) (ls : ZL) (st : List ZV) (h : ZH) (b : ZB2) : Prop := zB E CT k_X4_failHere_16 16 ls st h b (fun t ls st h b => X t ls st h b) Rt
theorem bs_X4_failHere_16 {E : ZE} {CT : Nat → ZC} {X : ZK} {Rt : ZR} {ls : ZL} {st : List ZV} {h : ZH} {b : ZB2} (hX : zCl E mX4_failHere 4 false CT Rt X) (q : bk_X4_failHere_16 E CT X Rt ls st h b) : X 16 ls st h b := by
  refine hX k_X4_failHere_16 16 ok_X4_failHere_16 _ ?_ ls st h b q
  exact fun t ls st h b q => q
def bk_X4_failHere_0 (E : ZE) (CT : Nat → ZC) (X : ZK) (Rt : ZR) (ls : ZL) (st : List ZV) (h : ZH) (b : ZB2) : Prop := zB E CT k_X4_failHere_0 0 ls st h b (fun t ls st h b => if t = 16 then bk_X4_failHere_16 E CT X Rt ls st h b else X t ls st h b) Rt
theorem bs_X4_failHere_0 {E : ZE} {CT : Nat → ZC} {X : ZK} {Rt : ZR} {ls : ZL} {st : List ZV} {h : ZH} {b : ZB2} (hX : zCl E mX4_failHere 4 false CT Rt X) (q : bk_X4_failHere_0 E CT X Rt ls st h b) : X 0 ls st h b := by
  refine hX k_X4_failHere_0 0 ok_X4_failHere_0 _ ?_ ls st h b q
  exact by
    intro t ls st h b q
    by_cases c : t = 16
    · subst c; rw [if_pos rfl] at q; exact bs_X4_failHere_16 hX q
    rw [if_neg c] at q
    exact q
-- X4_failHere: cuts []
def k_X4_isDigit_0 : List ZI := [(.iload_n 0, 1, (0, [0], [])), (.bipush 48, 2, (0, [], [])), (.if_icmp .lt 13, 3, (0, [16], [])), (.iload_n 0, 1, (0, [0], [])), (.bipush 57, 2, (0, [], [])), (.if_icmp .gt 7, 3, (0, [16], [])), (.iconst 1, 1, (0, [], [])), (.goto 4, 3, (0, [17], []))]
theorem ok_X4_isDigit_0 : zOK cX4_isDigit 4 false 1 k_X4_isDigit_0 0 = true := zOK_by (by decide +kernel)
def k_X4_isDigit_16 : List ZI := [(.iconst 0, 1, (0, [], []))]
theorem ok_X4_isDigit_16 : zOK cX4_isDigit 4 false 1 k_X4_isDigit_16 16 = true := zOK_by (by decide +kernel)
def k_X4_isDigit_17 : List ZI := [(.ireturn, 1, (0, [], []))]
theorem ok_X4_isDigit_17 : zOK cX4_isDigit 4 false 1 k_X4_isDigit_17 17 = true := zOK_by (by decide +kernel)
theorem rt_X4_isDigit {g : Nat} {post : Option ZV → ZH → Prop} {h : ZH} {b : ZB2} {z : Int} : zRt mX4_isDigit g post (some (.inl z)) h b = (post (some (.inl z)) h ∧ h.1.length = g ∧ z01 z) := rfl
def bk_X4_isDigit_17 (E : ZE) (CT : Nat → ZC) (X : ZK) (Rt : ZR) (ls : ZL) (st : List ZV) (h : ZH) (b : ZB2) : Prop := zB E CT k_X4_isDigit_17 17 ls st h b (fun t ls st h b => X t ls st h b) Rt
theorem bs_X4_isDigit_17 {E : ZE} {CT : Nat → ZC} {X : ZK} {Rt : ZR} {ls : ZL} {st : List ZV} {h : ZH} {b : ZB2} (hX : zCl E mX4_isDigit 4 false CT Rt X) (q : bk_X4_isDigit_17 E CT X Rt ls st h b) : X 17 ls st h b := by
  refine hX k_X4_isDigit_17 17 ok_X4_isDigit_17 _ ?_ ls st h b q
  exact fun t ls st h b q => q
def bk_X4_isDigit_16 (E : ZE) (CT : Nat → ZC) (X : ZK) (Rt : ZR) (ls : ZL) (st : List ZV) (h : ZH) (b : ZB2) : Prop := zB E CT k_X4_isDigit_16 16 ls st h b (fun t ls st h b => if t = 17 then bk_X4_isDigit_17 E CT X Rt ls st h b else X t ls st h b) Rt
theorem bs_X4_isDigit_16 {E : ZE} {CT : Nat → ZC} {X : ZK} {Rt : ZR} {ls : ZL} {st : List ZV} {h : ZH} {b : ZB2} (hX : zCl E mX4_isDigit 4 false CT Rt X) (q : bk_X4_isDigit_16 E CT X Rt ls st h b) : X 16 ls st h b := by
  refine hX k_X4_isDigit_16 16 ok_X4_isDigit_16 _ ?_ ls st h b q
  exact by
    intro t ls st h b q
    by_cases c : t = 17
    · subst c; rw [if_pos rfl] at q; exact bs_X4_isDigit_17 hX q
    rw [if_neg c] at q
    exact q
def bk_X4_isDigit_0 (E : ZE) (CT : Nat → ZC) (X : ZK) (Rt : ZR) (ls : ZL) (st : List ZV) (h : ZH) (b : ZB2) : Prop := zB E CT k_X4_isDigit_0 0 ls st h b (fun t ls st h b => if t = 16 then bk_X4_isDigit_16 E CT X Rt ls st h b else if t = 17 then bk_X4_isDigit_17 E CT X Rt ls st h b else X t ls st h b) Rt
theorem bs_X4_isDigit_0 {E : ZE} {CT : Nat → ZC} {X : ZK} {Rt : ZR} {ls : ZL} {st : List ZV} {h : ZH} {b : ZB2} (hX : zCl E mX4_isDigit 4 false CT Rt X) (q : bk_X4_isDigit_0 E CT X Rt ls st h b) : X 0 ls st h b := by
  refine hX k_X4_isDigit_0 0 ok_X4_isDigit_0 _ ?_ ls st h b q
  exact by
    intro t ls st h b q
    by_cases c : t = 16
    · subst c; rw [if_pos rfl] at q; exact bs_X4_isDigit_16 hX q
    rw [if_neg c] at q
    by_cases c : t = 17
    · subst c; rw [if_pos rfl] at q; exact bs_X4_isDigit_17 hX q
    rw [if_neg c] at q
    exact q
-- X4_isDigit: cuts []
def k_X4_nameOf_0 : List ZI := [(.iconst 0, 1, (0, [], [])), (.istore_n 2, 1, (0, [2], []))]
theorem ok_X4_nameOf_0 : zOK cX4_nameOf 4 false 3 k_X4_nameOf_0 0 = true := zOK_by (by decide +kernel)
def k_X4_nameOf_2 : List ZI := [(.iload_n 2, 1, (0, [2], [])), (.iconst 3, 1, (0, [], [])), (.if_icmp .ge 27, 3, (0, [31], []))]
theorem ok_X4_nameOf_2 : zOK cX4_nameOf 4 false 3 k_X4_nameOf_2 2 = true := zOK_by (by decide +kernel)
def k_X4_nameOf_7 : List ZI := [(.getstatic 76, 3, (0, [2], [])), (.aload_n 0, 1, (0, [0], [])), (.getfield 23, 3, (0, [4, 2], [])), (.iconst 3, 1, (0, [], [])), (.imul, 1, (0, [], [])), (.iload_n 2, 1, (0, [2], [])), (.iadd, 1, (0, [], [])), (.caload, 1, (0, [], [])), (.iload_n 1, 1, (0, [1], [])), (.if_icmp .ne 5, 3, (0, [25], [])), (.iload_n 2, 1, (0, [2], [])), (.ireturn, 1, (0, [], []))]
theorem ok_X4_nameOf_7 : zOK cX4_nameOf 4 false 3 k_X4_nameOf_7 7 = true := zOK_by (by decide +kernel)
def k_X4_nameOf_25 : List ZI := [(.iinc 2 1, 3, (0, [2], [])), (.goto (-26), 3, (0, [2], []))]
theorem ok_X4_nameOf_25 : zOK cX4_nameOf 4 false 3 k_X4_nameOf_25 25 = true := zOK_by (by decide +kernel)
def k_X4_nameOf_31 : List ZI := [(.iconst (-1), 1, (0, [], [])), (.ireturn, 1, (0, [], []))]
theorem ok_X4_nameOf_31 : zOK cX4_nameOf 4 false 3 k_X4_nameOf_31 31 = true := zOK_by (by decide +kernel)
theorem rt_X4_nameOf {g : Nat} {post : Option ZV → ZH → Prop} {h : ZH} {b : ZB2} {z : Int} : zRt mX4_nameOf g post (some (.inl z)) h b = (post (some (.inl z)) h ∧ h.1.length = g) := by show (_ ∧ _ ∧ True) = _; simp
def bk_X4_nameOf_0 (E : ZE) (CT : Nat → ZC) (X : ZK) (Rt : ZR) (ls : ZL) (st : List ZV) (h : ZH) (b : ZB2) : Prop := zB E CT k_X4_nameOf_0 0 ls st h b (fun t ls st h b => X t ls st h b) Rt
theorem bs_X4_nameOf_0 {E : ZE} {CT : Nat → ZC} {X : ZK} {Rt : ZR} {ls : ZL} {st : List ZV} {h : ZH} {b : ZB2} (hX : zCl E mX4_nameOf 4 false CT Rt X) (q : bk_X4_nameOf_0 E CT X Rt ls st h b) : X 0 ls st h b := by
  refine hX k_X4_nameOf_0 0 ok_X4_nameOf_0 _ ?_ ls st h b q
  exact fun t ls st h b q => q
def bk_X4_nameOf_2 (E : ZE) (CT : Nat → ZC) (X : ZK) (Rt : ZR) (ls : ZL) (st : List ZV) (h : ZH) (b : ZB2) : Prop := zB E CT k_X4_nameOf_2 2 ls st h b (fun t ls st h b => X t ls st h b) Rt
theorem bs_X4_nameOf_2 {E : ZE} {CT : Nat → ZC} {X : ZK} {Rt : ZR} {ls : ZL} {st : List ZV} {h : ZH} {b : ZB2} (hX : zCl E mX4_nameOf 4 false CT Rt X) (q : bk_X4_nameOf_2 E CT X Rt ls st h b) : X 2 ls st h b := by
  refine hX k_X4_nameOf_2 2 ok_X4_nameOf_2 _ ?_ ls st h b q
  exact fun t ls st h b q => q
def bk_X4_nameOf_7 (E : ZE) (CT : Nat → ZC) (X : ZK) (Rt : ZR) (ls : ZL) (st : List ZV) (h : ZH) (b : ZB2) : Prop := zB E CT k_X4_nameOf_7 7 ls st h b (fun t ls st h b => X t ls st h b) Rt
theorem bs_X4_nameOf_7 {E : ZE} {CT : Nat → ZC} {X : ZK} {Rt : ZR} {ls : ZL} {st : List ZV} {h : ZH} {b : ZB2} (hX : zCl E mX4_nameOf 4 false CT Rt X) (q : bk_X4_nameOf_7 E CT X Rt ls st h b) : X 7 ls st h b := by
  refine hX k_X4_nameOf_7 7 ok_X4_nameOf_7 _ ?_ ls st h b q
  exact fun t ls st h b q => q
def bk_X4_nameOf_25 (E : ZE) (CT : Nat → ZC) (X : ZK) (Rt : ZR) (ls : ZL) (st : List ZV) (h : ZH) (b : ZB2) : Prop := zB E CT k_X4_nameOf_25 25 ls st h b (fun t ls st h b => X t ls st h b) Rt
theorem bs_X4_nameOf_25 {E : ZE} {CT : Nat → ZC} {X : ZK} {Rt : ZR} {ls : ZL} {st : List ZV} {h : ZH} {b : ZB2} (hX : zCl E mX4_nameOf 4 false CT Rt X) (q : bk_X4_nameOf_25 E CT X Rt ls st h b) : X 25 ls st h b := by
  refine hX k_X4_nameOf_25 25 ok_X4_nameOf_25 _ ?_ ls st h b q
  exact fun t ls st h b q => q
def bk_X4_nameOf_31 (E : ZE) (CT : Nat → ZC) (X : ZK) (Rt : ZR) (ls : ZL) (st : List ZV) (h : ZH) (b : ZB2) : Prop := zB E CT k_X4_nameOf_31 31 ls st h b (fun t ls st h b => X t ls st h b) Rt
theorem bs_X4_nameOf_31 {E : ZE} {CT : Nat → ZC} {X : ZK} {Rt : ZR} {ls : ZL} {st : List ZV} {h : ZH} {b : ZB2} (hX : zCl E mX4_nameOf 4 false CT Rt X) (q : bk_X4_nameOf_31 E CT X Rt ls st h b) : X 31 ls st h b := by
  refine hX k_X4_nameOf_31 31 ok_X4_nameOf_31 _ ?_ ls st h b q
  exact fun t ls st h b q => q
-- X4_nameOf: cuts [2, 7, 25, 31]
def k_X4_levelOf_0 : List ZI := [(.iload_n 0, 1, (0, [0], [])), (.lookupswitch 101 #[(37, 99), (38, 93), (42, 99), (43, 97), (45, 97), (47, 99), (60, 95), (61, 95), (62, 95), (124, 91)], 91, (0, [102], [(37, 100), (38, 94), (42, 100), (43, 98), (45, 98), (47, 100), (60, 96), (61, 96), (62, 96), (124, 92)]))]
theorem ok_X4_levelOf_0 : zOK cX4_levelOf 4 false 1 k_X4_levelOf_0 0 = true := zOK_by (by decide +kernel)
def k_X4_levelOf_92 : List ZI := [(.iconst 0, 1, (0, [], [])), (.ireturn, 1, (0, [], []))]
theorem ok_X4_levelOf_92 : zOK cX4_levelOf 4 false 1 k_X4_levelOf_92 92 = true := zOK_by (by decide +kernel)
def k_X4_levelOf_94 : List ZI := [(.iconst 1, 1, (0, [], [])), (.ireturn, 1, (0, [], []))]
theorem ok_X4_levelOf_94 : zOK cX4_levelOf 4 false 1 k_X4_levelOf_94 94 = true := zOK_by (by decide +kernel)
def k_X4_levelOf_96 : List ZI := [(.iconst 2, 1, (0, [], [])), (.ireturn, 1, (0, [], []))]
theorem ok_X4_levelOf_96 : zOK cX4_levelOf 4 false 1 k_X4_levelOf_96 96 = true := zOK_by (by decide +kernel)
def k_X4_levelOf_98 : List ZI := [(.iconst 3, 1, (0, [], [])), (.ireturn, 1, (0, [], []))]
theorem ok_X4_levelOf_98 : zOK cX4_levelOf 4 false 1 k_X4_levelOf_98 98 = true := zOK_by (by decide +kernel)
def k_X4_levelOf_100 : List ZI := [(.iconst 4, 1, (0, [], [])), (.ireturn, 1, (0, [], []))]
theorem ok_X4_levelOf_100 : zOK cX4_levelOf 4 false 1 k_X4_levelOf_100 100 = true := zOK_by (by decide +kernel)
def k_X4_levelOf_102 : List ZI := [(.iconst (-1), 1, (0, [], [])), (.ireturn, 1, (0, [], []))]
theorem ok_X4_levelOf_102 : zOK cX4_levelOf 4 false 1 k_X4_levelOf_102 102 = true := zOK_by (by decide +kernel)
theorem rt_X4_levelOf {g : Nat} {post : Option ZV → ZH → Prop} {h : ZH} {b : ZB2} {z : Int} : zRt mX4_levelOf g post (some (.inl z)) h b = (post (some (.inl z)) h ∧ h.1.length = g) := by show (_ ∧ _ ∧ True) = _; simp
def bk_X4_levelOf_92 (E : ZE) (CT : Nat → ZC) (X : ZK) (Rt : ZR) (ls : ZL) (st : List ZV) (h : ZH) (b : ZB2) : Prop := zB E CT k_X4_levelOf_92 92 ls st h b (fun t ls st h b => X t ls st h b) Rt
theorem bs_X4_levelOf_92 {E : ZE} {CT : Nat → ZC} {X : ZK} {Rt : ZR} {ls : ZL} {st : List ZV} {h : ZH} {b : ZB2} (hX : zCl E mX4_levelOf 4 false CT Rt X) (q : bk_X4_levelOf_92 E CT X Rt ls st h b) : X 92 ls st h b := by
  refine hX k_X4_levelOf_92 92 ok_X4_levelOf_92 _ ?_ ls st h b q
  exact fun t ls st h b q => q
def bk_X4_levelOf_94 (E : ZE) (CT : Nat → ZC) (X : ZK) (Rt : ZR) (ls : ZL) (st : List ZV) (h : ZH) (b : ZB2) : Prop := zB E CT k_X4_levelOf_94 94 ls st h b (fun t ls st h b => X t ls st h b) Rt
theorem bs_X4_levelOf_94 {E : ZE} {CT : Nat → ZC} {X : ZK} {Rt : ZR} {ls : ZL} {st : List ZV} {h : ZH} {b : ZB2} (hX : zCl E mX4_levelOf 4 false CT Rt X) (q : bk_X4_levelOf_94 E CT X Rt ls st h b) : X 94 ls st h b := by
  refine hX k_X4_levelOf_94 94 ok_X4_levelOf_94 _ ?_ ls st h b q
  exact fun t ls st h b q => q
def bk_X4_levelOf_96 (E : ZE) (CT : Nat → ZC) (X : ZK) (Rt : ZR) (ls : ZL) (st : List ZV) (h : ZH) (b : ZB2) : Prop := zB E CT k_X4_levelOf_96 96 ls st h b (fun t ls st h b => X t ls st h b) Rt
theorem bs_X4_levelOf_96 {E : ZE} {CT : Nat → ZC} {X : ZK} {Rt : ZR} {ls : ZL} {st : List ZV} {h : ZH} {b : ZB2} (hX : zCl E mX4_levelOf 4 false CT Rt X) (q : bk_X4_levelOf_96 E CT X Rt ls st h b) : X 96 ls st h b := by
  refine hX k_X4_levelOf_96 96 ok_X4_levelOf_96 _ ?_ ls st h b q
  exact fun t ls st h b q => q
def bk_X4_levelOf_98 (E : ZE) (CT : Nat → ZC) (X : ZK) (Rt : ZR) (ls : ZL) (st : List ZV) (h : ZH) (b : ZB2) : Prop := zB E CT k_X4_levelOf_98 98 ls st h b (fun t ls st h b => X t ls st h b) Rt
theorem bs_X4_levelOf_98 {E : ZE} {CT : Nat → ZC} {X : ZK} {Rt : ZR} {ls : ZL} {st : List ZV} {h : ZH} {b : ZB2} (hX : zCl E mX4_levelOf 4 false CT Rt X) (q : bk_X4_levelOf_98 E CT X Rt ls st h b) : X 98 ls st h b := by
  refine hX k_X4_levelOf_98 98 ok_X4_levelOf_98 _ ?_ ls st h b q
  exact fun t ls st h b q => q
def bk_X4_levelOf_100 (E : ZE) (CT : Nat → ZC) (X : ZK) (Rt : ZR) (ls : ZL) (st : List ZV) (h : ZH) (b : ZB2) : Prop := zB E CT k_X4_levelOf_100 100 ls st h b (fun t ls st h b => X t ls st h b) Rt
theorem bs_X4_levelOf_100 {E : ZE} {CT : Nat → ZC} {X : ZK} {Rt : ZR} {ls : ZL} {st : List ZV} {h : ZH} {b : ZB2} (hX : zCl E mX4_levelOf 4 false CT Rt X) (q : bk_X4_levelOf_100 E CT X Rt ls st h b) : X 100 ls st h b := by
  refine hX k_X4_levelOf_100 100 ok_X4_levelOf_100 _ ?_ ls st h b q
  exact fun t ls st h b q => q
def bk_X4_levelOf_102 (E : ZE) (CT : Nat → ZC) (X : ZK) (Rt : ZR) (ls : ZL) (st : List ZV) (h : ZH) (b : ZB2) : Prop := zB E CT k_X4_levelOf_102 102 ls st h b (fun t ls st h b => X t ls st h b) Rt
theorem bs_X4_levelOf_102 {E : ZE} {CT : Nat → ZC} {X : ZK} {Rt : ZR} {ls : ZL} {st : List ZV} {h : ZH} {b : ZB2} (hX : zCl E mX4_levelOf 4 false CT Rt X) (q : bk_X4_levelOf_102 E CT X Rt ls st h b) : X 102 ls st h b := by
  refine hX k_X4_levelOf_102 102 ok_X4_levelOf_102 _ ?_ ls st h b q
  exact fun t ls st h b q => q
def bk_X4_levelOf_0 (E : ZE) (CT : Nat → ZC) (X : ZK) (Rt : ZR) (ls : ZL) (st : List ZV) (h : ZH) (b : ZB2) : Prop := zB E CT k_X4_levelOf_0 0 ls st h b (fun t ls st h b => if t = 92 then bk_X4_levelOf_92 E CT X Rt ls st h b else if t = 94 then bk_X4_levelOf_94 E CT X Rt ls st h b else if t = 96 then bk_X4_levelOf_96 E CT X Rt ls st h b else if t = 98 then bk_X4_levelOf_98 E CT X Rt ls st h b else if t = 100 then bk_X4_levelOf_100 E CT X Rt ls st h b else if t = 102 then bk_X4_levelOf_102 E CT X Rt ls st h b else X t ls st h b) Rt
theorem bs_X4_levelOf_0 {E : ZE} {CT : Nat → ZC} {X : ZK} {Rt : ZR} {ls : ZL} {st : List ZV} {h : ZH} {b : ZB2} (hX : zCl E mX4_levelOf 4 false CT Rt X) (q : bk_X4_levelOf_0 E CT X Rt ls st h b) : X 0 ls st h b := by
  refine hX k_X4_levelOf_0 0 ok_X4_levelOf_0 _ ?_ ls st h b q
  exact by
    intro t ls st h b q
    by_cases c : t = 92
    · subst c; rw [if_pos rfl] at q; exact bs_X4_levelOf_92 hX q
    rw [if_neg c] at q
    by_cases c : t = 94
    · subst c; rw [if_pos rfl] at q; exact bs_X4_levelOf_94 hX q
    rw [if_neg c] at q
    by_cases c : t = 96
    · subst c; rw [if_pos rfl] at q; exact bs_X4_levelOf_96 hX q
    rw [if_neg c] at q
    by_cases c : t = 98
    · subst c; rw [if_pos rfl] at q; exact bs_X4_levelOf_98 hX q
    rw [if_neg c] at q
    by_cases c : t = 100
    · subst c; rw [if_pos rfl] at q; exact bs_X4_levelOf_100 hX q
    rw [if_neg c] at q
    by_cases c : t = 102
    · subst c; rw [if_pos rfl] at q; exact bs_X4_levelOf_102 hX q
    rw [if_neg c] at q
    exact q
-- X4_levelOf: cuts []
def k_X4_readNumber_0 : List ZI := [(.iconst 0, 1, (0, [], [])), (.istore_n 1, 1, (0, [1], [])), (.iconst 0, 1, (0, [], [])), (.istore_n 2, 1, (0, [2], []))]
theorem ok_X4_readNumber_0 : zOK cX4_readNumber 4 false 3 k_X4_readNumber_0 0 = true := zOK_by (by decide +kernel)
def k_X4_readNumber_4 : List ZI := [(.iload_n 2, 1, (0, [2], [])), (.iconst 4, 1, (0, [], [])), (.if_icmp .ge 42, 3, (0, [48], []))]
theorem ok_X4_readNumber_4 : zOK cX4_readNumber 4 false 3 k_X4_readNumber_4 4 = true := zOK_by (by decide +kernel)
def k_X4_readNumber_9 : List ZI := [(.aload_n 0, 1, (0, [0], [])), (.invokevirtual 46, 3, (0, [35, 1, 0, 4], [])), (.invokestatic 60, 3, (0, [37, 1, 0, 4], [])), (.ifCond .eq 32, 3, (0, [48], []))]
theorem ok_X4_readNumber_9 : zOK cX4_readNumber 4 false 3 k_X4_readNumber_9 9 = true := zOK_by (by decide +kernel)
def k_X4_readNumber_19 : List ZI := [(.iload_n 1, 1, (0, [1], [])), (.bipush 10, 2, (0, [], [])), (.imul, 1, (0, [], [])), (.aload_n 0, 1, (0, [0], [])), (.invokevirtual 46, 3, (0, [35, 1, 0, 4], [])), (.iadd, 1, (0, [], [])), (.bipush 48, 2, (0, [], [])), (.isub, 1, (0, [], [])), (.istore_n 1, 1, (0, [1], [])), (.aload_n 0, 1, (0, [0], [])), (.dup, 1, (0, [], [])), (.getfield 27, 3, (0, [4, 3], [])), (.iconst 1, 1, (0, [], [])), (.iadd, 1, (0, [], [])), (.putfield 27, 3, (0, [4, 3], [])), (.iinc 2 1, 3, (0, [2], [])), (.goto (-41), 3, (0, [4], []))]
theorem ok_X4_readNumber_19 : zOK cX4_readNumber 4 false 3 k_X4_readNumber_19 19 = true := zOK_by (by decide +kernel)
def k_X4_readNumber_48 : List ZI := [(.aload_n 0, 1, (0, [0], [])), (.getfield 14, 3, (0, [4, 0], [])), (.iload_n 1, 1, (0, [1], [])), (.invokevirtual 56, 3, (0, [41, 2, 0, 5], [])), (.pop, 1, (0, [], [])), (.return_, 1, (0, [], []))]
theorem ok_X4_readNumber_48 : zOK cX4_readNumber 4 false 3 k_X4_readNumber_48 48 = true := zOK_by (by decide +kernel)
theorem rt_X4_readNumber {g : Nat} {post : Option ZV → ZH → Prop} {h : ZH} {b : ZB2} : zRt mX4_readNumber g post none h b = (post none h ∧ h.1.length = g) := by show (_ ∧ _ ∧ True) = _; simp
def bk_X4_readNumber_0 (E : ZE) (CT : Nat → ZC) (X : ZK) (Rt : ZR) (ls : ZL) (st : List ZV) (h : ZH) (b : ZB2) : Prop := zB E CT k_X4_readNumber_0 0 ls st h b (fun t ls st h b => X t ls st h b) Rt
theorem bs_X4_readNumber_0 {E : ZE} {CT : Nat → ZC} {X : ZK} {Rt : ZR} {ls : ZL} {st : List ZV} {h : ZH} {b : ZB2} (hX : zCl E mX4_readNumber 4 false CT Rt X) (q : bk_X4_readNumber_0 E CT X Rt ls st h b) : X 0 ls st h b := by
  refine hX k_X4_readNumber_0 0 ok_X4_readNumber_0 _ ?_ ls st h b q
  exact fun t ls st h b q => q
def bk_X4_readNumber_4 (E : ZE) (CT : Nat → ZC) (X : ZK) (Rt : ZR) (ls : ZL) (st : List ZV) (h : ZH) (b : ZB2) : Prop := zB E CT k_X4_readNumber_4 4 ls st h b (fun t ls st h b => X t ls st h b) Rt
theorem bs_X4_readNumber_4 {E : ZE} {CT : Nat → ZC} {X : ZK} {Rt : ZR} {ls : ZL} {st : List ZV} {h : ZH} {b : ZB2} (hX : zCl E mX4_readNumber 4 false CT Rt X) (q : bk_X4_readNumber_4 E CT X Rt ls st h b) : X 4 ls st h b := by
  refine hX k_X4_readNumber_4 4 ok_X4_readNumber_4 _ ?_ ls st h b q
  exact fun t ls st h b q => q
def bk_X4_readNumber_9 (E : ZE) (CT : Nat → ZC) (X : ZK) (Rt : ZR) (ls : ZL) (st : List ZV) (h : ZH) (b : ZB2) : Prop := zB E CT k_X4_readNumber_9 9 ls st h b (fun t ls st h b => X t ls st h b) Rt
theorem bs_X4_readNumber_9 {E : ZE} {CT : Nat → ZC} {X : ZK} {Rt : ZR} {ls : ZL} {st : List ZV} {h : ZH} {b : ZB2} (hX : zCl E mX4_readNumber 4 false CT Rt X) (q : bk_X4_readNumber_9 E CT X Rt ls st h b) : X 9 ls st h b := by
  refine hX k_X4_readNumber_9 9 ok_X4_readNumber_9 _ ?_ ls st h b q
  exact fun t ls st h b q => q
def bk_X4_readNumber_19 (E : ZE) (CT : Nat → ZC) (X : ZK) (Rt : ZR) (ls : ZL) (st : List ZV) (h : ZH) (b : ZB2) : Prop := zB E CT k_X4_readNumber_19 19 ls st h b (fun t ls st h b => X t ls st h b) Rt
theorem bs_X4_readNumber_19 {E : ZE} {CT : Nat → ZC} {X : ZK} {Rt : ZR} {ls : ZL} {st : List ZV} {h : ZH} {b : ZB2} (hX : zCl E mX4_readNumber 4 false CT Rt X) (q : bk_X4_readNumber_19 E CT X Rt ls st h b) : X 19 ls st h b := by
  refine hX k_X4_readNumber_19 19 ok_X4_readNumber_19 _ ?_ ls st h b q
  exact fun t ls st h b q => q
def bk_X4_readNumber_48 (E : ZE) (CT : Nat → ZC) (X : ZK) (Rt : ZR) (ls : ZL) (st : List ZV) (h : ZH) (b : ZB2) : Prop := zB E CT k_X4_readNumber_48 48 ls st h b (fun t ls st h b => X t ls st h b) Rt
theorem bs_X4_readNumber_48 {E : ZE} {CT : Nat → ZC} {X : ZK} {Rt : ZR} {ls : ZL} {st : List ZV} {h : ZH} {b : ZB2} (hX : zCl E mX4_readNumber 4 false CT Rt X) (q : bk_X4_readNumber_48 E CT X Rt ls st h b) : X 48 ls st h b := by
  refine hX k_X4_readNumber_48 48 ok_X4_readNumber_48 _ ?_ ls st h b q
  exact fun t ls st h b q => q
-- X4_readNumber: cuts [4, 9, 19, 48]
def k_X4_readClosing_0 : List ZI := [(.aload_n 0, 1, (0, [0], [])), (.invokevirtual 46, 3, (0, [35, 1, 0, 4], [])), (.bipush 41, 2, (0, [], [])), (.if_icmp .ne 16, 3, (0, [22], []))]
theorem ok_X4_readClosing_0 : zOK cX4_readClosing 4 false 1 k_X4_readClosing_0 0 = true := zOK_by (by decide +kernel)
def k_X4_readClosing_9 : List ZI := [(.aload_n 0, 1, (0, [0], [])), (.dup, 1, (0, [], [])), (.getfield 27, 3, (0, [4, 3], [])), (.iconst 1, 1, (0, [], [])), (.iadd, 1, (0, [], [])), (.putfield 27, 3, (0, [4, 3], [])), (.goto 7, 3, (0, [26], []))]
theorem ok_X4_readClosing_9 : zOK cX4_readClosing 4 false 1 k_X4_readClosing_9 9 = true := zOK_by (by decide +kernel)
def k_X4_readClosing_22 : List ZI := [(.aload_n 0, 1, (0, [0], [])), (.invokevirtual 40, 3, (0, [36, 1, 0, 4], []))]
theorem ok_X4_readClosing_22 : zOK cX4_readClosing 4 false 1 k_X4_readClosing_22 22 = true := zOK_by (by decide +kernel)
def k_X4_readClosing_26 : List ZI := [(.return_, 1, (0, [], []))]
theorem ok_X4_readClosing_26 : zOK cX4_readClosing 4 false 1 k_X4_readClosing_26 26 = true := zOK_by (by decide +kernel)
theorem rt_X4_readClosing {g : Nat} {post : Option ZV → ZH → Prop} {h : ZH} {b : ZB2} : zRt mX4_readClosing g post none h b = (post none h ∧ h.1.length = g) := by show (_ ∧ _ ∧ True) = _; simp
def bk_X4_readClosing_0 (E : ZE) (CT : Nat → ZC) (X : ZK) (Rt : ZR) (ls : ZL) (st : List ZV) (h : ZH) (b : ZB2) : Prop := zB E CT k_X4_readClosing_0 0 ls st h b (fun t ls st h b => X t ls st h b) Rt
theorem bs_X4_readClosing_0 {E : ZE} {CT : Nat → ZC} {X : ZK} {Rt : ZR} {ls : ZL} {st : List ZV} {h : ZH} {b : ZB2} (hX : zCl E mX4_readClosing 4 false CT Rt X) (q : bk_X4_readClosing_0 E CT X Rt ls st h b) : X 0 ls st h b := by
  refine hX k_X4_readClosing_0 0 ok_X4_readClosing_0 _ ?_ ls st h b q
  exact fun t ls st h b q => q
def bk_X4_readClosing_26 (E : ZE) (CT : Nat → ZC) (X : ZK) (Rt : ZR) (ls : ZL) (st : List ZV) (h : ZH) (b : ZB2) : Prop := zB E CT k_X4_readClosing_26 26 ls st h b (fun t ls st h b => X t ls st h b) Rt
theorem bs_X4_readClosing_26 {E : ZE} {CT : Nat → ZC} {X : ZK} {Rt : ZR} {ls : ZL} {st : List ZV} {h : ZH} {b : ZB2} (hX : zCl E mX4_readClosing 4 false CT Rt X) (q : bk_X4_readClosing_26 E CT X Rt ls st h b) : X 26 ls st h b := by
  refine hX k_X4_readClosing_26 26 ok_X4_readClosing_26 _ ?_ ls st h b q
  exact fun t ls st h b q => q
def bk_X4_readClosing_9 (E : ZE) (CT : Nat → ZC) (X : ZK) (Rt : ZR) (ls : ZL) (st : List ZV) (h : ZH) (b : ZB2) : Prop := zB E CT k_X4_readClosing_9 9 ls st h b (fun t ls st h b => if t = 26 then bk_X4_readClosing_26 E CT X Rt ls st h b else X t ls st h b) Rt
theorem bs_X4_readClosing_9 {E : ZE} {CT : Nat → ZC} {X : ZK} {Rt : ZR} {ls : ZL} {st : List ZV} {h : ZH} {b : ZB2} (hX : zCl E mX4_readClosing 4 false CT Rt X) (q : bk_X4_readClosing_9 E CT X Rt ls st h b) : X 9 ls st h b := by
  refine hX k_X4_readClosing_9 9 ok_X4_readClosing_9 _ ?_ ls st h b q
  exact by
    intro t ls st h b q
    by_cases c : t = 26
    · subst c; rw [if_pos rfl] at q; exact bs_X4_readClosing_26 hX q
    rw [if_neg c] at q
    exact q
def bk_X4_readClosing_22 (E : ZE) (CT : Nat → ZC) (X : ZK) (Rt : ZR) (ls : ZL) (st : List ZV) (h : ZH) (b : ZB2) : Prop := zB E CT k_X4_readClosing_22 22 ls st h b (fun t ls st h b => if t = 26 then bk_X4_readClosing_26 E CT X Rt ls st h b else X t ls st h b) Rt
theorem bs_X4_readClosing_22 {E : ZE} {CT : Nat → ZC} {X : ZK} {Rt : ZR} {ls : ZL} {st : List ZV} {h : ZH} {b : ZB2} (hX : zCl E mX4_readClosing 4 false CT Rt X) (q : bk_X4_readClosing_22 E CT X Rt ls st h b) : X 22 ls st h b := by
  refine hX k_X4_readClosing_22 22 ok_X4_readClosing_22 _ ?_ ls st h b q
  exact by
    intro t ls st h b q
    by_cases c : t = 26
    · subst c; rw [if_pos rfl] at q; exact bs_X4_readClosing_26 hX q
    rw [if_neg c] at q
    exact q
-- X4_readClosing: cuts [9, 22]
def Rd (T : Nat → Int) (n : Nat) (u : Int) (M : ZMm) (s : PS) : Prop := (M 22 1 = n ∧ n ≤ 50 ∧ (∀ k, k < n → M 23 k = T k ∧ rg (T k)) ∧ M 67 2 = u ∧ (u = 0 ∨ u = 1)) ∧ M 67 3 = s.1 ∧ M 67 4 = s.2.1 ∧ okS n s ∧ (0 ≤ M 68 1 ∧ M 68 1 ≤ s.1) ∧ (s.2.1 < 0 → (List.range (M 68 1).toNat).map (M 69) = s.2.2)
def Fdq (M M' : ZMm) : Prop := ∀ x, ¬ x = 67 → ¬ x = 68 → ¬ x = 69 → M' x = M x
theorem Fdq.rf {M : ZMm} : Fdq M M := fun _ _ _ _ => rfl
theorem Fdq.trans {M M1 M2 : ZMm} (h : Fdq M M1) (h2 : Fdq M1 M2) : Fdq M M2 := fun x a b c => (h2 x a b c).trans (h x a b c)
theorem Rd_rg {T : Nat → Int} {n : Nat} {u : Int} {M : ZMm} {s : PS} (h : Rd T n u M s) : rg (hre T n s) := by
  unfold hre
  split
  · exact (h.1.2.2.1 _ (by omega)).2
  · exact ⟨by omega, by omega⟩
theorem Rd_adv {T : Nat → Int} {n : Nat} {u : Int} {M : ZMm} {s : PS} (h : Rd T n u M s) (hl : s.1 < n) : Rd T n u (zup M 67 3 (M 67 3 + 1)) (adv s) ∧ Fdq M (zup M 67 3 (M 67 3 + 1)) := by
  obtain ⟨⟨a1, a2, a3, a4, a5⟩, p, f, o, z, c⟩ := h
  refine ⟨⟨⟨?_, a2, ?_, ?_, a5⟩, ?_, ?_, okS_adv o hl, ?_, ?_⟩, fun x q1 _ _ => zup_ne _ q1⟩
  · rw [zup_o (by decide)]; exact a1
  · rw [zup_ne _ (by decide)]; exact a3
  · rw [zup_k (by decide)]; exact a4
  · rw [zup_eq, p]; show (s.1 : Int) + 1 = ((s.1 + 1 : Nat) : Int); omega
  · rw [zup_k (by decide)]; exact f
  · rw [zup_o (by decide)]; show 0 ≤ M 68 1 ∧ M 68 1 ≤ ((s.1 + 1 : Nat) : Int); omega
  · rw [zup_o (by decide), zup_ne _ (by decide)]; exact c
theorem Rd_wrg {T : Nat → Int} {n : Nat} {u : Int} {M : ZMm} {s : PS} {v : Int} (h : Rd T n u M s) (hv : v = (wrg s).2.1) : Rd T n u (zup M 67 4 v) (wrg s) ∧ Fdq M (zup M 67 4 v) := by
  obtain ⟨⟨a1, a2, a3, a4, a5⟩, p, f, o, z, c⟩ := h
  have w9 := wrg_f (s := s)
  refine ⟨⟨⟨?_, a2, ?_, ?_, a5⟩, ?_, ?_, okS_wrg o, ?_, fun q => ?_⟩, fun x q1 _ _ => zup_ne _ q1⟩
  · rw [zup_o (by decide)]; exact a1
  · rw [zup_ne _ (by decide)]; exact a3
  · rw [zup_k (by decide)]; exact a4
  · rw [zup_k (by decide)]; exact p
  · rw [zup_eq]; exact hv
  · rw [zup_o (by decide)]; exact z
  · omega
theorem lyy_1 {v : Int} {s : PS} : (lyy v s).1 = s.1 ∧ (lyy v s).2.1 = s.2.1 := by
  unfold lyy
  split <;> exact ⟨rfl, rfl⟩
theorem Rd_lay {T : Nat → Int} {n : Nat} {u : Int} {M : ZMm} {s : PS} (v : Int) (h : Rd T n u M s) (hl : M 68 1 < s.1) : Rd T n u (zup (zup M 69 (M 68 1).toNat v) 68 1 (M 68 1 + 1)) (lyy v s) ∧ Fdq M (zup (zup M 69 (M 68 1).toNat v) 68 1 (M 68 1 + 1)) := by
  obtain ⟨⟨a1, a2, a3, a4, a5⟩, p, f, o, z, c⟩ := h
  have l9 := lyy_1 (v := v) (s := s)
  have g9 : ∀ x, ¬ x = 68 → ¬ x = 69 → zup (zup M 69 (M 68 1).toNat v) 68 1 (M 68 1 + 1) x = M x := fun x q1 q2 => by rw [zup_ne _ q1, zup_ne _ q2]
  refine ⟨⟨⟨?_, a2, ?_, ?_, a5⟩, ?_, ?_, okS_lyy o (fun q => ?_), ?_, fun q => ?_⟩, fun x _ q2 q3 => g9 x q2 q3⟩
  · rw [g9 22 (by decide) (by decide)]; exact a1
  · rw [g9 23 (by decide) (by decide)]; exact a3
  · rw [g9 67 (by decide) (by decide)]; exact a4
  · rw [g9 67 (by decide) (by decide), l9.1]; exact p
  · rw [g9 67 (by decide) (by decide), l9.2]; exact f
  · rw [← c q, List.length_map, List.length_range]; omega
  · rw [zup_eq, l9.1]; omega
  · rw [l9.2] at q
    have e : lyy v s = (s.1, s.2.1, s.2.2 ++ [v]) := if_pos q
    rw [e, zup_eq, show (M 68 1 + 1).toNat = (M 68 1).toNat + 1 by omega, List.range_succ, List.map_append]
    show _ = s.2.2 ++ [v]
    rw [← c q]
    congr 1
    · refine List.map_congr_left (fun k hk => ?_)
      have := List.mem_range.mp hk
      rw [zup_o (by decide), zup_k (by omega)]
    · simp only [List.map_cons, List.map_nil]
      rw [zup_o (by decide), zup_eq]
def B_rnx (M : Nat → Nat → Int) (post : Option ZV → (Nat → Nat → Int) → Prop) : Prop := ∃ (T : Nat → Int) (n : Nat) (u : Int) (s : PS), Rd T n u M s ∧ post (some (.inl (hre T n s))) M
def C_rnx : ZC := fun as h post => match as with
  | [.inr (.inr (.inl 67))] => h.1 = zG ∧ B_rnx h.2 (fun v M => post v (zG, M))
  | _ => False
theorem r_rnx {M : Nat → Nat → Int} {post : Option ZV → ZH → Prop} : C_rnx [.inr (.inr (.inl 67))] (zG, M) post = B_rnx M (fun v M => post v (zG, M)) := by show (zG = zG ∧ _) = _; simp
def ct_rnx : Nat → ZC := fun n => fun _ _ _ => False
theorem c_rnx {E : ZE} {d : Nat} (hd : 1 ≤ d) : zMet E d mX4_next C_rnx := by
  refine zmet_of (o := 4) (ini := false) (CT := ct_rnx) gd_X4_next rfl (fun h => by cases h) (by omega) ?_ ?_
  · intro n as h post hh
    unfold ct_rnx at hh
    exact hh.elim
  intro as h post hC
  match as, hC with
  | [.inr (.inr (.inl 67))], hC =>
    refine ⟨Nat.le_of_ble_eq_true rfl, fun X hX => bs_X4_next_0 hX ?_⟩
    obtain ⟨G, M⟩ := h
    obtain ⟨hG, hC⟩ := hC
    dsimp only at hG
    subst hG
    simp only [B_rnx] at hC
    show bk_X4_next_0 E ct_rnx X _ [some (.inr (.inr (.inl 67)))] [] (zG, M) (0, 0)
    obtain ⟨T, n, u, s, ho, hC⟩ := hC
    obtain ⟨⟨a1, a2, a3, a4, a5⟩, p, f, ⟨o1, o2, o3, o4⟩, z, c⟩ := ho
    have zn : zr (n : Int) = n := zr_of (by omega) (by omega)
    have zp : zr (s.1 : Int) = s.1 := zr_of (by omega) (by omega)
    have zf : zr s.2.1 = s.2.1 := zr_of (by omega) (by omega)
    unfold hre at hC
    simp only [bk_X4_next_0, k_X4_next_0, bk_X4_next_37, k_X4_next_37, bk_X4_next_38, k_X4_next_38, ↓e_rk1, ↓e_rk0, ↓e_sk0, ↓e_sks, ↓e_ldi0, ↓e_ldis, ↓e_ldl0, ↓e_ldls, ↓e_lda0, ↓e_ldas, ↓e_ok0, ↓e_okss, ↓e_ok1i, ↓e_ok1r, ↓e_ok1n, ↓e_sti, ↓e_sta, ↓e_1, ↓e_2, ↓e_l1, ↓e_l2, ↓e_li, ↓e_sw0, ↓e_sws, ↓e_ceq, ↓e_cne, ↓e_clt, ↓e_cge, ↓e_cgt, ↓e_cle, ↓e_nil, ↓e_cons, ↓e_iconst, ↓e_bipush, ↓e_sipush, ↓e_ldc, ↓e_ldcw, ↓e_ldc2, ↓e_lconst, ↓e_iloadn, ↓e_iload, ↓e_lloadn, ↓e_lload, ↓e_aloadn, ↓e_aload, ↓e_istoren, ↓e_istore, ↓e_astoren, ↓e_astore, ↓e_add, ↓e_iinc, ↓e_iadd, ↓e_isub, ↓e_imul, ↓e_iand, ↓e_ior, ↓e_ixor, ↓e_ishl, ↓e_iushr, ↓e_idiv, ↓e_irem, ↓e_ineg, ↓e_i2l, ↓e_i2b, ↓e_i2s, ↓e_l2i, ↓e_land, ↓e_lor, ↓e_lshl, ↓e_lshr, ↓e_lushr, ↓e_lcmp, ↓e_dupi, ↓e_dupr, ↓e_popi, ↓e_dup2, ↓e_goto, ↓e_if, ↓e_icmp, ↓e_tsw, ↓e_lsw, ↓e_getf, ↓e_putf, ↓e_gets, ↓e_iald, ↓e_cald, ↓e_iast, ↓e_aald, ↓e_aast, ↓e_len, ↓e_copy, ↓e_abs, ↓e_max, ↓e_min, ↓e_iret, ↓e_aret, ↓e_vret, ↓e_is0, ↓e_is1, ↓e_is2, ↓e_is3, ↓e_is4, ↓e_iv1, ↓e_iv2, ↓e_iv3, ↓e_iv4, ↓e_iv5, ↓e_iv6, ↓rt_X4_next, ↓reduceIte, Nat.reduceAdd, Nat.reduceEqDiff, ↓zcl0, ↓zclv, List.map_nil, List.sum_nil, List.map_cons, List.sum_cons, zcat, true_and, and_true, Nat.reduceLeDiff, Nat.reduceAdd, eq_self, forall_const, e_ok0, e_okss, e_ok1i, e_ok1r, e_ok1n, zl_m1, Int.reduceToNat, Int.reduceAdd, Int.reduceMul, Int.reduceSub, Int.reduceNeg, Int.reduceLT, Int.reduceLE, Int.reduceEq, not_false_eq_true, not_true_eq_false, false_implies, true_implies, implies_true, Int.reduceDiv, Int.reduceMod, zr8_zr, zr_zbo, z01_zbo, z01_0, z01_1, zbo_eq0, zup_eq, zup_o, zup_k, ne_eq, ↓v_67, ↓g_67_0, ↓g_67_1, ↓g_67_2, ↓p_67_2, ↓g_67_3, ↓p_67_3, ↓g_67_4, ↓p_67_4, ↓v_22, ↓g_22_0, ↓l_23, ↓s_23, ↓n_23, ↓g_22_1, ↓p_22_1, a1, p, f, zn, zp, zf, Int.toNat_natCast]
    repeat' (first | assumption | apply And.intro | intro _)
    all_goals first | omega | (refine zpost hC ?_; rw [if_pos (by omega), (a3 _ (by omega)).1]) | (refine zpost hC ?_; rw [if_neg (by omega)])
def B_rfh (M : Nat → Nat → Int) (post : Option ZV → (Nat → Nat → Int) → Prop) : Prop := ∃ (T : Nat → Int) (n : Nat) (u : Int) (s : PS), Rd T n u M s ∧ ∀ M2 : ZMm, Rd T n u M2 (wrg s) → Fdq M M2 → M2 68 1 = M 68 1 → post none M2
def C_rfh : ZC := fun as h post => match as with
  | [.inr (.inr (.inl 67))] => h.1 = zG ∧ B_rfh h.2 (fun v M => post v (zG, M))
  | _ => False
theorem r_rfh {M : Nat → Nat → Int} {post : Option ZV → ZH → Prop} : C_rfh [.inr (.inr (.inl 67))] (zG, M) post = B_rfh M (fun v M => post v (zG, M)) := by show (zG = zG ∧ _) = _; simp
def ct_rfh : Nat → ZC := fun n => fun _ _ _ => False
theorem c_rfh {E : ZE} {d : Nat} (hd : 1 ≤ d) : zMet E d mX4_failHere C_rfh := by
  refine zmet_of (o := 4) (ini := false) (CT := ct_rfh) gd_X4_failHere rfl (fun h => by cases h) (by omega) ?_ ?_
  · intro n as h post hh
    unfold ct_rfh at hh
    exact hh.elim
  intro as h post hC
  match as, hC with
  | [.inr (.inr (.inl 67))], hC =>
    refine ⟨Nat.le_of_ble_eq_true rfl, fun X hX => bs_X4_failHere_0 hX ?_⟩
    obtain ⟨G, M⟩ := h
    obtain ⟨hG, hC⟩ := hC
    dsimp only at hG
    subst hG
    simp only [B_rfh] at hC
    show bk_X4_failHere_0 E ct_rfh X _ [some (.inr (.inr (.inl 67)))] [] (zG, M) (0, 0)
    obtain ⟨T, n, u, s, ho, hC⟩ := hC
    have hp := ho.2.1
    have hf := ho.2.2.1
    have ok := ho.2.2.2.1
    have n5 := ho.1.2.1
    obtain ⟨o1, o2, o3, o4⟩ := ok
    have zf : zr s.2.1 = s.2.1 := zr_of (by omega) (by omega)
    have f1 : s.2.1 = -1 → post none (zG, zup M 67 4 (M 67 3)) := by
      intro e
      obtain ⟨g1, g2⟩ := Rd_wrg (v := M 67 3) ho (by unfold wrg; rw [if_pos (by omega)]; exact hp)
      exact hC _ g1 g2 (by rw [zup_o (by decide)])
    have f2 : ¬ s.2.1 = -1 → post none (zG, M) := by
      intro e
      have w9 : wrg s = s := by unfold wrg; rw [if_neg (by omega)]
      exact hC M (by rw [w9]; exact ho) Fdq.rf rfl
    simp only [bk_X4_failHere_0, k_X4_failHere_0, bk_X4_failHere_16, k_X4_failHere_16, ↓e_rk1, ↓e_rk0, ↓e_sk0, ↓e_sks, ↓e_ldi0, ↓e_ldis, ↓e_ldl0, ↓e_ldls, ↓e_lda0, ↓e_ldas, ↓e_ok0, ↓e_okss, ↓e_ok1i, ↓e_ok1r, ↓e_ok1n, ↓e_sti, ↓e_sta, ↓e_1, ↓e_2, ↓e_l1, ↓e_l2, ↓e_li, ↓e_sw0, ↓e_sws, ↓e_ceq, ↓e_cne, ↓e_clt, ↓e_cge, ↓e_cgt, ↓e_cle, ↓e_nil, ↓e_cons, ↓e_iconst, ↓e_bipush, ↓e_sipush, ↓e_ldc, ↓e_ldcw, ↓e_ldc2, ↓e_lconst, ↓e_iloadn, ↓e_iload, ↓e_lloadn, ↓e_lload, ↓e_aloadn, ↓e_aload, ↓e_istoren, ↓e_istore, ↓e_astoren, ↓e_astore, ↓e_add, ↓e_iinc, ↓e_iadd, ↓e_isub, ↓e_imul, ↓e_iand, ↓e_ior, ↓e_ixor, ↓e_ishl, ↓e_iushr, ↓e_idiv, ↓e_irem, ↓e_ineg, ↓e_i2l, ↓e_i2b, ↓e_i2s, ↓e_l2i, ↓e_land, ↓e_lor, ↓e_lshl, ↓e_lshr, ↓e_lushr, ↓e_lcmp, ↓e_dupi, ↓e_dupr, ↓e_popi, ↓e_dup2, ↓e_goto, ↓e_if, ↓e_icmp, ↓e_tsw, ↓e_lsw, ↓e_getf, ↓e_putf, ↓e_gets, ↓e_iald, ↓e_cald, ↓e_iast, ↓e_aald, ↓e_aast, ↓e_len, ↓e_copy, ↓e_abs, ↓e_max, ↓e_min, ↓e_iret, ↓e_aret, ↓e_vret, ↓e_is0, ↓e_is1, ↓e_is2, ↓e_is3, ↓e_is4, ↓e_iv1, ↓e_iv2, ↓e_iv3, ↓e_iv4, ↓e_iv5, ↓e_iv6, ↓rt_X4_failHere, ↓reduceIte, Nat.reduceAdd, Nat.reduceEqDiff, ↓zcl0, ↓zclv, List.map_nil, List.sum_nil, List.map_cons, List.sum_cons, zcat, true_and, and_true, Nat.reduceLeDiff, Nat.reduceAdd, eq_self, forall_const, e_ok0, e_okss, e_ok1i, e_ok1r, e_ok1n, zl_m1, Int.reduceToNat, Int.reduceAdd, Int.reduceMul, Int.reduceSub, Int.reduceNeg, Int.reduceLT, Int.reduceLE, Int.reduceEq, not_false_eq_true, not_true_eq_false, false_implies, true_implies, implies_true, Int.reduceDiv, Int.reduceMod, zr8_zr, zr_zbo, z01_zbo, z01_0, z01_1, zbo_eq0, zup_eq, zup_o, zup_k, ne_eq, ↓v_67, ↓g_67_0, ↓g_67_1, ↓g_67_2, ↓p_67_2, ↓g_67_3, ↓p_67_3, ↓g_67_4, ↓p_67_4, hf, zf]
    refine ⟨fun e => ?_, fun e => ?_⟩
    · first | exact f1 e | exact f2 e
    · first | exact f1 e | exact f2 e
def B_rdg (c : Int) (post : Option ZV → Prop) : Prop := rg c ∧ post (some (.inl (zbo (48 ≤ c ∧ c ≤ 57))))
def C_rdg : ZC := fun as h post => match as with
  | [.inl c] => B_rdg c (fun v => post v h)
  | _ => False
theorem r_rdg {c : Int} {h : ZH} {post : Option ZV → ZH → Prop} : C_rdg [.inl c] h post = B_rdg c (fun v => post v h) := rfl
def ct_rdg : Nat → ZC := fun n => fun _ _ _ => False
theorem c_rdg {E : ZE} {d : Nat} (hd : 1 ≤ d) : zMet E d mX4_isDigit C_rdg := by
  refine zmet_of (o := 4) (ini := false) (CT := ct_rdg) gd_X4_isDigit rfl (fun h => by cases h) (by omega) ?_ ?_
  · intro n as h post hh
    unfold ct_rdg at hh
    exact hh.elim
  intro as h post hC
  match as, hC with
  | [.inl c], hC =>
    refine ⟨Nat.le_of_ble_eq_true rfl, fun X hX => bs_X4_isDigit_0 hX ?_⟩
    have hC : B_rdg c (fun v => post v h) := hC
    simp only [B_rdg] at hC
    show bk_X4_isDigit_0 E ct_rdg X _ [some (.inl c)] [] h (0, 0)
    obtain ⟨h1, hC⟩ := hC
    simp only [bk_X4_isDigit_0, k_X4_isDigit_0, bk_X4_isDigit_16, k_X4_isDigit_16, bk_X4_isDigit_17, k_X4_isDigit_17, ↓e_rk1, ↓e_rk0, ↓e_sk0, ↓e_sks, ↓e_ldi0, ↓e_ldis, ↓e_ldl0, ↓e_ldls, ↓e_lda0, ↓e_ldas, ↓e_ok0, ↓e_okss, ↓e_ok1i, ↓e_ok1r, ↓e_ok1n, ↓e_sti, ↓e_sta, ↓e_1, ↓e_2, ↓e_l1, ↓e_l2, ↓e_li, ↓e_sw0, ↓e_sws, ↓e_ceq, ↓e_cne, ↓e_clt, ↓e_cge, ↓e_cgt, ↓e_cle, ↓e_nil, ↓e_cons, ↓e_iconst, ↓e_bipush, ↓e_sipush, ↓e_ldc, ↓e_ldcw, ↓e_ldc2, ↓e_lconst, ↓e_iloadn, ↓e_iload, ↓e_lloadn, ↓e_lload, ↓e_aloadn, ↓e_aload, ↓e_istoren, ↓e_istore, ↓e_astoren, ↓e_astore, ↓e_add, ↓e_iinc, ↓e_iadd, ↓e_isub, ↓e_imul, ↓e_iand, ↓e_ior, ↓e_ixor, ↓e_ishl, ↓e_iushr, ↓e_idiv, ↓e_irem, ↓e_ineg, ↓e_i2l, ↓e_i2b, ↓e_i2s, ↓e_l2i, ↓e_land, ↓e_lor, ↓e_lshl, ↓e_lshr, ↓e_lushr, ↓e_lcmp, ↓e_dupi, ↓e_dupr, ↓e_popi, ↓e_dup2, ↓e_goto, ↓e_if, ↓e_icmp, ↓e_tsw, ↓e_lsw, ↓e_getf, ↓e_putf, ↓e_gets, ↓e_iald, ↓e_cald, ↓e_iast, ↓e_aald, ↓e_aast, ↓e_len, ↓e_copy, ↓e_abs, ↓e_max, ↓e_min, ↓e_iret, ↓e_aret, ↓e_vret, ↓e_is0, ↓e_is1, ↓e_is2, ↓e_is3, ↓e_is4, ↓e_iv1, ↓e_iv2, ↓e_iv3, ↓e_iv4, ↓e_iv5, ↓e_iv6, ↓rt_X4_isDigit, ↓reduceIte, Nat.reduceAdd, Nat.reduceEqDiff, ↓zcl0, ↓zclv, List.map_nil, List.sum_nil, List.map_cons, List.sum_cons, zcat, true_and, and_true, Nat.reduceLeDiff, Nat.reduceAdd, eq_self, forall_const, e_ok0, e_okss, e_ok1i, e_ok1r, e_ok1n, zl_0, zl_1, zl_48, zl_57, Int.reduceToNat, Int.reduceAdd, Int.reduceMul, Int.reduceSub, Int.reduceNeg, Int.reduceLT, Int.reduceLE, Int.reduceEq, not_false_eq_true, not_true_eq_false, false_implies, true_implies, implies_true, Int.reduceDiv, Int.reduceMod, zr8_zr, zr_zbo, z01_zbo, z01_0, z01_1, zbo_eq0, zup_eq, zup_o, zup_k, ne_eq, zr_rg, h1]
    repeat' (first | assumption | apply And.intro | intro _)
    all_goals first | exact zpost hC (zbo_t (by omega)) | exact zpost hC (zbo_f (by omega))
def lvj (c : Int) : Int := if c = 124 then 0 else if c = 38 then 1 else if c = 60 ∨ c = 61 ∨ c = 62 then 2 else if c = 43 ∨ c = 45 then 3 else if c = 42 ∨ c = 47 ∨ c = 37 then 4 else -1
theorem lvj_lvl {c : Int} {l : Nat} (h : l < 5) : lvj c = l ↔ lvl c = l := by
  unfold lvj lvl
  (repeat' split) <;> omega
def B_rlv (c : Int) (post : Option ZV → Prop) : Prop := rg c ∧ post (some (.inl (lvj c)))
def C_rlv : ZC := fun as h post => match as with
  | [.inl c] => B_rlv c (fun v => post v h)
  | _ => False
theorem r_rlv {c : Int} {h : ZH} {post : Option ZV → ZH → Prop} : C_rlv [.inl c] h post = B_rlv c (fun v => post v h) := rfl
def ct_rlv : Nat → ZC := fun n => fun _ _ _ => False
theorem c_rlv {E : ZE} {d : Nat} (hd : 1 ≤ d) : zMet E d mX4_levelOf C_rlv := by
  refine zmet_of (o := 4) (ini := false) (CT := ct_rlv) gd_X4_levelOf rfl (fun h => by cases h) (by omega) ?_ ?_
  · intro n as h post hh
    unfold ct_rlv at hh
    exact hh.elim
  intro as h post hC
  match as, hC with
  | [.inl c], hC =>
    refine ⟨Nat.le_of_ble_eq_true rfl, fun X hX => bs_X4_levelOf_0 hX ?_⟩
    have hC : B_rlv c (fun v => post v h) := hC
    simp only [B_rlv] at hC
    show bk_X4_levelOf_0 E ct_rlv X _ [some (.inl c)] [] h (0, 0)
    obtain ⟨h1, hC⟩ := hC
    unfold lvj at hC
    simp only [bk_X4_levelOf_0, k_X4_levelOf_0, bk_X4_levelOf_92, k_X4_levelOf_92, bk_X4_levelOf_94, k_X4_levelOf_94, bk_X4_levelOf_96, k_X4_levelOf_96, bk_X4_levelOf_98, k_X4_levelOf_98, bk_X4_levelOf_100, k_X4_levelOf_100, bk_X4_levelOf_102, k_X4_levelOf_102, ↓e_rk1, ↓e_rk0, ↓e_sk0, ↓e_sks, ↓e_ldi0, ↓e_ldis, ↓e_ldl0, ↓e_ldls, ↓e_lda0, ↓e_ldas, ↓e_ok0, ↓e_okss, ↓e_ok1i, ↓e_ok1r, ↓e_ok1n, ↓e_sti, ↓e_sta, ↓e_1, ↓e_2, ↓e_l1, ↓e_l2, ↓e_li, ↓e_sw0, ↓e_sws, ↓e_ceq, ↓e_cne, ↓e_clt, ↓e_cge, ↓e_cgt, ↓e_cle, ↓e_nil, ↓e_cons, ↓e_iconst, ↓e_bipush, ↓e_sipush, ↓e_ldc, ↓e_ldcw, ↓e_ldc2, ↓e_lconst, ↓e_iloadn, ↓e_iload, ↓e_lloadn, ↓e_lload, ↓e_aloadn, ↓e_aload, ↓e_istoren, ↓e_istore, ↓e_astoren, ↓e_astore, ↓e_add, ↓e_iinc, ↓e_iadd, ↓e_isub, ↓e_imul, ↓e_iand, ↓e_ior, ↓e_ixor, ↓e_ishl, ↓e_iushr, ↓e_idiv, ↓e_irem, ↓e_ineg, ↓e_i2l, ↓e_i2b, ↓e_i2s, ↓e_l2i, ↓e_land, ↓e_lor, ↓e_lshl, ↓e_lshr, ↓e_lushr, ↓e_lcmp, ↓e_dupi, ↓e_dupr, ↓e_popi, ↓e_dup2, ↓e_goto, ↓e_if, ↓e_icmp, ↓e_tsw, ↓e_lsw, ↓e_getf, ↓e_putf, ↓e_gets, ↓e_iald, ↓e_cald, ↓e_iast, ↓e_aald, ↓e_aast, ↓e_len, ↓e_copy, ↓e_abs, ↓e_max, ↓e_min, ↓e_iret, ↓e_aret, ↓e_vret, ↓e_is0, ↓e_is1, ↓e_is2, ↓e_is3, ↓e_is4, ↓e_iv1, ↓e_iv2, ↓e_iv3, ↓e_iv4, ↓e_iv5, ↓e_iv6, ↓rt_X4_levelOf, ↓reduceIte, Nat.reduceAdd, Nat.reduceEqDiff, ↓zcl0, ↓zclv, List.map_nil, List.sum_nil, List.map_cons, List.sum_cons, zcat, true_and, and_true, Nat.reduceLeDiff, Nat.reduceAdd, eq_self, forall_const, e_ok0, e_okss, e_ok1i, e_ok1r, e_ok1n, zl_m1, zl_0, zl_1, zl_2, zl_3, zl_4, Int.reduceToNat, Int.reduceAdd, Int.reduceMul, Int.reduceSub, Int.reduceNeg, Int.reduceLT, Int.reduceLE, Int.reduceEq, not_false_eq_true, not_true_eq_false, false_implies, true_implies, implies_true, Int.reduceDiv, Int.reduceMod, zr8_zr, zr_zbo, z01_zbo, z01_0, z01_1, zbo_eq0, zup_eq, zup_o, zup_k, ne_eq, zr_rg, h1]
    repeat' (first | assumption | apply And.intro | intro _)
    all_goals (refine zpost hC ?_; (repeat' split) <;> first | rfl | omega)
theorem nmo_m (u c : Int) : nmo u c = -1 ∨ 0 ≤ nmo u c := by
  unfold nmo
  (repeat' split) <;> omega
def B_rnm (c : Int) (M : Nat → Nat → Int) (post : Option ZV → (Nat → Nat → Int) → Prop) : Prop := rg c ∧ (M 67 2 = 0 ∨ M 67 2 = 1) ∧ post (some (.inl (nmo (M 67 2) c))) M
def C_rnm : ZC := fun as h post => match as with
  | [.inr (.inr (.inl 67)), .inl c] => h.1 = zG ∧ B_rnm c h.2 (fun v M => post v (zG, M))
  | _ => False
theorem r_rnm {c : Int} {M : Nat → Nat → Int} {post : Option ZV → ZH → Prop} : C_rnm [.inr (.inr (.inl 67)), .inl c] (zG, M) post = B_rnm c M (fun v M => post v (zG, M)) := by show (zG = zG ∧ _) = _; simp
def ct_rnm : Nat → ZC := fun n => fun _ _ _ => False
theorem c_rnm {E : ZE} {d : Nat} (hd : 1 ≤ d) : zMet E d mX4_nameOf C_rnm := by
  refine zmet_of (o := 4) (ini := false) (CT := ct_rnm) gd_X4_nameOf rfl (fun h => by cases h) (by omega) ?_ ?_
  · intro n as h post hh
    unfold ct_rnm at hh
    exact hh.elim
  intro as h post hC
  match as, hC with
  | [.inr (.inr (.inl 67)), .inl c], hC =>
    refine ⟨Nat.le_of_ble_eq_true rfl, fun X hX => bs_X4_nameOf_0 hX ?_⟩
    obtain ⟨G, M⟩ := h
    obtain ⟨hG, hC⟩ := hC
    dsimp only at hG
    subst hG
    simp only [B_rnm] at hC
    show bk_X4_nameOf_0 E ct_rnm X _ [some (.inr (.inr (.inl 67))), some (.inl c), none] [] (zG, M) (0, 0)
    obtain ⟨h1, hu, hC⟩ := hC
    have step : ∀ (i v : Int), (0 ≤ i ∧ i ≤ 2) → ([101, 100, 121, 112, 114, 119] : List Int).getD (M 67 2 * 3 + i).toNat 0 = v → (0 ≤ v ∧ v ≤ 200) → (v = c → post (some (.inl i)) (zG, M)) → (¬ v = c → X 2 [some (.inr (.inr (.inl 67))), some (.inl c), some (.inl (i + 1))] [] (zG, M) (0, 0)) → X 2 [some (.inr (.inr (.inl 67))), some (.inl c), some (.inl i)] [] (zG, M) (0, 0) := by
      intro i v hi ev hv s1 s2
      have zi : zr i = i := zr_of (by omega) (by omega)
      have li : (i < 3) = True := eq_true (by omega)
      have zx : zr (M 67 2 * 3 + i) = M 67 2 * 3 + i := zr_of (by omega) (by omega)
      have zv : zr v = v := zr_of (by omega) (by omega)
      have f2 : zrF 2 E.2.2.2.2.2.2 (M 67 2 * 3 + i).toNat = v := ev
      have J25 : ¬ v = c → X 25 [some (.inr (.inr (.inl 67))), some (.inl c), some (.inl i)] [] (zG, M) (0, 0) := by
        intro e
        refine bs_X4_nameOf_25 hX ?_
        simp only [bk_X4_nameOf_0, k_X4_nameOf_0, bk_X4_nameOf_2, k_X4_nameOf_2, bk_X4_nameOf_7, k_X4_nameOf_7, bk_X4_nameOf_25, k_X4_nameOf_25, bk_X4_nameOf_31, k_X4_nameOf_31, ↓e_rk1, ↓e_rk0, ↓e_sk0, ↓e_sks, ↓e_ldi0, ↓e_ldis, ↓e_ldl0, ↓e_ldls, ↓e_lda0, ↓e_ldas, ↓e_ok0, ↓e_okss, ↓e_ok1i, ↓e_ok1r, ↓e_ok1n, ↓e_sti, ↓e_sta, ↓e_1, ↓e_2, ↓e_l1, ↓e_l2, ↓e_li, ↓e_sw0, ↓e_sws, ↓e_ceq, ↓e_cne, ↓e_clt, ↓e_cge, ↓e_cgt, ↓e_cle, ↓e_nil, ↓e_cons, ↓e_iconst, ↓e_bipush, ↓e_sipush, ↓e_ldc, ↓e_ldcw, ↓e_ldc2, ↓e_lconst, ↓e_iloadn, ↓e_iload, ↓e_lloadn, ↓e_lload, ↓e_aloadn, ↓e_aload, ↓e_istoren, ↓e_istore, ↓e_astoren, ↓e_astore, ↓e_add, ↓e_iinc, ↓e_iadd, ↓e_isub, ↓e_imul, ↓e_iand, ↓e_ior, ↓e_ixor, ↓e_ishl, ↓e_iushr, ↓e_idiv, ↓e_irem, ↓e_ineg, ↓e_i2l, ↓e_i2b, ↓e_i2s, ↓e_l2i, ↓e_land, ↓e_lor, ↓e_lshl, ↓e_lshr, ↓e_lushr, ↓e_lcmp, ↓e_dupi, ↓e_dupr, ↓e_popi, ↓e_dup2, ↓e_goto, ↓e_if, ↓e_icmp, ↓e_tsw, ↓e_lsw, ↓e_getf, ↓e_putf, ↓e_gets, ↓e_iald, ↓e_cald, ↓e_iast, ↓e_aald, ↓e_aast, ↓e_len, ↓e_copy, ↓e_abs, ↓e_max, ↓e_min, ↓e_iret, ↓e_aret, ↓e_vret, ↓e_is0, ↓e_is1, ↓e_is2, ↓e_is3, ↓e_is4, ↓e_iv1, ↓e_iv2, ↓e_iv3, ↓e_iv4, ↓e_iv5, ↓e_iv6, ↓rt_X4_nameOf, ↓reduceIte, Nat.reduceAdd, Nat.reduceEqDiff, ↓zcl0, ↓zclv, List.map_nil, List.sum_nil, List.map_cons, List.sum_cons, zcat, true_and, and_true, Nat.reduceLeDiff, Nat.reduceAdd, eq_self, forall_const, e_ok0, e_okss, e_ok1i, e_ok1r, e_ok1n, zl_m1, zl_0, zl_3, Int.reduceToNat, Int.reduceAdd, Int.reduceMul, Int.reduceSub, Int.reduceNeg, Int.reduceLT, Int.reduceLE, Int.reduceEq, not_false_eq_true, not_true_eq_false, false_implies, true_implies, implies_true, Int.reduceDiv, Int.reduceMod, zr8_zr, zr_zbo, z01_zbo, z01_0, z01_1, zbo_eq0, zup_eq, zup_o, zup_k, ne_eq, ↓v_67, ↓g_67_0, ↓g_67_1, ↓g_67_2, ↓p_67_2, ↓g_67_3, ↓p_67_3, ↓g_67_4, ↓p_67_4]
        exact s2 e
      refine bs_X4_nameOf_2 hX ?_
      simp only [bk_X4_nameOf_0, k_X4_nameOf_0, bk_X4_nameOf_2, k_X4_nameOf_2, bk_X4_nameOf_7, k_X4_nameOf_7, bk_X4_nameOf_25, k_X4_nameOf_25, bk_X4_nameOf_31, k_X4_nameOf_31, ↓e_rk1, ↓e_rk0, ↓e_sk0, ↓e_sks, ↓e_ldi0, ↓e_ldis, ↓e_ldl0, ↓e_ldls, ↓e_lda0, ↓e_ldas, ↓e_ok0, ↓e_okss, ↓e_ok1i, ↓e_ok1r, ↓e_ok1n, ↓e_sti, ↓e_sta, ↓e_1, ↓e_2, ↓e_l1, ↓e_l2, ↓e_li, ↓e_sw0, ↓e_sws, ↓e_ceq, ↓e_cne, ↓e_clt, ↓e_cge, ↓e_cgt, ↓e_cle, ↓e_nil, ↓e_cons, ↓e_iconst, ↓e_bipush, ↓e_sipush, ↓e_ldc, ↓e_ldcw, ↓e_ldc2, ↓e_lconst, ↓e_iloadn, ↓e_iload, ↓e_lloadn, ↓e_lload, ↓e_aloadn, ↓e_aload, ↓e_istoren, ↓e_istore, ↓e_astoren, ↓e_astore, ↓e_add, ↓e_iinc, ↓e_iadd, ↓e_isub, ↓e_imul, ↓e_iand, ↓e_ior, ↓e_ixor, ↓e_ishl, ↓e_iushr, ↓e_idiv, ↓e_irem, ↓e_ineg, ↓e_i2l, ↓e_i2b, ↓e_i2s, ↓e_l2i, ↓e_land, ↓e_lor, ↓e_lshl, ↓e_lshr, ↓e_lushr, ↓e_lcmp, ↓e_dupi, ↓e_dupr, ↓e_popi, ↓e_dup2, ↓e_goto, ↓e_if, ↓e_icmp, ↓e_tsw, ↓e_lsw, ↓e_getf, ↓e_putf, ↓e_gets, ↓e_iald, ↓e_cald, ↓e_iast, ↓e_aald, ↓e_aast, ↓e_len, ↓e_copy, ↓e_abs, ↓e_max, ↓e_min, ↓e_iret, ↓e_aret, ↓e_vret, ↓e_is0, ↓e_is1, ↓e_is2, ↓e_is3, ↓e_is4, ↓e_iv1, ↓e_iv2, ↓e_iv3, ↓e_iv4, ↓e_iv5, ↓e_iv6, ↓rt_X4_nameOf, ↓reduceIte, Nat.reduceAdd, Nat.reduceEqDiff, ↓zcl0, ↓zclv, List.map_nil, List.sum_nil, List.map_cons, List.sum_cons, zcat, true_and, and_true, Nat.reduceLeDiff, Nat.reduceAdd, eq_self, forall_const, e_ok0, e_okss, e_ok1i, e_ok1r, e_ok1n, zl_m1, zl_0, zl_3, Int.reduceToNat, Int.reduceAdd, Int.reduceMul, Int.reduceSub, Int.reduceNeg, Int.reduceLT, Int.reduceLE, Int.reduceEq, not_false_eq_true, not_true_eq_false, false_implies, true_implies, implies_true, Int.reduceDiv, Int.reduceMod, zr8_zr, zr_zbo, z01_zbo, z01_0, z01_1, zbo_eq0, zup_eq, zup_o, zup_k, ne_eq, ↓v_67, ↓g_67_0, ↓g_67_1, ↓g_67_2, ↓p_67_2, ↓g_67_3, ↓p_67_3, ↓g_67_4, ↓p_67_4, zi, li]
      refine bs_X4_nameOf_7 hX ?_
      simp only [bk_X4_nameOf_0, k_X4_nameOf_0, bk_X4_nameOf_2, k_X4_nameOf_2, bk_X4_nameOf_7, k_X4_nameOf_7, bk_X4_nameOf_25, k_X4_nameOf_25, bk_X4_nameOf_31, k_X4_nameOf_31, ↓e_rk1, ↓e_rk0, ↓e_sk0, ↓e_sks, ↓e_ldi0, ↓e_ldis, ↓e_ldl0, ↓e_ldls, ↓e_lda0, ↓e_ldas, ↓e_ok0, ↓e_okss, ↓e_ok1i, ↓e_ok1r, ↓e_ok1n, ↓e_sti, ↓e_sta, ↓e_1, ↓e_2, ↓e_l1, ↓e_l2, ↓e_li, ↓e_sw0, ↓e_sws, ↓e_ceq, ↓e_cne, ↓e_clt, ↓e_cge, ↓e_cgt, ↓e_cle, ↓e_nil, ↓e_cons, ↓e_iconst, ↓e_bipush, ↓e_sipush, ↓e_ldc, ↓e_ldcw, ↓e_ldc2, ↓e_lconst, ↓e_iloadn, ↓e_iload, ↓e_lloadn, ↓e_lload, ↓e_aloadn, ↓e_aload, ↓e_istoren, ↓e_istore, ↓e_astoren, ↓e_astore, ↓e_add, ↓e_iinc, ↓e_iadd, ↓e_isub, ↓e_imul, ↓e_iand, ↓e_ior, ↓e_ixor, ↓e_ishl, ↓e_iushr, ↓e_idiv, ↓e_irem, ↓e_ineg, ↓e_i2l, ↓e_i2b, ↓e_i2s, ↓e_l2i, ↓e_land, ↓e_lor, ↓e_lshl, ↓e_lshr, ↓e_lushr, ↓e_lcmp, ↓e_dupi, ↓e_dupr, ↓e_popi, ↓e_dup2, ↓e_goto, ↓e_if, ↓e_icmp, ↓e_tsw, ↓e_lsw, ↓e_getf, ↓e_putf, ↓e_gets, ↓e_iald, ↓e_cald, ↓e_iast, ↓e_aald, ↓e_aast, ↓e_len, ↓e_copy, ↓e_abs, ↓e_max, ↓e_min, ↓e_iret, ↓e_aret, ↓e_vret, ↓e_is0, ↓e_is1, ↓e_is2, ↓e_is3, ↓e_is4, ↓e_iv1, ↓e_iv2, ↓e_iv3, ↓e_iv4, ↓e_iv5, ↓e_iv6, ↓rt_X4_nameOf, ↓reduceIte, Nat.reduceAdd, Nat.reduceEqDiff, ↓zcl0, ↓zclv, List.map_nil, List.sum_nil, List.map_cons, List.sum_cons, zcat, true_and, and_true, Nat.reduceLeDiff, Nat.reduceAdd, eq_self, forall_const, e_ok0, e_okss, e_ok1i, e_ok1r, e_ok1n, zl_m1, zl_0, zl_3, Int.reduceToNat, Int.reduceAdd, Int.reduceMul, Int.reduceSub, Int.reduceNeg, Int.reduceLT, Int.reduceLE, Int.reduceEq, not_false_eq_true, not_true_eq_false, false_implies, true_implies, implies_true, Int.reduceDiv, Int.reduceMod, zr8_zr, zr_zbo, z01_zbo, z01_0, z01_1, zbo_eq0, zup_eq, zup_o, zup_k, ne_eq, ↓v_67, ↓g_67_0, ↓g_67_1, ↓g_67_2, ↓p_67_2, ↓g_67_3, ↓p_67_3, ↓g_67_4, ↓p_67_4, ↓l_q2, zx, f2, zv, zr_rg, h1]
      refine ⟨by omega, by omega, fun e => ?_, fun e => ?_⟩
      · first | exact s1 e | exact J25 e
      · first | exact s1 e | exact J25 e
    have last : ¬ 0 ≤ nmo (M 67 2) c → X 2 [some (.inr (.inr (.inl 67))), some (.inl c), some (.inl 3)] [] (zG, M) (0, 0) := by
      intro e
      have e9 : nmo (M 67 2) c = -1 := by rcases nmo_m (M 67 2) c with q | q; exact q; exact absurd q e
      have z3 : zr 3 = 3 := rfl
      refine bs_X4_nameOf_2 hX ?_
      simp only [bk_X4_nameOf_0, k_X4_nameOf_0, bk_X4_nameOf_2, k_X4_nameOf_2, bk_X4_nameOf_7, k_X4_nameOf_7, bk_X4_nameOf_25, k_X4_nameOf_25, bk_X4_nameOf_31, k_X4_nameOf_31, ↓e_rk1, ↓e_rk0, ↓e_sk0, ↓e_sks, ↓e_ldi0, ↓e_ldis, ↓e_ldl0, ↓e_ldls, ↓e_lda0, ↓e_ldas, ↓e_ok0, ↓e_okss, ↓e_ok1i, ↓e_ok1r, ↓e_ok1n, ↓e_sti, ↓e_sta, ↓e_1, ↓e_2, ↓e_l1, ↓e_l2, ↓e_li, ↓e_sw0, ↓e_sws, ↓e_ceq, ↓e_cne, ↓e_clt, ↓e_cge, ↓e_cgt, ↓e_cle, ↓e_nil, ↓e_cons, ↓e_iconst, ↓e_bipush, ↓e_sipush, ↓e_ldc, ↓e_ldcw, ↓e_ldc2, ↓e_lconst, ↓e_iloadn, ↓e_iload, ↓e_lloadn, ↓e_lload, ↓e_aloadn, ↓e_aload, ↓e_istoren, ↓e_istore, ↓e_astoren, ↓e_astore, ↓e_add, ↓e_iinc, ↓e_iadd, ↓e_isub, ↓e_imul, ↓e_iand, ↓e_ior, ↓e_ixor, ↓e_ishl, ↓e_iushr, ↓e_idiv, ↓e_irem, ↓e_ineg, ↓e_i2l, ↓e_i2b, ↓e_i2s, ↓e_l2i, ↓e_land, ↓e_lor, ↓e_lshl, ↓e_lshr, ↓e_lushr, ↓e_lcmp, ↓e_dupi, ↓e_dupr, ↓e_popi, ↓e_dup2, ↓e_goto, ↓e_if, ↓e_icmp, ↓e_tsw, ↓e_lsw, ↓e_getf, ↓e_putf, ↓e_gets, ↓e_iald, ↓e_cald, ↓e_iast, ↓e_aald, ↓e_aast, ↓e_len, ↓e_copy, ↓e_abs, ↓e_max, ↓e_min, ↓e_iret, ↓e_aret, ↓e_vret, ↓e_is0, ↓e_is1, ↓e_is2, ↓e_is3, ↓e_is4, ↓e_iv1, ↓e_iv2, ↓e_iv3, ↓e_iv4, ↓e_iv5, ↓e_iv6, ↓rt_X4_nameOf, ↓reduceIte, Nat.reduceAdd, Nat.reduceEqDiff, ↓zcl0, ↓zclv, List.map_nil, List.sum_nil, List.map_cons, List.sum_cons, zcat, true_and, and_true, Nat.reduceLeDiff, Nat.reduceAdd, eq_self, forall_const, e_ok0, e_okss, e_ok1i, e_ok1r, e_ok1n, zl_m1, zl_0, zl_3, Int.reduceToNat, Int.reduceAdd, Int.reduceMul, Int.reduceSub, Int.reduceNeg, Int.reduceLT, Int.reduceLE, Int.reduceEq, not_false_eq_true, not_true_eq_false, false_implies, true_implies, implies_true, Int.reduceDiv, Int.reduceMod, zr8_zr, zr_zbo, z01_zbo, z01_0, z01_1, zbo_eq0, zup_eq, zup_o, zup_k, ne_eq, ↓v_67, ↓g_67_0, ↓g_67_1, ↓g_67_2, ↓p_67_2, ↓g_67_3, ↓p_67_3, ↓g_67_4, ↓p_67_4, z3]
      refine bs_X4_nameOf_31 hX ?_
      simp only [bk_X4_nameOf_0, k_X4_nameOf_0, bk_X4_nameOf_2, k_X4_nameOf_2, bk_X4_nameOf_7, k_X4_nameOf_7, bk_X4_nameOf_25, k_X4_nameOf_25, bk_X4_nameOf_31, k_X4_nameOf_31, ↓e_rk1, ↓e_rk0, ↓e_sk0, ↓e_sks, ↓e_ldi0, ↓e_ldis, ↓e_ldl0, ↓e_ldls, ↓e_lda0, ↓e_ldas, ↓e_ok0, ↓e_okss, ↓e_ok1i, ↓e_ok1r, ↓e_ok1n, ↓e_sti, ↓e_sta, ↓e_1, ↓e_2, ↓e_l1, ↓e_l2, ↓e_li, ↓e_sw0, ↓e_sws, ↓e_ceq, ↓e_cne, ↓e_clt, ↓e_cge, ↓e_cgt, ↓e_cle, ↓e_nil, ↓e_cons, ↓e_iconst, ↓e_bipush, ↓e_sipush, ↓e_ldc, ↓e_ldcw, ↓e_ldc2, ↓e_lconst, ↓e_iloadn, ↓e_iload, ↓e_lloadn, ↓e_lload, ↓e_aloadn, ↓e_aload, ↓e_istoren, ↓e_istore, ↓e_astoren, ↓e_astore, ↓e_add, ↓e_iinc, ↓e_iadd, ↓e_isub, ↓e_imul, ↓e_iand, ↓e_ior, ↓e_ixor, ↓e_ishl, ↓e_iushr, ↓e_idiv, ↓e_irem, ↓e_ineg, ↓e_i2l, ↓e_i2b, ↓e_i2s, ↓e_l2i, ↓e_land, ↓e_lor, ↓e_lshl, ↓e_lshr, ↓e_lushr, ↓e_lcmp, ↓e_dupi, ↓e_dupr, ↓e_popi, ↓e_dup2, ↓e_goto, ↓e_if, ↓e_icmp, ↓e_tsw, ↓e_lsw, ↓e_getf, ↓e_putf, ↓e_gets, ↓e_iald, ↓e_cald, ↓e_iast, ↓e_aald, ↓e_aast, ↓e_len, ↓e_copy, ↓e_abs, ↓e_max, ↓e_min, ↓e_iret, ↓e_aret, ↓e_vret, ↓e_is0, ↓e_is1, ↓e_is2, ↓e_is3, ↓e_is4, ↓e_iv1, ↓e_iv2, ↓e_iv3, ↓e_iv4, ↓e_iv5, ↓e_iv6, ↓rt_X4_nameOf, ↓reduceIte, Nat.reduceAdd, Nat.reduceEqDiff, ↓zcl0, ↓zclv, List.map_nil, List.sum_nil, List.map_cons, List.sum_cons, zcat, true_and, and_true, Nat.reduceLeDiff, Nat.reduceAdd, eq_self, forall_const, e_ok0, e_okss, e_ok1i, e_ok1r, e_ok1n, zl_m1, zl_0, zl_3, Int.reduceToNat, Int.reduceAdd, Int.reduceMul, Int.reduceSub, Int.reduceNeg, Int.reduceLT, Int.reduceLE, Int.reduceEq, not_false_eq_true, not_true_eq_false, false_implies, true_implies, implies_true, Int.reduceDiv, Int.reduceMod, zr8_zr, zr_zbo, z01_zbo, z01_0, z01_1, zbo_eq0, zup_eq, zup_o, zup_k, ne_eq, ↓v_67, ↓g_67_0, ↓g_67_1, ↓g_67_2, ↓p_67_2, ↓g_67_3, ↓p_67_3, ↓g_67_4, ↓p_67_4]
      rw [e9] at hC
      exact hC
    unfold nmo at hC last
    simp only [bk_X4_nameOf_0, k_X4_nameOf_0, bk_X4_nameOf_2, k_X4_nameOf_2, bk_X4_nameOf_7, k_X4_nameOf_7, bk_X4_nameOf_25, k_X4_nameOf_25, bk_X4_nameOf_31, k_X4_nameOf_31, ↓e_rk1, ↓e_rk0, ↓e_sk0, ↓e_sks, ↓e_ldi0, ↓e_ldis, ↓e_ldl0, ↓e_ldls, ↓e_lda0, ↓e_ldas, ↓e_ok0, ↓e_okss, ↓e_ok1i, ↓e_ok1r, ↓e_ok1n, ↓e_sti, ↓e_sta, ↓e_1, ↓e_2, ↓e_l1, ↓e_l2, ↓e_li, ↓e_sw0, ↓e_sws, ↓e_ceq, ↓e_cne, ↓e_clt, ↓e_cge, ↓e_cgt, ↓e_cle, ↓e_nil, ↓e_cons, ↓e_iconst, ↓e_bipush, ↓e_sipush, ↓e_ldc, ↓e_ldcw, ↓e_ldc2, ↓e_lconst, ↓e_iloadn, ↓e_iload, ↓e_lloadn, ↓e_lload, ↓e_aloadn, ↓e_aload, ↓e_istoren, ↓e_istore, ↓e_astoren, ↓e_astore, ↓e_add, ↓e_iinc, ↓e_iadd, ↓e_isub, ↓e_imul, ↓e_iand, ↓e_ior, ↓e_ixor, ↓e_ishl, ↓e_iushr, ↓e_idiv, ↓e_irem, ↓e_ineg, ↓e_i2l, ↓e_i2b, ↓e_i2s, ↓e_l2i, ↓e_land, ↓e_lor, ↓e_lshl, ↓e_lshr, ↓e_lushr, ↓e_lcmp, ↓e_dupi, ↓e_dupr, ↓e_popi, ↓e_dup2, ↓e_goto, ↓e_if, ↓e_icmp, ↓e_tsw, ↓e_lsw, ↓e_getf, ↓e_putf, ↓e_gets, ↓e_iald, ↓e_cald, ↓e_iast, ↓e_aald, ↓e_aast, ↓e_len, ↓e_copy, ↓e_abs, ↓e_max, ↓e_min, ↓e_iret, ↓e_aret, ↓e_vret, ↓e_is0, ↓e_is1, ↓e_is2, ↓e_is3, ↓e_is4, ↓e_iv1, ↓e_iv2, ↓e_iv3, ↓e_iv4, ↓e_iv5, ↓e_iv6, ↓rt_X4_nameOf, ↓reduceIte, Nat.reduceAdd, Nat.reduceEqDiff, ↓zcl0, ↓zclv, List.map_nil, List.sum_nil, List.map_cons, List.sum_cons, zcat, true_and, and_true, Nat.reduceLeDiff, Nat.reduceAdd, eq_self, forall_const, e_ok0, e_okss, e_ok1i, e_ok1r, e_ok1n, zl_m1, zl_0, zl_3, Int.reduceToNat, Int.reduceAdd, Int.reduceMul, Int.reduceSub, Int.reduceNeg, Int.reduceLT, Int.reduceLE, Int.reduceEq, not_false_eq_true, not_true_eq_false, false_implies, true_implies, implies_true, Int.reduceDiv, Int.reduceMod, zr8_zr, zr_zbo, z01_zbo, z01_0, z01_1, zbo_eq0, zup_eq, zup_o, zup_k, ne_eq, ↓v_67, ↓g_67_0, ↓g_67_1, ↓g_67_2, ↓p_67_2, ↓g_67_3, ↓p_67_3, ↓g_67_4, ↓p_67_4]
    rcases hu with e | e
    · rw [e] at step hC last
      refine step 0 101 (by omega) rfl (by omega) (fun q => zpost hC ?_) (fun q1 => step 1 100 (by omega) rfl (by omega) (fun q => zpost hC ?_) (fun q2 => step 2 121 (by omega) rfl (by omega) (fun q => zpost hC ?_) (fun q3 => last ?_)))
      all_goals ((repeat' split) <;> omega)
    · rw [e] at step hC last
      refine step 0 112 (by omega) rfl (by omega) (fun q => zpost hC ?_) (fun q1 => step 1 114 (by omega) rfl (by omega) (fun q => zpost hC ?_) (fun q2 => step 2 119 (by omega) rfl (by omega) (fun q => zpost hC ?_) (fun q3 => last ?_)))
      all_goals ((repeat' split) <;> omega)
def B_rcl (M : Nat → Nat → Int) (post : Option ZV → (Nat → Nat → Int) → Prop) : Prop := ∃ (T : Nat → Int) (n : Nat) (u : Int) (s : PS), Rd T n u M s ∧ ∀ M2 : ZMm, Rd T n u M2 (pcl T n s) → Fdq M M2 → M2 68 1 = M 68 1 → post none M2
def C_rcl : ZC := fun as h post => match as with
  | [.inr (.inr (.inl 67))] => h.1 = zG ∧ B_rcl h.2 (fun v M => post v (zG, M))
  | _ => False
theorem r_rcl {M : Nat → Nat → Int} {post : Option ZV → ZH → Prop} : C_rcl [.inr (.inr (.inl 67))] (zG, M) post = B_rcl M (fun v M => post v (zG, M)) := by show (zG = zG ∧ _) = _; simp
def ct_rcl : Nat → ZC := fun n => if n = 35 then C_rnx else if n = 36 then C_rfh else fun _ _ _ => False
theorem ct_rcl_rnx {as : List ZV} {h : ZH} {post : Option ZV → ZH → Prop} : ct_rcl 35 as h post = C_rnx as h post := rfl
theorem ct_rcl_rfh {as : List ZV} {h : ZH} {post : Option ZV → ZH → Prop} : ct_rcl 36 as h post = C_rfh as h post := rfl
theorem c_rcl {E : ZE} {d : Nat} (hd : 2 ≤ d) : zMet E d mX4_readClosing C_rcl := by
  refine zmet_of (o := 4) (ini := false) (CT := ct_rcl) gd_X4_readClosing rfl (fun h => by cases h) (by omega) ?_ ?_
  · intro n as h post hh
    unfold ct_rcl at hh
    by_cases c : n = 35
    · subst c; exact ⟨gd_X4_next, 1, by omega, c_rnx (by omega)⟩
    rw [if_neg c] at hh
    by_cases c : n = 36
    · subst c; exact ⟨gd_X4_failHere, 1, by omega, c_rfh (by omega)⟩
    rw [if_neg c] at hh
    exact hh.elim
  intro as h post hC
  match as, hC with
  | [.inr (.inr (.inl 67))], hC =>
    refine ⟨Nat.le_of_ble_eq_true rfl, fun X hX => bs_X4_readClosing_0 hX ?_⟩
    obtain ⟨G, M⟩ := h
    obtain ⟨hG, hC⟩ := hC
    dsimp only at hG
    subst hG
    simp only [B_rcl] at hC
    show bk_X4_readClosing_0 E ct_rcl X _ [some (.inr (.inr (.inl 67)))] [] (zG, M) (0, 0)
    obtain ⟨T, n, u, s, ho, hC⟩ := hC
    have zh := zr_rg (Rd_rg ho)
    have J9 : hre T n s = 41 → X 9 [some (.inr (.inr (.inl 67)))] [] (zG, M) (0, 0) := by
      intro e
      have hn := hre_nn (T := T) (n := n) (s := s) (by omega)
      obtain ⟨g1, g2⟩ := Rd_adv ho hn.1
      have e9 : pcl T n s = adv s := if_pos e
      refine bs_X4_readClosing_9 hX ?_
      simp only [bk_X4_readClosing_0, k_X4_readClosing_0, bk_X4_readClosing_9, k_X4_readClosing_9, bk_X4_readClosing_22, k_X4_readClosing_22, bk_X4_readClosing_26, k_X4_readClosing_26, ↓e_rk1, ↓e_rk0, ↓e_sk0, ↓e_sks, ↓e_ldi0, ↓e_ldis, ↓e_ldl0, ↓e_ldls, ↓e_lda0, ↓e_ldas, ↓e_ok0, ↓e_okss, ↓e_ok1i, ↓e_ok1r, ↓e_ok1n, ↓e_sti, ↓e_sta, ↓e_1, ↓e_2, ↓e_l1, ↓e_l2, ↓e_li, ↓e_sw0, ↓e_sws, ↓e_ceq, ↓e_cne, ↓e_clt, ↓e_cge, ↓e_cgt, ↓e_cle, ↓e_nil, ↓e_cons, ↓e_iconst, ↓e_bipush, ↓e_sipush, ↓e_ldc, ↓e_ldcw, ↓e_ldc2, ↓e_lconst, ↓e_iloadn, ↓e_iload, ↓e_lloadn, ↓e_lload, ↓e_aloadn, ↓e_aload, ↓e_istoren, ↓e_istore, ↓e_astoren, ↓e_astore, ↓e_add, ↓e_iinc, ↓e_iadd, ↓e_isub, ↓e_imul, ↓e_iand, ↓e_ior, ↓e_ixor, ↓e_ishl, ↓e_iushr, ↓e_idiv, ↓e_irem, ↓e_ineg, ↓e_i2l, ↓e_i2b, ↓e_i2s, ↓e_l2i, ↓e_land, ↓e_lor, ↓e_lshl, ↓e_lshr, ↓e_lushr, ↓e_lcmp, ↓e_dupi, ↓e_dupr, ↓e_popi, ↓e_dup2, ↓e_goto, ↓e_if, ↓e_icmp, ↓e_tsw, ↓e_lsw, ↓e_getf, ↓e_putf, ↓e_gets, ↓e_iald, ↓e_cald, ↓e_iast, ↓e_aald, ↓e_aast, ↓e_len, ↓e_copy, ↓e_abs, ↓e_max, ↓e_min, ↓e_iret, ↓e_aret, ↓e_vret, ↓e_is0, ↓e_is1, ↓e_is2, ↓e_is3, ↓e_is4, ↓e_iv1, ↓e_iv2, ↓e_iv3, ↓e_iv4, ↓e_iv5, ↓e_iv6, ↓rt_X4_readClosing, ↓reduceIte, Nat.reduceAdd, Nat.reduceEqDiff, ↓zcl0, ↓zclv, List.map_nil, List.sum_nil, List.map_cons, List.sum_cons, zcat, true_and, and_true, Nat.reduceLeDiff, Nat.reduceAdd, eq_self, forall_const, e_ok0, e_okss, e_ok1i, e_ok1r, e_ok1n, zl_1, zl_41, Int.reduceToNat, Int.reduceAdd, Int.reduceMul, Int.reduceSub, Int.reduceNeg, Int.reduceLT, Int.reduceLE, Int.reduceEq, not_false_eq_true, not_true_eq_false, false_implies, true_implies, implies_true, Int.reduceDiv, Int.reduceMod, zr8_zr, zr_zbo, z01_zbo, z01_0, z01_1, zbo_eq0, zup_eq, zup_o, zup_k, ne_eq, ↓ct_rcl_rnx, ↓r_rnx, ↓B_rnx, ↓ct_rcl_rfh, ↓r_rfh, ↓B_rfh, ↓v_67, ↓g_67_0, ↓g_67_1, ↓g_67_2, ↓p_67_2, ↓g_67_3, ↓p_67_3, ↓g_67_4, ↓p_67_4]
      exact hC _ (by rw [e9]; exact g1) g2 (by rw [zup_o (by decide)])
    have J22 : ¬ hre T n s = 41 → X 22 [some (.inr (.inr (.inl 67)))] [] (zG, M) (0, 0) := by
      intro e
      have e9 : pcl T n s = wrg s := if_neg e
      refine bs_X4_readClosing_22 hX ?_
      simp only [bk_X4_readClosing_0, k_X4_readClosing_0, bk_X4_readClosing_9, k_X4_readClosing_9, bk_X4_readClosing_22, k_X4_readClosing_22, bk_X4_readClosing_26, k_X4_readClosing_26, ↓e_rk1, ↓e_rk0, ↓e_sk0, ↓e_sks, ↓e_ldi0, ↓e_ldis, ↓e_ldl0, ↓e_ldls, ↓e_lda0, ↓e_ldas, ↓e_ok0, ↓e_okss, ↓e_ok1i, ↓e_ok1r, ↓e_ok1n, ↓e_sti, ↓e_sta, ↓e_1, ↓e_2, ↓e_l1, ↓e_l2, ↓e_li, ↓e_sw0, ↓e_sws, ↓e_ceq, ↓e_cne, ↓e_clt, ↓e_cge, ↓e_cgt, ↓e_cle, ↓e_nil, ↓e_cons, ↓e_iconst, ↓e_bipush, ↓e_sipush, ↓e_ldc, ↓e_ldcw, ↓e_ldc2, ↓e_lconst, ↓e_iloadn, ↓e_iload, ↓e_lloadn, ↓e_lload, ↓e_aloadn, ↓e_aload, ↓e_istoren, ↓e_istore, ↓e_astoren, ↓e_astore, ↓e_add, ↓e_iinc, ↓e_iadd, ↓e_isub, ↓e_imul, ↓e_iand, ↓e_ior, ↓e_ixor, ↓e_ishl, ↓e_iushr, ↓e_idiv, ↓e_irem, ↓e_ineg, ↓e_i2l, ↓e_i2b, ↓e_i2s, ↓e_l2i, ↓e_land, ↓e_lor, ↓e_lshl, ↓e_lshr, ↓e_lushr, ↓e_lcmp, ↓e_dupi, ↓e_dupr, ↓e_popi, ↓e_dup2, ↓e_goto, ↓e_if, ↓e_icmp, ↓e_tsw, ↓e_lsw, ↓e_getf, ↓e_putf, ↓e_gets, ↓e_iald, ↓e_cald, ↓e_iast, ↓e_aald, ↓e_aast, ↓e_len, ↓e_copy, ↓e_abs, ↓e_max, ↓e_min, ↓e_iret, ↓e_aret, ↓e_vret, ↓e_is0, ↓e_is1, ↓e_is2, ↓e_is3, ↓e_is4, ↓e_iv1, ↓e_iv2, ↓e_iv3, ↓e_iv4, ↓e_iv5, ↓e_iv6, ↓rt_X4_readClosing, ↓reduceIte, Nat.reduceAdd, Nat.reduceEqDiff, ↓zcl0, ↓zclv, List.map_nil, List.sum_nil, List.map_cons, List.sum_cons, zcat, true_and, and_true, Nat.reduceLeDiff, Nat.reduceAdd, eq_self, forall_const, e_ok0, e_okss, e_ok1i, e_ok1r, e_ok1n, zl_1, zl_41, Int.reduceToNat, Int.reduceAdd, Int.reduceMul, Int.reduceSub, Int.reduceNeg, Int.reduceLT, Int.reduceLE, Int.reduceEq, not_false_eq_true, not_true_eq_false, false_implies, true_implies, implies_true, Int.reduceDiv, Int.reduceMod, zr8_zr, zr_zbo, z01_zbo, z01_0, z01_1, zbo_eq0, zup_eq, zup_o, zup_k, ne_eq, ↓ct_rcl_rnx, ↓r_rnx, ↓B_rnx, ↓ct_rcl_rfh, ↓r_rfh, ↓B_rfh, ↓v_67, ↓g_67_0, ↓g_67_1, ↓g_67_2, ↓p_67_2, ↓g_67_3, ↓p_67_3, ↓g_67_4, ↓p_67_4]
      refine ⟨T, n, u, s, ho, fun M2 a b c => ?_⟩
      exact hC M2 (by rw [e9]; exact a) b c
    simp only [bk_X4_readClosing_0, k_X4_readClosing_0, bk_X4_readClosing_9, k_X4_readClosing_9, bk_X4_readClosing_22, k_X4_readClosing_22, bk_X4_readClosing_26, k_X4_readClosing_26, ↓e_rk1, ↓e_rk0, ↓e_sk0, ↓e_sks, ↓e_ldi0, ↓e_ldis, ↓e_ldl0, ↓e_ldls, ↓e_lda0, ↓e_ldas, ↓e_ok0, ↓e_okss, ↓e_ok1i, ↓e_ok1r, ↓e_ok1n, ↓e_sti, ↓e_sta, ↓e_1, ↓e_2, ↓e_l1, ↓e_l2, ↓e_li, ↓e_sw0, ↓e_sws, ↓e_ceq, ↓e_cne, ↓e_clt, ↓e_cge, ↓e_cgt, ↓e_cle, ↓e_nil, ↓e_cons, ↓e_iconst, ↓e_bipush, ↓e_sipush, ↓e_ldc, ↓e_ldcw, ↓e_ldc2, ↓e_lconst, ↓e_iloadn, ↓e_iload, ↓e_lloadn, ↓e_lload, ↓e_aloadn, ↓e_aload, ↓e_istoren, ↓e_istore, ↓e_astoren, ↓e_astore, ↓e_add, ↓e_iinc, ↓e_iadd, ↓e_isub, ↓e_imul, ↓e_iand, ↓e_ior, ↓e_ixor, ↓e_ishl, ↓e_iushr, ↓e_idiv, ↓e_irem, ↓e_ineg, ↓e_i2l, ↓e_i2b, ↓e_i2s, ↓e_l2i, ↓e_land, ↓e_lor, ↓e_lshl, ↓e_lshr, ↓e_lushr, ↓e_lcmp, ↓e_dupi, ↓e_dupr, ↓e_popi, ↓e_dup2, ↓e_goto, ↓e_if, ↓e_icmp, ↓e_tsw, ↓e_lsw, ↓e_getf, ↓e_putf, ↓e_gets, ↓e_iald, ↓e_cald, ↓e_iast, ↓e_aald, ↓e_aast, ↓e_len, ↓e_copy, ↓e_abs, ↓e_max, ↓e_min, ↓e_iret, ↓e_aret, ↓e_vret, ↓e_is0, ↓e_is1, ↓e_is2, ↓e_is3, ↓e_is4, ↓e_iv1, ↓e_iv2, ↓e_iv3, ↓e_iv4, ↓e_iv5, ↓e_iv6, ↓rt_X4_readClosing, ↓reduceIte, Nat.reduceAdd, Nat.reduceEqDiff, ↓zcl0, ↓zclv, List.map_nil, List.sum_nil, List.map_cons, List.sum_cons, zcat, true_and, and_true, Nat.reduceLeDiff, Nat.reduceAdd, eq_self, forall_const, e_ok0, e_okss, e_ok1i, e_ok1r, e_ok1n, zl_1, zl_41, Int.reduceToNat, Int.reduceAdd, Int.reduceMul, Int.reduceSub, Int.reduceNeg, Int.reduceLT, Int.reduceLE, Int.reduceEq, not_false_eq_true, not_true_eq_false, false_implies, true_implies, implies_true, Int.reduceDiv, Int.reduceMod, zr8_zr, zr_zbo, z01_zbo, z01_0, z01_1, zbo_eq0, zup_eq, zup_o, zup_k, ne_eq, ↓ct_rcl_rnx, ↓r_rnx, ↓B_rnx, ↓ct_rcl_rfh, ↓r_rfh, ↓B_rfh, ↓v_67, ↓g_67_0, ↓g_67_1, ↓g_67_2, ↓p_67_2, ↓g_67_3, ↓p_67_3, ↓g_67_4, ↓p_67_4]
    refine ⟨T, n, u, s, ho, ?_⟩
    rw [zh]
    refine ⟨fun e => ?_, fun e => ?_⟩
    · first | exact J9 e | exact J22 e
    · first | exact J9 e | exact J22 e
