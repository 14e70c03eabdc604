/-! THE CLASS: crew, laws worked out, a head goes -/
def k_X0_copyFrom_0 : List ZI := [(.aload_n 1, 1, (0, [1], [])), (.getfield 9, 3, (0, [0, 0], [])), (.iconst 0, 1, (0, [], [])), (.aload_n 0, 1, (0, [0], [])), (.getfield 9, 3, (0, [0, 0], [])), (.iconst 0, 1, (0, [], [])), (.bipush 8, 2, (0, [], [])), (.invokestatic 24, 3, (0, [], [])), (.aload_n 1, 1, (0, [1], [])), (.getfield 15, 3, (0, [0, 1], [])), (.iconst 0, 1, (0, [], [])), (.aload_n 0, 1, (0, [0], [])), (.getfield 15, 3, (0, [0, 1], [])), (.iconst 0, 1, (0, [], [])), (.bipush 8, 2, (0, [], [])), (.invokestatic 24, 3, (0, [], [])), (.aload_n 1, 1, (0, [1], [])), (.getfield 18, 3, (0, [0, 2], [])), (.iconst 0, 1, (0, [], [])), (.aload_n 0, 1, (0, [0], [])), (.getfield 18, 3, (0, [0, 2], [])), (.iconst 0, 1, (0, [], [])), (.bipush 8, 2, (0, [], [])), (.invokestatic 24, 3, (0, [], [])), (.aload_n 0, 1, (0, [0], [])), (.aload_n 1, 1, (0, [1], [])), (.getfield 30, 3, (0, [0, 3], [])), (.putfield 30, 3, (0, [0, 3], [])), (.return_, 1, (0, [], []))]
theorem ok_X0_copyFrom_0 : zOK cX0_copyFrom 0 false 2 k_X0_copyFrom_0 0 = true := zOK_by (by decide +kernel)
theorem rt_X0_copyFrom {g : Nat} {post : Option ZV → ZH → Prop} {h : ZH} {b : ZB2} : zRt mX0_copyFrom g post none h b = (post none h ∧ h.1.length = g) := by show (_ ∧ _ ∧ True) = _; simp
def bk_X0_copyFrom_0 (E : ZE) (CT : Nat → ZC) (X : ZK) (Rt : ZR) (ls : ZL) (st : List ZV) (h : ZH) (b : ZB2) : Prop := zB E CT k_X0_copyFrom_0 0 ls st h b (fun t ls st h b => X t ls st h b) Rt
theorem bs_X0_copyFrom_0 {E : ZE} {CT : Nat → ZC} {X : ZK} {Rt : ZR} {ls : ZL} {st : List ZV} {h : ZH} {b : ZB2} (hX : zCl E mX0_copyFrom 0 false CT Rt X) (q : bk_X0_copyFrom_0 E CT X Rt ls st h b) : X 0 ls st h b := by
  refine hX k_X0_copyFrom_0 0 ok_X0_copyFrom_0 _ ?_ ls st h b q
  exact fun t ls st h b q => q
-- X0_copyFrom: cuts []
def k_X0_isOrIsUnder_0 : List ZI := [(.iload_n 0, 1, (0, [0], [])), (.istore_n 2, 1, (0, [2], [])), (.iconst 0, 1, (0, [], [])), (.istore_n 3, 1, (0, [3], []))]
theorem ok_X0_isOrIsUnder_0 : zOK cX0_isOrIsUnder 0 false 4 k_X0_isOrIsUnder_0 0 = true := zOK_by (by decide +kernel)
def k_X0_isOrIsUnder_4 : List ZI := [(.iload_n 3, 1, (0, [3], [])), (.iconst 2, 1, (0, [], [])), (.if_icmp .gt 32, 3, (0, [38], [])), (.iload_n 2, 1, (0, [2], [])), (.ifCond .lt 28, 3, (0, [38], [])), (.iload_n 2, 1, (0, [2], [])), (.bipush 7, 2, (0, [], [])), (.if_icmp .ge 22, 3, (0, [38], [])), (.iload_n 2, 1, (0, [2], [])), (.iload_n 1, 1, (0, [1], [])), (.if_icmp .ne 5, 3, (0, [26], [])), (.iconst 1, 1, (0, [], [])), (.ireturn, 1, (0, [], []))]
theorem ok_X0_isOrIsUnder_4 : zOK cX0_isOrIsUnder 0 false 4 k_X0_isOrIsUnder_4 4 = true := zOK_by (by decide +kernel)
def k_X0_isOrIsUnder_26 : List ZI := [(.getstatic 21, 3, (0, [0], [])), (.iload_n 2, 1, (0, [2], [])), (.iaload, 1, (0, [], [])), (.istore_n 2, 1, (0, [2], [])), (.iinc 3 1, 3, (0, [3], [])), (.goto (-31), 3, (0, [4], []))]
theorem ok_X0_isOrIsUnder_26 : zOK cX0_isOrIsUnder 0 false 4 k_X0_isOrIsUnder_26 26 = true := zOK_by (by decide +kernel)
def k_X0_isOrIsUnder_38 : List ZI := [(.iconst 0, 1, (0, [], [])), (.ireturn, 1, (0, [], []))]
theorem ok_X0_isOrIsUnder_38 : zOK cX0_isOrIsUnder 0 false 4 k_X0_isOrIsUnder_38 38 = true := zOK_by (by decide +kernel)
theorem rt_X0_isOrIsUnder {g : Nat} {post : Option ZV → ZH → Prop} {h : ZH} {b : ZB2} {z : Int} : zRt mX0_isOrIsUnder g post (some (.inl z)) h b = (post (some (.inl z)) h ∧ h.1.length = g ∧ z01 z) := rfl
def bk_X0_isOrIsUnder_0 (E : ZE) (CT : Nat → ZC) (X : ZK) (Rt : ZR) (ls : ZL) (st : List ZV) (h : ZH) (b : ZB2) : Prop := zB E CT k_X0_isOrIsUnder_0 0 ls st h b (fun t ls st h b => X t ls st h b) Rt
theorem bs_X0_isOrIsUnder_0 {E : ZE} {CT : Nat → ZC} {X : ZK} {Rt : ZR} {ls : ZL} {st : List ZV} {h : ZH} {b : ZB2} (hX : zCl E mX0_isOrIsUnder 0 false CT Rt X) (q : bk_X0_isOrIsUnder_0 E CT X Rt ls st h b) : X 0 ls st h b := by
  refine hX k_X0_isOrIsUnder_0 0 ok_X0_isOrIsUnder_0 _ ?_ ls st h b q
  exact fun t ls st h b q => q
def bk_X0_isOrIsUnder_26 (E : ZE) (CT : Nat → ZC) (X : ZK) (Rt : ZR) (ls : ZL) (st : List ZV) (h : ZH) (b : ZB2) : Prop := zB E CT k_X0_isOrIsUnder_26 26 ls st h b (fun t ls st h b => X t ls st h b) Rt
theorem bs_X0_isOrIsUnder_26 {E : ZE} {CT : Nat → ZC} {X : ZK} {Rt : ZR} {ls : ZL} {st : List ZV} {h : ZH} {b : ZB2} (hX : zCl E mX0_isOrIsUnder 0 false CT Rt X) (q : bk_X0_isOrIsUnder_26 E CT X Rt ls st h b) : X 26 ls st h b := by
  refine hX k_X0_isOrIsUnder_26 26 ok_X0_isOrIsUnder_26 _ ?_ ls st h b q
  exact fun t ls st h b q => q
def bk_X0_isOrIsUnder_38 (E : ZE) (CT : Nat → ZC) (X : ZK) (Rt : ZR) (ls : ZL) (st : List ZV) (h : ZH) (b : ZB2) : Prop := zB E CT k_X0_isOrIsUnder_38 38 ls st h b (fun t ls st h b => X t ls st h b) Rt
theorem bs_X0_isOrIsUnder_38 {E : ZE} {CT : Nat → ZC} {X : ZK} {Rt : ZR} {ls : ZL} {st : List ZV} {h : ZH} {b : ZB2} (hX : zCl E mX0_isOrIsUnder 0 false CT Rt X) (q : bk_X0_isOrIsUnder_38 E CT X Rt ls st h b) : X 38 ls st h b := by
  refine hX k_X0_isOrIsUnder_38 38 ok_X0_isOrIsUnder_38 _ ?_ ls st h b q
  exact fun t ls st h b q => q
def bk_X0_isOrIsUnder_4 (E : ZE) (CT : Nat → ZC) (X : ZK) (Rt : ZR) (ls : ZL) (st : List ZV) (h : ZH) (b : ZB2) : Prop := zB E CT k_X0_isOrIsUnder_4 4 ls st h b (fun t ls st h b => if t = 26 then bk_X0_isOrIsUnder_26 E CT X Rt ls st h b else if t = 38 then bk_X0_isOrIsUnder_38 E CT X Rt ls st h b else X t ls st h b) Rt
theorem bs_X0_isOrIsUnder_4 {E : ZE} {CT : Nat → ZC} {X : ZK} {Rt : ZR} {ls : ZL} {st : List ZV} {h : ZH} {b : ZB2} (hX : zCl E mX0_isOrIsUnder 0 false CT Rt X) (q : bk_X0_isOrIsUnder_4 E CT X Rt ls st h b) : X 4 ls st h b := by
  refine hX k_X0_isOrIsUnder_4 4 ok_X0_isOrIsUnder_4 _ ?_ ls st h b q
  exact by
    intro t ls st h b q
    by_cases c : t = 26
    · subst c; rw [if_pos rfl] at q; exact bs_X0_isOrIsUnder_26 hX q
    rw [if_neg c] at q
    by_cases c : t = 38
    · subst c; rw [if_pos rfl] at q; exact bs_X0_isOrIsUnder_38 hX q
    rw [if_neg c] at q
    exact q
-- X0_isOrIsUnder: cuts [4]
def k_X3_joined_0 : List ZI := [(.iload_n 0, 1, (0, [0], [])), (.lookupswitch 168 #[(38, 97), (42, 152), (43, 144), (45, 148), (47, 156), (60, 111), (61, 122), (62, 133), (124, 83)], 83, (0, [169], [(38, 98), (42, 153), (43, 145), (45, 149), (47, 157), (60, 112), (61, 123), (62, 134), (124, 84)]))]
theorem ok_X3_joined_0 : zOK cX3_joined 3 false 3 k_X3_joined_0 0 = true := zOK_by (by decide +kernel)
def k_X3_joined_84 : List ZI := [(.iload_n 1, 1, (0, [1], [])), (.ifCond .ne 7, 3, (0, [92], [])), (.iload_n 2, 1, (0, [2], [])), (.ifCond .eq 7, 3, (0, [96], []))]
theorem ok_X3_joined_84 : zOK cX3_joined 3 false 3 k_X3_joined_84 84 = true := zOK_by (by decide +kernel)
def k_X3_joined_92 : List ZI := [(.iconst 1, 1, (0, [], [])), (.goto 4, 3, (0, [97], []))]
theorem ok_X3_joined_92 : zOK cX3_joined 3 false 3 k_X3_joined_92 92 = true := zOK_by (by decide +kernel)
def k_X3_joined_96 : List ZI := [(.iconst 0, 1, (0, [], []))]
theorem ok_X3_joined_96 : zOK cX3_joined 3 false 3 k_X3_joined_96 96 = true := zOK_by (by decide +kernel)
def k_X3_joined_97 : List ZI := [(.ireturn, 1, (0, [], []))]
theorem ok_X3_joined_97 : zOK cX3_joined 3 false 3 k_X3_joined_97 97 = true := zOK_by (by decide +kernel)
def k_X3_joined_98 : List ZI := [(.iload_n 1, 1, (0, [1], [])), (.ifCond .eq 11, 3, (0, [110], [])), (.iload_n 2, 1, (0, [2], [])), (.ifCond .eq 7, 3, (0, [110], [])), (.iconst 1, 1, (0, [], [])), (.goto 4, 3, (0, [111], []))]
theorem ok_X3_joined_98 : zOK cX3_joined 3 false 3 k_X3_joined_98 98 = true := zOK_by (by decide +kernel)
def k_X3_joined_110 : List ZI := [(.iconst 0, 1, (0, [], []))]
theorem ok_X3_joined_110 : zOK cX3_joined 3 false 3 k_X3_joined_110 110 = true := zOK_by (by decide +kernel)
def k_X3_joined_111 : List ZI := [(.ireturn, 1, (0, [], []))]
theorem ok_X3_joined_111 : zOK cX3_joined 3 false 3 k_X3_joined_111 111 = true := zOK_by (by decide +kernel)
def k_X3_joined_112 : List ZI := [(.iload_n 1, 1, (0, [1], [])), (.iload_n 2, 1, (0, [2], [])), (.if_icmp .ge 7, 3, (0, [121], [])), (.iconst 1, 1, (0, [], [])), (.goto 4, 3, (0, [122], []))]
theorem ok_X3_joined_112 : zOK cX3_joined 3 false 3 k_X3_joined_112 112 = true := zOK_by (by decide +kernel)
def k_X3_joined_121 : List ZI := [(.iconst 0, 1, (0, [], []))]
theorem ok_X3_joined_121 : zOK cX3_joined 3 false 3 k_X3_joined_121 121 = true := zOK_by (by decide +kernel)
def k_X3_joined_122 : List ZI := [(.ireturn, 1, (0, [], []))]
theorem ok_X3_joined_122 : zOK cX3_joined 3 false 3 k_X3_joined_122 122 = true := zOK_by (by decide +kernel)
def k_X3_joined_123 : List ZI := [(.iload_n 1, 1, (0, [1], [])), (.iload_n 2, 1, (0, [2], [])), (.if_icmp .ne 7, 3, (0, [132], [])), (.iconst 1, 1, (0, [], [])), (.goto 4, 3, (0, [133], []))]
theorem ok_X3_joined_123 : zOK cX3_joined 3 false 3 k_X3_joined_123 123 = true := zOK_by (by decide +kernel)
def k_X3_joined_132 : List ZI := [(.iconst 0, 1, (0, [], []))]
theorem ok_X3_joined_132 : zOK cX3_joined 3 false 3 k_X3_joined_132 132 = true := zOK_by (by decide +kernel)
def k_X3_joined_133 : List ZI := [(.ireturn, 1, (0, [], []))]
theorem ok_X3_joined_133 : zOK cX3_joined 3 false 3 k_X3_joined_133 133 = true := zOK_by (by decide +kernel)
def k_X3_joined_134 : List ZI := [(.iload_n 1, 1, (0, [1], [])), (.iload_n 2, 1, (0, [2], [])), (.if_icmp .le 7, 3, (0, [143], [])), (.iconst 1, 1, (0, [], [])), (.goto 4, 3, (0, [144], []))]
theorem ok_X3_joined_134 : zOK cX3_joined 3 false 3 k_X3_joined_134 134 = true := zOK_by (by decide +kernel)
def k_X3_joined_143 : List ZI := [(.iconst 0, 1, (0, [], []))]
theorem ok_X3_joined_143 : zOK cX3_joined 3 false 3 k_X3_joined_143 143 = true := zOK_by (by decide +kernel)
def k_X3_joined_144 : List ZI := [(.ireturn, 1, (0, [], []))]
theorem ok_X3_joined_144 : zOK cX3_joined 3 false 3 k_X3_joined_144 144 = true := zOK_by (by decide +kernel)
def k_X3_joined_145 : List ZI := [(.iload_n 1, 1, (0, [1], [])), (.iload_n 2, 1, (0, [2], [])), (.iadd, 1, (0, [], [])), (.ireturn, 1, (0, [], []))]
theorem ok_X3_joined_145 : zOK cX3_joined 3 false 3 k_X3_joined_145 145 = true := zOK_by (by decide +kernel)
def k_X3_joined_149 : List ZI := [(.iload_n 1, 1, (0, [1], [])), (.iload_n 2, 1, (0, [2], [])), (.isub, 1, (0, [], [])), (.ireturn, 1, (0, [], []))]
theorem ok_X3_joined_149 : zOK cX3_joined 3 false 3 k_X3_joined_149 149 = true := zOK_by (by decide +kernel)
def k_X3_joined_153 : List ZI := [(.iload_n 1, 1, (0, [1], [])), (.iload_n 2, 1, (0, [2], [])), (.imul, 1, (0, [], [])), (.ireturn, 1, (0, [], []))]
theorem ok_X3_joined_153 : zOK cX3_joined 3 false 3 k_X3_joined_153 153 = true := zOK_by (by decide +kernel)
def k_X3_joined_157 : List ZI := [(.iload_n 2, 1, (0, [2], [])), (.ifCond .ne 7, 3, (0, [165], [])), (.iconst 0, 1, (0, [], [])), (.goto 6, 3, (0, [168], []))]
theorem ok_X3_joined_157 : zOK cX3_joined 3 false 3 k_X3_joined_157 157 = true := zOK_by (by decide +kernel)
def k_X3_joined_165 : List ZI := [(.iload_n 1, 1, (0, [1], [])), (.iload_n 2, 1, (0, [2], [])), (.idiv, 1, (0, [], []))]
theorem ok_X3_joined_165 : zOK cX3_joined 3 false 3 k_X3_joined_165 165 = true := zOK_by (by decide +kernel)
def k_X3_joined_168 : List ZI := [(.ireturn, 1, (0, [], []))]
theorem ok_X3_joined_168 : zOK cX3_joined 3 false 3 k_X3_joined_168 168 = true := zOK_by (by decide +kernel)
def k_X3_joined_169 : List ZI := [(.iload_n 2, 1, (0, [2], [])), (.ifCond .ne 7, 3, (0, [177], [])), (.iconst 0, 1, (0, [], [])), (.goto 6, 3, (0, [180], []))]
theorem ok_X3_joined_169 : zOK cX3_joined 3 false 3 k_X3_joined_169 169 = true := zOK_by (by decide +kernel)
def k_X3_joined_177 : List ZI := [(.iload_n 1, 1, (0, [1], [])), (.iload_n 2, 1, (0, [2], [])), (.irem, 1, (0, [], []))]
theorem ok_X3_joined_177 : zOK cX3_joined 3 false 3 k_X3_joined_177 177 = true := zOK_by (by decide +kernel)
def k_X3_joined_180 : List ZI := [(.ireturn, 1, (0, [], []))]
theorem ok_X3_joined_180 : zOK cX3_joined 3 false 3 k_X3_joined_180 180 = true := zOK_by (by decide +kernel)
theorem rt_X3_joined {g : Nat} {post : Option ZV → ZH → Prop} {h : ZH} {b : ZB2} {z : Int} : zRt mX3_joined g post (some (.inl z)) h b = (post (some (.inl z)) h ∧ h.1.length = g) := by show (_ ∧ _ ∧ True) = _; simp
def bk_X3_joined_97 (E : ZE) (CT : Nat → ZC) (X : ZK) (Rt : ZR) (ls : ZL) (st : List ZV) (h : ZH) (b : ZB2) : Prop := zB E CT k_X3_joined_97 97 ls st h b (fun t ls st h b => X t ls st h b) Rt
theorem bs_X3_joined_97 {E : ZE} {CT : Nat → ZC} {X : ZK} {Rt : ZR} {ls : ZL} {st : List ZV} {h : ZH} {b : ZB2} (hX : zCl E mX3_joined 3 false CT Rt X) (q : bk_X3_joined_97 E CT X Rt ls st h b) : X 97 ls st h b := by
  refine hX k_X3_joined_97 97 ok_X3_joined_97 _ ?_ ls st h b q
  exact fun t ls st h b q => q
def bk_X3_joined_92 (E : ZE) (CT : Nat → ZC) (X : ZK) (Rt : ZR) (ls : ZL) (st : List ZV) (h : ZH) (b : ZB2) : Prop := zB E CT k_X3_joined_92 92 ls st h b (fun t ls st h b => if t = 97 then bk_X3_joined_97 E CT X Rt ls st h b else X t ls st h b) Rt
theorem bs_X3_joined_92 {E : ZE} {CT : Nat → ZC} {X : ZK} {Rt : ZR} {ls : ZL} {st : List ZV} {h : ZH} {b : ZB2} (hX : zCl E mX3_joined 3 false CT Rt X) (q : bk_X3_joined_92 E CT X Rt ls st h b) : X 92 ls st h b := by
  refine hX k_X3_joined_92 92 ok_X3_joined_92 _ ?_ ls st h b q
  exact by
    intro t ls st h b q
    by_cases c : t = 97
    · subst c; rw [if_pos rfl] at q; exact bs_X3_joined_97 hX q
    rw [if_neg c] at q
    exact q
def bk_X3_joined_96 (E : ZE) (CT : Nat → ZC) (X : ZK) (Rt : ZR) (ls : ZL) (st : List ZV) (h : ZH) (b : ZB2) : Prop := zB E CT k_X3_joined_96 96 ls st h b (fun t ls st h b => if t = 97 then bk_X3_joined_97 E CT X Rt ls st h b else X t ls st h b) Rt
theorem bs_X3_joined_96 {E : ZE} {CT : Nat → ZC} {X : ZK} {Rt : ZR} {ls : ZL} {st : List ZV} {h : ZH} {b : ZB2} (hX : zCl E mX3_joined 3 false CT Rt X) (q : bk_X3_joined_96 E CT X Rt ls st h b) : X 96 ls st h b := by
  refine hX k_X3_joined_96 96 ok_X3_joined_96 _ ?_ ls st h b q
  exact by
    intro t ls st h b q
    by_cases c : t = 97
    · subst c; rw [if_pos rfl] at q; exact bs_X3_joined_97 hX q
    rw [if_neg c] at q
    exact q
def bk_X3_joined_84 (E : ZE) (CT : Nat → ZC) (X : ZK) (Rt : ZR) (ls : ZL) (st : List ZV) (h : ZH) (b : ZB2) : Prop := zB E CT k_X3_joined_84 84 ls st h b (fun t ls st h b => if t = 92 then bk_X3_joined_92 E CT X Rt ls st h b else if t = 96 then bk_X3_joined_96 E CT X Rt ls st h b else X t ls st h b) Rt
theorem bs_X3_joined_84 {E : ZE} {CT : Nat → ZC} {X : ZK} {Rt : ZR} {ls : ZL} {st : List ZV} {h : ZH} {b : ZB2} (hX : zCl E mX3_joined 3 false CT Rt X) (q : bk_X3_joined_84 E CT X Rt ls st h b) : X 84 ls st h b := by
  refine hX k_X3_joined_84 84 ok_X3_joined_84 _ ?_ ls st h b q
  exact by
    intro t ls st h b q
    by_cases c : t = 92
    · subst c; rw [if_pos rfl] at q; exact bs_X3_joined_92 hX q
    rw [if_neg c] at q
    by_cases c : t = 96
    · subst c; rw [if_pos rfl] at q; exact bs_X3_joined_96 hX q
    rw [if_neg c] at q
    exact q
def bk_X3_joined_111 (E : ZE) (CT : Nat → ZC) (X : ZK) (Rt : ZR) (ls : ZL) (st : List ZV) (h : ZH) (b : ZB2) : Prop := zB E CT k_X3_joined_111 111 ls st h b (fun t ls st h b => X t ls st h b) Rt
theorem bs_X3_joined_111 {E : ZE} {CT : Nat → ZC} {X : ZK} {Rt : ZR} {ls : ZL} {st : List ZV} {h : ZH} {b : ZB2} (hX : zCl E mX3_joined 3 false CT Rt X) (q : bk_X3_joined_111 E CT X Rt ls st h b) : X 111 ls st h b := by
  refine hX k_X3_joined_111 111 ok_X3_joined_111 _ ?_ ls st h b q
  exact fun t ls st h b q => q
def bk_X3_joined_110 (E : ZE) (CT : Nat → ZC) (X : ZK) (Rt : ZR) (ls : ZL) (st : List ZV) (h : ZH) (b : ZB2) : Prop := zB E CT k_X3_joined_110 110 ls st h b (fun t ls st h b => if t = 111 then bk_X3_joined_111 E CT X Rt ls st h b else X t ls st h b) Rt
theorem bs_X3_joined_110 {E : ZE} {CT : Nat → ZC} {X : ZK} {Rt : ZR} {ls : ZL} {st : List ZV} {h : ZH} {b : ZB2} (hX : zCl E mX3_joined 3 false CT Rt X) (q : bk_X3_joined_110 E CT X Rt ls st h b) : X 110 ls st h b := by
  refine hX k_X3_joined_110 110 ok_X3_joined_110 _ ?_ ls st h b q
  exact by
    intro t ls st h b q
    by_cases c : t = 111
    · subst c; rw [if_pos rfl] at q; exact bs_X3_joined_111 hX q
    rw [if_neg c] at q
    exact q
def bk_X3_joined_98 (E : ZE) (CT : Nat → ZC) (X : ZK) (Rt : ZR) (ls : ZL) (st : List ZV) (h : ZH) (b : ZB2) : Prop := zB E CT k_X3_joined_98 98 ls st h b (fun t ls st h b => if t = 110 then bk_X3_joined_110 E CT X Rt ls st h b else if t = 111 then bk_X3_joined_111 E CT X Rt ls st h b else X t ls st h b) Rt
theorem bs_X3_joined_98 {E : ZE} {CT : Nat → ZC} {X : ZK} {Rt : ZR} {ls : ZL} {st : List ZV} {h : ZH} {b : ZB2} (hX : zCl E mX3_joined 3 false CT Rt X) (q : bk_X3_joined_98 E CT X Rt ls st h b) : X 98 ls st h b := by
  refine hX k_X3_joined_98 98 ok_X3_joined_98 _ ?_ ls st h b q
  exact by
    intro t ls st h b q
    by_cases c : t = 110
    · subst c; rw [if_pos rfl] at q; exact bs_X3_joined_110 hX q
    rw [if_neg c] at q
    by_cases c : t = 111
    · subst c; rw [if_pos rfl] at q; exact bs_X3_joined_111 hX q
    rw [if_neg c] at q
    exact q
def bk_X3_joined_122 (E : ZE) (CT : Nat → ZC) (X : ZK) (Rt : ZR) (ls : ZL) (st : List ZV) (h : ZH) (b : ZB2) : Prop := zB E CT k_X3_joined_122 122 ls st h b (fun t ls st h b => X t ls st h b) Rt
theorem bs_X3_joined_122 {E : ZE} {CT : Nat → ZC} {X : ZK} {Rt : ZR} {ls : ZL} {st : List ZV} {h : ZH} {b : ZB2} (hX : zCl E mX3_joined 3 false CT Rt X) (q : bk_X3_joined_122 E CT X Rt ls st h b) : X 122 ls st h b := by
  refine hX k_X3_joined_122 122 ok_X3_joined_122 _ ?_ ls st h b q
  exact fun t ls st h b q => q
def bk_X3_joined_121 (E : ZE) (CT : Nat → ZC) (X : ZK) (Rt : ZR) (ls : ZL) (st : List ZV) (h : ZH) (b : ZB2) : Prop := zB E CT k_X3_joined_121 121 ls st h b (fun t ls st h b => if t = 122 then bk_X3_joined_122 E CT X Rt ls st h b else X t ls st h b) Rt
theorem bs_X3_joined_121 {E : ZE} {CT : Nat → ZC} {X : ZK} {Rt : ZR} {ls : ZL} {st : List ZV} {h : ZH} {b : ZB2} (hX : zCl E mX3_joined 3 false CT Rt X) (q : bk_X3_joined_121 E CT X Rt ls st h b) : X 121 ls st h b := by
  refine hX k_X3_joined_121 121 ok_X3_joined_121 _ ?_ ls st h b q
  exact by
    intro t ls st h b q
    by_cases c : t = 122
    · subst c; rw [if_pos rfl] at q; exact bs_X3_joined_122 hX q
    rw [if_neg c] at q
    exact q
def bk_X3_joined_112 (E : ZE) (CT : Nat → ZC) (X : ZK) (Rt : ZR) (ls : ZL) (st : List ZV) (h : ZH) (b : ZB2) : Prop := zB E CT k_X3_joined_112 112 ls st h b (fun t ls st h b => if t = 121 then bk_X3_joined_121 E CT X Rt ls st h b else if t = 122 then bk_X3_joined_122 E CT X Rt ls st h b else X t ls st h b) Rt
theorem bs_X3_joined_112 {E : ZE} {CT : Nat → ZC} {X : ZK} {Rt : ZR} {ls : ZL} {st : List ZV} {h : ZH} {b : ZB2} (hX : zCl E mX3_joined 3 false CT Rt X) (q : bk_X3_joined_112 E CT X Rt ls st h b) : X 112 ls st h b := by
  refine hX k_X3_joined_112 112 ok_X3_joined_112 _ ?_ ls st h b q
  exact by
    intro t ls st h b q
    by_cases c : t = 121
    · subst c; rw [if_pos rfl] at q; exact bs_X3_joined_121 hX q
    rw [if_neg c] at q
    by_cases c : t = 122
    · subst c; rw [if_pos rfl] at q; exact bs_X3_joined_122 hX q
    rw [if_neg c] at q
    exact q
def bk_X3_joined_133 (E : ZE) (CT : Nat → ZC) (X : ZK) (Rt : ZR) (ls : ZL) (st : List ZV) (h : ZH) (b : ZB2) : Prop := zB E CT k_X3_joined_133 133 ls st h b (fun t ls st h b => X t ls st h b) Rt
theorem bs_X3_joined_133 {E : ZE} {CT : Nat → ZC} {X : ZK} {Rt : ZR} {ls : ZL} {st : List ZV} {h : ZH} {b : ZB2} (hX : zCl E mX3_joined 3 false CT Rt X) (q : bk_X3_joined_133 E CT X Rt ls st h b) : X 133 ls st h b := by
  refine hX k_X3_joined_133 133 ok_X3_joined_133 _ ?_ ls st h b q
  exact fun t ls st h b q => q
def bk_X3_joined_132 (E : ZE) (CT : Nat → ZC) (X : ZK) (Rt : ZR) (ls : ZL) (st : List ZV) (h : ZH) (b : ZB2) : Prop := zB E CT k_X3_joined_132 132 ls st h b (fun t ls st h b => if t = 133 then bk_X3_joined_133 E CT X Rt ls st h b else X t ls st h b) Rt
theorem bs_X3_joined_132 {E : ZE} {CT : Nat → ZC} {X : ZK} {Rt : ZR} {ls : ZL} {st : List ZV} {h : ZH} {b : ZB2} (hX : zCl E mX3_joined 3 false CT Rt X) (q : bk_X3_joined_132 E CT X Rt ls st h b) : X 132 ls st h b := by
  refine hX k_X3_joined_132 132 ok_X3_joined_132 _ ?_ ls st h b q
  exact by
    intro t ls st h b q
    by_cases c : t = 133
    · subst c; rw [if_pos rfl] at q; exact bs_X3_joined_133 hX q
    rw [if_neg c] at q
    exact q
def bk_X3_joined_123 (E : ZE) (CT : Nat → ZC) (X : ZK) (Rt : ZR) (ls : ZL) (st : List ZV) (h : ZH) (b : ZB2) : Prop := zB E CT k_X3_joined_123 123 ls st h b (fun t ls st h b => if t = 132 then bk_X3_joined_132 E CT X Rt ls st h b else if t = 133 then bk_X3_joined_133 E CT X Rt ls st h b else X t ls st h b) Rt
theorem bs_X3_joined_123 {E : ZE} {CT : Nat → ZC} {X : ZK} {Rt : ZR} {ls : ZL} {st : List ZV} {h : ZH} {b : ZB2} (hX : zCl E mX3_joined 3 false CT Rt X) (q : bk_X3_joined_123 E CT X Rt ls st h b) : X 123 ls st h b := by
  refine hX k_X3_joined_123 123 ok_X3_joined_123 _ ?_ ls st h b q
  exact by
    intro t ls st h b q
    by_cases c : t = 132
    · subst c; rw [if_pos rfl] at q; exact bs_X3_joined_132 hX q
    rw [if_neg c] at q
    by_cases c : t = 133
    · subst c; rw [if_pos rfl] at q; exact bs_X3_joined_133 hX q
    rw [if_neg c] at q
    exact q
def bk_X3_joined_144 (E : ZE) (CT : Nat → ZC) (X : ZK) (Rt : ZR) (ls : ZL) (st : List ZV) (h : ZH) (b : ZB2) : Prop := zB E CT k_X3_joined_144 144 ls st h b (fun t ls st h b => X t ls st h b) Rt
theorem bs_X3_joined_144 {E : ZE} {CT : Nat → ZC} {X : ZK} {Rt : ZR} {ls : ZL} {st : List ZV} {h : ZH} {b : ZB2} (hX : zCl E mX3_joined 3 false CT Rt X) (q : bk_X3_joined_144 E CT X Rt ls st h b) : X 144 ls st h b := by
  refine hX k_X3_joined_144 144 ok_X3_joined_144 _ ?_ ls st h b q
  exact fun t ls st h b q => q
def bk_X3_joined_143 (E : ZE) (CT : Nat → ZC) (X : ZK) (Rt : ZR) (ls : ZL) (st : List ZV) (h : ZH) (b : ZB2) : Prop := zB E CT k_X3_joined_143 143 ls st h b (fun t ls st h b => if t = 144 then bk_X3_joined_144 E CT X Rt ls st h b else X t ls st h b) Rt
theorem bs_X3_joined_143 {E : ZE} {CT : Nat → ZC} {X : ZK} {Rt : ZR} {ls : ZL} {st : List ZV} {h : ZH} {b : ZB2} (hX : zCl E mX3_joined 3 false CT Rt X) (q : bk_X3_joined_143 E CT X Rt ls st h b) : X 143 ls st h b := by
  refine hX k_X3_joined_143 143 ok_X3_joined_143 _ ?_ ls st h b q
  exact by
    intro t ls st h b q
    by_cases c : t = 144
    · subst c; rw [if_pos rfl] at q; exact bs_X3_joined_144 hX q
    rw [if_neg c] at q
    exact q
def bk_X3_joined_134 (E : ZE) (CT : Nat → ZC) (X : ZK) (Rt : ZR) (ls : ZL) (st : List ZV) (h : ZH) (b : ZB2) : Prop := zB E CT k_X3_joined_134 134 ls st h b (fun t ls st h b => if t = 143 then bk_X3_joined_143 E CT X Rt ls st h b else if t = 144 then bk_X3_joined_144 E CT X Rt ls st h b else X t ls st h b) Rt
theorem bs_X3_joined_134 {E : ZE} {CT : Nat → ZC} {X : ZK} {Rt : ZR} {ls : ZL} {st : List ZV} {h : ZH} {b : ZB2} (hX : zCl E mX3_joined 3 false CT Rt X) (q : bk_X3_joined_134 E CT X Rt ls st h b) : X 134 ls st h b := by
  refine hX k_X3_joined_134 134 ok_X3_joined_134 _ ?_ ls st h b q
  exact by
    intro t ls st h b q
    by_cases c : t = 143
    · subst c; rw [if_pos rfl] at q; exact bs_X3_joined_143 hX q
    rw [if_neg c] at q
    by_cases c : t = 144
    · subst c; rw [if_pos rfl] at q; exact bs_X3_joined_144 hX q
    rw [if_neg c] at q
    exact q
def bk_X3_joined_145 (E : ZE) (CT : Nat → ZC) (X : ZK) (Rt : ZR) (ls : ZL) (st : List ZV) (h : ZH) (b : ZB2) : Prop := zB E CT k_X3_joined_145 145 ls st h b (fun t ls st h b => X t ls st h b) Rt
theorem bs_X3_joined_145 {E : ZE} {CT : Nat → ZC} {X : ZK} {Rt : ZR} {ls : ZL} {st : List ZV} {h : ZH} {b : ZB2} (hX : zCl E mX3_joined 3 false CT Rt X) (q : bk_X3_joined_145 E CT X Rt ls st h b) : X 145 ls st h b := by
  refine hX k_X3_joined_145 145 ok_X3_joined_145 _ ?_ ls st h b q
  exact fun t ls st h b q => q
def bk_X3_joined_149 (E : ZE) (CT : Nat → ZC) (X : ZK) (Rt : ZR) (ls : ZL) (st : List ZV) (h : ZH) (b : ZB2) : Prop := zB E CT k_X3_joined_149 149 ls st h b (fun t ls st h b => X t ls st h b) Rt
theorem bs_X3_joined_149 {E : ZE} {CT : Nat → ZC} {X : ZK} {Rt : ZR} {ls : ZL} {st : List ZV} {h : ZH} {b : ZB2} (hX : zCl E mX3_joined 3 false CT Rt X) (q : bk_X3_joined_149 E CT X Rt ls st h b) : X 149 ls st h b := by
  refine hX k_X3_joined_149 149 ok_X3_joined_149 _ ?_ ls st h b q
  exact fun t ls st h b q => q
def bk_X3_joined_153 (E : ZE) (CT : Nat → ZC) (X : ZK) (Rt : ZR) (ls : ZL) (st : List ZV) (h : ZH) (b : ZB2) : Prop := zB E CT k_X3_joined_153 153 ls st h b (fun t ls st h b => X t ls st h b) Rt
theorem bs_X3_joined_153 {E : ZE} {CT : Nat → ZC} {X : ZK} {Rt : ZR} {ls : ZL} {st : List ZV} {h : ZH} {b : ZB2} (hX : zCl E mX3_joined 3 false CT Rt X) (q : bk_X3_joined_153 E CT X Rt ls st h b) : X 153 ls st h b := by
  refine hX k_X3_joined_153 153 ok_X3_joined_153 _ ?_ ls st h b q
  exact fun t ls st h b q => q
def bk_X3_joined_168 (E : ZE) (CT : Nat → ZC) (X : ZK) (Rt : ZR) (ls : ZL) (st : List ZV) (h : ZH) (b : ZB2) : Prop := zB E CT k_X3_joined_168 168 ls st h b (fun t ls st h b => X t ls st h b) Rt
theorem bs_X3_joined_168 {E : ZE} {CT : Nat → ZC} {X : ZK} {Rt : ZR} {ls : ZL} {st : List ZV} {h : ZH} {b : ZB2} (hX : zCl E mX3_joined 3 false CT Rt X) (q : bk_X3_joined_168 E CT X Rt ls st h b) : X 168 ls st h b := by
  refine hX k_X3_joined_168 168 ok_X3_joined_168 _ ?_ ls st h b q
  exact fun t ls st h b q => q
def bk_X3_joined_165 (E : ZE) (CT : Nat → ZC) (X : ZK) (Rt : ZR) (ls : ZL) (st : List ZV) (h : ZH) (b : ZB2) : Prop := zB E CT k_X3_joined_165 165 ls st h b (fun t ls st h b => if t = 168 then bk_X3_joined_168 E CT X Rt ls st h b else X t ls st h b) Rt
theorem bs_X3_joined_165 {E : ZE} {CT : Nat → ZC} {X : ZK} {Rt : ZR} {ls : ZL} {st : List ZV} {h : ZH} {b : ZB2} (hX : zCl E mX3_joined 3 false CT Rt X) (q : bk_X3_joined_165 E CT X Rt ls st h b) : X 165 ls st h b := by
  refine hX k_X3_joined_165 165 ok_X3_joined_165 _ ?_ ls st h b q
  exact by
    intro t ls st h b q
    by_cases c : t = 168
    · subst c; rw [if_pos rfl] at q; exact bs_X3_joined_168 hX q
    rw [if_neg c] at q
    exact q
def bk_X3_joined_157 (E : ZE) (CT : Nat → ZC) (X : ZK) (Rt : ZR) (ls : ZL) (st : List ZV) (h : ZH) (b : ZB2) : Prop := zB E CT k_X3_joined_157 157 ls st h b (fun t ls st h b => if t = 165 then bk_X3_joined_165 E CT X Rt ls st h b else if t = 168 then bk_X3_joined_168 E CT X Rt ls st h b else X t ls st h b) Rt
theorem bs_X3_joined_157 {E : ZE} {CT : Nat → ZC} {X : ZK} {Rt : ZR} {ls : ZL} {st : List ZV} {h : ZH} {b : ZB2} (hX : zCl E mX3_joined 3 false CT Rt X) (q : bk_X3_joined_157 E CT X Rt ls st h b) : X 157 ls st h b := by
  refine hX k_X3_joined_157 157 ok_X3_joined_157 _ ?_ ls st h b q
  exact by
    intro t ls st h b q
    by_cases c : t = 165
    · subst c; rw [if_pos rfl] at q; exact bs_X3_joined_165 hX q
    rw [if_neg c] at q
    by_cases c : t = 168
    · subst c; rw [if_pos rfl] at q; exact bs_X3_joined_168 hX q
    rw [if_neg c] at q
    exact q
def bk_X3_joined_180 (E : ZE) (CT : Nat → ZC) (X : ZK) (Rt : ZR) (ls : ZL) (st : List ZV) (h : ZH) (b : ZB2) : Prop := zB E CT k_X3_joined_180 180 ls st h b (fun t ls st h b => X t ls st h b) Rt
theorem bs_X3_joined_180 {E : ZE} {CT : Nat → ZC} {X : ZK} {Rt : ZR} {ls : ZL} {st : List ZV} {h : ZH} {b : ZB2} (hX : zCl E mX3_joined 3 false CT Rt X) (q : bk_X3_joined_180 E CT X Rt ls st h b) : X 180 ls st h b := by
  refine hX k_X3_joined_180 180 ok_X3_joined_180 _ ?_ ls st h b q
  exact fun t ls st h b q => q
def bk_X3_joined_177 (E : ZE) (CT : Nat → ZC) (X : ZK) (Rt : ZR) (ls : ZL) (st : List ZV) (h : ZH) (b : ZB2) : Prop := zB E CT k_X3_joined_177 177 ls st h b (fun t ls st h b => if t = 180 then bk_X3_joined_180 E CT X Rt ls st h b else X t ls st h b) Rt
theorem bs_X3_joined_177 {E : ZE} {CT : Nat → ZC} {X : ZK} {Rt : ZR} {ls : ZL} {st : List ZV} {h : ZH} {b : ZB2} (hX : zCl E mX3_joined 3 false CT Rt X) (q : bk_X3_joined_177 E CT X Rt ls st h b) : X 177 ls st h b := by
  refine hX k_X3_joined_177 177 ok_X3_joined_177 _ ?_ ls st h b q
  exact by
    intro t ls st h b q
    by_cases c : t = 180
    · subst c; rw [if_pos rfl] at q; exact bs_X3_joined_180 hX q
    rw [if_neg c] at q
    exact q
def bk_X3_joined_169 (E : ZE) (CT : Nat → ZC) (X : ZK) (Rt : ZR) (ls : ZL) (st : List ZV) (h : ZH) (b : ZB2) : Prop := zB E CT k_X3_joined_169 169 ls st h b (fun t ls st h b => if t = 177 then bk_X3_joined_177 E CT X Rt ls st h b else if t = 180 then bk_X3_joined_180 E CT X Rt ls st h b else X t ls st h b) Rt
theorem bs_X3_joined_169 {E : ZE} {CT : Nat → ZC} {X : ZK} {Rt : ZR} {ls : ZL} {st : List ZV} {h : ZH} {b : ZB2} (hX : zCl E mX3_joined 3 false CT Rt X) (q : bk_X3_joined_169 E CT X Rt ls st h b) : X 169 ls st h b := by
  refine hX k_X3_joined_169 169 ok_X3_joined_169 _ ?_ ls st h b q
  exact by
    intro t ls st h b q
    by_cases c : t = 177
    · subst c; rw [if_pos rfl] at q; exact bs_X3_joined_177 hX q
    rw [if_neg c] at q
    by_cases c : t = 180
    · subst c; rw [if_pos rfl] at q; exact bs_X3_joined_180 hX q
    rw [if_neg c] at q
    exact q
def bk_X3_joined_0 (E : ZE) (CT : Nat → ZC) (X : ZK) (Rt : ZR) (ls : ZL) (st : List ZV) (h : ZH) (b : ZB2) : Prop := zB E CT k_X3_joined_0 0 ls st h b (fun t ls st h b => if t = 84 then bk_X3_joined_84 E CT X Rt ls st h b else if t = 98 then bk_X3_joined_98 E CT X Rt ls st h b else if t = 112 then bk_X3_joined_112 E CT X Rt ls st h b else if t = 123 then bk_X3_joined_123 E CT X Rt ls st h b else if t = 134 then bk_X3_joined_134 E CT X Rt ls st h b else if t = 145 then bk_X3_joined_145 E CT X Rt ls st h b else if t = 149 then bk_X3_joined_149 E CT X Rt ls st h b else if t = 153 then bk_X3_joined_153 E CT X Rt ls st h b else if t = 157 then bk_X3_joined_157 E CT X Rt ls st h b else if t = 169 then bk_X3_joined_169 E CT X Rt ls st h b else X t ls st h b) Rt
theorem bs_X3_joined_0 {E : ZE} {CT : Nat → ZC} {X : ZK} {Rt : ZR} {ls : ZL} {st : List ZV} {h : ZH} {b : ZB2} (hX : zCl E mX3_joined 3 false CT Rt X) (q : bk_X3_joined_0 E CT X Rt ls st h b) : X 0 ls st h b := by
  refine hX k_X3_joined_0 0 ok_X3_joined_0 _ ?_ ls st h b q
  exact by
    intro t ls st h b q
    by_cases c : t = 84
    · subst c; rw [if_pos rfl] at q; exact bs_X3_joined_84 hX q
    rw [if_neg c] at q
    by_cases c : t = 98
    · subst c; rw [if_pos rfl] at q; exact bs_X3_joined_98 hX q
    rw [if_neg c] at q
    by_cases c : t = 112
    · subst c; rw [if_pos rfl] at q; exact bs_X3_joined_112 hX q
    rw [if_neg c] at q
    by_cases c : t = 123
    · subst c; rw [if_pos rfl] at q; exact bs_X3_joined_123 hX q
    rw [if_neg c] at q
    by_cases c : t = 134
    · subst c; rw [if_pos rfl] at q; exact bs_X3_joined_134 hX q
    rw [if_neg c] at q
    by_cases c : t = 145
    · subst c; rw [if_pos rfl] at q; exact bs_X3_joined_145 hX q
    rw [if_neg c] at q
    by_cases c : t = 149
    · subst c; rw [if_pos rfl] at q; exact bs_X3_joined_149 hX q
    rw [if_neg c] at q
    by_cases c : t = 153
    · subst c; rw [if_pos rfl] at q; exact bs_X3_joined_153 hX q
    rw [if_neg c] at q
    by_cases c : t = 157
    · subst c; rw [if_pos rfl] at q; exact bs_X3_joined_157 hX q
    rw [if_neg c] at q
    by_cases c : t = 169
    · subst c; rw [if_pos rfl] at q; exact bs_X3_joined_169 hX q
    rw [if_neg c] at q
    exact q
-- X3_joined: cuts []
def k_X3_operand_0 : List ZI := [(.iload_n 0, 1, (0, [0], [])), (.tableswitch 33 10000 10002 #[27, 29, 31], 27, (0, [34], [(10000, 28), (10001, 30), (10002, 32)]))]
theorem ok_X3_operand_0 : zOK cX3_operand 3 false 4 k_X3_operand_0 0 = true := zOK_by (by decide +kernel)
def k_X3_operand_28 : List ZI := [(.iload_n 1, 1, (0, [1], [])), (.ireturn, 1, (0, [], []))]
theorem ok_X3_operand_28 : zOK cX3_operand 3 false 4 k_X3_operand_28 28 = true := zOK_by (by decide +kernel)
def k_X3_operand_30 : List ZI := [(.iload_n 2, 1, (0, [2], [])), (.ireturn, 1, (0, [], []))]
theorem ok_X3_operand_30 : zOK cX3_operand 3 false 4 k_X3_operand_30 30 = true := zOK_by (by decide +kernel)
def k_X3_operand_32 : List ZI := [(.iload_n 3, 1, (0, [3], [])), (.ireturn, 1, (0, [], []))]
theorem ok_X3_operand_32 : zOK cX3_operand 3 false 4 k_X3_operand_32 32 = true := zOK_by (by decide +kernel)
def k_X3_operand_34 : List ZI := [(.iload_n 0, 1, (0, [0], [])), (.ireturn, 1, (0, [], []))]
theorem ok_X3_operand_34 : zOK cX3_operand 3 false 4 k_X3_operand_34 34 = true := zOK_by (by decide +kernel)
theorem rt_X3_operand {g : Nat} {post : Option ZV → ZH → Prop} {h : ZH} {b : ZB2} {z : Int} : zRt mX3_operand g post (some (.inl z)) h b = (post (some (.inl z)) h ∧ h.1.length = g) := by show (_ ∧ _ ∧ True) = _; simp
def bk_X3_operand_28 (E : ZE) (CT : Nat → ZC) (X : ZK) (Rt : ZR) (ls : ZL) (st : List ZV) (h : ZH) (b : ZB2) : Prop := zB E CT k_X3_operand_28 28 ls st h b (fun t ls st h b => X t ls st h b) Rt
theorem bs_X3_operand_28 {E : ZE} {CT : Nat → ZC} {X : ZK} {Rt : ZR} {ls : ZL} {st : List ZV} {h : ZH} {b : ZB2} (hX : zCl E mX3_operand 3 false CT Rt X) (q : bk_X3_operand_28 E CT X Rt ls st h b) : X 28 ls st h b := by
  refine hX k_X3_operand_28 28 ok_X3_operand_28 _ ?_ ls st h b q
  exact fun t ls st h b q => q
def bk_X3_operand_30 (E : ZE) (CT : Nat → ZC) (X : ZK) (Rt : ZR) (ls : ZL) (st : List ZV) (h : ZH) (b : ZB2) : Prop := zB E CT k_X3_operand_30 30 ls st h b (fun t ls st h b => X t ls st h b) Rt
theorem bs_X3_operand_30 {E : ZE} {CT : Nat → ZC} {X : ZK} {Rt : ZR} {ls : ZL} {st : List ZV} {h : ZH} {b : ZB2} (hX : zCl E mX3_operand 3 false CT Rt X) (q : bk_X3_operand_30 E CT X Rt ls st h b) : X 30 ls st h b := by
  refine hX k_X3_operand_30 30 ok_X3_operand_30 _ ?_ ls st h b q
  exact fun t ls st h b q => q
def bk_X3_operand_32 (E : ZE) (CT : Nat → ZC) (X : ZK) (Rt : ZR) (ls : ZL) (st : List ZV) (h : ZH) (b : ZB2) : Prop := zB E CT k_X3_operand_32 32 ls st h b (fun t ls st h b => X t ls st h b) Rt
theorem bs_X3_operand_32 {E : ZE} {CT : Nat → ZC} {X : ZK} {Rt : ZR} {ls : ZL} {st : List ZV} {h : ZH} {b : ZB2} (hX : zCl E mX3_operand 3 false CT Rt X) (q : bk_X3_operand_32 E CT X Rt ls st h b) : X 32 ls st h b := by
  refine hX k_X3_operand_32 32 ok_X3_operand_32 _ ?_ ls st h b q
  exact fun t ls st h b q => q
def bk_X3_operand_34 (E : ZE) (CT : Nat → ZC) (X : ZK) (Rt : ZR) (ls : ZL) (st : List ZV) (h : ZH) (b : ZB2) : Prop := zB E CT k_X3_operand_34 34 ls st h b (fun t ls st h b => X t ls st h b) Rt
theorem bs_X3_operand_34 {E : ZE} {CT : Nat → ZC} {X : ZK} {Rt : ZR} {ls : ZL} {st : List ZV} {h : ZH} {b : ZB2} (hX : zCl E mX3_operand 3 false CT Rt X) (q : bk_X3_operand_34 E CT X Rt ls st h b) : X 34 ls st h b := by
  refine hX k_X3_operand_34 34 ok_X3_operand_34 _ ?_ ls st h b q
  exact fun t ls st h b q => q
def bk_X3_operand_0 (E : ZE) (CT : Nat → ZC) (X : ZK) (Rt : ZR) (ls : ZL) (st : List ZV) (h : ZH) (b : ZB2) : Prop := zB E CT k_X3_operand_0 0 ls st h b (fun t ls st h b => if t = 28 then bk_X3_operand_28 E CT X Rt ls st h b else if t = 30 then bk_X3_operand_30 E CT X Rt ls st h b else if t = 32 then bk_X3_operand_32 E CT X Rt ls st h b else if t = 34 then bk_X3_operand_34 E CT X Rt ls st h b else X t ls st h b) Rt
theorem bs_X3_operand_0 {E : ZE} {CT : Nat → ZC} {X : ZK} {Rt : ZR} {ls : ZL} {st : List ZV} {h : ZH} {b : ZB2} (hX : zCl E mX3_operand 3 false CT Rt X) (q : bk_X3_operand_0 E CT X Rt ls st h b) : X 0 ls st h b := by
  refine hX k_X3_operand_0 0 ok_X3_operand_0 _ ?_ ls st h b q
  exact by
    intro t ls st h b q
    by_cases c : t = 28
    · subst c; rw [if_pos rfl] at q; exact bs_X3_operand_28 hX q
    rw [if_neg c] at q
    by_cases c : t = 30
    · subst c; rw [if_pos rfl] at q; exact bs_X3_operand_30 hX q
    rw [if_neg c] at q
    by_cases c : t = 32
    · subst c; rw [if_pos rfl] at q; exact bs_X3_operand_32 hX q
    rw [if_neg c] at q
    by_cases c : t = 34
    · subst c; rw [if_pos rfl] at q; exact bs_X3_operand_34 hX q
    rw [if_neg c] at q
    exact q
-- X3_operand: cuts []
def k_X3_gives_0 : List ZI := [(.aload_n 0, 1, (0, [0], [])), (.getfield 20, 3, (0, [3, 1], [])), (.iconst 0, 1, (0, [], [])), (.iload_n 1, 1, (0, [1], [])), (.iastore, 1, (0, [], [])), (.iconst 0, 1, (0, [], [])), (.istore 4, 2, (0, [4], [])), (.iconst 0, 1, (0, [], [])), (.istore 5, 2, (0, [5], []))]
theorem ok_X3_gives_0 : zOK cX3_gives 3 false 7 k_X3_gives_0 0 = true := zOK_by (by decide +kernel)
def k_X3_gives_13 : List ZI := [(.iload 5, 2, (0, [5], [])), (.aload_n 0, 1, (0, [0], [])), (.getfield 14, 3, (0, [3, 0], [])), (.getfield 24, 3, (0, [5, 1], [])), (.if_icmp .ge 150, 3, (0, [172], [])), (.aload_n 0, 1, (0, [0], [])), (.getfield 14, 3, (0, [3, 0], [])), (.getfield 28, 3, (0, [5, 0], [])), (.iload 5, 2, (0, [5], [])), (.iaload, 1, (0, [], [])), (.istore 6, 2, (0, [6], []))]
theorem ok_X3_gives_13 : zOK cX3_gives 3 false 7 k_X3_gives_13 13 = true := zOK_by (by decide +kernel)
def k_X3_gives_37 : List ZI := [(.iload 6, 2, (0, [6], [])), (.sipush 20000, 3, (0, [], [])), (.if_icmp .ge 31, 3, (0, [73], [])), (.iload 4, 2, (0, [4], [])), (.bipush 50, 2, (0, [], [])), (.if_icmp .ge 24, 3, (0, [73], [])), (.aload_n 0, 1, (0, [0], [])), (.getfield 20, 3, (0, [3, 1], [])), (.iload 4, 2, (0, [4], [])), (.iload 6, 2, (0, [6], [])), (.iload_n 1, 1, (0, [1], [])), (.iload_n 2, 1, (0, [2], [])), (.iload_n 3, 1, (0, [3], [])), (.invokestatic 31, 3, (0, [27, 4, 0, 3], [])), (.iastore, 1, (0, [], [])), (.iinc 4 1, 3, (0, [4], [])), (.goto 96, 3, (0, [166], []))]
theorem ok_X3_gives_37 : zOK cX3_gives 3 false 7 k_X3_gives_37 37 = true := zOK_by (by decide +kernel)
def k_X3_gives_73 : List ZI := [(.iload 6, 2, (0, [6], [])), (.sipush 20033, 3, (0, [], [])), (.if_icmp .ne 37, 3, (0, [115], [])), (.iload 4, 2, (0, [4], [])), (.ifCond .le 32, 3, (0, [115], [])), (.aload_n 0, 1, (0, [0], [])), (.getfield 20, 3, (0, [3, 1], [])), (.iload 4, 2, (0, [4], [])), (.iconst 1, 1, (0, [], [])), (.isub, 1, (0, [], [])), (.aload_n 0, 1, (0, [0], [])), (.getfield 20, 3, (0, [3, 1], [])), (.iload 4, 2, (0, [4], [])), (.iconst 1, 1, (0, [], [])), (.isub, 1, (0, [], [])), (.iaload, 1, (0, [], [])), (.ifCond .ne 7, 3, (0, [110], [])), (.iconst 1, 1, (0, [], [])), (.goto 4, 3, (0, [111], []))]
theorem ok_X3_gives_73 : zOK cX3_gives 3 false 7 k_X3_gives_73 73 = true := zOK_by (by decide +kernel)
def k_X3_gives_110 : List ZI := [(.iconst 0, 1, (0, [], []))]
theorem ok_X3_gives_110 : zOK cX3_gives 3 false 7 k_X3_gives_110 110 = true := zOK_by (by decide +kernel)
def k_X3_gives_111 : List ZI := [(.iastore, 1, (0, [], [])), (.goto 54, 3, (0, [166], []))]
theorem ok_X3_gives_111 : zOK cX3_gives 3 false 7 k_X3_gives_111 111 = true := zOK_by (by decide +kernel)
def k_X3_gives_115 : List ZI := [(.iload 6, 2, (0, [6], [])), (.sipush 20000, 3, (0, [], [])), (.if_icmp .le 46, 3, (0, [166], [])), (.iload 4, 2, (0, [4], [])), (.iconst 1, 1, (0, [], [])), (.if_icmp .le 40, 3, (0, [166], []))]
theorem ok_X3_gives_115 : zOK cX3_gives 3 false 7 k_X3_gives_115 115 = true := zOK_by (by decide +kernel)
def k_X3_gives_129 : List ZI := [(.iinc 4 (-1), 3, (0, [4], [])), (.aload_n 0, 1, (0, [0], [])), (.getfield 20, 3, (0, [3, 1], [])), (.iload 4, 2, (0, [4], [])), (.iconst 1, 1, (0, [], [])), (.isub, 1, (0, [], [])), (.iload 6, 2, (0, [6], [])), (.sipush 20000, 3, (0, [], [])), (.isub, 1, (0, [], [])), (.aload_n 0, 1, (0, [0], [])), (.getfield 20, 3, (0, [3, 1], [])), (.iload 4, 2, (0, [4], [])), (.iconst 1, 1, (0, [], [])), (.isub, 1, (0, [], [])), (.iaload, 1, (0, [], [])), (.aload_n 0, 1, (0, [0], [])), (.getfield 20, 3, (0, [3, 1], [])), (.iload 4, 2, (0, [4], [])), (.iaload, 1, (0, [], [])), (.invokestatic 35, 3, (0, [28, 3, 0, 3], [])), (.iastore, 1, (0, [], []))]
theorem ok_X3_gives_129 : zOK cX3_gives 3 false 7 k_X3_gives_129 129 = true := zOK_by (by decide +kernel)
def k_X3_gives_166 : List ZI := [(.iinc 5 1, 3, (0, [5], [])), (.goto (-156), 3, (0, [13], []))]
theorem ok_X3_gives_166 : zOK cX3_gives 3 false 7 k_X3_gives_166 166 = true := zOK_by (by decide +kernel)
def k_X3_gives_172 : List ZI := [(.iconst 0, 1, (0, [], [])), (.bipush 20, 2, (0, [], [])), (.aload_n 0, 1, (0, [0], [])), (.getfield 20, 3, (0, [3, 1], [])), (.iconst 0, 1, (0, [], [])), (.iaload, 1, (0, [], [])), (.invokestatic 39, 3, (0, [2], [])), (.invokestatic 45, 3, (0, [1], [])), (.ireturn, 1, (0, [], []))]
theorem ok_X3_gives_172 : zOK cX3_gives 3 false 7 k_X3_gives_172 172 = true := zOK_by (by decide +kernel)
theorem rt_X3_gives {g : Nat} {post : Option ZV → ZH → Prop} {h : ZH} {b : ZB2} {z : Int} : zRt mX3_gives g post (some (.inl z)) h b = (post (some (.inl z)) h ∧ h.1.length = g) := by show (_ ∧ _ ∧ True) = _; simp
def bk_X3_gives_0 (E : ZE) (CT : Nat → ZC) (X : ZK) (Rt : ZR) (ls : ZL) (st : List ZV) (h : ZH) (b : ZB2) : Prop := zB E CT k_X3_gives_0 0 ls st h b (fun t ls st h b => X t ls st h b) Rt
theorem bs_X3_gives_0 {E : ZE} {CT : Nat → ZC} {X : ZK} {Rt : ZR} {ls : ZL} {st : List ZV} {h : ZH} {b : ZB2} (hX : zCl E mX3_gives 3 false CT Rt X) (q : bk_X3_gives_0 E CT X Rt ls st h b) : X 0 ls st h b := by
  refine hX k_X3_gives_0 0 ok_X3_gives_0 _ ?_ ls st h b q
  exact fun t ls st h b q => q
def bk_X3_gives_13 (E : ZE) (CT : Nat → ZC) (X : ZK) (Rt : ZR) (ls : ZL) (st : List ZV) (h : ZH) (b : ZB2) : Prop := zB E CT k_X3_gives_13 13 ls st h b (fun t ls st h b => X t ls st h b) Rt
theorem bs_X3_gives_13 {E : ZE} {CT : Nat → ZC} {X : ZK} {Rt : ZR} {ls : ZL} {st : List ZV} {h : ZH} {b : ZB2} (hX : zCl E mX3_gives 3 false CT Rt X) (q : bk_X3_gives_13 E CT X Rt ls st h b) : X 13 ls st h b := by
  refine hX k_X3_gives_13 13 ok_X3_gives_13 _ ?_ ls st h b q
  exact fun t ls st h b q => q
def bk_X3_gives_37 (E : ZE) (CT : Nat → ZC) (X : ZK) (Rt : ZR) (ls : ZL) (st : List ZV) (h : ZH) (b : ZB2) : Prop := zB E CT k_X3_gives_37 37 ls st h b (fun t ls st h b => X t ls st h b) Rt
theorem bs_X3_gives_37 {E : ZE} {CT : Nat → ZC} {X : ZK} {Rt : ZR} {ls : ZL} {st : List ZV} {h : ZH} {b : ZB2} (hX : zCl E mX3_gives 3 false CT Rt X) (q : bk_X3_gives_37 E CT X Rt ls st h b) : X 37 ls st h b := by
  refine hX k_X3_gives_37 37 ok_X3_gives_37 _ ?_ ls st h b q
  exact fun t ls st h b q => q
def bk_X3_gives_111 (E : ZE) (CT : Nat → ZC) (X : ZK) (Rt : ZR) (ls : ZL) (st : List ZV) (h : ZH) (b : ZB2) : Prop := zB E CT k_X3_gives_111 111 ls st h b (fun t ls st h b => X t ls st h b) Rt
theorem bs_X3_gives_111 {E : ZE} {CT : Nat → ZC} {X : ZK} {Rt : ZR} {ls : ZL} {st : List ZV} {h : ZH} {b : ZB2} (hX : zCl E mX3_gives 3 false CT Rt X) (q : bk_X3_gives_111 E CT X Rt ls st h b) : X 111 ls st h b := by
  refine hX k_X3_gives_111 111 ok_X3_gives_111 _ ?_ ls st h b q
  exact fun t ls st h b q => q
def bk_X3_gives_110 (E : ZE) (CT : Nat → ZC) (X : ZK) (Rt : ZR) (ls : ZL) (st : List ZV) (h : ZH) (b : ZB2) : Prop := zB E CT k_X3_gives_110 110 ls st h b (fun t ls st h b => if t = 111 then bk_X3_gives_111 E CT X Rt ls st h b else X t ls st h b) Rt
theorem bs_X3_gives_110 {E : ZE} {CT : Nat → ZC} {X : ZK} {Rt : ZR} {ls : ZL} {st : List ZV} {h : ZH} {b : ZB2} (hX : zCl E mX3_gives 3 false CT Rt X) (q : bk_X3_gives_110 E CT X Rt ls st h b) : X 110 ls st h b := by
  refine hX k_X3_gives_110 110 ok_X3_gives_110 _ ?_ ls st h b q
  exact by
    intro t ls st h b q
    by_cases c : t = 111
    · subst c; rw [if_pos rfl] at q; exact bs_X3_gives_111 hX q
    rw [if_neg c] at q
    exact q
def bk_X3_gives_73 (E : ZE) (CT : Nat → ZC) (X : ZK) (Rt : ZR) (ls : ZL) (st : List ZV) (h : ZH) (b : ZB2) : Prop := zB E CT k_X3_gives_73 73 ls st h b (fun t ls st h b => if t = 110 then bk_X3_gives_110 E CT X Rt ls st h b else if t = 111 then bk_X3_gives_111 E CT X Rt ls st h b else X t ls st h b) Rt
theorem bs_X3_gives_73 {E : ZE} {CT : Nat → ZC} {X : ZK} {Rt : ZR} {ls : ZL} {st : List ZV} {h : ZH} {b : ZB2} (hX : zCl E mX3_gives 3 false CT Rt X) (q : bk_X3_gives_73 E CT X Rt ls st h b) : X 73 ls st h b := by
  refine hX k_X3_gives_73 73 ok_X3_gives_73 _ ?_ ls st h b q
  exact by
    intro t ls st h b q
    by_cases c : t = 110
    · subst c; rw [if_pos rfl] at q; exact bs_X3_gives_110 hX q
    rw [if_neg c] at q
    by_cases c : t = 111
    · subst c; rw [if_pos rfl] at q; exact bs_X3_gives_111 hX q
    rw [if_neg c] at q
    exact q
def bk_X3_gives_115 (E : ZE) (CT : Nat → ZC) (X : ZK) (Rt : ZR) (ls : ZL) (st : List ZV) (h : ZH) (b : ZB2) : Prop := zB E CT k_X3_gives_115 115 ls st h b (fun t ls st h b => X t ls st h b) Rt
theorem bs_X3_gives_115 {E : ZE} {CT : Nat → ZC} {X : ZK} {Rt : ZR} {ls : ZL} {st : List ZV} {h : ZH} {b : ZB2} (hX : zCl E mX3_gives 3 false CT Rt X) (q : bk_X3_gives_115 E CT X Rt ls st h b) : X 115 ls st h b := by
  refine hX k_X3_gives_115 115 ok_X3_gives_115 _ ?_ ls st h b q
  exact fun t ls st h b q => q
def bk_X3_gives_129 (E : ZE) (CT : Nat → ZC) (X : ZK) (Rt : ZR) (ls : ZL) (st : List ZV) (h : ZH) (b : ZB2) : Prop := zB E CT k_X3_gives_129 129 ls st h b (fun t ls st h b => X t ls st h b) Rt
theorem bs_X3_gives_129 {E : ZE} {CT : Nat → ZC} {X : ZK} {Rt : ZR} {ls : ZL} {st : List ZV} {h : ZH} {b : ZB2} (hX : zCl E mX3_gives 3 false CT Rt X) (q : bk_X3_gives_129 E CT X Rt ls st h b) : X 129 ls st h b := by
  refine hX k_X3_gives_129 129 ok_X3_gives_129 _ ?_ ls st h b q
  exact fun t ls st h b q => q
def bk_X3_gives_166 (E : ZE) (CT : Nat → ZC) (X : ZK) (Rt : ZR) (ls : ZL) (st : List ZV) (h : ZH) (b : ZB2) : Prop := zB E CT k_X3_gives_166 166 ls st h b (fun t ls st h b => X t ls st h b) Rt
theorem bs_X3_gives_166 {E : ZE} {CT : Nat → ZC} {X : ZK} {Rt : ZR} {ls : ZL} {st : List ZV} {h : ZH} {b : ZB2} (hX : zCl E mX3_gives 3 false CT Rt X) (q : bk_X3_gives_166 E CT X Rt ls st h b) : X 166 ls st h b := by
  refine hX k_X3_gives_166 166 ok_X3_gives_166 _ ?_ ls st h b q
  exact fun t ls st h b q => q
def bk_X3_gives_172 (E : ZE) (CT : Nat → ZC) (X : ZK) (Rt : ZR) (ls : ZL) (st : List ZV) (h : ZH) (b : ZB2) : Prop := zB E CT k_X3_gives_172 172 ls st h b (fun t ls st h b => X t ls st h b) Rt
theorem bs_X3_gives_172 {E : ZE} {CT : Nat → ZC} {X : ZK} {Rt : ZR} {ls : ZL} {st : List ZV} {h : ZH} {b : ZB2} (hX : zCl E mX3_gives 3 false CT Rt X) (q : bk_X3_gives_172 E CT X Rt ls st h b) : X 172 ls st h b := by
  refine hX k_X3_gives_172 172 ok_X3_gives_172 _ ?_ ls st h b q
  exact fun t ls st h b q => q
-- X3_gives: cuts [13, 37, 73, 115, 129, 166, 172]
def k_X2_go_0 : List ZI := [(.aload_n 0, 1, (0, [0], [])), (.getfield 18, 3, (0, [2, 2], [])), (.iload_n 1, 1, (0, [1], [])), (.iaload, 1, (0, [], [])), (.iload_n 2, 1, (0, [2], [])), (.invokestatic 54, 3, (0, [16, 2, 0, 2], [])), (.istore 4, 2, (0, [4], [])), (.iload 4, 2, (0, [4], [])), (.iconst (-1), 1, (0, [], [])), (.if_icmp .ne 4, 3, (0, [19], [])), (.return_, 1, (0, [], []))]
theorem ok_X2_go_0 : zOK cX2_go 2 false 6 k_X2_go_0 0 = true := zOK_by (by decide +kernel)
def k_X2_go_19 : List ZI := [(.aload_n 0, 1, (0, [0], [])), (.getfield 15, 3, (0, [2, 1], [])), (.iload 4, 2, (0, [4], [])), (.iaload, 1, (0, [], [])), (.ifCond .ne 73, 3, (0, [99], []))]
theorem ok_X2_go_19 : zOK cX2_go 2 false 6 k_X2_go_19 19 = true := zOK_by (by decide +kernel)
def k_X2_go_29 : List ZI := [(.aload_n 3, 1, (0, [3], [])), (.aload_n 0, 1, (0, [0], [])), (.getfield 21, 3, (0, [2, 3], [])), (.iload_n 1, 1, (0, [1], [])), (.iaload, 1, (0, [], [])), (.aload_n 0, 1, (0, [0], [])), (.getfield 9, 3, (0, [2, 0], [])), (.iload 4, 2, (0, [4], [])), (.iaload, 1, (0, [], [])), (.aload_n 0, 1, (0, [0], [])), (.getfield 24, 3, (0, [2, 4], [])), (.iload_n 1, 1, (0, [1], [])), (.iaload, 1, (0, [], [])), (.invokevirtual 57, 3, (0, [26, 4, 0, 3], [])), (.istore 5, 2, (0, [5], []))]
theorem ok_X2_go_29 : zOK cX2_go 2 false 6 k_X2_go_29 29 = true := zOK_by (by decide +kernel)
def k_X2_go_54 : List ZI := [(.aload_n 0, 1, (0, [0], [])), (.getfield 24, 3, (0, [2, 4], [])), (.iload_n 1, 1, (0, [1], [])), (.bipush 99, 2, (0, [], [])), (.aload_n 0, 1, (0, [0], [])), (.getfield 24, 3, (0, [2, 4], [])), (.iload_n 1, 1, (0, [1], [])), (.iaload, 1, (0, [], [])), (.iload 5, 2, (0, [5], [])), (.iadd, 1, (0, [], [])), (.invokestatic 63, 3, (0, [2], [])), (.iastore, 1, (0, [], [])), (.aload_n 0, 1, (0, [0], [])), (.getfield 24, 3, (0, [2, 4], [])), (.iload_n 1, 1, (0, [1], [])), (.iaload, 1, (0, [], [])), (.aload_n 0, 1, (0, [0], [])), (.getfield 9, 3, (0, [2, 0], [])), (.iload 4, 2, (0, [4], [])), (.iaload, 1, (0, [], [])), (.if_icmp .ge 4, 3, (0, [91], [])), (.return_, 1, (0, [], []))]
theorem ok_X2_go_54 : zOK cX2_go 2 false 6 k_X2_go_54 54 = true := zOK_by (by decide +kernel)
def k_X2_go_91 : List ZI := [(.aload_n 0, 1, (0, [0], [])), (.getfield 15, 3, (0, [2, 1], [])), (.iload 4, 2, (0, [4], [])), (.iconst 1, 1, (0, [], [])), (.iastore, 1, (0, [], []))]
theorem ok_X2_go_91 : zOK cX2_go 2 false 6 k_X2_go_91 91 = true := zOK_by (by decide +kernel)
def k_X2_go_99 : List ZI := [(.aload_n 0, 1, (0, [0], [])), (.getfield 18, 3, (0, [2, 2], [])), (.iload_n 1, 1, (0, [1], [])), (.iload 4, 2, (0, [4], [])), (.iastore, 1, (0, [], [])), (.aload_n 0, 1, (0, [0], [])), (.getfield 24, 3, (0, [2, 4], [])), (.iload_n 1, 1, (0, [1], [])), (.iconst 0, 1, (0, [], [])), (.iastore, 1, (0, [], [])), (.aload_n 0, 1, (0, [0], [])), (.getfield 27, 3, (0, [2, 5], [])), (.iload_n 1, 1, (0, [1], [])), (.iload_n 2, 1, (0, [2], [])), (.iastore, 1, (0, [], [])), (.return_, 1, (0, [], []))]
theorem ok_X2_go_99 : zOK cX2_go 2 false 6 k_X2_go_99 99 = true := zOK_by (by decide +kernel)
theorem rt_X2_go {g : Nat} {post : Option ZV → ZH → Prop} {h : ZH} {b : ZB2} : zRt mX2_go g post none h b = (post none h ∧ h.1.length = g) := by show (_ ∧ _ ∧ True) = _; simp
def bk_X2_go_0 (E : ZE) (CT : Nat → ZC) (X : ZK) (Rt : ZR) (ls : ZL) (st : List ZV) (h : ZH) (b : ZB2) : Prop := zB E CT k_X2_go_0 0 ls st h b (fun t ls st h b => X t ls st h b) Rt
theorem bs_X2_go_0 {E : ZE} {CT : Nat → ZC} {X : ZK} {Rt : ZR} {ls : ZL} {st : List ZV} {h : ZH} {b : ZB2} (hX : zCl E mX2_go 2 false CT Rt X) (q : bk_X2_go_0 E CT X Rt ls st h b) : X 0 ls st h b := by
  refine hX k_X2_go_0 0 ok_X2_go_0 _ ?_ ls st h b q
  exact fun t ls st h b q => q
def bk_X2_go_19 (E : ZE) (CT : Nat → ZC) (X : ZK) (Rt : ZR) (ls : ZL) (st : List ZV) (h : ZH) (b : ZB2) : Prop := zB E CT k_X2_go_19 19 ls st h b (fun t ls st h b => X t ls st h b) Rt
theorem bs_X2_go_19 {E : ZE} {CT : Nat → ZC} {X : ZK} {Rt : ZR} {ls : ZL} {st : List ZV} {h : ZH} {b : ZB2} (hX : zCl E mX2_go 2 false CT Rt X) (q : bk_X2_go_19 E CT X Rt ls st h b) : X 19 ls st h b := by
  refine hX k_X2_go_19 19 ok_X2_go_19 _ ?_ ls st h b q
  exact fun t ls st h b q => q
def bk_X2_go_29 (E : ZE) (CT : Nat → ZC) (X : ZK) (Rt : ZR) (ls : ZL) (st : List ZV) (h : ZH) (b : ZB2) : Prop := zB E CT k_X2_go_29 29 ls st h b (fun t ls st h b => X t ls st h b) Rt
theorem bs_X2_go_29 {E : ZE} {CT : Nat → ZC} {X : ZK} {Rt : ZR} {ls : ZL} {st : List ZV} {h : ZH} {b : ZB2} (hX : zCl E mX2_go 2 false CT Rt X) (q : bk_X2_go_29 E CT X Rt ls st h b) : X 29 ls st h b := by
  refine hX k_X2_go_29 29 ok_X2_go_29 _ ?_ ls st h b q
  exact fun t ls st h b q => q
def bk_X2_go_54 (E : ZE) (CT : Nat → ZC) (X : ZK) (Rt : ZR) (ls : ZL) (st : List ZV) (h : ZH) (b : ZB2) : Prop := zB E CT k_X2_go_54 54 ls st h b (fun t ls st h b => X t ls st h b) Rt
theorem bs_X2_go_54 {E : ZE} {CT : Nat → ZC} {X : ZK} {Rt : ZR} {ls : ZL} {st : List ZV} {h : ZH} {b : ZB2} (hX : zCl E mX2_go 2 false CT Rt X) (q : bk_X2_go_54 E CT X Rt ls st h b) : X 54 ls st h b := by
  refine hX k_X2_go_54 54 ok_X2_go_54 _ ?_ ls st h b q
  exact fun t ls st h b q => q
def bk_X2_go_91 (E : ZE) (CT : Nat → ZC) (X : ZK) (Rt : ZR) (ls : ZL) (st : List ZV) (h : ZH) (b : ZB2) : Prop := zB E CT k_X2_go_91 91 ls st h b (fun t ls st h b => X t ls st h b) Rt
theorem bs_X2_go_91 {E : ZE} {CT : Nat → ZC} {X : ZK} {Rt : ZR} {ls : ZL} {st : List ZV} {h : ZH} {b : ZB2} (hX : zCl E mX2_go 2 false CT Rt X) (q : bk_X2_go_91 E CT X Rt ls st h b) : X 91 ls st h b := by
  refine hX k_X2_go_91 91 ok_X2_go_91 _ ?_ ls st h b q
  exact fun t ls st h b q => q
def bk_X2_go_99 (E : ZE) (CT : Nat → ZC) (X : ZK) (Rt : ZR) (ls : ZL) (st : List ZV) (h : ZH) (b : ZB2) : Prop := zB E CT k_X2_go_99 99 ls st h b (fun t ls st h b => X t ls st h b) Rt
theorem bs_X2_go_99 {E : ZE} {CT : Nat → ZC} {X : ZK} {Rt : ZR} {ls : ZL} {st : List ZV} {h : ZH} {b : ZB2} (hX : zCl E mX2_go 2 false CT Rt X) (q : bk_X2_go_99 E CT X Rt ls st h b) : X 99 ls st h b := by
  refine hX k_X2_go_99 99 ok_X2_go_99 _ ?_ ls st h b q
  exact fun t ls st h b q => q
-- X2_go: cuts [19, 29, 54, 91, 99]
def CR (c : Nat) (M : ZMm) (d : Nat → Int) (wo : Int) : Prop := M c 3 = d 0 ∧ ∀ e, e < 8 → M (c + 1) e = d (162 + 3 * e) ∧ M (c + 2) e = d (162 + 3 * e + 1) ∧ M (c + 3) e = if (e : Int) = wo then 2 else d (162 + 3 * e + 2)
def LR (l : Nat) (M : ZMm) (d : Nat → Int) (u : Nat) : Prop := M (l + 1) 1 = d (186 + u) ∧ ∀ k : Nat, (k : Int) < d (186 + u) → M (l + 2) k = d (208 + 50 * u + k)
theorem CR_cg {c : Nat} {M M' : ZMm} {d d' : Nat → Int} {wo : Int} (H : CR c M d wo) (e : ∀ x, c ≤ x → x ≤ c + 3 → M' x = M x) (e2 : ∀ k, k = 0 ∨ (162 ≤ k ∧ k < 186) → d' k = d k) : CR c M' d' wo := by
  refine ⟨by rw [e c (by omega) (by omega), e2 0 (by omega)]; exact H.1, fun i hi => ?_⟩
  have := H.2 i hi
  rw [e (c + 1) (by omega) (by omega), e (c + 2) (by omega) (by omega), e (c + 3) (by omega) (by omega), e2 _ (by omega), e2 _ (by omega), e2 _ (by omega)]
  exact this
theorem LR_cg {l u : Nat} {M M' : ZMm} {d d' : Nat → Int} (H : LR l M d u) (hv : d (186 + u) ≤ 50) (hu : u < 2) (e : ∀ x, l + 1 ≤ x → x ≤ l + 2 → M' x = M x) (e2 : ∀ k, (186 ≤ k ∧ k < 188) ∨ (208 ≤ k ∧ k < 308) → d' k = d k) : LR l M' d' u := by
  refine ⟨by rw [e (l + 1) (by omega) (by omega), e2 _ (by omega)]; exact H.1, fun k hk => ?_⟩
  rw [e2 _ (by omega)] at hk
  rw [e (l + 2) (by omega) (by omega), e2 _ (by omega)]
  exact H.2 k hk
def B_ccopy (o : Nat) (q : Nat) (M : Nat → Nat → Int) (post : Option ZV → (Nat → Nat → Int) → Prop) : Prop := crewb o ∧ crewb q ∧ ¬ o = q ∧ ∃ (d : Nat → Int) (wo : Int), CR q M d wo ∧ ∀ M2 : ZMm, CR o M2 d wo → (∀ x, x < o ∨ o + 3 < x → M2 x = M x) → post none M2
def C_ccopy : ZC := fun as h post => match as with
  | [.inr (.inr (.inl o)), .inr (.inr (.inl q))] => h.1 = zG ∧ B_ccopy o q h.2 (fun v M => post v (zG, M))
  | _ => False
theorem r_ccopy {o : Nat} {q : Nat} {M : Nat → Nat → Int} {post : Option ZV → ZH → Prop} : C_ccopy [.inr (.inr (.inl o)), .inr (.inr (.inl q))] (zG, M) post = B_ccopy o q M (fun v M => post v (zG, M)) := by show (zG = zG ∧ _) = _; simp
def ct_ccopy : Nat → ZC := fun n => fun _ _ _ => False
theorem c_ccopy {E : ZE} {d : Nat} (hd : 1 ≤ d) : zMet E d mX0_copyFrom C_ccopy := by
  refine zmet_of (o := 0) (ini := false) (CT := ct_ccopy) gd_X0_copyFrom rfl (fun h => by cases h) (by omega) ?_ ?_
  · intro n as h post hh
    unfold ct_ccopy at hh
    exact hh.elim
  intro as h post hC
  match as, hC with
  | [.inr (.inr (.inl o)), .inr (.inr (.inl q))], hC =>
    refine ⟨Nat.le_of_ble_eq_true rfl, fun X hX => bs_X0_copyFrom_0 hX ?_⟩
    obtain ⟨G, M⟩ := h
    obtain ⟨hG, hC⟩ := hC
    dsimp only at hG
    subst hG
    simp only [B_ccopy] at hC
    show bk_X0_copyFrom_0 E ct_ccopy X _ [some (.inr (.inr (.inl o))), some (.inr (.inr (.inl q)))] [] (zG, M) (0, 0)
    obtain ⟨hbo, hbq, ne, d9, wo, H, hC⟩ := hC
    have sep : q + 3 < o ∨ o + 3 < q := by
      rcases hbo with e | e | e <;> rcases hbq with e2 | e2 | e2 <;> omega
    have qo : (q = o) = False := eq_false (by omega)
    have c1 : ∀ {M : ZMm} {n dp sp : Int} {r : List ZV} {kh : List ZV → ZH → Prop}, _ := fun {M n dp sp r kh} => cp_of (M := M) (n := n) (dp := dp) (sp := sp) (r := r) (kh := kh) (aC_1 hbq) (aC_1 hbo)
    have c2 : ∀ {M : ZMm} {n dp sp : Int} {r : List ZV} {kh : List ZV → ZH → Prop}, _ := fun {M n dp sp r kh} => cp_of (M := M) (n := n) (dp := dp) (sp := sp) (r := r) (kh := kh) (aC_2 hbq) (aC_2 hbo)
    have c3 : ∀ {M : ZMm} {n dp sp : Int} {r : List ZV} {kh : List ZV → ZH → Prop}, _ := fun {M n dp sp r kh} => cp_of (M := M) (n := n) (dp := dp) (sp := sp) (r := r) (kh := kh) (aC_3 hbq) (aC_3 hbo)
    have zq : ∀ k, zcp (zcp (zcp M (q + 1) (o + 1) 0 0 8) (q + 2) (o + 2) 0 0 8) (q + 3) (o + 3) 0 0 8 q k = M q k := fun k => by rw [zc_o (by omega), zc_o (by omega), zc_o (by omega)]
    simp only [bk_X0_copyFrom_0, k_X0_copyFrom_0, ↓e_rk1, ↓e_rk0, ↓e_sk0, ↓e_sks, ↓e_ldi0, ↓e_ldis, ↓e_ldl0, ↓e_ldls, ↓e_lda0, ↓e_ldas, ↓e_ok0, ↓e_okss, ↓e_ok1i, ↓e_ok1r, ↓e_ok1n, ↓e_sti, ↓e_sta, ↓e_1, ↓e_2, ↓e_l1, ↓e_l2, ↓e_li, ↓e_sw0, ↓e_sws, ↓e_ceq, ↓e_cne, ↓e_clt, ↓e_cge, ↓e_cgt, ↓e_cle, ↓e_nil, ↓e_cons, ↓e_iconst, ↓e_bipush, ↓e_sipush, ↓e_ldc, ↓e_ldcw, ↓e_ldc2, ↓e_lconst, ↓e_iloadn, ↓e_iload, ↓e_lloadn, ↓e_lload, ↓e_aloadn, ↓e_aload, ↓e_istoren, ↓e_istore, ↓e_astoren, ↓e_astore, ↓e_add, ↓e_iinc, ↓e_iadd, ↓e_isub, ↓e_imul, ↓e_iand, ↓e_ior, ↓e_ixor, ↓e_ishl, ↓e_iushr, ↓e_idiv, ↓e_irem, ↓e_ineg, ↓e_i2l, ↓e_i2b, ↓e_i2s, ↓e_l2i, ↓e_land, ↓e_lor, ↓e_lshl, ↓e_lshr, ↓e_lushr, ↓e_lcmp, ↓e_dupi, ↓e_dupr, ↓e_popi, ↓e_dup2, ↓e_goto, ↓e_if, ↓e_icmp, ↓e_tsw, ↓e_lsw, ↓e_getf, ↓e_putf, ↓e_gets, ↓e_iald, ↓e_cald, ↓e_iast, ↓e_aald, ↓e_aast, ↓e_len, ↓e_copy, ↓e_abs, ↓e_max, ↓e_min, ↓e_iret, ↓e_aret, ↓e_vret, ↓e_is0, ↓e_is1, ↓e_is2, ↓e_is3, ↓e_is4, ↓e_iv1, ↓e_iv2, ↓e_iv3, ↓e_iv4, ↓e_iv5, ↓e_iv6, ↓rt_X0_copyFrom, ↓reduceIte, Nat.reduceAdd, Nat.reduceEqDiff, ↓zcl0, ↓zclv, List.map_nil, List.sum_nil, List.map_cons, List.sum_cons, zcat, true_and, and_true, Nat.reduceLeDiff, Nat.reduceAdd, eq_self, forall_const, e_ok0, e_okss, e_ok1i, e_ok1r, e_ok1n, zl_0, zl_8, Int.reduceToNat, Int.reduceAdd, Int.reduceMul, Int.reduceSub, Int.reduceNeg, Int.reduceLT, Int.reduceLE, Int.reduceEq, not_false_eq_true, not_true_eq_false, false_implies, true_implies, implies_true, Int.reduceDiv, Int.reduceMod, zr8_zr, zr_zbo, z01_zbo, z01_0, z01_1, zbo_eq0, zup_eq, zup_o, zup_k, ne_eq, ↓vC hbo, ↓gC_0 hbo, ↓gC_1 hbo, ↓gC_2 hbo, ↓gC_3 hbo, ↓pC_3 hbo, ↓lC_1 hbo, ↓sC_1 hbo, ↓lC_2 hbo, ↓sC_2 hbo, ↓lC_3 hbo, ↓sC_3 hbo, ↓vC hbq, ↓gC_0 hbq, ↓gC_1 hbq, ↓gC_2 hbq, ↓gC_3 hbq, ↓pC_3 hbq, ↓lC_1 hbq, ↓sC_1 hbq, ↓lC_2 hbq, ↓sC_2 hbq, ↓lC_3 hbq, ↓sC_3 hbq, ↓c1, ↓c2, ↓c3, zq, qo]
    repeat (refine And.intro (by decide) ?_)
    refine hC _ ⟨?_, fun e he => ?_⟩ (fun x qx => ?_)
    · rw [zup_eq]; exact H.1
    · obtain ⟨p1, p2, p3⟩ := H.2 e he
      refine ⟨?_, ?_, ?_⟩
      · rw [zup_o (by omega), zc_o (by omega), zc_o (by omega), zc_eq he, p1]
      · rw [zup_o (by omega), zc_o (by omega), zc_eq he, zc_o (by omega), p2]
      · rw [zup_o (by omega), zc_eq he, zc_o (by omega), zc_o (by omega), p3]
    · rw [zup_ne _ (by omega), zc_o (by omega), zc_o (by omega), zc_o (by omega)]
def B_ljoined (s : Int) (v : Int) (w : Int) (post : Option ZV → Prop) : Prop := rg s ∧ post (some (.inl (dn s v w)))
def C_ljoined : ZC := fun as h post => match as with
  | [.inl s, .inl v, .inl w] => B_ljoined s v w (fun v => post v h)
  | _ => False
theorem r_ljoined {s : Int} {v : Int} {w : Int} {h : ZH} {post : Option ZV → ZH → Prop} : C_ljoined [.inl s, .inl v, .inl w] h post = B_ljoined s v w (fun v => post v h) := rfl
def ct_ljoined : Nat → ZC := fun n => fun _ _ _ => False
theorem c_ljoined {E : ZE} {d : Nat} (hd : 1 ≤ d) : zMet E d mX3_joined C_ljoined := by
  refine zmet_of (o := 3) (ini := false) (CT := ct_ljoined) gd_X3_joined rfl (fun h => by cases h) (by omega) ?_ ?_
  · intro n as h post hh
    unfold ct_ljoined at hh
    exact hh.elim
  intro as h post hC
  match as, hC with
  | [.inl s, .inl v, .inl w], hC =>
    refine ⟨Nat.le_of_ble_eq_true rfl, fun X hX => bs_X3_joined_0 hX ?_⟩
    have hC : B_ljoined s v w (fun v => post v h) := hC
    simp only [B_ljoined] at hC
    show bk_X3_joined_0 E ct_ljoined X _ [some (.inl s), some (.inl v), some (.inl w)] [] h (0, 0)
    obtain ⟨h1, hC⟩ := hC
    simp only [bk_X3_joined_0, k_X3_joined_0, bk_X3_joined_84, k_X3_joined_84, bk_X3_joined_92, k_X3_joined_92, bk_X3_joined_96, k_X3_joined_96, bk_X3_joined_97, k_X3_joined_97, bk_X3_joined_98, k_X3_joined_98, bk_X3_joined_110, k_X3_joined_110, bk_X3_joined_111, k_X3_joined_111, bk_X3_joined_112, k_X3_joined_112, bk_X3_joined_121, k_X3_joined_121, bk_X3_joined_122, k_X3_joined_122, bk_X3_joined_123, k_X3_joined_123, bk_X3_joined_132, k_X3_joined_132, bk_X3_joined_133, k_X3_joined_133, bk_X3_joined_134, k_X3_joined_134, bk_X3_joined_143, k_X3_joined_143, bk_X3_joined_144, k_X3_joined_144, bk_X3_joined_145, k_X3_joined_145, bk_X3_joined_149, k_X3_joined_149, bk_X3_joined_153, k_X3_joined_153, bk_X3_joined_157, k_X3_joined_157, bk_X3_joined_165, k_X3_joined_165, bk_X3_joined_168, k_X3_joined_168, bk_X3_joined_169, k_X3_joined_169, bk_X3_joined_177, k_X3_joined_177, bk_X3_joined_180, k_X3_joined_180, ↓e_rk1, ↓e_rk0, ↓e_sk0, ↓e_sks, ↓e_ldi0, ↓e_ldis, ↓e_ldl0, ↓e_ldls, ↓e_lda0, ↓e_ldas, ↓e_ok0, ↓e_okss, ↓e_ok1i, ↓e_ok1r, ↓e_ok1n, ↓e_sti, ↓e_sta, ↓e_1, ↓e_2, ↓e_l1, ↓e_l2, ↓e_li, ↓e_sw0, ↓e_sws, ↓e_ceq, ↓e_cne, ↓e_clt, ↓e_cge, ↓e_cgt, ↓e_cle, ↓e_nil, ↓e_cons, ↓e_iconst, ↓e_bipush, ↓e_sipush, ↓e_ldc, ↓e_ldcw, ↓e_ldc2, ↓e_lconst, ↓e_iloadn, ↓e_iload, ↓e_lloadn, ↓e_lload, ↓e_aloadn, ↓e_aload, ↓e_istoren, ↓e_istore, ↓e_astoren, ↓e_astore, ↓e_add, ↓e_iinc, ↓e_iadd, ↓e_isub, ↓e_imul, ↓e_iand, ↓e_ior, ↓e_ixor, ↓e_ishl, ↓e_iushr, ↓e_idiv, ↓e_irem, ↓e_ineg, ↓e_i2l, ↓e_i2b, ↓e_i2s, ↓e_l2i, ↓e_land, ↓e_lor, ↓e_lshl, ↓e_lshr, ↓e_lushr, ↓e_lcmp, ↓e_dupi, ↓e_dupr, ↓e_popi, ↓e_dup2, ↓e_goto, ↓e_if, ↓e_icmp, ↓e_tsw, ↓e_lsw, ↓e_getf, ↓e_putf, ↓e_gets, ↓e_iald, ↓e_cald, ↓e_iast, ↓e_aald, ↓e_aast, ↓e_len, ↓e_copy, ↓e_abs, ↓e_max, ↓e_min, ↓e_iret, ↓e_aret, ↓e_vret, ↓e_is0, ↓e_is1, ↓e_is2, ↓e_is3, ↓e_is4, ↓e_iv1, ↓e_iv2, ↓e_iv3, ↓e_iv4, ↓e_iv5, ↓e_iv6, ↓rt_X3_joined, ↓reduceIte, Nat.reduceAdd, Nat.reduceEqDiff, ↓zcl0, ↓zclv, List.map_nil, List.sum_nil, List.map_cons, List.sum_cons, zcat, true_and, and_true, Nat.reduceLeDiff, Nat.reduceAdd, eq_self, forall_const, e_ok0, e_okss, e_ok1i, e_ok1r, e_ok1n, zl_0, zl_1, Int.reduceToNat, Int.reduceAdd, Int.reduceMul, Int.reduceSub, Int.reduceNeg, Int.reduceLT, Int.reduceLE, Int.reduceEq, not_false_eq_true, not_true_eq_false, false_implies, true_implies, implies_true, Int.reduceDiv, Int.reduceMod, zr8_zr, zr_zbo, z01_zbo, z01_0, z01_1, zbo_eq0, zup_eq, zup_o, zup_k, ne_eq, zr_rg, h1]
    repeat' (first | apply And.intro | intro _)
    all_goals first | contradiction | exact zpost hC (by simp_all [dn, zbo])
def B_loperand (k : Int) (a : Int) (b : Int) (c : Int) (post : Option ZV → Prop) : Prop := rg k ∧ post (some (.inl (opr k a b c)))
def C_loperand : ZC := fun as h post => match as with
  | [.inl k, .inl a, .inl b, .inl c] => B_loperand k a b c (fun v => post v h)
  | _ => False
theorem r_loperand {k : Int} {a : Int} {b : Int} {c : Int} {h : ZH} {post : Option ZV → ZH → Prop} : C_loperand [.inl k, .inl a, .inl b, .inl c] h post = B_loperand k a b c (fun v => post v h) := rfl
def ct_loperand : Nat → ZC := fun n => fun _ _ _ => False
theorem c_loperand {E : ZE} {d : Nat} (hd : 1 ≤ d) : zMet E d mX3_operand C_loperand := by
  refine zmet_of (o := 3) (ini := false) (CT := ct_loperand) gd_X3_operand rfl (fun h => by cases h) (by omega) ?_ ?_
  · intro n as h post hh
    unfold ct_loperand at hh
    exact hh.elim
  intro as h post hC
  match as, hC with
  | [.inl k, .inl a, .inl b, .inl c], hC =>
    refine ⟨Nat.le_of_ble_eq_true rfl, fun X hX => bs_X3_operand_0 hX ?_⟩
    have hC : B_loperand k a b c (fun v => post v h) := hC
    simp only [B_loperand] at hC
    show bk_X3_operand_0 E ct_loperand X _ [some (.inl k), some (.inl a), some (.inl b), some (.inl c)] [] h (0, 0)
    obtain ⟨h1, hC⟩ := hC
    simp only [bk_X3_operand_0, k_X3_operand_0, bk_X3_operand_28, k_X3_operand_28, bk_X3_operand_30, k_X3_operand_30, bk_X3_operand_32, k_X3_operand_32, bk_X3_operand_34, k_X3_operand_34, ↓e_rk1, ↓e_rk0, ↓e_sk0, ↓e_sks, ↓e_ldi0, ↓e_ldis, ↓e_ldl0, ↓e_ldls, ↓e_lda0, ↓e_ldas, ↓e_ok0, ↓e_okss, ↓e_ok1i, ↓e_ok1r, ↓e_ok1n, ↓e_sti, ↓e_sta, ↓e_1, ↓e_2, ↓e_l1, ↓e_l2, ↓e_li, ↓e_sw0, ↓e_sws, ↓e_ceq, ↓e_cne, ↓e_clt, ↓e_cge, ↓e_cgt, ↓e_cle, ↓e_nil, ↓e_cons, ↓e_iconst, ↓e_bipush, ↓e_sipush, ↓e_ldc, ↓e_ldcw, ↓e_ldc2, ↓e_lconst, ↓e_iloadn, ↓e_iload, ↓e_lloadn, ↓e_lload, ↓e_aloadn, ↓e_aload, ↓e_istoren, ↓e_istore, ↓e_astoren, ↓e_astore, ↓e_add, ↓e_iinc, ↓e_iadd, ↓e_isub, ↓e_imul, ↓e_iand, ↓e_ior, ↓e_ixor, ↓e_ishl, ↓e_iushr, ↓e_idiv, ↓e_irem, ↓e_ineg, ↓e_i2l, ↓e_i2b, ↓e_i2s, ↓e_l2i, ↓e_land, ↓e_lor, ↓e_lshl, ↓e_lshr, ↓e_lushr, ↓e_lcmp, ↓e_dupi, ↓e_dupr, ↓e_popi, ↓e_dup2, ↓e_goto, ↓e_if, ↓e_icmp, ↓e_tsw, ↓e_lsw, ↓e_getf, ↓e_putf, ↓e_gets, ↓e_iald, ↓e_cald, ↓e_iast, ↓e_aald, ↓e_aast, ↓e_len, ↓e_copy, ↓e_abs, ↓e_max, ↓e_min, ↓e_iret, ↓e_aret, ↓e_vret, ↓e_is0, ↓e_is1, ↓e_is2, ↓e_is3, ↓e_is4, ↓e_iv1, ↓e_iv2, ↓e_iv3, ↓e_iv4, ↓e_iv5, ↓e_iv6, ↓rt_X3_operand, ↓reduceIte, Nat.reduceAdd, Nat.reduceEqDiff, ↓zcl0, ↓zclv, List.map_nil, List.sum_nil, List.map_cons, List.sum_cons, zcat, true_and, and_true, Nat.reduceLeDiff, Nat.reduceAdd, eq_self, forall_const, e_ok0, e_okss, e_ok1i, e_ok1r, e_ok1n, Int.reduceToNat, Int.reduceAdd, Int.reduceMul, Int.reduceSub, Int.reduceNeg, Int.reduceLT, Int.reduceLE, Int.reduceEq, not_false_eq_true, not_true_eq_false, false_implies, true_implies, implies_true, Int.reduceDiv, Int.reduceMod, zr8_zr, zr_zbo, z01_zbo, z01_0, z01_1, zbo_eq0, zup_eq, zup_o, zup_k, ne_eq, zr_rg, h1]
    repeat' (first | apply And.intro | intro _)
    all_goals exact zpost hC (by simp_all [opr])
def lg0 (z : Int) : Int := if 0 < zr (if zr z < 20 then z else 20) then (if zr z < 20 then z else 20) else 0
theorem lg0_zr (z : Int) : zr (lg0 z) = hd3 (zr z) 0 20 := by
  unfold lg0 hd3
  have h20 : zr 20 = 20 := rfl
  have h0 : zr 0 = 0 := rfl
  (repeat' split) <;> first | rfl | omega
def lawu (l u : Nat) : Prop := (l = 14 ∧ u = 0) ∨ (l = 18 ∧ u = 1)
theorem lawu_b {l u : Nat} (h : lawu l u) : lawb l ∧ rowb (l + 1) 50 ∧ u < 2 := by
  rcases h with ⟨e, e2⟩ | ⟨e, e2⟩ <;> subst e <;> subst e2
  · exact ⟨Or.inl rfl, Or.inl ⟨rfl, rfl⟩, by omega⟩
  · exact ⟨Or.inr (Or.inl rfl), Or.inr (Or.inl ⟨rfl, rfl⟩), by omega⟩
def lraw (d : Nat → Int) (u : Nat) (a b c : Int) : Int := if 0 < d (186 + u) then (rpn (fun k => d (208 + 50 * u + k)) a b c (d (186 + u)).toNat).getLastD a else a
def B_lgives0 (l : Nat) (a : Int) (b : Int) (c : Int) (M : Nat → Nat → Int) (post : Option ZV → (Nat → Nat → Int) → Prop) : Prop := ∃ (d : Nat → Int) (u : Nat), lawu l u ∧ LR l M d u ∧ cok (fun k => d (208 + 50 * u + k)) (d (186 + u)) ∧ ∀ M2 : ZMm, (∀ x, ¬ x = l + 3 → M2 x = M x) → post (some (.inl (lg0 (lraw d u a b c)))) M2
def C_lgives0 : ZC := fun as h post => match as with
  | [.inr (.inr (.inl l)), .inl a, .inl b, .inl c] => h.1 = zG ∧ B_lgives0 l a b c h.2 (fun v M => post v (zG, M))
  | _ => False
theorem r_lgives0 {l : Nat} {a : Int} {b : Int} {c : Int} {M : Nat → Nat → Int} {post : Option ZV → ZH → Prop} : C_lgives0 [.inr (.inr (.inl l)), .inl a, .inl b, .inl c] (zG, M) post = B_lgives0 l a b c M (fun v M => post v (zG, M)) := by show (zG = zG ∧ _) = _; simp
def ct_lgives0 : Nat → ZC := fun n => if n = 27 then C_loperand else if n = 28 then C_ljoined else fun _ _ _ => False
theorem ct_lgives0_loperand {as : List ZV} {h : ZH} {post : Option ZV → ZH → Prop} : ct_lgives0 27 as h post = C_loperand as h post := rfl
theorem ct_lgives0_ljoined {as : List ZV} {h : ZH} {post : Option ZV → ZH → Prop} : ct_lgives0 28 as h post = C_ljoined as h post := rfl
theorem c_lgives0 {E : ZE} {d : Nat} (hd : 2 ≤ d) : zMet E d mX3_gives C_lgives0 := by
  refine zmet_of (o := 3) (ini := false) (CT := ct_lgives0) gd_X3_gives rfl (fun h => by cases h) (by omega) ?_ ?_
  · intro n as h post hh
    unfold ct_lgives0 at hh
    by_cases c : n = 27
    · subst c; exact ⟨gd_X3_operand, 1, by omega, c_loperand (by omega)⟩
    rw [if_neg c] at hh
    by_cases c : n = 28
    · subst c; exact ⟨gd_X3_joined, 1, by omega, c_ljoined (by omega)⟩
    rw [if_neg c] at hh
    exact hh.elim
  intro as h post hC
  match as, hC with
  | [.inr (.inr (.inl l)), .inl a, .inl b, .inl c], hC =>
    refine ⟨Nat.le_of_ble_eq_true rfl, fun X hX => bs_X3_gives_0 hX ?_⟩
    obtain ⟨G, M⟩ := h
    obtain ⟨hG, hC⟩ := hC
    dsimp only at hG
    subst hG
    simp only [B_lgives0] at hC
    show bk_X3_gives_0 E ct_lgives0 X _ [some (.inr (.inr (.inl l))), some (.inl a), some (.inl b), some (.inl c), none, none, none] [] (zG, M) (0, 0)
    obtain ⟨d9, u, hl, H, hk9, hC⟩ := hC
    obtain ⟨hbl, hbr, u2⟩ := lawu_b hl
    obtain ⟨N, hN⟩ : ∃ N : Int, d9 (186 + u) = N := ⟨_, rfl⟩
    obtain ⟨H1, H2⟩ := H
    unfold lraw at hC
    rw [hN] at hk9 H1 H2 hC
    obtain ⟨F, hF⟩ : ∃ F : Nat → Int, (fun k => d9 (208 + 50 * u + k)) = F := ⟨_, rfl⟩
    rw [hF] at hk9 hC
    have H2' : ∀ k : Nat, (k : Int) < N → M (l + 2) k = F k := fun k hk => by rw [← hF]; exact H2 k hk
    obtain ⟨c1, c2, dep, c3, c4⟩ := hk9
    have hlen := rpn_len (x := a) (y := b) (z := c) c3 c4
    have zN : zr N = N := zr_of (by omega) (by omega)
    have lp : ∀ (j k : Nat) (M' : ZMm) (x6 : Option ZV), j + k = N.toNat → (∀ x, ¬ x = l + 3 → M' x = M x) → Pk (rpn F a b c k) (M' (l + 3)) → (k = 0 → M' (l + 3) 0 = a) → X 13 [some (.inr (.inr (.inl l))), some (.inl a), some (.inl b), some (.inl c), some (.inl (((rpn F a b c k).length : Int))), some (.inl ((k : Int))), x6] [] (zG, M') (0, 0) := by
      intro j
      induction j with
      | zero =>
        intro k M' x6 hk hM hP h0
        refine bs_X3_gives_13 hX ?_
        have zk : zr (k : Int) = k := zr_of (by omega) (by omega)
        have e1 : M' (l + 1) 1 = N := by rw [hM _ (by omega)]; exact H1
        have lk : ((k : Int) < N) = False := eq_false (by omega)
        simp only [bk_X3_gives_0, k_X3_gives_0, bk_X3_gives_13, k_X3_gives_13, bk_X3_gives_37, k_X3_gives_37, bk_X3_gives_73, k_X3_gives_73, bk_X3_gives_110, k_X3_gives_110, bk_X3_gives_111, k_X3_gives_111, bk_X3_gives_115, k_X3_gives_115, bk_X3_gives_129, k_X3_gives_129, bk_X3_gives_166, k_X3_gives_166, bk_X3_gives_172, k_X3_gives_172, ↓e_rk1, ↓e_rk0, ↓e_sk0, ↓e_sks, ↓e_ldi0, ↓e_ldis, ↓e_ldl0, ↓e_ldls, ↓e_lda0, ↓e_ldas, ↓e_ok0, ↓e_okss, ↓e_ok1i, ↓e_ok1r, ↓e_ok1n, ↓e_sti, ↓e_sta, ↓e_1, ↓e_2, ↓e_l1, ↓e_l2, ↓e_li, ↓e_sw0, ↓e_sws, ↓e_ceq, ↓e_cne, ↓e_clt, ↓e_cge, ↓e_cgt, ↓e_cle, ↓e_nil, ↓e_cons, ↓e_iconst, ↓e_bipush, ↓e_sipush, ↓e_ldc, ↓e_ldcw, ↓e_ldc2, ↓e_lconst, ↓e_iloadn, ↓e_iload, ↓e_lloadn, ↓e_lload, ↓e_aloadn, ↓e_aload, ↓e_istoren, ↓e_istore, ↓e_astoren, ↓e_astore, ↓e_add, ↓e_iinc, ↓e_iadd, ↓e_isub, ↓e_imul, ↓e_iand, ↓e_ior, ↓e_ixor, ↓e_ishl, ↓e_iushr, ↓e_idiv, ↓e_irem, ↓e_ineg, ↓e_i2l, ↓e_i2b, ↓e_i2s, ↓e_l2i, ↓e_land, ↓e_lor, ↓e_lshl, ↓e_lshr, ↓e_lushr, ↓e_lcmp, ↓e_dupi, ↓e_dupr, ↓e_popi, ↓e_dup2, ↓e_goto, ↓e_if, ↓e_icmp, ↓e_tsw, ↓e_lsw, ↓e_getf, ↓e_putf, ↓e_gets, ↓e_iald, ↓e_cald, ↓e_iast, ↓e_aald, ↓e_aast, ↓e_len, ↓e_copy, ↓e_abs, ↓e_max, ↓e_min, ↓e_iret, ↓e_aret, ↓e_vret, ↓e_is0, ↓e_is1, ↓e_is2, ↓e_is3, ↓e_is4, ↓e_iv1, ↓e_iv2, ↓e_iv3, ↓e_iv4, ↓e_iv5, ↓e_iv6, ↓rt_X3_gives, ↓reduceIte, Nat.reduceAdd, Nat.reduceEqDiff, ↓zcl0, ↓zclv, List.map_nil, List.sum_nil, List.map_cons, List.sum_cons, zcat, true_and, and_true, Nat.reduceLeDiff, Nat.reduceAdd, eq_self, forall_const, e_ok0, e_okss, e_ok1i, e_ok1r, e_ok1n, zl_0, zl_1, zl_20, zl_50, zl_20000, zl_20033, Int.reduceToNat, Int.reduceAdd, Int.reduceMul, Int.reduceSub, Int.reduceNeg, Int.reduceLT, Int.reduceLE, Int.reduceEq, not_false_eq_true, not_true_eq_false, false_implies, true_implies, implies_true, Int.reduceDiv, Int.reduceMod, zr8_zr, zr_zbo, z01_zbo, z01_0, z01_1, zbo_eq0, zup_eq, zup_o, zup_k, ne_eq, ↓ct_lgives0_loperand, ↓r_loperand, ↓B_loperand, ↓ct_lgives0_ljoined, ↓r_ljoined, ↓B_ljoined, ↓vL hbl, ↓gL_0 hbl, ↓gL_1 hbl, ↓lL_3 hbl, ↓sL_3 hbl, ↓vR hbr, ↓gR_0 hbr, ↓gR_1 hbr, ↓pR_1 hbr, ↓lR_1 hbr, ↓sR_1 hbr, ↓nR_1 hbr, zk, e1, zN, lk]
        refine bs_X3_gives_172 hX ?_
        simp only [bk_X3_gives_0, k_X3_gives_0, bk_X3_gives_13, k_X3_gives_13, bk_X3_gives_37, k_X3_gives_37, bk_X3_gives_73, k_X3_gives_73, bk_X3_gives_110, k_X3_gives_110, bk_X3_gives_111, k_X3_gives_111, bk_X3_gives_115, k_X3_gives_115, bk_X3_gives_129, k_X3_gives_129, bk_X3_gives_166, k_X3_gives_166, bk_X3_gives_172, k_X3_gives_172, ↓e_rk1, ↓e_rk0, ↓e_sk0, ↓e_sks, ↓e_ldi0, ↓e_ldis, ↓e_ldl0, ↓e_ldls, ↓e_lda0, ↓e_ldas, ↓e_ok0, ↓e_okss, ↓e_ok1i, ↓e_ok1r, ↓e_ok1n, ↓e_sti, ↓e_sta, ↓e_1, ↓e_2, ↓e_l1, ↓e_l2, ↓e_li, ↓e_sw0, ↓e_sws, ↓e_ceq, ↓e_cne, ↓e_clt, ↓e_cge, ↓e_cgt, ↓e_cle, ↓e_nil, ↓e_cons, ↓e_iconst, ↓e_bipush, ↓e_sipush, ↓e_ldc, ↓e_ldcw, ↓e_ldc2, ↓e_lconst, ↓e_iloadn, ↓e_iload, ↓e_lloadn, ↓e_lload, ↓e_aloadn, ↓e_aload, ↓e_istoren, ↓e_istore, ↓e_astoren, ↓e_astore, ↓e_add, ↓e_iinc, ↓e_iadd, ↓e_isub, ↓e_imul, ↓e_iand, ↓e_ior, ↓e_ixor, ↓e_ishl, ↓e_iushr, ↓e_idiv, ↓e_irem, ↓e_ineg, ↓e_i2l, ↓e_i2b, ↓e_i2s, ↓e_l2i, ↓e_land, ↓e_lor, ↓e_lshl, ↓e_lshr, ↓e_lushr, ↓e_lcmp, ↓e_dupi, ↓e_dupr, ↓e_popi, ↓e_dup2, ↓e_goto, ↓e_if, ↓e_icmp, ↓e_tsw, ↓e_lsw, ↓e_getf, ↓e_putf, ↓e_gets, ↓e_iald, ↓e_cald, ↓e_iast, ↓e_aald, ↓e_aast, ↓e_len, ↓e_copy, ↓e_abs, ↓e_max, ↓e_min, ↓e_iret, ↓e_aret, ↓e_vret, ↓e_is0, ↓e_is1, ↓e_is2, ↓e_is3, ↓e_is4, ↓e_iv1, ↓e_iv2, ↓e_iv3, ↓e_iv4, ↓e_iv5, ↓e_iv6, ↓rt_X3_gives, ↓reduceIte, Nat.reduceAdd, Nat.reduceEqDiff, ↓zcl0, ↓zclv, List.map_nil, List.sum_nil, List.map_cons, List.sum_cons, zcat, true_and, and_true, Nat.reduceLeDiff, Nat.reduceAdd, eq_self, forall_const, e_ok0, e_okss, e_ok1i, e_ok1r, e_ok1n, zl_0, zl_1, zl_20, zl_50, zl_20000, zl_20033, Int.reduceToNat, Int.reduceAdd, Int.reduceMul, Int.reduceSub, Int.reduceNeg, Int.reduceLT, Int.reduceLE, Int.reduceEq, not_false_eq_true, not_true_eq_false, false_implies, true_implies, implies_true, Int.reduceDiv, Int.reduceMod, zr8_zr, zr_zbo, z01_zbo, z01_0, z01_1, zbo_eq0, zup_eq, zup_o, zup_k, ne_eq, ↓ct_lgives0_loperand, ↓r_loperand, ↓B_loperand, ↓ct_lgives0_ljoined, ↓r_ljoined, ↓B_ljoined, ↓vL hbl, ↓gL_0 hbl, ↓gL_1 hbl, ↓lL_3 hbl, ↓sL_3 hbl, ↓vR hbr, ↓gR_0 hbr, ↓gR_1 hbr, ↓pR_1 hbr, ↓lR_1 hbr, ↓sR_1 hbr, ↓nR_1 hbr]
        refine zpost (hC M' hM) ?_
        have e0 : M' (l + 3) 0 = if 0 < N then (rpn F a b c N.toNat).getLastD a else a := by
          by_cases q : 0 < N
          · rw [if_pos q, ← show k = N.toNat by omega]
            exact Pk_bot hP (by have := hlen k (by omega); omega) a
          · rw [if_neg q]
            exact h0 (by omega)
        rw [← e0]
        rfl
      | succ j ih =>
        intro k M' x6 hk hM hP h0
        refine bs_X3_gives_13 hX ?_
        have zk : zr (k : Int) = k := zr_of (by omega) (by omega)
        have e1 : M' (l + 1) 1 = N := by rw [hM _ (by omega)]; exact H1
        have lk : ((k : Int) < N) = True := eq_true (by omega)
        have ek : M' (l + 1 + 1) k = F k := by rw [hM _ (by omega)]; exact H2' k (by omega)
        obtain ⟨l1, l2, l3⟩ := hlen k (by omega)
        have zL : zr ((rpn F a b c k).length : Int) = (rpn F a b c k).length := zr_of (by omega) (by omega)
        have go : ∀ (M2 : ZMm) (x6 : Int), (∀ x, ¬ x = l + 3 → M2 x = M x) → Pk (rpn F a b c (k + 1)) (M2 (l + 3)) → X 166 [some (.inr (.inr (.inl l))), some (.inl a), some (.inl b), some (.inl c), some (.inl (((rpn F a b c (k + 1)).length : Int))), some (.inl ((k : Int))), some (.inl x6)] [] (zG, M2) (0, 0) := by
          intro M2 x6 h2 hP2
          refine bs_X3_gives_166 hX ?_
          simp only [bk_X3_gives_0, k_X3_gives_0, bk_X3_gives_13, k_X3_gives_13, bk_X3_gives_37, k_X3_gives_37, bk_X3_gives_73, k_X3_gives_73, bk_X3_gives_110, k_X3_gives_110, bk_X3_gives_111, k_X3_gives_111, bk_X3_gives_115, k_X3_gives_115, bk_X3_gives_129, k_X3_gives_129, bk_X3_gives_166, k_X3_gives_166, bk_X3_gives_172, k_X3_gives_172, ↓e_rk1, ↓e_rk0, ↓e_sk0, ↓e_sks, ↓e_ldi0, ↓e_ldis, ↓e_ldl0, ↓e_ldls, ↓e_lda0, ↓e_ldas, ↓e_ok0, ↓e_okss, ↓e_ok1i, ↓e_ok1r, ↓e_ok1n, ↓e_sti, ↓e_sta, ↓e_1, ↓e_2, ↓e_l1, ↓e_l2, ↓e_li, ↓e_sw0, ↓e_sws, ↓e_ceq, ↓e_cne, ↓e_clt, ↓e_cge, ↓e_cgt, ↓e_cle, ↓e_nil, ↓e_cons, ↓e_iconst, ↓e_bipush, ↓e_sipush, ↓e_ldc, ↓e_ldcw, ↓e_ldc2, ↓e_lconst, ↓e_iloadn, ↓e_iload, ↓e_lloadn, ↓e_lload, ↓e_aloadn, ↓e_aload, ↓e_istoren, ↓e_istore, ↓e_astoren, ↓e_astore, ↓e_add, ↓e_iinc, ↓e_iadd, ↓e_isub, ↓e_imul, ↓e_iand, ↓e_ior, ↓e_ixor, ↓e_ishl, ↓e_iushr, ↓e_idiv, ↓e_irem, ↓e_ineg, ↓e_i2l, ↓e_i2b, ↓e_i2s, ↓e_l2i, ↓e_land, ↓e_lor, ↓e_lshl, ↓e_lshr, ↓e_lushr, ↓e_lcmp, ↓e_dupi, ↓e_dupr, ↓e_popi, ↓e_dup2, ↓e_goto, ↓e_if, ↓e_icmp, ↓e_tsw, ↓e_lsw, ↓e_getf, ↓e_putf, ↓e_gets, ↓e_iald, ↓e_cald, ↓e_iast, ↓e_aald, ↓e_aast, ↓e_len, ↓e_copy, ↓e_abs, ↓e_max, ↓e_min, ↓e_iret, ↓e_aret, ↓e_vret, ↓e_is0, ↓e_is1, ↓e_is2, ↓e_is3, ↓e_is4, ↓e_iv1, ↓e_iv2, ↓e_iv3, ↓e_iv4, ↓e_iv5, ↓e_iv6, ↓rt_X3_gives, ↓reduceIte, Nat.reduceAdd, Nat.reduceEqDiff, ↓zcl0, ↓zclv, List.map_nil, List.sum_nil, List.map_cons, List.sum_cons, zcat, true_and, and_true, Nat.reduceLeDiff, Nat.reduceAdd, eq_self, forall_const, e_ok0, e_okss, e_ok1i, e_ok1r, e_ok1n, zl_0, zl_1, zl_20, zl_50, zl_20000, zl_20033, Int.reduceToNat, Int.reduceAdd, Int.reduceMul, Int.reduceSub, Int.reduceNeg, Int.reduceLT, Int.reduceLE, Int.reduceEq, not_false_eq_true, not_true_eq_false, false_implies, true_implies, implies_true, Int.reduceDiv, Int.reduceMod, zr8_zr, zr_zbo, z01_zbo, z01_0, z01_1, zbo_eq0, zup_eq, zup_o, zup_k, ne_eq, ↓ct_lgives0_loperand, ↓r_loperand, ↓B_loperand, ↓ct_lgives0_ljoined, ↓r_ljoined, ↓B_ljoined, ↓vL hbl, ↓gL_0 hbl, ↓gL_1 hbl, ↓lL_3 hbl, ↓sL_3 hbl, ↓vR hbr, ↓gR_0 hbr, ↓gR_1 hbr, ↓pR_1 hbr, ↓lR_1 hbr, ↓sR_1 hbr, ↓nR_1 hbr]
          exact ih (k + 1) M2 _ (by omega) h2 hP2 (fun e => by omega)
        simp only [bk_X3_gives_0, k_X3_gives_0, bk_X3_gives_13, k_X3_gives_13, bk_X3_gives_37, k_X3_gives_37, bk_X3_gives_73, k_X3_gives_73, bk_X3_gives_110, k_X3_gives_110, bk_X3_gives_111, k_X3_gives_111, bk_X3_gives_115, k_X3_gives_115, bk_X3_gives_129, k_X3_gives_129, bk_X3_gives_166, k_X3_gives_166, bk_X3_gives_172, k_X3_gives_172, ↓e_rk1, ↓e_rk0, ↓e_sk0, ↓e_sks, ↓e_ldi0, ↓e_ldis, ↓e_ldl0, ↓e_ldls, ↓e_lda0, ↓e_ldas, ↓e_ok0, ↓e_okss, ↓e_ok1i, ↓e_ok1r, ↓e_ok1n, ↓e_sti, ↓e_sta, ↓e_1, ↓e_2, ↓e_l1, ↓e_l2, ↓e_li, ↓e_sw0, ↓e_sws, ↓e_ceq, ↓e_cne, ↓e_clt, ↓e_cge, ↓e_cgt, ↓e_cle, ↓e_nil, ↓e_cons, ↓e_iconst, ↓e_bipush, ↓e_sipush, ↓e_ldc, ↓e_ldcw, ↓e_ldc2, ↓e_lconst, ↓e_iloadn, ↓e_iload, ↓e_lloadn, ↓e_lload, ↓e_aloadn, ↓e_aload, ↓e_istoren, ↓e_istore, ↓e_astoren, ↓e_astore, ↓e_add, ↓e_iinc, ↓e_iadd, ↓e_isub, ↓e_imul, ↓e_iand, ↓e_ior, ↓e_ixor, ↓e_ishl, ↓e_iushr, ↓e_idiv, ↓e_irem, ↓e_ineg, ↓e_i2l, ↓e_i2b, ↓e_i2s, ↓e_l2i, ↓e_land, ↓e_lor, ↓e_lshl, ↓e_lshr, ↓e_lushr, ↓e_lcmp, ↓e_dupi, ↓e_dupr, ↓e_popi, ↓e_dup2, ↓e_goto, ↓e_if, ↓e_icmp, ↓e_tsw, ↓e_lsw, ↓e_getf, ↓e_putf, ↓e_gets, ↓e_iald, ↓e_cald, ↓e_iast, ↓e_aald, ↓e_aast, ↓e_len, ↓e_copy, ↓e_abs, ↓e_max, ↓e_min, ↓e_iret, ↓e_aret, ↓e_vret, ↓e_is0, ↓e_is1, ↓e_is2, ↓e_is3, ↓e_is4, ↓e_iv1, ↓e_iv2, ↓e_iv3, ↓e_iv4, ↓e_iv5, ↓e_iv6, ↓rt_X3_gives, ↓reduceIte, Nat.reduceAdd, Nat.reduceEqDiff, ↓zcl0, ↓zclv, List.map_nil, List.sum_nil, List.map_cons, List.sum_cons, zcat, true_and, and_true, Nat.reduceLeDiff, Nat.reduceAdd, eq_self, forall_const, e_ok0, e_okss, e_ok1i, e_ok1r, e_ok1n, zl_0, zl_1, zl_20, zl_50, zl_20000, zl_20033, Int.reduceToNat, Int.reduceAdd, Int.reduceMul, Int.reduceSub, Int.reduceNeg, Int.reduceLT, Int.reduceLE, Int.reduceEq, not_false_eq_true, not_true_eq_false, false_implies, true_implies, implies_true, Int.reduceDiv, Int.reduceMod, zr8_zr, zr_zbo, z01_zbo, z01_0, z01_1, zbo_eq0, zup_eq, zup_o, zup_k, ne_eq, ↓ct_lgives0_loperand, ↓r_loperand, ↓B_loperand, ↓ct_lgives0_ljoined, ↓r_ljoined, ↓B_ljoined, ↓vL hbl, ↓gL_0 hbl, ↓gL_1 hbl, ↓lL_3 hbl, ↓sL_3 hbl, ↓vR hbr, ↓gR_0 hbr, ↓gR_1 hbr, ↓pR_1 hbr, ↓lR_1 hbr, ↓sR_1 hbr, ↓nR_1 hbr, zk, e1, zN, lk, ek, Int.toNat_natCast]
        repeat (refine And.intro (by omega) ?_)
        rcases c4 k (by omega) with ⟨q1, q2, q3⟩ | ⟨q1, q2, q3⟩ | ⟨q1, q2, q3, q4, q5⟩
        · have zf : zr (F k) = F k := zr_of (by omega) (by omega)
          have t1 : (F k < 20000) = True := eq_true (by omega)
          have ld : (((rpn F a b c k).length : Int) < 50) = True := eq_true (by omega)
          have er : rpn F a b c (k + 1) = opr (F k) a b c :: rpn F a b c k := by
            rw [rpn]; unfold stp
            rw [if_pos (by omega)]
          refine bs_X3_gives_37 hX ?_
          simp only [bk_X3_gives_0, k_X3_gives_0, bk_X3_gives_13, k_X3_gives_13, bk_X3_gives_37, k_X3_gives_37, bk_X3_gives_73, k_X3_gives_73, bk_X3_gives_110, k_X3_gives_110, bk_X3_gives_111, k_X3_gives_111, bk_X3_gives_115, k_X3_gives_115, bk_X3_gives_129, k_X3_gives_129, bk_X3_gives_166, k_X3_gives_166, bk_X3_gives_172, k_X3_gives_172, ↓e_rk1, ↓e_rk0, ↓e_sk0, ↓e_sks, ↓e_ldi0, ↓e_ldis, ↓e_ldl0, ↓e_ldls, ↓e_lda0, ↓e_ldas, ↓e_ok0, ↓e_okss, ↓e_ok1i, ↓e_ok1r, ↓e_ok1n, ↓e_sti, ↓e_sta, ↓e_1, ↓e_2, ↓e_l1, ↓e_l2, ↓e_li, ↓e_sw0, ↓e_sws, ↓e_ceq, ↓e_cne, ↓e_clt, ↓e_cge, ↓e_cgt, ↓e_cle, ↓e_nil, ↓e_cons, ↓e_iconst, ↓e_bipush, ↓e_sipush, ↓e_ldc, ↓e_ldcw, ↓e_ldc2, ↓e_lconst, ↓e_iloadn, ↓e_iload, ↓e_lloadn, ↓e_lload, ↓e_aloadn, ↓e_aload, ↓e_istoren, ↓e_istore, ↓e_astoren, ↓e_astore, ↓e_add, ↓e_iinc, ↓e_iadd, ↓e_isub, ↓e_imul, ↓e_iand, ↓e_ior, ↓e_ixor, ↓e_ishl, ↓e_iushr, ↓e_idiv, ↓e_irem, ↓e_ineg, ↓e_i2l, ↓e_i2b, ↓e_i2s, ↓e_l2i, ↓e_land, ↓e_lor, ↓e_lshl, ↓e_lshr, ↓e_lushr, ↓e_lcmp, ↓e_dupi, ↓e_dupr, ↓e_popi, ↓e_dup2, ↓e_goto, ↓e_if, ↓e_icmp, ↓e_tsw, ↓e_lsw, ↓e_getf, ↓e_putf, ↓e_gets, ↓e_iald, ↓e_cald, ↓e_iast, ↓e_aald, ↓e_aast, ↓e_len, ↓e_copy, ↓e_abs, ↓e_max, ↓e_min, ↓e_iret, ↓e_aret, ↓e_vret, ↓e_is0, ↓e_is1, ↓e_is2, ↓e_is3, ↓e_is4, ↓e_iv1, ↓e_iv2, ↓e_iv3, ↓e_iv4, ↓e_iv5, ↓e_iv6, ↓rt_X3_gives, ↓reduceIte, Nat.reduceAdd, Nat.reduceEqDiff, ↓zcl0, ↓zclv, List.map_nil, List.sum_nil, List.map_cons, List.sum_cons, zcat, true_and, and_true, Nat.reduceLeDiff, Nat.reduceAdd, eq_self, forall_const, e_ok0, e_okss, e_ok1i, e_ok1r, e_ok1n, zl_0, zl_1, zl_20, zl_50, zl_20000, zl_20033, Int.reduceToNat, Int.reduceAdd, Int.reduceMul, Int.reduceSub, Int.reduceNeg, Int.reduceLT, Int.reduceLE, Int.reduceEq, not_false_eq_true, not_true_eq_false, false_implies, true_implies, implies_true, Int.reduceDiv, Int.reduceMod, zr8_zr, zr_zbo, z01_zbo, z01_0, z01_1, zbo_eq0, zup_eq, zup_o, zup_k, ne_eq, ↓ct_lgives0_loperand, ↓r_loperand, ↓B_loperand, ↓ct_lgives0_ljoined, ↓r_ljoined, ↓B_ljoined, ↓vL hbl, ↓gL_0 hbl, ↓gL_1 hbl, ↓lL_3 hbl, ↓sL_3 hbl, ↓vR hbr, ↓gR_0 hbr, ↓gR_1 hbr, ↓pR_1 hbr, ↓lR_1 hbr, ↓sR_1 hbr, ↓nR_1 hbr, zf, t1, ld, zL, Int.toNat_natCast]
          refine ⟨⟨by omega, by omega⟩, ?_⟩
          repeat (refine And.intro (by omega) ?_)
          have := go (zup M' (l + 3) (rpn F a b c k).length (opr (F k) a b c)) (F k) (fun x q => by rw [zup_ne _ q]; exact hM x q) (by
            rw [er]
            refine Pk_push hP (by simp [zup]) (fun i hi => ?_)
            exact zup_k (by omega))
          rw [er] at this
          simpa using this
        · have er : ∃ v r, rpn F a b c k = v :: r ∧ rpn F a b c (k + 1) = zbo (zr v = 0) :: r := by
            rw [rpn]; unfold stp
            generalize rpn F a b c k = s at l1
            match s, l1 with
            | v :: r, _ => exact ⟨v, r, rfl, by rw [if_neg (by omega), if_pos q1]⟩
            | [], l1 => simp at l1; omega
          obtain ⟨v, r, er1, er2⟩ := er
          rw [er1] at hP l1 ⊢
          simp only [List.length_cons] at l1
          have eL : (((v :: r).length : Nat) : Int) = (r.length : Int) + 1 := by simp
          rw [eL]
          have zL1 : zr ((r.length : Int) + 1 - 1) = r.length := by rw [zr_of (by omega) (by omega)]; omega
          have zL0 : zr ((r.length : Int) + 1) = (r.length : Int) + 1 := zr_of (by omega) (by omega)
          have gt : (0 < (r.length : Int) + 1) = True := eq_true (by omega)
          have ht : M' (l + 3) r.length = v := Pk_top hP
          have fin : ∀ w, w = zbo (zr v = 0) → X 166 [some (.inr (.inr (.inl l))), some (.inl a), some (.inl b), some (.inl c), some (.inl ((r.length : Int) + 1)), some (.inl ((k : Int))), some (.inl ((20033 : Int)))] [] (zG, (zup M' (l + 3) r.length w)) (0, 0) := by
            intro w hw
            have := go (zup M' (l + 3) r.length w) 20033 (fun x q => by rw [zup_ne _ q]; exact hM x q) (by
              rw [er2]
              refine Pk_push (Pk_pop hP) (by simp [zup, hw]) (fun i hi => ?_)
              exact zup_k (by omega))
            rw [er2] at this
            simpa using this
          rw [q1]
          refine bs_X3_gives_37 hX ?_
          simp only [bk_X3_gives_0, k_X3_gives_0, bk_X3_gives_13, k_X3_gives_13, bk_X3_gives_37, k_X3_gives_37, bk_X3_gives_73, k_X3_gives_73, bk_X3_gives_110, k_X3_gives_110, bk_X3_gives_111, k_X3_gives_111, bk_X3_gives_115, k_X3_gives_115, bk_X3_gives_129, k_X3_gives_129, bk_X3_gives_166, k_X3_gives_166, bk_X3_gives_172, k_X3_gives_172, ↓e_rk1, ↓e_rk0, ↓e_sk0, ↓e_sks, ↓e_ldi0, ↓e_ldis, ↓e_ldl0, ↓e_ldls, ↓e_lda0, ↓e_ldas, ↓e_ok0, ↓e_okss, ↓e_ok1i, ↓e_ok1r, ↓e_ok1n, ↓e_sti, ↓e_sta, ↓e_1, ↓e_2, ↓e_l1, ↓e_l2, ↓e_li, ↓e_sw0, ↓e_sws, ↓e_ceq, ↓e_cne, ↓e_clt, ↓e_cge, ↓e_cgt, ↓e_cle, ↓e_nil, ↓e_cons, ↓e_iconst, ↓e_bipush, ↓e_sipush, ↓e_ldc, ↓e_ldcw, ↓e_ldc2, ↓e_lconst, ↓e_iloadn, ↓e_iload, ↓e_lloadn, ↓e_lload, ↓e_aloadn, ↓e_aload, ↓e_istoren, ↓e_istore, ↓e_astoren, ↓e_astore, ↓e_add, ↓e_iinc, ↓e_iadd, ↓e_isub, ↓e_imul, ↓e_iand, ↓e_ior, ↓e_ixor, ↓e_ishl, ↓e_iushr, ↓e_idiv, ↓e_irem, ↓e_ineg, ↓e_i2l, ↓e_i2b, ↓e_i2s, ↓e_l2i, ↓e_land, ↓e_lor, ↓e_lshl, ↓e_lshr, ↓e_lushr, ↓e_lcmp, ↓e_dupi, ↓e_dupr, ↓e_popi, ↓e_dup2, ↓e_goto, ↓e_if, ↓e_icmp, ↓e_tsw, ↓e_lsw, ↓e_getf, ↓e_putf, ↓e_gets, ↓e_iald, ↓e_cald, ↓e_iast, ↓e_aald, ↓e_aast, ↓e_len, ↓e_copy, ↓e_abs, ↓e_max, ↓e_min, ↓e_iret, ↓e_aret, ↓e_vret, ↓e_is0, ↓e_is1, ↓e_is2, ↓e_is3, ↓e_is4, ↓e_iv1, ↓e_iv2, ↓e_iv3, ↓e_iv4, ↓e_iv5, ↓e_iv6, ↓rt_X3_gives, ↓reduceIte, Nat.reduceAdd, Nat.reduceEqDiff, ↓zcl0, ↓zclv, List.map_nil, List.sum_nil, List.map_cons, List.sum_cons, zcat, true_and, and_true, Nat.reduceLeDiff, Nat.reduceAdd, eq_self, forall_const, e_ok0, e_okss, e_ok1i, e_ok1r, e_ok1n, zl_0, zl_1, zl_20, zl_50, zl_20000, zl_20033, Int.reduceToNat, Int.reduceAdd, Int.reduceMul, Int.reduceSub, Int.reduceNeg, Int.reduceLT, Int.reduceLE, Int.reduceEq, not_false_eq_true, not_true_eq_false, false_implies, true_implies, implies_true, Int.reduceDiv, Int.reduceMod, zr8_zr, zr_zbo, z01_zbo, z01_0, z01_1, zbo_eq0, zup_eq, zup_o, zup_k, ne_eq, ↓ct_lgives0_loperand, ↓r_loperand, ↓B_loperand, ↓ct_lgives0_ljoined, ↓r_ljoined, ↓B_ljoined, ↓vL hbl, ↓gL_0 hbl, ↓gL_1 hbl, ↓lL_3 hbl, ↓sL_3 hbl, ↓vR hbr, ↓gR_0 hbr, ↓gR_1 hbr, ↓pR_1 hbr, ↓lR_1 hbr, ↓sR_1 hbr, ↓nR_1 hbr]
          refine bs_X3_gives_73 hX ?_
          simp only [bk_X3_gives_0, k_X3_gives_0, bk_X3_gives_13, k_X3_gives_13, bk_X3_gives_37, k_X3_gives_37, bk_X3_gives_73, k_X3_gives_73, bk_X3_gives_110, k_X3_gives_110, bk_X3_gives_111, k_X3_gives_111, bk_X3_gives_115, k_X3_gives_115, bk_X3_gives_129, k_X3_gives_129, bk_X3_gives_166, k_X3_gives_166, bk_X3_gives_172, k_X3_gives_172, ↓e_rk1, ↓e_rk0, ↓e_sk0, ↓e_sks, ↓e_ldi0, ↓e_ldis, ↓e_ldl0, ↓e_ldls, ↓e_lda0, ↓e_ldas, ↓e_ok0, ↓e_okss, ↓e_ok1i, ↓e_ok1r, ↓e_ok1n, ↓e_sti, ↓e_sta, ↓e_1, ↓e_2, ↓e_l1, ↓e_l2, ↓e_li, ↓e_sw0, ↓e_sws, ↓e_ceq, ↓e_cne, ↓e_clt, ↓e_cge, ↓e_cgt, ↓e_cle, ↓e_nil, ↓e_cons, ↓e_iconst, ↓e_bipush, ↓e_sipush, ↓e_ldc, ↓e_ldcw, ↓e_ldc2, ↓e_lconst, ↓e_iloadn, ↓e_iload, ↓e_lloadn, ↓e_lload, ↓e_aloadn, ↓e_aload, ↓e_istoren, ↓e_istore, ↓e_astoren, ↓e_astore, ↓e_add, ↓e_iinc, ↓e_iadd, ↓e_isub, ↓e_imul, ↓e_iand, ↓e_ior, ↓e_ixor, ↓e_ishl, ↓e_iushr, ↓e_idiv, ↓e_irem, ↓e_ineg, ↓e_i2l, ↓e_i2b, ↓e_i2s, ↓e_l2i, ↓e_land, ↓e_lor, ↓e_lshl, ↓e_lshr, ↓e_lushr, ↓e_lcmp, ↓e_dupi, ↓e_dupr, ↓e_popi, ↓e_dup2, ↓e_goto, ↓e_if, ↓e_icmp, ↓e_tsw, ↓e_lsw, ↓e_getf, ↓e_putf, ↓e_gets, ↓e_iald, ↓e_cald, ↓e_iast, ↓e_aald, ↓e_aast, ↓e_len, ↓e_copy, ↓e_abs, ↓e_max, ↓e_min, ↓e_iret, ↓e_aret, ↓e_vret, ↓e_is0, ↓e_is1, ↓e_is2, ↓e_is3, ↓e_is4, ↓e_iv1, ↓e_iv2, ↓e_iv3, ↓e_iv4, ↓e_iv5, ↓e_iv6, ↓rt_X3_gives, ↓reduceIte, Nat.reduceAdd, Nat.reduceEqDiff, ↓zcl0, ↓zclv, List.map_nil, List.sum_nil, List.map_cons, List.sum_cons, zcat, true_and, and_true, Nat.reduceLeDiff, Nat.reduceAdd, eq_self, forall_const, e_ok0, e_okss, e_ok1i, e_ok1r, e_ok1n, zl_0, zl_1, zl_20, zl_50, zl_20000, zl_20033, Int.reduceToNat, Int.reduceAdd, Int.reduceMul, Int.reduceSub, Int.reduceNeg, Int.reduceLT, Int.reduceLE, Int.reduceEq, not_false_eq_true, not_true_eq_false, false_implies, true_implies, implies_true, Int.reduceDiv, Int.reduceMod, zr8_zr, zr_zbo, z01_zbo, z01_0, z01_1, zbo_eq0, zup_eq, zup_o, zup_k, ne_eq, ↓ct_lgives0_loperand, ↓r_loperand, ↓B_loperand, ↓ct_lgives0_ljoined, ↓r_ljoined, ↓B_ljoined, ↓vL hbl, ↓gL_0 hbl, ↓gL_1 hbl, ↓lL_3 hbl, ↓sL_3 hbl, ↓vR hbr, ↓gR_0 hbr, ↓gR_1 hbr, ↓pR_1 hbr, ↓lR_1 hbr, ↓sR_1 hbr, ↓nR_1 hbr, zL0, gt, zL1, Int.toNat_natCast, ht]
          repeat' (first | assumption | apply And.intro | intro _)
          all_goals first | omega | (apply fin; exact (zbo_t (by assumption)).symm) | (apply fin; exact (zbo_f (by assumption)).symm)
        · have er : ∃ v w r, rpn F a b c k = w :: v :: r ∧ rpn F a b c (k + 1) = dn (F k - 20000) v w :: r := by
            rw [rpn]; unfold stp
            generalize rpn F a b c k = s at l1
            match s, l1 with
            | w :: v :: r, _ => exact ⟨v, w, r, rfl, by rw [if_neg (by omega), if_neg q3]⟩
            | [w], l1 => simp at l1; omega
            | [], l1 => simp at l1; omega
          obtain ⟨v, w, r, er1, er2⟩ := er
          rw [er1] at hP l1 ⊢
          simp only [List.length_cons] at l1
          have eL : (((w :: v :: r).length : Nat) : Int) = (r.length : Int) + 2 := by simp; omega
          rw [eL]
          have zL0 : zr ((r.length : Int) + 2) = (r.length : Int) + 2 := zr_of (by omega) (by omega)
          have zL1 : zr ((r.length : Int) + 2 + -1) = (r.length : Int) + 1 := by rw [zr_of (by omega) (by omega)]; omega
          have zL2 : zr ((r.length : Int) + 2 + -1 - 1) = (r.length : Int) := by rw [zr_of (by omega) (by omega)]; omega
          have zf : zr (F k) = F k := zr_of (by omega) (by omega)
          have t1 : (F k < 20000) = False := eq_false (by omega)
          have t2 : (F k = 20033) = False := eq_false q3
          have t3 : (20000 < F k) = True := eq_true q1
          have t4 : (1 < (r.length : Int) + 2) = True := eq_true (by omega)
          have ht1 : M' (l + 3) ((r.length : Int) + 1).toNat = w := by
            have := Pk_top hP
            simpa using this
          have ht2 : M' (l + 3) r.length = v := Pk_top (Pk_pop hP)
          have rgs : rg (F k - 20000) := ⟨by omega, by omega⟩
          have gg := go (zup M' (l + 3) r.length (dn (F k - 20000) v w)) (F k) (fun x q => by rw [zup_ne _ q]; exact hM x q) (by
              rw [er2]
              refine Pk_push (Pk_pop (Pk_pop hP)) (by simp [zup]) (fun i hi => ?_)
              exact zup_k (by omega))
          rw [er2] at gg
          have eq9 : (r.length : Int) + 2 + -1 = ((dn (F k - 20000) v w :: r).length : Int) := by simp; omega
          rw [← eq9] at gg
          refine bs_X3_gives_37 hX ?_
          simp only [bk_X3_gives_0, k_X3_gives_0, bk_X3_gives_13, k_X3_gives_13, bk_X3_gives_37, k_X3_gives_37, bk_X3_gives_73, k_X3_gives_73, bk_X3_gives_110, k_X3_gives_110, bk_X3_gives_111, k_X3_gives_111, bk_X3_gives_115, k_X3_gives_115, bk_X3_gives_129, k_X3_gives_129, bk_X3_gives_166, k_X3_gives_166, bk_X3_gives_172, k_X3_gives_172, ↓e_rk1, ↓e_rk0, ↓e_sk0, ↓e_sks, ↓e_ldi0, ↓e_ldis, ↓e_ldl0, ↓e_ldls, ↓e_lda0, ↓e_ldas, ↓e_ok0, ↓e_okss, ↓e_ok1i, ↓e_ok1r, ↓e_ok1n, ↓e_sti, ↓e_sta, ↓e_1, ↓e_2, ↓e_l1, ↓e_l2, ↓e_li, ↓e_sw0, ↓e_sws, ↓e_ceq, ↓e_cne, ↓e_clt, ↓e_cge, ↓e_cgt, ↓e_cle, ↓e_nil, ↓e_cons, ↓e_iconst, ↓e_bipush, ↓e_sipush, ↓e_ldc, ↓e_ldcw, ↓e_ldc2, ↓e_lconst, ↓e_iloadn, ↓e_iload, ↓e_lloadn, ↓e_lload, ↓e_aloadn, ↓e_aload, ↓e_istoren, ↓e_istore, ↓e_astoren, ↓e_astore, ↓e_add, ↓e_iinc, ↓e_iadd, ↓e_isub, ↓e_imul, ↓e_iand, ↓e_ior, ↓e_ixor, ↓e_ishl, ↓e_iushr, ↓e_idiv, ↓e_irem, ↓e_ineg, ↓e_i2l, ↓e_i2b, ↓e_i2s, ↓e_l2i, ↓e_land, ↓e_lor, ↓e_lshl, ↓e_lshr, ↓e_lushr, ↓e_lcmp, ↓e_dupi, ↓e_dupr, ↓e_popi, ↓e_dup2, ↓e_goto, ↓e_if, ↓e_icmp, ↓e_tsw, ↓e_lsw, ↓e_getf, ↓e_putf, ↓e_gets, ↓e_iald, ↓e_cald, ↓e_iast, ↓e_aald, ↓e_aast, ↓e_len, ↓e_copy, ↓e_abs, ↓e_max, ↓e_min, ↓e_iret, ↓e_aret, ↓e_vret, ↓e_is0, ↓e_is1, ↓e_is2, ↓e_is3, ↓e_is4, ↓e_iv1, ↓e_iv2, ↓e_iv3, ↓e_iv4, ↓e_iv5, ↓e_iv6, ↓rt_X3_gives, ↓reduceIte, Nat.reduceAdd, Nat.reduceEqDiff, ↓zcl0, ↓zclv, List.map_nil, List.sum_nil, List.map_cons, List.sum_cons, zcat, true_and, and_true, Nat.reduceLeDiff, Nat.reduceAdd, eq_self, forall_const, e_ok0, e_okss, e_ok1i, e_ok1r, e_ok1n, zl_0, zl_1, zl_20, zl_50, zl_20000, zl_20033, Int.reduceToNat, Int.reduceAdd, Int.reduceMul, Int.reduceSub, Int.reduceNeg, Int.reduceLT, Int.reduceLE, Int.reduceEq, not_false_eq_true, not_true_eq_false, false_implies, true_implies, implies_true, Int.reduceDiv, Int.reduceMod, zr8_zr, zr_zbo, z01_zbo, z01_0, z01_1, zbo_eq0, zup_eq, zup_o, zup_k, ne_eq, ↓ct_lgives0_loperand, ↓r_loperand, ↓B_loperand, ↓ct_lgives0_ljoined, ↓r_ljoined, ↓B_ljoined, ↓vL hbl, ↓gL_0 hbl, ↓gL_1 hbl, ↓lL_3 hbl, ↓sL_3 hbl, ↓vR hbr, ↓gR_0 hbr, ↓gR_1 hbr, ↓pR_1 hbr, ↓lR_1 hbr, ↓sR_1 hbr, ↓nR_1 hbr, zf, t1]
          refine bs_X3_gives_73 hX ?_
          simp only [bk_X3_gives_0, k_X3_gives_0, bk_X3_gives_13, k_X3_gives_13, bk_X3_gives_37, k_X3_gives_37, bk_X3_gives_73, k_X3_gives_73, bk_X3_gives_110, k_X3_gives_110, bk_X3_gives_111, k_X3_gives_111, bk_X3_gives_115, k_X3_gives_115, bk_X3_gives_129, k_X3_gives_129, bk_X3_gives_166, k_X3_gives_166, bk_X3_gives_172, k_X3_gives_172, ↓e_rk1, ↓e_rk0, ↓e_sk0, ↓e_sks, ↓e_ldi0, ↓e_ldis, ↓e_ldl0, ↓e_ldls, ↓e_lda0, ↓e_ldas, ↓e_ok0, ↓e_okss, ↓e_ok1i, ↓e_ok1r, ↓e_ok1n, ↓e_sti, ↓e_sta, ↓e_1, ↓e_2, ↓e_l1, ↓e_l2, ↓e_li, ↓e_sw0, ↓e_sws, ↓e_ceq, ↓e_cne, ↓e_clt, ↓e_cge, ↓e_cgt, ↓e_cle, ↓e_nil, ↓e_cons, ↓e_iconst, ↓e_bipush, ↓e_sipush, ↓e_ldc, ↓e_ldcw, ↓e_ldc2, ↓e_lconst, ↓e_iloadn, ↓e_iload, ↓e_lloadn, ↓e_lload, ↓e_aloadn, ↓e_aload, ↓e_istoren, ↓e_istore, ↓e_astoren, ↓e_astore, ↓e_add, ↓e_iinc, ↓e_iadd, ↓e_isub, ↓e_imul, ↓e_iand, ↓e_ior, ↓e_ixor, ↓e_ishl, ↓e_iushr, ↓e_idiv, ↓e_irem, ↓e_ineg, ↓e_i2l, ↓e_i2b, ↓e_i2s, ↓e_l2i, ↓e_land, ↓e_lor, ↓e_lshl, ↓e_lshr, ↓e_lushr, ↓e_lcmp, ↓e_dupi, ↓e_dupr, ↓e_popi, ↓e_dup2, ↓e_goto, ↓e_if, ↓e_icmp, ↓e_tsw, ↓e_lsw, ↓e_getf, ↓e_putf, ↓e_gets, ↓e_iald, ↓e_cald, ↓e_iast, ↓e_aald, ↓e_aast, ↓e_len, ↓e_copy, ↓e_abs, ↓e_max, ↓e_min, ↓e_iret, ↓e_aret, ↓e_vret, ↓e_is0, ↓e_is1, ↓e_is2, ↓e_is3, ↓e_is4, ↓e_iv1, ↓e_iv2, ↓e_iv3, ↓e_iv4, ↓e_iv5, ↓e_iv6, ↓rt_X3_gives, ↓reduceIte, Nat.reduceAdd, Nat.reduceEqDiff, ↓zcl0, ↓zclv, List.map_nil, List.sum_nil, List.map_cons, List.sum_cons, zcat, true_and, and_true, Nat.reduceLeDiff, Nat.reduceAdd, eq_self, forall_const, e_ok0, e_okss, e_ok1i, e_ok1r, e_ok1n, zl_0, zl_1, zl_20, zl_50, zl_20000, zl_20033, Int.reduceToNat, Int.reduceAdd, Int.reduceMul, Int.reduceSub, Int.reduceNeg, Int.reduceLT, Int.reduceLE, Int.reduceEq, not_false_eq_true, not_true_eq_false, false_implies, true_implies, implies_true, Int.reduceDiv, Int.reduceMod, zr8_zr, zr_zbo, z01_zbo, z01_0, z01_1, zbo_eq0, zup_eq, zup_o, zup_k, ne_eq, ↓ct_lgives0_loperand, ↓r_loperand, ↓B_loperand, ↓ct_lgives0_ljoined, ↓r_ljoined, ↓B_ljoined, ↓vL hbl, ↓gL_0 hbl, ↓gL_1 hbl, ↓lL_3 hbl, ↓sL_3 hbl, ↓vR hbr, ↓gR_0 hbr, ↓gR_1 hbr, ↓pR_1 hbr, ↓lR_1 hbr, ↓sR_1 hbr, ↓nR_1 hbr, zf, t2]
          refine bs_X3_gives_115 hX ?_
          simp only [bk_X3_gives_0, k_X3_gives_0, bk_X3_gives_13, k_X3_gives_13, bk_X3_gives_37, k_X3_gives_37, bk_X3_gives_73, k_X3_gives_73, bk_X3_gives_110, k_X3_gives_110, bk_X3_gives_111, k_X3_gives_111, bk_X3_gives_115, k_X3_gives_115, bk_X3_gives_129, k_X3_gives_129, bk_X3_gives_166, k_X3_gives_166, bk_X3_gives_172, k_X3_gives_172, ↓e_rk1, ↓e_rk0, ↓e_sk0, ↓e_sks, ↓e_ldi0, ↓e_ldis, ↓e_ldl0, ↓e_ldls, ↓e_lda0, ↓e_ldas, ↓e_ok0, ↓e_okss, ↓e_ok1i, ↓e_ok1r, ↓e_ok1n, ↓e_sti, ↓e_sta, ↓e_1, ↓e_2, ↓e_l1, ↓e_l2, ↓e_li, ↓e_sw0, ↓e_sws, ↓e_ceq, ↓e_cne, ↓e_clt, ↓e_cge, ↓e_cgt, ↓e_cle, ↓e_nil, ↓e_cons, ↓e_iconst, ↓e_bipush, ↓e_sipush, ↓e_ldc, ↓e_ldcw, ↓e_ldc2, ↓e_lconst, ↓e_iloadn, ↓e_iload, ↓e_lloadn, ↓e_lload, ↓e_aloadn, ↓e_aload, ↓e_istoren, ↓e_istore, ↓e_astoren, ↓e_astore, ↓e_add, ↓e_iinc, ↓e_iadd, ↓e_isub, ↓e_imul, ↓e_iand, ↓e_ior, ↓e_ixor, ↓e_ishl, ↓e_iushr, ↓e_idiv, ↓e_irem, ↓e_ineg, ↓e_i2l, ↓e_i2b, ↓e_i2s, ↓e_l2i, ↓e_land, ↓e_lor, ↓e_lshl, ↓e_lshr, ↓e_lushr, ↓e_lcmp, ↓e_dupi, ↓e_dupr, ↓e_popi, ↓e_dup2, ↓e_goto, ↓e_if, ↓e_icmp, ↓e_tsw, ↓e_lsw, ↓e_getf, ↓e_putf, ↓e_gets, ↓e_iald, ↓e_cald, ↓e_iast, ↓e_aald, ↓e_aast, ↓e_len, ↓e_copy, ↓e_abs, ↓e_max, ↓e_min, ↓e_iret, ↓e_aret, ↓e_vret, ↓e_is0, ↓e_is1, ↓e_is2, ↓e_is3, ↓e_is4, ↓e_iv1, ↓e_iv2, ↓e_iv3, ↓e_iv4, ↓e_iv5, ↓e_iv6, ↓rt_X3_gives, ↓reduceIte, Nat.reduceAdd, Nat.reduceEqDiff, ↓zcl0, ↓zclv, List.map_nil, List.sum_nil, List.map_cons, List.sum_cons, zcat, true_and, and_true, Nat.reduceLeDiff, Nat.reduceAdd, eq_self, forall_const, e_ok0, e_okss, e_ok1i, e_ok1r, e_ok1n, zl_0, zl_1, zl_20, zl_50, zl_20000, zl_20033, Int.reduceToNat, Int.reduceAdd, Int.reduceMul, Int.reduceSub, Int.reduceNeg, Int.reduceLT, Int.reduceLE, Int.reduceEq, not_false_eq_true, not_true_eq_false, false_implies, true_implies, implies_true, Int.reduceDiv, Int.reduceMod, zr8_zr, zr_zbo, z01_zbo, z01_0, z01_1, zbo_eq0, zup_eq, zup_o, zup_k, ne_eq, ↓ct_lgives0_loperand, ↓r_loperand, ↓B_loperand, ↓ct_lgives0_ljoined, ↓r_ljoined, ↓B_ljoined, ↓vL hbl, ↓gL_0 hbl, ↓gL_1 hbl, ↓lL_3 hbl, ↓sL_3 hbl, ↓vR hbr, ↓gR_0 hbr, ↓gR_1 hbr, ↓pR_1 hbr, ↓lR_1 hbr, ↓sR_1 hbr, ↓nR_1 hbr, zf, t3, zL0, t4]
          refine bs_X3_gives_129 hX ?_
          simp only [bk_X3_gives_0, k_X3_gives_0, bk_X3_gives_13, k_X3_gives_13, bk_X3_gives_37, k_X3_gives_37, bk_X3_gives_73, k_X3_gives_73, bk_X3_gives_110, k_X3_gives_110, bk_X3_gives_111, k_X3_gives_111, bk_X3_gives_115, k_X3_gives_115, bk_X3_gives_129, k_X3_gives_129, bk_X3_gives_166, k_X3_gives_166, bk_X3_gives_172, k_X3_gives_172, ↓e_rk1, ↓e_rk0, ↓e_sk0, ↓e_sks, ↓e_ldi0, ↓e_ldis, ↓e_ldl0, ↓e_ldls, ↓e_lda0, ↓e_ldas, ↓e_ok0, ↓e_okss, ↓e_ok1i, ↓e_ok1r, ↓e_ok1n, ↓e_sti, ↓e_sta, ↓e_1, ↓e_2, ↓e_l1, ↓e_l2, ↓e_li, ↓e_sw0, ↓e_sws, ↓e_ceq, ↓e_cne, ↓e_clt, ↓e_cge, ↓e_cgt, ↓e_cle, ↓e_nil, ↓e_cons, ↓e_iconst, ↓e_bipush, ↓e_sipush, ↓e_ldc, ↓e_ldcw, ↓e_ldc2, ↓e_lconst, ↓e_iloadn, ↓e_iload, ↓e_lloadn, ↓e_lload, ↓e_aloadn, ↓e_aload, ↓e_istoren, ↓e_istore, ↓e_astoren, ↓e_astore, ↓e_add, ↓e_iinc, ↓e_iadd, ↓e_isub, ↓e_imul, ↓e_iand, ↓e_ior, ↓e_ixor, ↓e_ishl, ↓e_iushr, ↓e_idiv, ↓e_irem, ↓e_ineg, ↓e_i2l, ↓e_i2b, ↓e_i2s, ↓e_l2i, ↓e_land, ↓e_lor, ↓e_lshl, ↓e_lshr, ↓e_lushr, ↓e_lcmp, ↓e_dupi, ↓e_dupr, ↓e_popi, ↓e_dup2, ↓e_goto, ↓e_if, ↓e_icmp, ↓e_tsw, ↓e_lsw, ↓e_getf, ↓e_putf, ↓e_gets, ↓e_iald, ↓e_cald, ↓e_iast, ↓e_aald, ↓e_aast, ↓e_len, ↓e_copy, ↓e_abs, ↓e_max, ↓e_min, ↓e_iret, ↓e_aret, ↓e_vret, ↓e_is0, ↓e_is1, ↓e_is2, ↓e_is3, ↓e_is4, ↓e_iv1, ↓e_iv2, ↓e_iv3, ↓e_iv4, ↓e_iv5, ↓e_iv6, ↓rt_X3_gives, ↓reduceIte, Nat.reduceAdd, Nat.reduceEqDiff, ↓zcl0, ↓zclv, List.map_nil, List.sum_nil, List.map_cons, List.sum_cons, zcat, true_and, and_true, Nat.reduceLeDiff, Nat.reduceAdd, eq_self, forall_const, e_ok0, e_okss, e_ok1i, e_ok1r, e_ok1n, zl_0, zl_1, zl_20, zl_50, zl_20000, zl_20033, Int.reduceToNat, Int.reduceAdd, Int.reduceMul, Int.reduceSub, Int.reduceNeg, Int.reduceLT, Int.reduceLE, Int.reduceEq, not_false_eq_true, not_true_eq_false, false_implies, true_implies, implies_true, Int.reduceDiv, Int.reduceMod, zr8_zr, zr_zbo, z01_zbo, z01_0, z01_1, zbo_eq0, zup_eq, zup_o, zup_k, ne_eq, ↓ct_lgives0_loperand, ↓r_loperand, ↓B_loperand, ↓ct_lgives0_ljoined, ↓r_ljoined, ↓B_ljoined, ↓vL hbl, ↓gL_0 hbl, ↓gL_1 hbl, ↓lL_3 hbl, ↓sL_3 hbl, ↓vR hbr, ↓gR_0 hbr, ↓gR_1 hbr, ↓pR_1 hbr, ↓lR_1 hbr, ↓sR_1 hbr, ↓nR_1 hbr, zL1, zL2, Int.toNat_natCast, ht1, ht2]
          repeat (refine And.intro (by omega) ?_)
          exact gg
    simp only [bk_X3_gives_0, k_X3_gives_0, bk_X3_gives_13, k_X3_gives_13, bk_X3_gives_37, k_X3_gives_37, bk_X3_gives_73, k_X3_gives_73, bk_X3_gives_110, k_X3_gives_110, bk_X3_gives_111, k_X3_gives_111, bk_X3_gives_115, k_X3_gives_115, bk_X3_gives_129, k_X3_gives_129, bk_X3_gives_166, k_X3_gives_166, bk_X3_gives_172, k_X3_gives_172, ↓e_rk1, ↓e_rk0, ↓e_sk0, ↓e_sks, ↓e_ldi0, ↓e_ldis, ↓e_ldl0, ↓e_ldls, ↓e_lda0, ↓e_ldas, ↓e_ok0, ↓e_okss, ↓e_ok1i, ↓e_ok1r, ↓e_ok1n, ↓e_sti, ↓e_sta, ↓e_1, ↓e_2, ↓e_l1, ↓e_l2, ↓e_li, ↓e_sw0, ↓e_sws, ↓e_ceq, ↓e_cne, ↓e_clt, ↓e_cge, ↓e_cgt, ↓e_cle, ↓e_nil, ↓e_cons, ↓e_iconst, ↓e_bipush, ↓e_sipush, ↓e_ldc, ↓e_ldcw, ↓e_ldc2, ↓e_lconst, ↓e_iloadn, ↓e_iload, ↓e_lloadn, ↓e_lload, ↓e_aloadn, ↓e_aload, ↓e_istoren, ↓e_istore, ↓e_astoren, ↓e_astore, ↓e_add, ↓e_iinc, ↓e_iadd, ↓e_isub, ↓e_imul, ↓e_iand, ↓e_ior, ↓e_ixor, ↓e_ishl, ↓e_iushr, ↓e_idiv, ↓e_irem, ↓e_ineg, ↓e_i2l, ↓e_i2b, ↓e_i2s, ↓e_l2i, ↓e_land, ↓e_lor, ↓e_lshl, ↓e_lshr, ↓e_lushr, ↓e_lcmp, ↓e_dupi, ↓e_dupr, ↓e_popi, ↓e_dup2, ↓e_goto, ↓e_if, ↓e_icmp, ↓e_tsw, ↓e_lsw, ↓e_getf, ↓e_putf, ↓e_gets, ↓e_iald, ↓e_cald, ↓e_iast, ↓e_aald, ↓e_aast, ↓e_len, ↓e_copy, ↓e_abs, ↓e_max, ↓e_min, ↓e_iret, ↓e_aret, ↓e_vret, ↓e_is0, ↓e_is1, ↓e_is2, ↓e_is3, ↓e_is4, ↓e_iv1, ↓e_iv2, ↓e_iv3, ↓e_iv4, ↓e_iv5, ↓e_iv6, ↓rt_X3_gives, ↓reduceIte, Nat.reduceAdd, Nat.reduceEqDiff, ↓zcl0, ↓zclv, List.map_nil, List.sum_nil, List.map_cons, List.sum_cons, zcat, true_and, and_true, Nat.reduceLeDiff, Nat.reduceAdd, eq_self, forall_const, e_ok0, e_okss, e_ok1i, e_ok1r, e_ok1n, zl_0, zl_1, zl_20, zl_50, zl_20000, zl_20033, Int.reduceToNat, Int.reduceAdd, Int.reduceMul, Int.reduceSub, Int.reduceNeg, Int.reduceLT, Int.reduceLE, Int.reduceEq, not_false_eq_true, not_true_eq_false, false_implies, true_implies, implies_true, Int.reduceDiv, Int.reduceMod, zr8_zr, zr_zbo, z01_zbo, z01_0, z01_1, zbo_eq0, zup_eq, zup_o, zup_k, ne_eq, ↓ct_lgives0_loperand, ↓r_loperand, ↓B_loperand, ↓ct_lgives0_ljoined, ↓r_ljoined, ↓B_ljoined, ↓vL hbl, ↓gL_0 hbl, ↓gL_1 hbl, ↓lL_3 hbl, ↓sL_3 hbl, ↓vR hbr, ↓gR_0 hbr, ↓gR_1 hbr, ↓pR_1 hbr, ↓lR_1 hbr, ↓sR_1 hbr, ↓nR_1 hbr]
    have := lp N.toNat 0 (zup M (l + 3) 0 a) none (by omega) (fun x q => by rw [zup_ne _ q]) (fun i v h => by simp [rpn] at h) (fun _ => zup_eq)
    simpa [rpn] using this
def B_lgives (l : Nat) (a : Int) (b : Int) (c : Int) (M : Nat → Nat → Int) (post : Option ZV → (Nat → Nat → Int) → Prop) : Prop := ∃ (d : Nat → Int) (u : Nat), lawu l u ∧ LR l M d u ∧ Vt d u ∧ ∀ M2 : ZMm, (∀ x, ¬ x = l + 3 → M2 x = M x) → post (some (.inl (tgv d u a b c))) M2
def C_lgives : ZC := fun as h post => match as with
  | [.inr (.inr (.inl l)), .inl a, .inl b, .inl c] => h.1 = zG ∧ B_lgives l a b c h.2 (fun v M => post v (zG, M))
  | _ => False
theorem r_lgives {l : Nat} {a : Int} {b : Int} {c : Int} {M : Nat → Nat → Int} {post : Option ZV → ZH → Prop} : C_lgives [.inr (.inr (.inl l)), .inl a, .inl b, .inl c] (zG, M) post = B_lgives l a b c M (fun v M => post v (zG, M)) := by show (zG = zG ∧ _) = _; simp
-- depth lgives 2
theorem c_lgives {E : ZE} {d : Nat} (hd : 2 ≤ d) : zMet E d mX3_gives C_lgives := by
  refine zmet_norm (c_lgives0 hd) ?_
  intro as h post hC
  match as, hC with
  | [.inr (.inr (.inl l)), .inl a, .inl b, .inl c], hC =>
    obtain ⟨G, M⟩ := h
    obtain ⟨hG, d9, u, hl, H, vt, hC⟩ := hC
    have e1 : (186 + (u : Int)).toNat = 186 + u := by omega
    have e2 : (208 + 50 * (u : Int)).toNat = 208 + 50 * u := by omega
    refine ⟨hG, d9, u, hl, H, ?_, fun M2 hM => ⟨some (.inl (tgv d9 u a b c)), ?_, hC M2 hM⟩⟩
    · unfold Vt at vt
      rw [e1, e2] at vt
      exact vt
    · refine zc_zr ?_
      rw [lg0_zr]
      unfold tgv lraw
      rw [e1, e2]
      exact zr_of (by have := hd3_rng (v := zr (if 0 < d9 (186 + u) then (rpn (fun k => d9 (208 + 50 * u + k)) a b c (d9 (186 + u)).toNat).getLastD a else a)); omega) (by have := hd3_rng (v := zr (if 0 < d9 (186 + u) then (rpn (fun k => d9 (208 + 50 * u + k)) a b c (d9 (186 + u)).toNat).getLastD a else a)); omega)
