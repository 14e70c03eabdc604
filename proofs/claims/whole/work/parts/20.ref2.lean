/-! THE REFERENCE: texts worked out -/
def k_X11_done_0 : List ZI := [(.iload_n 0, 1, (0, [0], [])), (.lookupswitch 168 #[(38, 97), (42, 152), (43, 144), (45, 148), (47, 156), (60, 111), (61, 122), (62, 133), (124, 83)], 83, (0, [169], [(38, 98), (42, 153), (43, 145), (45, 149), (47, 157), (60, 112), (61, 123), (62, 134), (124, 84)]))]
theorem ok_X11_done_0 : zOK cX11_done 11 false 3 k_X11_done_0 0 = true := zOK_by (by decide +kernel)
def k_X11_done_84 : List ZI := [(.iload_n 1, 1, (0, [1], [])), (.ifCond .ne 7, 3, (0, [92], [])), (.iload_n 2, 1, (0, [2], [])), (.ifCond .eq 7, 3, (0, [96], []))]
theorem ok_X11_done_84 : zOK cX11_done 11 false 3 k_X11_done_84 84 = true := zOK_by (by decide +kernel)
def k_X11_done_92 : List ZI := [(.iconst 1, 1, (0, [], [])), (.goto 4, 3, (0, [97], []))]
theorem ok_X11_done_92 : zOK cX11_done 11 false 3 k_X11_done_92 92 = true := zOK_by (by decide +kernel)
def k_X11_done_96 : List ZI := [(.iconst 0, 1, (0, [], []))]
theorem ok_X11_done_96 : zOK cX11_done 11 false 3 k_X11_done_96 96 = true := zOK_by (by decide +kernel)
def k_X11_done_97 : List ZI := [(.ireturn, 1, (0, [], []))]
theorem ok_X11_done_97 : zOK cX11_done 11 false 3 k_X11_done_97 97 = true := zOK_by (by decide +kernel)
def k_X11_done_98 : List ZI := [(.iload_n 1, 1, (0, [1], [])), (.ifCond .eq 11, 3, (0, [110], [])), (.iload_n 2, 1, (0, [2], [])), (.ifCond .eq 7, 3, (0, [110], [])), (.iconst 1, 1, (0, [], [])), (.goto 4, 3, (0, [111], []))]
theorem ok_X11_done_98 : zOK cX11_done 11 false 3 k_X11_done_98 98 = true := zOK_by (by decide +kernel)
def k_X11_done_110 : List ZI := [(.iconst 0, 1, (0, [], []))]
theorem ok_X11_done_110 : zOK cX11_done 11 false 3 k_X11_done_110 110 = true := zOK_by (by decide +kernel)
def k_X11_done_111 : List ZI := [(.ireturn, 1, (0, [], []))]
theorem ok_X11_done_111 : zOK cX11_done 11 false 3 k_X11_done_111 111 = true := zOK_by (by decide +kernel)
def k_X11_done_112 : List ZI := [(.iload_n 1, 1, (0, [1], [])), (.iload_n 2, 1, (0, [2], [])), (.if_icmp .ge 7, 3, (0, [121], [])), (.iconst 1, 1, (0, [], [])), (.goto 4, 3, (0, [122], []))]
theorem ok_X11_done_112 : zOK cX11_done 11 false 3 k_X11_done_112 112 = true := zOK_by (by decide +kernel)
def k_X11_done_121 : List ZI := [(.iconst 0, 1, (0, [], []))]
theorem ok_X11_done_121 : zOK cX11_done 11 false 3 k_X11_done_121 121 = true := zOK_by (by decide +kernel)
def k_X11_done_122 : List ZI := [(.ireturn, 1, (0, [], []))]
theorem ok_X11_done_122 : zOK cX11_done 11 false 3 k_X11_done_122 122 = true := zOK_by (by decide +kernel)
def k_X11_done_123 : List ZI := [(.iload_n 1, 1, (0, [1], [])), (.iload_n 2, 1, (0, [2], [])), (.if_icmp .ne 7, 3, (0, [132], [])), (.iconst 1, 1, (0, [], [])), (.goto 4, 3, (0, [133], []))]
theorem ok_X11_done_123 : zOK cX11_done 11 false 3 k_X11_done_123 123 = true := zOK_by (by decide +kernel)
def k_X11_done_132 : List ZI := [(.iconst 0, 1, (0, [], []))]
theorem ok_X11_done_132 : zOK cX11_done 11 false 3 k_X11_done_132 132 = true := zOK_by (by decide +kernel)
def k_X11_done_133 : List ZI := [(.ireturn, 1, (0, [], []))]
theorem ok_X11_done_133 : zOK cX11_done 11 false 3 k_X11_done_133 133 = true := zOK_by (by decide +kernel)
def k_X11_done_134 : List ZI := [(.iload_n 1, 1, (0, [1], [])), (.iload_n 2, 1, (0, [2], [])), (.if_icmp .le 7, 3, (0, [143], [])), (.iconst 1, 1, (0, [], [])), (.goto 4, 3, (0, [144], []))]
theorem ok_X11_done_134 : zOK cX11_done 11 false 3 k_X11_done_134 134 = true := zOK_by (by decide +kernel)
def k_X11_done_143 : List ZI := [(.iconst 0, 1, (0, [], []))]
theorem ok_X11_done_143 : zOK cX11_done 11 false 3 k_X11_done_143 143 = true := zOK_by (by decide +kernel)
def k_X11_done_144 : List ZI := [(.ireturn, 1, (0, [], []))]
theorem ok_X11_done_144 : zOK cX11_done 11 false 3 k_X11_done_144 144 = true := zOK_by (by decide +kernel)
def k_X11_done_145 : List ZI := [(.iload_n 1, 1, (0, [1], [])), (.iload_n 2, 1, (0, [2], [])), (.iadd, 1, (0, [], [])), (.ireturn, 1, (0, [], []))]
theorem ok_X11_done_145 : zOK cX11_done 11 false 3 k_X11_done_145 145 = true := zOK_by (by decide +kernel)
def k_X11_done_149 : List ZI := [(.iload_n 1, 1, (0, [1], [])), (.iload_n 2, 1, (0, [2], [])), (.isub, 1, (0, [], [])), (.ireturn, 1, (0, [], []))]
theorem ok_X11_done_149 : zOK cX11_done 11 false 3 k_X11_done_149 149 = true := zOK_by (by decide +kernel)
def k_X11_done_153 : List ZI := [(.iload_n 1, 1, (0, [1], [])), (.iload_n 2, 1, (0, [2], [])), (.imul, 1, (0, [], [])), (.ireturn, 1, (0, [], []))]
theorem ok_X11_done_153 : zOK cX11_done 11 false 3 k_X11_done_153 153 = true := zOK_by (by decide +kernel)
def k_X11_done_157 : List ZI := [(.iload_n 2, 1, (0, [2], [])), (.ifCond .ne 7, 3, (0, [165], [])), (.iconst 0, 1, (0, [], [])), (.goto 6, 3, (0, [168], []))]
theorem ok_X11_done_157 : zOK cX11_done 11 false 3 k_X11_done_157 157 = true := zOK_by (by decide +kernel)
def k_X11_done_165 : List ZI := [(.iload_n 1, 1, (0, [1], [])), (.iload_n 2, 1, (0, [2], [])), (.idiv, 1, (0, [], []))]
theorem ok_X11_done_165 : zOK cX11_done 11 false 3 k_X11_done_165 165 = true := zOK_by (by decide +kernel)
def k_X11_done_168 : List ZI := [(.ireturn, 1, (0, [], []))]
theorem ok_X11_done_168 : zOK cX11_done 11 false 3 k_X11_done_168 168 = true := zOK_by (by decide +kernel)
def k_X11_done_169 : List ZI := [(.iload_n 2, 1, (0, [2], [])), (.ifCond .ne 7, 3, (0, [177], [])), (.iconst 0, 1, (0, [], [])), (.goto 6, 3, (0, [180], []))]
theorem ok_X11_done_169 : zOK cX11_done 11 false 3 k_X11_done_169 169 = true := zOK_by (by decide +kernel)
def k_X11_done_177 : List ZI := [(.iload_n 1, 1, (0, [1], [])), (.iload_n 2, 1, (0, [2], [])), (.irem, 1, (0, [], []))]
theorem ok_X11_done_177 : zOK cX11_done 11 false 3 k_X11_done_177 177 = true := zOK_by (by decide +kernel)
def k_X11_done_180 : List ZI := [(.ireturn, 1, (0, [], []))]
theorem ok_X11_done_180 : zOK cX11_done 11 false 3 k_X11_done_180 180 = true := zOK_by (by decide +kernel)
theorem rt_X11_done {g : Nat} {post : Option ZV → ZH → Prop} {h : ZH} {b : ZB2} {z : Int} : zRt mX11_done g post (some (.inl z)) h b = (post (some (.inl z)) h ∧ h.1.length = g) := by show (_ ∧ _ ∧ True) = _; simp
def bk_X11_done_97 (E : ZE) (CT : Nat → ZC) (X : ZK) (Rt : ZR) (ls : ZL) (st : List ZV) (h : ZH) (b : ZB2) : Prop := zB E CT k_X11_done_97 97 ls st h b (fun t ls st h b => X t ls st h b) Rt
theorem bs_X11_done_97 {E : ZE} {CT : Nat → ZC} {X : ZK} {Rt : ZR} {ls : ZL} {st : List ZV} {h : ZH} {b : ZB2} (hX : zCl E mX11_done 11 false CT Rt X) (q : bk_X11_done_97 E CT X Rt ls st h b) : X 97 ls st h b := by
  refine hX k_X11_done_97 97 ok_X11_done_97 _ ?_ ls st h b q
  exact fun t ls st h b q => q
def bk_X11_done_92 (E : ZE) (CT : Nat → ZC) (X : ZK) (Rt : ZR) (ls : ZL) (st : List ZV) (h : ZH) (b : ZB2) : Prop := zB E CT k_X11_done_92 92 ls st h b (fun t ls st h b => if t = 97 then bk_X11_done_97 E CT X Rt ls st h b else X t ls st h b) Rt
theorem bs_X11_done_92 {E : ZE} {CT : Nat → ZC} {X : ZK} {Rt : ZR} {ls : ZL} {st : List ZV} {h : ZH} {b : ZB2} (hX : zCl E mX11_done 11 false CT Rt X) (q : bk_X11_done_92 E CT X Rt ls st h b) : X 92 ls st h b := by
  refine hX k_X11_done_92 92 ok_X11_done_92 _ ?_ ls st h b q
  exact by
    intro t ls st h b q
    by_cases c : t = 97
    · subst c; rw [if_pos rfl] at q; exact bs_X11_done_97 hX q
    rw [if_neg c] at q
    exact q
def bk_X11_done_96 (E : ZE) (CT : Nat → ZC) (X : ZK) (Rt : ZR) (ls : ZL) (st : List ZV) (h : ZH) (b : ZB2) : Prop := zB E CT k_X11_done_96 96 ls st h b (fun t ls st h b => if t = 97 then bk_X11_done_97 E CT X Rt ls st h b else X t ls st h b) Rt
theorem bs_X11_done_96 {E : ZE} {CT : Nat → ZC} {X : ZK} {Rt : ZR} {ls : ZL} {st : List ZV} {h : ZH} {b : ZB2} (hX : zCl E mX11_done 11 false CT Rt X) (q : bk_X11_done_96 E CT X Rt ls st h b) : X 96 ls st h b := by
  refine hX k_X11_done_96 96 ok_X11_done_96 _ ?_ ls st h b q
  exact by
    intro t ls st h b q
    by_cases c : t = 97
    · subst c; rw [if_pos rfl] at q; exact bs_X11_done_97 hX q
    rw [if_neg c] at q
    exact q
def bk_X11_done_84 (E : ZE) (CT : Nat → ZC) (X : ZK) (Rt : ZR) (ls : ZL) (st : List ZV) (h : ZH) (b : ZB2) : Prop := zB E CT k_X11_done_84 84 ls st h b (fun t ls st h b => if t = 92 then bk_X11_done_92 E CT X Rt ls st h b else if t = 96 then bk_X11_done_96 E CT X Rt ls st h b else X t ls st h b) Rt
theorem bs_X11_done_84 {E : ZE} {CT : Nat → ZC} {X : ZK} {Rt : ZR} {ls : ZL} {st : List ZV} {h : ZH} {b : ZB2} (hX : zCl E mX11_done 11 false CT Rt X) (q : bk_X11_done_84 E CT X Rt ls st h b) : X 84 ls st h b := by
  refine hX k_X11_done_84 84 ok_X11_done_84 _ ?_ ls st h b q
  exact by
    intro t ls st h b q
    by_cases c : t = 92
    · subst c; rw [if_pos rfl] at q; exact bs_X11_done_92 hX q
    rw [if_neg c] at q
    by_cases c : t = 96
    · subst c; rw [if_pos rfl] at q; exact bs_X11_done_96 hX q
    rw [if_neg c] at q
    exact q
def bk_X11_done_111 (E : ZE) (CT : Nat → ZC) (X : ZK) (Rt : ZR) (ls : ZL) (st : List ZV) (h : ZH) (b : ZB2) : Prop := zB E CT k_X11_done_111 111 ls st h b (fun t ls st h b => X t ls st h b) Rt
theorem bs_X11_done_111 {E : ZE} {CT : Nat → ZC} {X : ZK} {Rt : ZR} {ls : ZL} {st : List ZV} {h : ZH} {b : ZB2} (hX : zCl E mX11_done 11 false CT Rt X) (q : bk_X11_done_111 E CT X Rt ls st h b) : X 111 ls st h b := by
  refine hX k_X11_done_111 111 ok_X11_done_111 _ ?_ ls st h b q
  exact fun t ls st h b q => q
def bk_X11_done_110 (E : ZE) (CT : Nat → ZC) (X : ZK) (Rt : ZR) (ls : ZL) (st : List ZV) (h : ZH) (b : ZB2) : Prop := zB E CT k_X11_done_110 110 ls st h b (fun t ls st h b => if t = 111 then bk_X11_done_111 E CT X Rt ls st h b else X t ls st h b) Rt
theorem bs_X11_done_110 {E : ZE} {CT : Nat → ZC} {X : ZK} {Rt : ZR} {ls : ZL} {st : List ZV} {h : ZH} {b : ZB2} (hX : zCl E mX11_done 11 false CT Rt X) (q : bk_X11_done_110 E CT X Rt ls st h b) : X 110 ls st h b := by
  refine hX k_X11_done_110 110 ok_X11_done_110 _ ?_ ls st h b q
  exact by
    intro t ls st h b q
    by_cases c : t = 111
    · subst c; rw [if_pos rfl] at q; exact bs_X11_done_111 hX q
    rw [if_neg c] at q
    exact q
def bk_X11_done_98 (E : ZE) (CT : Nat → ZC) (X : ZK) (Rt : ZR) (ls : ZL) (st : List ZV) (h : ZH) (b : ZB2) : Prop := zB E CT k_X11_done_98 98 ls st h b (fun t ls st h b => if t = 110 then bk_X11_done_110 E CT X Rt ls st h b else if t = 111 then bk_X11_done_111 E CT X Rt ls st h b else X t ls st h b) Rt
theorem bs_X11_done_98 {E : ZE} {CT : Nat → ZC} {X : ZK} {Rt : ZR} {ls : ZL} {st : List ZV} {h : ZH} {b : ZB2} (hX : zCl E mX11_done 11 false CT Rt X) (q : bk_X11_done_98 E CT X Rt ls st h b) : X 98 ls st h b := by
  refine hX k_X11_done_98 98 ok_X11_done_98 _ ?_ ls st h b q
  exact by
    intro t ls st h b q
    by_cases c : t = 110
    · subst c; rw [if_pos rfl] at q; exact bs_X11_done_110 hX q
    rw [if_neg c] at q
    by_cases c : t = 111
    · subst c; rw [if_pos rfl] at q; exact bs_X11_done_111 hX q
    rw [if_neg c] at q
    exact q
def bk_X11_done_122 (E : ZE) (CT : Nat → ZC) (X : ZK) (Rt : ZR) (ls : ZL) (st : List ZV) (h : ZH) (b : ZB2) : Prop := zB E CT k_X11_done_122 122 ls st h b (fun t ls st h b => X t ls st h b) Rt
theorem bs_X11_done_122 {E : ZE} {CT : Nat → ZC} {X : ZK} {Rt : ZR} {ls : ZL} {st : List ZV} {h : ZH} {b : ZB2} (hX : zCl E mX11_done 11 false CT Rt X) (q : bk_X11_done_122 E CT X Rt ls st h b) : X 122 ls st h b := by
  refine hX k_X11_done_122 122 ok_X11_done_122 _ ?_ ls st h b q
  exact fun t ls st h b q => q
def bk_X11_done_121 (E : ZE) (CT : Nat → ZC) (X : ZK) (Rt : ZR) (ls : ZL) (st : List ZV) (h : ZH) (b : ZB2) : Prop := zB E CT k_X11_done_121 121 ls st h b (fun t ls st h b => if t = 122 then bk_X11_done_122 E CT X Rt ls st h b else X t ls st h b) Rt
theorem bs_X11_done_121 {E : ZE} {CT : Nat → ZC} {X : ZK} {Rt : ZR} {ls : ZL} {st : List ZV} {h : ZH} {b : ZB2} (hX : zCl E mX11_done 11 false CT Rt X) (q : bk_X11_done_121 E CT X Rt ls st h b) : X 121 ls st h b := by
  refine hX k_X11_done_121 121 ok_X11_done_121 _ ?_ ls st h b q
  exact by
    intro t ls st h b q
    by_cases c : t = 122
    · subst c; rw [if_pos rfl] at q; exact bs_X11_done_122 hX q
    rw [if_neg c] at q
    exact q
def bk_X11_done_112 (E : ZE) (CT : Nat → ZC) (X : ZK) (Rt : ZR) (ls : ZL) (st : List ZV) (h : ZH) (b : ZB2) : Prop := zB E CT k_X11_done_112 112 ls st h b (fun t ls st h b => if t = 121 then bk_X11_done_121 E CT X Rt ls st h b else if t = 122 then bk_X11_done_122 E CT X Rt ls st h b else X t ls st h b) Rt
theorem bs_X11_done_112 {E : ZE} {CT : Nat → ZC} {X : ZK} {Rt : ZR} {ls : ZL} {st : List ZV} {h : ZH} {b : ZB2} (hX : zCl E mX11_done 11 false CT Rt X) (q : bk_X11_done_112 E CT X Rt ls st h b) : X 112 ls st h b := by
  refine hX k_X11_done_112 112 ok_X11_done_112 _ ?_ ls st h b q
  exact by
    intro t ls st h b q
    by_cases c : t = 121
    · subst c; rw [if_pos rfl] at q; exact bs_X11_done_121 hX q
    rw [if_neg c] at q
    by_cases c : t = 122
    · subst c; rw [if_pos rfl] at q; exact bs_X11_done_122 hX q
    rw [if_neg c] at q
    exact q
def bk_X11_done_133 (E : ZE) (CT : Nat → ZC) (X : ZK) (Rt : ZR) (ls : ZL) (st : List ZV) (h : ZH) (b : ZB2) : Prop := zB E CT k_X11_done_133 133 ls st h b (fun t ls st h b => X t ls st h b) Rt
theorem bs_X11_done_133 {E : ZE} {CT : Nat → ZC} {X : ZK} {Rt : ZR} {ls : ZL} {st : List ZV} {h : ZH} {b : ZB2} (hX : zCl E mX11_done 11 false CT Rt X) (q : bk_X11_done_133 E CT X Rt ls st h b) : X 133 ls st h b := by
  refine hX k_X11_done_133 133 ok_X11_done_133 _ ?_ ls st h b q
  exact fun t ls st h b q => q
def bk_X11_done_132 (E : ZE) (CT : Nat → ZC) (X : ZK) (Rt : ZR) (ls : ZL) (st : List ZV) (h : ZH) (b : ZB2) : Prop := zB E CT k_X11_done_132 132 ls st h b (fun t ls st h b => if t = 133 then bk_X11_done_133 E CT X Rt ls st h b else X t ls st h b) Rt
theorem bs_X11_done_132 {E : ZE} {CT : Nat → ZC} {X : ZK} {Rt : ZR} {ls : ZL} {st : List ZV} {h : ZH} {b : ZB2} (hX : zCl E mX11_done 11 false CT Rt X) (q : bk_X11_done_132 E CT X Rt ls st h b) : X 132 ls st h b := by
  refine hX k_X11_done_132 132 ok_X11_done_132 _ ?_ ls st h b q
  exact by
    intro t ls st h b q
    by_cases c : t = 133
    · subst c; rw [if_pos rfl] at q; exact bs_X11_done_133 hX q
    rw [if_neg c] at q
    exact q
def bk_X11_done_123 (E : ZE) (CT : Nat → ZC) (X : ZK) (Rt : ZR) (ls : ZL) (st : List ZV) (h : ZH) (b : ZB2) : Prop := zB E CT k_X11_done_123 123 ls st h b (fun t ls st h b => if t = 132 then bk_X11_done_132 E CT X Rt ls st h b else if t = 133 then bk_X11_done_133 E CT X Rt ls st h b else X t ls st h b) Rt
theorem bs_X11_done_123 {E : ZE} {CT : Nat → ZC} {X : ZK} {Rt : ZR} {ls : ZL} {st : List ZV} {h : ZH} {b : ZB2} (hX : zCl E mX11_done 11 false CT Rt X) (q : bk_X11_done_123 E CT X Rt ls st h b) : X 123 ls st h b := by
  refine hX k_X11_done_123 123 ok_X11_done_123 _ ?_ ls st h b q
  exact by
    intro t ls st h b q
    by_cases c : t = 132
    · subst c; rw [if_pos rfl] at q; exact bs_X11_done_132 hX q
    rw [if_neg c] at q
    by_cases c : t = 133
    · subst c; rw [if_pos rfl] at q; exact bs_X11_done_133 hX q
    rw [if_neg c] at q
    exact q
def bk_X11_done_144 (E : ZE) (CT : Nat → ZC) (X : ZK) (Rt : ZR) (ls : ZL) (st : List ZV) (h : ZH) (b : ZB2) : Prop := zB E CT k_X11_done_144 144 ls st h b (fun t ls st h b => X t ls st h b) Rt
theorem bs_X11_done_144 {E : ZE} {CT : Nat → ZC} {X : ZK} {Rt : ZR} {ls : ZL} {st : List ZV} {h : ZH} {b : ZB2} (hX : zCl E mX11_done 11 false CT Rt X) (q : bk_X11_done_144 E CT X Rt ls st h b) : X 144 ls st h b := by
  refine hX k_X11_done_144 144 ok_X11_done_144 _ ?_ ls st h b q
  exact fun t ls st h b q => q
def bk_X11_done_143 (E : ZE) (CT : Nat → ZC) (X : ZK) (Rt : ZR) (ls : ZL) (st : List ZV) (h : ZH) (b : ZB2) : Prop := zB E CT k_X11_done_143 143 ls st h b (fun t ls st h b => if t = 144 then bk_X11_done_144 E CT X Rt ls st h b else X t ls st h b) Rt
theorem bs_X11_done_143 {E : ZE} {CT : Nat → ZC} {X : ZK} {Rt : ZR} {ls : ZL} {st : List ZV} {h : ZH} {b : ZB2} (hX : zCl E mX11_done 11 false CT Rt X) (q : bk_X11_done_143 E CT X Rt ls st h b) : X 143 ls st h b := by
  refine hX k_X11_done_143 143 ok_X11_done_143 _ ?_ ls st h b q
  exact by
    intro t ls st h b q
    by_cases c : t = 144
    · subst c; rw [if_pos rfl] at q; exact bs_X11_done_144 hX q
    rw [if_neg c] at q
    exact q
def bk_X11_done_134 (E : ZE) (CT : Nat → ZC) (X : ZK) (Rt : ZR) (ls : ZL) (st : List ZV) (h : ZH) (b : ZB2) : Prop := zB E CT k_X11_done_134 134 ls st h b (fun t ls st h b => if t = 143 then bk_X11_done_143 E CT X Rt ls st h b else if t = 144 then bk_X11_done_144 E CT X Rt ls st h b else X t ls st h b) Rt
theorem bs_X11_done_134 {E : ZE} {CT : Nat → ZC} {X : ZK} {Rt : ZR} {ls : ZL} {st : List ZV} {h : ZH} {b : ZB2} (hX : zCl E mX11_done 11 false CT Rt X) (q : bk_X11_done_134 E CT X Rt ls st h b) : X 134 ls st h b := by
  refine hX k_X11_done_134 134 ok_X11_done_134 _ ?_ ls st h b q
  exact by
    intro t ls st h b q
    by_cases c : t = 143
    · subst c; rw [if_pos rfl] at q; exact bs_X11_done_143 hX q
    rw [if_neg c] at q
    by_cases c : t = 144
    · subst c; rw [if_pos rfl] at q; exact bs_X11_done_144 hX q
    rw [if_neg c] at q
    exact q
def bk_X11_done_145 (E : ZE) (CT : Nat → ZC) (X : ZK) (Rt : ZR) (ls : ZL) (st : List ZV) (h : ZH) (b : ZB2) : Prop := zB E CT k_X11_done_145 145 ls st h b (fun t ls st h b => X t ls st h b) Rt
theorem bs_X11_done_145 {E : ZE} {CT : Nat → ZC} {X : ZK} {Rt : ZR} {ls : ZL} {st : List ZV} {h : ZH} {b : ZB2} (hX : zCl E mX11_done 11 false CT Rt X) (q : bk_X11_done_145 E CT X Rt ls st h b) : X 145 ls st h b := by
  refine hX k_X11_done_145 145 ok_X11_done_145 _ ?_ ls st h b q
  exact fun t ls st h b q => q
def bk_X11_done_149 (E : ZE) (CT : Nat → ZC) (X : ZK) (Rt : ZR) (ls : ZL) (st : List ZV) (h : ZH) (b : ZB2) : Prop := zB E CT k_X11_done_149 149 ls st h b (fun t ls st h b => X t ls st h b) Rt
theorem bs_X11_done_149 {E : ZE} {CT : Nat → ZC} {X : ZK} {Rt : ZR} {ls : ZL} {st : List ZV} {h : ZH} {b : ZB2} (hX : zCl E mX11_done 11 false CT Rt X) (q : bk_X11_done_149 E CT X Rt ls st h b) : X 149 ls st h b := by
  refine hX k_X11_done_149 149 ok_X11_done_149 _ ?_ ls st h b q
  exact fun t ls st h b q => q
def bk_X11_done_153 (E : ZE) (CT : Nat → ZC) (X : ZK) (Rt : ZR) (ls : ZL) (st : List ZV) (h : ZH) (b : ZB2) : Prop := zB E CT k_X11_done_153 153 ls st h b (fun t ls st h b => X t ls st h b) Rt
theorem bs_X11_done_153 {E : ZE} {CT : Nat → ZC} {X : ZK} {Rt : ZR} {ls : ZL} {st : List ZV} {h : ZH} {b : ZB2} (hX : zCl E mX11_done 11 false CT Rt X) (q : bk_X11_done_153 E CT X Rt ls st h b) : X 153 ls st h b := by
  refine hX k_X11_done_153 153 ok_X11_done_153 _ ?_ ls st h b q
  exact fun t ls st h b q => q
def bk_X11_done_168 (E : ZE) (CT : Nat → ZC) (X : ZK) (Rt : ZR) (ls : ZL) (st : List ZV) (h : ZH) (b : ZB2) : Prop := zB E CT k_X11_done_168 168 ls st h b (fun t ls st h b => X t ls st h b) Rt
theorem bs_X11_done_168 {E : ZE} {CT : Nat → ZC} {X : ZK} {Rt : ZR} {ls : ZL} {st : List ZV} {h : ZH} {b : ZB2} (hX : zCl E mX11_done 11 false CT Rt X) (q : bk_X11_done_168 E CT X Rt ls st h b) : X 168 ls st h b := by
  refine hX k_X11_done_168 168 ok_X11_done_168 _ ?_ ls st h b q
  exact fun t ls st h b q => q
def bk_X11_done_165 (E : ZE) (CT : Nat → ZC) (X : ZK) (Rt : ZR) (ls : ZL) (st : List ZV) (h : ZH) (b : ZB2) : Prop := zB E CT k_X11_done_165 165 ls st h b (fun t ls st h b => if t = 168 then bk_X11_done_168 E CT X Rt ls st h b else X t ls st h b) Rt
theorem bs_X11_done_165 {E : ZE} {CT : Nat → ZC} {X : ZK} {Rt : ZR} {ls : ZL} {st : List ZV} {h : ZH} {b : ZB2} (hX : zCl E mX11_done 11 false CT Rt X) (q : bk_X11_done_165 E CT X Rt ls st h b) : X 165 ls st h b := by
  refine hX k_X11_done_165 165 ok_X11_done_165 _ ?_ ls st h b q
  exact by
    intro t ls st h b q
    by_cases c : t = 168
    · subst c; rw [if_pos rfl] at q; exact bs_X11_done_168 hX q
    rw [if_neg c] at q
    exact q
def bk_X11_done_157 (E : ZE) (CT : Nat → ZC) (X : ZK) (Rt : ZR) (ls : ZL) (st : List ZV) (h : ZH) (b : ZB2) : Prop := zB E CT k_X11_done_157 157 ls st h b (fun t ls st h b => if t = 165 then bk_X11_done_165 E CT X Rt ls st h b else if t = 168 then bk_X11_done_168 E CT X Rt ls st h b else X t ls st h b) Rt
theorem bs_X11_done_157 {E : ZE} {CT : Nat → ZC} {X : ZK} {Rt : ZR} {ls : ZL} {st : List ZV} {h : ZH} {b : ZB2} (hX : zCl E mX11_done 11 false CT Rt X) (q : bk_X11_done_157 E CT X Rt ls st h b) : X 157 ls st h b := by
  refine hX k_X11_done_157 157 ok_X11_done_157 _ ?_ ls st h b q
  exact by
    intro t ls st h b q
    by_cases c : t = 165
    · subst c; rw [if_pos rfl] at q; exact bs_X11_done_165 hX q
    rw [if_neg c] at q
    by_cases c : t = 168
    · subst c; rw [if_pos rfl] at q; exact bs_X11_done_168 hX q
    rw [if_neg c] at q
    exact q
def bk_X11_done_180 (E : ZE) (CT : Nat → ZC) (X : ZK) (Rt : ZR) (ls : ZL) (st : List ZV) (h : ZH) (b : ZB2) : Prop := zB E CT k_X11_done_180 180 ls st h b (fun t ls st h b => X t ls st h b) Rt
theorem bs_X11_done_180 {E : ZE} {CT : Nat → ZC} {X : ZK} {Rt : ZR} {ls : ZL} {st : List ZV} {h : ZH} {b : ZB2} (hX : zCl E mX11_done 11 false CT Rt X) (q : bk_X11_done_180 E CT X Rt ls st h b) : X 180 ls st h b := by
  refine hX k_X11_done_180 180 ok_X11_done_180 _ ?_ ls st h b q
  exact fun t ls st h b q => q
def bk_X11_done_177 (E : ZE) (CT : Nat → ZC) (X : ZK) (Rt : ZR) (ls : ZL) (st : List ZV) (h : ZH) (b : ZB2) : Prop := zB E CT k_X11_done_177 177 ls st h b (fun t ls st h b => if t = 180 then bk_X11_done_180 E CT X Rt ls st h b else X t ls st h b) Rt
theorem bs_X11_done_177 {E : ZE} {CT : Nat → ZC} {X : ZK} {Rt : ZR} {ls : ZL} {st : List ZV} {h : ZH} {b : ZB2} (hX : zCl E mX11_done 11 false CT Rt X) (q : bk_X11_done_177 E CT X Rt ls st h b) : X 177 ls st h b := by
  refine hX k_X11_done_177 177 ok_X11_done_177 _ ?_ ls st h b q
  exact by
    intro t ls st h b q
    by_cases c : t = 180
    · subst c; rw [if_pos rfl] at q; exact bs_X11_done_180 hX q
    rw [if_neg c] at q
    exact q
def bk_X11_done_169 (E : ZE) (CT : Nat → ZC) (X : ZK) (Rt : ZR) (ls : ZL) (st : List ZV) (h : ZH) (b : ZB2) : Prop := zB E CT k_X11_done_169 169 ls st h b (fun t ls st h b => if t = 177 then bk_X11_done_177 E CT X Rt ls st h b else if t = 180 then bk_X11_done_180 E CT X Rt ls st h b else X t ls st h b) Rt
theorem bs_X11_done_169 {E : ZE} {CT : Nat → ZC} {X : ZK} {Rt : ZR} {ls : ZL} {st : List ZV} {h : ZH} {b : ZB2} (hX : zCl E mX11_done 11 false CT Rt X) (q : bk_X11_done_169 E CT X Rt ls st h b) : X 169 ls st h b := by
  refine hX k_X11_done_169 169 ok_X11_done_169 _ ?_ ls st h b q
  exact by
    intro t ls st h b q
    by_cases c : t = 177
    · subst c; rw [if_pos rfl] at q; exact bs_X11_done_177 hX q
    rw [if_neg c] at q
    by_cases c : t = 180
    · subst c; rw [if_pos rfl] at q; exact bs_X11_done_180 hX q
    rw [if_neg c] at q
    exact q
def bk_X11_done_0 (E : ZE) (CT : Nat → ZC) (X : ZK) (Rt : ZR) (ls : ZL) (st : List ZV) (h : ZH) (b : ZB2) : Prop := zB E CT k_X11_done_0 0 ls st h b (fun t ls st h b => if t = 84 then bk_X11_done_84 E CT X Rt ls st h b else if t = 98 then bk_X11_done_98 E CT X Rt ls st h b else if t = 112 then bk_X11_done_112 E CT X Rt ls st h b else if t = 123 then bk_X11_done_123 E CT X Rt ls st h b else if t = 134 then bk_X11_done_134 E CT X Rt ls st h b else if t = 145 then bk_X11_done_145 E CT X Rt ls st h b else if t = 149 then bk_X11_done_149 E CT X Rt ls st h b else if t = 153 then bk_X11_done_153 E CT X Rt ls st h b else if t = 157 then bk_X11_done_157 E CT X Rt ls st h b else if t = 169 then bk_X11_done_169 E CT X Rt ls st h b else X t ls st h b) Rt
theorem bs_X11_done_0 {E : ZE} {CT : Nat → ZC} {X : ZK} {Rt : ZR} {ls : ZL} {st : List ZV} {h : ZH} {b : ZB2} (hX : zCl E mX11_done 11 false CT Rt X) (q : bk_X11_done_0 E CT X Rt ls st h b) : X 0 ls st h b := by
  refine hX k_X11_done_0 0 ok_X11_done_0 _ ?_ ls st h b q
  exact by
    intro t ls st h b q
    by_cases c : t = 84
    · subst c; rw [if_pos rfl] at q; exact bs_X11_done_84 hX q
    rw [if_neg c] at q
    by_cases c : t = 98
    · subst c; rw [if_pos rfl] at q; exact bs_X11_done_98 hX q
    rw [if_neg c] at q
    by_cases c : t = 112
    · subst c; rw [if_pos rfl] at q; exact bs_X11_done_112 hX q
    rw [if_neg c] at q
    by_cases c : t = 123
    · subst c; rw [if_pos rfl] at q; exact bs_X11_done_123 hX q
    rw [if_neg c] at q
    by_cases c : t = 134
    · subst c; rw [if_pos rfl] at q; exact bs_X11_done_134 hX q
    rw [if_neg c] at q
    by_cases c : t = 145
    · subst c; rw [if_pos rfl] at q; exact bs_X11_done_145 hX q
    rw [if_neg c] at q
    by_cases c : t = 149
    · subst c; rw [if_pos rfl] at q; exact bs_X11_done_149 hX q
    rw [if_neg c] at q
    by_cases c : t = 153
    · subst c; rw [if_pos rfl] at q; exact bs_X11_done_153 hX q
    rw [if_neg c] at q
    by_cases c : t = 157
    · subst c; rw [if_pos rfl] at q; exact bs_X11_done_157 hX q
    rw [if_neg c] at q
    by_cases c : t = 169
    · subst c; rw [if_pos rfl] at q; exact bs_X11_done_169 hX q
    rw [if_neg c] at q
    exact q
-- X11_done: cuts []
def B_done (s : Int) (v : Int) (w : Int) (post : Option ZV → Prop) : Prop := rg s ∧ post (some (.inl (dn s v w)))
def C_done : ZC := fun as h post => match as with
  | [.inl s, .inl v, .inl w] => B_done s v w (fun v => post v h)
  | _ => False
theorem r_done {s : Int} {v : Int} {w : Int} {h : ZH} {post : Option ZV → ZH → Prop} : C_done [.inl s, .inl v, .inl w] h post = B_done s v w (fun v => post v h) := rfl
def ct_done : Nat → ZC := fun n => fun _ _ _ => False
theorem c_done {E : ZE} {d : Nat} (hd : 1 ≤ d) : zMet E d mX11_done C_done := by
  refine zmet_of (o := 11) (ini := false) (CT := ct_done) gd_X11_done rfl (fun h => by cases h) (by omega) ?_ ?_
  · intro n as h post hh
    unfold ct_done at hh
    exact hh.elim
  intro as h post hC
  match as, hC with
  | [.inl s, .inl v, .inl w], hC =>
    refine ⟨Nat.le_of_ble_eq_true rfl, fun X hX => bs_X11_done_0 hX ?_⟩
    have hC : B_done s v w (fun v => post v h) := hC
    simp only [B_done] at hC
    show bk_X11_done_0 E ct_done X _ [some (.inl s), some (.inl v), some (.inl w)] [] h (0, 0)
    obtain ⟨h1, hC⟩ := hC
    simp only [bk_X11_done_0, k_X11_done_0, bk_X11_done_84, k_X11_done_84, bk_X11_done_92, k_X11_done_92, bk_X11_done_96, k_X11_done_96, bk_X11_done_97, k_X11_done_97, bk_X11_done_98, k_X11_done_98, bk_X11_done_110, k_X11_done_110, bk_X11_done_111, k_X11_done_111, bk_X11_done_112, k_X11_done_112, bk_X11_done_121, k_X11_done_121, bk_X11_done_122, k_X11_done_122, bk_X11_done_123, k_X11_done_123, bk_X11_done_132, k_X11_done_132, bk_X11_done_133, k_X11_done_133, bk_X11_done_134, k_X11_done_134, bk_X11_done_143, k_X11_done_143, bk_X11_done_144, k_X11_done_144, bk_X11_done_145, k_X11_done_145, bk_X11_done_149, k_X11_done_149, bk_X11_done_153, k_X11_done_153, bk_X11_done_157, k_X11_done_157, bk_X11_done_165, k_X11_done_165, bk_X11_done_168, k_X11_done_168, bk_X11_done_169, k_X11_done_169, bk_X11_done_177, k_X11_done_177, bk_X11_done_180, k_X11_done_180, ↓e_rk1, ↓e_rk0, ↓e_sk0, ↓e_sks, ↓e_ldi0, ↓e_ldis, ↓e_ldl0, ↓e_ldls, ↓e_lda0, ↓e_ldas, ↓e_ok0, ↓e_okss, ↓e_ok1i, ↓e_ok1r, ↓e_ok1n, ↓e_sti, ↓e_sta, ↓e_1, ↓e_2, ↓e_l1, ↓e_l2, ↓e_li, ↓e_sw0, ↓e_sws, ↓e_ceq, ↓e_cne, ↓e_clt, ↓e_cge, ↓e_cgt, ↓e_cle, ↓e_nil, ↓e_cons, ↓e_iconst, ↓e_bipush, ↓e_sipush, ↓e_ldc, ↓e_ldcw, ↓e_ldc2, ↓e_lconst, ↓e_iloadn, ↓e_iload, ↓e_lloadn, ↓e_lload, ↓e_aloadn, ↓e_aload, ↓e_istoren, ↓e_istore, ↓e_astoren, ↓e_astore, ↓e_add, ↓e_iinc, ↓e_iadd, ↓e_isub, ↓e_imul, ↓e_iand, ↓e_ior, ↓e_ixor, ↓e_ishl, ↓e_iushr, ↓e_idiv, ↓e_irem, ↓e_ineg, ↓e_i2l, ↓e_i2b, ↓e_i2s, ↓e_l2i, ↓e_land, ↓e_lor, ↓e_lshl, ↓e_lshr, ↓e_lushr, ↓e_lcmp, ↓e_dupi, ↓e_dupr, ↓e_popi, ↓e_dup2, ↓e_goto, ↓e_if, ↓e_icmp, ↓e_tsw, ↓e_lsw, ↓e_getf, ↓e_putf, ↓e_gets, ↓e_iald, ↓e_cald, ↓e_iast, ↓e_aald, ↓e_aast, ↓e_len, ↓e_copy, ↓e_abs, ↓e_max, ↓e_min, ↓e_iret, ↓e_aret, ↓e_vret, ↓e_is0, ↓e_is1, ↓e_is2, ↓e_is3, ↓e_is4, ↓e_iv1, ↓e_iv2, ↓e_iv3, ↓e_iv4, ↓e_iv5, ↓e_iv6, ↓rt_X11_done, ↓reduceIte, Nat.reduceAdd, Nat.reduceEqDiff, ↓zcl0, ↓zclv, List.map_nil, List.sum_nil, List.map_cons, List.sum_cons, zcat, true_and, and_true, Nat.reduceLeDiff, Nat.reduceAdd, eq_self, forall_const, e_ok0, e_okss, e_ok1i, e_ok1r, e_ok1n, zl_0, zl_1, Int.reduceToNat, Int.reduceAdd, Int.reduceMul, Int.reduceSub, Int.reduceNeg, Int.reduceLT, Int.reduceLE, Int.reduceEq, not_false_eq_true, not_true_eq_false, false_implies, true_implies, implies_true, Int.reduceDiv, Int.reduceMod, zr8_zr, zr_zbo, z01_zbo, z01_0, z01_1, zbo_eq0, zup_eq, zup_o, zup_k, ne_eq, zr_rg, h1]
    repeat' (first | apply And.intro | intro _)
    all_goals first | contradiction | exact zpost hC (by simp_all [dn, zbo])
/-- a pile in a row of numbers -/
def Pk (st : List Int) (p : Nat → Int) : Prop := ∀ (i : Nat) (v : Int), st.reverse[i]? = some v → p i = v
theorem Pk_push {st : List Int} {p p' : Nat → Int} {v : Int} (h : Pk st p) (h1 : p' st.length = v) (h2 : ∀ i, i < st.length → p' i = p i) : Pk (v :: st) p' := by
  intro i w hi
  rw [List.reverse_cons] at hi
  by_cases q : i < st.length
  · rw [List.getElem?_append_left (by simpa using q)] at hi
    rw [h2 i q]; exact h i w hi
  · rw [List.getElem?_append_right (by simpa using q)] at hi
    have e : i - st.reverse.length = 0 := by
      have := (List.getElem?_eq_some_iff.mp hi).1
      simp at this
      simp; omega
    rw [e] at hi
    simp at hi e
    have : i = st.length := by omega
    rw [this, h1, hi]
theorem Pk_pop {st : List Int} {p : Nat → Int} {v : Int} (h : Pk (v :: st) p) : Pk st p := by
  intro i w hi
  refine h i w ?_
  rw [List.reverse_cons, List.getElem?_append_left (List.getElem?_eq_some_iff.mp hi).1]
  exact hi
theorem Pk_top {st : List Int} {p : Nat → Int} {v : Int} (h : Pk (v :: st) p) : p st.length = v := by
  refine h st.length v ?_
  rw [List.reverse_cons, List.getElem?_append_right (by simp)]
  simp
theorem Pk_bot {st : List Int} {p : Nat → Int} (h : Pk st p) (hl : 1 ≤ st.length) (x : Int) : p 0 = st.getLastD x := by
  match st, hl with
  | v :: r, _ =>
    refine h 0 _ ?_
    rw [← List.head?_eq_getElem?, List.head?_reverse, List.getLast?_cons, List.getLastD_cons]
    simp [List.getLastD_eq_getLast?, List.getLast?_eq_some_getLast]
theorem rpn_len {f : Nat → Int} {x y z : Int} {n : Int} {dep : Nat → Nat} (h0 : dep 0 = 0) (h : ∀ k : Nat, (k : Int) < n → (0 ≤ f k ∧ f k < 10003 ∧ dep (k + 1) = dep k + 1) ∨ (f k = 20033 ∧ 1 ≤ dep k ∧ dep (k + 1) = dep k) ∨ (20000 < f k ∧ f k < 20200 ∧ ¬ f k = 20033 ∧ 2 ≤ dep k ∧ dep (k + 1) = dep k - 1)) : ∀ k : Nat, (k : Int) ≤ n → (rpn f x y z k).length = dep k ∧ dep k ≤ k ∧ (1 ≤ k → 1 ≤ dep k)
  | 0, _ => ⟨h0.symm, by omega, by omega⟩
  | k + 1, hk => by
    obtain ⟨i1, i2, i3⟩ := rpn_len (x := x) (y := y) (z := z) h0 h k (by omega)
    unfold rpn stp
    rcases h k (by omega) with ⟨q1, q2, q3⟩ | ⟨q1, q2, q3⟩ | ⟨q1, q2, q3, q4, q5⟩
    · rw [if_pos (by omega)]
      simp [i1]; omega
    · rw [if_neg (by omega), if_pos q1]
      generalize rpn f x y z k = s at i1
      match s, i1 with
      | v :: r, i1 => simp at i1 ⊢; omega
      | [], i1 => simp at i1; omega
    · rw [if_neg (by omega), if_neg q3]
      generalize rpn f x y z k = s at i1
      match s, i1 with
      | v :: w :: r, i1 => simp at i1 ⊢; omega
      | [v], i1 => simp at i1; omega
      | [], i1 => simp at i1; omega
def k_X11_worked_0 : List ZI := [(.iconst 0, 1, (0, [], [])), (.istore_n 3, 1, (0, [3], [])), (.iload_n 1, 1, (0, [1], [])), (.istore 4, 2, (0, [4], []))]
theorem ok_X11_worked_0 : zOK cX11_worked 11 false 6 k_X11_worked_0 0 = true := zOK_by (by decide +kernel)
def k_X11_worked_5 : List ZI := [(.iload 4, 2, (0, [4], [])), (.iload_n 1, 1, (0, [1], [])), (.iload_n 2, 1, (0, [2], [])), (.iadd, 1, (0, [], [])), (.if_icmp .ge 131, 3, (0, [141], [])), (.aload_n 0, 1, (0, [0], [])), (.getfield 7, 3, (0, [11, 0], [])), (.iload 4, 2, (0, [4], [])), (.iaload, 1, (0, [], [])), (.istore 5, 2, (0, [5], [])), (.iload 5, 2, (0, [5], [])), (.sipush 20000, 3, (0, [], [])), (.if_icmp .ge 39, 3, (0, [66], [])), (.aload_n 0, 1, (0, [0], [])), (.getfield 28, 3, (0, [11, 14], [])), (.iload_n 3, 1, (0, [3], [])), (.iload 5, 2, (0, [5], [])), (.sipush 10000, 3, (0, [], [])), (.if_icmp .ge 8, 3, (0, [48], [])), (.iload 5, 2, (0, [5], [])), (.goto 14, 3, (0, [59], []))]
theorem ok_X11_worked_5 : zOK cX11_worked 11 false 6 k_X11_worked_5 5 = true := zOK_by (by decide +kernel)
def k_X11_worked_48 : List ZI := [(.aload_n 0, 1, (0, [0], [])), (.getfield 22, 3, (0, [11, 11], [])), (.iload 5, 2, (0, [5], [])), (.sipush 10000, 3, (0, [], [])), (.isub, 1, (0, [], [])), (.iaload, 1, (0, [], []))]
theorem ok_X11_worked_48 : zOK cX11_worked 11 false 6 k_X11_worked_48 48 = true := zOK_by (by decide +kernel)
def k_X11_worked_59 : List ZI := [(.iastore, 1, (0, [], [])), (.iinc 3 1, 3, (0, [3], [])), (.goto 72, 3, (0, [135], []))]
theorem ok_X11_worked_59 : zOK cX11_worked 11 false 6 k_X11_worked_59 59 = true := zOK_by (by decide +kernel)
def k_X11_worked_66 : List ZI := [(.iload 5, 2, (0, [5], [])), (.sipush 20033, 3, (0, [], [])), (.if_icmp .ne 30, 3, (0, [101], [])), (.aload_n 0, 1, (0, [0], [])), (.getfield 28, 3, (0, [11, 14], [])), (.iload_n 3, 1, (0, [3], [])), (.iconst 1, 1, (0, [], [])), (.isub, 1, (0, [], [])), (.aload_n 0, 1, (0, [0], [])), (.getfield 28, 3, (0, [11, 14], [])), (.iload_n 3, 1, (0, [3], [])), (.iconst 1, 1, (0, [], [])), (.isub, 1, (0, [], [])), (.iaload, 1, (0, [], [])), (.ifCond .ne 7, 3, (0, [96], [])), (.iconst 1, 1, (0, [], [])), (.goto 4, 3, (0, [97], []))]
theorem ok_X11_worked_66 : zOK cX11_worked 11 false 6 k_X11_worked_66 66 = true := zOK_by (by decide +kernel)
def k_X11_worked_96 : List ZI := [(.iconst 0, 1, (0, [], []))]
theorem ok_X11_worked_96 : zOK cX11_worked 11 false 6 k_X11_worked_96 96 = true := zOK_by (by decide +kernel)
def k_X11_worked_97 : List ZI := [(.iastore, 1, (0, [], [])), (.goto 37, 3, (0, [135], []))]
theorem ok_X11_worked_97 : zOK cX11_worked 11 false 6 k_X11_worked_97 97 = true := zOK_by (by decide +kernel)
def k_X11_worked_101 : List ZI := [(.iinc 3 (-1), 3, (0, [3], [])), (.aload_n 0, 1, (0, [0], [])), (.getfield 28, 3, (0, [11, 14], [])), (.iload_n 3, 1, (0, [3], [])), (.iconst 1, 1, (0, [], [])), (.isub, 1, (0, [], [])), (.iload 5, 2, (0, [5], [])), (.sipush 20000, 3, (0, [], [])), (.isub, 1, (0, [], [])), (.aload_n 0, 1, (0, [0], [])), (.getfield 28, 3, (0, [11, 14], [])), (.iload_n 3, 1, (0, [3], [])), (.iconst 1, 1, (0, [], [])), (.isub, 1, (0, [], [])), (.iaload, 1, (0, [], [])), (.aload_n 0, 1, (0, [0], [])), (.getfield 28, 3, (0, [11, 14], [])), (.iload_n 3, 1, (0, [3], [])), (.iaload, 1, (0, [], [])), (.invokestatic 133, 3, (0, [145, 3, 0, 11], [])), (.iastore, 1, (0, [], []))]
theorem ok_X11_worked_101 : zOK cX11_worked 11 false 6 k_X11_worked_101 101 = true := zOK_by (by decide +kernel)
def k_X11_worked_135 : List ZI := [(.iinc 4 1, 3, (0, [4], [])), (.goto (-133), 3, (0, [5], []))]
theorem ok_X11_worked_135 : zOK cX11_worked 11 false 6 k_X11_worked_135 135 = true := zOK_by (by decide +kernel)
def k_X11_worked_141 : List ZI := [(.aload_n 0, 1, (0, [0], [])), (.getfield 28, 3, (0, [11, 14], [])), (.iconst 0, 1, (0, [], [])), (.iaload, 1, (0, [], [])), (.ireturn, 1, (0, [], []))]
theorem ok_X11_worked_141 : zOK cX11_worked 11 false 6 k_X11_worked_141 141 = true := zOK_by (by decide +kernel)
theorem rt_X11_worked {g : Nat} {post : Option ZV → ZH → Prop} {h : ZH} {b : ZB2} {z : Int} : zRt mX11_worked g post (some (.inl z)) h b = (post (some (.inl z)) h ∧ h.1.length = g) := by show (_ ∧ _ ∧ True) = _; simp
def bk_X11_worked_0 (E : ZE) (CT : Nat → ZC) (X : ZK) (Rt : ZR) (ls : ZL) (st : List ZV) (h : ZH) (b : ZB2) : Prop := zB E CT k_X11_worked_0 0 ls st h b (fun t ls st h b => X t ls st h b) Rt
theorem bs_X11_worked_0 {E : ZE} {CT : Nat → ZC} {X : ZK} {Rt : ZR} {ls : ZL} {st : List ZV} {h : ZH} {b : ZB2} (hX : zCl E mX11_worked 11 false CT Rt X) (q : bk_X11_worked_0 E CT X Rt ls st h b) : X 0 ls st h b := by
  refine hX k_X11_worked_0 0 ok_X11_worked_0 _ ?_ ls st h b q
  exact fun t ls st h b q => q
def bk_X11_worked_135 (E : ZE) (CT : Nat → ZC) (X : ZK) (Rt : ZR) (ls : ZL) (st : List ZV) (h : ZH) (b : ZB2) : Prop := zB E CT k_X11_worked_135 135 ls st h b (fun t ls st h b => X t ls st h b) Rt
theorem bs_X11_worked_135 {E : ZE} {CT : Nat → ZC} {X : ZK} {Rt : ZR} {ls : ZL} {st : List ZV} {h : ZH} {b : ZB2} (hX : zCl E mX11_worked 11 false CT Rt X) (q : bk_X11_worked_135 E CT X Rt ls st h b) : X 135 ls st h b := by
  refine hX k_X11_worked_135 135 ok_X11_worked_135 _ ?_ ls st h b q
  exact fun t ls st h b q => q
def bk_X11_worked_59 (E : ZE) (CT : Nat → ZC) (X : ZK) (Rt : ZR) (ls : ZL) (st : List ZV) (h : ZH) (b : ZB2) : Prop := zB E CT k_X11_worked_59 59 ls st h b (fun t ls st h b => if t = 135 then bk_X11_worked_135 E CT X Rt ls st h b else X t ls st h b) Rt
theorem bs_X11_worked_59 {E : ZE} {CT : Nat → ZC} {X : ZK} {Rt : ZR} {ls : ZL} {st : List ZV} {h : ZH} {b : ZB2} (hX : zCl E mX11_worked 11 false CT Rt X) (q : bk_X11_worked_59 E CT X Rt ls st h b) : X 59 ls st h b := by
  refine hX k_X11_worked_59 59 ok_X11_worked_59 _ ?_ ls st h b q
  exact by
    intro t ls st h b q
    by_cases c : t = 135
    · subst c; rw [if_pos rfl] at q; exact bs_X11_worked_135 hX q
    rw [if_neg c] at q
    exact q
def bk_X11_worked_48 (E : ZE) (CT : Nat → ZC) (X : ZK) (Rt : ZR) (ls : ZL) (st : List ZV) (h : ZH) (b : ZB2) : Prop := zB E CT k_X11_worked_48 48 ls st h b (fun t ls st h b => if t = 59 then bk_X11_worked_59 E CT X Rt ls st h b else X t ls st h b) Rt
theorem bs_X11_worked_48 {E : ZE} {CT : Nat → ZC} {X : ZK} {Rt : ZR} {ls : ZL} {st : List ZV} {h : ZH} {b : ZB2} (hX : zCl E mX11_worked 11 false CT Rt X) (q : bk_X11_worked_48 E CT X Rt ls st h b) : X 48 ls st h b := by
  refine hX k_X11_worked_48 48 ok_X11_worked_48 _ ?_ ls st h b q
  exact by
    intro t ls st h b q
    by_cases c : t = 59
    · subst c; rw [if_pos rfl] at q; exact bs_X11_worked_59 hX q
    rw [if_neg c] at q
    exact q
def bk_X11_worked_97 (E : ZE) (CT : Nat → ZC) (X : ZK) (Rt : ZR) (ls : ZL) (st : List ZV) (h : ZH) (b : ZB2) : Prop := zB E CT k_X11_worked_97 97 ls st h b (fun t ls st h b => if t = 135 then bk_X11_worked_135 E CT X Rt ls st h b else X t ls st h b) Rt
theorem bs_X11_worked_97 {E : ZE} {CT : Nat → ZC} {X : ZK} {Rt : ZR} {ls : ZL} {st : List ZV} {h : ZH} {b : ZB2} (hX : zCl E mX11_worked 11 false CT Rt X) (q : bk_X11_worked_97 E CT X Rt ls st h b) : X 97 ls st h b := by
  refine hX k_X11_worked_97 97 ok_X11_worked_97 _ ?_ ls st h b q
  exact by
    intro t ls st h b q
    by_cases c : t = 135
    · subst c; rw [if_pos rfl] at q; exact bs_X11_worked_135 hX q
    rw [if_neg c] at q
    exact q
def bk_X11_worked_96 (E : ZE) (CT : Nat → ZC) (X : ZK) (Rt : ZR) (ls : ZL) (st : List ZV) (h : ZH) (b : ZB2) : Prop := zB E CT k_X11_worked_96 96 ls st h b (fun t ls st h b => if t = 97 then bk_X11_worked_97 E CT X Rt ls st h b else X t ls st h b) Rt
theorem bs_X11_worked_96 {E : ZE} {CT : Nat → ZC} {X : ZK} {Rt : ZR} {ls : ZL} {st : List ZV} {h : ZH} {b : ZB2} (hX : zCl E mX11_worked 11 false CT Rt X) (q : bk_X11_worked_96 E CT X Rt ls st h b) : X 96 ls st h b := by
  refine hX k_X11_worked_96 96 ok_X11_worked_96 _ ?_ ls st h b q
  exact by
    intro t ls st h b q
    by_cases c : t = 97
    · subst c; rw [if_pos rfl] at q; exact bs_X11_worked_97 hX q
    rw [if_neg c] at q
    exact q
def bk_X11_worked_101 (E : ZE) (CT : Nat → ZC) (X : ZK) (Rt : ZR) (ls : ZL) (st : List ZV) (h : ZH) (b : ZB2) : Prop := zB E CT k_X11_worked_101 101 ls st h b (fun t ls st h b => if t = 135 then bk_X11_worked_135 E CT X Rt ls st h b else X t ls st h b) Rt
theorem bs_X11_worked_101 {E : ZE} {CT : Nat → ZC} {X : ZK} {Rt : ZR} {ls : ZL} {st : List ZV} {h : ZH} {b : ZB2} (hX : zCl E mX11_worked 11 false CT Rt X) (q : bk_X11_worked_101 E CT X Rt ls st h b) : X 101 ls st h b := by
  refine hX k_X11_worked_101 101 ok_X11_worked_101 _ ?_ ls st h b q
  exact by
    intro t ls st h b q
    by_cases c : t = 135
    · subst c; rw [if_pos rfl] at q; exact bs_X11_worked_135 hX q
    rw [if_neg c] at q
    exact q
def bk_X11_worked_66 (E : ZE) (CT : Nat → ZC) (X : ZK) (Rt : ZR) (ls : ZL) (st : List ZV) (h : ZH) (b : ZB2) : Prop := zB E CT k_X11_worked_66 66 ls st h b (fun t ls st h b => if t = 96 then bk_X11_worked_96 E CT X Rt ls st h b else if t = 97 then bk_X11_worked_97 E CT X Rt ls st h b else if t = 101 then bk_X11_worked_101 E CT X Rt ls st h b else X t ls st h b) Rt
theorem bs_X11_worked_66 {E : ZE} {CT : Nat → ZC} {X : ZK} {Rt : ZR} {ls : ZL} {st : List ZV} {h : ZH} {b : ZB2} (hX : zCl E mX11_worked 11 false CT Rt X) (q : bk_X11_worked_66 E CT X Rt ls st h b) : X 66 ls st h b := by
  refine hX k_X11_worked_66 66 ok_X11_worked_66 _ ?_ ls st h b q
  exact by
    intro t ls st h b q
    by_cases c : t = 96
    · subst c; rw [if_pos rfl] at q; exact bs_X11_worked_96 hX q
    rw [if_neg c] at q
    by_cases c : t = 97
    · subst c; rw [if_pos rfl] at q; exact bs_X11_worked_97 hX q
    rw [if_neg c] at q
    by_cases c : t = 101
    · subst c; rw [if_pos rfl] at q; exact bs_X11_worked_101 hX q
    rw [if_neg c] at q
    exact q
def bk_X11_worked_141 (E : ZE) (CT : Nat → ZC) (X : ZK) (Rt : ZR) (ls : ZL) (st : List ZV) (h : ZH) (b : ZB2) : Prop := zB E CT k_X11_worked_141 141 ls st h b (fun t ls st h b => X t ls st h b) Rt
theorem bs_X11_worked_141 {E : ZE} {CT : Nat → ZC} {X : ZK} {Rt : ZR} {ls : ZL} {st : List ZV} {h : ZH} {b : ZB2} (hX : zCl E mX11_worked 11 false CT Rt X) (q : bk_X11_worked_141 E CT X Rt ls st h b) : X 141 ls st h b := by
  refine hX k_X11_worked_141 141 ok_X11_worked_141 _ ?_ ls st h b q
  exact fun t ls st h b q => q
def bk_X11_worked_5 (E : ZE) (CT : Nat → ZC) (X : ZK) (Rt : ZR) (ls : ZL) (st : List ZV) (h : ZH) (b : ZB2) : Prop := zB E CT k_X11_worked_5 5 ls st h b (fun t ls st h b => if t = 48 then bk_X11_worked_48 E CT X Rt ls st h b else if t = 59 then bk_X11_worked_59 E CT X Rt ls st h b else if t = 66 then bk_X11_worked_66 E CT X Rt ls st h b else if t = 141 then bk_X11_worked_141 E CT X Rt ls st h b else X t ls st h b) Rt
theorem bs_X11_worked_5 {E : ZE} {CT : Nat → ZC} {X : ZK} {Rt : ZR} {ls : ZL} {st : List ZV} {h : ZH} {b : ZB2} (hX : zCl E mX11_worked 11 false CT Rt X) (q : bk_X11_worked_5 E CT X Rt ls st h b) : X 5 ls st h b := by
  refine hX k_X11_worked_5 5 ok_X11_worked_5 _ ?_ ls st h b q
  exact by
    intro t ls st h b q
    by_cases c : t = 48
    · subst c; rw [if_pos rfl] at q; exact bs_X11_worked_48 hX q
    rw [if_neg c] at q
    by_cases c : t = 59
    · subst c; rw [if_pos rfl] at q; exact bs_X11_worked_59 hX q
    rw [if_neg c] at q
    by_cases c : t = 66
    · subst c; rw [if_pos rfl] at q; exact bs_X11_worked_66 hX q
    rw [if_neg c] at q
    by_cases c : t = 141
    · subst c; rw [if_pos rfl] at q; exact bs_X11_worked_141 hX q
    rw [if_neg c] at q
    exact q
-- X11_worked: cuts [5]
def B_worked (f : Int) (n : Int) (M : Nat → Nat → Int) (post : Option ZV → (Nat → Nat → Int) → Prop) : Prop := 0 ≤ f ∧ f + n ≤ 358 ∧ 0 < n ∧ cok (fun k => M 88 (f.toNat + k)) n ∧ ∀ M' : ZMm, (∀ a, ¬ a = 94 → M' a = M a) → post (some (.inl ((rpn (fun k => M 88 (f.toNat + k)) (M 92 0) (M 92 1) (M 92 2) n.toNat).getLastD (M 92 0)))) M'
def C_worked : ZC := fun as h post => match as with
  | [.inr (.inr (.inl 87)), .inl f, .inl n] => h.1 = zG ∧ B_worked f n h.2 (fun v M => post v (zG, M))
  | _ => False
theorem r_worked {f : Int} {n : Int} {M : Nat → Nat → Int} {post : Option ZV → ZH → Prop} : C_worked [.inr (.inr (.inl 87)), .inl f, .inl n] (zG, M) post = B_worked f n M (fun v M => post v (zG, M)) := by show (zG = zG ∧ _) = _; simp
def ct_worked : Nat → ZC := fun n => if n = 145 then C_done else fun _ _ _ => False
theorem ct_worked_done {as : List ZV} {h : ZH} {post : Option ZV → ZH → Prop} : ct_worked 145 as h post = C_done as h post := rfl
theorem c_worked {E : ZE} {d : Nat} (hd : 2 ≤ d) : zMet E d mX11_worked C_worked := by
  refine zmet_of (o := 11) (ini := false) (CT := ct_worked) gd_X11_worked rfl (fun h => by cases h) (by omega) ?_ ?_
  · intro n as h post hh
    unfold ct_worked at hh
    by_cases c : n = 145
    · subst c; exact ⟨gd_X11_done, 1, by omega, c_done (by omega)⟩
    rw [if_neg c] at hh
    exact hh.elim
  intro as h post hC
  match as, hC with
  | [.inr (.inr (.inl 87)), .inl f, .inl n], hC =>
    refine ⟨Nat.le_of_ble_eq_true rfl, fun X hX => bs_X11_worked_0 hX ?_⟩
    obtain ⟨G, M⟩ := h
    obtain ⟨hG, hC⟩ := hC
    dsimp only at hG
    subst hG
    simp only [B_worked] at hC
    show bk_X11_worked_0 E ct_worked X _ [some (.inr (.inr (.inl 87))), some (.inl f), some (.inl n), none, none, none] [] (zG, M) (0, 0)
    obtain ⟨h1, h2, h3, h4, hC⟩ := hC
    simp only [bk_X11_worked_0, k_X11_worked_0, bk_X11_worked_5, k_X11_worked_5, bk_X11_worked_48, k_X11_worked_48, bk_X11_worked_59, k_X11_worked_59, bk_X11_worked_66, k_X11_worked_66, bk_X11_worked_96, k_X11_worked_96, bk_X11_worked_97, k_X11_worked_97, bk_X11_worked_101, k_X11_worked_101, bk_X11_worked_135, k_X11_worked_135, bk_X11_worked_141, k_X11_worked_141, ↓e_rk1, ↓e_rk0, ↓e_sk0, ↓e_sks, ↓e_ldi0, ↓e_ldis, ↓e_ldl0, ↓e_ldls, ↓e_lda0, ↓e_ldas, ↓e_ok0, ↓e_okss, ↓e_ok1i, ↓e_ok1r, ↓e_ok1n, ↓e_sti, ↓e_sta, ↓e_1, ↓e_2, ↓e_l1, ↓e_l2, ↓e_li, ↓e_sw0, ↓e_sws, ↓e_ceq, ↓e_cne, ↓e_clt, ↓e_cge, ↓e_cgt, ↓e_cle, ↓e_nil, ↓e_cons, ↓e_iconst, ↓e_bipush, ↓e_sipush, ↓e_ldc, ↓e_ldcw, ↓e_ldc2, ↓e_lconst, ↓e_iloadn, ↓e_iload, ↓e_lloadn, ↓e_lload, ↓e_aloadn, ↓e_aload, ↓e_istoren, ↓e_istore, ↓e_astoren, ↓e_astore, ↓e_add, ↓e_iinc, ↓e_iadd, ↓e_isub, ↓e_imul, ↓e_iand, ↓e_ior, ↓e_ixor, ↓e_ishl, ↓e_iushr, ↓e_idiv, ↓e_irem, ↓e_ineg, ↓e_i2l, ↓e_i2b, ↓e_i2s, ↓e_l2i, ↓e_land, ↓e_lor, ↓e_lshl, ↓e_lshr, ↓e_lushr, ↓e_lcmp, ↓e_dupi, ↓e_dupr, ↓e_popi, ↓e_dup2, ↓e_goto, ↓e_if, ↓e_icmp, ↓e_tsw, ↓e_lsw, ↓e_getf, ↓e_putf, ↓e_gets, ↓e_iald, ↓e_cald, ↓e_iast, ↓e_aald, ↓e_aast, ↓e_len, ↓e_copy, ↓e_abs, ↓e_max, ↓e_min, ↓e_iret, ↓e_aret, ↓e_vret, ↓e_is0, ↓e_is1, ↓e_is2, ↓e_is3, ↓e_is4, ↓e_iv1, ↓e_iv2, ↓e_iv3, ↓e_iv4, ↓e_iv5, ↓e_iv6, ↓rt_X11_worked, ↓reduceIte, Nat.reduceAdd, Nat.reduceEqDiff, ↓zcl0, ↓zclv, List.map_nil, List.sum_nil, List.map_cons, List.sum_cons, zcat, true_and, and_true, Nat.reduceLeDiff, Nat.reduceAdd, eq_self, forall_const, e_ok0, e_okss, e_ok1i, e_ok1r, e_ok1n, zl_0, zl_1, zl_10000, zl_20000, zl_20033, Int.reduceToNat, Int.reduceAdd, Int.reduceMul, Int.reduceSub, Int.reduceNeg, Int.reduceLT, Int.reduceLE, Int.reduceEq, not_false_eq_true, not_true_eq_false, false_implies, true_implies, implies_true, Int.reduceDiv, Int.reduceMod, zr8_zr, zr_zbo, z01_zbo, z01_0, z01_1, zbo_eq0, zup_eq, zup_o, zup_k, ne_eq, ↓ct_worked_done, ↓r_done, ↓B_done, ↓v_87, ↓g_87_0, ↓l_88, ↓s_88, ↓n_88, ↓g_87_1, ↓l_89, ↓s_89, ↓n_89, ↓g_87_2, ↓l_90, ↓s_90, ↓n_90, ↓g_87_3, ↓p_87_3, ↓g_87_4, ↓l_91, ↓s_91, ↓n_91, ↓g_87_5, ↓p_87_5, ↓g_87_6, ↓p_87_6, ↓g_87_7, ↓p_87_7, ↓g_87_8, ↓p_87_8, ↓g_87_9, ↓p_87_9, ↓g_87_10, ↓p_87_10, ↓g_87_11, ↓l_92, ↓s_92, ↓n_92, ↓g_87_12, ↓l_93, ↓s_93, ↓n_93, ↓g_87_13, ↓p_87_13, ↓g_87_14, ↓l_94, ↓s_94, ↓n_94, ↓g_87_15, ↓p_87_15, ↓g_87_16, ↓l_95, ↓s_95, ↓n_95, ↓g_87_17, ↓l_96, ↓s_96, ↓n_96, ↓g_87_18, ↓l_97, ↓s_97, ↓n_97, ↓g_87_19, ↓p_87_19, ↓g_87_20, ↓p_87_20, ↓g_87_21, ↓l_98, ↓s_98, ↓n_98, ↓g_87_22, ↓l_99, ↓s_99, ↓n_99, ↓g_87_23, ↓l_100, ↓s_100, ↓n_100, ↓g_87_24, ↓l_101, ↓s_101, ↓n_101]
    obtain ⟨c1, c2, dep, c3, c4⟩ := h4
    generalize hF : (fun k => M 88 (f.toNat + k)) = F at *
    have hlen := rpn_len (x := M 92 0) (y := M 92 1) (z := M 92 2) c3 c4
    have loop : ∀ (j k : Nat) (M' : ZMm) (x5 : Option ZV), j + k = n.toNat → (∀ a, ¬ a = 94 → M' a = M a) → Pk (rpn F (M 92 0) (M 92 1) (M 92 2) k) (M' 94) → X 5 [some (.inr (.inr (.inl 87))), some (.inl f), some (.inl n), some (.inl ((rpn F (M 92 0) (M 92 1) (M 92 2) k).length : Int)), some (.inl (f + k)), x5] [] (zG, M') (0, 0) := by
      intro j
      induction j with
      | zero =>
        intro k M' x5 hk hM hP
        refine bs_X11_worked_5 hX ?_
        have z1 : zr (f + k) = f + k := zr_of (by omega) (by omega)
        have z2 : zr (f + n) = f + n := zr_of (by omega) (by omega)
        simp only [bk_X11_worked_0, k_X11_worked_0, bk_X11_worked_5, k_X11_worked_5, bk_X11_worked_48, k_X11_worked_48, bk_X11_worked_59, k_X11_worked_59, bk_X11_worked_66, k_X11_worked_66, bk_X11_worked_96, k_X11_worked_96, bk_X11_worked_97, k_X11_worked_97, bk_X11_worked_101, k_X11_worked_101, bk_X11_worked_135, k_X11_worked_135, bk_X11_worked_141, k_X11_worked_141, ↓e_rk1, ↓e_rk0, ↓e_sk0, ↓e_sks, ↓e_ldi0, ↓e_ldis, ↓e_ldl0, ↓e_ldls, ↓e_lda0, ↓e_ldas, ↓e_ok0, ↓e_okss, ↓e_ok1i, ↓e_ok1r, ↓e_ok1n, ↓e_sti, ↓e_sta, ↓e_1, ↓e_2, ↓e_l1, ↓e_l2, ↓e_li, ↓e_sw0, ↓e_sws, ↓e_ceq, ↓e_cne, ↓e_clt, ↓e_cge, ↓e_cgt, ↓e_cle, ↓e_nil, ↓e_cons, ↓e_iconst, ↓e_bipush, ↓e_sipush, ↓e_ldc, ↓e_ldcw, ↓e_ldc2, ↓e_lconst, ↓e_iloadn, ↓e_iload, ↓e_lloadn, ↓e_lload, ↓e_aloadn, ↓e_aload, ↓e_istoren, ↓e_istore, ↓e_astoren, ↓e_astore, ↓e_add, ↓e_iinc, ↓e_iadd, ↓e_isub, ↓e_imul, ↓e_iand, ↓e_ior, ↓e_ixor, ↓e_ishl, ↓e_iushr, ↓e_idiv, ↓e_irem, ↓e_ineg, ↓e_i2l, ↓e_i2b, ↓e_i2s, ↓e_l2i, ↓e_land, ↓e_lor, ↓e_lshl, ↓e_lshr, ↓e_lushr, ↓e_lcmp, ↓e_dupi, ↓e_dupr, ↓e_popi, ↓e_dup2, ↓e_goto, ↓e_if, ↓e_icmp, ↓e_tsw, ↓e_lsw, ↓e_getf, ↓e_putf, ↓e_gets, ↓e_iald, ↓e_cald, ↓e_iast, ↓e_aald, ↓e_aast, ↓e_len, ↓e_copy, ↓e_abs, ↓e_max, ↓e_min, ↓e_iret, ↓e_aret, ↓e_vret, ↓e_is0, ↓e_is1, ↓e_is2, ↓e_is3, ↓e_is4, ↓e_iv1, ↓e_iv2, ↓e_iv3, ↓e_iv4, ↓e_iv5, ↓e_iv6, ↓rt_X11_worked, ↓reduceIte, Nat.reduceAdd, Nat.reduceEqDiff, ↓zcl0, ↓zclv, List.map_nil, List.sum_nil, List.map_cons, List.sum_cons, zcat, true_and, and_true, Nat.reduceLeDiff, Nat.reduceAdd, eq_self, forall_const, e_ok0, e_okss, e_ok1i, e_ok1r, e_ok1n, zl_0, zl_1, zl_10000, zl_20000, zl_20033, Int.reduceToNat, Int.reduceAdd, Int.reduceMul, Int.reduceSub, Int.reduceNeg, Int.reduceLT, Int.reduceLE, Int.reduceEq, not_false_eq_true, not_true_eq_false, false_implies, true_implies, implies_true, Int.reduceDiv, Int.reduceMod, zr8_zr, zr_zbo, z01_zbo, z01_0, z01_1, zbo_eq0, zup_eq, zup_o, zup_k, ne_eq, ↓ct_worked_done, ↓r_done, ↓B_done, ↓v_87, ↓g_87_0, ↓l_88, ↓s_88, ↓n_88, ↓g_87_1, ↓l_89, ↓s_89, ↓n_89, ↓g_87_2, ↓l_90, ↓s_90, ↓n_90, ↓g_87_3, ↓p_87_3, ↓g_87_4, ↓l_91, ↓s_91, ↓n_91, ↓g_87_5, ↓p_87_5, ↓g_87_6, ↓p_87_6, ↓g_87_7, ↓p_87_7, ↓g_87_8, ↓p_87_8, ↓g_87_9, ↓p_87_9, ↓g_87_10, ↓p_87_10, ↓g_87_11, ↓l_92, ↓s_92, ↓n_92, ↓g_87_12, ↓l_93, ↓s_93, ↓n_93, ↓g_87_13, ↓p_87_13, ↓g_87_14, ↓l_94, ↓s_94, ↓n_94, ↓g_87_15, ↓p_87_15, ↓g_87_16, ↓l_95, ↓s_95, ↓n_95, ↓g_87_17, ↓l_96, ↓s_96, ↓n_96, ↓g_87_18, ↓l_97, ↓s_97, ↓n_97, ↓g_87_19, ↓p_87_19, ↓g_87_20, ↓p_87_20, ↓g_87_21, ↓l_98, ↓s_98, ↓n_98, ↓g_87_22, ↓l_99, ↓s_99, ↓n_99, ↓g_87_23, ↓l_100, ↓s_100, ↓n_100, ↓g_87_24, ↓l_101, ↓s_101, ↓n_101, z1, z2]
        refine ⟨fun c => by omega, fun c => ?_⟩
        have e : k = n.toNat := by omega
        subst e
        have hl := hlen n.toNat (by omega)
        rw [Pk_bot hP (by omega) (M 92 0)]
        exact hC M' hM
      | succ j ih =>
        intro k M' x5 hk hM hP
        refine bs_X11_worked_5 hX ?_
        have z1 : zr (f + k) = f + k := zr_of (by omega) (by omega)
        have z2 : zr (f + n) = f + n := zr_of (by omega) (by omega)
        have hM88 : M' 88 (f + k).toNat = F k := by
          rw [hM 88 (by decide), ← hF]
          congr 1
          omega
        obtain ⟨l1, l2, l3⟩ := hlen k (by omega)
        have zL : zr ((rpn F (M 92 0) (M 92 1) (M 92 2) k).length : Int) = (rpn F (M 92 0) (M 92 1) (M 92 2) k).length := zr_of (by omega) (by omega)
        have hlt : (f + (k : Int) < f + n) = True := eq_true (by omega)
        have ek : f + ((k + 1 : Nat) : Int) = f + k + 1 := by omega
        rcases c4 k (by omega) with ⟨q1, q2, q3⟩ | ⟨q1, q2, q3⟩ | ⟨q1, q2, q3, q4, q5⟩
        · have zf : zr (F k) = F k := zr_of (by omega) (by omega)
          have zn : zr (F k - 10000) = F k - 10000 := zr_of (by omega) (by omega)
          have t1 : (F k < 20000) = True := eq_true (by omega)
          have er : rpn F (M 92 0) (M 92 1) (M 92 2) (k + 1) = opr (F k) (M 92 0) (M 92 1) (M 92 2) :: rpn F (M 92 0) (M 92 1) (M 92 2) k := by
            rw [rpn]; unfold stp
            rw [if_pos (by omega)]
          have go : ∀ v, v = opr (F k) (M 92 0) (M 92 1) (M 92 2) → X 5 [some (.inr (.inr (.inl 87))), some (.inl f), some (.inl n), some (.inl (((rpn F (M 92 0) (M 92 1) (M 92 2) k).length : Int) + 1)), some (.inl (f + k + 1)), some (.inl (F k))] [] (zG, zup M' 94 ((rpn F (M 92 0) (M 92 1) (M 92 2) k).length : Int).toNat v) (0, 0) := by
            intro v hv
            have := ih (k + 1) (zup M' 94 ((rpn F (M 92 0) (M 92 1) (M 92 2) k).length : Int).toNat v) (some (.inl (F k))) (by omega) (fun a ha => by rw [zup_ne _ ha]; exact hM a ha) (by
              rw [er]
              refine Pk_push hP (by simp [zup, hv]) (fun i hi => ?_)
              have : i ≠ ((rpn F (M 92 0) (M 92 1) (M 92 2) k).length : Int).toNat := by omega
              exact zup_k this)
            rw [er, ek] at this
            simpa using this
          simp only [bk_X11_worked_0, k_X11_worked_0, bk_X11_worked_5, k_X11_worked_5, bk_X11_worked_48, k_X11_worked_48, bk_X11_worked_59, k_X11_worked_59, bk_X11_worked_66, k_X11_worked_66, bk_X11_worked_96, k_X11_worked_96, bk_X11_worked_97, k_X11_worked_97, bk_X11_worked_101, k_X11_worked_101, bk_X11_worked_135, k_X11_worked_135, bk_X11_worked_141, k_X11_worked_141, ↓e_rk1, ↓e_rk0, ↓e_sk0, ↓e_sks, ↓e_ldi0, ↓e_ldis, ↓e_ldl0, ↓e_ldls, ↓e_lda0, ↓e_ldas, ↓e_ok0, ↓e_okss, ↓e_ok1i, ↓e_ok1r, ↓e_ok1n, ↓e_sti, ↓e_sta, ↓e_1, ↓e_2, ↓e_l1, ↓e_l2, ↓e_li, ↓e_sw0, ↓e_sws, ↓e_ceq, ↓e_cne, ↓e_clt, ↓e_cge, ↓e_cgt, ↓e_cle, ↓e_nil, ↓e_cons, ↓e_iconst, ↓e_bipush, ↓e_sipush, ↓e_ldc, ↓e_ldcw, ↓e_ldc2, ↓e_lconst, ↓e_iloadn, ↓e_iload, ↓e_lloadn, ↓e_lload, ↓e_aloadn, ↓e_aload, ↓e_istoren, ↓e_istore, ↓e_astoren, ↓e_astore, ↓e_add, ↓e_iinc, ↓e_iadd, ↓e_isub, ↓e_imul, ↓e_iand, ↓e_ior, ↓e_ixor, ↓e_ishl, ↓e_iushr, ↓e_idiv, ↓e_irem, ↓e_ineg, ↓e_i2l, ↓e_i2b, ↓e_i2s, ↓e_l2i, ↓e_land, ↓e_lor, ↓e_lshl, ↓e_lshr, ↓e_lushr, ↓e_lcmp, ↓e_dupi, ↓e_dupr, ↓e_popi, ↓e_dup2, ↓e_goto, ↓e_if, ↓e_icmp, ↓e_tsw, ↓e_lsw, ↓e_getf, ↓e_putf, ↓e_gets, ↓e_iald, ↓e_cald, ↓e_iast, ↓e_aald, ↓e_aast, ↓e_len, ↓e_copy, ↓e_abs, ↓e_max, ↓e_min, ↓e_iret, ↓e_aret, ↓e_vret, ↓e_is0, ↓e_is1, ↓e_is2, ↓e_is3, ↓e_is4, ↓e_iv1, ↓e_iv2, ↓e_iv3, ↓e_iv4, ↓e_iv5, ↓e_iv6, ↓rt_X11_worked, ↓reduceIte, Nat.reduceAdd, Nat.reduceEqDiff, ↓zcl0, ↓zclv, List.map_nil, List.sum_nil, List.map_cons, List.sum_cons, zcat, true_and, and_true, Nat.reduceLeDiff, Nat.reduceAdd, eq_self, forall_const, e_ok0, e_okss, e_ok1i, e_ok1r, e_ok1n, zl_0, zl_1, zl_10000, zl_20000, zl_20033, Int.reduceToNat, Int.reduceAdd, Int.reduceMul, Int.reduceSub, Int.reduceNeg, Int.reduceLT, Int.reduceLE, Int.reduceEq, not_false_eq_true, not_true_eq_false, false_implies, true_implies, implies_true, Int.reduceDiv, Int.reduceMod, zr8_zr, zr_zbo, z01_zbo, z01_0, z01_1, zbo_eq0, zup_eq, zup_o, zup_k, ne_eq, ↓ct_worked_done, ↓r_done, ↓B_done, ↓v_87, ↓g_87_0, ↓l_88, ↓s_88, ↓n_88, ↓g_87_1, ↓l_89, ↓s_89, ↓n_89, ↓g_87_2, ↓l_90, ↓s_90, ↓n_90, ↓g_87_3, ↓p_87_3, ↓g_87_4, ↓l_91, ↓s_91, ↓n_91, ↓g_87_5, ↓p_87_5, ↓g_87_6, ↓p_87_6, ↓g_87_7, ↓p_87_7, ↓g_87_8, ↓p_87_8, ↓g_87_9, ↓p_87_9, ↓g_87_10, ↓p_87_10, ↓g_87_11, ↓l_92, ↓s_92, ↓n_92, ↓g_87_12, ↓l_93, ↓s_93, ↓n_93, ↓g_87_13, ↓p_87_13, ↓g_87_14, ↓l_94, ↓s_94, ↓n_94, ↓g_87_15, ↓p_87_15, ↓g_87_16, ↓l_95, ↓s_95, ↓n_95, ↓g_87_17, ↓l_96, ↓s_96, ↓n_96, ↓g_87_18, ↓l_97, ↓s_97, ↓n_97, ↓g_87_19, ↓p_87_19, ↓g_87_20, ↓p_87_20, ↓g_87_21, ↓l_98, ↓s_98, ↓n_98, ↓g_87_22, ↓l_99, ↓s_99, ↓n_99, ↓g_87_23, ↓l_100, ↓s_100, ↓n_100, ↓g_87_24, ↓l_101, ↓s_101, ↓n_101, z1, z2, hM88, zL, hlt, zf, zn, t1]
          refine ⟨by omega, by omega, fun c => ⟨by omega, by omega, go _ ?_⟩, fun c => ⟨by omega, by omega, by omega, by omega, go _ ?_⟩⟩
          · unfold opr; rw [if_neg (by omega), if_neg (by omega), if_neg (by omega)]
          · rw [hM 92 (by decide)]
            unfold opr
            have : F k = 10000 ∨ F k = 10001 ∨ F k = 10002 := by omega
            rcases this with q | q | q <;> rw [q] <;> rfl
        · have er : ∃ v r, rpn F (M 92 0) (M 92 1) (M 92 2) k = v :: r ∧ rpn F (M 92 0) (M 92 1) (M 92 2) (k + 1) = zbo (zr v = 0) :: r := by
            rw [rpn]; unfold stp
            generalize rpn F (M 92 0) (M 92 1) (M 92 2) k = s at l1
            match s, l1 with
            | v :: r, _ => exact ⟨v, r, rfl, by rw [if_neg (by omega), if_pos q1]⟩
            | [], l1 => simp at l1; omega
          obtain ⟨v, r, er1, er2⟩ := er
          rw [er1] at hP l1 ⊢
          have zL1 : zr (((v :: r).length : Int) - 1) = r.length := by
            simp only [List.length_cons] at l1 ⊢
            rw [zr_of (by omega) (by omega)]
            omega
          have ht : M' 94 r.length = v := Pk_top hP
          have go : ∀ w, w = zbo (zr v = 0) → X 5 [some (.inr (.inr (.inl 87))), some (.inl f), some (.inl n), some (.inl ((v :: r).length : Int)), some (.inl (f + k + 1)), some (.inl 20033)] [] (zG, zup M' 94 r.length w) (0, 0) := by
            intro w hw
            have := ih (k + 1) (zup M' 94 r.length w) (some (.inl 20033)) (by omega) (fun a ha => by rw [zup_ne _ ha]; exact hM a ha) (by
              rw [er2]
              refine Pk_push (Pk_pop hP) (by simp [zup, hw]) (fun i hi => ?_)
              exact zup_k (by omega))
            rw [er2, ek] at this
            simpa using this
          rw [q1] at hM88
          simp only [bk_X11_worked_0, k_X11_worked_0, bk_X11_worked_5, k_X11_worked_5, bk_X11_worked_48, k_X11_worked_48, bk_X11_worked_59, k_X11_worked_59, bk_X11_worked_66, k_X11_worked_66, bk_X11_worked_96, k_X11_worked_96, bk_X11_worked_97, k_X11_worked_97, bk_X11_worked_101, k_X11_worked_101, bk_X11_worked_135, k_X11_worked_135, bk_X11_worked_141, k_X11_worked_141, ↓e_rk1, ↓e_rk0, ↓e_sk0, ↓e_sks, ↓e_ldi0, ↓e_ldis, ↓e_ldl0, ↓e_ldls, ↓e_lda0, ↓e_ldas, ↓e_ok0, ↓e_okss, ↓e_ok1i, ↓e_ok1r, ↓e_ok1n, ↓e_sti, ↓e_sta, ↓e_1, ↓e_2, ↓e_l1, ↓e_l2, ↓e_li, ↓e_sw0, ↓e_sws, ↓e_ceq, ↓e_cne, ↓e_clt, ↓e_cge, ↓e_cgt, ↓e_cle, ↓e_nil, ↓e_cons, ↓e_iconst, ↓e_bipush, ↓e_sipush, ↓e_ldc, ↓e_ldcw, ↓e_ldc2, ↓e_lconst, ↓e_iloadn, ↓e_iload, ↓e_lloadn, ↓e_lload, ↓e_aloadn, ↓e_aload, ↓e_istoren, ↓e_istore, ↓e_astoren, ↓e_astore, ↓e_add, ↓e_iinc, ↓e_iadd, ↓e_isub, ↓e_imul, ↓e_iand, ↓e_ior, ↓e_ixor, ↓e_ishl, ↓e_iushr, ↓e_idiv, ↓e_irem, ↓e_ineg, ↓e_i2l, ↓e_i2b, ↓e_i2s, ↓e_l2i, ↓e_land, ↓e_lor, ↓e_lshl, ↓e_lshr, ↓e_lushr, ↓e_lcmp, ↓e_dupi, ↓e_dupr, ↓e_popi, ↓e_dup2, ↓e_goto, ↓e_if, ↓e_icmp, ↓e_tsw, ↓e_lsw, ↓e_getf, ↓e_putf, ↓e_gets, ↓e_iald, ↓e_cald, ↓e_iast, ↓e_aald, ↓e_aast, ↓e_len, ↓e_copy, ↓e_abs, ↓e_max, ↓e_min, ↓e_iret, ↓e_aret, ↓e_vret, ↓e_is0, ↓e_is1, ↓e_is2, ↓e_is3, ↓e_is4, ↓e_iv1, ↓e_iv2, ↓e_iv3, ↓e_iv4, ↓e_iv5, ↓e_iv6, ↓rt_X11_worked, ↓reduceIte, Nat.reduceAdd, Nat.reduceEqDiff, ↓zcl0, ↓zclv, List.map_nil, List.sum_nil, List.map_cons, List.sum_cons, zcat, true_and, and_true, Nat.reduceLeDiff, Nat.reduceAdd, eq_self, forall_const, e_ok0, e_okss, e_ok1i, e_ok1r, e_ok1n, zl_0, zl_1, zl_10000, zl_20000, zl_20033, Int.reduceToNat, Int.reduceAdd, Int.reduceMul, Int.reduceSub, Int.reduceNeg, Int.reduceLT, Int.reduceLE, Int.reduceEq, not_false_eq_true, not_true_eq_false, false_implies, true_implies, implies_true, Int.reduceDiv, Int.reduceMod, zr8_zr, zr_zbo, z01_zbo, z01_0, z01_1, zbo_eq0, zup_eq, zup_o, zup_k, ne_eq, ↓ct_worked_done, ↓r_done, ↓B_done, ↓v_87, ↓g_87_0, ↓l_88, ↓s_88, ↓n_88, ↓g_87_1, ↓l_89, ↓s_89, ↓n_89, ↓g_87_2, ↓l_90, ↓s_90, ↓n_90, ↓g_87_3, ↓p_87_3, ↓g_87_4, ↓l_91, ↓s_91, ↓n_91, ↓g_87_5, ↓p_87_5, ↓g_87_6, ↓p_87_6, ↓g_87_7, ↓p_87_7, ↓g_87_8, ↓p_87_8, ↓g_87_9, ↓p_87_9, ↓g_87_10, ↓p_87_10, ↓g_87_11, ↓l_92, ↓s_92, ↓n_92, ↓g_87_12, ↓l_93, ↓s_93, ↓n_93, ↓g_87_13, ↓p_87_13, ↓g_87_14, ↓l_94, ↓s_94, ↓n_94, ↓g_87_15, ↓p_87_15, ↓g_87_16, ↓l_95, ↓s_95, ↓n_95, ↓g_87_17, ↓l_96, ↓s_96, ↓n_96, ↓g_87_18, ↓l_97, ↓s_97, ↓n_97, ↓g_87_19, ↓p_87_19, ↓g_87_20, ↓p_87_20, ↓g_87_21, ↓l_98, ↓s_98, ↓n_98, ↓g_87_22, ↓l_99, ↓s_99, ↓n_99, ↓g_87_23, ↓l_100, ↓s_100, ↓n_100, ↓g_87_24, ↓l_101, ↓s_101, ↓n_101, z1, z2, hM88, zL1, hlt, Int.toNat_natCast, ht]
          simp only [List.length_cons] at l1
          refine ⟨by omega, by omega, by omega, by omega, fun c => ⟨by omega, by omega, go _ (zbo_t c).symm⟩, fun c => ⟨by omega, by omega, go _ (zbo_f c).symm⟩⟩
        · have er : ∃ v w r, rpn F (M 92 0) (M 92 1) (M 92 2) k = w :: v :: r ∧ rpn F (M 92 0) (M 92 1) (M 92 2) (k + 1) = dn (F k - 20000) v w :: r := by
            rw [rpn]; unfold stp
            generalize rpn F (M 92 0) (M 92 1) (M 92 2) k = s at l1
            match s, l1 with
            | w :: v :: r, _ => exact ⟨v, w, r, rfl, by rw [if_neg (by omega), if_neg q3]⟩
            | [w], l1 => simp at l1; omega
            | [], l1 => simp at l1; omega
          obtain ⟨v, w, r, er1, er2⟩ := er
          rw [er1] at hP l1 ⊢
          simp only [List.length_cons] at l1
          have eL : (((w :: v :: r).length : Nat) : Int) = (r.length : Int) + 2 := by simp; omega
          have zL1 : zr ((r.length : Int) + 2 + -1) = (r.length : Int) + 1 := by rw [zr_of (by omega) (by omega)]; omega
          have zL2 : zr ((r.length : Int) + 2 + -1 - 1) = (r.length : Int) := by rw [zr_of (by omega) (by omega)]; omega
          have zf : zr (F k) = F k := zr_of (by omega) (by omega)
          have t1 : (F k < 20000) = False := eq_false (by omega)
          have t2 : (F k = 20033) = False := eq_false q3
          have ht1 : M' 94 ((r.length : Int) + 1).toNat = w := by
            have := Pk_top hP
            simpa using this
          have ht2 : M' 94 r.length = v := Pk_top (Pk_pop hP)
          have rgs : rg (F k - 20000) := ⟨by omega, by omega⟩
          have go := ih (k + 1) (zup M' 94 r.length (dn (F k - 20000) v w)) (some (.inl (F k))) (by omega) (fun a ha => by rw [zup_ne _ ha]; exact hM a ha) (by
              rw [er2]
              refine Pk_push (Pk_pop (Pk_pop hP)) (by simp [zup]) (fun i hi => ?_)
              exact zup_k (by omega))
          rw [er2, ek] at go
          rw [eL]
          simp only [bk_X11_worked_0, k_X11_worked_0, bk_X11_worked_5, k_X11_worked_5, bk_X11_worked_48, k_X11_worked_48, bk_X11_worked_59, k_X11_worked_59, bk_X11_worked_66, k_X11_worked_66, bk_X11_worked_96, k_X11_worked_96, bk_X11_worked_97, k_X11_worked_97, bk_X11_worked_101, k_X11_worked_101, bk_X11_worked_135, k_X11_worked_135, bk_X11_worked_141, k_X11_worked_141, ↓e_rk1, ↓e_rk0, ↓e_sk0, ↓e_sks, ↓e_ldi0, ↓e_ldis, ↓e_ldl0, ↓e_ldls, ↓e_lda0, ↓e_ldas, ↓e_ok0, ↓e_okss, ↓e_ok1i, ↓e_ok1r, ↓e_ok1n, ↓e_sti, ↓e_sta, ↓e_1, ↓e_2, ↓e_l1, ↓e_l2, ↓e_li, ↓e_sw0, ↓e_sws, ↓e_ceq, ↓e_cne, ↓e_clt, ↓e_cge, ↓e_cgt, ↓e_cle, ↓e_nil, ↓e_cons, ↓e_iconst, ↓e_bipush, ↓e_sipush, ↓e_ldc, ↓e_ldcw, ↓e_ldc2, ↓e_lconst, ↓e_iloadn, ↓e_iload, ↓e_lloadn, ↓e_lload, ↓e_aloadn, ↓e_aload, ↓e_istoren, ↓e_istore, ↓e_astoren, ↓e_astore, ↓e_add, ↓e_iinc, ↓e_iadd, ↓e_isub, ↓e_imul, ↓e_iand, ↓e_ior, ↓e_ixor, ↓e_ishl, ↓e_iushr, ↓e_idiv, ↓e_irem, ↓e_ineg, ↓e_i2l, ↓e_i2b, ↓e_i2s, ↓e_l2i, ↓e_land, ↓e_lor, ↓e_lshl, ↓e_lshr, ↓e_lushr, ↓e_lcmp, ↓e_dupi, ↓e_dupr, ↓e_popi, ↓e_dup2, ↓e_goto, ↓e_if, ↓e_icmp, ↓e_tsw, ↓e_lsw, ↓e_getf, ↓e_putf, ↓e_gets, ↓e_iald, ↓e_cald, ↓e_iast, ↓e_aald, ↓e_aast, ↓e_len, ↓e_copy, ↓e_abs, ↓e_max, ↓e_min, ↓e_iret, ↓e_aret, ↓e_vret, ↓e_is0, ↓e_is1, ↓e_is2, ↓e_is3, ↓e_is4, ↓e_iv1, ↓e_iv2, ↓e_iv3, ↓e_iv4, ↓e_iv5, ↓e_iv6, ↓rt_X11_worked, ↓reduceIte, Nat.reduceAdd, Nat.reduceEqDiff, ↓zcl0, ↓zclv, List.map_nil, List.sum_nil, List.map_cons, List.sum_cons, zcat, true_and, and_true, Nat.reduceLeDiff, Nat.reduceAdd, eq_self, forall_const, e_ok0, e_okss, e_ok1i, e_ok1r, e_ok1n, zl_0, zl_1, zl_10000, zl_20000, zl_20033, Int.reduceToNat, Int.reduceAdd, Int.reduceMul, Int.reduceSub, Int.reduceNeg, Int.reduceLT, Int.reduceLE, Int.reduceEq, not_false_eq_true, not_true_eq_false, false_implies, true_implies, implies_true, Int.reduceDiv, Int.reduceMod, zr8_zr, zr_zbo, z01_zbo, z01_0, z01_1, zbo_eq0, zup_eq, zup_o, zup_k, ne_eq, ↓ct_worked_done, ↓r_done, ↓B_done, ↓v_87, ↓g_87_0, ↓l_88, ↓s_88, ↓n_88, ↓g_87_1, ↓l_89, ↓s_89, ↓n_89, ↓g_87_2, ↓l_90, ↓s_90, ↓n_90, ↓g_87_3, ↓p_87_3, ↓g_87_4, ↓l_91, ↓s_91, ↓n_91, ↓g_87_5, ↓p_87_5, ↓g_87_6, ↓p_87_6, ↓g_87_7, ↓p_87_7, ↓g_87_8, ↓p_87_8, ↓g_87_9, ↓p_87_9, ↓g_87_10, ↓p_87_10, ↓g_87_11, ↓l_92, ↓s_92, ↓n_92, ↓g_87_12, ↓l_93, ↓s_93, ↓n_93, ↓g_87_13, ↓p_87_13, ↓g_87_14, ↓l_94, ↓s_94, ↓n_94, ↓g_87_15, ↓p_87_15, ↓g_87_16, ↓l_95, ↓s_95, ↓n_95, ↓g_87_17, ↓l_96, ↓s_96, ↓n_96, ↓g_87_18, ↓l_97, ↓s_97, ↓n_97, ↓g_87_19, ↓p_87_19, ↓g_87_20, ↓p_87_20, ↓g_87_21, ↓l_98, ↓s_98, ↓n_98, ↓g_87_22, ↓l_99, ↓s_99, ↓n_99, ↓g_87_23, ↓l_100, ↓s_100, ↓n_100, ↓g_87_24, ↓l_101, ↓s_101, ↓n_101, z1, z2, hM88, zL1, zL2, hlt, Int.toNat_natCast, ht1, ht2, zf, t1, t2]
          refine ⟨by omega, by omega, by omega, by omega, by omega, by omega, rgs, by omega, by omega, ?_⟩
          have eq9 : (r.length : Int) + 2 + -1 = ((dn (F k - 20000) v w :: r).length : Int) := by simp; omega
          rw [eq9]
          exact go
    have := loop n.toNat 0 M none (by omega) (fun _ _ => rfl) (fun i v h => by simp [rpn] at h)
    simpa [rpn] using this
def k_X11_textGives_0 : List ZI := [(.iload_n 2, 1, (0, [2], [])), (.istore 5, 2, (0, [5], [])), (.aload_n 0, 1, (0, [0], [])), (.getfield 7, 3, (0, [11, 0], [])), (.sipush 186, 3, (0, [], [])), (.iload_n 1, 1, (0, [1], [])), (.iadd, 1, (0, [], [])), (.iaload, 1, (0, [], [])), (.ifCond .le 49, 3, (0, [62], [])), (.aload_n 0, 1, (0, [0], [])), (.getfield 22, 3, (0, [11, 11], [])), (.iconst 0, 1, (0, [], [])), (.iload_n 2, 1, (0, [2], [])), (.iastore, 1, (0, [], [])), (.aload_n 0, 1, (0, [0], [])), (.getfield 22, 3, (0, [11, 11], [])), (.iconst 1, 1, (0, [], [])), (.iload_n 3, 1, (0, [3], [])), (.iastore, 1, (0, [], [])), (.aload_n 0, 1, (0, [0], [])), (.getfield 22, 3, (0, [11, 11], [])), (.iconst 2, 1, (0, [], [])), (.iload 4, 2, (0, [4], [])), (.iastore, 1, (0, [], [])), (.aload_n 0, 1, (0, [0], [])), (.sipush 208, 3, (0, [], [])), (.bipush 50, 2, (0, [], [])), (.iload_n 1, 1, (0, [1], [])), (.imul, 1, (0, [], [])), (.iadd, 1, (0, [], [])), (.aload_n 0, 1, (0, [0], [])), (.getfield 7, 3, (0, [11, 0], [])), (.sipush 186, 3, (0, [], [])), (.iload_n 1, 1, (0, [1], [])), (.iadd, 1, (0, [], [])), (.iaload, 1, (0, [], [])), (.invokevirtual 148, 3, (0, [146, 3, 0, 11], [])), (.istore 5, 2, (0, [5], []))]
theorem ok_X11_textGives_0 : zOK cX11_textGives 11 false 6 k_X11_textGives_0 0 = true := zOK_by (by decide +kernel)
def k_X11_textGives_62 : List ZI := [(.iload 5, 2, (0, [5], [])), (.iconst 0, 1, (0, [], [])), (.bipush 20, 2, (0, [], [])), (.invokestatic 152, 3, (0, [121, 3, 0, 11], [])), (.ireturn, 1, (0, [], []))]
theorem ok_X11_textGives_62 : zOK cX11_textGives 11 false 6 k_X11_textGives_62 62 = true := zOK_by (by decide +kernel)
theorem rt_X11_textGives {g : Nat} {post : Option ZV → ZH → Prop} {h : ZH} {b : ZB2} {z : Int} : zRt mX11_textGives g post (some (.inl z)) h b = (post (some (.inl z)) h ∧ h.1.length = g) := by show (_ ∧ _ ∧ True) = _; simp
def bk_X11_textGives_62 (E : ZE) (CT : Nat → ZC) (X : ZK) (Rt : ZR) (ls : ZL) (st : List ZV) (h : ZH) (b : ZB2) : Prop := zB E CT k_X11_textGives_62 62 ls st h b (fun t ls st h b => X t ls st h b) Rt
theorem bs_X11_textGives_62 {E : ZE} {CT : Nat → ZC} {X : ZK} {Rt : ZR} {ls : ZL} {st : List ZV} {h : ZH} {b : ZB2} (hX : zCl E mX11_textGives 11 false CT Rt X) (q : bk_X11_textGives_62 E CT X Rt ls st h b) : X 62 ls st h b := by
  refine hX k_X11_textGives_62 62 ok_X11_textGives_62 _ ?_ ls st h b q
  exact fun t ls st h b q => q
def bk_X11_textGives_0 (E : ZE) (CT : Nat → ZC) (X : ZK) (Rt : ZR) (ls : ZL) (st : List ZV) (h : ZH) (b : ZB2) : Prop := zB E CT k_X11_textGives_0 0 ls st h b (fun t ls st h b => if t = 62 then bk_X11_textGives_62 E CT X Rt ls st h b else X t ls st h b) Rt
theorem bs_X11_textGives_0 {E : ZE} {CT : Nat → ZC} {X : ZK} {Rt : ZR} {ls : ZL} {st : List ZV} {h : ZH} {b : ZB2} (hX : zCl E mX11_textGives 11 false CT Rt X) (q : bk_X11_textGives_0 E CT X Rt ls st h b) : X 0 ls st h b := by
  refine hX k_X11_textGives_0 0 ok_X11_textGives_0 _ ?_ ls st h b q
  exact by
    intro t ls st h b q
    by_cases c : t = 62
    · subst c; rw [if_pos rfl] at q; exact bs_X11_textGives_62 hX q
    rw [if_neg c] at q
    exact q
-- X11_textGives: cuts []
def B_textGives (u : Int) (a : Int) (b : Int) (c : Int) (M : Nat → Nat → Int) (post : Option ZV → (Nat → Nat → Int) → Prop) : Prop := 0 ≤ u ∧ u ≤ 1 ∧ Vt (M 88) u ∧ ∀ M' : ZMm, (∀ x, ¬ x = 92 → ¬ x = 94 → M' x = M x) → post (some (.inl (tgv (M 88) u a b c))) M'
def C_textGives : ZC := fun as h post => match as with
  | [.inr (.inr (.inl 87)), .inl u, .inl a, .inl b, .inl c] => h.1 = zG ∧ B_textGives u a b c h.2 (fun v M => post v (zG, M))
  | _ => False
theorem r_textGives {u : Int} {a : Int} {b : Int} {c : Int} {M : Nat → Nat → Int} {post : Option ZV → ZH → Prop} : C_textGives [.inr (.inr (.inl 87)), .inl u, .inl a, .inl b, .inl c] (zG, M) post = B_textGives u a b c M (fun v M => post v (zG, M)) := by show (zG = zG ∧ _) = _; simp
def ct_textGives : Nat → ZC := fun n => if n = 146 then C_worked else if n = 121 then C_held else fun _ _ _ => False
theorem ct_textGives_worked {as : List ZV} {h : ZH} {post : Option ZV → ZH → Prop} : ct_textGives 146 as h post = C_worked as h post := rfl
theorem ct_textGives_held {as : List ZV} {h : ZH} {post : Option ZV → ZH → Prop} : ct_textGives 121 as h post = C_held as h post := rfl
theorem c_textGives {E : ZE} {d : Nat} (hd : 3 ≤ d) : zMet E d mX11_textGives C_textGives := by
  refine zmet_of (o := 11) (ini := false) (CT := ct_textGives) gd_X11_textGives rfl (fun h => by cases h) (by omega) ?_ ?_
  · intro n as h post hh
    unfold ct_textGives at hh
    by_cases c : n = 146
    · subst c; exact ⟨gd_X11_worked, 2, by omega, c_worked (by omega)⟩
    rw [if_neg c] at hh
    by_cases c : n = 121
    · subst c; exact ⟨gd_X11_held, 1, by omega, c_held (by omega)⟩
    rw [if_neg c] at hh
    exact hh.elim
  intro as h post hC
  match as, hC with
  | [.inr (.inr (.inl 87)), .inl u, .inl a, .inl b, .inl c], hC =>
    refine ⟨Nat.le_of_ble_eq_true rfl, fun X hX => bs_X11_textGives_0 hX ?_⟩
    obtain ⟨G, M⟩ := h
    obtain ⟨hG, hC⟩ := hC
    dsimp only at hG
    subst hG
    simp only [B_textGives] at hC
    show bk_X11_textGives_0 E ct_textGives X _ [some (.inr (.inr (.inl 87))), some (.inl u), some (.inl a), some (.inl b), some (.inl c), none] [] (zG, M) (0, 0)
    obtain ⟨h1, h2, h3, hC⟩ := hC
    have z1 : zr (186 + u) = 186 + u := zr_of (by omega) (by omega)
    have h50 := h3.1
    have h51 := h3.2.1
    have z2 : zr (M 88 (186 + u).toNat) = M 88 (186 + u).toNat := zr_of (by omega) (by omega)
    simp only [bk_X11_textGives_0, k_X11_textGives_0, bk_X11_textGives_62, k_X11_textGives_62, ↓e_rk1, ↓e_rk0, ↓e_sk0, ↓e_sks, ↓e_ldi0, ↓e_ldis, ↓e_ldl0, ↓e_ldls, ↓e_lda0, ↓e_ldas, ↓e_ok0, ↓e_okss, ↓e_ok1i, ↓e_ok1r, ↓e_ok1n, ↓e_sti, ↓e_sta, ↓e_1, ↓e_2, ↓e_l1, ↓e_l2, ↓e_li, ↓e_sw0, ↓e_sws, ↓e_ceq, ↓e_cne, ↓e_clt, ↓e_cge, ↓e_cgt, ↓e_cle, ↓e_nil, ↓e_cons, ↓e_iconst, ↓e_bipush, ↓e_sipush, ↓e_ldc, ↓e_ldcw, ↓e_ldc2, ↓e_lconst, ↓e_iloadn, ↓e_iload, ↓e_lloadn, ↓e_lload, ↓e_aloadn, ↓e_aload, ↓e_istoren, ↓e_istore, ↓e_astoren, ↓e_astore, ↓e_add, ↓e_iinc, ↓e_iadd, ↓e_isub, ↓e_imul, ↓e_iand, ↓e_ior, ↓e_ixor, ↓e_ishl, ↓e_iushr, ↓e_idiv, ↓e_irem, ↓e_ineg, ↓e_i2l, ↓e_i2b, ↓e_i2s, ↓e_l2i, ↓e_land, ↓e_lor, ↓e_lshl, ↓e_lshr, ↓e_lushr, ↓e_lcmp, ↓e_dupi, ↓e_dupr, ↓e_popi, ↓e_dup2, ↓e_goto, ↓e_if, ↓e_icmp, ↓e_tsw, ↓e_lsw, ↓e_getf, ↓e_putf, ↓e_gets, ↓e_iald, ↓e_cald, ↓e_iast, ↓e_aald, ↓e_aast, ↓e_len, ↓e_copy, ↓e_abs, ↓e_max, ↓e_min, ↓e_iret, ↓e_aret, ↓e_vret, ↓e_is0, ↓e_is1, ↓e_is2, ↓e_is3, ↓e_is4, ↓e_iv1, ↓e_iv2, ↓e_iv3, ↓e_iv4, ↓e_iv5, ↓e_iv6, ↓rt_X11_textGives, ↓reduceIte, Nat.reduceAdd, Nat.reduceEqDiff, ↓zcl0, ↓zclv, List.map_nil, List.sum_nil, List.map_cons, List.sum_cons, zcat, true_and, and_true, Nat.reduceLeDiff, Nat.reduceAdd, eq_self, forall_const, e_ok0, e_okss, e_ok1i, e_ok1r, e_ok1n, zl_0, zl_1, zl_2, zl_20, zl_50, zl_186, zl_208, Int.reduceToNat, Int.reduceAdd, Int.reduceMul, Int.reduceSub, Int.reduceNeg, Int.reduceLT, Int.reduceLE, Int.reduceEq, not_false_eq_true, not_true_eq_false, false_implies, true_implies, implies_true, Int.reduceDiv, Int.reduceMod, zr8_zr, zr_zbo, z01_zbo, z01_0, z01_1, zbo_eq0, zup_eq, zup_o, zup_k, ne_eq, ↓ct_textGives_worked, ↓r_worked, ↓B_worked, ↓ct_textGives_held, ↓r_held, ↓B_held, ↓v_87, ↓g_87_0, ↓l_88, ↓s_88, ↓n_88, ↓g_87_1, ↓l_89, ↓s_89, ↓n_89, ↓g_87_2, ↓l_90, ↓s_90, ↓n_90, ↓g_87_3, ↓p_87_3, ↓g_87_4, ↓l_91, ↓s_91, ↓n_91, ↓g_87_5, ↓p_87_5, ↓g_87_6, ↓p_87_6, ↓g_87_7, ↓p_87_7, ↓g_87_8, ↓p_87_8, ↓g_87_9, ↓p_87_9, ↓g_87_10, ↓p_87_10, ↓g_87_11, ↓l_92, ↓s_92, ↓n_92, ↓g_87_12, ↓l_93, ↓s_93, ↓n_93, ↓g_87_13, ↓p_87_13, ↓g_87_14, ↓l_94, ↓s_94, ↓n_94, ↓g_87_15, ↓p_87_15, ↓g_87_16, ↓l_95, ↓s_95, ↓n_95, ↓g_87_17, ↓l_96, ↓s_96, ↓n_96, ↓g_87_18, ↓l_97, ↓s_97, ↓n_97, ↓g_87_19, ↓p_87_19, ↓g_87_20, ↓p_87_20, ↓g_87_21, ↓l_98, ↓s_98, ↓n_98, ↓g_87_22, ↓l_99, ↓s_99, ↓n_99, ↓g_87_23, ↓l_100, ↓s_100, ↓n_100, ↓g_87_24, ↓l_101, ↓s_101, ↓n_101, z1, z2]
    refine ⟨by omega, by omega, fun c => ⟨by omega, by omega, by omega, by omega, c, h3, fun M' hM => ⟨⟨by decide, by decide⟩, ⟨by decide, by decide⟩, ?_⟩⟩, fun c => ⟨⟨by decide, by decide⟩, ⟨by decide, by decide⟩, ?_⟩⟩
    · refine zpost (hC M' (fun x h92 h94 => ?_)) ?_
      · rw [hM x h94, zup_ne _ h92, zup_ne _ h92, zup_ne _ h92]
      · unfold tgv; rw [if_pos c]
    · refine zpost (hC M (fun _ _ _ => rfl)) ?_
      unfold tgv; rw [if_neg c]
