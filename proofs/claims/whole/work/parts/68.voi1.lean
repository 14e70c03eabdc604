/-! THE CLASS: voices -/
def k_X8_speak_0 : List ZI := [(.aload_n 0, 1, (0, [0], [])), (.getfield 14, 3, (0, [8, 0], [])), (.iconst 0, 1, (0, [], [])), (.putfield 20, 3, (0, [5, 1], [])), (.aload_n 0, 1, (0, [0], [])), (.aload_n 1, 1, (0, [1], [])), (.getfield 24, 3, (0, [0, 0], [])), (.iload_n 2, 1, (0, [2], [])), (.iaload, 1, (0, [], [])), (.putfield 30, 3, (0, [8, 1], [])), (.aload_n 0, 1, (0, [0], [])), (.iload_n 2, 1, (0, [2], [])), (.putfield 32, 3, (0, [8, 2], [])), (.aload_n 0, 1, (0, [0], [])), (.aload_n 1, 1, (0, [1], [])), (.getfield 35, 3, (0, [0, 1], [])), (.iload_n 2, 1, (0, [2], [])), (.iaload, 1, (0, [], [])), (.putfield 38, 3, (0, [8, 3], []))]
theorem ok_X8_speak_0 : zOK cX8_speak 8 false 5 k_X8_speak_0 0 = true := zOK_by (by decide +kernel)
def k_X8_speak_33 : List ZI := [(.aload_n 0, 1, (0, [0], [])), (.aload_n 0, 1, (0, [0], [])), (.getfield 30, 3, (0, [8, 1], [])), (.iload_n 3, 1, (0, [3], [])), (.iload 4, 2, (0, [4], [])), (.iconst 0, 1, (0, [], [])), (.invokevirtual 40, 3, (0, [53, 5, 0, 8], [])), (.ireturn, 1, (0, [], []))]
theorem ok_X8_speak_33 : zOK cX8_speak 8 false 5 k_X8_speak_33 33 = true := zOK_by (by decide +kernel)
theorem rt_X8_speak {g : Nat} {post : Option ZV → ZH → Prop} {h : ZH} {b : ZB2} {z : Int} : zRt mX8_speak g post (some (.inl z)) h b = (post (some (.inl z)) h ∧ h.1.length = g) := by show (_ ∧ _ ∧ True) = _; simp
def bk_X8_speak_0 (E : ZE) (CT : Nat → ZC) (X : ZK) (Rt : ZR) (ls : ZL) (st : List ZV) (h : ZH) (b : ZB2) : Prop := zB E CT k_X8_speak_0 0 ls st h b (fun t ls st h b => X t ls st h b) Rt
theorem bs_X8_speak_0 {E : ZE} {CT : Nat → ZC} {X : ZK} {Rt : ZR} {ls : ZL} {st : List ZV} {h : ZH} {b : ZB2} (hX : zCl E mX8_speak 8 false CT Rt X) (q : bk_X8_speak_0 E CT X Rt ls st h b) : X 0 ls st h b := by
  refine hX k_X8_speak_0 0 ok_X8_speak_0 _ ?_ ls st h b q
  exact fun t ls st h b q => q
def bk_X8_speak_33 (E : ZE) (CT : Nat → ZC) (X : ZK) (Rt : ZR) (ls : ZL) (st : List ZV) (h : ZH) (b : ZB2) : Prop := zB E CT k_X8_speak_33 33 ls st h b (fun t ls st h b => X t ls st h b) Rt
theorem bs_X8_speak_33 {E : ZE} {CT : Nat → ZC} {X : ZK} {Rt : ZR} {ls : ZL} {st : List ZV} {h : ZH} {b : ZB2} (hX : zCl E mX8_speak 8 false CT Rt X) (q : bk_X8_speak_33 E CT X Rt ls st h b) : X 33 ls st h b := by
  refine hX k_X8_speak_33 33 ok_X8_speak_33 _ ?_ ls st h b q
  exact fun t ls st h b q => q
-- X8_speak: cuts [33]
def k_X8_say_0 : List ZI := [(.iload_n 1, 1, (0, [1], [])), (.istore 5, 2, (0, [5], [])), (.iconst 0, 1, (0, [], [])), (.istore 6, 2, (0, [6], []))]
theorem ok_X8_say_0 : zOK cX8_say 8 false 8 k_X8_say_0 0 = true := zOK_by (by decide +kernel)
def k_X8_say_6 : List ZI := [(.iload 6, 2, (0, [6], [])), (.iconst 2, 1, (0, [], [])), (.if_icmp .gt 77, 3, (0, [86], [])), (.iload 5, 2, (0, [5], [])), (.ifCond .lt 72, 3, (0, [86], [])), (.iload 5, 2, (0, [5], [])), (.bipush 7, 2, (0, [], [])), (.if_icmp .ge 65, 3, (0, [86], [])), (.iload 4, 2, (0, [4], [])), (.bipush 40, 2, (0, [], [])), (.if_icmp .ge 58, 3, (0, [86], []))]
theorem ok_X8_say_6 : zOK cX8_say 8 false 8 k_X8_say_6 6 = true := zOK_by (by decide +kernel)
def k_X8_say_31 : List ZI := [(.getstatic 44, 3, (0, [1], [])), (.iload 5, 2, (0, [5], [])), (.iconst 4, 1, (0, [], [])), (.imul, 1, (0, [], [])), (.iload_n 2, 1, (0, [2], [])), (.iadd, 1, (0, [], [])), (.iaload, 1, (0, [], [])), (.istore 7, 2, (0, [7], [])), (.getstatic 47, 3, (0, [0], [])), (.iload 5, 2, (0, [5], [])), (.iaload, 1, (0, [], [])), (.istore 5, 2, (0, [5], [])), (.iload 7, 2, (0, [7], [])), (.ifCond .eq 27, 3, (0, [80], [])), (.aload_n 0, 1, (0, [0], [])), (.getfield 14, 3, (0, [8, 0], [])), (.iload 7, 2, (0, [7], [])), (.invokevirtual 50, 3, (0, [41, 2, 0, 5], [])), (.pop, 1, (0, [], []))]
theorem ok_X8_say_31 : zOK cX8_say 8 false 8 k_X8_say_31 31 = true := zOK_by (by decide +kernel)
def k_X8_say_66 : List ZI := [(.aload_n 0, 1, (0, [0], [])), (.iload 7, 2, (0, [7], [])), (.iload 5, 2, (0, [5], [])), (.iload_n 3, 1, (0, [3], [])), (.iload 4, 2, (0, [4], [])), (.iconst 1, 1, (0, [], [])), (.iadd, 1, (0, [], [])), (.invokevirtual 54, 3, (0, [54, 5, 0, 8], [])), (.ireturn, 1, (0, [], []))]
theorem ok_X8_say_66 : zOK cX8_say 8 false 8 k_X8_say_66 66 = true := zOK_by (by decide +kernel)
def k_X8_say_80 : List ZI := [(.iinc 6 1, 3, (0, [6], [])), (.goto (-77), 3, (0, [6], []))]
theorem ok_X8_say_80 : zOK cX8_say 8 false 8 k_X8_say_80 80 = true := zOK_by (by decide +kernel)
def k_X8_say_86 : List ZI := [(.iconst 0, 1, (0, [], [])), (.ireturn, 1, (0, [], []))]
theorem ok_X8_say_86 : zOK cX8_say 8 false 8 k_X8_say_86 86 = true := zOK_by (by decide +kernel)
theorem rt_X8_say {g : Nat} {post : Option ZV → ZH → Prop} {h : ZH} {b : ZB2} {z : Int} : zRt mX8_say g post (some (.inl z)) h b = (post (some (.inl z)) h ∧ h.1.length = g) := by show (_ ∧ _ ∧ True) = _; simp
def bk_X8_say_0 (E : ZE) (CT : Nat → ZC) (X : ZK) (Rt : ZR) (ls : ZL) (st : List ZV) (h : ZH) (b : ZB2) : Prop := zB E CT k_X8_say_0 0 ls st h b (fun t ls st h b => X t ls st h b) Rt
theorem bs_X8_say_0 {E : ZE} {CT : Nat → ZC} {X : ZK} {Rt : ZR} {ls : ZL} {st : List ZV} {h : ZH} {b : ZB2} (hX : zCl E mX8_say 8 false CT Rt X) (q : bk_X8_say_0 E CT X Rt ls st h b) : X 0 ls st h b := by
  refine hX k_X8_say_0 0 ok_X8_say_0 _ ?_ ls st h b q
  exact fun t ls st h b q => q
def bk_X8_say_86 (E : ZE) (CT : Nat → ZC) (X : ZK) (Rt : ZR) (ls : ZL) (st : List ZV) (h : ZH) (b : ZB2) : Prop := zB E CT k_X8_say_86 86 ls st h b (fun t ls st h b => X t ls st h b) Rt
theorem bs_X8_say_86 {E : ZE} {CT : Nat → ZC} {X : ZK} {Rt : ZR} {ls : ZL} {st : List ZV} {h : ZH} {b : ZB2} (hX : zCl E mX8_say 8 false CT Rt X) (q : bk_X8_say_86 E CT X Rt ls st h b) : X 86 ls st h b := by
  refine hX k_X8_say_86 86 ok_X8_say_86 _ ?_ ls st h b q
  exact fun t ls st h b q => q
def bk_X8_say_6 (E : ZE) (CT : Nat → ZC) (X : ZK) (Rt : ZR) (ls : ZL) (st : List ZV) (h : ZH) (b : ZB2) : Prop := zB E CT k_X8_say_6 6 ls st h b (fun t ls st h b => if t = 86 then bk_X8_say_86 E CT X Rt ls st h b else X t ls st h b) Rt
theorem bs_X8_say_6 {E : ZE} {CT : Nat → ZC} {X : ZK} {Rt : ZR} {ls : ZL} {st : List ZV} {h : ZH} {b : ZB2} (hX : zCl E mX8_say 8 false CT Rt X) (q : bk_X8_say_6 E CT X Rt ls st h b) : X 6 ls st h b := by
  refine hX k_X8_say_6 6 ok_X8_say_6 _ ?_ ls st h b q
  exact by
    intro t ls st h b q
    by_cases c : t = 86
    · subst c; rw [if_pos rfl] at q; exact bs_X8_say_86 hX q
    rw [if_neg c] at q
    exact q
def bk_X8_say_31 (E : ZE) (CT : Nat → ZC) (X : ZK) (Rt : ZR) (ls : ZL) (st : List ZV) (h : ZH) (b : ZB2) : Prop := zB E CT k_X8_say_31 31 ls st h b (fun t ls st h b => X t ls st h b) Rt
theorem bs_X8_say_31 {E : ZE} {CT : Nat → ZC} {X : ZK} {Rt : ZR} {ls : ZL} {st : List ZV} {h : ZH} {b : ZB2} (hX : zCl E mX8_say 8 false CT Rt X) (q : bk_X8_say_31 E CT X Rt ls st h b) : X 31 ls st h b := by
  refine hX k_X8_say_31 31 ok_X8_say_31 _ ?_ ls st h b q
  exact fun t ls st h b q => q
def bk_X8_say_66 (E : ZE) (CT : Nat → ZC) (X : ZK) (Rt : ZR) (ls : ZL) (st : List ZV) (h : ZH) (b : ZB2) : Prop := zB E CT k_X8_say_66 66 ls st h b (fun t ls st h b => X t ls st h b) Rt
theorem bs_X8_say_66 {E : ZE} {CT : Nat → ZC} {X : ZK} {Rt : ZR} {ls : ZL} {st : List ZV} {h : ZH} {b : ZB2} (hX : zCl E mX8_say 8 false CT Rt X) (q : bk_X8_say_66 E CT X Rt ls st h b) : X 66 ls st h b := by
  refine hX k_X8_say_66 66 ok_X8_say_66 _ ?_ ls st h b q
  exact fun t ls st h b q => q
def bk_X8_say_80 (E : ZE) (CT : Nat → ZC) (X : ZK) (Rt : ZR) (ls : ZL) (st : List ZV) (h : ZH) (b : ZB2) : Prop := zB E CT k_X8_say_80 80 ls st h b (fun t ls st h b => X t ls st h b) Rt
theorem bs_X8_say_80 {E : ZE} {CT : Nat → ZC} {X : ZK} {Rt : ZR} {ls : ZL} {st : List ZV} {h : ZH} {b : ZB2} (hX : zCl E mX8_say 8 false CT Rt X) (q : bk_X8_say_80 E CT X Rt ls st h b) : X 80 ls st h b := by
  refine hX k_X8_say_80 80 ok_X8_say_80 _ ?_ ls st h b q
  exact fun t ls st h b q => q
-- X8_say: cuts [6, 31, 66, 80]
def k_X8_bodyOf_0 : List ZI := [(.iload_n 1, 1, (0, [1], [])), (.lookupswitch 242 #[(10, 91), (11, 98), (12, 113), (13, 120), (20, 146), (30, 158), (40, 181), (50, 192), (60, 215), (70, 227)], 91, (0, [243], [(10, 92), (11, 99), (12, 114), (13, 121), (20, 147), (30, 159), (40, 182), (50, 193), (60, 216), (70, 228)]))]
theorem ok_X8_bodyOf_0 : zOK cX8_bodyOf 8 false 5 k_X8_bodyOf_0 0 = true := zOK_by (by decide +kernel)
def k_X8_bodyOf_92 : List ZI := [(.iload_n 3, 1, (0, [3], [])), (.aload_n 0, 1, (0, [0], [])), (.getfield 32, 3, (0, [8, 2], [])), (.iadd, 1, (0, [], [])), (.ireturn, 1, (0, [], []))]
theorem ok_X8_bodyOf_92 : zOK cX8_bodyOf 8 false 5 k_X8_bodyOf_92 92 = true := zOK_by (by decide +kernel)
def k_X8_bodyOf_99 : List ZI := [(.aload_n 0, 1, (0, [0], [])), (.aload_n 0, 1, (0, [0], [])), (.getfield 30, 3, (0, [8, 1], [])), (.iconst 0, 1, (0, [], [])), (.iload_n 3, 1, (0, [3], [])), (.iload 4, 2, (0, [4], [])), (.invokevirtual 40, 3, (0, [53, 5, 0, 8], [])), (.iconst 2, 1, (0, [], [])), (.imul, 1, (0, [], [])), (.ireturn, 1, (0, [], []))]
theorem ok_X8_bodyOf_99 : zOK cX8_bodyOf 8 false 5 k_X8_bodyOf_99 99 = true := zOK_by (by decide +kernel)
def k_X8_bodyOf_114 : List ZI := [(.iload_n 3, 1, (0, [3], [])), (.aload_n 0, 1, (0, [0], [])), (.getfield 38, 3, (0, [8, 3], [])), (.isub, 1, (0, [], [])), (.ireturn, 1, (0, [], []))]
theorem ok_X8_bodyOf_114 : zOK cX8_bodyOf 8 false 5 k_X8_bodyOf_114 114 = true := zOK_by (by decide +kernel)
def k_X8_bodyOf_121 : List ZI := [(.aload_n 0, 1, (0, [0], [])), (.aload_n 0, 1, (0, [0], [])), (.getfield 30, 3, (0, [8, 1], [])), (.iconst 1, 1, (0, [], [])), (.iload_n 3, 1, (0, [3], [])), (.iload 4, 2, (0, [4], [])), (.invokevirtual 40, 3, (0, [53, 5, 0, 8], []))]
theorem ok_X8_bodyOf_121 : zOK cX8_bodyOf 8 false 5 k_X8_bodyOf_121 121 = true := zOK_by (by decide +kernel)
def k_X8_bodyOf_133 : List ZI := [(.aload_n 0, 1, (0, [0], [])), (.aload_n 0, 1, (0, [0], [])), (.getfield 30, 3, (0, [8, 1], [])), (.iconst 2, 1, (0, [], [])), (.iload_n 3, 1, (0, [3], [])), (.iload 4, 2, (0, [4], [])), (.invokevirtual 40, 3, (0, [53, 5, 0, 8], [])), (.ixor, 1, (0, [], [])), (.ireturn, 1, (0, [], []))]
theorem ok_X8_bodyOf_133 : zOK cX8_bodyOf 8 false 5 k_X8_bodyOf_133 133 = true := zOK_by (by decide +kernel)
def k_X8_bodyOf_147 : List ZI := [(.aload_n 0, 1, (0, [0], [])), (.iload_n 2, 1, (0, [2], [])), (.iconst 0, 1, (0, [], [])), (.iload_n 3, 1, (0, [3], [])), (.iload 4, 2, (0, [4], [])), (.invokevirtual 40, 3, (0, [53, 5, 0, 8], [])), (.iconst 3, 1, (0, [], [])), (.imul, 1, (0, [], [])), (.ireturn, 1, (0, [], []))]
theorem ok_X8_bodyOf_147 : zOK cX8_bodyOf 8 false 5 k_X8_bodyOf_147 147 = true := zOK_by (by decide +kernel)
def k_X8_bodyOf_159 : List ZI := [(.aload_n 0, 1, (0, [0], [])), (.iload_n 2, 1, (0, [2], [])), (.iconst 1, 1, (0, [], [])), (.iload_n 3, 1, (0, [3], [])), (.iload 4, 2, (0, [4], [])), (.invokevirtual 40, 3, (0, [53, 5, 0, 8], []))]
theorem ok_X8_bodyOf_159 : zOK cX8_bodyOf 8 false 5 k_X8_bodyOf_159 159 = true := zOK_by (by decide +kernel)
def k_X8_bodyOf_168 : List ZI := [(.aload_n 0, 1, (0, [0], [])), (.aload_n 0, 1, (0, [0], [])), (.getfield 30, 3, (0, [8, 1], [])), (.iconst 2, 1, (0, [], [])), (.iconst 1, 1, (0, [], [])), (.iload 4, 2, (0, [4], [])), (.invokevirtual 40, 3, (0, [53, 5, 0, 8], [])), (.isub, 1, (0, [], [])), (.ireturn, 1, (0, [], []))]
theorem ok_X8_bodyOf_168 : zOK cX8_bodyOf 8 false 5 k_X8_bodyOf_168 168 = true := zOK_by (by decide +kernel)
def k_X8_bodyOf_182 : List ZI := [(.aload_n 0, 1, (0, [0], [])), (.iload_n 2, 1, (0, [2], [])), (.iconst 2, 1, (0, [], [])), (.iload_n 3, 1, (0, [3], [])), (.iload 4, 2, (0, [4], [])), (.invokevirtual 40, 3, (0, [53, 5, 0, 8], [])), (.ineg, 1, (0, [], [])), (.ireturn, 1, (0, [], []))]
theorem ok_X8_bodyOf_182 : zOK cX8_bodyOf 8 false 5 k_X8_bodyOf_182 182 = true := zOK_by (by decide +kernel)
def k_X8_bodyOf_193 : List ZI := [(.aload_n 0, 1, (0, [0], [])), (.iload_n 2, 1, (0, [2], [])), (.iconst 3, 1, (0, [], [])), (.iload_n 3, 1, (0, [3], [])), (.iload 4, 2, (0, [4], [])), (.invokevirtual 40, 3, (0, [53, 5, 0, 8], []))]
theorem ok_X8_bodyOf_193 : zOK cX8_bodyOf 8 false 5 k_X8_bodyOf_193 193 = true := zOK_by (by decide +kernel)
def k_X8_bodyOf_202 : List ZI := [(.aload_n 0, 1, (0, [0], [])), (.aload_n 0, 1, (0, [0], [])), (.getfield 30, 3, (0, [8, 1], [])), (.iconst 0, 1, (0, [], [])), (.iconst 2, 1, (0, [], [])), (.iload 4, 2, (0, [4], [])), (.invokevirtual 40, 3, (0, [53, 5, 0, 8], [])), (.isub, 1, (0, [], [])), (.ireturn, 1, (0, [], []))]
theorem ok_X8_bodyOf_202 : zOK cX8_bodyOf 8 false 5 k_X8_bodyOf_202 202 = true := zOK_by (by decide +kernel)
def k_X8_bodyOf_216 : List ZI := [(.aload_n 0, 1, (0, [0], [])), (.iload_n 2, 1, (0, [2], [])), (.iconst 1, 1, (0, [], [])), (.iload_n 3, 1, (0, [3], [])), (.iconst 1, 1, (0, [], [])), (.iadd, 1, (0, [], [])), (.iload 4, 2, (0, [4], [])), (.invokevirtual 40, 3, (0, [53, 5, 0, 8], [])), (.ireturn, 1, (0, [], []))]
theorem ok_X8_bodyOf_216 : zOK cX8_bodyOf 8 false 5 k_X8_bodyOf_216 216 = true := zOK_by (by decide +kernel)
def k_X8_bodyOf_228 : List ZI := [(.aload_n 0, 1, (0, [0], [])), (.iload_n 2, 1, (0, [2], [])), (.iconst 2, 1, (0, [], [])), (.iload_n 3, 1, (0, [3], [])), (.iload 4, 2, (0, [4], [])), (.invokevirtual 40, 3, (0, [53, 5, 0, 8], []))]
theorem ok_X8_bodyOf_228 : zOK cX8_bodyOf 8 false 5 k_X8_bodyOf_228 228 = true := zOK_by (by decide +kernel)
def k_X8_bodyOf_237 : List ZI := [(.aload_n 0, 1, (0, [0], [])), (.getfield 32, 3, (0, [8, 2], [])), (.ixor, 1, (0, [], [])), (.ireturn, 1, (0, [], []))]
theorem ok_X8_bodyOf_237 : zOK cX8_bodyOf 8 false 5 k_X8_bodyOf_237 237 = true := zOK_by (by decide +kernel)
def k_X8_bodyOf_243 : List ZI := [(.aload_n 0, 1, (0, [0], [])), (.aload_n 0, 1, (0, [0], [])), (.getfield 30, 3, (0, [8, 1], [])), (.iconst 1, 1, (0, [], [])), (.iload_n 3, 1, (0, [3], [])), (.iload 4, 2, (0, [4], [])), (.invokevirtual 40, 3, (0, [53, 5, 0, 8], []))]
theorem ok_X8_bodyOf_243 : zOK cX8_bodyOf 8 false 5 k_X8_bodyOf_243 243 = true := zOK_by (by decide +kernel)
def k_X8_bodyOf_255 : List ZI := [(.aload_n 0, 1, (0, [0], [])), (.iload_n 2, 1, (0, [2], [])), (.iconst 3, 1, (0, [], [])), (.iload_n 3, 1, (0, [3], [])), (.iload 4, 2, (0, [4], [])), (.invokevirtual 40, 3, (0, [53, 5, 0, 8], [])), (.isub, 1, (0, [], [])), (.ireturn, 1, (0, [], []))]
theorem ok_X8_bodyOf_255 : zOK cX8_bodyOf 8 false 5 k_X8_bodyOf_255 255 = true := zOK_by (by decide +kernel)
theorem rt_X8_bodyOf {g : Nat} {post : Option ZV → ZH → Prop} {h : ZH} {b : ZB2} {z : Int} : zRt mX8_bodyOf g post (some (.inl z)) h b = (post (some (.inl z)) h ∧ h.1.length = g) := by show (_ ∧ _ ∧ True) = _; simp
def bk_X8_bodyOf_0 (E : ZE) (CT : Nat → ZC) (X : ZK) (Rt : ZR) (ls : ZL) (st : List ZV) (h : ZH) (b : ZB2) : Prop := zB E CT k_X8_bodyOf_0 0 ls st h b (fun t ls st h b => X t ls st h b) Rt
theorem bs_X8_bodyOf_0 {E : ZE} {CT : Nat → ZC} {X : ZK} {Rt : ZR} {ls : ZL} {st : List ZV} {h : ZH} {b : ZB2} (hX : zCl E mX8_bodyOf 8 false CT Rt X) (q : bk_X8_bodyOf_0 E CT X Rt ls st h b) : X 0 ls st h b := by
  refine hX k_X8_bodyOf_0 0 ok_X8_bodyOf_0 _ ?_ ls st h b q
  exact fun t ls st h b q => q
def bk_X8_bodyOf_92 (E : ZE) (CT : Nat → ZC) (X : ZK) (Rt : ZR) (ls : ZL) (st : List ZV) (h : ZH) (b : ZB2) : Prop := zB E CT k_X8_bodyOf_92 92 ls st h b (fun t ls st h b => X t ls st h b) Rt
theorem bs_X8_bodyOf_92 {E : ZE} {CT : Nat → ZC} {X : ZK} {Rt : ZR} {ls : ZL} {st : List ZV} {h : ZH} {b : ZB2} (hX : zCl E mX8_bodyOf 8 false CT Rt X) (q : bk_X8_bodyOf_92 E CT X Rt ls st h b) : X 92 ls st h b := by
  refine hX k_X8_bodyOf_92 92 ok_X8_bodyOf_92 _ ?_ ls st h b q
  exact fun t ls st h b q => q
def bk_X8_bodyOf_99 (E : ZE) (CT : Nat → ZC) (X : ZK) (Rt : ZR) (ls : ZL) (st : List ZV) (h : ZH) (b : ZB2) : Prop := zB E CT k_X8_bodyOf_99 99 ls st h b (fun t ls st h b => X t ls st h b) Rt
theorem bs_X8_bodyOf_99 {E : ZE} {CT : Nat → ZC} {X : ZK} {Rt : ZR} {ls : ZL} {st : List ZV} {h : ZH} {b : ZB2} (hX : zCl E mX8_bodyOf 8 false CT Rt X) (q : bk_X8_bodyOf_99 E CT X Rt ls st h b) : X 99 ls st h b := by
  refine hX k_X8_bodyOf_99 99 ok_X8_bodyOf_99 _ ?_ ls st h b q
  exact fun t ls st h b q => q
def bk_X8_bodyOf_114 (E : ZE) (CT : Nat → ZC) (X : ZK) (Rt : ZR) (ls : ZL) (st : List ZV) (h : ZH) (b : ZB2) : Prop := zB E CT k_X8_bodyOf_114 114 ls st h b (fun t ls st h b => X t ls st h b) Rt
theorem bs_X8_bodyOf_114 {E : ZE} {CT : Nat → ZC} {X : ZK} {Rt : ZR} {ls : ZL} {st : List ZV} {h : ZH} {b : ZB2} (hX : zCl E mX8_bodyOf 8 false CT Rt X) (q : bk_X8_bodyOf_114 E CT X Rt ls st h b) : X 114 ls st h b := by
  refine hX k_X8_bodyOf_114 114 ok_X8_bodyOf_114 _ ?_ ls st h b q
  exact fun t ls st h b q => q
def bk_X8_bodyOf_121 (E : ZE) (CT : Nat → ZC) (X : ZK) (Rt : ZR) (ls : ZL) (st : List ZV) (h : ZH) (b : ZB2) : Prop := zB E CT k_X8_bodyOf_121 121 ls st h b (fun t ls st h b => X t ls st h b) Rt
theorem bs_X8_bodyOf_121 {E : ZE} {CT : Nat → ZC} {X : ZK} {Rt : ZR} {ls : ZL} {st : List ZV} {h : ZH} {b : ZB2} (hX : zCl E mX8_bodyOf 8 false CT Rt X) (q : bk_X8_bodyOf_121 E CT X Rt ls st h b) : X 121 ls st h b := by
  refine hX k_X8_bodyOf_121 121 ok_X8_bodyOf_121 _ ?_ ls st h b q
  exact fun t ls st h b q => q
def bk_X8_bodyOf_133 (E : ZE) (CT : Nat → ZC) (X : ZK) (Rt : ZR) (ls : ZL) (st : List ZV) (h : ZH) (b : ZB2) : Prop := zB E CT k_X8_bodyOf_133 133 ls st h b (fun t ls st h b => X t ls st h b) Rt
theorem bs_X8_bodyOf_133 {E : ZE} {CT : Nat → ZC} {X : ZK} {Rt : ZR} {ls : ZL} {st : List ZV} {h : ZH} {b : ZB2} (hX : zCl E mX8_bodyOf 8 false CT Rt X) (q : bk_X8_bodyOf_133 E CT X Rt ls st h b) : X 133 ls st h b := by
  refine hX k_X8_bodyOf_133 133 ok_X8_bodyOf_133 _ ?_ ls st h b q
  exact fun t ls st h b q => q
def bk_X8_bodyOf_147 (E : ZE) (CT : Nat → ZC) (X : ZK) (Rt : ZR) (ls : ZL) (st : List ZV) (h : ZH) (b : ZB2) : Prop := zB E CT k_X8_bodyOf_147 147 ls st h b (fun t ls st h b => X t ls st h b) Rt
theorem bs_X8_bodyOf_147 {E : ZE} {CT : Nat → ZC} {X : ZK} {Rt : ZR} {ls : ZL} {st : List ZV} {h : ZH} {b : ZB2} (hX : zCl E mX8_bodyOf 8 false CT Rt X) (q : bk_X8_bodyOf_147 E CT X Rt ls st h b) : X 147 ls st h b := by
  refine hX k_X8_bodyOf_147 147 ok_X8_bodyOf_147 _ ?_ ls st h b q
  exact fun t ls st h b q => q
def bk_X8_bodyOf_159 (E : ZE) (CT : Nat → ZC) (X : ZK) (Rt : ZR) (ls : ZL) (st : List ZV) (h : ZH) (b : ZB2) : Prop := zB E CT k_X8_bodyOf_159 159 ls st h b (fun t ls st h b => X t ls st h b) Rt
theorem bs_X8_bodyOf_159 {E : ZE} {CT : Nat → ZC} {X : ZK} {Rt : ZR} {ls : ZL} {st : List ZV} {h : ZH} {b : ZB2} (hX : zCl E mX8_bodyOf 8 false CT Rt X) (q : bk_X8_bodyOf_159 E CT X Rt ls st h b) : X 159 ls st h b := by
  refine hX k_X8_bodyOf_159 159 ok_X8_bodyOf_159 _ ?_ ls st h b q
  exact fun t ls st h b q => q
def bk_X8_bodyOf_168 (E : ZE) (CT : Nat → ZC) (X : ZK) (Rt : ZR) (ls : ZL) (st : List ZV) (h : ZH) (b : ZB2) : Prop := zB E CT k_X8_bodyOf_168 168 ls st h b (fun t ls st h b => X t ls st h b) Rt
theorem bs_X8_bodyOf_168 {E : ZE} {CT : Nat → ZC} {X : ZK} {Rt : ZR} {ls : ZL} {st : List ZV} {h : ZH} {b : ZB2} (hX : zCl E mX8_bodyOf 8 false CT Rt X) (q : bk_X8_bodyOf_168 E CT X Rt ls st h b) : X 168 ls st h b := by
  refine hX k_X8_bodyOf_168 168 ok_X8_bodyOf_168 _ ?_ ls st h b q
  exact fun t ls st h b q => q
def bk_X8_bodyOf_182 (E : ZE) (CT : Nat → ZC) (X : ZK) (Rt : ZR) (ls : ZL) (st : List ZV) (h : ZH) (b : ZB2) : Prop := zB E CT k_X8_bodyOf_182 182 ls st h b (fun t ls st h b => X t ls st h b) Rt
theorem bs_X8_bodyOf_182 {E : ZE} {CT : Nat → ZC} {X : ZK} {Rt : ZR} {ls : ZL} {st : List ZV} {h : ZH} {b : ZB2} (hX : zCl E mX8_bodyOf 8 false CT Rt X) (q : bk_X8_bodyOf_182 E CT X Rt ls st h b) : X 182 ls st h b := by
  refine hX k_X8_bodyOf_182 182 ok_X8_bodyOf_182 _ ?_ ls st h b q
  exact fun t ls st h b q => q
def bk_X8_bodyOf_193 (E : ZE) (CT : Nat → ZC) (X : ZK) (Rt : ZR) (ls : ZL) (st : List ZV) (h : ZH) (b : ZB2) : Prop := zB E CT k_X8_bodyOf_193 193 ls st h b (fun t ls st h b => X t ls st h b) Rt
theorem bs_X8_bodyOf_193 {E : ZE} {CT : Nat → ZC} {X : ZK} {Rt : ZR} {ls : ZL} {st : List ZV} {h : ZH} {b : ZB2} (hX : zCl E mX8_bodyOf 8 false CT Rt X) (q : bk_X8_bodyOf_193 E CT X Rt ls st h b) : X 193 ls st h b := by
  refine hX k_X8_bodyOf_193 193 ok_X8_bodyOf_193 _ ?_ ls st h b q
  exact fun t ls st h b q => q
def bk_X8_bodyOf_202 (E : ZE) (CT : Nat → ZC) (X : ZK) (Rt : ZR) (ls : ZL) (st : List ZV) (h : ZH) (b : ZB2) : Prop := zB E CT k_X8_bodyOf_202 202 ls st h b (fun t ls st h b => X t ls st h b) Rt
theorem bs_X8_bodyOf_202 {E : ZE} {CT : Nat → ZC} {X : ZK} {Rt : ZR} {ls : ZL} {st : List ZV} {h : ZH} {b : ZB2} (hX : zCl E mX8_bodyOf 8 false CT Rt X) (q : bk_X8_bodyOf_202 E CT X Rt ls st h b) : X 202 ls st h b := by
  refine hX k_X8_bodyOf_202 202 ok_X8_bodyOf_202 _ ?_ ls st h b q
  exact fun t ls st h b q => q
def bk_X8_bodyOf_216 (E : ZE) (CT : Nat → ZC) (X : ZK) (Rt : ZR) (ls : ZL) (st : List ZV) (h : ZH) (b : ZB2) : Prop := zB E CT k_X8_bodyOf_216 216 ls st h b (fun t ls st h b => X t ls st h b) Rt
theorem bs_X8_bodyOf_216 {E : ZE} {CT : Nat → ZC} {X : ZK} {Rt : ZR} {ls : ZL} {st : List ZV} {h : ZH} {b : ZB2} (hX : zCl E mX8_bodyOf 8 false CT Rt X) (q : bk_X8_bodyOf_216 E CT X Rt ls st h b) : X 216 ls st h b := by
  refine hX k_X8_bodyOf_216 216 ok_X8_bodyOf_216 _ ?_ ls st h b q
  exact fun t ls st h b q => q
def bk_X8_bodyOf_228 (E : ZE) (CT : Nat → ZC) (X : ZK) (Rt : ZR) (ls : ZL) (st : List ZV) (h : ZH) (b : ZB2) : Prop := zB E CT k_X8_bodyOf_228 228 ls st h b (fun t ls st h b => X t ls st h b) Rt
theorem bs_X8_bodyOf_228 {E : ZE} {CT : Nat → ZC} {X : ZK} {Rt : ZR} {ls : ZL} {st : List ZV} {h : ZH} {b : ZB2} (hX : zCl E mX8_bodyOf 8 false CT Rt X) (q : bk_X8_bodyOf_228 E CT X Rt ls st h b) : X 228 ls st h b := by
  refine hX k_X8_bodyOf_228 228 ok_X8_bodyOf_228 _ ?_ ls st h b q
  exact fun t ls st h b q => q
def bk_X8_bodyOf_237 (E : ZE) (CT : Nat → ZC) (X : ZK) (Rt : ZR) (ls : ZL) (st : List ZV) (h : ZH) (b : ZB2) : Prop := zB E CT k_X8_bodyOf_237 237 ls st h b (fun t ls st h b => X t ls st h b) Rt
theorem bs_X8_bodyOf_237 {E : ZE} {CT : Nat → ZC} {X : ZK} {Rt : ZR} {ls : ZL} {st : List ZV} {h : ZH} {b : ZB2} (hX : zCl E mX8_bodyOf 8 false CT Rt X) (q : bk_X8_bodyOf_237 E CT X Rt ls st h b) : X 237 ls st h b := by
  refine hX k_X8_bodyOf_237 237 ok_X8_bodyOf_237 _ ?_ ls st h b q
  exact fun t ls st h b q => q
def bk_X8_bodyOf_243 (E : ZE) (CT : Nat → ZC) (X : ZK) (Rt : ZR) (ls : ZL) (st : List ZV) (h : ZH) (b : ZB2) : Prop := zB E CT k_X8_bodyOf_243 243 ls st h b (fun t ls st h b => X t ls st h b) Rt
theorem bs_X8_bodyOf_243 {E : ZE} {CT : Nat → ZC} {X : ZK} {Rt : ZR} {ls : ZL} {st : List ZV} {h : ZH} {b : ZB2} (hX : zCl E mX8_bodyOf 8 false CT Rt X) (q : bk_X8_bodyOf_243 E CT X Rt ls st h b) : X 243 ls st h b := by
  refine hX k_X8_bodyOf_243 243 ok_X8_bodyOf_243 _ ?_ ls st h b q
  exact fun t ls st h b q => q
def bk_X8_bodyOf_255 (E : ZE) (CT : Nat → ZC) (X : ZK) (Rt : ZR) (ls : ZL) (st : List ZV) (h : ZH) (b : ZB2) : Prop := zB E CT k_X8_bodyOf_255 255 ls st h b (fun t ls st h b => X t ls st h b) Rt
theorem bs_X8_bodyOf_255 {E : ZE} {CT : Nat → ZC} {X : ZK} {Rt : ZR} {ls : ZL} {st : List ZV} {h : ZH} {b : ZB2} (hX : zCl E mX8_bodyOf 8 false CT Rt X) (q : bk_X8_bodyOf_255 E CT X Rt ls st h b) : X 255 ls st h b := by
  refine hX k_X8_bodyOf_255 255 ok_X8_bodyOf_255 _ ?_ ls st h b q
  exact fun t ls st h b q => q
-- X8_bodyOf: cuts [92, 99, 114, 121, 133, 147, 159, 168, 182, 193, 202, 216, 228, 237, 243, 255]
def k_X10_voice_0 : List ZI := [(.aload_n 0, 1, (0, [0], [])), (.iload_n 1, 1, (0, [1], [])), (.invokevirtual 153, 3, (0, [112, 2, 0, 10], [])), (.ifCond .ne 11, 3, (0, [16], []))]
theorem ok_X10_voice_0 : zOK cX10_voice 10 false 4 k_X10_voice_0 0 = true := zOK_by (by decide +kernel)
def k_X10_voice_8 : List ZI := [(.iload_n 2, 1, (0, [2], [])), (.iconst 3, 1, (0, [], [])), (.invokestatic 92, 3, (0, [111, 2, 0, 10], [])), (.ifCond .eq 10, 3, (0, [23], []))]
theorem ok_X10_voice_8 : zOK cX10_voice 10 false 4 k_X10_voice_8 8 = true := zOK_by (by decide +kernel)
def k_X10_voice_16 : List ZI := [(.aload_n 0, 1, (0, [0], [])), (.ldc 96, 2, ((-1000000001), [], [])), (.invokevirtual 97, 3, (0, [110, 2, 0, 10], [])), (.ireturn, 1, (0, [], []))]
theorem ok_X10_voice_16 : zOK cX10_voice 10 false 4 k_X10_voice_16 16 = true := zOK_by (by decide +kernel)
def k_X10_voice_23 : List ZI := [(.aload_n 0, 1, (0, [0], [])), (.getfield 77, 3, (0, [10, 6], [])), (.aload_n 0, 1, (0, [0], [])), (.getfield 12, 3, (0, [10, 0], [])), (.getfield 25, 3, (0, [6, 1], [])), (.iload_n 1, 1, (0, [1], [])), (.iload_n 2, 1, (0, [2], [])), (.iload_n 3, 1, (0, [3], [])), (.invokevirtual 246, 3, (0, [52, 5, 0, 8], [])), (.ireturn, 1, (0, [], []))]
theorem ok_X10_voice_23 : zOK cX10_voice 10 false 4 k_X10_voice_23 23 = true := zOK_by (by decide +kernel)
theorem rt_X10_voice {g : Nat} {post : Option ZV → ZH → Prop} {h : ZH} {b : ZB2} {z : Int} : zRt mX10_voice g post (some (.inl z)) h b = (post (some (.inl z)) h ∧ h.1.length = g) := by show (_ ∧ _ ∧ True) = _; simp
def bk_X10_voice_0 (E : ZE) (CT : Nat → ZC) (X : ZK) (Rt : ZR) (ls : ZL) (st : List ZV) (h : ZH) (b : ZB2) : Prop := zB E CT k_X10_voice_0 0 ls st h b (fun t ls st h b => X t ls st h b) Rt
theorem bs_X10_voice_0 {E : ZE} {CT : Nat → ZC} {X : ZK} {Rt : ZR} {ls : ZL} {st : List ZV} {h : ZH} {b : ZB2} (hX : zCl E mX10_voice 10 false CT Rt X) (q : bk_X10_voice_0 E CT X Rt ls st h b) : X 0 ls st h b := by
  refine hX k_X10_voice_0 0 ok_X10_voice_0 _ ?_ ls st h b q
  exact fun t ls st h b q => q
def bk_X10_voice_8 (E : ZE) (CT : Nat → ZC) (X : ZK) (Rt : ZR) (ls : ZL) (st : List ZV) (h : ZH) (b : ZB2) : Prop := zB E CT k_X10_voice_8 8 ls st h b (fun t ls st h b => X t ls st h b) Rt
theorem bs_X10_voice_8 {E : ZE} {CT : Nat → ZC} {X : ZK} {Rt : ZR} {ls : ZL} {st : List ZV} {h : ZH} {b : ZB2} (hX : zCl E mX10_voice 10 false CT Rt X) (q : bk_X10_voice_8 E CT X Rt ls st h b) : X 8 ls st h b := by
  refine hX k_X10_voice_8 8 ok_X10_voice_8 _ ?_ ls st h b q
  exact fun t ls st h b q => q
def bk_X10_voice_16 (E : ZE) (CT : Nat → ZC) (X : ZK) (Rt : ZR) (ls : ZL) (st : List ZV) (h : ZH) (b : ZB2) : Prop := zB E CT k_X10_voice_16 16 ls st h b (fun t ls st h b => X t ls st h b) Rt
theorem bs_X10_voice_16 {E : ZE} {CT : Nat → ZC} {X : ZK} {Rt : ZR} {ls : ZL} {st : List ZV} {h : ZH} {b : ZB2} (hX : zCl E mX10_voice 10 false CT Rt X) (q : bk_X10_voice_16 E CT X Rt ls st h b) : X 16 ls st h b := by
  refine hX k_X10_voice_16 16 ok_X10_voice_16 _ ?_ ls st h b q
  exact fun t ls st h b q => q
def bk_X10_voice_23 (E : ZE) (CT : Nat → ZC) (X : ZK) (Rt : ZR) (ls : ZL) (st : List ZV) (h : ZH) (b : ZB2) : Prop := zB E CT k_X10_voice_23 23 ls st h b (fun t ls st h b => X t ls st h b) Rt
theorem bs_X10_voice_23 {E : ZE} {CT : Nat → ZC} {X : ZK} {Rt : ZR} {ls : ZL} {st : List ZV} {h : ZH} {b : ZB2} (hX : zCl E mX10_voice 10 false CT Rt X) (q : bk_X10_voice_23 E CT X Rt ls st h b) : X 23 ls st h b := by
  refine hX k_X10_voice_23 23 ok_X10_voice_23 _ ?_ ls st h b q
  exact fun t ls st h b q => q
-- X10_voice: cuts [8, 16, 23]
def vspf (n m o f a x : Int) (t : T2) : Int × T2 := if a = 0 then vkn n f x t else if a = 1 then vhe n m o f x t else if a = 2 then vdg n m f x t else vte n m o f x t
def vbo (n m o b x : Int) (t : T2) : Int × T2 := if b = 10 then (x + n, t) else if b = 11 then ((vkn n o x t).1 * 2, (vkn n o x t).2) else if b = 12 then (x - m, t) else if b = 13 then (zxor (vhe n m o o x t).1 (vdg n m o x (vhe n m o o x t).2).1, (vdg n m o x (vhe n m o o x t).2).2) else if b = 20 then ((vkn n 0 x t).1 * 3, (vkn n 0 x t).2) else if b = 30 then ((vhe n m o 0 x t).1 - (vdg n m o 1 (vhe n m o 0 x t).2).1, (vdg n m o 1 (vhe n m o 0 x t).2).2) else if b = 40 then (-(vdg n m 0 x t).1, (vdg n m 0 x t).2) else if b = 50 then ((vte n m o 1 x t).1 - (vkn n o 2 (vte n m o 1 x t).2).1, (vkn n o 2 (vte n m o 1 x t).2).2) else if b = 60 then vhe n m o 2 (x + 1) t else if b = 70 then (zxor (vdg n m 3 x t).1 n, (vdg n m 3 x t).2) else ((vhe n m o o x t).1 - (vte n m o 3 x (vhe n m o o x t).2).1, (vte n m o 3 x (vhe n m o o x t).2).2)
def srk (f a : Int) : Nat := if a = 0 then (if f = 1 ∨ f = 4 then 2 else 1) else if a = 1 then (if f = 2 then 4 else if f = 5 then 5 else 3) else if a = 2 then (if f = 3 then 2 else if f = 6 then 3 else 1) else (if f = 4 ∨ f = 6 then 7 else 6)
def vbk (b c : Int) (r : Nat) : Prop := b = 10 ∨ b = 12 ∨ (b = 20 ∧ c = 0 ∧ 1 ≤ r) ∨ (b = 11 ∧ 2 ≤ r) ∨ (b = 40 ∧ c = 0 ∧ 1 ≤ r) ∨ (b = 70 ∧ c = 3 ∧ 2 ≤ r) ∨ (b = 30 ∧ c = 0 ∧ 3 ≤ r) ∨ (b = 60 ∧ c = 2 ∧ 4 ≤ r) ∨ (b = 13 ∧ 5 ≤ r) ∨ (b = 50 ∧ c = 1 ∧ 6 ≤ r) ∨ (b = 71 ∧ c = 3 ∧ 6 ≤ r)
def tV (M : ZMm) : T2 := (M 76, M 75 1)
def Vv (M : ZMm) : Prop := (0 ≤ M 74 1 ∧ M 74 1 ≤ 6) ∧ (0 ≤ M 75 1 ∧ M 75 1 ≤ 40)
def Nv (M : ZMm) (t : T2) (M' : ZMm) : Prop := tV M' = t ∧ ∀ x i, ¬ x = 76 → ¬ (x = 75 ∧ i = 1) → M' x i = M x i
theorem Nv.f {M M' : ZMm} {t : T2} (h : Nv M t M') (k : Nat) : M' 74 k = M 74 k := h.2 74 k (by omega) (by omega)
theorem Nv.trans {M M1 M2 : ZMm} {t t2 : T2} (h : Nv M t M1) (h2 : Nv M1 t2 M2) : Nv M t2 M2 := ⟨h2.1, fun x i q1 q2 => (h2.2 x i q1 q2).trans (h.2 x i q1 q2)⟩
theorem Nv.ok {M M' : ZMm} {t : T2} (h : Nv M t M') (hv : Vv M) (ht : tok t) : Vv M' := by
  refine ⟨by rw [h.f]; exact hv.1, ?_⟩
  have : M' 75 1 = t.2 := by rw [← h.1]; rfl
  rw [this]
  exact ht
theorem Vv.tok {M : ZMm} (h : Vv M) : tok (tV M) := h.2
theorem vspf_ok {n m o f a x : Int} {t : T2} (h : tok t) : tok (vspf n m o f a x t).2 := by
  unfold vspf
  split
  · exact vkn_ok h
  · split
    · exact vhe_ok h
    · split
      · exact vdg_ok h
      · exact vte_ok h
abbrev vSp (M : ZMm) (f a x : Int) : Int × T2 := vspf (M 74 2) (M 74 3) (M 74 1) f a x (tV M)
def B_vsy (r : Nat) (f : Int) (a : Int) (x : Int) (q : Int) (M : Nat → Nat → Int) (post : Option ZV → (Nat → Nat → Int) → Prop) : Prop := (0 ≤ f ∧ f ≤ 6) ∧ (0 ≤ a ∧ a ≤ 3) ∧ srk f a ≤ r ∧ (0 ≤ q ∧ q + r ≤ 20) ∧ Vv M ∧ ∀ M2 : ZMm, Nv M (vSp M f a x).2 M2 → post (some (.inl (vSp M f a x).1)) M2
def C_vsy (r : Nat) : ZC := fun as h post => match as with
  | [.inr (.inr (.inl 74)), .inl f, .inl a, .inl x, .inl q] => h.1 = zG ∧ B_vsy r f a x q h.2 (fun v M => post v (zG, M))
  | _ => False
theorem r_vsy {r : Nat} {f : Int} {a : Int} {x : Int} {q : Int} {M : Nat → Nat → Int} {post : Option ZV → ZH → Prop} : C_vsy r [.inr (.inr (.inl 74)), .inl f, .inl a, .inl x, .inl q] (zG, M) post = B_vsy r f a x q M (fun v M => post v (zG, M)) := by show (zG = zG ∧ _) = _; simp
def B_vbd (r : Nat) (b : Int) (c : Int) (x : Int) (q : Int) (M : Nat → Nat → Int) (post : Option ZV → (Nat → Nat → Int) → Prop) : Prop := vbk b c r ∧ (0 ≤ q ∧ q + r ≤ 20) ∧ Vv M ∧ ∀ M2 : ZMm, Nv M (vbo (M 74 2) (M 74 3) (M 74 1) b x (tV M)).2 M2 → post (some (.inl (vbo (M 74 2) (M 74 3) (M 74 1) b x (tV M)).1)) M2
def C_vbd (r : Nat) : ZC := fun as h post => match as with
  | [.inr (.inr (.inl 74)), .inl b, .inl c, .inl x, .inl q] => h.1 = zG ∧ B_vbd r b c x q h.2 (fun v M => post v (zG, M))
  | _ => False
theorem r_vbd {r : Nat} {b : Int} {c : Int} {x : Int} {q : Int} {M : Nat → Nat → Int} {post : Option ZV → ZH → Prop} : C_vbd r [.inr (.inr (.inl 74)), .inl b, .inl c, .inl x, .inl q] (zG, M) post = B_vbd r b c x q M (fun v M => post v (zG, M)) := by show (zG = zG ∧ _) = _; simp
theorem srk_1 (f a : Int) : 1 ≤ srk f a := by
  unfold srk
  (repeat' split) <;> omega
theorem c_vsy0 {E : ZE} {d : Nat} : zMet E d mX8_say (C_vsy 0) := by
  intro as h post hC
  match as, hC with
  | [.inr (.inr (.inl 74)), .inl f, .inl a, .inl x, .inl q], hC =>
    have := srk_1 f a
    have h2 := hC.2.2.2.1
    omega
theorem vq_0_0 (n m o x : Int) (t : T2) : vspf n m o 0 0 x t = vbo n m o 10 x (rn1 t 10) := by
  simp [vspf, vbo, vkn, vhe, vdg, vte, vh2, vt4, vt6, vh0, vt0]
theorem vk_0_0 {r : Nat} (h : srk 0 0 ≤ r + 1) : vbk 10 (-1) r := by
  have e : srk 0 0 = 1 := by decide
  rw [e] at h
  exact Or.inl rfl
theorem vq_0_1 (n m o x : Int) (t : T2) : vspf n m o 0 1 x t = vbo n m o 11 x (rn1 t 11) := by
  simp [vspf, vbo, vkn, vhe, vdg, vte, vh2, vt4, vt6, vh0, vt0]
theorem vk_0_1 {r : Nat} (h : srk 0 1 ≤ r + 1) : vbk 11 (-1) r := by
  have e : srk 0 1 = 3 := by decide
  rw [e] at h
  exact Or.inr (Or.inr (Or.inr (Or.inl ⟨rfl, by omega⟩)))
theorem vq_0_2 (n m o x : Int) (t : T2) : vspf n m o 0 2 x t = vbo n m o 12 x (rn1 t 12) := by
  simp [vspf, vbo, vkn, vhe, vdg, vte, vh2, vt4, vt6, vh0, vt0]
theorem vk_0_2 {r : Nat} (h : srk 0 2 ≤ r + 1) : vbk 12 (-1) r := by
  have e : srk 0 2 = 1 := by decide
  rw [e] at h
  exact Or.inr (Or.inl rfl)
theorem vq_0_3 (n m o x : Int) (t : T2) : vspf n m o 0 3 x t = vbo n m o 13 x (rn1 t 13) := by
  simp [vspf, vbo, vkn, vhe, vdg, vte, vh2, vt4, vt6, vh0, vt0]
theorem vk_0_3 {r : Nat} (h : srk 0 3 ≤ r + 1) : vbk 13 (-1) r := by
  have e : srk 0 3 = 6 := by decide
  rw [e] at h
  exact Or.inr (Or.inr (Or.inr (Or.inr (Or.inr (Or.inr (Or.inr (Or.inr (Or.inl ⟨rfl, by omega⟩))))))))
theorem vq_1_0 (n m o x : Int) (t : T2) : vspf n m o 1 0 x t = vbo n m o 20 x (rn1 t 20) := by
  simp [vspf, vbo, vkn, vhe, vdg, vte, vh2, vt4, vt6, vh0, vt0]
theorem vk_1_0 {r : Nat} (h : srk 1 0 ≤ r + 1) : vbk 20 (0) r := by
  have e : srk 1 0 = 2 := by decide
  rw [e] at h
  exact Or.inr (Or.inr (Or.inl ⟨rfl, rfl, by omega⟩))
theorem vq_1_1 (n m o x : Int) (t : T2) : vspf n m o 1 1 x t = vbo n m o 11 x (rn1 t 11) := by
  simp [vspf, vbo, vkn, vhe, vdg, vte, vh2, vt4, vt6, vh0, vt0]
theorem vk_1_1 {r : Nat} (h : srk 1 1 ≤ r + 1) : vbk 11 (-1) r := by
  have e : srk 1 1 = 3 := by decide
  rw [e] at h
  exact Or.inr (Or.inr (Or.inr (Or.inl ⟨rfl, by omega⟩)))
theorem vq_1_2 (n m o x : Int) (t : T2) : vspf n m o 1 2 x t = vbo n m o 12 x (rn1 t 12) := by
  simp [vspf, vbo, vkn, vhe, vdg, vte, vh2, vt4, vt6, vh0, vt0]
theorem vk_1_2 {r : Nat} (h : srk 1 2 ≤ r + 1) : vbk 12 (-1) r := by
  have e : srk 1 2 = 1 := by decide
  rw [e] at h
  exact Or.inr (Or.inl rfl)
theorem vq_1_3 (n m o x : Int) (t : T2) : vspf n m o 1 3 x t = vbo n m o 13 x (rn1 t 13) := by
  simp [vspf, vbo, vkn, vhe, vdg, vte, vh2, vt4, vt6, vh0, vt0]
theorem vk_1_3 {r : Nat} (h : srk 1 3 ≤ r + 1) : vbk 13 (-1) r := by
  have e : srk 1 3 = 6 := by decide
  rw [e] at h
  exact Or.inr (Or.inr (Or.inr (Or.inr (Or.inr (Or.inr (Or.inr (Or.inr (Or.inl ⟨rfl, by omega⟩))))))))
theorem vq_2_0 (n m o x : Int) (t : T2) : vspf n m o 2 0 x t = vbo n m o 10 x (rn1 t 10) := by
  simp [vspf, vbo, vkn, vhe, vdg, vte, vh2, vt4, vt6, vh0, vt0]
theorem vk_2_0 {r : Nat} (h : srk 2 0 ≤ r + 1) : vbk 10 (-1) r := by
  have e : srk 2 0 = 1 := by decide
  rw [e] at h
  exact Or.inl rfl
theorem vq_2_1 (n m o x : Int) (t : T2) : vspf n m o 2 1 x t = vbo n m o 30 x (rn1 t 30) := by
  simp [vspf, vbo, vkn, vhe, vdg, vte, vh2, vt4, vt6, vh0, vt0]
theorem vk_2_1 {r : Nat} (h : srk 2 1 ≤ r + 1) : vbk 30 (0) r := by
  have e : srk 2 1 = 4 := by decide
  rw [e] at h
  exact Or.inr (Or.inr (Or.inr (Or.inr (Or.inr (Or.inr (Or.inl ⟨rfl, rfl, by omega⟩))))))
theorem vq_2_2 (n m o x : Int) (t : T2) : vspf n m o 2 2 x t = vbo n m o 12 x (rn1 t 12) := by
  simp [vspf, vbo, vkn, vhe, vdg, vte, vh2, vt4, vt6, vh0, vt0]
theorem vk_2_2 {r : Nat} (h : srk 2 2 ≤ r + 1) : vbk 12 (-1) r := by
  have e : srk 2 2 = 1 := by decide
  rw [e] at h
  exact Or.inr (Or.inl rfl)
theorem vq_2_3 (n m o x : Int) (t : T2) : vspf n m o 2 3 x t = vbo n m o 13 x (rn1 t 13) := by
  simp [vspf, vbo, vkn, vhe, vdg, vte, vh2, vt4, vt6, vh0, vt0]
theorem vk_2_3 {r : Nat} (h : srk 2 3 ≤ r + 1) : vbk 13 (-1) r := by
  have e : srk 2 3 = 6 := by decide
  rw [e] at h
  exact Or.inr (Or.inr (Or.inr (Or.inr (Or.inr (Or.inr (Or.inr (Or.inr (Or.inl ⟨rfl, by omega⟩))))))))
theorem vq_3_0 (n m o x : Int) (t : T2) : vspf n m o 3 0 x t = vbo n m o 10 x (rn1 t 10) := by
  simp [vspf, vbo, vkn, vhe, vdg, vte, vh2, vt4, vt6, vh0, vt0]
theorem vk_3_0 {r : Nat} (h : srk 3 0 ≤ r + 1) : vbk 10 (-1) r := by
  have e : srk 3 0 = 1 := by decide
  rw [e] at h
  exact Or.inl rfl
theorem vq_3_1 (n m o x : Int) (t : T2) : vspf n m o 3 1 x t = vbo n m o 11 x (rn1 t 11) := by
  simp [vspf, vbo, vkn, vhe, vdg, vte, vh2, vt4, vt6, vh0, vt0]
theorem vk_3_1 {r : Nat} (h : srk 3 1 ≤ r + 1) : vbk 11 (-1) r := by
  have e : srk 3 1 = 3 := by decide
  rw [e] at h
  exact Or.inr (Or.inr (Or.inr (Or.inl ⟨rfl, by omega⟩)))
theorem vq_3_2 (n m o x : Int) (t : T2) : vspf n m o 3 2 x t = vbo n m o 40 x (rn1 t 40) := by
  simp [vspf, vbo, vkn, vhe, vdg, vte, vh2, vt4, vt6, vh0, vt0]
theorem vk_3_2 {r : Nat} (h : srk 3 2 ≤ r + 1) : vbk 40 (0) r := by
  have e : srk 3 2 = 2 := by decide
  rw [e] at h
  exact Or.inr (Or.inr (Or.inr (Or.inr (Or.inl ⟨rfl, rfl, by omega⟩))))
theorem vq_3_3 (n m o x : Int) (t : T2) : vspf n m o 3 3 x t = vbo n m o 13 x (rn1 t 13) := by
  simp [vspf, vbo, vkn, vhe, vdg, vte, vh2, vt4, vt6, vh0, vt0]
theorem vk_3_3 {r : Nat} (h : srk 3 3 ≤ r + 1) : vbk 13 (-1) r := by
  have e : srk 3 3 = 6 := by decide
  rw [e] at h
  exact Or.inr (Or.inr (Or.inr (Or.inr (Or.inr (Or.inr (Or.inr (Or.inr (Or.inl ⟨rfl, by omega⟩))))))))
theorem vq_4_0 (n m o x : Int) (t : T2) : vspf n m o 4 0 x t = vbo n m o 20 x (rn1 t 20) := by
  simp [vspf, vbo, vkn, vhe, vdg, vte, vh2, vt4, vt6, vh0, vt0]
theorem vk_4_0 {r : Nat} (h : srk 4 0 ≤ r + 1) : vbk 20 (0) r := by
  have e : srk 4 0 = 2 := by decide
  rw [e] at h
  exact Or.inr (Or.inr (Or.inl ⟨rfl, rfl, by omega⟩))
theorem vq_4_1 (n m o x : Int) (t : T2) : vspf n m o 4 1 x t = vbo n m o 11 x (rn1 t 11) := by
  simp [vspf, vbo, vkn, vhe, vdg, vte, vh2, vt4, vt6, vh0, vt0]
theorem vk_4_1 {r : Nat} (h : srk 4 1 ≤ r + 1) : vbk 11 (-1) r := by
  have e : srk 4 1 = 3 := by decide
  rw [e] at h
  exact Or.inr (Or.inr (Or.inr (Or.inl ⟨rfl, by omega⟩)))
theorem vq_4_2 (n m o x : Int) (t : T2) : vspf n m o 4 2 x t = vbo n m o 12 x (rn1 t 12) := by
  simp [vspf, vbo, vkn, vhe, vdg, vte, vh2, vt4, vt6, vh0, vt0]
theorem vk_4_2 {r : Nat} (h : srk 4 2 ≤ r + 1) : vbk 12 (-1) r := by
  have e : srk 4 2 = 1 := by decide
  rw [e] at h
  exact Or.inr (Or.inl rfl)
theorem vq_4_3 (n m o x : Int) (t : T2) : vspf n m o 4 3 x t = vbo n m o 50 x (rn1 t 50) := by
  simp [vspf, vbo, vkn, vhe, vdg, vte, vh2, vt4, vt6, vh0, vt0]
theorem vk_4_3 {r : Nat} (h : srk 4 3 ≤ r + 1) : vbk 50 (1) r := by
  have e : srk 4 3 = 7 := by decide
  rw [e] at h
  exact Or.inr (Or.inr (Or.inr (Or.inr (Or.inr (Or.inr (Or.inr (Or.inr (Or.inr (Or.inl ⟨rfl, rfl, by omega⟩)))))))))
theorem vq_5_0 (n m o x : Int) (t : T2) : vspf n m o 5 0 x t = vbo n m o 10 x (rn1 t 10) := by
  simp [vspf, vbo, vkn, vhe, vdg, vte, vh2, vt4, vt6, vh0, vt0]
theorem vk_5_0 {r : Nat} (h : srk 5 0 ≤ r + 1) : vbk 10 (-1) r := by
  have e : srk 5 0 = 1 := by decide
  rw [e] at h
  exact Or.inl rfl
theorem vq_5_1 (n m o x : Int) (t : T2) : vspf n m o 5 1 x t = vbo n m o 60 x (rn1 t 60) := by
  simp [vspf, vbo, vkn, vhe, vdg, vte, vh2, vt4, vt6, vh0, vt0]
theorem vk_5_1 {r : Nat} (h : srk 5 1 ≤ r + 1) : vbk 60 (2) r := by
  have e : srk 5 1 = 5 := by decide
  rw [e] at h
  exact Or.inr (Or.inr (Or.inr (Or.inr (Or.inr (Or.inr (Or.inr (Or.inl ⟨rfl, rfl, by omega⟩)))))))
theorem vq_5_2 (n m o x : Int) (t : T2) : vspf n m o 5 2 x t = vbo n m o 12 x (rn1 t 12) := by
  simp [vspf, vbo, vkn, vhe, vdg, vte, vh2, vt4, vt6, vh0, vt0]
theorem vk_5_2 {r : Nat} (h : srk 5 2 ≤ r + 1) : vbk 12 (-1) r := by
  have e : srk 5 2 = 1 := by decide
  rw [e] at h
  exact Or.inr (Or.inl rfl)
theorem vq_5_3 (n m o x : Int) (t : T2) : vspf n m o 5 3 x t = vbo n m o 13 x (rn1 t 13) := by
  simp [vspf, vbo, vkn, vhe, vdg, vte, vh2, vt4, vt6, vh0, vt0]
theorem vk_5_3 {r : Nat} (h : srk 5 3 ≤ r + 1) : vbk 13 (-1) r := by
  have e : srk 5 3 = 6 := by decide
  rw [e] at h
  exact Or.inr (Or.inr (Or.inr (Or.inr (Or.inr (Or.inr (Or.inr (Or.inr (Or.inl ⟨rfl, by omega⟩))))))))
theorem vq_6_0 (n m o x : Int) (t : T2) : vspf n m o 6 0 x t = vbo n m o 10 x (rn1 t 10) := by
  simp [vspf, vbo, vkn, vhe, vdg, vte, vh2, vt4, vt6, vh0, vt0]
theorem vk_6_0 {r : Nat} (h : srk 6 0 ≤ r + 1) : vbk 10 (-1) r := by
  have e : srk 6 0 = 1 := by decide
  rw [e] at h
  exact Or.inl rfl
theorem vq_6_1 (n m o x : Int) (t : T2) : vspf n m o 6 1 x t = vbo n m o 11 x (rn1 t 11) := by
  simp [vspf, vbo, vkn, vhe, vdg, vte, vh2, vt4, vt6, vh0, vt0]
theorem vk_6_1 {r : Nat} (h : srk 6 1 ≤ r + 1) : vbk 11 (-1) r := by
  have e : srk 6 1 = 3 := by decide
  rw [e] at h
  exact Or.inr (Or.inr (Or.inr (Or.inl ⟨rfl, by omega⟩)))
theorem vq_6_2 (n m o x : Int) (t : T2) : vspf n m o 6 2 x t = vbo n m o 70 x (rn1 t 70) := by
  simp [vspf, vbo, vkn, vhe, vdg, vte, vh2, vt4, vt6, vh0, vt0]
theorem vk_6_2 {r : Nat} (h : srk 6 2 ≤ r + 1) : vbk 70 (3) r := by
  have e : srk 6 2 = 3 := by decide
  rw [e] at h
  exact Or.inr (Or.inr (Or.inr (Or.inr (Or.inr (Or.inl ⟨rfl, rfl, by omega⟩)))))
theorem vq_6_3 (n m o x : Int) (t : T2) : vspf n m o 6 3 x t = vbo n m o 71 x (rn1 t 71) := by
  simp [vspf, vbo, vkn, vhe, vdg, vte, vh2, vt4, vt6, vh0, vt0]
theorem vk_6_3 {r : Nat} (h : srk 6 3 ≤ r + 1) : vbk 71 (3) r := by
  have e : srk 6 3 = 7 := by decide
  rw [e] at h
  exact Or.inr (Or.inr (Or.inr (Or.inr (Or.inr (Or.inr (Or.inr (Or.inr (Or.inr (Or.inr (⟨rfl, rfl, by omega⟩))))))))))
def ct_vsyS (r : Nat) : Nat → ZC := fun n => if n = 41 then C_radd else if n = 54 then C_vbd (r) else fun _ _ _ => False
theorem ct_vsyS_radd {r : Nat} {as : List ZV} {h : ZH} {post : Option ZV → ZH → Prop} : ct_vsyS r 41 as h post = C_radd as h post := rfl
theorem ct_vsyS_vbd {r : Nat} {as : List ZV} {h : ZH} {post : Option ZV → ZH → Prop} : ct_vsyS r 54 as h post = C_vbd (r) as h post := rfl
theorem c_vsyS {E : ZE} {d : Nat} {r : Nat} (hd : 2 ≤ d) (i_vbd : ∃ d', d' < d ∧ zMet E d' mX8_bodyOf (C_vbd (r))) : zMet E d mX8_say (C_vsy (r+1)) := by
  refine zmet_of (o := 8) (ini := false) (CT := ct_vsyS r) gd_X8_say rfl (fun h => by cases h) (by omega) ?_ ?_
  · intro n as h post hh
    unfold ct_vsyS at hh
    by_cases c : n = 41
    · subst c; exact ⟨gd_X5_add, 1, by omega, c_radd (by omega)⟩
    rw [if_neg c] at hh
    by_cases c : n = 54
    · subst c; exact ⟨gd_X8_bodyOf, i_vbd⟩
    rw [if_neg c] at hh
    exact hh.elim
  intro as h post hC
  match as, hC with
  | [.inr (.inr (.inl 74)), .inl f, .inl a, .inl x, .inl q], hC =>
    refine ⟨Nat.le_of_ble_eq_true rfl, fun X hX => bs_X8_say_0 hX ?_⟩
    obtain ⟨G, M⟩ := h
    obtain ⟨hG, hC⟩ := hC
    dsimp only at hG
    subst hG
    simp only [B_vsy] at hC
    show bk_X8_say_0 E (ct_vsyS r) X _ [some (.inr (.inr (.inl 74))), some (.inl f), some (.inl a), some (.inl x), some (.inl q), none, none, none] [] (zG, M) (0, 0)
    obtain ⟨hf, ha, hr9, hq, hv, hC⟩ := hC
    have zq : zr q = q := zr_of (by omega) (by omega)
    have lq : (q < 40) = True := eq_true (by omega)
    have h75 := hv.2
    have z0 : zr 0 = 0 := rfl
    have J66 : ∀ (b c : Int) (i7 : Int) (M1 : ZMm), vbk b c r → vSp M f a x = vbo (M 74 2) (M 74 3) (M 74 1) b x (rn1 (tV M) b) → Nv M (rn1 (tV M) b) M1 → X 66 [some (.inr (.inr (.inl 74))), some (.inl f), some (.inl a), some (.inl x), some (.inl q), some (.inl c), some (.inl i7), some (.inl b)] [] (zG, M1) (0, 0) := by
      intro b c i7 M1 hb he n1
      refine bs_X8_say_66 hX ?_
      simp only [bk_X8_say_0, k_X8_say_0, bk_X8_say_6, k_X8_say_6, bk_X8_say_31, k_X8_say_31, bk_X8_say_66, k_X8_say_66, bk_X8_say_80, k_X8_say_80, bk_X8_say_86, k_X8_say_86, ↓e_rk1, ↓e_rk0, ↓e_sk0, ↓e_sks, ↓e_ldi0, ↓e_ldis, ↓e_ldl0, ↓e_ldls, ↓e_lda0, ↓e_ldas, ↓e_ok0, ↓e_okss, ↓e_ok1i, ↓e_ok1r, ↓e_ok1n, ↓e_sti, ↓e_sta, ↓e_1, ↓e_2, ↓e_l1, ↓e_l2, ↓e_li, ↓e_sw0, ↓e_sws, ↓e_ceq, ↓e_cne, ↓e_clt, ↓e_cge, ↓e_cgt, ↓e_cle, ↓e_nil, ↓e_cons, ↓e_iconst, ↓e_bipush, ↓e_sipush, ↓e_ldc, ↓e_ldcw, ↓e_ldc2, ↓e_lconst, ↓e_iloadn, ↓e_iload, ↓e_lloadn, ↓e_lload, ↓e_aloadn, ↓e_aload, ↓e_istoren, ↓e_istore, ↓e_astoren, ↓e_astore, ↓e_add, ↓e_iinc, ↓e_iadd, ↓e_isub, ↓e_imul, ↓e_iand, ↓e_ior, ↓e_ixor, ↓e_ishl, ↓e_iushr, ↓e_idiv, ↓e_irem, ↓e_ineg, ↓e_i2l, ↓e_i2b, ↓e_i2s, ↓e_l2i, ↓e_land, ↓e_lor, ↓e_lshl, ↓e_lshr, ↓e_lushr, ↓e_lcmp, ↓e_dupi, ↓e_dupr, ↓e_popi, ↓e_dup2, ↓e_goto, ↓e_if, ↓e_icmp, ↓e_tsw, ↓e_lsw, ↓e_getf, ↓e_putf, ↓e_gets, ↓e_iald, ↓e_cald, ↓e_iast, ↓e_aald, ↓e_aast, ↓e_len, ↓e_copy, ↓e_abs, ↓e_max, ↓e_min, ↓e_iret, ↓e_aret, ↓e_vret, ↓e_is0, ↓e_is1, ↓e_is2, ↓e_is3, ↓e_is4, ↓e_iv1, ↓e_iv2, ↓e_iv3, ↓e_iv4, ↓e_iv5, ↓e_iv6, ↓rt_X8_say, ↓reduceIte, Nat.reduceAdd, Nat.reduceEqDiff, ↓zcl0, ↓zclv, List.map_nil, List.sum_nil, List.map_cons, List.sum_cons, zcat, true_and, and_true, Nat.reduceLeDiff, Nat.reduceAdd, eq_self, forall_const, e_ok0, e_okss, e_ok1i, e_ok1r, e_ok1n, zl_0, zl_1, zl_2, zl_4, zl_7, zl_40, Int.reduceToNat, Int.reduceAdd, Int.reduceMul, Int.reduceSub, Int.reduceNeg, Int.reduceLT, Int.reduceLE, Int.reduceEq, not_false_eq_true, not_true_eq_false, false_implies, true_implies, implies_true, Int.reduceDiv, Int.reduceMod, zr8_zr, zr_zbo, z01_zbo, z01_0, z01_1, zbo_eq0, zup_eq, zup_o, zup_k, ne_eq, ↓ct_vsyS_radd, ↓r_radd, ↓B_radd, ↓ct_vsyS_vbd, ↓r_vbd, ↓B_vbd, ↓v_74, ↓g_74_0, ↓g_74_1, ↓p_74_1, ↓g_74_2, ↓p_74_2, ↓g_74_3, ↓p_74_3]
      refine ⟨hb, by omega, n1.ok hv (rn1_ok hv.tok), fun M2 n2 => ?_⟩
      rw [n1.f, n1.f, n1.f, n1.1, ← he] at n2 ⊢
      exact hC M2 (n1.trans n2)
    have add9 : ∀ (b c i7 : Int), vbk b c r → vSp M f a x = vbo (M 74 2) (M 74 3) (M 74 1) b x (rn1 (tV M) b) → (M 75 1 < 40 → X 66 [some (.inr (.inr (.inl 74))), some (.inl f), some (.inl a), some (.inl x), some (.inl q), some (.inl c), some (.inl i7), some (.inl b)] [] (zG, (zup (zup M 76 (M 75 1).toNat b) 75 1 (M 75 1 + 1))) (0, 0)) ∧ (¬ M 75 1 < 40 → X 66 [some (.inr (.inr (.inl 74))), some (.inl f), some (.inl a), some (.inl x), some (.inl q), some (.inl c), some (.inl i7), some (.inl b)] [] (zG, M) (0, 0)) := by
      intro b c i7 hb he
      refine ⟨fun lt => J66 b c i7 _ hb he ⟨?_, fun x i p1 p2 => ?_⟩, fun lt => J66 b c i7 _ hb he ⟨?_, fun _ _ _ _ => rfl⟩⟩
      · have e2 : (tV M).2 < 40 := lt
        unfold rn1
        rw [if_pos e2]
        refine Prod.ext ?_ ?_
        · show zup (zup M 76 (M 75 1).toNat b) 75 1 (M 75 1 + 1) 76 = up1 (M 76) (M 75 1).toNat b
          rw [zup_ne _ (by decide), zup_up]
        · show zup (zup M 76 (M 75 1).toNat b) 75 1 (M 75 1 + 1) 75 1 = M 75 1 + 1
          rw [zup_eq]
      · have e1 : zup (zup M 76 (M 75 1).toNat b) 75 1 (M 75 1 + 1) x i = zup M 76 (M 75 1).toNat b x i := by simp [zup, p2]
        rw [e1, zup_o p1]
      · have e2 : ¬ (tV M).2 < 40 := lt
        unfold rn1
        rw [if_neg e2]
    have r40 : rowb 75 40 := Or.inr (Or.inr (Or.inr (Or.inr (Or.inr (Or.inr (Or.inr (Or.inr (Or.inr ⟨rfl, rfl⟩))))))))
    have fa : f = 0 ∨ f = 1 ∨ f = 2 ∨ f = 3 ∨ f = 4 ∨ f = 5 ∨ f = 6 := by omega
    have aa : a = 0 ∨ a = 1 ∨ a = 2 ∨ a = 3 := by omega
    have E1 : ∀ j, zrF 1 E.2.2.2.2.2.2 j = ([10, 11, 12, 13, 20, 0, 0, 0, 0, 30, 0, 0, 0, 0, 40, 0, 0, 0, 0, 50, 0, 60, 0, 0, 0, 0, 70, 71] : List Int).getD j 0 := fun _ => rfl
    have step : ∀ (k i b c : Int) (x7 : Option ZV), 0 ≤ k → k ≤ 6 → 0 ≤ i → i ≤ 2 → ([10, 11, 12, 13, 20, 0, 0, 0, 0, 30, 0, 0, 0, 0, 40, 0, 0, 0, 0, 50, 0, 60, 0, 0, 0, 0, 70, 71] : List Int).getD (k * 4 + a).toNat 0 = b → ([-1, 0, 0, 0, 1, 2, 3] : List Int).getD k.toNat 0 = c → (0 ≤ b ∧ b ≤ 100) → (b = 0 → X 80 [some (.inr (.inr (.inl 74))), some (.inl f), some (.inl a), some (.inl x), some (.inl q), some (.inl c), some (.inl i), some (.inl b)] [] (zG, M) (0, 0)) → (¬ b = 0 → vbk b c r ∧ vSp M f a x = vbo (M 74 2) (M 74 3) (M 74 1) b x (rn1 (tV M) b)) → X 6 [some (.inr (.inr (.inl 74))), some (.inl f), some (.inl a), some (.inl x), some (.inl q), some (.inl k), some (.inl i), x7] [] (zG, M) (0, 0) := by
      intro k i b c x7 k0 k6 i0 i2 eb ec br s1 s2
      refine bs_X8_say_6 hX ?_
      have zk : zr k = k := zr_of (by omega) (by omega)
      have zi : zr i = i := zr_of (by omega) (by omega)
      have li : (2 < i) = False := eq_false (by omega)
      have lk0 : (k < 0) = False := eq_false (by omega)
      have lk7 : (k < 7) = True := eq_true (by omega)
      have zx : zr (k * 4 + a) = k * 4 + a := zr_of (by omega) (by omega)
      have zb : zr b = b := zr_of (by omega) (by omega)
      have f1 : zrF 1 E.2.2.2.2.2.2 (k * 4 + a).toNat = b := eb
      have f0 : zrF 0 E.2.2.2.2.2.2 k.toNat = c := ec
      simp only [bk_X8_say_0, k_X8_say_0, bk_X8_say_6, k_X8_say_6, bk_X8_say_31, k_X8_say_31, bk_X8_say_66, k_X8_say_66, bk_X8_say_80, k_X8_say_80, bk_X8_say_86, k_X8_say_86, ↓e_rk1, ↓e_rk0, ↓e_sk0, ↓e_sks, ↓e_ldi0, ↓e_ldis, ↓e_ldl0, ↓e_ldls, ↓e_lda0, ↓e_ldas, ↓e_ok0, ↓e_okss, ↓e_ok1i, ↓e_ok1r, ↓e_ok1n, ↓e_sti, ↓e_sta, ↓e_1, ↓e_2, ↓e_l1, ↓e_l2, ↓e_li, ↓e_sw0, ↓e_sws, ↓e_ceq, ↓e_cne, ↓e_clt, ↓e_cge, ↓e_cgt, ↓e_cle, ↓e_nil, ↓e_cons, ↓e_iconst, ↓e_bipush, ↓e_sipush, ↓e_ldc, ↓e_ldcw, ↓e_ldc2, ↓e_lconst, ↓e_iloadn, ↓e_iload, ↓e_lloadn, ↓e_lload, ↓e_aloadn, ↓e_aload, ↓e_istoren, ↓e_istore, ↓e_astoren, ↓e_astore, ↓e_add, ↓e_iinc, ↓e_iadd, ↓e_isub, ↓e_imul, ↓e_iand, ↓e_ior, ↓e_ixor, ↓e_ishl, ↓e_iushr, ↓e_idiv, ↓e_irem, ↓e_ineg, ↓e_i2l, ↓e_i2b, ↓e_i2s, ↓e_l2i, ↓e_land, ↓e_lor, ↓e_lshl, ↓e_lshr, ↓e_lushr, ↓e_lcmp, ↓e_dupi, ↓e_dupr, ↓e_popi, ↓e_dup2, ↓e_goto, ↓e_if, ↓e_icmp, ↓e_tsw, ↓e_lsw, ↓e_getf, ↓e_putf, ↓e_gets, ↓e_iald, ↓e_cald, ↓e_iast, ↓e_aald, ↓e_aast, ↓e_len, ↓e_copy, ↓e_abs, ↓e_max, ↓e_min, ↓e_iret, ↓e_aret, ↓e_vret, ↓e_is0, ↓e_is1, ↓e_is2, ↓e_is3, ↓e_is4, ↓e_iv1, ↓e_iv2, ↓e_iv3, ↓e_iv4, ↓e_iv5, ↓e_iv6, ↓rt_X8_say, ↓reduceIte, Nat.reduceAdd, Nat.reduceEqDiff, ↓zcl0, ↓zclv, List.map_nil, List.sum_nil, List.map_cons, List.sum_cons, zcat, true_and, and_true, Nat.reduceLeDiff, Nat.reduceAdd, eq_self, forall_const, e_ok0, e_okss, e_ok1i, e_ok1r, e_ok1n, zl_0, zl_1, zl_2, zl_4, zl_7, zl_40, Int.reduceToNat, Int.reduceAdd, Int.reduceMul, Int.reduceSub, Int.reduceNeg, Int.reduceLT, Int.reduceLE, Int.reduceEq, not_false_eq_true, not_true_eq_false, false_implies, true_implies, implies_true, Int.reduceDiv, Int.reduceMod, zr8_zr, zr_zbo, z01_zbo, z01_0, z01_1, zbo_eq0, zup_eq, zup_o, zup_k, ne_eq, ↓ct_vsyS_radd, ↓r_radd, ↓B_radd, ↓ct_vsyS_vbd, ↓r_vbd, ↓B_vbd, ↓v_74, ↓g_74_0, ↓g_74_1, ↓p_74_1, ↓g_74_2, ↓p_74_2, ↓g_74_3, ↓p_74_3, zk, zi, li, lk0, lk7, zq, lq]
      refine bs_X8_say_31 hX ?_
      simp only [bk_X8_say_0, k_X8_say_0, bk_X8_say_6, k_X8_say_6, bk_X8_say_31, k_X8_say_31, bk_X8_say_66, k_X8_say_66, bk_X8_say_80, k_X8_say_80, bk_X8_say_86, k_X8_say_86, ↓e_rk1, ↓e_rk0, ↓e_sk0, ↓e_sks, ↓e_ldi0, ↓e_ldis, ↓e_ldl0, ↓e_ldls, ↓e_lda0, ↓e_ldas, ↓e_ok0, ↓e_okss, ↓e_ok1i, ↓e_ok1r, ↓e_ok1n, ↓e_sti, ↓e_sta, ↓e_1, ↓e_2, ↓e_l1, ↓e_l2, ↓e_li, ↓e_sw0, ↓e_sws, ↓e_ceq, ↓e_cne, ↓e_clt, ↓e_cge, ↓e_cgt, ↓e_cle, ↓e_nil, ↓e_cons, ↓e_iconst, ↓e_bipush, ↓e_sipush, ↓e_ldc, ↓e_ldcw, ↓e_ldc2, ↓e_lconst, ↓e_iloadn, ↓e_iload, ↓e_lloadn, ↓e_lload, ↓e_aloadn, ↓e_aload, ↓e_istoren, ↓e_istore, ↓e_astoren, ↓e_astore, ↓e_add, ↓e_iinc, ↓e_iadd, ↓e_isub, ↓e_imul, ↓e_iand, ↓e_ior, ↓e_ixor, ↓e_ishl, ↓e_iushr, ↓e_idiv, ↓e_irem, ↓e_ineg, ↓e_i2l, ↓e_i2b, ↓e_i2s, ↓e_l2i, ↓e_land, ↓e_lor, ↓e_lshl, ↓e_lshr, ↓e_lushr, ↓e_lcmp, ↓e_dupi, ↓e_dupr, ↓e_popi, ↓e_dup2, ↓e_goto, ↓e_if, ↓e_icmp, ↓e_tsw, ↓e_lsw, ↓e_getf, ↓e_putf, ↓e_gets, ↓e_iald, ↓e_cald, ↓e_iast, ↓e_aald, ↓e_aast, ↓e_len, ↓e_copy, ↓e_abs, ↓e_max, ↓e_min, ↓e_iret, ↓e_aret, ↓e_vret, ↓e_is0, ↓e_is1, ↓e_is2, ↓e_is3, ↓e_is4, ↓e_iv1, ↓e_iv2, ↓e_iv3, ↓e_iv4, ↓e_iv5, ↓e_iv6, ↓rt_X8_say, ↓reduceIte, Nat.reduceAdd, Nat.reduceEqDiff, ↓zcl0, ↓zclv, List.map_nil, List.sum_nil, List.map_cons, List.sum_cons, zcat, true_and, and_true, Nat.reduceLeDiff, Nat.reduceAdd, eq_self, forall_const, e_ok0, e_okss, e_ok1i, e_ok1r, e_ok1n, zl_0, zl_1, zl_2, zl_4, zl_7, zl_40, Int.reduceToNat, Int.reduceAdd, Int.reduceMul, Int.reduceSub, Int.reduceNeg, Int.reduceLT, Int.reduceLE, Int.reduceEq, not_false_eq_true, not_true_eq_false, false_implies, true_implies, implies_true, Int.reduceDiv, Int.reduceMod, zr8_zr, zr_zbo, z01_zbo, z01_0, z01_1, zbo_eq0, zup_eq, zup_o, zup_k, ne_eq, ↓ct_vsyS_radd, ↓r_radd, ↓B_radd, ↓ct_vsyS_vbd, ↓r_vbd, ↓B_vbd, ↓v_74, ↓g_74_0, ↓g_74_1, ↓p_74_1, ↓g_74_2, ↓p_74_2, ↓g_74_3, ↓p_74_3, ↓v_75, ↓g_75_0, ↓l_76, ↓s_76, ↓n_76, ↓g_75_1, ↓p_75_1, ↓l_q0, ↓l_q1, zk, zx, f1, f0, zb]
      refine ⟨by omega, by omega, by omega, by omega, fun e => ?_, fun e => ?_⟩
      · exact s1 e
      · obtain ⟨g1, g2⟩ := s2 e
        obtain ⟨p1, p2⟩ := add9 b c i g1 g2
        exact ⟨40, r40, by omega, by omega, p1, p2⟩
    have nxt : ∀ (k i b : Int), 0 ≤ i → i ≤ 1 → X 6 [some (.inr (.inr (.inl 74))), some (.inl f), some (.inl a), some (.inl x), some (.inl q), some (.inl k), some (.inl (i + 1)), some (.inl b)] [] (zG, M) (0, 0) → X 80 [some (.inr (.inr (.inl 74))), some (.inl f), some (.inl a), some (.inl x), some (.inl q), some (.inl k), some (.inl i), some (.inl b)] [] (zG, M) (0, 0) := by
      intro k i b i0 i1 h9
      refine bs_X8_say_80 hX ?_
      simp only [bk_X8_say_0, k_X8_say_0, bk_X8_say_6, k_X8_say_6, bk_X8_say_31, k_X8_say_31, bk_X8_say_66, k_X8_say_66, bk_X8_say_80, k_X8_say_80, bk_X8_say_86, k_X8_say_86, ↓e_rk1, ↓e_rk0, ↓e_sk0, ↓e_sks, ↓e_ldi0, ↓e_ldis, ↓e_ldl0, ↓e_ldls, ↓e_lda0, ↓e_ldas, ↓e_ok0, ↓e_okss, ↓e_ok1i, ↓e_ok1r, ↓e_ok1n, ↓e_sti, ↓e_sta, ↓e_1, ↓e_2, ↓e_l1, ↓e_l2, ↓e_li, ↓e_sw0, ↓e_sws, ↓e_ceq, ↓e_cne, ↓e_clt, ↓e_cge, ↓e_cgt, ↓e_cle, ↓e_nil, ↓e_cons, ↓e_iconst, ↓e_bipush, ↓e_sipush, ↓e_ldc, ↓e_ldcw, ↓e_ldc2, ↓e_lconst, ↓e_iloadn, ↓e_iload, ↓e_lloadn, ↓e_lload, ↓e_aloadn, ↓e_aload, ↓e_istoren, ↓e_istore, ↓e_astoren, ↓e_astore, ↓e_add, ↓e_iinc, ↓e_iadd, ↓e_isub, ↓e_imul, ↓e_iand, ↓e_ior, ↓e_ixor, ↓e_ishl, ↓e_iushr, ↓e_idiv, ↓e_irem, ↓e_ineg, ↓e_i2l, ↓e_i2b, ↓e_i2s, ↓e_l2i, ↓e_land, ↓e_lor, ↓e_lshl, ↓e_lshr, ↓e_lushr, ↓e_lcmp, ↓e_dupi, ↓e_dupr, ↓e_popi, ↓e_dup2, ↓e_goto, ↓e_if, ↓e_icmp, ↓e_tsw, ↓e_lsw, ↓e_getf, ↓e_putf, ↓e_gets, ↓e_iald, ↓e_cald, ↓e_iast, ↓e_aald, ↓e_aast, ↓e_len, ↓e_copy, ↓e_abs, ↓e_max, ↓e_min, ↓e_iret, ↓e_aret, ↓e_vret, ↓e_is0, ↓e_is1, ↓e_is2, ↓e_is3, ↓e_is4, ↓e_iv1, ↓e_iv2, ↓e_iv3, ↓e_iv4, ↓e_iv5, ↓e_iv6, ↓rt_X8_say, ↓reduceIte, Nat.reduceAdd, Nat.reduceEqDiff, ↓zcl0, ↓zclv, List.map_nil, List.sum_nil, List.map_cons, List.sum_cons, zcat, true_and, and_true, Nat.reduceLeDiff, Nat.reduceAdd, eq_self, forall_const, e_ok0, e_okss, e_ok1i, e_ok1r, e_ok1n, zl_0, zl_1, zl_2, zl_4, zl_7, zl_40, Int.reduceToNat, Int.reduceAdd, Int.reduceMul, Int.reduceSub, Int.reduceNeg, Int.reduceLT, Int.reduceLE, Int.reduceEq, not_false_eq_true, not_true_eq_false, false_implies, true_implies, implies_true, Int.reduceDiv, Int.reduceMod, zr8_zr, zr_zbo, z01_zbo, z01_0, z01_1, zbo_eq0, zup_eq, zup_o, zup_k, ne_eq, ↓ct_vsyS_radd, ↓r_radd, ↓B_radd, ↓ct_vsyS_vbd, ↓r_vbd, ↓B_vbd, ↓v_74, ↓g_74_0, ↓g_74_1, ↓p_74_1, ↓g_74_2, ↓p_74_2, ↓g_74_3, ↓p_74_3]
      exact h9
    simp only [bk_X8_say_0, k_X8_say_0, bk_X8_say_6, k_X8_say_6, bk_X8_say_31, k_X8_say_31, bk_X8_say_66, k_X8_say_66, bk_X8_say_80, k_X8_say_80, bk_X8_say_86, k_X8_say_86, ↓e_rk1, ↓e_rk0, ↓e_sk0, ↓e_sks, ↓e_ldi0, ↓e_ldis, ↓e_ldl0, ↓e_ldls, ↓e_lda0, ↓e_ldas, ↓e_ok0, ↓e_okss, ↓e_ok1i, ↓e_ok1r, ↓e_ok1n, ↓e_sti, ↓e_sta, ↓e_1, ↓e_2, ↓e_l1, ↓e_l2, ↓e_li, ↓e_sw0, ↓e_sws, ↓e_ceq, ↓e_cne, ↓e_clt, ↓e_cge, ↓e_cgt, ↓e_cle, ↓e_nil, ↓e_cons, ↓e_iconst, ↓e_bipush, ↓e_sipush, ↓e_ldc, ↓e_ldcw, ↓e_ldc2, ↓e_lconst, ↓e_iloadn, ↓e_iload, ↓e_lloadn, ↓e_lload, ↓e_aloadn, ↓e_aload, ↓e_istoren, ↓e_istore, ↓e_astoren, ↓e_astore, ↓e_add, ↓e_iinc, ↓e_iadd, ↓e_isub, ↓e_imul, ↓e_iand, ↓e_ior, ↓e_ixor, ↓e_ishl, ↓e_iushr, ↓e_idiv, ↓e_irem, ↓e_ineg, ↓e_i2l, ↓e_i2b, ↓e_i2s, ↓e_l2i, ↓e_land, ↓e_lor, ↓e_lshl, ↓e_lshr, ↓e_lushr, ↓e_lcmp, ↓e_dupi, ↓e_dupr, ↓e_popi, ↓e_dup2, ↓e_goto, ↓e_if, ↓e_icmp, ↓e_tsw, ↓e_lsw, ↓e_getf, ↓e_putf, ↓e_gets, ↓e_iald, ↓e_cald, ↓e_iast, ↓e_aald, ↓e_aast, ↓e_len, ↓e_copy, ↓e_abs, ↓e_max, ↓e_min, ↓e_iret, ↓e_aret, ↓e_vret, ↓e_is0, ↓e_is1, ↓e_is2, ↓e_is3, ↓e_is4, ↓e_iv1, ↓e_iv2, ↓e_iv3, ↓e_iv4, ↓e_iv5, ↓e_iv6, ↓rt_X8_say, ↓reduceIte, Nat.reduceAdd, Nat.reduceEqDiff, ↓zcl0, ↓zclv, List.map_nil, List.sum_nil, List.map_cons, List.sum_cons, zcat, true_and, and_true, Nat.reduceLeDiff, Nat.reduceAdd, eq_self, forall_const, e_ok0, e_okss, e_ok1i, e_ok1r, e_ok1n, zl_0, zl_1, zl_2, zl_4, zl_7, zl_40, Int.reduceToNat, Int.reduceAdd, Int.reduceMul, Int.reduceSub, Int.reduceNeg, Int.reduceLT, Int.reduceLE, Int.reduceEq, not_false_eq_true, not_true_eq_false, false_implies, true_implies, implies_true, Int.reduceDiv, Int.reduceMod, zr8_zr, zr_zbo, z01_zbo, z01_0, z01_1, zbo_eq0, zup_eq, zup_o, zup_k, ne_eq, ↓ct_vsyS_radd, ↓r_radd, ↓B_radd, ↓ct_vsyS_vbd, ↓r_vbd, ↓B_vbd, ↓v_74, ↓g_74_0, ↓g_74_1, ↓p_74_1, ↓g_74_2, ↓p_74_2, ↓g_74_3, ↓p_74_3]
    rcases fa with e | e | e | e | e | e | e <;> subst e
    · rcases aa with e | e | e | e <;> subst e
      · exact step 0 0 10 (-1) _ (by decide) (by decide) (by decide) (by decide) rfl rfl (by decide) (fun e => absurd e (by decide)) (fun _ => ⟨vk_0_0 hr9, vq_0_0 _ _ _ _ _⟩)
      · exact step 0 0 11 (-1) _ (by decide) (by decide) (by decide) (by decide) rfl rfl (by decide) (fun e => absurd e (by decide)) (fun _ => ⟨vk_0_1 hr9, vq_0_1 _ _ _ _ _⟩)
      · exact step 0 0 12 (-1) _ (by decide) (by decide) (by decide) (by decide) rfl rfl (by decide) (fun e => absurd e (by decide)) (fun _ => ⟨vk_0_2 hr9, vq_0_2 _ _ _ _ _⟩)
      · exact step 0 0 13 (-1) _ (by decide) (by decide) (by decide) (by decide) rfl rfl (by decide) (fun e => absurd e (by decide)) (fun _ => ⟨vk_0_3 hr9, vq_0_3 _ _ _ _ _⟩)
    · rcases aa with e | e | e | e <;> subst e
      · exact step 1 0 20 (0) _ (by decide) (by decide) (by decide) (by decide) rfl rfl (by decide) (fun e => absurd e (by decide)) (fun _ => ⟨vk_1_0 hr9, vq_1_0 _ _ _ _ _⟩)
      · exact step 1 0 0 0 _ (by decide) (by decide) (by decide) (by decide) rfl rfl (by decide) (fun _ => nxt 0 0 0 (by decide) (by decide) (step 0 1 11 (-1) _ (by decide) (by decide) (by decide) (by decide) rfl rfl (by decide) (fun e => absurd e (by decide)) (fun _ => ⟨vk_1_1 hr9, vq_1_1 _ _ _ _ _⟩))) (fun e => absurd rfl e)
      · exact step 1 0 0 0 _ (by decide) (by decide) (by decide) (by decide) rfl rfl (by decide) (fun _ => nxt 0 0 0 (by decide) (by decide) (step 0 1 12 (-1) _ (by decide) (by decide) (by decide) (by decide) rfl rfl (by decide) (fun e => absurd e (by decide)) (fun _ => ⟨vk_1_2 hr9, vq_1_2 _ _ _ _ _⟩))) (fun e => absurd rfl e)
      · exact step 1 0 0 0 _ (by decide) (by decide) (by decide) (by decide) rfl rfl (by decide) (fun _ => nxt 0 0 0 (by decide) (by decide) (step 0 1 13 (-1) _ (by decide) (by decide) (by decide) (by decide) rfl rfl (by decide) (fun e => absurd e (by decide)) (fun _ => ⟨vk_1_3 hr9, vq_1_3 _ _ _ _ _⟩))) (fun e => absurd rfl e)
    · rcases aa with e | e | e | e <;> subst e
      · exact step 2 0 0 0 _ (by decide) (by decide) (by decide) (by decide) rfl rfl (by decide) (fun _ => nxt 0 0 0 (by decide) (by decide) (step 0 1 10 (-1) _ (by decide) (by decide) (by decide) (by decide) rfl rfl (by decide) (fun e => absurd e (by decide)) (fun _ => ⟨vk_2_0 hr9, vq_2_0 _ _ _ _ _⟩))) (fun e => absurd rfl e)
      · exact step 2 0 30 (0) _ (by decide) (by decide) (by decide) (by decide) rfl rfl (by decide) (fun e => absurd e (by decide)) (fun _ => ⟨vk_2_1 hr9, vq_2_1 _ _ _ _ _⟩)
      · exact step 2 0 0 0 _ (by decide) (by decide) (by decide) (by decide) rfl rfl (by decide) (fun _ => nxt 0 0 0 (by decide) (by decide) (step 0 1 12 (-1) _ (by decide) (by decide) (by decide) (by decide) rfl rfl (by decide) (fun e => absurd e (by decide)) (fun _ => ⟨vk_2_2 hr9, vq_2_2 _ _ _ _ _⟩))) (fun e => absurd rfl e)
      · exact step 2 0 0 0 _ (by decide) (by decide) (by decide) (by decide) rfl rfl (by decide) (fun _ => nxt 0 0 0 (by decide) (by decide) (step 0 1 13 (-1) _ (by decide) (by decide) (by decide) (by decide) rfl rfl (by decide) (fun e => absurd e (by decide)) (fun _ => ⟨vk_2_3 hr9, vq_2_3 _ _ _ _ _⟩))) (fun e => absurd rfl e)
    · rcases aa with e | e | e | e <;> subst e
      · exact step 3 0 0 0 _ (by decide) (by decide) (by decide) (by decide) rfl rfl (by decide) (fun _ => nxt 0 0 0 (by decide) (by decide) (step 0 1 10 (-1) _ (by decide) (by decide) (by decide) (by decide) rfl rfl (by decide) (fun e => absurd e (by decide)) (fun _ => ⟨vk_3_0 hr9, vq_3_0 _ _ _ _ _⟩))) (fun e => absurd rfl e)
      · exact step 3 0 0 0 _ (by decide) (by decide) (by decide) (by decide) rfl rfl (by decide) (fun _ => nxt 0 0 0 (by decide) (by decide) (step 0 1 11 (-1) _ (by decide) (by decide) (by decide) (by decide) rfl rfl (by decide) (fun e => absurd e (by decide)) (fun _ => ⟨vk_3_1 hr9, vq_3_1 _ _ _ _ _⟩))) (fun e => absurd rfl e)
      · exact step 3 0 40 (0) _ (by decide) (by decide) (by decide) (by decide) rfl rfl (by decide) (fun e => absurd e (by decide)) (fun _ => ⟨vk_3_2 hr9, vq_3_2 _ _ _ _ _⟩)
      · exact step 3 0 0 0 _ (by decide) (by decide) (by decide) (by decide) rfl rfl (by decide) (fun _ => nxt 0 0 0 (by decide) (by decide) (step 0 1 13 (-1) _ (by decide) (by decide) (by decide) (by decide) rfl rfl (by decide) (fun e => absurd e (by decide)) (fun _ => ⟨vk_3_3 hr9, vq_3_3 _ _ _ _ _⟩))) (fun e => absurd rfl e)
    · rcases aa with e | e | e | e <;> subst e
      · exact step 4 0 0 1 _ (by decide) (by decide) (by decide) (by decide) rfl rfl (by decide) (fun _ => nxt 1 0 0 (by decide) (by decide) (step 1 1 20 (0) _ (by decide) (by decide) (by decide) (by decide) rfl rfl (by decide) (fun e => absurd e (by decide)) (fun _ => ⟨vk_4_0 hr9, vq_4_0 _ _ _ _ _⟩))) (fun e => absurd rfl e)
      · exact step 4 0 0 1 _ (by decide) (by decide) (by decide) (by decide) rfl rfl (by decide) (fun _ => nxt 1 0 0 (by decide) (by decide) (step 1 1 0 0 _ (by decide) (by decide) (by decide) (by decide) rfl rfl (by decide) (fun _ => nxt 0 1 0 (by decide) (by decide) (step 0 2 11 (-1) _ (by decide) (by decide) (by decide) (by decide) rfl rfl (by decide) (fun e => absurd e (by decide)) (fun _ => ⟨vk_4_1 hr9, vq_4_1 _ _ _ _ _⟩))) (fun e => absurd rfl e))) (fun e => absurd rfl e)
      · exact step 4 0 0 1 _ (by decide) (by decide) (by decide) (by decide) rfl rfl (by decide) (fun _ => nxt 1 0 0 (by decide) (by decide) (step 1 1 0 0 _ (by decide) (by decide) (by decide) (by decide) rfl rfl (by decide) (fun _ => nxt 0 1 0 (by decide) (by decide) (step 0 2 12 (-1) _ (by decide) (by decide) (by decide) (by decide) rfl rfl (by decide) (fun e => absurd e (by decide)) (fun _ => ⟨vk_4_2 hr9, vq_4_2 _ _ _ _ _⟩))) (fun e => absurd rfl e))) (fun e => absurd rfl e)
      · exact step 4 0 50 (1) _ (by decide) (by decide) (by decide) (by decide) rfl rfl (by decide) (fun e => absurd e (by decide)) (fun _ => ⟨vk_4_3 hr9, vq_4_3 _ _ _ _ _⟩)
    · rcases aa with e | e | e | e <;> subst e
      · exact step 5 0 0 2 _ (by decide) (by decide) (by decide) (by decide) rfl rfl (by decide) (fun _ => nxt 2 0 0 (by decide) (by decide) (step 2 1 0 0 _ (by decide) (by decide) (by decide) (by decide) rfl rfl (by decide) (fun _ => nxt 0 1 0 (by decide) (by decide) (step 0 2 10 (-1) _ (by decide) (by decide) (by decide) (by decide) rfl rfl (by decide) (fun e => absurd e (by decide)) (fun _ => ⟨vk_5_0 hr9, vq_5_0 _ _ _ _ _⟩))) (fun e => absurd rfl e))) (fun e => absurd rfl e)
      · exact step 5 0 60 (2) _ (by decide) (by decide) (by decide) (by decide) rfl rfl (by decide) (fun e => absurd e (by decide)) (fun _ => ⟨vk_5_1 hr9, vq_5_1 _ _ _ _ _⟩)
      · exact step 5 0 0 2 _ (by decide) (by decide) (by decide) (by decide) rfl rfl (by decide) (fun _ => nxt 2 0 0 (by decide) (by decide) (step 2 1 0 0 _ (by decide) (by decide) (by decide) (by decide) rfl rfl (by decide) (fun _ => nxt 0 1 0 (by decide) (by decide) (step 0 2 12 (-1) _ (by decide) (by decide) (by decide) (by decide) rfl rfl (by decide) (fun e => absurd e (by decide)) (fun _ => ⟨vk_5_2 hr9, vq_5_2 _ _ _ _ _⟩))) (fun e => absurd rfl e))) (fun e => absurd rfl e)
      · exact step 5 0 0 2 _ (by decide) (by decide) (by decide) (by decide) rfl rfl (by decide) (fun _ => nxt 2 0 0 (by decide) (by decide) (step 2 1 0 0 _ (by decide) (by decide) (by decide) (by decide) rfl rfl (by decide) (fun _ => nxt 0 1 0 (by decide) (by decide) (step 0 2 13 (-1) _ (by decide) (by decide) (by decide) (by decide) rfl rfl (by decide) (fun e => absurd e (by decide)) (fun _ => ⟨vk_5_3 hr9, vq_5_3 _ _ _ _ _⟩))) (fun e => absurd rfl e))) (fun e => absurd rfl e)
    · rcases aa with e | e | e | e <;> subst e
      · exact step 6 0 0 3 _ (by decide) (by decide) (by decide) (by decide) rfl rfl (by decide) (fun _ => nxt 3 0 0 (by decide) (by decide) (step 3 1 0 0 _ (by decide) (by decide) (by decide) (by decide) rfl rfl (by decide) (fun _ => nxt 0 1 0 (by decide) (by decide) (step 0 2 10 (-1) _ (by decide) (by decide) (by decide) (by decide) rfl rfl (by decide) (fun e => absurd e (by decide)) (fun _ => ⟨vk_6_0 hr9, vq_6_0 _ _ _ _ _⟩))) (fun e => absurd rfl e))) (fun e => absurd rfl e)
      · exact step 6 0 0 3 _ (by decide) (by decide) (by decide) (by decide) rfl rfl (by decide) (fun _ => nxt 3 0 0 (by decide) (by decide) (step 3 1 0 0 _ (by decide) (by decide) (by decide) (by decide) rfl rfl (by decide) (fun _ => nxt 0 1 0 (by decide) (by decide) (step 0 2 11 (-1) _ (by decide) (by decide) (by decide) (by decide) rfl rfl (by decide) (fun e => absurd e (by decide)) (fun _ => ⟨vk_6_1 hr9, vq_6_1 _ _ _ _ _⟩))) (fun e => absurd rfl e))) (fun e => absurd rfl e)
      · exact step 6 0 70 (3) _ (by decide) (by decide) (by decide) (by decide) rfl rfl (by decide) (fun e => absurd e (by decide)) (fun _ => ⟨vk_6_2 hr9, vq_6_2 _ _ _ _ _⟩)
      · exact step 6 0 71 (3) _ (by decide) (by decide) (by decide) (by decide) rfl rfl (by decide) (fun e => absurd e (by decide)) (fun _ => ⟨vk_6_3 hr9, vq_6_3 _ _ _ _ _⟩)
