/-! THE CLASS: flood -/
def k_X9_flood_0 : List ZI := [(.aload_n 0, 1, (0, [0], [])), (.getfield 9, 3, (0, [9, 1], [])), (.iload_n 1, 1, (0, [1], [])), (.iconst 0, 1, (0, [], [])), (.iastore, 1, (0, [], []))]
theorem ok_X9_flood_0 : zOK cX9_flood 9 false 7 k_X9_flood_0 0 = true := zOK_by (by decide +kernel)
def k_X9_flood_7 : List ZI := [(.aload_n 0, 1, (0, [0], [])), (.getfield 18, 3, (0, [9, 3], [])), (.iconst 0, 1, (0, [], [])), (.iload_n 1, 1, (0, [1], [])), (.iastore, 1, (0, [], []))]
theorem ok_X9_flood_7 : zOK cX9_flood 9 false 7 k_X9_flood_7 7 = true := zOK_by (by decide +kernel)
def k_X9_flood_14 : List ZI := [(.iconst 1, 1, (0, [], [])), (.istore_n 2, 1, (0, [2], [])), (.iconst 0, 1, (0, [], [])), (.istore_n 3, 1, (0, [3], []))]
theorem ok_X9_flood_14 : zOK cX9_flood 9 false 7 k_X9_flood_14 14 = true := zOK_by (by decide +kernel)
def k_X9_flood_18 : List ZI := [(.iload_n 3, 1, (0, [3], [])), (.iload_n 2, 1, (0, [2], [])), (.if_icmp .ge 101, 3, (0, [121], []))]
theorem ok_X9_flood_18 : zOK cX9_flood 9 false 7 k_X9_flood_18 18 = true := zOK_by (by decide +kernel)
def k_X9_flood_23 : List ZI := [(.iload_n 3, 1, (0, [3], [])), (.bipush 64, 2, (0, [], [])), (.if_icmp .ge 95, 3, (0, [121], []))]
theorem ok_X9_flood_23 : zOK cX9_flood 9 false 7 k_X9_flood_23 23 = true := zOK_by (by decide +kernel)
def k_X9_flood_29 : List ZI := [(.aload_n 0, 1, (0, [0], [])), (.getfield 18, 3, (0, [9, 3], [])), (.iload_n 3, 1, (0, [3], [])), (.iaload, 1, (0, [], [])), (.istore 4, 2, (0, [4], []))]
theorem ok_X9_flood_29 : zOK cX9_flood 9 false 7 k_X9_flood_29 29 = true := zOK_by (by decide +kernel)
def k_X9_flood_37 : List ZI := [(.iconst 0, 1, (0, [], [])), (.istore 5, 2, (0, [5], []))]
theorem ok_X9_flood_37 : zOK cX9_flood 9 false 7 k_X9_flood_37 37 = true := zOK_by (by decide +kernel)
def k_X9_flood_40 : List ZI := [(.iload 5, 2, (0, [5], [])), (.iconst 4, 1, (0, [], [])), (.if_icmp .ge 72, 3, (0, [115], []))]
theorem ok_X9_flood_40 : zOK cX9_flood 9 false 7 k_X9_flood_40 40 = true := zOK_by (by decide +kernel)
def k_X9_flood_46 : List ZI := [(.iload 4, 2, (0, [4], [])), (.iload 5, 2, (0, [5], [])), (.invokestatic 40, 3, (0, [16, 2, 0, 2], [])), (.istore 6, 2, (0, [6], []))]
theorem ok_X9_flood_46 : zOK cX9_flood 9 false 7 k_X9_flood_46 46 = true := zOK_by (by decide +kernel)
def k_X9_flood_55 : List ZI := [(.aload_n 0, 1, (0, [0], [])), (.iload 6, 2, (0, [6], [])), (.invokevirtual 61, 3, (0, [62, 2, 0, 9], [])), (.ifCond .eq 48, 3, (0, [109], []))]
theorem ok_X9_flood_55 : zOK cX9_flood 9 false 7 k_X9_flood_55 55 = true := zOK_by (by decide +kernel)
def k_X9_flood_64 : List ZI := [(.aload_n 0, 1, (0, [0], [])), (.getfield 9, 3, (0, [9, 1], [])), (.iload 6, 2, (0, [6], [])), (.iaload, 1, (0, [], [])), (.ldc 25, 2, (1000000, [], [])), (.if_icmp .ne 36, 3, (0, [109], []))]
theorem ok_X9_flood_64 : zOK cX9_flood 9 false 7 k_X9_flood_64 64 = true := zOK_by (by decide +kernel)
def k_X9_flood_76 : List ZI := [(.iload_n 2, 1, (0, [2], [])), (.bipush 64, 2, (0, [], [])), (.if_icmp .ge 30, 3, (0, [109], []))]
theorem ok_X9_flood_76 : zOK cX9_flood 9 false 7 k_X9_flood_76 76 = true := zOK_by (by decide +kernel)
def k_X9_flood_82 : List ZI := [(.aload_n 0, 1, (0, [0], [])), (.getfield 9, 3, (0, [9, 1], [])), (.iload 6, 2, (0, [6], [])), (.aload_n 0, 1, (0, [0], [])), (.getfield 9, 3, (0, [9, 1], [])), (.iload 4, 2, (0, [4], [])), (.iaload, 1, (0, [], [])), (.iconst 1, 1, (0, [], [])), (.iadd, 1, (0, [], [])), (.iastore, 1, (0, [], []))]
theorem ok_X9_flood_82 : zOK cX9_flood 9 false 7 k_X9_flood_82 82 = true := zOK_by (by decide +kernel)
def k_X9_flood_98 : List ZI := [(.aload_n 0, 1, (0, [0], [])), (.getfield 18, 3, (0, [9, 3], [])), (.iload_n 2, 1, (0, [2], [])), (.iload 6, 2, (0, [6], [])), (.iastore, 1, (0, [], [])), (.iinc 2 1, 3, (0, [2], []))]
theorem ok_X9_flood_98 : zOK cX9_flood 9 false 7 k_X9_flood_98 98 = true := zOK_by (by decide +kernel)
def k_X9_flood_109 : List ZI := [(.iinc 5 1, 3, (0, [5], [])), (.goto (-72), 3, (0, [40], []))]
theorem ok_X9_flood_109 : zOK cX9_flood 9 false 7 k_X9_flood_109 109 = true := zOK_by (by decide +kernel)
def k_X9_flood_115 : List ZI := [(.iinc 3 1, 3, (0, [3], [])), (.goto (-100), 3, (0, [18], []))]
theorem ok_X9_flood_115 : zOK cX9_flood 9 false 7 k_X9_flood_115 115 = true := zOK_by (by decide +kernel)
def k_X9_flood_121 : List ZI := [(.return_, 1, (0, [], []))]
theorem ok_X9_flood_121 : zOK cX9_flood 9 false 7 k_X9_flood_121 121 = true := zOK_by (by decide +kernel)
theorem rt_X9_flood {g : Nat} {post : Option ZV → ZH → Prop} {h : ZH} {b : ZB2} : zRt mX9_flood g post none h b = (post none h ∧ h.1.length = g) := by show (_ ∧ _ ∧ True) = _; simp
def bk_X9_flood_0 (E : ZE) (CT : Nat → ZC) (X : ZK) (Rt : ZR) (ls : ZL) (st : List ZV) (h : ZH) (b : ZB2) : Prop := zB E CT k_X9_flood_0 0 ls st h b (fun t ls st h b => X t ls st h b) Rt
theorem bs_X9_flood_0 {E : ZE} {CT : Nat → ZC} {X : ZK} {Rt : ZR} {ls : ZL} {st : List ZV} {h : ZH} {b : ZB2} (hX : zCl E mX9_flood 9 false CT Rt X) (q : bk_X9_flood_0 E CT X Rt ls st h b) : X 0 ls st h b := by
  refine hX k_X9_flood_0 0 ok_X9_flood_0 _ ?_ ls st h b q
  exact fun t ls st h b q => q
def bk_X9_flood_7 (E : ZE) (CT : Nat → ZC) (X : ZK) (Rt : ZR) (ls : ZL) (st : List ZV) (h : ZH) (b : ZB2) : Prop := zB E CT k_X9_flood_7 7 ls st h b (fun t ls st h b => X t ls st h b) Rt
theorem bs_X9_flood_7 {E : ZE} {CT : Nat → ZC} {X : ZK} {Rt : ZR} {ls : ZL} {st : List ZV} {h : ZH} {b : ZB2} (hX : zCl E mX9_flood 9 false CT Rt X) (q : bk_X9_flood_7 E CT X Rt ls st h b) : X 7 ls st h b := by
  refine hX k_X9_flood_7 7 ok_X9_flood_7 _ ?_ ls st h b q
  exact fun t ls st h b q => q
def bk_X9_flood_14 (E : ZE) (CT : Nat → ZC) (X : ZK) (Rt : ZR) (ls : ZL) (st : List ZV) (h : ZH) (b : ZB2) : Prop := zB E CT k_X9_flood_14 14 ls st h b (fun t ls st h b => X t ls st h b) Rt
theorem bs_X9_flood_14 {E : ZE} {CT : Nat → ZC} {X : ZK} {Rt : ZR} {ls : ZL} {st : List ZV} {h : ZH} {b : ZB2} (hX : zCl E mX9_flood 9 false CT Rt X) (q : bk_X9_flood_14 E CT X Rt ls st h b) : X 14 ls st h b := by
  refine hX k_X9_flood_14 14 ok_X9_flood_14 _ ?_ ls st h b q
  exact fun t ls st h b q => q
def bk_X9_flood_18 (E : ZE) (CT : Nat → ZC) (X : ZK) (Rt : ZR) (ls : ZL) (st : List ZV) (h : ZH) (b : ZB2) : Prop := zB E CT k_X9_flood_18 18 ls st h b (fun t ls st h b => X t ls st h b) Rt
theorem bs_X9_flood_18 {E : ZE} {CT : Nat → ZC} {X : ZK} {Rt : ZR} {ls : ZL} {st : List ZV} {h : ZH} {b : ZB2} (hX : zCl E mX9_flood 9 false CT Rt X) (q : bk_X9_flood_18 E CT X Rt ls st h b) : X 18 ls st h b := by
  refine hX k_X9_flood_18 18 ok_X9_flood_18 _ ?_ ls st h b q
  exact fun t ls st h b q => q
def bk_X9_flood_23 (E : ZE) (CT : Nat → ZC) (X : ZK) (Rt : ZR) (ls : ZL) (st : List ZV) (h : ZH) (b : ZB2) : Prop := zB E CT k_X9_flood_23 23 ls st h b (fun t ls st h b => X t ls st h b) Rt
theorem bs_X9_flood_23 {E : ZE} {CT : Nat → ZC} {X : ZK} {Rt : ZR} {ls : ZL} {st : List ZV} {h : ZH} {b : ZB2} (hX : zCl E mX9_flood 9 false CT Rt X) (q : bk_X9_flood_23 E CT X Rt ls st h b) : X 23 ls st h b := by
  refine hX k_X9_flood_23 23 ok_X9_flood_23 _ ?_ ls st h b q
  exact fun t ls st h b q => q
def bk_X9_flood_29 (E : ZE) (CT : Nat → ZC) (X : ZK) (Rt : ZR) (ls : ZL) (st : List ZV) (h : ZH) (b : ZB2) : Prop := zB E CT k_X9_flood_29 29 ls st h b (fun t ls st h b => X t ls st h b) Rt
theorem bs_X9_flood_29 {E : ZE} {CT : Nat → ZC} {X : ZK} {Rt : ZR} {ls : ZL} {st : List ZV} {h : ZH} {b : ZB2} (hX : zCl E mX9_flood 9 false CT Rt X) (q : bk_X9_flood_29 E CT X Rt ls st h b) : X 29 ls st h b := by
  refine hX k_X9_flood_29 29 ok_X9_flood_29 _ ?_ ls st h b q
  exact fun t ls st h b q => q
def bk_X9_flood_37 (E : ZE) (CT : Nat → ZC) (X : ZK) (Rt : ZR) (ls : ZL) (st : List ZV) (h : ZH) (b : ZB2) : Prop := zB E CT k_X9_flood_37 37 ls st h b (fun t ls st h b => X t ls st h b) Rt
theorem bs_X9_flood_37 {E : ZE} {CT : Nat → ZC} {X : ZK} {Rt : ZR} {ls : ZL} {st : List ZV} {h : ZH} {b : ZB2} (hX : zCl E mX9_flood 9 false CT Rt X) (q : bk_X9_flood_37 E CT X Rt ls st h b) : X 37 ls st h b := by
  refine hX k_X9_flood_37 37 ok_X9_flood_37 _ ?_ ls st h b q
  exact fun t ls st h b q => q
def bk_X9_flood_40 (E : ZE) (CT : Nat → ZC) (X : ZK) (Rt : ZR) (ls : ZL) (st : List ZV) (h : ZH) (b : ZB2) : Prop := zB E CT k_X9_flood_40 40 ls st h b (fun t ls st h b => X t ls st h b) Rt
theorem bs_X9_flood_40 {E : ZE} {CT : Nat → ZC} {X : ZK} {Rt : ZR} {ls : ZL} {st : List ZV} {h : ZH} {b : ZB2} (hX : zCl E mX9_flood 9 false CT Rt X) (q : bk_X9_flood_40 E CT X Rt ls st h b) : X 40 ls st h b := by
  refine hX k_X9_flood_40 40 ok_X9_flood_40 _ ?_ ls st h b q
  exact fun t ls st h b q => q
def bk_X9_flood_46 (E : ZE) (CT : Nat → ZC) (X : ZK) (Rt : ZR) (ls : ZL) (st : List ZV) (h : ZH) (b : ZB2) : Prop := zB E CT k_X9_flood_46 46 ls st h b (fun t ls st h b => X t ls st h b) Rt
theorem bs_X9_flood_46 {E : ZE} {CT : Nat → ZC} {X : ZK} {Rt : ZR} {ls : ZL} {st : List ZV} {h : ZH} {b : ZB2} (hX : zCl E mX9_flood 9 false CT Rt X) (q : bk_X9_flood_46 E CT X Rt ls st h b) : X 46 ls st h b := by
  refine hX k_X9_flood_46 46 ok_X9_flood_46 _ ?_ ls st h b q
  exact fun t ls st h b q => q
def bk_X9_flood_55 (E : ZE) (CT : Nat → ZC) (X : ZK) (Rt : ZR) (ls : ZL) (st : List ZV) (h : ZH) (b : ZB2) : Prop := zB E CT k_X9_flood_55 55 ls st h b (fun t ls st h b => X t ls st h b) Rt
theorem bs_X9_flood_55 {E : ZE} {CT : Nat → ZC} {X : ZK} {Rt : ZR} {ls : ZL} {st : List ZV} {h : ZH} {b : ZB2} (hX : zCl E mX9_flood 9 false CT Rt X) (q : bk_X9_flood_55 E CT X Rt ls st h b) : X 55 ls st h b := by
  refine hX k_X9_flood_55 55 ok_X9_flood_55 _ ?_ ls st h b q
  exact fun t ls st h b q => q
def bk_X9_flood_64 (E : ZE) (CT : Nat → ZC) (X : ZK) (Rt : ZR) (ls : ZL) (st : List ZV) (h : ZH) (b : ZB2) : Prop := zB E CT k_X9_flood_64 64 ls st h b (fun t ls st h b => X t ls st h b) Rt
theorem bs_X9_flood_64 {E : ZE} {CT : Nat → ZC} {X : ZK} {Rt : ZR} {ls : ZL} {st : List ZV} {h : ZH} {b : ZB2} (hX : zCl E mX9_flood 9 false CT Rt X) (q : bk_X9_flood_64 E CT X Rt ls st h b) : X 64 ls st h b := by
  refine hX k_X9_flood_64 64 ok_X9_flood_64 _ ?_ ls st h b q
  exact fun t ls st h b q => q
def bk_X9_flood_76 (E : ZE) (CT : Nat → ZC) (X : ZK) (Rt : ZR) (ls : ZL) (st : List ZV) (h : ZH) (b : ZB2) : Prop := zB E CT k_X9_flood_76 76 ls st h b (fun t ls st h b => X t ls st h b) Rt
theorem bs_X9_flood_76 {E : ZE} {CT : Nat → ZC} {X : ZK} {Rt : ZR} {ls : ZL} {st : List ZV} {h : ZH} {b : ZB2} (hX : zCl E mX9_flood 9 false CT Rt X) (q : bk_X9_flood_76 E CT X Rt ls st h b) : X 76 ls st h b := by
  refine hX k_X9_flood_76 76 ok_X9_flood_76 _ ?_ ls st h b q
  exact fun t ls st h b q => q
def bk_X9_flood_82 (E : ZE) (CT : Nat → ZC) (X : ZK) (Rt : ZR) (ls : ZL) (st : List ZV) (h : ZH) (b : ZB2) : Prop := zB E CT k_X9_flood_82 82 ls st h b (fun t ls st h b => X t ls st h b) Rt
theorem bs_X9_flood_82 {E : ZE} {CT : Nat → ZC} {X : ZK} {Rt : ZR} {ls : ZL} {st : List ZV} {h : ZH} {b : ZB2} (hX : zCl E mX9_flood 9 false CT Rt X) (q : bk_X9_flood_82 E CT X Rt ls st h b) : X 82 ls st h b := by
  refine hX k_X9_flood_82 82 ok_X9_flood_82 _ ?_ ls st h b q
  exact fun t ls st h b q => q
def bk_X9_flood_98 (E : ZE) (CT : Nat → ZC) (X : ZK) (Rt : ZR) (ls : ZL) (st : List ZV) (h : ZH) (b : ZB2) : Prop := zB E CT k_X9_flood_98 98 ls st h b (fun t ls st h b => X t ls st h b) Rt
theorem bs_X9_flood_98 {E : ZE} {CT : Nat → ZC} {X : ZK} {Rt : ZR} {ls : ZL} {st : List ZV} {h : ZH} {b : ZB2} (hX : zCl E mX9_flood 9 false CT Rt X) (q : bk_X9_flood_98 E CT X Rt ls st h b) : X 98 ls st h b := by
  refine hX k_X9_flood_98 98 ok_X9_flood_98 _ ?_ ls st h b q
  exact fun t ls st h b q => q
def bk_X9_flood_109 (E : ZE) (CT : Nat → ZC) (X : ZK) (Rt : ZR) (ls : ZL) (st : List ZV) (h : ZH) (b : ZB2) : Prop := zB E CT k_X9_flood_109 109 ls st h b (fun t ls st h b => X t ls st h b) Rt
theorem bs_X9_flood_109 {E : ZE} {CT : Nat → ZC} {X : ZK} {Rt : ZR} {ls : ZL} {st : List ZV} {h : ZH} {b : ZB2} (hX : zCl E mX9_flood 9 false CT Rt X) (q : bk_X9_flood_109 E CT X Rt ls st h b) : X 109 ls st h b := by
  refine hX k_X9_flood_109 109 ok_X9_flood_109 _ ?_ ls st h b q
  exact fun t ls st h b q => q
def bk_X9_flood_115 (E : ZE) (CT : Nat → ZC) (X : ZK) (Rt : ZR) (ls : ZL) (st : List ZV) (h : ZH) (b : ZB2) : Prop := zB E CT k_X9_flood_115 115 ls st h b (fun t ls st h b => X t ls st h b) Rt
theorem bs_X9_flood_115 {E : ZE} {CT : Nat → ZC} {X : ZK} {Rt : ZR} {ls : ZL} {st : List ZV} {h : ZH} {b : ZB2} (hX : zCl E mX9_flood 9 false CT Rt X) (q : bk_X9_flood_115 E CT X Rt ls st h b) : X 115 ls st h b := by
  refine hX k_X9_flood_115 115 ok_X9_flood_115 _ ?_ ls st h b q
  exact fun t ls st h b q => q
def bk_X9_flood_121 (E : ZE) (CT : Nat → ZC) (X : ZK) (Rt : ZR) (ls : ZL) (st : List ZV) (h : ZH) (b : ZB2) : Prop := zB E CT k_X9_flood_121 121 ls st h b (fun t ls st h b => X t ls st h b) Rt
theorem bs_X9_flood_121 {E : ZE} {CT : Nat → ZC} {X : ZK} {Rt : ZR} {ls : ZL} {st : List ZV} {h : ZH} {b : ZB2} (hX : zCl E mX9_flood 9 false CT Rt X) (q : bk_X9_flood_121 E CT X Rt ls st h b) : X 121 ls st h b := by
  refine hX k_X9_flood_121 121 ok_X9_flood_121 _ ?_ ls st h b q
  exact fun t ls st h b q => q
-- X9_flood: cuts [7, 14, 18, 23, 29, 37, 40, 46, 55, 64, 76, 82, 98, 109, 115, 121]
def k_X9_fewestWays_0 : List ZI := [(.aload_n 0, 1, (0, [0], [])), (.getfield 9, 3, (0, [9, 1], [])), (.ldc 25, 2, (1000000, [], [])), (.invokestatic 26, 3, (0, [223, 2, 0, 0], []))]
theorem ok_X9_fewestWays_0 : zOK cX9_fewestWays 9 false 3 k_X9_fewestWays_0 0 = true := zOK_by (by decide +kernel)
def k_X9_fewestWays_9 : List ZI := [(.aload_n 0, 1, (0, [0], [])), (.getfield 21, 3, (0, [9, 0], [])), (.getfield 51, 3, (0, [2, 1], [])), (.iload_n 1, 1, (0, [1], [])), (.iaload, 1, (0, [], [])), (.iconst 1, 1, (0, [], [])), (.if_icmp .ne 8, 3, (0, [27], []))]
theorem ok_X9_fewestWays_9 : zOK cX9_fewestWays 9 false 3 k_X9_fewestWays_9 9 = true := zOK_by (by decide +kernel)
def k_X9_fewestWays_22 : List ZI := [(.aload_n 0, 1, (0, [0], [])), (.iload_n 1, 1, (0, [1], [])), (.invokevirtual 57, 3, (0, [61, 2, 0, 9], []))]
theorem ok_X9_fewestWays_22 : zOK cX9_fewestWays 9 false 3 k_X9_fewestWays_22 22 = true := zOK_by (by decide +kernel)
def k_X9_fewestWays_27 : List ZI := [(.aload_n 0, 1, (0, [0], [])), (.getfield 9, 3, (0, [9, 1], [])), (.iload_n 2, 1, (0, [2], [])), (.iaload, 1, (0, [], [])), (.ireturn, 1, (0, [], []))]
theorem ok_X9_fewestWays_27 : zOK cX9_fewestWays 9 false 3 k_X9_fewestWays_27 27 = true := zOK_by (by decide +kernel)
theorem rt_X9_fewestWays {g : Nat} {post : Option ZV → ZH → Prop} {h : ZH} {b : ZB2} {z : Int} : zRt mX9_fewestWays g post (some (.inl z)) h b = (post (some (.inl z)) h ∧ h.1.length = g) := by show (_ ∧ _ ∧ True) = _; simp
def bk_X9_fewestWays_0 (E : ZE) (CT : Nat → ZC) (X : ZK) (Rt : ZR) (ls : ZL) (st : List ZV) (h : ZH) (b : ZB2) : Prop := zB E CT k_X9_fewestWays_0 0 ls st h b (fun t ls st h b => X t ls st h b) Rt
theorem bs_X9_fewestWays_0 {E : ZE} {CT : Nat → ZC} {X : ZK} {Rt : ZR} {ls : ZL} {st : List ZV} {h : ZH} {b : ZB2} (hX : zCl E mX9_fewestWays 9 false CT Rt X) (q : bk_X9_fewestWays_0 E CT X Rt ls st h b) : X 0 ls st h b := by
  refine hX k_X9_fewestWays_0 0 ok_X9_fewestWays_0 _ ?_ ls st h b q
  exact fun t ls st h b q => q
def bk_X9_fewestWays_9 (E : ZE) (CT : Nat → ZC) (X : ZK) (Rt : ZR) (ls : ZL) (st : List ZV) (h : ZH) (b : ZB2) : Prop := zB E CT k_X9_fewestWays_9 9 ls st h b (fun t ls st h b => X t ls st h b) Rt
theorem bs_X9_fewestWays_9 {E : ZE} {CT : Nat → ZC} {X : ZK} {Rt : ZR} {ls : ZL} {st : List ZV} {h : ZH} {b : ZB2} (hX : zCl E mX9_fewestWays 9 false CT Rt X) (q : bk_X9_fewestWays_9 E CT X Rt ls st h b) : X 9 ls st h b := by
  refine hX k_X9_fewestWays_9 9 ok_X9_fewestWays_9 _ ?_ ls st h b q
  exact fun t ls st h b q => q
def bk_X9_fewestWays_22 (E : ZE) (CT : Nat → ZC) (X : ZK) (Rt : ZR) (ls : ZL) (st : List ZV) (h : ZH) (b : ZB2) : Prop := zB E CT k_X9_fewestWays_22 22 ls st h b (fun t ls st h b => X t ls st h b) Rt
theorem bs_X9_fewestWays_22 {E : ZE} {CT : Nat → ZC} {X : ZK} {Rt : ZR} {ls : ZL} {st : List ZV} {h : ZH} {b : ZB2} (hX : zCl E mX9_fewestWays 9 false CT Rt X) (q : bk_X9_fewestWays_22 E CT X Rt ls st h b) : X 22 ls st h b := by
  refine hX k_X9_fewestWays_22 22 ok_X9_fewestWays_22 _ ?_ ls st h b q
  exact fun t ls st h b q => q
def bk_X9_fewestWays_27 (E : ZE) (CT : Nat → ZC) (X : ZK) (Rt : ZR) (ls : ZL) (st : List ZV) (h : ZH) (b : ZB2) : Prop := zB E CT k_X9_fewestWays_27 27 ls st h b (fun t ls st h b => X t ls st h b) Rt
theorem bs_X9_fewestWays_27 {E : ZE} {CT : Nat → ZC} {X : ZK} {Rt : ZR} {ls : ZL} {st : List ZV} {h : ZH} {b : ZB2} (hX : zCl E mX9_fewestWays 9 false CT Rt X) (q : bk_X9_fewestWays_27 E CT X Rt ls st h b) : X 27 ls st h b := by
  refine hX k_X9_fewestWays_27 27 ok_X9_fewestWays_27 _ ?_ ls st h b q
  exact fun t ls st h b q => q
-- X9_fewestWays: cuts [9, 22, 27]
def k_X9_partsDug_0 : List ZI := [(.aload_n 0, 1, (0, [0], [])), (.getfield 9, 3, (0, [9, 1], [])), (.ldc 25, 2, (1000000, [], [])), (.invokestatic 26, 3, (0, [223, 2, 0, 0], []))]
theorem ok_X9_partsDug_0 : zOK cX9_partsDug 9 false 3 k_X9_partsDug_0 0 = true := zOK_by (by decide +kernel)
def k_X9_partsDug_9 : List ZI := [(.iconst 0, 1, (0, [], [])), (.istore_n 1, 1, (0, [1], [])), (.iconst 0, 1, (0, [], [])), (.istore_n 2, 1, (0, [2], []))]
theorem ok_X9_partsDug_9 : zOK cX9_partsDug 9 false 3 k_X9_partsDug_9 9 = true := zOK_by (by decide +kernel)
def k_X9_partsDug_13 : List ZI := [(.iload_n 2, 1, (0, [2], [])), (.bipush 64, 2, (0, [], [])), (.if_icmp .ge 41, 3, (0, [57], []))]
theorem ok_X9_partsDug_13 : zOK cX9_partsDug 9 false 3 k_X9_partsDug_13 13 = true := zOK_by (by decide +kernel)
def k_X9_partsDug_19 : List ZI := [(.aload_n 0, 1, (0, [0], [])), (.getfield 21, 3, (0, [9, 0], [])), (.getfield 51, 3, (0, [2, 1], [])), (.iload_n 2, 1, (0, [2], [])), (.iaload, 1, (0, [], [])), (.iconst 1, 1, (0, [], [])), (.if_icmp .ne 22, 3, (0, [51], []))]
theorem ok_X9_partsDug_19 : zOK cX9_partsDug 9 false 3 k_X9_partsDug_19 19 = true := zOK_by (by decide +kernel)
def k_X9_partsDug_32 : List ZI := [(.aload_n 0, 1, (0, [0], [])), (.getfield 9, 3, (0, [9, 1], [])), (.iload_n 2, 1, (0, [2], [])), (.iaload, 1, (0, [], [])), (.ldc 25, 2, (1000000, [], [])), (.if_icmp .ne 11, 3, (0, [51], []))]
theorem ok_X9_partsDug_32 : zOK cX9_partsDug 9 false 3 k_X9_partsDug_32 32 = true := zOK_by (by decide +kernel)
def k_X9_partsDug_43 : List ZI := [(.aload_n 0, 1, (0, [0], [])), (.iload_n 2, 1, (0, [2], [])), (.invokevirtual 57, 3, (0, [61, 2, 0, 9], [])), (.iinc 1 1, 3, (0, [1], []))]
theorem ok_X9_partsDug_43 : zOK cX9_partsDug 9 false 3 k_X9_partsDug_43 43 = true := zOK_by (by decide +kernel)
def k_X9_partsDug_51 : List ZI := [(.iinc 2 1, 3, (0, [2], [])), (.goto (-41), 3, (0, [13], []))]
theorem ok_X9_partsDug_51 : zOK cX9_partsDug 9 false 3 k_X9_partsDug_51 51 = true := zOK_by (by decide +kernel)
def k_X9_partsDug_57 : List ZI := [(.iload_n 1, 1, (0, [1], [])), (.ireturn, 1, (0, [], []))]
theorem ok_X9_partsDug_57 : zOK cX9_partsDug 9 false 3 k_X9_partsDug_57 57 = true := zOK_by (by decide +kernel)
theorem rt_X9_partsDug {g : Nat} {post : Option ZV → ZH → Prop} {h : ZH} {b : ZB2} {z : Int} : zRt mX9_partsDug g post (some (.inl z)) h b = (post (some (.inl z)) h ∧ h.1.length = g) := by show (_ ∧ _ ∧ True) = _; simp
def bk_X9_partsDug_0 (E : ZE) (CT : Nat → ZC) (X : ZK) (Rt : ZR) (ls : ZL) (st : List ZV) (h : ZH) (b : ZB2) : Prop := zB E CT k_X9_partsDug_0 0 ls st h b (fun t ls st h b => X t ls st h b) Rt
theorem bs_X9_partsDug_0 {E : ZE} {CT : Nat → ZC} {X : ZK} {Rt : ZR} {ls : ZL} {st : List ZV} {h : ZH} {b : ZB2} (hX : zCl E mX9_partsDug 9 false CT Rt X) (q : bk_X9_partsDug_0 E CT X Rt ls st h b) : X 0 ls st h b := by
  refine hX k_X9_partsDug_0 0 ok_X9_partsDug_0 _ ?_ ls st h b q
  exact fun t ls st h b q => q
def bk_X9_partsDug_9 (E : ZE) (CT : Nat → ZC) (X : ZK) (Rt : ZR) (ls : ZL) (st : List ZV) (h : ZH) (b : ZB2) : Prop := zB E CT k_X9_partsDug_9 9 ls st h b (fun t ls st h b => X t ls st h b) Rt
theorem bs_X9_partsDug_9 {E : ZE} {CT : Nat → ZC} {X : ZK} {Rt : ZR} {ls : ZL} {st : List ZV} {h : ZH} {b : ZB2} (hX : zCl E mX9_partsDug 9 false CT Rt X) (q : bk_X9_partsDug_9 E CT X Rt ls st h b) : X 9 ls st h b := by
  refine hX k_X9_partsDug_9 9 ok_X9_partsDug_9 _ ?_ ls st h b q
  exact fun t ls st h b q => q
def bk_X9_partsDug_13 (E : ZE) (CT : Nat → ZC) (X : ZK) (Rt : ZR) (ls : ZL) (st : List ZV) (h : ZH) (b : ZB2) : Prop := zB E CT k_X9_partsDug_13 13 ls st h b (fun t ls st h b => X t ls st h b) Rt
theorem bs_X9_partsDug_13 {E : ZE} {CT : Nat → ZC} {X : ZK} {Rt : ZR} {ls : ZL} {st : List ZV} {h : ZH} {b : ZB2} (hX : zCl E mX9_partsDug 9 false CT Rt X) (q : bk_X9_partsDug_13 E CT X Rt ls st h b) : X 13 ls st h b := by
  refine hX k_X9_partsDug_13 13 ok_X9_partsDug_13 _ ?_ ls st h b q
  exact fun t ls st h b q => q
def bk_X9_partsDug_19 (E : ZE) (CT : Nat → ZC) (X : ZK) (Rt : ZR) (ls : ZL) (st : List ZV) (h : ZH) (b : ZB2) : Prop := zB E CT k_X9_partsDug_19 19 ls st h b (fun t ls st h b => X t ls st h b) Rt
theorem bs_X9_partsDug_19 {E : ZE} {CT : Nat → ZC} {X : ZK} {Rt : ZR} {ls : ZL} {st : List ZV} {h : ZH} {b : ZB2} (hX : zCl E mX9_partsDug 9 false CT Rt X) (q : bk_X9_partsDug_19 E CT X Rt ls st h b) : X 19 ls st h b := by
  refine hX k_X9_partsDug_19 19 ok_X9_partsDug_19 _ ?_ ls st h b q
  exact fun t ls st h b q => q
def bk_X9_partsDug_32 (E : ZE) (CT : Nat → ZC) (X : ZK) (Rt : ZR) (ls : ZL) (st : List ZV) (h : ZH) (b : ZB2) : Prop := zB E CT k_X9_partsDug_32 32 ls st h b (fun t ls st h b => X t ls st h b) Rt
theorem bs_X9_partsDug_32 {E : ZE} {CT : Nat → ZC} {X : ZK} {Rt : ZR} {ls : ZL} {st : List ZV} {h : ZH} {b : ZB2} (hX : zCl E mX9_partsDug 9 false CT Rt X) (q : bk_X9_partsDug_32 E CT X Rt ls st h b) : X 32 ls st h b := by
  refine hX k_X9_partsDug_32 32 ok_X9_partsDug_32 _ ?_ ls st h b q
  exact fun t ls st h b q => q
def bk_X9_partsDug_43 (E : ZE) (CT : Nat → ZC) (X : ZK) (Rt : ZR) (ls : ZL) (st : List ZV) (h : ZH) (b : ZB2) : Prop := zB E CT k_X9_partsDug_43 43 ls st h b (fun t ls st h b => X t ls st h b) Rt
theorem bs_X9_partsDug_43 {E : ZE} {CT : Nat → ZC} {X : ZK} {Rt : ZR} {ls : ZL} {st : List ZV} {h : ZH} {b : ZB2} (hX : zCl E mX9_partsDug 9 false CT Rt X) (q : bk_X9_partsDug_43 E CT X Rt ls st h b) : X 43 ls st h b := by
  refine hX k_X9_partsDug_43 43 ok_X9_partsDug_43 _ ?_ ls st h b q
  exact fun t ls st h b q => q
def bk_X9_partsDug_51 (E : ZE) (CT : Nat → ZC) (X : ZK) (Rt : ZR) (ls : ZL) (st : List ZV) (h : ZH) (b : ZB2) : Prop := zB E CT k_X9_partsDug_51 51 ls st h b (fun t ls st h b => X t ls st h b) Rt
theorem bs_X9_partsDug_51 {E : ZE} {CT : Nat → ZC} {X : ZK} {Rt : ZR} {ls : ZL} {st : List ZV} {h : ZH} {b : ZB2} (hX : zCl E mX9_partsDug 9 false CT Rt X) (q : bk_X9_partsDug_51 E CT X Rt ls st h b) : X 51 ls st h b := by
  refine hX k_X9_partsDug_51 51 ok_X9_partsDug_51 _ ?_ ls st h b q
  exact fun t ls st h b q => q
def bk_X9_partsDug_57 (E : ZE) (CT : Nat → ZC) (X : ZK) (Rt : ZR) (ls : ZL) (st : List ZV) (h : ZH) (b : ZB2) : Prop := zB E CT k_X9_partsDug_57 57 ls st h b (fun t ls st h b => X t ls st h b) Rt
theorem bs_X9_partsDug_57 {E : ZE} {CT : Nat → ZC} {X : ZK} {Rt : ZR} {ls : ZL} {st : List ZV} {h : ZH} {b : ZB2} (hX : zCl E mX9_partsDug 9 false CT Rt X) (q : bk_X9_partsDug_57 E CT X Rt ls st h b) : X 57 ls st h b := by
  refine hX k_X9_partsDug_57 57 ok_X9_partsDug_57 _ ?_ ls st h b q
  exact fun t ls st h b q => q
-- X9_partsDug: cuts [9, 13, 19, 32, 43, 51, 57]
def k_X10_steps_0 : List ZI := [(.iload_n 1, 1, (0, [1], [])), (.bipush 63, 2, (0, [], [])), (.invokestatic 92, 3, (0, [111, 2, 0, 10], [])), (.ifCond .ne 12, 3, (0, [18], []))]
theorem ok_X10_steps_0 : zOK cX10_steps 10 false 4 k_X10_steps_0 0 = true := zOK_by (by decide +kernel)
def k_X10_steps_9 : List ZI := [(.iload_n 2, 1, (0, [2], [])), (.bipush 63, 2, (0, [], [])), (.invokestatic 92, 3, (0, [111, 2, 0, 10], [])), (.ifCond .eq 10, 3, (0, [25], []))]
theorem ok_X10_steps_9 : zOK cX10_steps 10 false 4 k_X10_steps_9 9 = true := zOK_by (by decide +kernel)
def k_X10_steps_18 : List ZI := [(.aload_n 0, 1, (0, [0], [])), (.ldc 96, 2, ((-1000000001), [], [])), (.invokevirtual 97, 3, (0, [110, 2, 0, 10], [])), (.ireturn, 1, (0, [], []))]
theorem ok_X10_steps_18 : zOK cX10_steps 10 false 4 k_X10_steps_18 18 = true := zOK_by (by decide +kernel)
def k_X10_steps_25 : List ZI := [(.aload_n 0, 1, (0, [0], [])), (.getfield 70, 3, (0, [10, 5], [])), (.iload_n 1, 1, (0, [1], [])), (.iload_n 2, 1, (0, [2], [])), (.invokevirtual 230, 3, (0, [59, 3, 0, 9], [])), (.istore_n 3, 1, (0, [3], []))]
theorem ok_X10_steps_25 : zOK cX10_steps 10 false 4 k_X10_steps_25 25 = true := zOK_by (by decide +kernel)
def k_X10_steps_35 : List ZI := [(.iload_n 3, 1, (0, [3], [])), (.ldc 233, 2, (1000000, [], [])), (.if_icmp .ne 12, 3, (0, [50], [])), (.aload_n 0, 1, (0, [0], [])), (.ldc 217, 2, ((-1000000002), [], [])), (.invokevirtual 97, 3, (0, [110, 2, 0, 10], [])), (.goto 4, 3, (0, [51], []))]
theorem ok_X10_steps_35 : zOK cX10_steps 10 false 4 k_X10_steps_35 35 = true := zOK_by (by decide +kernel)
def k_X10_steps_50 : List ZI := [(.iload_n 3, 1, (0, [3], []))]
theorem ok_X10_steps_50 : zOK cX10_steps 10 false 4 k_X10_steps_50 50 = true := zOK_by (by decide +kernel)
def k_X10_steps_51 : List ZI := [(.ireturn, 1, (0, [], []))]
theorem ok_X10_steps_51 : zOK cX10_steps 10 false 4 k_X10_steps_51 51 = true := zOK_by (by decide +kernel)
theorem rt_X10_steps {g : Nat} {post : Option ZV → ZH → Prop} {h : ZH} {b : ZB2} {z : Int} : zRt mX10_steps g post (some (.inl z)) h b = (post (some (.inl z)) h ∧ h.1.length = g) := by show (_ ∧ _ ∧ True) = _; simp
def bk_X10_steps_0 (E : ZE) (CT : Nat → ZC) (X : ZK) (Rt : ZR) (ls : ZL) (st : List ZV) (h : ZH) (b : ZB2) : Prop := zB E CT k_X10_steps_0 0 ls st h b (fun t ls st h b => X t ls st h b) Rt
theorem bs_X10_steps_0 {E : ZE} {CT : Nat → ZC} {X : ZK} {Rt : ZR} {ls : ZL} {st : List ZV} {h : ZH} {b : ZB2} (hX : zCl E mX10_steps 10 false CT Rt X) (q : bk_X10_steps_0 E CT X Rt ls st h b) : X 0 ls st h b := by
  refine hX k_X10_steps_0 0 ok_X10_steps_0 _ ?_ ls st h b q
  exact fun t ls st h b q => q
def bk_X10_steps_9 (E : ZE) (CT : Nat → ZC) (X : ZK) (Rt : ZR) (ls : ZL) (st : List ZV) (h : ZH) (b : ZB2) : Prop := zB E CT k_X10_steps_9 9 ls st h b (fun t ls st h b => X t ls st h b) Rt
theorem bs_X10_steps_9 {E : ZE} {CT : Nat → ZC} {X : ZK} {Rt : ZR} {ls : ZL} {st : List ZV} {h : ZH} {b : ZB2} (hX : zCl E mX10_steps 10 false CT Rt X) (q : bk_X10_steps_9 E CT X Rt ls st h b) : X 9 ls st h b := by
  refine hX k_X10_steps_9 9 ok_X10_steps_9 _ ?_ ls st h b q
  exact fun t ls st h b q => q
def bk_X10_steps_18 (E : ZE) (CT : Nat → ZC) (X : ZK) (Rt : ZR) (ls : ZL) (st : List ZV) (h : ZH) (b : ZB2) : Prop := zB E CT k_X10_steps_18 18 ls st h b (fun t ls st h b => X t ls st h b) Rt
theorem bs_X10_steps_18 {E : ZE} {CT : Nat → ZC} {X : ZK} {Rt : ZR} {ls : ZL} {st : List ZV} {h : ZH} {b : ZB2} (hX : zCl E mX10_steps 10 false CT Rt X) (q : bk_X10_steps_18 E CT X Rt ls st h b) : X 18 ls st h b := by
  refine hX k_X10_steps_18 18 ok_X10_steps_18 _ ?_ ls st h b q
  exact fun t ls st h b q => q
def bk_X10_steps_25 (E : ZE) (CT : Nat → ZC) (X : ZK) (Rt : ZR) (ls : ZL) (st : List ZV) (h : ZH) (b : ZB2) : Prop := zB E CT k_X10_steps_25 25 ls st h b (fun t ls st h b => X t ls st h b) Rt
theorem bs_X10_steps_25 {E : ZE} {CT : Nat → ZC} {X : ZK} {Rt : ZR} {ls : ZL} {st : List ZV} {h : ZH} {b : ZB2} (hX : zCl E mX10_steps 10 false CT Rt X) (q : bk_X10_steps_25 E CT X Rt ls st h b) : X 25 ls st h b := by
  refine hX k_X10_steps_25 25 ok_X10_steps_25 _ ?_ ls st h b q
  exact fun t ls st h b q => q
def bk_X10_steps_51 (E : ZE) (CT : Nat → ZC) (X : ZK) (Rt : ZR) (ls : ZL) (st : List ZV) (h : ZH) (b : ZB2) : Prop := zB E CT k_X10_steps_51 51 ls st h b (fun t ls st h b => X t ls st h b) Rt
theorem bs_X10_steps_51 {E : ZE} {CT : Nat → ZC} {X : ZK} {Rt : ZR} {ls : ZL} {st : List ZV} {h : ZH} {b : ZB2} (hX : zCl E mX10_steps 10 false CT Rt X) (q : bk_X10_steps_51 E CT X Rt ls st h b) : X 51 ls st h b := by
  refine hX k_X10_steps_51 51 ok_X10_steps_51 _ ?_ ls st h b q
  exact fun t ls st h b q => q
def bk_X10_steps_35 (E : ZE) (CT : Nat → ZC) (X : ZK) (Rt : ZR) (ls : ZL) (st : List ZV) (h : ZH) (b : ZB2) : Prop := zB E CT k_X10_steps_35 35 ls st h b (fun t ls st h b => if t = 51 then bk_X10_steps_51 E CT X Rt ls st h b else X t ls st h b) Rt
theorem bs_X10_steps_35 {E : ZE} {CT : Nat → ZC} {X : ZK} {Rt : ZR} {ls : ZL} {st : List ZV} {h : ZH} {b : ZB2} (hX : zCl E mX10_steps 10 false CT Rt X) (q : bk_X10_steps_35 E CT X Rt ls st h b) : X 35 ls st h b := by
  refine hX k_X10_steps_35 35 ok_X10_steps_35 _ ?_ ls st h b q
  exact by
    intro t ls st h b q
    by_cases c : t = 51
    · subst c; rw [if_pos rfl] at q; exact bs_X10_steps_51 hX q
    rw [if_neg c] at q
    exact q
def bk_X10_steps_50 (E : ZE) (CT : Nat → ZC) (X : ZK) (Rt : ZR) (ls : ZL) (st : List ZV) (h : ZH) (b : ZB2) : Prop := zB E CT k_X10_steps_50 50 ls st h b (fun t ls st h b => if t = 51 then bk_X10_steps_51 E CT X Rt ls st h b else X t ls st h b) Rt
theorem bs_X10_steps_50 {E : ZE} {CT : Nat → ZC} {X : ZK} {Rt : ZR} {ls : ZL} {st : List ZV} {h : ZH} {b : ZB2} (hX : zCl E mX10_steps 10 false CT Rt X) (q : bk_X10_steps_50 E CT X Rt ls st h b) : X 50 ls st h b := by
  refine hX k_X10_steps_50 50 ok_X10_steps_50 _ ?_ ls st h b q
  exact by
    intro t ls st h b q
    by_cases c : t = 51
    · subst c; rw [if_pos rfl] at q; exact bs_X10_steps_51 hX q
    rw [if_neg c] at q
    exact q
-- X10_steps: cuts [9, 18, 25, 35, 50]
def k_X10_parts_0 : List ZI := [(.aload_n 0, 1, (0, [0], [])), (.getfield 70, 3, (0, [10, 5], [])), (.invokevirtual 237, 3, (0, [60, 1, 0, 9], [])), (.ireturn, 1, (0, [], []))]
theorem ok_X10_parts_0 : zOK cX10_parts 10 false 1 k_X10_parts_0 0 = true := zOK_by (by decide +kernel)
theorem rt_X10_parts {g : Nat} {post : Option ZV → ZH → Prop} {h : ZH} {b : ZB2} {z : Int} : zRt mX10_parts g post (some (.inl z)) h b = (post (some (.inl z)) h ∧ h.1.length = g) := by show (_ ∧ _ ∧ True) = _; simp
def bk_X10_parts_0 (E : ZE) (CT : Nat → ZC) (X : ZK) (Rt : ZR) (ls : ZL) (st : List ZV) (h : ZH) (b : ZB2) : Prop := zB E CT k_X10_parts_0 0 ls st h b (fun t ls st h b => X t ls st h b) Rt
theorem bs_X10_parts_0 {E : ZE} {CT : Nat → ZC} {X : ZK} {Rt : ZR} {ls : ZL} {st : List ZV} {h : ZH} {b : ZB2} (hX : zCl E mX10_parts 10 false CT Rt X) (q : bk_X10_parts_0 E CT X Rt ls st h b) : X 0 ls st h b := by
  refine hX k_X10_parts_0 0 ok_X10_parts_0 _ ?_ ls st h b q
  exact fun t ls st h b q => q
-- X10_parts: cuts []
def cu (f : Nat → Int) : Nat → Nat
  | 0 => 0
  | k + 1 => cu f k + (if f k = 1000000 then 1 else 0)
theorem cu_le {f : Nat → Int} : ∀ n : Nat, cu f n ≤ n
  | 0 => Nat.le_refl _
  | n + 1 => by
    have := cu_le (f := f) n
    simp only [cu]
    split <;> omega
theorem cu_pos {f : Nat → Int} {j : Nat} (h : f j = 1000000) : ∀ n : Nat, j < n → 1 ≤ cu f n
  | 0, q => by omega
  | n + 1, q => by
    simp only [cu]
    by_cases e : j = n
    · subst e; rw [if_pos h]; omega
    · have := cu_pos h n (by omega)
      omega
theorem cu_up {f : Nat → Int} {j : Nat} {v : Int} (h : f j = 1000000) (hv : ¬ v = 1000000) : ∀ n : Nat, cu (up1 f j v) n + (if j < n then 1 else 0) = cu f n
  | 0 => by simp [cu]
  | n + 1 => by
    have := cu_up h hv n
    simp only [cu]
    by_cases e : j = n
    · subst e
      rw [up1_eq, if_neg hv, if_pos h, if_pos (by omega)]
      rw [if_neg (by omega)] at this
      omega
    · rw [up1_ne (by omega)]
      by_cases q : j < n
      · rw [if_pos q] at this
        rw [if_pos (c := j < n + 1) (by omega)]
        omega
      · rw [if_neg q] at this
        rw [if_neg (c := j < n + 1) (by omega)]
        omega
theorem bsd_sym {c w : Nat} (hc : c < 64) (hw : w < 4) (h : 0 ≤ bsd c w) : ∃ v : Nat, v < 4 ∧ bsd (bsd c w) v = c := by
  have : w = 0 ∨ w = 1 ∨ w = 2 ∨ w = 3 := by omega
  rcases this with e | e | e | e <;> subst e
  · refine ⟨2, by omega, ?_⟩
    unfold bsd at h ⊢
    simp at h ⊢
    (repeat' split at h) <;> (repeat' split) <;> omega
  · refine ⟨3, by omega, ?_⟩
    unfold bsd at h ⊢
    simp at h ⊢
    (repeat' split at h) <;> (repeat' split) <;> omega
  · refine ⟨0, by omega, ?_⟩
    unfold bsd at h ⊢
    simp at h ⊢
    (repeat' split at h) <;> (repeat' split) <;> omega
  · refine ⟨1, by omega, ?_⟩
    unfold bsd at h ⊢
    simp at h ⊢
    (repeat' split at h) <;> (repeat' split) <;> omega
def VC9 (d f0 : Nat → Int) : Prop := (∀ k, k < 64 → f0 k = 1000000 ∨ (0 ≤ f0 k ∧ f0 k ≤ 63)) ∧ ∀ c w : Nat, c < 64 → w < 4 → ¬ f0 c = 1000000 → 0 ≤ bsd c w → d (70 + bsd c w).toNat = 1 → ¬ f0 (bsd c w).toNat = 1000000
theorem nV {d f0 : Nat → Int} (h : VC9 d f0) {c w : Nat} (hc : c < 64) (hw : w < 4) (hd : d (70 + c) = 1) (h0 : f0 c = 1000000) (hb : 0 ≤ bsd c w) : f0 (bsd c w).toNat = 1000000 := by
  apply Classical.byContradiction
  intro q
  have br := bsd_rng (c := c) (w := w) (by omega) (by omega)
  obtain ⟨v, v4, e⟩ := bsd_sym hc hw hb
  obtain ⟨m, hm⟩ : ∃ m : Nat, bsd c w = m := ⟨(bsd c w).toNat, by omega⟩
  rw [hm] at e q
  have := h.2 m v (by omega) v4 q (by rw [e]; omega) (by rw [e, show (70 + (c : Int)).toNat = 70 + c by omega]; exact hd)
  rw [e] at this
  exact this h0
/-- how far the flood is -/
def FI (d : Nat → Int) (a : Nat) (D f0 f Q : Nat → Int) (n i w : Nat) : Prop :=
  (∀ k, k < 64 → ¬ f0 k = 1000000 → f k = f0 k)
  ∧ (∀ j, j < n → (0 ≤ Q j ∧ Q j ≤ 63) ∧ f0 (Q j).toNat = 1000000 ∧ (0 ≤ f (Q j).toNat ∧ f (Q j).toNat ≤ j) ∧ d (70 + (Q j).toNat) = 1)
  ∧ (∀ k, k < 64 → f0 k = 1000000 → f k = 1000000 ∨ ∃ j, j < n ∧ (Q j).toNat = k)
  ∧ (∀ j l, j ≤ l → l < n → f (Q j).toNat ≤ f (Q l).toNat) ∧ (∀ l, l < n → i < n → f (Q l).toNat ≤ f (Q i).toNat + 1)
  ∧ (∀ j v, j < n → v < 4 → (j < i ∨ (j = i ∧ v < w)) → 0 ≤ bsd (Q j).toNat v → d (70 + bsd (Q j).toNat v).toNat = 1 → f (bsd (Q j).toNat v).toNat ≤ f (Q j).toNat + 1)
  ∧ (∀ k, k < 64 → f0 k = 1000000 → D k ≤ f k) ∧ (cu f 64 + n ≤ 64 ∧ 1 ≤ n) ∧ f a = 0
theorem FI_old {d : Nat → Int} {a : Nat} {D f0 f Q : Nat → Int} {n i w : Nat} (h : FI d a D f0 f Q n i w) (hi : i < n) (hw : w < 4) (hv : VC9 d f0) (ho : 0 ≤ bsd (Q i).toNat w → d (70 + bsd (Q i).toNat w).toNat = 1 → ¬ f (bsd (Q i).toNat w).toNat = 1000000) : FI d a D f0 f Q n i (w + 1) := by
  obtain ⟨h1, h2, h3, h4, h5, h6, h7, h8, h9⟩ := h
  refine ⟨h1, h2, h3, h4, h5, fun j v hj hv9 hp q0 q1 => ?_, h7, h8, h9⟩
  by_cases q : j < i ∨ (j = i ∧ v < w)
  · exact h6 j v hj hv9 q q0 q1
  · have e1 : j = i := by omega
    have e2 : v = w := by omega
    subst e1; subst e2
    obtain ⟨p1, p2, p3, p4⟩ := h2 j hj
    have br := bsd_rng (c := ((Q j).toNat : Int)) (w := (v : Int)) (by omega) (by omega)
    have m0 := nV hv (c := (Q j).toNat) (by omega) hv9 p4 p2 q0
    rcases h3 (bsd (Q j).toNat v).toNat (by omega) m0 with e | ⟨l, l1, l2⟩
    · exact absurd e (ho q0 q1)
    · rw [← l2]
      exact h5 l l1 hj
theorem FI_new {d : Nat → Int} {a : Nat} {D f0 f Q : Nat → Int} {n i w : Nat} (hD : Grt d 1 a D) (h : FI d a D f0 f Q n i w) (hi : i < n) (hw : w < 4) (hv : VC9 d f0) (hb : 0 ≤ bsd (Q i).toNat w) (hd : d (70 + bsd (Q i).toNat w).toNat = 1) (hf : f (bsd (Q i).toNat w).toNat = 1000000) : FI d a D f0 (up1 f (bsd (Q i).toNat w).toNat (f (Q i).toNat + 1)) (up1 Q n (bsd (Q i).toNat w)) (n + 1) i (w + 1) := by
  obtain ⟨h1, h2, h3, h4, h5, h6, h7, h8, h9⟩ := h
  obtain ⟨p1, p2, p3, p4⟩ := h2 i hi
  have br := bsd_rng (c := ((Q i).toNat : Int)) (w := (w : Int)) (by omega) (by omega)
  have m0 := nV hv (c := (Q i).toNat) (by omega) hw p4 p2 hb
  obtain ⟨m, hm⟩ : ∃ m : Nat, bsd (Q i).toNat w = m := ⟨(bsd (Q i).toNat w).toNat, by omega⟩
  have cl := hD.2 (Q i).toNat w (by omega) hw hb (Or.inr hd)
  have wg : wgt d 1 (bsd (Q i).toNat w) = 1 := if_neg (by decide)
  rw [wg] at cl
  rw [hm] at hd hf br m0 cl ⊢
  have tm : ((m : Int)).toNat = m := by omega
  rw [tm] at hf m0 cl ⊢
  have qm : ∀ j, j < n → ¬ (Q j).toNat = m := fun j hj e => by
    have := (h2 j hj).2.2.1
    rw [e, hf] at this
    have := h8
    omega
  have fq : ∀ j, j < n → up1 f m (f (Q i).toNat + 1) (Q j).toNat = f (Q j).toNat := fun j hj => up1_ne (qm j hj)
  have fl : ∀ k, f k = 1000000 ∨ ¬ k = m → ¬ k = m → up1 f m (f (Q i).toNat + 1) k = f k := fun k _ q => up1_ne q
  have Qo : ∀ j, j < n → up1 Q n (m : Int) j = Q j := fun j hj => up1_ne (by omega)
  have Qn : up1 Q n (m : Int) n = m := up1_eq
  refine ⟨fun k hk q => ?_, fun j hj => ?_, fun k hk q => ?_, fun j l hjl hl => ?_, fun l hl hin => ?_, fun j v hj hv9 hp q0 q1 => ?_, fun k hk q => ?_, ⟨?_, by omega⟩, ?_⟩
  · rw [up1_ne (fun e => q (by rw [e]; exact m0))]; exact h1 k hk q
  · by_cases e : j = n
    · subst e
      rw [Qn, tm, up1_eq]
      refine ⟨by omega, m0, by omega, ?_⟩
      rw [show (70 + (m : Int)).toNat = 70 + m by omega] at hd
      exact hd
    · rw [Qo j (by omega), fq j (by omega)]
      exact h2 j (by omega)
  · by_cases e : k = m
    · exact Or.inr ⟨n, by omega, by rw [Qn, tm, e]⟩
    · rw [up1_ne e]
      rcases h3 k hk q with e2 | ⟨j, j1, j2⟩
      · exact Or.inl e2
      · exact Or.inr ⟨j, by omega, by rw [Qo j j1]; exact j2⟩
  · by_cases e : l = n
    · subst e
      rw [Qn, tm, up1_eq]
      by_cases e2 : j = l
      · subst e2
        rw [Qn, tm, up1_eq]
        exact Int.le_refl _
      · rw [Qo j (by omega), fq j (by omega)]
        exact h5 j (by omega) hi
    · rw [Qo l (by omega), Qo j (by omega), fq l (by omega), fq j (by omega)]
      exact h4 j l hjl (by omega)
  · rw [Qo i hi, fq i hi]
    by_cases e : l = n
    · subst e
      rw [Qn, tm, up1_eq]
      exact Int.le_refl _
    · rw [Qo l (by omega), fq l (by omega)]
      exact h5 l (by omega) hi
  · have jn : j < n := by omega
    rw [Qo j jn] at q0 q1 ⊢
    rw [fq j jn]
    by_cases em : (bsd (Q j).toNat v).toNat = m
    · rw [em, up1_eq]
      by_cases q : j < i ∨ (j = i ∧ v < w)
      · have := h6 j v jn hv9 q q0 q1
        rw [em, hf] at this
        have := (h2 j jn).2.2.1
        omega
      · have e1 : j = i := by omega
        subst e1
        exact Int.le_refl _
    · rw [up1_ne em]
      by_cases q : j < i ∨ (j = i ∧ v < w)
      · exact h6 j v jn hv9 q q0 q1
      · have e1 : j = i := by omega
        have e2 : v = w := by omega
        subst e1; subst e2
        rw [hm] at em
        exact absurd tm em
  · by_cases e : k = m
    · subst e
      rw [up1_eq]
      have := h7 (Q i).toNat (by omega) p2
      omega
    · rw [up1_ne e]; exact h7 k hk q
  · have := cu_up (f := f) (j := m) (v := f (Q i).toNat + 1) hf (by omega) 64
    rw [if_pos (by omega)] at this
    omega
  · rw [up1_ne (fun e => by rw [e, hf] at h9; omega)]; exact h9
theorem FI_nxt {d : Nat → Int} {a : Nat} {D f0 f Q : Nat → Int} {n i : Nat} (h : FI d a D f0 f Q n i 4) : FI d a D f0 f Q n (i + 1) 0 := by
  obtain ⟨h1, h2, h3, h4, h5, h6, h7, h8, h9⟩ := h
  refine ⟨h1, h2, h3, h4, fun l hl hin => ?_, fun j v hj hv hp q0 q1 => ?_, h7, h8, h9⟩
  · have a1 := h5 l hl (by omega)
    have a2 := h4 i (i + 1) (by omega) hin
    omega
  · exact h6 j v hj hv (by omega) q0 q1
theorem FI_end {d : Nat → Int} {a : Nat} {D f0 f Q : Nat → Int} {n i : Nat} (hD : Grt d 1 a D) (h : FI d a D f0 f Q n i 0) (hi : n ≤ i) (hv : VC9 d f0) (ha : f0 a = 1000000) (a6 : a < 64) : (∀ k, k < 64 → ¬ f0 k = 1000000 → f k = f0 k ∧ D k = 100000) ∧ ∀ k, k < 64 → f0 k = 1000000 → (f k = 1000000 ∧ D k = 100000) ∨ (f k = D k ∧ 0 ≤ D k ∧ D k ≤ 63) := by
  obtain ⟨h1, h2, h3, h4, h5, h6, h7, h8, h9⟩ := h
  have val : ∀ k, k < 64 → f0 k = 1000000 → f k = 1000000 ∨ (0 ≤ f k ∧ f k ≤ 63) := fun k hk q => by
    rcases h3 k hk q with e | ⟨j, j1, j2⟩
    · exact Or.inl e
    · have := (h2 j j1).2.2.1
      rw [j2] at this
      exact Or.inr (by omega)
  have cl : Cld d 1 a (fun k => if f0 k = 1000000 ∧ ¬ f k = 1000000 then f k else 100000) := by
    refine ⟨fun k hk => ?_, fun _ => ?_, fun c w hc hw q0 q1 => ?_⟩
    · dsimp only
      split
      · rename_i q
        have := val k hk q.1
        omega
      · omega
    · dsimp only
      rw [Int.toNat_natCast, if_pos ⟨ha, by omega⟩, if_neg (by decide), h9]
      exact Int.le_refl _
    · have wg : wgt d 1 (bsd c w) = 1 := if_neg (by decide)
      rw [wg]
      dsimp only
      have br := bsd_rng (c := c) (w := w) (by omega) (by omega)
      have bk : (if f0 (bsd c w).toNat = 1000000 ∧ ¬ f (bsd c w).toNat = 1000000 then f (bsd c w).toNat else 100000) ≤ 100000 := by
        split
        · rename_i q
          have := val (bsd c w).toNat (by omega) q.1
          omega
        · omega
      by_cases q : f0 c = 1000000 ∧ ¬ f c = 1000000
      · rw [if_pos q]
        rcases h3 c hc q.1 with e | ⟨j, j1, j2⟩
        · exact absurd e q.2
        · have qd : d (70 + bsd c w).toNat = 1 := by
            rcases q1 with e | e
            · omega
            · exact e
          have p := h2 j j1
          rw [j2] at p
          have m0 := nV hv hc hw p.2.2.2 q.1 q0
          have r := h6 j w j1 hw (Or.inl (by omega)) (by rw [j2]; exact q0) (by rw [j2]; exact qd)
          rw [j2] at r
          rw [if_pos ⟨m0, by omega⟩]
          exact r
      · rw [if_neg q]; omega
  have g := hD.1.2.2 _ cl
  refine ⟨fun k hk q => ⟨h1 k hk q, ?_⟩, fun k hk q => ?_⟩
  · have := g k hk
    rw [if_neg (fun e => q e.1)] at this
    have := (hD.1.1 k hk).2
    omega
  · have l := g k hk
    have u := h7 k hk q
    rcases val k hk q with e | e
    · rw [if_neg (fun e2 => e2.2 e)] at l
      have := (hD.1.1 k hk).2
      exact Or.inl ⟨e, by omega⟩
    · rw [if_pos ⟨q, by omega⟩] at l
      exact Or.inr ⟨by omega, by omega, by omega⟩
