/-! THE REFERENCE: texts read, level by level; r: how many may still be opened -/
def k_X11_unit_0 : List ZI := [(.aload_n 0, 1, (0, [0], [])), (.invokevirtual 79, 3, (0, [132, 1, 0, 11], [])), (.istore_n 1, 1, (0, [1], [])), (.iload_n 1, 1, (0, [1], [])), (.bipush 33, 2, (0, [], [])), (.if_icmp .eq 9, 3, (0, [17], [])), (.iload_n 1, 1, (0, [1], [])), (.bipush 40, 2, (0, [], [])), (.if_icmp .ne 9, 3, (0, [23], []))]
theorem ok_X11_unit_0 : zOK cX11_unit 11 false 5 k_X11_unit_0 0 = true := zOK_by (by decide +kernel)
def k_X11_unit_17 : List ZI := [(.aload_n 0, 1, (0, [0], [])), (.iload_n 1, 1, (0, [1], [])), (.invokevirtual 122, 3, (0, [142, 2, 0, 11], [])), (.return_, 1, (0, [], []))]
theorem ok_X11_unit_17 : zOK cX11_unit 11 false 5 k_X11_unit_17 17 = true := zOK_by (by decide +kernel)
def k_X11_unit_23 : List ZI := [(.aload_n 0, 1, (0, [0], [])), (.iload_n 1, 1, (0, [1], [])), (.invokevirtual 125, 3, (0, [135, 2, 0, 11], [])), (.istore_n 2, 1, (0, [2], [])), (.iload_n 2, 1, (0, [2], [])), (.ifCond .lt 23, 3, (0, [53], []))]
theorem ok_X11_unit_23 : zOK cX11_unit 11 false 5 k_X11_unit_23 23 = true := zOK_by (by decide +kernel)
def k_X11_unit_33 : List ZI := [(.aload_n 0, 1, (0, [0], [])), (.dup, 1, (0, [], [])), (.getfield 67, 3, (0, [11, 6], [])), (.iconst 1, 1, (0, [], [])), (.iadd, 1, (0, [], [])), (.putfield 67, 3, (0, [11, 6], [])), (.aload_n 0, 1, (0, [0], [])), (.sipush 10000, 3, (0, [], [])), (.iload_n 2, 1, (0, [2], [])), (.iadd, 1, (0, [], [])), (.invokevirtual 97, 3, (0, [136, 2, 0, 11], [])), (.return_, 1, (0, [], []))]
theorem ok_X11_unit_33 : zOK cX11_unit 11 false 5 k_X11_unit_33 33 = true := zOK_by (by decide +kernel)
def k_X11_unit_53 : List ZI := [(.iconst 0, 1, (0, [], [])), (.istore_n 3, 1, (0, [3], [])), (.iconst 0, 1, (0, [], [])), (.istore 4, 2, (0, [4], []))]
theorem ok_X11_unit_53 : zOK cX11_unit 11 false 5 k_X11_unit_53 53 = true := zOK_by (by decide +kernel)
def k_X11_unit_58 : List ZI := [(.iload 4, 2, (0, [4], [])), (.iconst 4, 1, (0, [], [])), (.if_icmp .ge 49, 3, (0, [110], [])), (.aload_n 0, 1, (0, [0], [])), (.invokevirtual 79, 3, (0, [132, 1, 0, 11], [])), (.i2l, 1, (0, [], [])), (.ldc2_w 129, 3, (48, [], [])), (.ldc2_w 131, 3, (57, [], [])), (.invokestatic 61, 3, (0, [120, 3, 0, 11], [])), (.ifCond .eq 32, 3, (0, [110], [])), (.bipush 10, 2, (0, [], [])), (.iload_n 3, 1, (0, [3], [])), (.imul, 1, (0, [], [])), (.aload_n 0, 1, (0, [0], [])), (.invokevirtual 79, 3, (0, [132, 1, 0, 11], [])), (.iadd, 1, (0, [], [])), (.bipush 48, 2, (0, [], [])), (.isub, 1, (0, [], [])), (.istore_n 3, 1, (0, [3], [])), (.aload_n 0, 1, (0, [0], [])), (.dup, 1, (0, [], [])), (.getfield 67, 3, (0, [11, 6], [])), (.iconst 1, 1, (0, [], [])), (.iadd, 1, (0, [], [])), (.putfield 67, 3, (0, [11, 6], [])), (.iinc 4 1, 3, (0, [4], [])), (.goto (-49), 3, (0, [58], []))]
theorem ok_X11_unit_58 : zOK cX11_unit 11 false 5 k_X11_unit_58 58 = true := zOK_by (by decide +kernel)
def k_X11_unit_110 : List ZI := [(.iload 4, 2, (0, [4], [])), (.ifCond .ne 7, 3, (0, [119], [])), (.aload_n 0, 1, (0, [0], [])), (.invokevirtual 116, 3, (0, [133, 1, 0, 11], []))]
theorem ok_X11_unit_110 : zOK cX11_unit 11 false 5 k_X11_unit_110 110 = true := zOK_by (by decide +kernel)
def k_X11_unit_119 : List ZI := [(.aload_n 0, 1, (0, [0], [])), (.iload_n 3, 1, (0, [3], [])), (.invokevirtual 97, 3, (0, [136, 2, 0, 11], [])), (.return_, 1, (0, [], []))]
theorem ok_X11_unit_119 : zOK cX11_unit 11 false 5 k_X11_unit_119 119 = true := zOK_by (by decide +kernel)
theorem rt_X11_unit {g : Nat} {post : Option ZV → ZH → Prop} {h : ZH} {b : ZB2} : zRt mX11_unit g post none h b = (post none h ∧ h.1.length = g) := by show (_ ∧ _ ∧ True) = _; simp
def bk_X11_unit_0 (E : ZE) (CT : Nat → ZC) (X : ZK) (Rt : ZR) (ls : ZL) (st : List ZV) (h : ZH) (b : ZB2) : Prop := zB E CT k_X11_unit_0 0 ls st h b (fun t ls st h b => X t ls st h b) Rt
theorem bs_X11_unit_0 {E : ZE} {CT : Nat → ZC} {X : ZK} {Rt : ZR} {ls : ZL} {st : List ZV} {h : ZH} {b : ZB2} (hX : zCl E mX11_unit 11 false CT Rt X) (q : bk_X11_unit_0 E CT X Rt ls st h b) : X 0 ls st h b := by
  refine hX k_X11_unit_0 0 ok_X11_unit_0 _ ?_ ls st h b q
  exact fun t ls st h b q => q
def bk_X11_unit_17 (E : ZE) (CT : Nat → ZC) (X : ZK) (Rt : ZR) (ls : ZL) (st : List ZV) (h : ZH) (b : ZB2) : Prop := zB E CT k_X11_unit_17 17 ls st h b (fun t ls st h b => X t ls st h b) Rt
theorem bs_X11_unit_17 {E : ZE} {CT : Nat → ZC} {X : ZK} {Rt : ZR} {ls : ZL} {st : List ZV} {h : ZH} {b : ZB2} (hX : zCl E mX11_unit 11 false CT Rt X) (q : bk_X11_unit_17 E CT X Rt ls st h b) : X 17 ls st h b := by
  refine hX k_X11_unit_17 17 ok_X11_unit_17 _ ?_ ls st h b q
  exact fun t ls st h b q => q
def bk_X11_unit_23 (E : ZE) (CT : Nat → ZC) (X : ZK) (Rt : ZR) (ls : ZL) (st : List ZV) (h : ZH) (b : ZB2) : Prop := zB E CT k_X11_unit_23 23 ls st h b (fun t ls st h b => X t ls st h b) Rt
theorem bs_X11_unit_23 {E : ZE} {CT : Nat → ZC} {X : ZK} {Rt : ZR} {ls : ZL} {st : List ZV} {h : ZH} {b : ZB2} (hX : zCl E mX11_unit 11 false CT Rt X) (q : bk_X11_unit_23 E CT X Rt ls st h b) : X 23 ls st h b := by
  refine hX k_X11_unit_23 23 ok_X11_unit_23 _ ?_ ls st h b q
  exact fun t ls st h b q => q
def bk_X11_unit_33 (E : ZE) (CT : Nat → ZC) (X : ZK) (Rt : ZR) (ls : ZL) (st : List ZV) (h : ZH) (b : ZB2) : Prop := zB E CT k_X11_unit_33 33 ls st h b (fun t ls st h b => X t ls st h b) Rt
theorem bs_X11_unit_33 {E : ZE} {CT : Nat → ZC} {X : ZK} {Rt : ZR} {ls : ZL} {st : List ZV} {h : ZH} {b : ZB2} (hX : zCl E mX11_unit 11 false CT Rt X) (q : bk_X11_unit_33 E CT X Rt ls st h b) : X 33 ls st h b := by
  refine hX k_X11_unit_33 33 ok_X11_unit_33 _ ?_ ls st h b q
  exact fun t ls st h b q => q
def bk_X11_unit_53 (E : ZE) (CT : Nat → ZC) (X : ZK) (Rt : ZR) (ls : ZL) (st : List ZV) (h : ZH) (b : ZB2) : Prop := zB E CT k_X11_unit_53 53 ls st h b (fun t ls st h b => X t ls st h b) Rt
theorem bs_X11_unit_53 {E : ZE} {CT : Nat → ZC} {X : ZK} {Rt : ZR} {ls : ZL} {st : List ZV} {h : ZH} {b : ZB2} (hX : zCl E mX11_unit 11 false CT Rt X) (q : bk_X11_unit_53 E CT X Rt ls st h b) : X 53 ls st h b := by
  refine hX k_X11_unit_53 53 ok_X11_unit_53 _ ?_ ls st h b q
  exact fun t ls st h b q => q
def bk_X11_unit_58 (E : ZE) (CT : Nat → ZC) (X : ZK) (Rt : ZR) (ls : ZL) (st : List ZV) (h : ZH) (b : ZB2) : Prop := zB E CT k_X11_unit_58 58 ls st h b (fun t ls st h b => X t ls st h b) Rt
theorem bs_X11_unit_58 {E : ZE} {CT : Nat → ZC} {X : ZK} {Rt : ZR} {ls : ZL} {st : List ZV} {h : ZH} {b : ZB2} (hX : zCl E mX11_unit 11 false CT Rt X) (q : bk_X11_unit_58 E CT X Rt ls st h b) : X 58 ls st h b := by
  refine hX k_X11_unit_58 58 ok_X11_unit_58 _ ?_ ls st h b q
  exact fun t ls st h b q => q
def bk_X11_unit_110 (E : ZE) (CT : Nat → ZC) (X : ZK) (Rt : ZR) (ls : ZL) (st : List ZV) (h : ZH) (b : ZB2) : Prop := zB E CT k_X11_unit_110 110 ls st h b (fun t ls st h b => X t ls st h b) Rt
theorem bs_X11_unit_110 {E : ZE} {CT : Nat → ZC} {X : ZK} {Rt : ZR} {ls : ZL} {st : List ZV} {h : ZH} {b : ZB2} (hX : zCl E mX11_unit 11 false CT Rt X) (q : bk_X11_unit_110 E CT X Rt ls st h b) : X 110 ls st h b := by
  refine hX k_X11_unit_110 110 ok_X11_unit_110 _ ?_ ls st h b q
  exact fun t ls st h b q => q
def bk_X11_unit_119 (E : ZE) (CT : Nat → ZC) (X : ZK) (Rt : ZR) (ls : ZL) (st : List ZV) (h : ZH) (b : ZB2) : Prop := zB E CT k_X11_unit_119 119 ls st h b (fun t ls st h b => X t ls st h b) Rt
theorem bs_X11_unit_119 {E : ZE} {CT : Nat → ZC} {X : ZK} {Rt : ZR} {ls : ZL} {st : List ZV} {h : ZH} {b : ZB2} (hX : zCl E mX11_unit 11 false CT Rt X) (q : bk_X11_unit_119 E CT X Rt ls st h b) : X 119 ls st h b := by
  refine hX k_X11_unit_119 119 ok_X11_unit_119 _ ?_ ls st h b q
  exact fun t ls st h b q => q
-- X11_unit: cuts [17, 23, 33, 53, 58, 110, 119]
def k_X11_product_0 : List ZI := [(.aload_n 0, 1, (0, [0], [])), (.invokevirtual 110, 3, (0, [143, 1, 0, 11], []))]
theorem ok_X11_product_0 : zOK cX11_product 11 false 2 k_X11_product_0 0 = true := zOK_by (by decide +kernel)
def k_X11_product_4 : List ZI := [(.aload_n 0, 1, (0, [0], [])), (.invokevirtual 79, 3, (0, [132, 1, 0, 11], [])), (.bipush 42, 2, (0, [], [])), (.if_icmp .eq 21, 3, (0, [31], [])), (.aload_n 0, 1, (0, [0], [])), (.invokevirtual 79, 3, (0, [132, 1, 0, 11], [])), (.bipush 47, 2, (0, [], [])), (.if_icmp .eq 12, 3, (0, [31], [])), (.aload_n 0, 1, (0, [0], [])), (.invokevirtual 79, 3, (0, [132, 1, 0, 11], [])), (.bipush 37, 2, (0, [], [])), (.if_icmp .ne 34, 3, (0, [62], []))]
theorem ok_X11_product_4 : zOK cX11_product 11 false 2 k_X11_product_4 4 = true := zOK_by (by decide +kernel)
def k_X11_product_31 : List ZI := [(.aload_n 0, 1, (0, [0], [])), (.invokevirtual 79, 3, (0, [132, 1, 0, 11], [])), (.istore_n 1, 1, (0, [1], [])), (.aload_n 0, 1, (0, [0], [])), (.dup, 1, (0, [], [])), (.getfield 67, 3, (0, [11, 6], [])), (.iconst 1, 1, (0, [], [])), (.iadd, 1, (0, [], [])), (.putfield 67, 3, (0, [11, 6], [])), (.aload_n 0, 1, (0, [0], [])), (.invokevirtual 110, 3, (0, [143, 1, 0, 11], [])), (.aload_n 0, 1, (0, [0], [])), (.sipush 20000, 3, (0, [], [])), (.iload_n 1, 1, (0, [1], [])), (.iadd, 1, (0, [], [])), (.invokevirtual 97, 3, (0, [136, 2, 0, 11], [])), (.goto (-55), 3, (0, [4], []))]
theorem ok_X11_product_31 : zOK cX11_product 11 false 2 k_X11_product_31 31 = true := zOK_by (by decide +kernel)
def k_X11_product_62 : List ZI := [(.return_, 1, (0, [], []))]
theorem ok_X11_product_62 : zOK cX11_product 11 false 2 k_X11_product_62 62 = true := zOK_by (by decide +kernel)
theorem rt_X11_product {g : Nat} {post : Option ZV → ZH → Prop} {h : ZH} {b : ZB2} : zRt mX11_product g post none h b = (post none h ∧ h.1.length = g) := by show (_ ∧ _ ∧ True) = _; simp
def bk_X11_product_0 (E : ZE) (CT : Nat → ZC) (X : ZK) (Rt : ZR) (ls : ZL) (st : List ZV) (h : ZH) (b : ZB2) : Prop := zB E CT k_X11_product_0 0 ls st h b (fun t ls st h b => X t ls st h b) Rt
theorem bs_X11_product_0 {E : ZE} {CT : Nat → ZC} {X : ZK} {Rt : ZR} {ls : ZL} {st : List ZV} {h : ZH} {b : ZB2} (hX : zCl E mX11_product 11 false CT Rt X) (q : bk_X11_product_0 E CT X Rt ls st h b) : X 0 ls st h b := by
  refine hX k_X11_product_0 0 ok_X11_product_0 _ ?_ ls st h b q
  exact fun t ls st h b q => q
def bk_X11_product_4 (E : ZE) (CT : Nat → ZC) (X : ZK) (Rt : ZR) (ls : ZL) (st : List ZV) (h : ZH) (b : ZB2) : Prop := zB E CT k_X11_product_4 4 ls st h b (fun t ls st h b => X t ls st h b) Rt
theorem bs_X11_product_4 {E : ZE} {CT : Nat → ZC} {X : ZK} {Rt : ZR} {ls : ZL} {st : List ZV} {h : ZH} {b : ZB2} (hX : zCl E mX11_product 11 false CT Rt X) (q : bk_X11_product_4 E CT X Rt ls st h b) : X 4 ls st h b := by
  refine hX k_X11_product_4 4 ok_X11_product_4 _ ?_ ls st h b q
  exact fun t ls st h b q => q
def bk_X11_product_31 (E : ZE) (CT : Nat → ZC) (X : ZK) (Rt : ZR) (ls : ZL) (st : List ZV) (h : ZH) (b : ZB2) : Prop := zB E CT k_X11_product_31 31 ls st h b (fun t ls st h b => X t ls st h b) Rt
theorem bs_X11_product_31 {E : ZE} {CT : Nat → ZC} {X : ZK} {Rt : ZR} {ls : ZL} {st : List ZV} {h : ZH} {b : ZB2} (hX : zCl E mX11_product 11 false CT Rt X) (q : bk_X11_product_31 E CT X Rt ls st h b) : X 31 ls st h b := by
  refine hX k_X11_product_31 31 ok_X11_product_31 _ ?_ ls st h b q
  exact fun t ls st h b q => q
def bk_X11_product_62 (E : ZE) (CT : Nat → ZC) (X : ZK) (Rt : ZR) (ls : ZL) (st : List ZV) (h : ZH) (b : ZB2) : Prop := zB E CT k_X11_product_62 62 ls st h b (fun t ls st h b => X t ls st h b) Rt
theorem bs_X11_product_62 {E : ZE} {CT : Nat → ZC} {X : ZK} {Rt : ZR} {ls : ZL} {st : List ZV} {h : ZH} {b : ZB2} (hX : zCl E mX11_product 11 false CT Rt X) (q : bk_X11_product_62 E CT X Rt ls st h b) : X 62 ls st h b := by
  refine hX k_X11_product_62 62 ok_X11_product_62 _ ?_ ls st h b q
  exact fun t ls st h b q => q
-- X11_product: cuts [4, 31, 62]
def k_X11_sum_0 : List ZI := [(.aload_n 0, 1, (0, [0], [])), (.invokevirtual 107, 3, (0, [141, 1, 0, 11], []))]
theorem ok_X11_sum_0 : zOK cX11_sum 11 false 2 k_X11_sum_0 0 = true := zOK_by (by decide +kernel)
def k_X11_sum_4 : List ZI := [(.aload_n 0, 1, (0, [0], [])), (.invokevirtual 79, 3, (0, [132, 1, 0, 11], [])), (.bipush 43, 2, (0, [], [])), (.if_icmp .eq 12, 3, (0, [22], [])), (.aload_n 0, 1, (0, [0], [])), (.invokevirtual 79, 3, (0, [132, 1, 0, 11], [])), (.bipush 45, 2, (0, [], [])), (.if_icmp .ne 34, 3, (0, [53], []))]
theorem ok_X11_sum_4 : zOK cX11_sum 11 false 2 k_X11_sum_4 4 = true := zOK_by (by decide +kernel)
def k_X11_sum_22 : List ZI := [(.aload_n 0, 1, (0, [0], [])), (.invokevirtual 79, 3, (0, [132, 1, 0, 11], [])), (.istore_n 1, 1, (0, [1], [])), (.aload_n 0, 1, (0, [0], [])), (.dup, 1, (0, [], [])), (.getfield 67, 3, (0, [11, 6], [])), (.iconst 1, 1, (0, [], [])), (.iadd, 1, (0, [], [])), (.putfield 67, 3, (0, [11, 6], [])), (.aload_n 0, 1, (0, [0], [])), (.invokevirtual 107, 3, (0, [141, 1, 0, 11], [])), (.aload_n 0, 1, (0, [0], [])), (.sipush 20000, 3, (0, [], [])), (.iload_n 1, 1, (0, [1], [])), (.iadd, 1, (0, [], [])), (.invokevirtual 97, 3, (0, [136, 2, 0, 11], [])), (.goto (-46), 3, (0, [4], []))]
theorem ok_X11_sum_22 : zOK cX11_sum 11 false 2 k_X11_sum_22 22 = true := zOK_by (by decide +kernel)
def k_X11_sum_53 : List ZI := [(.return_, 1, (0, [], []))]
theorem ok_X11_sum_53 : zOK cX11_sum 11 false 2 k_X11_sum_53 53 = true := zOK_by (by decide +kernel)
theorem rt_X11_sum {g : Nat} {post : Option ZV → ZH → Prop} {h : ZH} {b : ZB2} : zRt mX11_sum g post none h b = (post none h ∧ h.1.length = g) := by show (_ ∧ _ ∧ True) = _; simp
def bk_X11_sum_0 (E : ZE) (CT : Nat → ZC) (X : ZK) (Rt : ZR) (ls : ZL) (st : List ZV) (h : ZH) (b : ZB2) : Prop := zB E CT k_X11_sum_0 0 ls st h b (fun t ls st h b => X t ls st h b) Rt
theorem bs_X11_sum_0 {E : ZE} {CT : Nat → ZC} {X : ZK} {Rt : ZR} {ls : ZL} {st : List ZV} {h : ZH} {b : ZB2} (hX : zCl E mX11_sum 11 false CT Rt X) (q : bk_X11_sum_0 E CT X Rt ls st h b) : X 0 ls st h b := by
  refine hX k_X11_sum_0 0 ok_X11_sum_0 _ ?_ ls st h b q
  exact fun t ls st h b q => q
def bk_X11_sum_4 (E : ZE) (CT : Nat → ZC) (X : ZK) (Rt : ZR) (ls : ZL) (st : List ZV) (h : ZH) (b : ZB2) : Prop := zB E CT k_X11_sum_4 4 ls st h b (fun t ls st h b => X t ls st h b) Rt
theorem bs_X11_sum_4 {E : ZE} {CT : Nat → ZC} {X : ZK} {Rt : ZR} {ls : ZL} {st : List ZV} {h : ZH} {b : ZB2} (hX : zCl E mX11_sum 11 false CT Rt X) (q : bk_X11_sum_4 E CT X Rt ls st h b) : X 4 ls st h b := by
  refine hX k_X11_sum_4 4 ok_X11_sum_4 _ ?_ ls st h b q
  exact fun t ls st h b q => q
def bk_X11_sum_22 (E : ZE) (CT : Nat → ZC) (X : ZK) (Rt : ZR) (ls : ZL) (st : List ZV) (h : ZH) (b : ZB2) : Prop := zB E CT k_X11_sum_22 22 ls st h b (fun t ls st h b => X t ls st h b) Rt
theorem bs_X11_sum_22 {E : ZE} {CT : Nat → ZC} {X : ZK} {Rt : ZR} {ls : ZL} {st : List ZV} {h : ZH} {b : ZB2} (hX : zCl E mX11_sum 11 false CT Rt X) (q : bk_X11_sum_22 E CT X Rt ls st h b) : X 22 ls st h b := by
  refine hX k_X11_sum_22 22 ok_X11_sum_22 _ ?_ ls st h b q
  exact fun t ls st h b q => q
def bk_X11_sum_53 (E : ZE) (CT : Nat → ZC) (X : ZK) (Rt : ZR) (ls : ZL) (st : List ZV) (h : ZH) (b : ZB2) : Prop := zB E CT k_X11_sum_53 53 ls st h b (fun t ls st h b => X t ls st h b) Rt
theorem bs_X11_sum_53 {E : ZE} {CT : Nat → ZC} {X : ZK} {Rt : ZR} {ls : ZL} {st : List ZV} {h : ZH} {b : ZB2} (hX : zCl E mX11_sum 11 false CT Rt X) (q : bk_X11_sum_53 E CT X Rt ls st h b) : X 53 ls st h b := by
  refine hX k_X11_sum_53 53 ok_X11_sum_53 _ ?_ ls st h b q
  exact fun t ls st h b q => q
-- X11_sum: cuts [4, 22, 53]
def k_X11_compared_0 : List ZI := [(.aload_n 0, 1, (0, [0], [])), (.invokevirtual 104, 3, (0, [140, 1, 0, 11], [])), (.aload_n 0, 1, (0, [0], [])), (.invokevirtual 79, 3, (0, [132, 1, 0, 11], [])), (.istore_n 1, 1, (0, [1], [])), (.iload_n 1, 1, (0, [1], [])), (.bipush 60, 2, (0, [], [])), (.if_icmp .eq 15, 3, (0, [27], [])), (.iload_n 1, 1, (0, [1], [])), (.bipush 61, 2, (0, [], [])), (.if_icmp .eq 9, 3, (0, [27], [])), (.iload_n 1, 1, (0, [1], [])), (.bipush 62, 2, (0, [], [])), (.if_icmp .ne 26, 3, (0, [50], []))]
theorem ok_X11_compared_0 : zOK cX11_compared 11 false 2 k_X11_compared_0 0 = true := zOK_by (by decide +kernel)
def k_X11_compared_27 : List ZI := [(.aload_n 0, 1, (0, [0], [])), (.dup, 1, (0, [], [])), (.getfield 67, 3, (0, [11, 6], [])), (.iconst 1, 1, (0, [], [])), (.iadd, 1, (0, [], [])), (.putfield 67, 3, (0, [11, 6], [])), (.aload_n 0, 1, (0, [0], [])), (.invokevirtual 104, 3, (0, [140, 1, 0, 11], [])), (.aload_n 0, 1, (0, [0], [])), (.sipush 20000, 3, (0, [], [])), (.iload_n 1, 1, (0, [1], [])), (.iadd, 1, (0, [], [])), (.invokevirtual 97, 3, (0, [136, 2, 0, 11], []))]
theorem ok_X11_compared_27 : zOK cX11_compared 11 false 2 k_X11_compared_27 27 = true := zOK_by (by decide +kernel)
def k_X11_compared_50 : List ZI := [(.return_, 1, (0, [], []))]
theorem ok_X11_compared_50 : zOK cX11_compared 11 false 2 k_X11_compared_50 50 = true := zOK_by (by decide +kernel)
theorem rt_X11_compared {g : Nat} {post : Option ZV → ZH → Prop} {h : ZH} {b : ZB2} : zRt mX11_compared g post none h b = (post none h ∧ h.1.length = g) := by show (_ ∧ _ ∧ True) = _; simp
def bk_X11_compared_0 (E : ZE) (CT : Nat → ZC) (X : ZK) (Rt : ZR) (ls : ZL) (st : List ZV) (h : ZH) (b : ZB2) : Prop := zB E CT k_X11_compared_0 0 ls st h b (fun t ls st h b => X t ls st h b) Rt
theorem bs_X11_compared_0 {E : ZE} {CT : Nat → ZC} {X : ZK} {Rt : ZR} {ls : ZL} {st : List ZV} {h : ZH} {b : ZB2} (hX : zCl E mX11_compared 11 false CT Rt X) (q : bk_X11_compared_0 E CT X Rt ls st h b) : X 0 ls st h b := by
  refine hX k_X11_compared_0 0 ok_X11_compared_0 _ ?_ ls st h b q
  exact fun t ls st h b q => q
def bk_X11_compared_27 (E : ZE) (CT : Nat → ZC) (X : ZK) (Rt : ZR) (ls : ZL) (st : List ZV) (h : ZH) (b : ZB2) : Prop := zB E CT k_X11_compared_27 27 ls st h b (fun t ls st h b => X t ls st h b) Rt
theorem bs_X11_compared_27 {E : ZE} {CT : Nat → ZC} {X : ZK} {Rt : ZR} {ls : ZL} {st : List ZV} {h : ZH} {b : ZB2} (hX : zCl E mX11_compared 11 false CT Rt X) (q : bk_X11_compared_27 E CT X Rt ls st h b) : X 27 ls st h b := by
  refine hX k_X11_compared_27 27 ok_X11_compared_27 _ ?_ ls st h b q
  exact fun t ls st h b q => q
def bk_X11_compared_50 (E : ZE) (CT : Nat → ZC) (X : ZK) (Rt : ZR) (ls : ZL) (st : List ZV) (h : ZH) (b : ZB2) : Prop := zB E CT k_X11_compared_50 50 ls st h b (fun t ls st h b => X t ls st h b) Rt
theorem bs_X11_compared_50 {E : ZE} {CT : Nat → ZC} {X : ZK} {Rt : ZR} {ls : ZL} {st : List ZV} {h : ZH} {b : ZB2} (hX : zCl E mX11_compared 11 false CT Rt X) (q : bk_X11_compared_50 E CT X Rt ls st h b) : X 50 ls st h b := by
  refine hX k_X11_compared_50 50 ok_X11_compared_50 _ ?_ ls st h b q
  exact fun t ls st h b q => q
-- X11_compared: cuts [27, 50]
def k_X11_both_0 : List ZI := [(.aload_n 0, 1, (0, [0], [])), (.invokevirtual 101, 3, (0, [139, 1, 0, 11], []))]
theorem ok_X11_both_0 : zOK cX11_both 11 false 1 k_X11_both_0 0 = true := zOK_by (by decide +kernel)
def k_X11_both_4 : List ZI := [(.aload_n 0, 1, (0, [0], [])), (.bipush 38, 2, (0, [], [])), (.invokevirtual 93, 3, (0, [134, 2, 0, 11], [])), (.ifCond .eq 17, 3, (0, [27], []))]
theorem ok_X11_both_4 : zOK cX11_both 11 false 1 k_X11_both_4 4 = true := zOK_by (by decide +kernel)
def k_X11_both_13 : List ZI := [(.aload_n 0, 1, (0, [0], [])), (.invokevirtual 101, 3, (0, [139, 1, 0, 11], [])), (.aload_n 0, 1, (0, [0], [])), (.sipush 20038, 3, (0, [], [])), (.invokevirtual 97, 3, (0, [136, 2, 0, 11], [])), (.goto (-20), 3, (0, [4], []))]
theorem ok_X11_both_13 : zOK cX11_both 11 false 1 k_X11_both_13 13 = true := zOK_by (by decide +kernel)
def k_X11_both_27 : List ZI := [(.return_, 1, (0, [], []))]
theorem ok_X11_both_27 : zOK cX11_both 11 false 1 k_X11_both_27 27 = true := zOK_by (by decide +kernel)
theorem rt_X11_both {g : Nat} {post : Option ZV → ZH → Prop} {h : ZH} {b : ZB2} : zRt mX11_both g post none h b = (post none h ∧ h.1.length = g) := by show (_ ∧ _ ∧ True) = _; simp
def bk_X11_both_0 (E : ZE) (CT : Nat → ZC) (X : ZK) (Rt : ZR) (ls : ZL) (st : List ZV) (h : ZH) (b : ZB2) : Prop := zB E CT k_X11_both_0 0 ls st h b (fun t ls st h b => X t ls st h b) Rt
theorem bs_X11_both_0 {E : ZE} {CT : Nat → ZC} {X : ZK} {Rt : ZR} {ls : ZL} {st : List ZV} {h : ZH} {b : ZB2} (hX : zCl E mX11_both 11 false CT Rt X) (q : bk_X11_both_0 E CT X Rt ls st h b) : X 0 ls st h b := by
  refine hX k_X11_both_0 0 ok_X11_both_0 _ ?_ ls st h b q
  exact fun t ls st h b q => q
def bk_X11_both_27 (E : ZE) (CT : Nat → ZC) (X : ZK) (Rt : ZR) (ls : ZL) (st : List ZV) (h : ZH) (b : ZB2) : Prop := zB E CT k_X11_both_27 27 ls st h b (fun t ls st h b => X t ls st h b) Rt
theorem bs_X11_both_27 {E : ZE} {CT : Nat → ZC} {X : ZK} {Rt : ZR} {ls : ZL} {st : List ZV} {h : ZH} {b : ZB2} (hX : zCl E mX11_both 11 false CT Rt X) (q : bk_X11_both_27 E CT X Rt ls st h b) : X 27 ls st h b := by
  refine hX k_X11_both_27 27 ok_X11_both_27 _ ?_ ls st h b q
  exact fun t ls st h b q => q
def bk_X11_both_4 (E : ZE) (CT : Nat → ZC) (X : ZK) (Rt : ZR) (ls : ZL) (st : List ZV) (h : ZH) (b : ZB2) : Prop := zB E CT k_X11_both_4 4 ls st h b (fun t ls st h b => if t = 27 then bk_X11_both_27 E CT X Rt ls st h b else X t ls st h b) Rt
theorem bs_X11_both_4 {E : ZE} {CT : Nat → ZC} {X : ZK} {Rt : ZR} {ls : ZL} {st : List ZV} {h : ZH} {b : ZB2} (hX : zCl E mX11_both 11 false CT Rt X) (q : bk_X11_both_4 E CT X Rt ls st h b) : X 4 ls st h b := by
  refine hX k_X11_both_4 4 ok_X11_both_4 _ ?_ ls st h b q
  exact by
    intro t ls st h b q
    by_cases c : t = 27
    · subst c; rw [if_pos rfl] at q; exact bs_X11_both_27 hX q
    rw [if_neg c] at q
    exact q
def bk_X11_both_13 (E : ZE) (CT : Nat → ZC) (X : ZK) (Rt : ZR) (ls : ZL) (st : List ZV) (h : ZH) (b : ZB2) : Prop := zB E CT k_X11_both_13 13 ls st h b (fun t ls st h b => X t ls st h b) Rt
theorem bs_X11_both_13 {E : ZE} {CT : Nat → ZC} {X : ZK} {Rt : ZR} {ls : ZL} {st : List ZV} {h : ZH} {b : ZB2} (hX : zCl E mX11_both 11 false CT Rt X) (q : bk_X11_both_13 E CT X Rt ls st h b) : X 13 ls st h b := by
  refine hX k_X11_both_13 13 ok_X11_both_13 _ ?_ ls st h b q
  exact fun t ls st h b q => q
-- X11_both: cuts [4, 13]
def k_X11_either_0 : List ZI := [(.aload_n 0, 1, (0, [0], [])), (.invokevirtual 90, 3, (0, [138, 1, 0, 11], []))]
theorem ok_X11_either_0 : zOK cX11_either 11 false 1 k_X11_either_0 0 = true := zOK_by (by decide +kernel)
def k_X11_either_4 : List ZI := [(.aload_n 0, 1, (0, [0], [])), (.bipush 124, 2, (0, [], [])), (.invokevirtual 93, 3, (0, [134, 2, 0, 11], [])), (.ifCond .eq 17, 3, (0, [27], []))]
theorem ok_X11_either_4 : zOK cX11_either 11 false 1 k_X11_either_4 4 = true := zOK_by (by decide +kernel)
def k_X11_either_13 : List ZI := [(.aload_n 0, 1, (0, [0], [])), (.invokevirtual 90, 3, (0, [138, 1, 0, 11], [])), (.aload_n 0, 1, (0, [0], [])), (.sipush 20124, 3, (0, [], [])), (.invokevirtual 97, 3, (0, [136, 2, 0, 11], [])), (.goto (-20), 3, (0, [4], []))]
theorem ok_X11_either_13 : zOK cX11_either 11 false 1 k_X11_either_13 13 = true := zOK_by (by decide +kernel)
def k_X11_either_27 : List ZI := [(.return_, 1, (0, [], []))]
theorem ok_X11_either_27 : zOK cX11_either 11 false 1 k_X11_either_27 27 = true := zOK_by (by decide +kernel)
theorem rt_X11_either {g : Nat} {post : Option ZV → ZH → Prop} {h : ZH} {b : ZB2} : zRt mX11_either g post none h b = (post none h ∧ h.1.length = g) := by show (_ ∧ _ ∧ True) = _; simp
def bk_X11_either_0 (E : ZE) (CT : Nat → ZC) (X : ZK) (Rt : ZR) (ls : ZL) (st : List ZV) (h : ZH) (b : ZB2) : Prop := zB E CT k_X11_either_0 0 ls st h b (fun t ls st h b => X t ls st h b) Rt
theorem bs_X11_either_0 {E : ZE} {CT : Nat → ZC} {X : ZK} {Rt : ZR} {ls : ZL} {st : List ZV} {h : ZH} {b : ZB2} (hX : zCl E mX11_either 11 false CT Rt X) (q : bk_X11_either_0 E CT X Rt ls st h b) : X 0 ls st h b := by
  refine hX k_X11_either_0 0 ok_X11_either_0 _ ?_ ls st h b q
  exact fun t ls st h b q => q
def bk_X11_either_27 (E : ZE) (CT : Nat → ZC) (X : ZK) (Rt : ZR) (ls : ZL) (st : List ZV) (h : ZH) (b : ZB2) : Prop := zB E CT k_X11_either_27 27 ls st h b (fun t ls st h b => X t ls st h b) Rt
theorem bs_X11_either_27 {E : ZE} {CT : Nat → ZC} {X : ZK} {Rt : ZR} {ls : ZL} {st : List ZV} {h : ZH} {b : ZB2} (hX : zCl E mX11_either 11 false CT Rt X) (q : bk_X11_either_27 E CT X Rt ls st h b) : X 27 ls st h b := by
  refine hX k_X11_either_27 27 ok_X11_either_27 _ ?_ ls st h b q
  exact fun t ls st h b q => q
def bk_X11_either_4 (E : ZE) (CT : Nat → ZC) (X : ZK) (Rt : ZR) (ls : ZL) (st : List ZV) (h : ZH) (b : ZB2) : Prop := zB E CT k_X11_either_4 4 ls st h b (fun t ls st h b => if t = 27 then bk_X11_either_27 E CT X Rt ls st h b else X t ls st h b) Rt
theorem bs_X11_either_4 {E : ZE} {CT : Nat → ZC} {X : ZK} {Rt : ZR} {ls : ZL} {st : List ZV} {h : ZH} {b : ZB2} (hX : zCl E mX11_either 11 false CT Rt X) (q : bk_X11_either_4 E CT X Rt ls st h b) : X 4 ls st h b := by
  refine hX k_X11_either_4 4 ok_X11_either_4 _ ?_ ls st h b q
  exact by
    intro t ls st h b q
    by_cases c : t = 27
    · subst c; rw [if_pos rfl] at q; exact bs_X11_either_27 hX q
    rw [if_neg c] at q
    exact q
def bk_X11_either_13 (E : ZE) (CT : Nat → ZC) (X : ZK) (Rt : ZR) (ls : ZL) (st : List ZV) (h : ZH) (b : ZB2) : Prop := zB E CT k_X11_either_13 13 ls st h b (fun t ls st h b => X t ls st h b) Rt
theorem bs_X11_either_13 {E : ZE} {CT : Nat → ZC} {X : ZK} {Rt : ZR} {ls : ZL} {st : List ZV} {h : ZH} {b : ZB2} (hX : zCl E mX11_either 11 false CT Rt X) (q : bk_X11_either_13 E CT X Rt ls st h b) : X 13 ls st h b := by
  refine hX k_X11_either_13 13 ok_X11_either_13 _ ?_ ls st h b q
  exact fun t ls st h b q => q
-- X11_either: cuts [4, 13]
def k_X11_opens_0 : List ZI := [(.aload_n 0, 1, (0, [0], [])), (.getfield 113, 3, (0, [11, 9], [])), (.iconst 5, 1, (0, [], [])), (.if_icmp .ne 8, 3, (0, [13], [])), (.aload_n 0, 1, (0, [0], [])), (.invokevirtual 116, 3, (0, [133, 1, 0, 11], [])), (.return_, 1, (0, [], []))]
theorem ok_X11_opens_0 : zOK cX11_opens 11 false 2 k_X11_opens_0 0 = true := zOK_by (by decide +kernel)
def k_X11_opens_13 : List ZI := [(.aload_n 0, 1, (0, [0], [])), (.dup, 1, (0, [], [])), (.getfield 113, 3, (0, [11, 9], [])), (.iconst 1, 1, (0, [], [])), (.iadd, 1, (0, [], [])), (.putfield 113, 3, (0, [11, 9], [])), (.aload_n 0, 1, (0, [0], [])), (.dup, 1, (0, [], [])), (.getfield 67, 3, (0, [11, 6], [])), (.iconst 1, 1, (0, [], [])), (.iadd, 1, (0, [], [])), (.putfield 67, 3, (0, [11, 6], [])), (.iload_n 1, 1, (0, [1], [])), (.bipush 33, 2, (0, [], [])), (.if_icmp .ne 17, 3, (0, [53], [])), (.aload_n 0, 1, (0, [0], [])), (.invokevirtual 110, 3, (0, [143, 1, 0, 11], [])), (.aload_n 0, 1, (0, [0], [])), (.sipush 20033, 3, (0, [], [])), (.invokevirtual 97, 3, (0, [136, 2, 0, 11], [])), (.goto 20, 3, (0, [70], []))]
theorem ok_X11_opens_13 : zOK cX11_opens 11 false 2 k_X11_opens_13 13 = true := zOK_by (by decide +kernel)
def k_X11_opens_53 : List ZI := [(.aload_n 0, 1, (0, [0], [])), (.invokevirtual 119, 3, (0, [137, 1, 0, 11], [])), (.aload_n 0, 1, (0, [0], [])), (.bipush 41, 2, (0, [], [])), (.invokevirtual 93, 3, (0, [134, 2, 0, 11], [])), (.ifCond .ne 7, 3, (0, [70], [])), (.aload_n 0, 1, (0, [0], [])), (.invokevirtual 116, 3, (0, [133, 1, 0, 11], []))]
theorem ok_X11_opens_53 : zOK cX11_opens 11 false 2 k_X11_opens_53 53 = true := zOK_by (by decide +kernel)
def k_X11_opens_70 : List ZI := [(.aload_n 0, 1, (0, [0], [])), (.dup, 1, (0, [], [])), (.getfield 113, 3, (0, [11, 9], [])), (.iconst 1, 1, (0, [], [])), (.isub, 1, (0, [], [])), (.putfield 113, 3, (0, [11, 9], [])), (.return_, 1, (0, [], []))]
theorem ok_X11_opens_70 : zOK cX11_opens 11 false 2 k_X11_opens_70 70 = true := zOK_by (by decide +kernel)
theorem rt_X11_opens {g : Nat} {post : Option ZV → ZH → Prop} {h : ZH} {b : ZB2} : zRt mX11_opens g post none h b = (post none h ∧ h.1.length = g) := by show (_ ∧ _ ∧ True) = _; simp
def bk_X11_opens_0 (E : ZE) (CT : Nat → ZC) (X : ZK) (Rt : ZR) (ls : ZL) (st : List ZV) (h : ZH) (b : ZB2) : Prop := zB E CT k_X11_opens_0 0 ls st h b (fun t ls st h b => X t ls st h b) Rt
theorem bs_X11_opens_0 {E : ZE} {CT : Nat → ZC} {X : ZK} {Rt : ZR} {ls : ZL} {st : List ZV} {h : ZH} {b : ZB2} (hX : zCl E mX11_opens 11 false CT Rt X) (q : bk_X11_opens_0 E CT X Rt ls st h b) : X 0 ls st h b := by
  refine hX k_X11_opens_0 0 ok_X11_opens_0 _ ?_ ls st h b q
  exact fun t ls st h b q => q
def bk_X11_opens_13 (E : ZE) (CT : Nat → ZC) (X : ZK) (Rt : ZR) (ls : ZL) (st : List ZV) (h : ZH) (b : ZB2) : Prop := zB E CT k_X11_opens_13 13 ls st h b (fun t ls st h b => X t ls st h b) Rt
theorem bs_X11_opens_13 {E : ZE} {CT : Nat → ZC} {X : ZK} {Rt : ZR} {ls : ZL} {st : List ZV} {h : ZH} {b : ZB2} (hX : zCl E mX11_opens 11 false CT Rt X) (q : bk_X11_opens_13 E CT X Rt ls st h b) : X 13 ls st h b := by
  refine hX k_X11_opens_13 13 ok_X11_opens_13 _ ?_ ls st h b q
  exact fun t ls st h b q => q
def bk_X11_opens_53 (E : ZE) (CT : Nat → ZC) (X : ZK) (Rt : ZR) (ls : ZL) (st : List ZV) (h : ZH) (b : ZB2) : Prop := zB E CT k_X11_opens_53 53 ls st h b (fun t ls st h b => X t ls st h b) Rt
theorem bs_X11_opens_53 {E : ZE} {CT : Nat → ZC} {X : ZK} {Rt : ZR} {ls : ZL} {st : List ZV} {h : ZH} {b : ZB2} (hX : zCl E mX11_opens 11 false CT Rt X) (q : bk_X11_opens_53 E CT X Rt ls st h b) : X 53 ls st h b := by
  refine hX k_X11_opens_53 53 ok_X11_opens_53 _ ?_ ls st h b q
  exact fun t ls st h b q => q
def bk_X11_opens_70 (E : ZE) (CT : Nat → ZC) (X : ZK) (Rt : ZR) (ls : ZL) (st : List ZV) (h : ZH) (b : ZB2) : Prop := zB E CT k_X11_opens_70 70 ls st h b (fun t ls st h b => X t ls st h b) Rt
theorem bs_X11_opens_70 {E : ZE} {CT : Nat → ZC} {X : ZK} {Rt : ZR} {ls : ZL} {st : List ZV} {h : ZH} {b : ZB2} (hX : zCl E mX11_opens 11 false CT Rt X) (q : bk_X11_opens_70 E CT X Rt ls st h b) : X 70 ls st h b := by
  refine hX k_X11_opens_70 70 ok_X11_opens_70 _ ?_ ls st h b q
  exact fun t ls st h b q => q
-- X11_opens: cuts [13, 53, 70]
abbrev opM (r : Nat) (M : ZMm) : Prop := M 87 9 = 5 - (r : Int) ∧ r ≤ 5
abbrev rdC (r : Nat) (f : (Nat → Int) → Nat → Int → PS → PS) (M : ZMm) (post : Option ZV → ZMm → Prop) : Prop := okM M ∧ opM r M ∧ ∀ M2 : ZMm, sP M2 = f (tT M) (tn M) (M 87 10) (sP M) → okM M2 → Fx M M2 → post none M2
def B_rop (r : Nat) (c : Int) (M : Nat → Nat → Int) (post : Option ZV → (Nat → Nat → Int) → Prop) : Prop := (c = 33 ∨ c = 40) ∧ hre (tT M) (tn M) (sP M) = c ∧ rdC r (fun T n u => pop T n u r c) M post
def C_rop (r : Nat) : ZC := fun as h post => match as with
  | [.inr (.inr (.inl 87)), .inl c] => h.1 = zG ∧ B_rop r c h.2 (fun v M => post v (zG, M))
  | _ => False
theorem r_rop {r : Nat} {c : Int} {M : Nat → Nat → Int} {post : Option ZV → ZH → Prop} : C_rop r [.inr (.inr (.inl 87)), .inl c] (zG, M) post = B_rop r c M (fun v M => post v (zG, M)) := by show (zG = zG ∧ _) = _; simp
def B_run (r : Nat) (M : Nat → Nat → Int) (post : Option ZV → (Nat → Nat → Int) → Prop) : Prop := rdC r (fun T n u => pnt T n u r) M post
def C_run (r : Nat) : ZC := fun as h post => match as with
  | [.inr (.inr (.inl 87))] => h.1 = zG ∧ B_run r h.2 (fun v M => post v (zG, M))
  | _ => False
theorem r_run {r : Nat} {M : Nat → Nat → Int} {post : Option ZV → ZH → Prop} : C_run r [.inr (.inr (.inl 87))] (zG, M) post = B_run r M (fun v M => post v (zG, M)) := by show (zG = zG ∧ _) = _; simp
def B_rpr (r : Nat) (M : Nat → Nat → Int) (post : Option ZV → (Nat → Nat → Int) → Prop) : Prop := rdC r (fun T n u => plw T n (pnt T n u r) 4 50) M post
def C_rpr (r : Nat) : ZC := fun as h post => match as with
  | [.inr (.inr (.inl 87))] => h.1 = zG ∧ B_rpr r h.2 (fun v M => post v (zG, M))
  | _ => False
theorem r_rpr {r : Nat} {M : Nat → Nat → Int} {post : Option ZV → ZH → Prop} : C_rpr r [.inr (.inr (.inl 87))] (zG, M) post = B_rpr r M (fun v M => post v (zG, M)) := by show (zG = zG ∧ _) = _; simp
def B_rsm (r : Nat) (M : Nat → Nat → Int) (post : Option ZV → (Nat → Nat → Int) → Prop) : Prop := rdC r (fun T n u => pvS T n (pnt T n u r)) M post
def C_rsm (r : Nat) : ZC := fun as h post => match as with
  | [.inr (.inr (.inl 87))] => h.1 = zG ∧ B_rsm r h.2 (fun v M => post v (zG, M))
  | _ => False
theorem r_rsm {r : Nat} {M : Nat → Nat → Int} {post : Option ZV → ZH → Prop} : C_rsm r [.inr (.inr (.inl 87))] (zG, M) post = B_rsm r M (fun v M => post v (zG, M)) := by show (zG = zG ∧ _) = _; simp
def B_rcm (r : Nat) (M : Nat → Nat → Int) (post : Option ZV → (Nat → Nat → Int) → Prop) : Prop := rdC r (fun T n u => pvB T n (pnt T n u r)) M post
def C_rcm (r : Nat) : ZC := fun as h post => match as with
  | [.inr (.inr (.inl 87))] => h.1 = zG ∧ B_rcm r h.2 (fun v M => post v (zG, M))
  | _ => False
theorem r_rcm {r : Nat} {M : Nat → Nat → Int} {post : Option ZV → ZH → Prop} : C_rcm r [.inr (.inr (.inl 87))] (zG, M) post = B_rcm r M (fun v M => post v (zG, M)) := by show (zG = zG ∧ _) = _; simp
def B_rbo (r : Nat) (M : Nat → Nat → Int) (post : Option ZV → (Nat → Nat → Int) → Prop) : Prop := rdC r (fun T n u => pvA T n (pnt T n u r)) M post
def C_rbo (r : Nat) : ZC := fun as h post => match as with
  | [.inr (.inr (.inl 87))] => h.1 = zG ∧ B_rbo r h.2 (fun v M => post v (zG, M))
  | _ => False
theorem r_rbo {r : Nat} {M : Nat → Nat → Int} {post : Option ZV → ZH → Prop} : C_rbo r [.inr (.inr (.inl 87))] (zG, M) post = B_rbo r M (fun v M => post v (zG, M)) := by show (zG = zG ∧ _) = _; simp
def B_rei (r : Nat) (M : Nat → Nat → Int) (post : Option ZV → (Nat → Nat → Int) → Prop) : Prop := rdC r (fun T n u => pvT T n (pnt T n u r)) M post
def C_rei (r : Nat) : ZC := fun as h post => match as with
  | [.inr (.inr (.inl 87))] => h.1 = zG ∧ B_rei r h.2 (fun v M => post v (zG, M))
  | _ => False
theorem r_rei {r : Nat} {M : Nat → Nat → Int} {post : Option ZV → ZH → Prop} : C_rei r [.inr (.inr (.inl 87))] (zG, M) post = B_rei r M (fun v M => post v (zG, M)) := by show (zG = zG ∧ _) = _; simp
theorem nmo_rng (u c : Int) : -1 ≤ nmo u c ∧ nmo u c ≤ 2 := by
  unfold nmo; (repeat' split) <;> omega
theorem nmo_nn {u c : Int} (h : 0 ≤ nmo u c) : ¬ c = -1 := by
  unfold nmo at h; (repeat' split at h) <;> omega
def ct_run (r : Nat) : Nat → ZC := fun n => if n = 132 then C_here else if n = 135 then C_nameOf else if n = 136 then C_lay else if n = 120 then C_in else if n = 133 then C_wrong else if n = 142 then C_rop (r) else fun _ _ _ => False
theorem ct_run_here {r : Nat} {as : List ZV} {h : ZH} {post : Option ZV → ZH → Prop} : ct_run r 132 as h post = C_here as h post := rfl
theorem ct_run_nameOf {r : Nat} {as : List ZV} {h : ZH} {post : Option ZV → ZH → Prop} : ct_run r 135 as h post = C_nameOf as h post := rfl
theorem ct_run_lay {r : Nat} {as : List ZV} {h : ZH} {post : Option ZV → ZH → Prop} : ct_run r 136 as h post = C_lay as h post := rfl
theorem ct_run_in {r : Nat} {as : List ZV} {h : ZH} {post : Option ZV → ZH → Prop} : ct_run r 120 as h post = C_in as h post := rfl
theorem ct_run_wrong {r : Nat} {as : List ZV} {h : ZH} {post : Option ZV → ZH → Prop} : ct_run r 133 as h post = C_wrong as h post := rfl
theorem ct_run_rop {r : Nat} {as : List ZV} {h : ZH} {post : Option ZV → ZH → Prop} : ct_run r 142 as h post = C_rop (r) as h post := rfl
theorem c_run {E : ZE} {d : Nat} {r : Nat} (hd : 2 ≤ d) (i_rop : ∃ d', d' < d ∧ zMet E d' mX11_opens (C_rop (r))) : zMet E d mX11_unit (C_run (r)) := by
  refine zmet_of (o := 11) (ini := false) (CT := ct_run r) gd_X11_unit rfl (fun h => by cases h) (by omega) ?_ ?_
  · intro n as h post hh
    unfold ct_run at hh
    by_cases c : n = 132
    · subst c; exact ⟨gd_X11_here, 1, by omega, c_here (by omega)⟩
    rw [if_neg c] at hh
    by_cases c : n = 135
    · subst c; exact ⟨gd_X11_nameOf, 1, by omega, c_nameOf (by omega)⟩
    rw [if_neg c] at hh
    by_cases c : n = 136
    · subst c; exact ⟨gd_X11_lay, 1, by omega, c_lay (by omega)⟩
    rw [if_neg c] at hh
    by_cases c : n = 120
    · subst c; exact ⟨gd_X11_in, 1, by omega, c_in (by omega)⟩
    rw [if_neg c] at hh
    by_cases c : n = 133
    · subst c; exact ⟨gd_X11_wrong, 1, by omega, c_wrong (by omega)⟩
    rw [if_neg c] at hh
    by_cases c : n = 142
    · subst c; exact ⟨gd_X11_opens, i_rop⟩
    rw [if_neg c] at hh
    exact hh.elim
  intro as h post hC
  match as, hC with
  | [.inr (.inr (.inl 87))], hC =>
    refine ⟨Nat.le_of_ble_eq_true rfl, fun X hX => bs_X11_unit_0 hX ?_⟩
    obtain ⟨G, M⟩ := h
    obtain ⟨hG, hC⟩ := hC
    dsimp only at hG
    subst hG
    simp only [B_run, rdC] at hC
    show bk_X11_unit_0 E (ct_run r) X _ [some (.inr (.inr (.inl 87))), none, none, none, none] [] (zG, M) (0, 0)
    obtain ⟨ho, op, hC⟩ := hC
    rw [pnt_eq] at hC
    have hu := ho.2.2.2.2.2.2
    have hr := hre_rg ho
    obtain ⟨H, hH⟩ : ∃ H, hre (tT M) (tn M) (sP M) = H := ⟨_, rfl⟩
    rw [hH] at hr
    have zh := zr_rg hr
    have J17 : (H = 33 ∨ H = 40) → X 17 [some (.inr (.inr (.inl 87))), some (.inl H), none, none, none] [] (zG, M) (0, 0) := by
      intro q
      refine bs_X11_unit_17 hX ?_
      simp only [bk_X11_unit_0, k_X11_unit_0, bk_X11_unit_17, k_X11_unit_17, bk_X11_unit_23, k_X11_unit_23, bk_X11_unit_33, k_X11_unit_33, bk_X11_unit_53, k_X11_unit_53, bk_X11_unit_58, k_X11_unit_58, bk_X11_unit_110, k_X11_unit_110, bk_X11_unit_119, k_X11_unit_119, ↓e_rk1, ↓e_rk0, ↓e_sk0, ↓e_sks, ↓e_ldi0, ↓e_ldis, ↓e_ldl0, ↓e_ldls, ↓e_lda0, ↓e_ldas, ↓e_ok0, ↓e_okss, ↓e_ok1i, ↓e_ok1r, ↓e_ok1n, ↓e_sti, ↓e_sta, ↓e_1, ↓e_2, ↓e_l1, ↓e_l2, ↓e_li, ↓e_sw0, ↓e_sws, ↓e_ceq, ↓e_cne, ↓e_clt, ↓e_cge, ↓e_cgt, ↓e_cle, ↓e_nil, ↓e_cons, ↓e_iconst, ↓e_bipush, ↓e_sipush, ↓e_ldc, ↓e_ldcw, ↓e_ldc2, ↓e_lconst, ↓e_iloadn, ↓e_iload, ↓e_lloadn, ↓e_lload, ↓e_aloadn, ↓e_aload, ↓e_istoren, ↓e_istore, ↓e_astoren, ↓e_astore, ↓e_add, ↓e_iinc, ↓e_iadd, ↓e_isub, ↓e_imul, ↓e_iand, ↓e_ior, ↓e_ixor, ↓e_ishl, ↓e_iushr, ↓e_idiv, ↓e_irem, ↓e_ineg, ↓e_i2l, ↓e_i2b, ↓e_i2s, ↓e_l2i, ↓e_land, ↓e_lor, ↓e_lshl, ↓e_lshr, ↓e_lushr, ↓e_lcmp, ↓e_dupi, ↓e_dupr, ↓e_popi, ↓e_dup2, ↓e_goto, ↓e_if, ↓e_icmp, ↓e_tsw, ↓e_lsw, ↓e_getf, ↓e_putf, ↓e_gets, ↓e_iald, ↓e_cald, ↓e_iast, ↓e_aald, ↓e_aast, ↓e_len, ↓e_copy, ↓e_abs, ↓e_max, ↓e_min, ↓e_iret, ↓e_aret, ↓e_vret, ↓e_is0, ↓e_is1, ↓e_is2, ↓e_is3, ↓e_is4, ↓e_iv1, ↓e_iv2, ↓e_iv3, ↓e_iv4, ↓e_iv5, ↓e_iv6, ↓rt_X11_unit, ↓reduceIte, Nat.reduceAdd, Nat.reduceEqDiff, ↓zcl0, ↓zclv, List.map_nil, List.sum_nil, List.map_cons, List.sum_cons, zcat, true_and, and_true, Nat.reduceLeDiff, Nat.reduceAdd, eq_self, forall_const, e_ok0, e_okss, e_ok1i, e_ok1r, e_ok1n, zl_0, zl_1, zl_4, zl_10, zl_33, zl_40, zl_48, zl_10000, zq_48, zq_57, Int.reduceToNat, Int.reduceAdd, Int.reduceMul, Int.reduceSub, Int.reduceNeg, Int.reduceLT, Int.reduceLE, Int.reduceEq, not_false_eq_true, not_true_eq_false, false_implies, true_implies, implies_true, Int.reduceDiv, Int.reduceMod, zr8_zr, zr_zbo, z01_zbo, z01_0, z01_1, zbo_eq0, zup_eq, zup_o, zup_k, ne_eq, ↓ct_run_here, ↓r_here, ↓B_here, ↓ct_run_nameOf, ↓r_nameOf, ↓B_nameOf, ↓ct_run_lay, ↓r_lay, ↓B_lay, ↓ct_run_in, ↓r_in, ↓B_in, ↓ct_run_wrong, ↓r_wrong, ↓B_wrong, ↓ct_run_rop, ↓r_rop, ↓B_rop, ↓v_87, ↓g_87_0, ↓l_88, ↓s_88, ↓n_88, ↓g_87_1, ↓l_89, ↓s_89, ↓n_89, ↓g_87_2, ↓l_90, ↓s_90, ↓n_90, ↓g_87_3, ↓p_87_3, ↓g_87_4, ↓l_91, ↓s_91, ↓n_91, ↓g_87_5, ↓p_87_5, ↓g_87_6, ↓p_87_6, ↓g_87_7, ↓p_87_7, ↓g_87_8, ↓p_87_8, ↓g_87_9, ↓p_87_9, ↓g_87_10, ↓p_87_10, ↓g_87_11, ↓l_92, ↓s_92, ↓n_92, ↓g_87_12, ↓l_93, ↓s_93, ↓n_93, ↓g_87_13, ↓p_87_13, ↓g_87_14, ↓l_94, ↓s_94, ↓n_94, ↓g_87_15, ↓p_87_15, ↓g_87_16, ↓l_95, ↓s_95, ↓n_95, ↓g_87_17, ↓l_96, ↓s_96, ↓n_96, ↓g_87_18, ↓l_97, ↓s_97, ↓n_97, ↓g_87_19, ↓p_87_19, ↓g_87_20, ↓p_87_20, ↓g_87_21, ↓l_98, ↓s_98, ↓n_98, ↓g_87_22, ↓l_99, ↓s_99, ↓n_99, ↓g_87_23, ↓l_100, ↓s_100, ↓n_100, ↓g_87_24, ↓l_101, ↓s_101, ↓n_101, ↓rdC]
      refine ⟨q, hH, ho, op, fun M2 e o2 fx => hC M2 ?_ o2 fx⟩
      unfold pbs
      rw [hH, if_pos q]
      exact e
    have nr := nmo_rng (M 87 10) H
    have zn : zr (nmo (M 87 10) H) = nmo (M 87 10) H := zr_of (by omega) (by omega)
    have J33 : ¬ (H = 33 ∨ H = 40) → 0 ≤ nmo (M 87 10) H → X 33 [some (.inr (.inr (.inl 87))), some (.inl H), some (.inl (nmo (M 87 10) H)), none, none] [] (zG, M) (0, 0) := by
      intro q q2
      have hn := hre_nn (T := tT M) (n := tn M) (s := sP M) (by rw [hH]; exact nmo_nn q2)
      obtain ⟨a1, a2, a3⟩ := adv_M ho hn.1
      refine bs_X11_unit_33 hX ?_
      simp only [bk_X11_unit_0, k_X11_unit_0, bk_X11_unit_17, k_X11_unit_17, bk_X11_unit_23, k_X11_unit_23, bk_X11_unit_33, k_X11_unit_33, bk_X11_unit_53, k_X11_unit_53, bk_X11_unit_58, k_X11_unit_58, bk_X11_unit_110, k_X11_unit_110, bk_X11_unit_119, k_X11_unit_119, ↓e_rk1, ↓e_rk0, ↓e_sk0, ↓e_sks, ↓e_ldi0, ↓e_ldis, ↓e_ldl0, ↓e_ldls, ↓e_lda0, ↓e_ldas, ↓e_ok0, ↓e_okss, ↓e_ok1i, ↓e_ok1r, ↓e_ok1n, ↓e_sti, ↓e_sta, ↓e_1, ↓e_2, ↓e_l1, ↓e_l2, ↓e_li, ↓e_sw0, ↓e_sws, ↓e_ceq, ↓e_cne, ↓e_clt, ↓e_cge, ↓e_cgt, ↓e_cle, ↓e_nil, ↓e_cons, ↓e_iconst, ↓e_bipush, ↓e_sipush, ↓e_ldc, ↓e_ldcw, ↓e_ldc2, ↓e_lconst, ↓e_iloadn, ↓e_iload, ↓e_lloadn, ↓e_lload, ↓e_aloadn, ↓e_aload, ↓e_istoren, ↓e_istore, ↓e_astoren, ↓e_astore, ↓e_add, ↓e_iinc, ↓e_iadd, ↓e_isub, ↓e_imul, ↓e_iand, ↓e_ior, ↓e_ixor, ↓e_ishl, ↓e_iushr, ↓e_idiv, ↓e_irem, ↓e_ineg, ↓e_i2l, ↓e_i2b, ↓e_i2s, ↓e_l2i, ↓e_land, ↓e_lor, ↓e_lshl, ↓e_lshr, ↓e_lushr, ↓e_lcmp, ↓e_dupi, ↓e_dupr, ↓e_popi, ↓e_dup2, ↓e_goto, ↓e_if, ↓e_icmp, ↓e_tsw, ↓e_lsw, ↓e_getf, ↓e_putf, ↓e_gets, ↓e_iald, ↓e_cald, ↓e_iast, ↓e_aald, ↓e_aast, ↓e_len, ↓e_copy, ↓e_abs, ↓e_max, ↓e_min, ↓e_iret, ↓e_aret, ↓e_vret, ↓e_is0, ↓e_is1, ↓e_is2, ↓e_is3, ↓e_is4, ↓e_iv1, ↓e_iv2, ↓e_iv3, ↓e_iv4, ↓e_iv5, ↓e_iv6, ↓rt_X11_unit, ↓reduceIte, Nat.reduceAdd, Nat.reduceEqDiff, ↓zcl0, ↓zclv, List.map_nil, List.sum_nil, List.map_cons, List.sum_cons, zcat, true_and, and_true, Nat.reduceLeDiff, Nat.reduceAdd, eq_self, forall_const, e_ok0, e_okss, e_ok1i, e_ok1r, e_ok1n, zl_0, zl_1, zl_4, zl_10, zl_33, zl_40, zl_48, zl_10000, zq_48, zq_57, Int.reduceToNat, Int.reduceAdd, Int.reduceMul, Int.reduceSub, Int.reduceNeg, Int.reduceLT, Int.reduceLE, Int.reduceEq, not_false_eq_true, not_true_eq_false, false_implies, true_implies, implies_true, Int.reduceDiv, Int.reduceMod, zr8_zr, zr_zbo, z01_zbo, z01_0, z01_1, zbo_eq0, zup_eq, zup_o, zup_k, ne_eq, ↓ct_run_here, ↓r_here, ↓B_here, ↓ct_run_nameOf, ↓r_nameOf, ↓B_nameOf, ↓ct_run_lay, ↓r_lay, ↓B_lay, ↓ct_run_in, ↓r_in, ↓B_in, ↓ct_run_wrong, ↓r_wrong, ↓B_wrong, ↓ct_run_rop, ↓r_rop, ↓B_rop, ↓v_87, ↓g_87_0, ↓l_88, ↓s_88, ↓n_88, ↓g_87_1, ↓l_89, ↓s_89, ↓n_89, ↓g_87_2, ↓l_90, ↓s_90, ↓n_90, ↓g_87_3, ↓p_87_3, ↓g_87_4, ↓l_91, ↓s_91, ↓n_91, ↓g_87_5, ↓p_87_5, ↓g_87_6, ↓p_87_6, ↓g_87_7, ↓p_87_7, ↓g_87_8, ↓p_87_8, ↓g_87_9, ↓p_87_9, ↓g_87_10, ↓p_87_10, ↓g_87_11, ↓l_92, ↓s_92, ↓n_92, ↓g_87_12, ↓l_93, ↓s_93, ↓n_93, ↓g_87_13, ↓p_87_13, ↓g_87_14, ↓l_94, ↓s_94, ↓n_94, ↓g_87_15, ↓p_87_15, ↓g_87_16, ↓l_95, ↓s_95, ↓n_95, ↓g_87_17, ↓l_96, ↓s_96, ↓n_96, ↓g_87_18, ↓l_97, ↓s_97, ↓n_97, ↓g_87_19, ↓p_87_19, ↓g_87_20, ↓p_87_20, ↓g_87_21, ↓l_98, ↓s_98, ↓n_98, ↓g_87_22, ↓l_99, ↓s_99, ↓n_99, ↓g_87_23, ↓l_100, ↓s_100, ↓n_100, ↓g_87_24, ↓l_101, ↓s_101, ↓n_101, ↓rdC]
      refine ⟨a2, fun _ => ?_, fun M2 e o2 fx => hC M2 ?_ o2 (a3.trans fx)⟩
      · rw [a1]
        have := ho.1.2.1
        show (sP M).2.2.length < (sP M).1 + 1
        omega
      · unfold pbs
        rw [hH, if_neg q, if_pos q2, e, a1]
    have J53 : ¬ (H = 33 ∨ H = 40) → ¬ 0 ≤ nmo (M 87 10) H → X 53 [some (.inr (.inr (.inl 87))), some (.inl H), some (.inl (nmo (M 87 10) H)), none, none] [] (zG, M) (0, 0) := by
      intro q q2
      have pb : pbs (tT M) (tn M) (M 87 10) (pop (tT M) (tn M) (M 87 10) r) (sP M) = if 48 ≤ H ∧ H ≤ 57 then lyy (pdg (tT M) (tn M) 4 0 (sP M)).1 (pdg (tT M) (tn M) 4 0 (sP M)).2 else wrg (sP M) := by
        unfold pbs
        rw [hH, if_neg q, if_neg q2]
      rw [pb] at hC
      have J110 : ∀ (k : Nat) (M' : ZMm) (v x2 : Int), k ≤ 4 → okM M' → Fx M M' → pdg (tT M) (tn M) 4 0 (sP M) = (v, sP M') → (sP M').1 = (sP M).1 + k → (sP M').2 = (sP M).2 → (k = 0 → sP M' = sP M ∧ ¬ (48 ≤ H ∧ H ≤ 57)) → (1 ≤ k → 48 ≤ H ∧ H ≤ 57) → X 110 [some (.inr (.inr (.inl 87))), some (.inl H), some (.inl x2), some (.inl v), some (.inl ((k : Int)))] [] (zG, M') (0, 0) := by
        intro k M' v x2 hk o' fx' hp h1 h2 h0 hd
        refine bs_X11_unit_110 hX ?_
        have zk : zr (k : Int) = k := zr_of (by omega) (by omega)
        have J119 : 1 ≤ k → X 119 [some (.inr (.inr (.inl 87))), some (.inl H), some (.inl x2), some (.inl v), some (.inl ((k : Int)))] [] (zG, M') (0, 0) := by
          intro k1
          refine bs_X11_unit_119 hX ?_
          simp only [bk_X11_unit_0, k_X11_unit_0, bk_X11_unit_17, k_X11_unit_17, bk_X11_unit_23, k_X11_unit_23, bk_X11_unit_33, k_X11_unit_33, bk_X11_unit_53, k_X11_unit_53, bk_X11_unit_58, k_X11_unit_58, bk_X11_unit_110, k_X11_unit_110, bk_X11_unit_119, k_X11_unit_119, ↓e_rk1, ↓e_rk0, ↓e_sk0, ↓e_sks, ↓e_ldi0, ↓e_ldis, ↓e_ldl0, ↓e_ldls, ↓e_lda0, ↓e_ldas, ↓e_ok0, ↓e_okss, ↓e_ok1i, ↓e_ok1r, ↓e_ok1n, ↓e_sti, ↓e_sta, ↓e_1, ↓e_2, ↓e_l1, ↓e_l2, ↓e_li, ↓e_sw0, ↓e_sws, ↓e_ceq, ↓e_cne, ↓e_clt, ↓e_cge, ↓e_cgt, ↓e_cle, ↓e_nil, ↓e_cons, ↓e_iconst, ↓e_bipush, ↓e_sipush, ↓e_ldc, ↓e_ldcw, ↓e_ldc2, ↓e_lconst, ↓e_iloadn, ↓e_iload, ↓e_lloadn, ↓e_lload, ↓e_aloadn, ↓e_aload, ↓e_istoren, ↓e_istore, ↓e_astoren, ↓e_astore, ↓e_add, ↓e_iinc, ↓e_iadd, ↓e_isub, ↓e_imul, ↓e_iand, ↓e_ior, ↓e_ixor, ↓e_ishl, ↓e_iushr, ↓e_idiv, ↓e_irem, ↓e_ineg, ↓e_i2l, ↓e_i2b, ↓e_i2s, ↓e_l2i, ↓e_land, ↓e_lor, ↓e_lshl, ↓e_lshr, ↓e_lushr, ↓e_lcmp, ↓e_dupi, ↓e_dupr, ↓e_popi, ↓e_dup2, ↓e_goto, ↓e_if, ↓e_icmp, ↓e_tsw, ↓e_lsw, ↓e_getf, ↓e_putf, ↓e_gets, ↓e_iald, ↓e_cald, ↓e_iast, ↓e_aald, ↓e_aast, ↓e_len, ↓e_copy, ↓e_abs, ↓e_max, ↓e_min, ↓e_iret, ↓e_aret, ↓e_vret, ↓e_is0, ↓e_is1, ↓e_is2, ↓e_is3, ↓e_is4, ↓e_iv1, ↓e_iv2, ↓e_iv3, ↓e_iv4, ↓e_iv5, ↓e_iv6, ↓rt_X11_unit, ↓reduceIte, Nat.reduceAdd, Nat.reduceEqDiff, ↓zcl0, ↓zclv, List.map_nil, List.sum_nil, List.map_cons, List.sum_cons, zcat, true_and, and_true, Nat.reduceLeDiff, Nat.reduceAdd, eq_self, forall_const, e_ok0, e_okss, e_ok1i, e_ok1r, e_ok1n, zl_0, zl_1, zl_4, zl_10, zl_33, zl_40, zl_48, zl_10000, zq_48, zq_57, Int.reduceToNat, Int.reduceAdd, Int.reduceMul, Int.reduceSub, Int.reduceNeg, Int.reduceLT, Int.reduceLE, Int.reduceEq, not_false_eq_true, not_true_eq_false, false_implies, true_implies, implies_true, Int.reduceDiv, Int.reduceMod, zr8_zr, zr_zbo, z01_zbo, z01_0, z01_1, zbo_eq0, zup_eq, zup_o, zup_k, ne_eq, ↓ct_run_here, ↓r_here, ↓B_here, ↓ct_run_nameOf, ↓r_nameOf, ↓B_nameOf, ↓ct_run_lay, ↓r_lay, ↓B_lay, ↓ct_run_in, ↓r_in, ↓B_in, ↓ct_run_wrong, ↓r_wrong, ↓B_wrong, ↓ct_run_rop, ↓r_rop, ↓B_rop, ↓v_87, ↓g_87_0, ↓l_88, ↓s_88, ↓n_88, ↓g_87_1, ↓l_89, ↓s_89, ↓n_89, ↓g_87_2, ↓l_90, ↓s_90, ↓n_90, ↓g_87_3, ↓p_87_3, ↓g_87_4, ↓l_91, ↓s_91, ↓n_91, ↓g_87_5, ↓p_87_5, ↓g_87_6, ↓p_87_6, ↓g_87_7, ↓p_87_7, ↓g_87_8, ↓p_87_8, ↓g_87_9, ↓p_87_9, ↓g_87_10, ↓p_87_10, ↓g_87_11, ↓l_92, ↓s_92, ↓n_92, ↓g_87_12, ↓l_93, ↓s_93, ↓n_93, ↓g_87_13, ↓p_87_13, ↓g_87_14, ↓l_94, ↓s_94, ↓n_94, ↓g_87_15, ↓p_87_15, ↓g_87_16, ↓l_95, ↓s_95, ↓n_95, ↓g_87_17, ↓l_96, ↓s_96, ↓n_96, ↓g_87_18, ↓l_97, ↓s_97, ↓n_97, ↓g_87_19, ↓p_87_19, ↓g_87_20, ↓p_87_20, ↓g_87_21, ↓l_98, ↓s_98, ↓n_98, ↓g_87_22, ↓l_99, ↓s_99, ↓n_99, ↓g_87_23, ↓l_100, ↓s_100, ↓n_100, ↓g_87_24, ↓l_101, ↓s_101, ↓n_101, ↓rdC]
          refine ⟨o', fun _ => ?_, fun M2 e o2 fx => hC M2 ?_ o2 (fx'.trans fx)⟩
          · rw [h2]
            have := ho.1.2.1
            omega
          · rw [if_pos (hd k1), hp, e]
        have J119' : k = 0 → ∀ M1 : ZMm, sP M1 = wrg (sP M') → okM M1 → Fx M' M1 → X 119 [some (.inr (.inr (.inl 87))), some (.inl H), some (.inl x2), some (.inl v), some (.inl ((k : Int)))] [] (zG, M1) (0, 0) := by
          intro k0 M1 e1 o1 fx1
          refine bs_X11_unit_119 hX ?_
          simp only [bk_X11_unit_0, k_X11_unit_0, bk_X11_unit_17, k_X11_unit_17, bk_X11_unit_23, k_X11_unit_23, bk_X11_unit_33, k_X11_unit_33, bk_X11_unit_53, k_X11_unit_53, bk_X11_unit_58, k_X11_unit_58, bk_X11_unit_110, k_X11_unit_110, bk_X11_unit_119, k_X11_unit_119, ↓e_rk1, ↓e_rk0, ↓e_sk0, ↓e_sks, ↓e_ldi0, ↓e_ldis, ↓e_ldl0, ↓e_ldls, ↓e_lda0, ↓e_ldas, ↓e_ok0, ↓e_okss, ↓e_ok1i, ↓e_ok1r, ↓e_ok1n, ↓e_sti, ↓e_sta, ↓e_1, ↓e_2, ↓e_l1, ↓e_l2, ↓e_li, ↓e_sw0, ↓e_sws, ↓e_ceq, ↓e_cne, ↓e_clt, ↓e_cge, ↓e_cgt, ↓e_cle, ↓e_nil, ↓e_cons, ↓e_iconst, ↓e_bipush, ↓e_sipush, ↓e_ldc, ↓e_ldcw, ↓e_ldc2, ↓e_lconst, ↓e_iloadn, ↓e_iload, ↓e_lloadn, ↓e_lload, ↓e_aloadn, ↓e_aload, ↓e_istoren, ↓e_istore, ↓e_astoren, ↓e_astore, ↓e_add, ↓e_iinc, ↓e_iadd, ↓e_isub, ↓e_imul, ↓e_iand, ↓e_ior, ↓e_ixor, ↓e_ishl, ↓e_iushr, ↓e_idiv, ↓e_irem, ↓e_ineg, ↓e_i2l, ↓e_i2b, ↓e_i2s, ↓e_l2i, ↓e_land, ↓e_lor, ↓e_lshl, ↓e_lshr, ↓e_lushr, ↓e_lcmp, ↓e_dupi, ↓e_dupr, ↓e_popi, ↓e_dup2, ↓e_goto, ↓e_if, ↓e_icmp, ↓e_tsw, ↓e_lsw, ↓e_getf, ↓e_putf, ↓e_gets, ↓e_iald, ↓e_cald, ↓e_iast, ↓e_aald, ↓e_aast, ↓e_len, ↓e_copy, ↓e_abs, ↓e_max, ↓e_min, ↓e_iret, ↓e_aret, ↓e_vret, ↓e_is0, ↓e_is1, ↓e_is2, ↓e_is3, ↓e_is4, ↓e_iv1, ↓e_iv2, ↓e_iv3, ↓e_iv4, ↓e_iv5, ↓e_iv6, ↓rt_X11_unit, ↓reduceIte, Nat.reduceAdd, Nat.reduceEqDiff, ↓zcl0, ↓zclv, List.map_nil, List.sum_nil, List.map_cons, List.sum_cons, zcat, true_and, and_true, Nat.reduceLeDiff, Nat.reduceAdd, eq_self, forall_const, e_ok0, e_okss, e_ok1i, e_ok1r, e_ok1n, zl_0, zl_1, zl_4, zl_10, zl_33, zl_40, zl_48, zl_10000, zq_48, zq_57, Int.reduceToNat, Int.reduceAdd, Int.reduceMul, Int.reduceSub, Int.reduceNeg, Int.reduceLT, Int.reduceLE, Int.reduceEq, not_false_eq_true, not_true_eq_false, false_implies, true_implies, implies_true, Int.reduceDiv, Int.reduceMod, zr8_zr, zr_zbo, z01_zbo, z01_0, z01_1, zbo_eq0, zup_eq, zup_o, zup_k, ne_eq, ↓ct_run_here, ↓r_here, ↓B_here, ↓ct_run_nameOf, ↓r_nameOf, ↓B_nameOf, ↓ct_run_lay, ↓r_lay, ↓B_lay, ↓ct_run_in, ↓r_in, ↓B_in, ↓ct_run_wrong, ↓r_wrong, ↓B_wrong, ↓ct_run_rop, ↓r_rop, ↓B_rop, ↓v_87, ↓g_87_0, ↓l_88, ↓s_88, ↓n_88, ↓g_87_1, ↓l_89, ↓s_89, ↓n_89, ↓g_87_2, ↓l_90, ↓s_90, ↓n_90, ↓g_87_3, ↓p_87_3, ↓g_87_4, ↓l_91, ↓s_91, ↓n_91, ↓g_87_5, ↓p_87_5, ↓g_87_6, ↓p_87_6, ↓g_87_7, ↓p_87_7, ↓g_87_8, ↓p_87_8, ↓g_87_9, ↓p_87_9, ↓g_87_10, ↓p_87_10, ↓g_87_11, ↓l_92, ↓s_92, ↓n_92, ↓g_87_12, ↓l_93, ↓s_93, ↓n_93, ↓g_87_13, ↓p_87_13, ↓g_87_14, ↓l_94, ↓s_94, ↓n_94, ↓g_87_15, ↓p_87_15, ↓g_87_16, ↓l_95, ↓s_95, ↓n_95, ↓g_87_17, ↓l_96, ↓s_96, ↓n_96, ↓g_87_18, ↓l_97, ↓s_97, ↓n_97, ↓g_87_19, ↓p_87_19, ↓g_87_20, ↓p_87_20, ↓g_87_21, ↓l_98, ↓s_98, ↓n_98, ↓g_87_22, ↓l_99, ↓s_99, ↓n_99, ↓g_87_23, ↓l_100, ↓s_100, ↓n_100, ↓g_87_24, ↓l_101, ↓s_101, ↓n_101, ↓rdC]
          have wf := wrg_f (s := sP M')
          rw [← e1] at wf
          refine ⟨o1, fun q9 => by omega, fun M2 e o2 fx => hC M2 ?_ o2 ((fx'.trans fx1).trans fx)⟩
          rw [if_neg (h0 k0).2, e]
          unfold lyy
          rw [if_neg (by omega), e1, (h0 k0).1]
        simp only [bk_X11_unit_0, k_X11_unit_0, bk_X11_unit_17, k_X11_unit_17, bk_X11_unit_23, k_X11_unit_23, bk_X11_unit_33, k_X11_unit_33, bk_X11_unit_53, k_X11_unit_53, bk_X11_unit_58, k_X11_unit_58, bk_X11_unit_110, k_X11_unit_110, bk_X11_unit_119, k_X11_unit_119, ↓e_rk1, ↓e_rk0, ↓e_sk0, ↓e_sks, ↓e_ldi0, ↓e_ldis, ↓e_ldl0, ↓e_ldls, ↓e_lda0, ↓e_ldas, ↓e_ok0, ↓e_okss, ↓e_ok1i, ↓e_ok1r, ↓e_ok1n, ↓e_sti, ↓e_sta, ↓e_1, ↓e_2, ↓e_l1, ↓e_l2, ↓e_li, ↓e_sw0, ↓e_sws, ↓e_ceq, ↓e_cne, ↓e_clt, ↓e_cge, ↓e_cgt, ↓e_cle, ↓e_nil, ↓e_cons, ↓e_iconst, ↓e_bipush, ↓e_sipush, ↓e_ldc, ↓e_ldcw, ↓e_ldc2, ↓e_lconst, ↓e_iloadn, ↓e_iload, ↓e_lloadn, ↓e_lload, ↓e_aloadn, ↓e_aload, ↓e_istoren, ↓e_istore, ↓e_astoren, ↓e_astore, ↓e_add, ↓e_iinc, ↓e_iadd, ↓e_isub, ↓e_imul, ↓e_iand, ↓e_ior, ↓e_ixor, ↓e_ishl, ↓e_iushr, ↓e_idiv, ↓e_irem, ↓e_ineg, ↓e_i2l, ↓e_i2b, ↓e_i2s, ↓e_l2i, ↓e_land, ↓e_lor, ↓e_lshl, ↓e_lshr, ↓e_lushr, ↓e_lcmp, ↓e_dupi, ↓e_dupr, ↓e_popi, ↓e_dup2, ↓e_goto, ↓e_if, ↓e_icmp, ↓e_tsw, ↓e_lsw, ↓e_getf, ↓e_putf, ↓e_gets, ↓e_iald, ↓e_cald, ↓e_iast, ↓e_aald, ↓e_aast, ↓e_len, ↓e_copy, ↓e_abs, ↓e_max, ↓e_min, ↓e_iret, ↓e_aret, ↓e_vret, ↓e_is0, ↓e_is1, ↓e_is2, ↓e_is3, ↓e_is4, ↓e_iv1, ↓e_iv2, ↓e_iv3, ↓e_iv4, ↓e_iv5, ↓e_iv6, ↓rt_X11_unit, ↓reduceIte, Nat.reduceAdd, Nat.reduceEqDiff, ↓zcl0, ↓zclv, List.map_nil, List.sum_nil, List.map_cons, List.sum_cons, zcat, true_and, and_true, Nat.reduceLeDiff, Nat.reduceAdd, eq_self, forall_const, e_ok0, e_okss, e_ok1i, e_ok1r, e_ok1n, zl_0, zl_1, zl_4, zl_10, zl_33, zl_40, zl_48, zl_10000, zq_48, zq_57, Int.reduceToNat, Int.reduceAdd, Int.reduceMul, Int.reduceSub, Int.reduceNeg, Int.reduceLT, Int.reduceLE, Int.reduceEq, not_false_eq_true, not_true_eq_false, false_implies, true_implies, implies_true, Int.reduceDiv, Int.reduceMod, zr8_zr, zr_zbo, z01_zbo, z01_0, z01_1, zbo_eq0, zup_eq, zup_o, zup_k, ne_eq, ↓ct_run_here, ↓r_here, ↓B_here, ↓ct_run_nameOf, ↓r_nameOf, ↓B_nameOf, ↓ct_run_lay, ↓r_lay, ↓B_lay, ↓ct_run_in, ↓r_in, ↓B_in, ↓ct_run_wrong, ↓r_wrong, ↓B_wrong, ↓ct_run_rop, ↓r_rop, ↓B_rop, ↓v_87, ↓g_87_0, ↓l_88, ↓s_88, ↓n_88, ↓g_87_1, ↓l_89, ↓s_89, ↓n_89, ↓g_87_2, ↓l_90, ↓s_90, ↓n_90, ↓g_87_3, ↓p_87_3, ↓g_87_4, ↓l_91, ↓s_91, ↓n_91, ↓g_87_5, ↓p_87_5, ↓g_87_6, ↓p_87_6, ↓g_87_7, ↓p_87_7, ↓g_87_8, ↓p_87_8, ↓g_87_9, ↓p_87_9, ↓g_87_10, ↓p_87_10, ↓g_87_11, ↓l_92, ↓s_92, ↓n_92, ↓g_87_12, ↓l_93, ↓s_93, ↓n_93, ↓g_87_13, ↓p_87_13, ↓g_87_14, ↓l_94, ↓s_94, ↓n_94, ↓g_87_15, ↓p_87_15, ↓g_87_16, ↓l_95, ↓s_95, ↓n_95, ↓g_87_17, ↓l_96, ↓s_96, ↓n_96, ↓g_87_18, ↓l_97, ↓s_97, ↓n_97, ↓g_87_19, ↓p_87_19, ↓g_87_20, ↓p_87_20, ↓g_87_21, ↓l_98, ↓s_98, ↓n_98, ↓g_87_22, ↓l_99, ↓s_99, ↓n_99, ↓g_87_23, ↓l_100, ↓s_100, ↓n_100, ↓g_87_24, ↓l_101, ↓s_101, ↓n_101, ↓rdC, zk]
        refine ⟨fun c => ?_, fun c => ?_⟩
        · first | exact J119 (by omega) | exact ⟨o', fun M1 e1 o1 fx1 => J119' (by omega) M1 e1 o1 fx1⟩
        · first | exact J119 (by omega) | exact ⟨o', fun M1 e1 o1 fx1 => J119' (by omega) M1 e1 o1 fx1⟩
      have lp : ∀ (j k : Nat) (M' : ZMm) (v x2 : Int), j + k = 4 → okM M' → Fx M M' → pdg (tT M) (tn M) 4 0 (sP M) = pdg (tT M) (tn M) j v (sP M') → (sP M').1 = (sP M).1 + k → (sP M').2 = (sP M).2 → (k = 0 → sP M' = sP M) → (1 ≤ k → 48 ≤ H ∧ H ≤ 57) → X 58 [some (.inr (.inr (.inl 87))), some (.inl H), some (.inl x2), some (.inl v), some (.inl ((k : Int)))] [] (zG, M') (0, 0) := by
        intro j
        induction j with
        | zero =>
          intro k M' v x2 hk o' fx' hp h1 h2 h0 hd
          refine bs_X11_unit_58 hX ?_
          have zk : zr (k : Int) = k := zr_of (by omega) (by omega)
          have lk : ((k : Int) < 4) = False := eq_false (by omega)
          simp only [bk_X11_unit_0, k_X11_unit_0, bk_X11_unit_17, k_X11_unit_17, bk_X11_unit_23, k_X11_unit_23, bk_X11_unit_33, k_X11_unit_33, bk_X11_unit_53, k_X11_unit_53, bk_X11_unit_58, k_X11_unit_58, bk_X11_unit_110, k_X11_unit_110, bk_X11_unit_119, k_X11_unit_119, ↓e_rk1, ↓e_rk0, ↓e_sk0, ↓e_sks, ↓e_ldi0, ↓e_ldis, ↓e_ldl0, ↓e_ldls, ↓e_lda0, ↓e_ldas, ↓e_ok0, ↓e_okss, ↓e_ok1i, ↓e_ok1r, ↓e_ok1n, ↓e_sti, ↓e_sta, ↓e_1, ↓e_2, ↓e_l1, ↓e_l2, ↓e_li, ↓e_sw0, ↓e_sws, ↓e_ceq, ↓e_cne, ↓e_clt, ↓e_cge, ↓e_cgt, ↓e_cle, ↓e_nil, ↓e_cons, ↓e_iconst, ↓e_bipush, ↓e_sipush, ↓e_ldc, ↓e_ldcw, ↓e_ldc2, ↓e_lconst, ↓e_iloadn, ↓e_iload, ↓e_lloadn, ↓e_lload, ↓e_aloadn, ↓e_aload, ↓e_istoren, ↓e_istore, ↓e_astoren, ↓e_astore, ↓e_add, ↓e_iinc, ↓e_iadd, ↓e_isub, ↓e_imul, ↓e_iand, ↓e_ior, ↓e_ixor, ↓e_ishl, ↓e_iushr, ↓e_idiv, ↓e_irem, ↓e_ineg, ↓e_i2l, ↓e_i2b, ↓e_i2s, ↓e_l2i, ↓e_land, ↓e_lor, ↓e_lshl, ↓e_lshr, ↓e_lushr, ↓e_lcmp, ↓e_dupi, ↓e_dupr, ↓e_popi, ↓e_dup2, ↓e_goto, ↓e_if, ↓e_icmp, ↓e_tsw, ↓e_lsw, ↓e_getf, ↓e_putf, ↓e_gets, ↓e_iald, ↓e_cald, ↓e_iast, ↓e_aald, ↓e_aast, ↓e_len, ↓e_copy, ↓e_abs, ↓e_max, ↓e_min, ↓e_iret, ↓e_aret, ↓e_vret, ↓e_is0, ↓e_is1, ↓e_is2, ↓e_is3, ↓e_is4, ↓e_iv1, ↓e_iv2, ↓e_iv3, ↓e_iv4, ↓e_iv5, ↓e_iv6, ↓rt_X11_unit, ↓reduceIte, Nat.reduceAdd, Nat.reduceEqDiff, ↓zcl0, ↓zclv, List.map_nil, List.sum_nil, List.map_cons, List.sum_cons, zcat, true_and, and_true, Nat.reduceLeDiff, Nat.reduceAdd, eq_self, forall_const, e_ok0, e_okss, e_ok1i, e_ok1r, e_ok1n, zl_0, zl_1, zl_4, zl_10, zl_33, zl_40, zl_48, zl_10000, zq_48, zq_57, Int.reduceToNat, Int.reduceAdd, Int.reduceMul, Int.reduceSub, Int.reduceNeg, Int.reduceLT, Int.reduceLE, Int.reduceEq, not_false_eq_true, not_true_eq_false, false_implies, true_implies, implies_true, Int.reduceDiv, Int.reduceMod, zr8_zr, zr_zbo, z01_zbo, z01_0, z01_1, zbo_eq0, zup_eq, zup_o, zup_k, ne_eq, ↓ct_run_here, ↓r_here, ↓B_here, ↓ct_run_nameOf, ↓r_nameOf, ↓B_nameOf, ↓ct_run_lay, ↓r_lay, ↓B_lay, ↓ct_run_in, ↓r_in, ↓B_in, ↓ct_run_wrong, ↓r_wrong, ↓B_wrong, ↓ct_run_rop, ↓r_rop, ↓B_rop, ↓v_87, ↓g_87_0, ↓l_88, ↓s_88, ↓n_88, ↓g_87_1, ↓l_89, ↓s_89, ↓n_89, ↓g_87_2, ↓l_90, ↓s_90, ↓n_90, ↓g_87_3, ↓p_87_3, ↓g_87_4, ↓l_91, ↓s_91, ↓n_91, ↓g_87_5, ↓p_87_5, ↓g_87_6, ↓p_87_6, ↓g_87_7, ↓p_87_7, ↓g_87_8, ↓p_87_8, ↓g_87_9, ↓p_87_9, ↓g_87_10, ↓p_87_10, ↓g_87_11, ↓l_92, ↓s_92, ↓n_92, ↓g_87_12, ↓l_93, ↓s_93, ↓n_93, ↓g_87_13, ↓p_87_13, ↓g_87_14, ↓l_94, ↓s_94, ↓n_94, ↓g_87_15, ↓p_87_15, ↓g_87_16, ↓l_95, ↓s_95, ↓n_95, ↓g_87_17, ↓l_96, ↓s_96, ↓n_96, ↓g_87_18, ↓l_97, ↓s_97, ↓n_97, ↓g_87_19, ↓p_87_19, ↓g_87_20, ↓p_87_20, ↓g_87_21, ↓l_98, ↓s_98, ↓n_98, ↓g_87_22, ↓l_99, ↓s_99, ↓n_99, ↓g_87_23, ↓l_100, ↓s_100, ↓n_100, ↓g_87_24, ↓l_101, ↓s_101, ↓n_101, ↓rdC, zk, lk]
          exact J110 k M' v _ (by omega) o' fx' hp h1 h2 (fun e => by omega) hd
        | succ j ih =>
          intro k M' v x2 hk o' fx' hp h1 h2 h0 hd
          refine bs_X11_unit_58 hX ?_
          have zk : zr (k : Int) = k := zr_of (by omega) (by omega)
          have lk : ((k : Int) < 4) = True := eq_true (by omega)
          have hr' := hre_rg o'
          have ep : pdg (tT M) (tn M) (j + 1) v (sP M') = if 48 ≤ hre (tT M) (tn M) (sP M') ∧ hre (tT M) (tn M) (sP M') ≤ 57 then pdg (tT M) (tn M) j (10 * v + hre (tT M) (tn M) (sP M') - 48) (adv (sP M')) else (v, sP M') := rfl
          rw [ep] at hp
          have eH : hre (tT M') (tn M') (sP M') = hre (tT M) (tn M) (sP M') := by rw [fx'.eT, fx'.eN]
          rw [eH] at hr'
          have k0 : k = 0 → hre (tT M) (tn M) (sP M') = H := fun e => by rw [h0 e, hH]
          obtain ⟨H', hH'⟩ : ∃ H', hre (tT M) (tn M) (sP M') = H' := ⟨_, rfl⟩
          rw [hH'] at hp eH hr' k0
          have z' := zr_rg hr'
          have z8 := zr8_rg hr'
          simp only [bk_X11_unit_0, k_X11_unit_0, bk_X11_unit_17, k_X11_unit_17, bk_X11_unit_23, k_X11_unit_23, bk_X11_unit_33, k_X11_unit_33, bk_X11_unit_53, k_X11_unit_53, bk_X11_unit_58, k_X11_unit_58, bk_X11_unit_110, k_X11_unit_110, bk_X11_unit_119, k_X11_unit_119, ↓e_rk1, ↓e_rk0, ↓e_sk0, ↓e_sks, ↓e_ldi0, ↓e_ldis, ↓e_ldl0, ↓e_ldls, ↓e_lda0, ↓e_ldas, ↓e_ok0, ↓e_okss, ↓e_ok1i, ↓e_ok1r, ↓e_ok1n, ↓e_sti, ↓e_sta, ↓e_1, ↓e_2, ↓e_l1, ↓e_l2, ↓e_li, ↓e_sw0, ↓e_sws, ↓e_ceq, ↓e_cne, ↓e_clt, ↓e_cge, ↓e_cgt, ↓e_cle, ↓e_nil, ↓e_cons, ↓e_iconst, ↓e_bipush, ↓e_sipush, ↓e_ldc, ↓e_ldcw, ↓e_ldc2, ↓e_lconst, ↓e_iloadn, ↓e_iload, ↓e_lloadn, ↓e_lload, ↓e_aloadn, ↓e_aload, ↓e_istoren, ↓e_istore, ↓e_astoren, ↓e_astore, ↓e_add, ↓e_iinc, ↓e_iadd, ↓e_isub, ↓e_imul, ↓e_iand, ↓e_ior, ↓e_ixor, ↓e_ishl, ↓e_iushr, ↓e_idiv, ↓e_irem, ↓e_ineg, ↓e_i2l, ↓e_i2b, ↓e_i2s, ↓e_l2i, ↓e_land, ↓e_lor, ↓e_lshl, ↓e_lshr, ↓e_lushr, ↓e_lcmp, ↓e_dupi, ↓e_dupr, ↓e_popi, ↓e_dup2, ↓e_goto, ↓e_if, ↓e_icmp, ↓e_tsw, ↓e_lsw, ↓e_getf, ↓e_putf, ↓e_gets, ↓e_iald, ↓e_cald, ↓e_iast, ↓e_aald, ↓e_aast, ↓e_len, ↓e_copy, ↓e_abs, ↓e_max, ↓e_min, ↓e_iret, ↓e_aret, ↓e_vret, ↓e_is0, ↓e_is1, ↓e_is2, ↓e_is3, ↓e_is4, ↓e_iv1, ↓e_iv2, ↓e_iv3, ↓e_iv4, ↓e_iv5, ↓e_iv6, ↓rt_X11_unit, ↓reduceIte, Nat.reduceAdd, Nat.reduceEqDiff, ↓zcl0, ↓zclv, List.map_nil, List.sum_nil, List.map_cons, List.sum_cons, zcat, true_and, and_true, Nat.reduceLeDiff, Nat.reduceAdd, eq_self, forall_const, e_ok0, e_okss, e_ok1i, e_ok1r, e_ok1n, zl_0, zl_1, zl_4, zl_10, zl_33, zl_40, zl_48, zl_10000, zq_48, zq_57, Int.reduceToNat, Int.reduceAdd, Int.reduceMul, Int.reduceSub, Int.reduceNeg, Int.reduceLT, Int.reduceLE, Int.reduceEq, not_false_eq_true, not_true_eq_false, false_implies, true_implies, implies_true, Int.reduceDiv, Int.reduceMod, zr8_zr, zr_zbo, z01_zbo, z01_0, z01_1, zbo_eq0, zup_eq, zup_o, zup_k, ne_eq, ↓ct_run_here, ↓r_here, ↓B_here, ↓ct_run_nameOf, ↓r_nameOf, ↓B_nameOf, ↓ct_run_lay, ↓r_lay, ↓B_lay, ↓ct_run_in, ↓r_in, ↓B_in, ↓ct_run_wrong, ↓r_wrong, ↓B_wrong, ↓ct_run_rop, ↓r_rop, ↓B_rop, ↓v_87, ↓g_87_0, ↓l_88, ↓s_88, ↓n_88, ↓g_87_1, ↓l_89, ↓s_89, ↓n_89, ↓g_87_2, ↓l_90, ↓s_90, ↓n_90, ↓g_87_3, ↓p_87_3, ↓g_87_4, ↓l_91, ↓s_91, ↓n_91, ↓g_87_5, ↓p_87_5, ↓g_87_6, ↓p_87_6, ↓g_87_7, ↓p_87_7, ↓g_87_8, ↓p_87_8, ↓g_87_9, ↓p_87_9, ↓g_87_10, ↓p_87_10, ↓g_87_11, ↓l_92, ↓s_92, ↓n_92, ↓g_87_12, ↓l_93, ↓s_93, ↓n_93, ↓g_87_13, ↓p_87_13, ↓g_87_14, ↓l_94, ↓s_94, ↓n_94, ↓g_87_15, ↓p_87_15, ↓g_87_16, ↓l_95, ↓s_95, ↓n_95, ↓g_87_17, ↓l_96, ↓s_96, ↓n_96, ↓g_87_18, ↓l_97, ↓s_97, ↓n_97, ↓g_87_19, ↓p_87_19, ↓g_87_20, ↓p_87_20, ↓g_87_21, ↓l_98, ↓s_98, ↓n_98, ↓g_87_22, ↓l_99, ↓s_99, ↓n_99, ↓g_87_23, ↓l_100, ↓s_100, ↓n_100, ↓g_87_24, ↓l_101, ↓s_101, ↓n_101, ↓rdC, zk, lk, eH, z', z8, zr_zbo, zbo_eq0]
          refine ⟨o', fun c => ?_, fun c => ⟨o', ?_⟩⟩
          · rw [if_neg c] at hp
            refine J110 k M' v _ (by omega) o' fx' hp h1 h2 (fun e => ⟨h0 e, ?_⟩) hd
            rw [← k0 e]; exact c
          · have c' : 48 ≤ H' ∧ H' ≤ 57 := by omega
            rw [if_pos c'] at hp
            have hn := hre_nn (T := tT M) (n := tn M) (s := sP M') (by rw [hH']; omega)
            obtain ⟨a1, a2, a3⟩ := adv_M o' (by rw [fx'.eN]; exact hn.1)
            have e1 : (adv (sP M')).1 = (sP M').1 + 1 := rfl
            have e2 : (adv (sP M')).2 = (sP M').2 := rfl
            refine ih (k + 1) _ _ _ (by omega) a2 (fx'.trans a3) (by rw [a1]; exact hp) (by rw [a1]; omega) (by rw [a1, e2, h2]) (fun e => by omega) (fun _ => ?_)
            by_cases qk : k = 0
            · rw [← k0 qk]; exact c'
            · exact hd (by omega)
      refine bs_X11_unit_53 hX ?_
      simp only [bk_X11_unit_0, k_X11_unit_0, bk_X11_unit_17, k_X11_unit_17, bk_X11_unit_23, k_X11_unit_23, bk_X11_unit_33, k_X11_unit_33, bk_X11_unit_53, k_X11_unit_53, bk_X11_unit_58, k_X11_unit_58, bk_X11_unit_110, k_X11_unit_110, bk_X11_unit_119, k_X11_unit_119, ↓e_rk1, ↓e_rk0, ↓e_sk0, ↓e_sks, ↓e_ldi0, ↓e_ldis, ↓e_ldl0, ↓e_ldls, ↓e_lda0, ↓e_ldas, ↓e_ok0, ↓e_okss, ↓e_ok1i, ↓e_ok1r, ↓e_ok1n, ↓e_sti, ↓e_sta, ↓e_1, ↓e_2, ↓e_l1, ↓e_l2, ↓e_li, ↓e_sw0, ↓e_sws, ↓e_ceq, ↓e_cne, ↓e_clt, ↓e_cge, ↓e_cgt, ↓e_cle, ↓e_nil, ↓e_cons, ↓e_iconst, ↓e_bipush, ↓e_sipush, ↓e_ldc, ↓e_ldcw, ↓e_ldc2, ↓e_lconst, ↓e_iloadn, ↓e_iload, ↓e_lloadn, ↓e_lload, ↓e_aloadn, ↓e_aload, ↓e_istoren, ↓e_istore, ↓e_astoren, ↓e_astore, ↓e_add, ↓e_iinc, ↓e_iadd, ↓e_isub, ↓e_imul, ↓e_iand, ↓e_ior, ↓e_ixor, ↓e_ishl, ↓e_iushr, ↓e_idiv, ↓e_irem, ↓e_ineg, ↓e_i2l, ↓e_i2b, ↓e_i2s, ↓e_l2i, ↓e_land, ↓e_lor, ↓e_lshl, ↓e_lshr, ↓e_lushr, ↓e_lcmp, ↓e_dupi, ↓e_dupr, ↓e_popi, ↓e_dup2, ↓e_goto, ↓e_if, ↓e_icmp, ↓e_tsw, ↓e_lsw, ↓e_getf, ↓e_putf, ↓e_gets, ↓e_iald, ↓e_cald, ↓e_iast, ↓e_aald, ↓e_aast, ↓e_len, ↓e_copy, ↓e_abs, ↓e_max, ↓e_min, ↓e_iret, ↓e_aret, ↓e_vret, ↓e_is0, ↓e_is1, ↓e_is2, ↓e_is3, ↓e_is4, ↓e_iv1, ↓e_iv2, ↓e_iv3, ↓e_iv4, ↓e_iv5, ↓e_iv6, ↓rt_X11_unit, ↓reduceIte, Nat.reduceAdd, Nat.reduceEqDiff, ↓zcl0, ↓zclv, List.map_nil, List.sum_nil, List.map_cons, List.sum_cons, zcat, true_and, and_true, Nat.reduceLeDiff, Nat.reduceAdd, eq_self, forall_const, e_ok0, e_okss, e_ok1i, e_ok1r, e_ok1n, zl_0, zl_1, zl_4, zl_10, zl_33, zl_40, zl_48, zl_10000, zq_48, zq_57, Int.reduceToNat, Int.reduceAdd, Int.reduceMul, Int.reduceSub, Int.reduceNeg, Int.reduceLT, Int.reduceLE, Int.reduceEq, not_false_eq_true, not_true_eq_false, false_implies, true_implies, implies_true, Int.reduceDiv, Int.reduceMod, zr8_zr, zr_zbo, z01_zbo, z01_0, z01_1, zbo_eq0, zup_eq, zup_o, zup_k, ne_eq, ↓ct_run_here, ↓r_here, ↓B_here, ↓ct_run_nameOf, ↓r_nameOf, ↓B_nameOf, ↓ct_run_lay, ↓r_lay, ↓B_lay, ↓ct_run_in, ↓r_in, ↓B_in, ↓ct_run_wrong, ↓r_wrong, ↓B_wrong, ↓ct_run_rop, ↓r_rop, ↓B_rop, ↓v_87, ↓g_87_0, ↓l_88, ↓s_88, ↓n_88, ↓g_87_1, ↓l_89, ↓s_89, ↓n_89, ↓g_87_2, ↓l_90, ↓s_90, ↓n_90, ↓g_87_3, ↓p_87_3, ↓g_87_4, ↓l_91, ↓s_91, ↓n_91, ↓g_87_5, ↓p_87_5, ↓g_87_6, ↓p_87_6, ↓g_87_7, ↓p_87_7, ↓g_87_8, ↓p_87_8, ↓g_87_9, ↓p_87_9, ↓g_87_10, ↓p_87_10, ↓g_87_11, ↓l_92, ↓s_92, ↓n_92, ↓g_87_12, ↓l_93, ↓s_93, ↓n_93, ↓g_87_13, ↓p_87_13, ↓g_87_14, ↓l_94, ↓s_94, ↓n_94, ↓g_87_15, ↓p_87_15, ↓g_87_16, ↓l_95, ↓s_95, ↓n_95, ↓g_87_17, ↓l_96, ↓s_96, ↓n_96, ↓g_87_18, ↓l_97, ↓s_97, ↓n_97, ↓g_87_19, ↓p_87_19, ↓g_87_20, ↓p_87_20, ↓g_87_21, ↓l_98, ↓s_98, ↓n_98, ↓g_87_22, ↓l_99, ↓s_99, ↓n_99, ↓g_87_23, ↓l_100, ↓s_100, ↓n_100, ↓g_87_24, ↓l_101, ↓s_101, ↓n_101, ↓rdC]
      exact lp 4 0 M 0 _ (by omega) ho Fx.rf rfl rfl rfl (fun _ => rfl) (fun e => by omega)
    have J23 : ¬ (H = 33 ∨ H = 40) → X 23 [some (.inr (.inr (.inl 87))), some (.inl H), none, none, none] [] (zG, M) (0, 0) := by
      intro q
      refine bs_X11_unit_23 hX ?_
      simp only [bk_X11_unit_0, k_X11_unit_0, bk_X11_unit_17, k_X11_unit_17, bk_X11_unit_23, k_X11_unit_23, bk_X11_unit_33, k_X11_unit_33, bk_X11_unit_53, k_X11_unit_53, bk_X11_unit_58, k_X11_unit_58, bk_X11_unit_110, k_X11_unit_110, bk_X11_unit_119, k_X11_unit_119, ↓e_rk1, ↓e_rk0, ↓e_sk0, ↓e_sks, ↓e_ldi0, ↓e_ldis, ↓e_ldl0, ↓e_ldls, ↓e_lda0, ↓e_ldas, ↓e_ok0, ↓e_okss, ↓e_ok1i, ↓e_ok1r, ↓e_ok1n, ↓e_sti, ↓e_sta, ↓e_1, ↓e_2, ↓e_l1, ↓e_l2, ↓e_li, ↓e_sw0, ↓e_sws, ↓e_ceq, ↓e_cne, ↓e_clt, ↓e_cge, ↓e_cgt, ↓e_cle, ↓e_nil, ↓e_cons, ↓e_iconst, ↓e_bipush, ↓e_sipush, ↓e_ldc, ↓e_ldcw, ↓e_ldc2, ↓e_lconst, ↓e_iloadn, ↓e_iload, ↓e_lloadn, ↓e_lload, ↓e_aloadn, ↓e_aload, ↓e_istoren, ↓e_istore, ↓e_astoren, ↓e_astore, ↓e_add, ↓e_iinc, ↓e_iadd, ↓e_isub, ↓e_imul, ↓e_iand, ↓e_ior, ↓e_ixor, ↓e_ishl, ↓e_iushr, ↓e_idiv, ↓e_irem, ↓e_ineg, ↓e_i2l, ↓e_i2b, ↓e_i2s, ↓e_l2i, ↓e_land, ↓e_lor, ↓e_lshl, ↓e_lshr, ↓e_lushr, ↓e_lcmp, ↓e_dupi, ↓e_dupr, ↓e_popi, ↓e_dup2, ↓e_goto, ↓e_if, ↓e_icmp, ↓e_tsw, ↓e_lsw, ↓e_getf, ↓e_putf, ↓e_gets, ↓e_iald, ↓e_cald, ↓e_iast, ↓e_aald, ↓e_aast, ↓e_len, ↓e_copy, ↓e_abs, ↓e_max, ↓e_min, ↓e_iret, ↓e_aret, ↓e_vret, ↓e_is0, ↓e_is1, ↓e_is2, ↓e_is3, ↓e_is4, ↓e_iv1, ↓e_iv2, ↓e_iv3, ↓e_iv4, ↓e_iv5, ↓e_iv6, ↓rt_X11_unit, ↓reduceIte, Nat.reduceAdd, Nat.reduceEqDiff, ↓zcl0, ↓zclv, List.map_nil, List.sum_nil, List.map_cons, List.sum_cons, zcat, true_and, and_true, Nat.reduceLeDiff, Nat.reduceAdd, eq_self, forall_const, e_ok0, e_okss, e_ok1i, e_ok1r, e_ok1n, zl_0, zl_1, zl_4, zl_10, zl_33, zl_40, zl_48, zl_10000, zq_48, zq_57, Int.reduceToNat, Int.reduceAdd, Int.reduceMul, Int.reduceSub, Int.reduceNeg, Int.reduceLT, Int.reduceLE, Int.reduceEq, not_false_eq_true, not_true_eq_false, false_implies, true_implies, implies_true, Int.reduceDiv, Int.reduceMod, zr8_zr, zr_zbo, z01_zbo, z01_0, z01_1, zbo_eq0, zup_eq, zup_o, zup_k, ne_eq, ↓ct_run_here, ↓r_here, ↓B_here, ↓ct_run_nameOf, ↓r_nameOf, ↓B_nameOf, ↓ct_run_lay, ↓r_lay, ↓B_lay, ↓ct_run_in, ↓r_in, ↓B_in, ↓ct_run_wrong, ↓r_wrong, ↓B_wrong, ↓ct_run_rop, ↓r_rop, ↓B_rop, ↓v_87, ↓g_87_0, ↓l_88, ↓s_88, ↓n_88, ↓g_87_1, ↓l_89, ↓s_89, ↓n_89, ↓g_87_2, ↓l_90, ↓s_90, ↓n_90, ↓g_87_3, ↓p_87_3, ↓g_87_4, ↓l_91, ↓s_91, ↓n_91, ↓g_87_5, ↓p_87_5, ↓g_87_6, ↓p_87_6, ↓g_87_7, ↓p_87_7, ↓g_87_8, ↓p_87_8, ↓g_87_9, ↓p_87_9, ↓g_87_10, ↓p_87_10, ↓g_87_11, ↓l_92, ↓s_92, ↓n_92, ↓g_87_12, ↓l_93, ↓s_93, ↓n_93, ↓g_87_13, ↓p_87_13, ↓g_87_14, ↓l_94, ↓s_94, ↓n_94, ↓g_87_15, ↓p_87_15, ↓g_87_16, ↓l_95, ↓s_95, ↓n_95, ↓g_87_17, ↓l_96, ↓s_96, ↓n_96, ↓g_87_18, ↓l_97, ↓s_97, ↓n_97, ↓g_87_19, ↓p_87_19, ↓g_87_20, ↓p_87_20, ↓g_87_21, ↓l_98, ↓s_98, ↓n_98, ↓g_87_22, ↓l_99, ↓s_99, ↓n_99, ↓g_87_23, ↓l_100, ↓s_100, ↓n_100, ↓g_87_24, ↓l_101, ↓s_101, ↓n_101, ↓rdC, zn]
      refine ⟨hr, hu, fun c => ?_, fun c => ?_⟩
      · first | exact J53 q (by omega) | exact J33 q (by omega)
      · first | exact J53 q (by omega) | exact J33 q (by omega)
    simp only [bk_X11_unit_0, k_X11_unit_0, bk_X11_unit_17, k_X11_unit_17, bk_X11_unit_23, k_X11_unit_23, bk_X11_unit_33, k_X11_unit_33, bk_X11_unit_53, k_X11_unit_53, bk_X11_unit_58, k_X11_unit_58, bk_X11_unit_110, k_X11_unit_110, bk_X11_unit_119, k_X11_unit_119, ↓e_rk1, ↓e_rk0, ↓e_sk0, ↓e_sks, ↓e_ldi0, ↓e_ldis, ↓e_ldl0, ↓e_ldls, ↓e_lda0, ↓e_ldas, ↓e_ok0, ↓e_okss, ↓e_ok1i, ↓e_ok1r, ↓e_ok1n, ↓e_sti, ↓e_sta, ↓e_1, ↓e_2, ↓e_l1, ↓e_l2, ↓e_li, ↓e_sw0, ↓e_sws, ↓e_ceq, ↓e_cne, ↓e_clt, ↓e_cge, ↓e_cgt, ↓e_cle, ↓e_nil, ↓e_cons, ↓e_iconst, ↓e_bipush, ↓e_sipush, ↓e_ldc, ↓e_ldcw, ↓e_ldc2, ↓e_lconst, ↓e_iloadn, ↓e_iload, ↓e_lloadn, ↓e_lload, ↓e_aloadn, ↓e_aload, ↓e_istoren, ↓e_istore, ↓e_astoren, ↓e_astore, ↓e_add, ↓e_iinc, ↓e_iadd, ↓e_isub, ↓e_imul, ↓e_iand, ↓e_ior, ↓e_ixor, ↓e_ishl, ↓e_iushr, ↓e_idiv, ↓e_irem, ↓e_ineg, ↓e_i2l, ↓e_i2b, ↓e_i2s, ↓e_l2i, ↓e_land, ↓e_lor, ↓e_lshl, ↓e_lshr, ↓e_lushr, ↓e_lcmp, ↓e_dupi, ↓e_dupr, ↓e_popi, ↓e_dup2, ↓e_goto, ↓e_if, ↓e_icmp, ↓e_tsw, ↓e_lsw, ↓e_getf, ↓e_putf, ↓e_gets, ↓e_iald, ↓e_cald, ↓e_iast, ↓e_aald, ↓e_aast, ↓e_len, ↓e_copy, ↓e_abs, ↓e_max, ↓e_min, ↓e_iret, ↓e_aret, ↓e_vret, ↓e_is0, ↓e_is1, ↓e_is2, ↓e_is3, ↓e_is4, ↓e_iv1, ↓e_iv2, ↓e_iv3, ↓e_iv4, ↓e_iv5, ↓e_iv6, ↓rt_X11_unit, ↓reduceIte, Nat.reduceAdd, Nat.reduceEqDiff, ↓zcl0, ↓zclv, List.map_nil, List.sum_nil, List.map_cons, List.sum_cons, zcat, true_and, and_true, Nat.reduceLeDiff, Nat.reduceAdd, eq_self, forall_const, e_ok0, e_okss, e_ok1i, e_ok1r, e_ok1n, zl_0, zl_1, zl_4, zl_10, zl_33, zl_40, zl_48, zl_10000, zq_48, zq_57, Int.reduceToNat, Int.reduceAdd, Int.reduceMul, Int.reduceSub, Int.reduceNeg, Int.reduceLT, Int.reduceLE, Int.reduceEq, not_false_eq_true, not_true_eq_false, false_implies, true_implies, implies_true, Int.reduceDiv, Int.reduceMod, zr8_zr, zr_zbo, z01_zbo, z01_0, z01_1, zbo_eq0, zup_eq, zup_o, zup_k, ne_eq, ↓ct_run_here, ↓r_here, ↓B_here, ↓ct_run_nameOf, ↓r_nameOf, ↓B_nameOf, ↓ct_run_lay, ↓r_lay, ↓B_lay, ↓ct_run_in, ↓r_in, ↓B_in, ↓ct_run_wrong, ↓r_wrong, ↓B_wrong, ↓ct_run_rop, ↓r_rop, ↓B_rop, ↓v_87, ↓g_87_0, ↓l_88, ↓s_88, ↓n_88, ↓g_87_1, ↓l_89, ↓s_89, ↓n_89, ↓g_87_2, ↓l_90, ↓s_90, ↓n_90, ↓g_87_3, ↓p_87_3, ↓g_87_4, ↓l_91, ↓s_91, ↓n_91, ↓g_87_5, ↓p_87_5, ↓g_87_6, ↓p_87_6, ↓g_87_7, ↓p_87_7, ↓g_87_8, ↓p_87_8, ↓g_87_9, ↓p_87_9, ↓g_87_10, ↓p_87_10, ↓g_87_11, ↓l_92, ↓s_92, ↓n_92, ↓g_87_12, ↓l_93, ↓s_93, ↓n_93, ↓g_87_13, ↓p_87_13, ↓g_87_14, ↓l_94, ↓s_94, ↓n_94, ↓g_87_15, ↓p_87_15, ↓g_87_16, ↓l_95, ↓s_95, ↓n_95, ↓g_87_17, ↓l_96, ↓s_96, ↓n_96, ↓g_87_18, ↓l_97, ↓s_97, ↓n_97, ↓g_87_19, ↓p_87_19, ↓g_87_20, ↓p_87_20, ↓g_87_21, ↓l_98, ↓s_98, ↓n_98, ↓g_87_22, ↓l_99, ↓s_99, ↓n_99, ↓g_87_23, ↓l_100, ↓s_100, ↓n_100, ↓g_87_24, ↓l_101, ↓s_101, ↓n_101, ↓rdC, hH, zh]
    refine ⟨ho, fun c => J17 (Or.inl c), fun c => ⟨fun c2 => ?_, fun c2 => ?_⟩⟩
    · first | exact J17 (Or.inr c2) | exact J23 (by omega)
    · first | exact J17 (Or.inr c2) | exact J23 (by omega)
def ct_rpr (r : Nat) : Nat → ZC := fun n => if n = 132 then C_here else if n = 134 then C_takes else if n = 136 then C_lay else if n = 143 then C_run (r) else fun _ _ _ => False
theorem ct_rpr_here {r : Nat} {as : List ZV} {h : ZH} {post : Option ZV → ZH → Prop} : ct_rpr r 132 as h post = C_here as h post := rfl
theorem ct_rpr_takes {r : Nat} {as : List ZV} {h : ZH} {post : Option ZV → ZH → Prop} : ct_rpr r 134 as h post = C_takes as h post := rfl
theorem ct_rpr_lay {r : Nat} {as : List ZV} {h : ZH} {post : Option ZV → ZH → Prop} : ct_rpr r 136 as h post = C_lay as h post := rfl
theorem ct_rpr_run {r : Nat} {as : List ZV} {h : ZH} {post : Option ZV → ZH → Prop} : ct_rpr r 143 as h post = C_run (r) as h post := rfl
theorem c_rpr {E : ZE} {d : Nat} {r : Nat} (hd : 3 ≤ d) (i_run : ∃ d', d' < d ∧ zMet E d' mX11_unit (C_run (r))) : zMet E d mX11_product (C_rpr (r)) := by
  refine zmet_of (o := 11) (ini := false) (CT := ct_rpr r) gd_X11_product rfl (fun h => by cases h) (by omega) ?_ ?_
  · intro n as h post hh
    unfold ct_rpr at hh
    by_cases c : n = 132
    · subst c; exact ⟨gd_X11_here, 1, by omega, c_here (by omega)⟩
    rw [if_neg c] at hh
    by_cases c : n = 134
    · subst c; exact ⟨gd_X11_takes, 2, by omega, c_takes (by omega)⟩
    rw [if_neg c] at hh
    by_cases c : n = 136
    · subst c; exact ⟨gd_X11_lay, 1, by omega, c_lay (by omega)⟩
    rw [if_neg c] at hh
    by_cases c : n = 143
    · subst c; exact ⟨gd_X11_unit, i_run⟩
    rw [if_neg c] at hh
    exact hh.elim
  intro as h post hC
  match as, hC with
  | [.inr (.inr (.inl 87))], hC =>
    refine ⟨Nat.le_of_ble_eq_true rfl, fun X hX => bs_X11_product_0 hX ?_⟩
    obtain ⟨G, M⟩ := h
    obtain ⟨hG, hC⟩ := hC
    dsimp only at hG
    subst hG
    simp only [B_rpr, rdC] at hC
    show bk_X11_product_0 E (ct_rpr r) X _ [some (.inr (.inr (.inl 87))), none] [] (zG, M) (0, 0)
    obtain ⟨ho, op, hC⟩ := hC
    have gd : Gd (tn M) (pnt (tT M) (tn M) (M 87 10) r) := Gd_pnt r
    obtain ⟨f, hf⟩ : ∃ f, (pnt (tT M) (tn M) (M 87 10) r) = f := ⟨_, rfl⟩
    rw [hf] at gd
    have fin : ∀ (M' : ZMm), okM M' → Fx M M' → sP M' = plw (tT M) (tn M) f 4 50 (sP M) → post none (zG, M') := by
      intro M' o' fx' e
      rw [← hf] at e
      exact hC M' e o' fx'
    have lp : ∀ (m : Nat) (M' : ZMm) (x1 : Option ZV), okM M' → Fx M M' → tn M ≤ (sP M').1 + m → plp (tT M) (tn M) f 4 m (sP M') = plw (tT M) (tn M) f 4 50 (sP M) → X 4 [some (.inr (.inr (.inl 87))), x1] [] (zG, M') (0, 0) := by
      intro m
      induction m with
      | zero =>
        intro M' x1 o' fx' hm hp
        refine bs_X11_product_4 hX ?_
        have eH : hre (tT M') (tn M') (sP M') = -1 := by
          rw [fx'.eT, fx'.eN]
          unfold hre
          rw [if_neg (by omega)]
        simp only [bk_X11_product_0, k_X11_product_0, bk_X11_product_4, k_X11_product_4, bk_X11_product_31, k_X11_product_31, bk_X11_product_62, k_X11_product_62, ↓e_rk1, ↓e_rk0, ↓e_sk0, ↓e_sks, ↓e_ldi0, ↓e_ldis, ↓e_ldl0, ↓e_ldls, ↓e_lda0, ↓e_ldas, ↓e_ok0, ↓e_okss, ↓e_ok1i, ↓e_ok1r, ↓e_ok1n, ↓e_sti, ↓e_sta, ↓e_1, ↓e_2, ↓e_l1, ↓e_l2, ↓e_li, ↓e_sw0, ↓e_sws, ↓e_ceq, ↓e_cne, ↓e_clt, ↓e_cge, ↓e_cgt, ↓e_cle, ↓e_nil, ↓e_cons, ↓e_iconst, ↓e_bipush, ↓e_sipush, ↓e_ldc, ↓e_ldcw, ↓e_ldc2, ↓e_lconst, ↓e_iloadn, ↓e_iload, ↓e_lloadn, ↓e_lload, ↓e_aloadn, ↓e_aload, ↓e_istoren, ↓e_istore, ↓e_astoren, ↓e_astore, ↓e_add, ↓e_iinc, ↓e_iadd, ↓e_isub, ↓e_imul, ↓e_iand, ↓e_ior, ↓e_ixor, ↓e_ishl, ↓e_iushr, ↓e_idiv, ↓e_irem, ↓e_ineg, ↓e_i2l, ↓e_i2b, ↓e_i2s, ↓e_l2i, ↓e_land, ↓e_lor, ↓e_lshl, ↓e_lshr, ↓e_lushr, ↓e_lcmp, ↓e_dupi, ↓e_dupr, ↓e_popi, ↓e_dup2, ↓e_goto, ↓e_if, ↓e_icmp, ↓e_tsw, ↓e_lsw, ↓e_getf, ↓e_putf, ↓e_gets, ↓e_iald, ↓e_cald, ↓e_iast, ↓e_aald, ↓e_aast, ↓e_len, ↓e_copy, ↓e_abs, ↓e_max, ↓e_min, ↓e_iret, ↓e_aret, ↓e_vret, ↓e_is0, ↓e_is1, ↓e_is2, ↓e_is3, ↓e_is4, ↓e_iv1, ↓e_iv2, ↓e_iv3, ↓e_iv4, ↓e_iv5, ↓e_iv6, ↓rt_X11_product, ↓reduceIte, Nat.reduceAdd, Nat.reduceEqDiff, ↓zcl0, ↓zclv, List.map_nil, List.sum_nil, List.map_cons, List.sum_cons, zcat, true_and, and_true, Nat.reduceLeDiff, Nat.reduceAdd, eq_self, forall_const, e_ok0, e_okss, e_ok1i, e_ok1r, e_ok1n, zl_1, zl_37, zl_42, zl_47, zl_20000, Int.reduceToNat, Int.reduceAdd, Int.reduceMul, Int.reduceSub, Int.reduceNeg, Int.reduceLT, Int.reduceLE, Int.reduceEq, not_false_eq_true, not_true_eq_false, false_implies, true_implies, implies_true, Int.reduceDiv, Int.reduceMod, zr8_zr, zr_zbo, z01_zbo, z01_0, z01_1, zbo_eq0, zup_eq, zup_o, zup_k, ne_eq, ↓ct_rpr_here, ↓r_here, ↓B_here, ↓ct_rpr_takes, ↓r_takes, ↓B_takes, ↓ct_rpr_lay, ↓r_lay, ↓B_lay, ↓ct_rpr_run, ↓r_run, ↓B_run, ↓v_87, ↓g_87_0, ↓l_88, ↓s_88, ↓n_88, ↓g_87_1, ↓l_89, ↓s_89, ↓n_89, ↓g_87_2, ↓l_90, ↓s_90, ↓n_90, ↓g_87_3, ↓p_87_3, ↓g_87_4, ↓l_91, ↓s_91, ↓n_91, ↓g_87_5, ↓p_87_5, ↓g_87_6, ↓p_87_6, ↓g_87_7, ↓p_87_7, ↓g_87_8, ↓p_87_8, ↓g_87_9, ↓p_87_9, ↓g_87_10, ↓p_87_10, ↓g_87_11, ↓l_92, ↓s_92, ↓n_92, ↓g_87_12, ↓l_93, ↓s_93, ↓n_93, ↓g_87_13, ↓p_87_13, ↓g_87_14, ↓l_94, ↓s_94, ↓n_94, ↓g_87_15, ↓p_87_15, ↓g_87_16, ↓l_95, ↓s_95, ↓n_95, ↓g_87_17, ↓l_96, ↓s_96, ↓n_96, ↓g_87_18, ↓l_97, ↓s_97, ↓n_97, ↓g_87_19, ↓p_87_19, ↓g_87_20, ↓p_87_20, ↓g_87_21, ↓l_98, ↓s_98, ↓n_98, ↓g_87_22, ↓l_99, ↓s_99, ↓n_99, ↓g_87_23, ↓l_100, ↓s_100, ↓n_100, ↓g_87_24, ↓l_101, ↓s_101, ↓n_101, ↓rdC, eH, zl_0, zl_1]
        have r9 : X 62 [some (.inr (.inr (.inl 87))), x1] [] (zG, M') (0, 0) := by
          refine bs_X11_product_62 hX ?_
          simp only [bk_X11_product_0, k_X11_product_0, bk_X11_product_4, k_X11_product_4, bk_X11_product_31, k_X11_product_31, bk_X11_product_62, k_X11_product_62, ↓e_rk1, ↓e_rk0, ↓e_sk0, ↓e_sks, ↓e_ldi0, ↓e_ldis, ↓e_ldl0, ↓e_ldls, ↓e_lda0, ↓e_ldas, ↓e_ok0, ↓e_okss, ↓e_ok1i, ↓e_ok1r, ↓e_ok1n, ↓e_sti, ↓e_sta, ↓e_1, ↓e_2, ↓e_l1, ↓e_l2, ↓e_li, ↓e_sw0, ↓e_sws, ↓e_ceq, ↓e_cne, ↓e_clt, ↓e_cge, ↓e_cgt, ↓e_cle, ↓e_nil, ↓e_cons, ↓e_iconst, ↓e_bipush, ↓e_sipush, ↓e_ldc, ↓e_ldcw, ↓e_ldc2, ↓e_lconst, ↓e_iloadn, ↓e_iload, ↓e_lloadn, ↓e_lload, ↓e_aloadn, ↓e_aload, ↓e_istoren, ↓e_istore, ↓e_astoren, ↓e_astore, ↓e_add, ↓e_iinc, ↓e_iadd, ↓e_isub, ↓e_imul, ↓e_iand, ↓e_ior, ↓e_ixor, ↓e_ishl, ↓e_iushr, ↓e_idiv, ↓e_irem, ↓e_ineg, ↓e_i2l, ↓e_i2b, ↓e_i2s, ↓e_l2i, ↓e_land, ↓e_lor, ↓e_lshl, ↓e_lshr, ↓e_lushr, ↓e_lcmp, ↓e_dupi, ↓e_dupr, ↓e_popi, ↓e_dup2, ↓e_goto, ↓e_if, ↓e_icmp, ↓e_tsw, ↓e_lsw, ↓e_getf, ↓e_putf, ↓e_gets, ↓e_iald, ↓e_cald, ↓e_iast, ↓e_aald, ↓e_aast, ↓e_len, ↓e_copy, ↓e_abs, ↓e_max, ↓e_min, ↓e_iret, ↓e_aret, ↓e_vret, ↓e_is0, ↓e_is1, ↓e_is2, ↓e_is3, ↓e_is4, ↓e_iv1, ↓e_iv2, ↓e_iv3, ↓e_iv4, ↓e_iv5, ↓e_iv6, ↓rt_X11_product, ↓reduceIte, Nat.reduceAdd, Nat.reduceEqDiff, ↓zcl0, ↓zclv, List.map_nil, List.sum_nil, List.map_cons, List.sum_cons, zcat, true_and, and_true, Nat.reduceLeDiff, Nat.reduceAdd, eq_self, forall_const, e_ok0, e_okss, e_ok1i, e_ok1r, e_ok1n, zl_1, zl_37, zl_42, zl_47, zl_20000, Int.reduceToNat, Int.reduceAdd, Int.reduceMul, Int.reduceSub, Int.reduceNeg, Int.reduceLT, Int.reduceLE, Int.reduceEq, not_false_eq_true, not_true_eq_false, false_implies, true_implies, implies_true, Int.reduceDiv, Int.reduceMod, zr8_zr, zr_zbo, z01_zbo, z01_0, z01_1, zbo_eq0, zup_eq, zup_o, zup_k, ne_eq, ↓ct_rpr_here, ↓r_here, ↓B_here, ↓ct_rpr_takes, ↓r_takes, ↓B_takes, ↓ct_rpr_lay, ↓r_lay, ↓B_lay, ↓ct_rpr_run, ↓r_run, ↓B_run, ↓v_87, ↓g_87_0, ↓l_88, ↓s_88, ↓n_88, ↓g_87_1, ↓l_89, ↓s_89, ↓n_89, ↓g_87_2, ↓l_90, ↓s_90, ↓n_90, ↓g_87_3, ↓p_87_3, ↓g_87_4, ↓l_91, ↓s_91, ↓n_91, ↓g_87_5, ↓p_87_5, ↓g_87_6, ↓p_87_6, ↓g_87_7, ↓p_87_7, ↓g_87_8, ↓p_87_8, ↓g_87_9, ↓p_87_9, ↓g_87_10, ↓p_87_10, ↓g_87_11, ↓l_92, ↓s_92, ↓n_92, ↓g_87_12, ↓l_93, ↓s_93, ↓n_93, ↓g_87_13, ↓p_87_13, ↓g_87_14, ↓l_94, ↓s_94, ↓n_94, ↓g_87_15, ↓p_87_15, ↓g_87_16, ↓l_95, ↓s_95, ↓n_95, ↓g_87_17, ↓l_96, ↓s_96, ↓n_96, ↓g_87_18, ↓l_97, ↓s_97, ↓n_97, ↓g_87_19, ↓p_87_19, ↓g_87_20, ↓p_87_20, ↓g_87_21, ↓l_98, ↓s_98, ↓n_98, ↓g_87_22, ↓l_99, ↓s_99, ↓n_99, ↓g_87_23, ↓l_100, ↓s_100, ↓n_100, ↓g_87_24, ↓l_101, ↓s_101, ↓n_101, ↓rdC]
          exact fin M' o' fx' hp
        simp only [show zr (-1) = -1 from rfl, Int.reduceNeg, Int.reduceEq, not_false_eq_true, true_implies, false_implies, true_and, and_true, implies_true]
        repeat' (first | assumption | apply And.intro | intro _)
        all_goals first | exact o' | exact r9
      | succ m ih =>
        intro M' x1 o' fx' hm hp
        refine bs_X11_product_4 hX ?_
        have hr := hre_rg o'
        have eH : hre (tT M') (tn M') (sP M') = hre (tT M) (tn M) (sP M') := by rw [fx'.eT, fx'.eN]
        rw [eH] at hr
        have ep : plp (tT M) (tn M) f 4 (m + 1) (sP M') = if lvl (hre (tT M) (tn M) (sP M')) = 4 then plp (tT M) (tn M) f 4 m (lyy (20000 + hre (tT M) (tn M) (sP M')) (f (adv (sP M')))) else sP M' := rfl
        rw [ep] at hp
        have body : ∀ (H : Int), H = hre (tT M) (tn M) (sP M') → lvl H = 4 → ∀ M1 : ZMm, sP M1 = adv (sP M') → okM M1 → Fx M' M1 → ∀ M2 : ZMm, sP M2 = f (sP M1) → okM M2 → Fx M1 M2 → ((sP M2).2.1 < 0 → (sP M2).2.2.length < (sP M2).1) ∧ ∀ M3 : ZMm, sP M3 = lyy (20000 + H) (sP M2) → okM M3 → Fx M2 M3 → ∀ (x1 : Option ZV), X 4 [some (.inr (.inr (.inl 87))), x1] [] (zG, M3) (0, 0) := by
          intro H hH hl M1 e1 o1 fx1 M2 e2 o2 fx2
          rw [← hH, if_pos hl] at hp
          have ok1 := o1.1
          rw [fx1.eN, fx'.eN] at ok1
          obtain ⟨g1, g2, g3, g4, g5⟩ := gd (sP M1) ok1
          rw [← e2] at g2 g3
          have ea : (sP M1).1 = (sP M').1 + 1 := by rw [e1]; rfl
          have el : (sP M1).2.2 = (sP M').2.2 := by rw [e1]; rfl
          rw [el] at g3
          have hl' := o'.1.2.1
          refine ⟨fun _ => by omega, fun M3 e3 o3 fx3 x1 => ih M3 x1 o3 (((fx'.trans fx1).trans fx2).trans fx3) ?_ ?_⟩
          · have : (sP M3).1 = (sP M2).1 := by rw [e3]; unfold lyy; split <;> rfl
            omega
          · rw [e3, e2, e1]; exact hp
        have stop : ¬ lvl (hre (tT M) (tn M) (sP M')) = 4 → post none (zG, M') := by
          intro hl
          rw [if_neg hl] at hp
          exact fin M' o' fx' hp
        obtain ⟨H, hH⟩ : ∃ H, hre (tT M) (tn M) (sP M') = H := ⟨_, rfl⟩
        rw [hH] at hr eH stop body
        have zh := zr_rg hr
        have r9 : ¬ lvl H = 4 → X 62 [some (.inr (.inr (.inl 87))), x1] [] (zG, M') (0, 0) := by
          intro q
          refine bs_X11_product_62 hX ?_
          simp only [bk_X11_product_0, k_X11_product_0, bk_X11_product_4, k_X11_product_4, bk_X11_product_31, k_X11_product_31, bk_X11_product_62, k_X11_product_62, ↓e_rk1, ↓e_rk0, ↓e_sk0, ↓e_sks, ↓e_ldi0, ↓e_ldis, ↓e_ldl0, ↓e_ldls, ↓e_lda0, ↓e_ldas, ↓e_ok0, ↓e_okss, ↓e_ok1i, ↓e_ok1r, ↓e_ok1n, ↓e_sti, ↓e_sta, ↓e_1, ↓e_2, ↓e_l1, ↓e_l2, ↓e_li, ↓e_sw0, ↓e_sws, ↓e_ceq, ↓e_cne, ↓e_clt, ↓e_cge, ↓e_cgt, ↓e_cle, ↓e_nil, ↓e_cons, ↓e_iconst, ↓e_bipush, ↓e_sipush, ↓e_ldc, ↓e_ldcw, ↓e_ldc2, ↓e_lconst, ↓e_iloadn, ↓e_iload, ↓e_lloadn, ↓e_lload, ↓e_aloadn, ↓e_aload, ↓e_istoren, ↓e_istore, ↓e_astoren, ↓e_astore, ↓e_add, ↓e_iinc, ↓e_iadd, ↓e_isub, ↓e_imul, ↓e_iand, ↓e_ior, ↓e_ixor, ↓e_ishl, ↓e_iushr, ↓e_idiv, ↓e_irem, ↓e_ineg, ↓e_i2l, ↓e_i2b, ↓e_i2s, ↓e_l2i, ↓e_land, ↓e_lor, ↓e_lshl, ↓e_lshr, ↓e_lushr, ↓e_lcmp, ↓e_dupi, ↓e_dupr, ↓e_popi, ↓e_dup2, ↓e_goto, ↓e_if, ↓e_icmp, ↓e_tsw, ↓e_lsw, ↓e_getf, ↓e_putf, ↓e_gets, ↓e_iald, ↓e_cald, ↓e_iast, ↓e_aald, ↓e_aast, ↓e_len, ↓e_copy, ↓e_abs, ↓e_max, ↓e_min, ↓e_iret, ↓e_aret, ↓e_vret, ↓e_is0, ↓e_is1, ↓e_is2, ↓e_is3, ↓e_is4, ↓e_iv1, ↓e_iv2, ↓e_iv3, ↓e_iv4, ↓e_iv5, ↓e_iv6, ↓rt_X11_product, ↓reduceIte, Nat.reduceAdd, Nat.reduceEqDiff, ↓zcl0, ↓zclv, List.map_nil, List.sum_nil, List.map_cons, List.sum_cons, zcat, true_and, and_true, Nat.reduceLeDiff, Nat.reduceAdd, eq_self, forall_const, e_ok0, e_okss, e_ok1i, e_ok1r, e_ok1n, zl_1, zl_37, zl_42, zl_47, zl_20000, Int.reduceToNat, Int.reduceAdd, Int.reduceMul, Int.reduceSub, Int.reduceNeg, Int.reduceLT, Int.reduceLE, Int.reduceEq, not_false_eq_true, not_true_eq_false, false_implies, true_implies, implies_true, Int.reduceDiv, Int.reduceMod, zr8_zr, zr_zbo, z01_zbo, z01_0, z01_1, zbo_eq0, zup_eq, zup_o, zup_k, ne_eq, ↓ct_rpr_here, ↓r_here, ↓B_here, ↓ct_rpr_takes, ↓r_takes, ↓B_takes, ↓ct_rpr_lay, ↓r_lay, ↓B_lay, ↓ct_rpr_run, ↓r_run, ↓B_run, ↓v_87, ↓g_87_0, ↓l_88, ↓s_88, ↓n_88, ↓g_87_1, ↓l_89, ↓s_89, ↓n_89, ↓g_87_2, ↓l_90, ↓s_90, ↓n_90, ↓g_87_3, ↓p_87_3, ↓g_87_4, ↓l_91, ↓s_91, ↓n_91, ↓g_87_5, ↓p_87_5, ↓g_87_6, ↓p_87_6, ↓g_87_7, ↓p_87_7, ↓g_87_8, ↓p_87_8, ↓g_87_9, ↓p_87_9, ↓g_87_10, ↓p_87_10, ↓g_87_11, ↓l_92, ↓s_92, ↓n_92, ↓g_87_12, ↓l_93, ↓s_93, ↓n_93, ↓g_87_13, ↓p_87_13, ↓g_87_14, ↓l_94, ↓s_94, ↓n_94, ↓g_87_15, ↓p_87_15, ↓g_87_16, ↓l_95, ↓s_95, ↓n_95, ↓g_87_17, ↓l_96, ↓s_96, ↓n_96, ↓g_87_18, ↓l_97, ↓s_97, ↓n_97, ↓g_87_19, ↓p_87_19, ↓g_87_20, ↓p_87_20, ↓g_87_21, ↓l_98, ↓s_98, ↓n_98, ↓g_87_22, ↓l_99, ↓s_99, ↓n_99, ↓g_87_23, ↓l_100, ↓s_100, ↓n_100, ↓g_87_24, ↓l_101, ↓s_101, ↓n_101, ↓rdC]
          exact stop q
        have g9 : lvl H = 4 → X 31 [some (.inr (.inr (.inl 87))), x1] [] (zG, M') (0, 0) := by
          intro q
          have hn := hre_nn (T := tT M) (n := tn M) (s := sP M') (by rw [hH]; have := lvl_nn (c := H) (by omega); omega)
          obtain ⟨a1, a2, a3⟩ := adv_M o' (by rw [fx'.eN]; exact hn.1)
          refine bs_X11_product_31 hX ?_
          simp only [bk_X11_product_0, k_X11_product_0, bk_X11_product_4, k_X11_product_4, bk_X11_product_31, k_X11_product_31, bk_X11_product_62, k_X11_product_62, ↓e_rk1, ↓e_rk0, ↓e_sk0, ↓e_sks, ↓e_ldi0, ↓e_ldis, ↓e_ldl0, ↓e_ldls, ↓e_lda0, ↓e_ldas, ↓e_ok0, ↓e_okss, ↓e_ok1i, ↓e_ok1r, ↓e_ok1n, ↓e_sti, ↓e_sta, ↓e_1, ↓e_2, ↓e_l1, ↓e_l2, ↓e_li, ↓e_sw0, ↓e_sws, ↓e_ceq, ↓e_cne, ↓e_clt, ↓e_cge, ↓e_cgt, ↓e_cle, ↓e_nil, ↓e_cons, ↓e_iconst, ↓e_bipush, ↓e_sipush, ↓e_ldc, ↓e_ldcw, ↓e_ldc2, ↓e_lconst, ↓e_iloadn, ↓e_iload, ↓e_lloadn, ↓e_lload, ↓e_aloadn, ↓e_aload, ↓e_istoren, ↓e_istore, ↓e_astoren, ↓e_astore, ↓e_add, ↓e_iinc, ↓e_iadd, ↓e_isub, ↓e_imul, ↓e_iand, ↓e_ior, ↓e_ixor, ↓e_ishl, ↓e_iushr, ↓e_idiv, ↓e_irem, ↓e_ineg, ↓e_i2l, ↓e_i2b, ↓e_i2s, ↓e_l2i, ↓e_land, ↓e_lor, ↓e_lshl, ↓e_lshr, ↓e_lushr, ↓e_lcmp, ↓e_dupi, ↓e_dupr, ↓e_popi, ↓e_dup2, ↓e_goto, ↓e_if, ↓e_icmp, ↓e_tsw, ↓e_lsw, ↓e_getf, ↓e_putf, ↓e_gets, ↓e_iald, ↓e_cald, ↓e_iast, ↓e_aald, ↓e_aast, ↓e_len, ↓e_copy, ↓e_abs, ↓e_max, ↓e_min, ↓e_iret, ↓e_aret, ↓e_vret, ↓e_is0, ↓e_is1, ↓e_is2, ↓e_is3, ↓e_is4, ↓e_iv1, ↓e_iv2, ↓e_iv3, ↓e_iv4, ↓e_iv5, ↓e_iv6, ↓rt_X11_product, ↓reduceIte, Nat.reduceAdd, Nat.reduceEqDiff, ↓zcl0, ↓zclv, List.map_nil, List.sum_nil, List.map_cons, List.sum_cons, zcat, true_and, and_true, Nat.reduceLeDiff, Nat.reduceAdd, eq_self, forall_const, e_ok0, e_okss, e_ok1i, e_ok1r, e_ok1n, zl_1, zl_37, zl_42, zl_47, zl_20000, Int.reduceToNat, Int.reduceAdd, Int.reduceMul, Int.reduceSub, Int.reduceNeg, Int.reduceLT, Int.reduceLE, Int.reduceEq, not_false_eq_true, not_true_eq_false, false_implies, true_implies, implies_true, Int.reduceDiv, Int.reduceMod, zr8_zr, zr_zbo, z01_zbo, z01_0, z01_1, zbo_eq0, zup_eq, zup_o, zup_k, ne_eq, ↓ct_rpr_here, ↓r_here, ↓B_here, ↓ct_rpr_takes, ↓r_takes, ↓B_takes, ↓ct_rpr_lay, ↓r_lay, ↓B_lay, ↓ct_rpr_run, ↓r_run, ↓B_run, ↓v_87, ↓g_87_0, ↓l_88, ↓s_88, ↓n_88, ↓g_87_1, ↓l_89, ↓s_89, ↓n_89, ↓g_87_2, ↓l_90, ↓s_90, ↓n_90, ↓g_87_3, ↓p_87_3, ↓g_87_4, ↓l_91, ↓s_91, ↓n_91, ↓g_87_5, ↓p_87_5, ↓g_87_6, ↓p_87_6, ↓g_87_7, ↓p_87_7, ↓g_87_8, ↓p_87_8, ↓g_87_9, ↓p_87_9, ↓g_87_10, ↓p_87_10, ↓g_87_11, ↓l_92, ↓s_92, ↓n_92, ↓g_87_12, ↓l_93, ↓s_93, ↓n_93, ↓g_87_13, ↓p_87_13, ↓g_87_14, ↓l_94, ↓s_94, ↓n_94, ↓g_87_15, ↓p_87_15, ↓g_87_16, ↓l_95, ↓s_95, ↓n_95, ↓g_87_17, ↓l_96, ↓s_96, ↓n_96, ↓g_87_18, ↓l_97, ↓s_97, ↓n_97, ↓g_87_19, ↓p_87_19, ↓g_87_20, ↓p_87_20, ↓g_87_21, ↓l_98, ↓s_98, ↓n_98, ↓g_87_22, ↓l_99, ↓s_99, ↓n_99, ↓g_87_23, ↓l_100, ↓s_100, ↓n_100, ↓g_87_24, ↓l_101, ↓s_101, ↓n_101, ↓rdC, eH]
          refine ⟨o', ?_⟩
          refine ⟨by assumption, ⟨by rw [a3.op, fx'.op]; exact op.1, op.2⟩, fun M2 e2 o2 fx2 => ?_⟩
          rw [a3.eT, a3.eN, fx'.eT, fx'.eN, fx'.u, hf] at e2
          obtain ⟨b1, b2⟩ := body H rfl q _ a1 a2 a3 M2 e2 o2 fx2
          exact ⟨o2, b1, fun M3 e3 o3 fx3 => b2 M3 e3 o3 fx3 _⟩
        simp only [bk_X11_product_0, k_X11_product_0, bk_X11_product_4, k_X11_product_4, bk_X11_product_31, k_X11_product_31, bk_X11_product_62, k_X11_product_62, ↓e_rk1, ↓e_rk0, ↓e_sk0, ↓e_sks, ↓e_ldi0, ↓e_ldis, ↓e_ldl0, ↓e_ldls, ↓e_lda0, ↓e_ldas, ↓e_ok0, ↓e_okss, ↓e_ok1i, ↓e_ok1r, ↓e_ok1n, ↓e_sti, ↓e_sta, ↓e_1, ↓e_2, ↓e_l1, ↓e_l2, ↓e_li, ↓e_sw0, ↓e_sws, ↓e_ceq, ↓e_cne, ↓e_clt, ↓e_cge, ↓e_cgt, ↓e_cle, ↓e_nil, ↓e_cons, ↓e_iconst, ↓e_bipush, ↓e_sipush, ↓e_ldc, ↓e_ldcw, ↓e_ldc2, ↓e_lconst, ↓e_iloadn, ↓e_iload, ↓e_lloadn, ↓e_lload, ↓e_aloadn, ↓e_aload, ↓e_istoren, ↓e_istore, ↓e_astoren, ↓e_astore, ↓e_add, ↓e_iinc, ↓e_iadd, ↓e_isub, ↓e_imul, ↓e_iand, ↓e_ior, ↓e_ixor, ↓e_ishl, ↓e_iushr, ↓e_idiv, ↓e_irem, ↓e_ineg, ↓e_i2l, ↓e_i2b, ↓e_i2s, ↓e_l2i, ↓e_land, ↓e_lor, ↓e_lshl, ↓e_lshr, ↓e_lushr, ↓e_lcmp, ↓e_dupi, ↓e_dupr, ↓e_popi, ↓e_dup2, ↓e_goto, ↓e_if, ↓e_icmp, ↓e_tsw, ↓e_lsw, ↓e_getf, ↓e_putf, ↓e_gets, ↓e_iald, ↓e_cald, ↓e_iast, ↓e_aald, ↓e_aast, ↓e_len, ↓e_copy, ↓e_abs, ↓e_max, ↓e_min, ↓e_iret, ↓e_aret, ↓e_vret, ↓e_is0, ↓e_is1, ↓e_is2, ↓e_is3, ↓e_is4, ↓e_iv1, ↓e_iv2, ↓e_iv3, ↓e_iv4, ↓e_iv5, ↓e_iv6, ↓rt_X11_product, ↓reduceIte, Nat.reduceAdd, Nat.reduceEqDiff, ↓zcl0, ↓zclv, List.map_nil, List.sum_nil, List.map_cons, List.sum_cons, zcat, true_and, and_true, Nat.reduceLeDiff, Nat.reduceAdd, eq_self, forall_const, e_ok0, e_okss, e_ok1i, e_ok1r, e_ok1n, zl_1, zl_37, zl_42, zl_47, zl_20000, Int.reduceToNat, Int.reduceAdd, Int.reduceMul, Int.reduceSub, Int.reduceNeg, Int.reduceLT, Int.reduceLE, Int.reduceEq, not_false_eq_true, not_true_eq_false, false_implies, true_implies, implies_true, Int.reduceDiv, Int.reduceMod, zr8_zr, zr_zbo, z01_zbo, z01_0, z01_1, zbo_eq0, zup_eq, zup_o, zup_k, ne_eq, ↓ct_rpr_here, ↓r_here, ↓B_here, ↓ct_rpr_takes, ↓r_takes, ↓B_takes, ↓ct_rpr_lay, ↓r_lay, ↓B_lay, ↓ct_rpr_run, ↓r_run, ↓B_run, ↓v_87, ↓g_87_0, ↓l_88, ↓s_88, ↓n_88, ↓g_87_1, ↓l_89, ↓s_89, ↓n_89, ↓g_87_2, ↓l_90, ↓s_90, ↓n_90, ↓g_87_3, ↓p_87_3, ↓g_87_4, ↓l_91, ↓s_91, ↓n_91, ↓g_87_5, ↓p_87_5, ↓g_87_6, ↓p_87_6, ↓g_87_7, ↓p_87_7, ↓g_87_8, ↓p_87_8, ↓g_87_9, ↓p_87_9, ↓g_87_10, ↓p_87_10, ↓g_87_11, ↓l_92, ↓s_92, ↓n_92, ↓g_87_12, ↓l_93, ↓s_93, ↓n_93, ↓g_87_13, ↓p_87_13, ↓g_87_14, ↓l_94, ↓s_94, ↓n_94, ↓g_87_15, ↓p_87_15, ↓g_87_16, ↓l_95, ↓s_95, ↓n_95, ↓g_87_17, ↓l_96, ↓s_96, ↓n_96, ↓g_87_18, ↓l_97, ↓s_97, ↓n_97, ↓g_87_19, ↓p_87_19, ↓g_87_20, ↓p_87_20, ↓g_87_21, ↓l_98, ↓s_98, ↓n_98, ↓g_87_22, ↓l_99, ↓s_99, ↓n_99, ↓g_87_23, ↓l_100, ↓s_100, ↓n_100, ↓g_87_24, ↓l_101, ↓s_101, ↓n_101, ↓rdC, eH, zh]
        repeat' (first | assumption | apply And.intro | intro _)
        all_goals first | exact o' | (apply g9; unfold lvl; (repeat' split) <;> omega) | (apply r9; unfold lvl; (repeat' split) <;> omega)
    simp only [bk_X11_product_0, k_X11_product_0, bk_X11_product_4, k_X11_product_4, bk_X11_product_31, k_X11_product_31, bk_X11_product_62, k_X11_product_62, ↓e_rk1, ↓e_rk0, ↓e_sk0, ↓e_sks, ↓e_ldi0, ↓e_ldis, ↓e_ldl0, ↓e_ldls, ↓e_lda0, ↓e_ldas, ↓e_ok0, ↓e_okss, ↓e_ok1i, ↓e_ok1r, ↓e_ok1n, ↓e_sti, ↓e_sta, ↓e_1, ↓e_2, ↓e_l1, ↓e_l2, ↓e_li, ↓e_sw0, ↓e_sws, ↓e_ceq, ↓e_cne, ↓e_clt, ↓e_cge, ↓e_cgt, ↓e_cle, ↓e_nil, ↓e_cons, ↓e_iconst, ↓e_bipush, ↓e_sipush, ↓e_ldc, ↓e_ldcw, ↓e_ldc2, ↓e_lconst, ↓e_iloadn, ↓e_iload, ↓e_lloadn, ↓e_lload, ↓e_aloadn, ↓e_aload, ↓e_istoren, ↓e_istore, ↓e_astoren, ↓e_astore, ↓e_add, ↓e_iinc, ↓e_iadd, ↓e_isub, ↓e_imul, ↓e_iand, ↓e_ior, ↓e_ixor, ↓e_ishl, ↓e_iushr, ↓e_idiv, ↓e_irem, ↓e_ineg, ↓e_i2l, ↓e_i2b, ↓e_i2s, ↓e_l2i, ↓e_land, ↓e_lor, ↓e_lshl, ↓e_lshr, ↓e_lushr, ↓e_lcmp, ↓e_dupi, ↓e_dupr, ↓e_popi, ↓e_dup2, ↓e_goto, ↓e_if, ↓e_icmp, ↓e_tsw, ↓e_lsw, ↓e_getf, ↓e_putf, ↓e_gets, ↓e_iald, ↓e_cald, ↓e_iast, ↓e_aald, ↓e_aast, ↓e_len, ↓e_copy, ↓e_abs, ↓e_max, ↓e_min, ↓e_iret, ↓e_aret, ↓e_vret, ↓e_is0, ↓e_is1, ↓e_is2, ↓e_is3, ↓e_is4, ↓e_iv1, ↓e_iv2, ↓e_iv3, ↓e_iv4, ↓e_iv5, ↓e_iv6, ↓rt_X11_product, ↓reduceIte, Nat.reduceAdd, Nat.reduceEqDiff, ↓zcl0, ↓zclv, List.map_nil, List.sum_nil, List.map_cons, List.sum_cons, zcat, true_and, and_true, Nat.reduceLeDiff, Nat.reduceAdd, eq_self, forall_const, e_ok0, e_okss, e_ok1i, e_ok1r, e_ok1n, zl_1, zl_37, zl_42, zl_47, zl_20000, Int.reduceToNat, Int.reduceAdd, Int.reduceMul, Int.reduceSub, Int.reduceNeg, Int.reduceLT, Int.reduceLE, Int.reduceEq, not_false_eq_true, not_true_eq_false, false_implies, true_implies, implies_true, Int.reduceDiv, Int.reduceMod, zr8_zr, zr_zbo, z01_zbo, z01_0, z01_1, zbo_eq0, zup_eq, zup_o, zup_k, ne_eq, ↓ct_rpr_here, ↓r_here, ↓B_here, ↓ct_rpr_takes, ↓r_takes, ↓B_takes, ↓ct_rpr_lay, ↓r_lay, ↓B_lay, ↓ct_rpr_run, ↓r_run, ↓B_run, ↓v_87, ↓g_87_0, ↓l_88, ↓s_88, ↓n_88, ↓g_87_1, ↓l_89, ↓s_89, ↓n_89, ↓g_87_2, ↓l_90, ↓s_90, ↓n_90, ↓g_87_3, ↓p_87_3, ↓g_87_4, ↓l_91, ↓s_91, ↓n_91, ↓g_87_5, ↓p_87_5, ↓g_87_6, ↓p_87_6, ↓g_87_7, ↓p_87_7, ↓g_87_8, ↓p_87_8, ↓g_87_9, ↓p_87_9, ↓g_87_10, ↓p_87_10, ↓g_87_11, ↓l_92, ↓s_92, ↓n_92, ↓g_87_12, ↓l_93, ↓s_93, ↓n_93, ↓g_87_13, ↓p_87_13, ↓g_87_14, ↓l_94, ↓s_94, ↓n_94, ↓g_87_15, ↓p_87_15, ↓g_87_16, ↓l_95, ↓s_95, ↓n_95, ↓g_87_17, ↓l_96, ↓s_96, ↓n_96, ↓g_87_18, ↓l_97, ↓s_97, ↓n_97, ↓g_87_19, ↓p_87_19, ↓g_87_20, ↓p_87_20, ↓g_87_21, ↓l_98, ↓s_98, ↓n_98, ↓g_87_22, ↓l_99, ↓s_99, ↓n_99, ↓g_87_23, ↓l_100, ↓s_100, ↓n_100, ↓g_87_24, ↓l_101, ↓s_101, ↓n_101, ↓rdC]
    refine ⟨ho, op, fun M1 e1 o1 fx1 => lp 50 M1 _ o1 fx1 ?_ ?_⟩
    · have := ho.sz
      omega
    · show plp (tT M) (tn M) f 4 50 (sP M1) = plp (tT M) (tn M) f 4 50 (f (sP M))
      rw [← hf, e1]
def ct_rsm (r : Nat) : Nat → ZC := fun n => if n = 132 then C_here else if n = 134 then C_takes else if n = 136 then C_lay else if n = 141 then C_rpr (r) else fun _ _ _ => False
theorem ct_rsm_here {r : Nat} {as : List ZV} {h : ZH} {post : Option ZV → ZH → Prop} : ct_rsm r 132 as h post = C_here as h post := rfl
theorem ct_rsm_takes {r : Nat} {as : List ZV} {h : ZH} {post : Option ZV → ZH → Prop} : ct_rsm r 134 as h post = C_takes as h post := rfl
theorem ct_rsm_lay {r : Nat} {as : List ZV} {h : ZH} {post : Option ZV → ZH → Prop} : ct_rsm r 136 as h post = C_lay as h post := rfl
theorem ct_rsm_rpr {r : Nat} {as : List ZV} {h : ZH} {post : Option ZV → ZH → Prop} : ct_rsm r 141 as h post = C_rpr (r) as h post := rfl
theorem c_rsm {E : ZE} {d : Nat} {r : Nat} (hd : 3 ≤ d) (i_rpr : ∃ d', d' < d ∧ zMet E d' mX11_product (C_rpr (r))) : zMet E d mX11_sum (C_rsm (r)) := by
  refine zmet_of (o := 11) (ini := false) (CT := ct_rsm r) gd_X11_sum rfl (fun h => by cases h) (by omega) ?_ ?_
  · intro n as h post hh
    unfold ct_rsm at hh
    by_cases c : n = 132
    · subst c; exact ⟨gd_X11_here, 1, by omega, c_here (by omega)⟩
    rw [if_neg c] at hh
    by_cases c : n = 134
    · subst c; exact ⟨gd_X11_takes, 2, by omega, c_takes (by omega)⟩
    rw [if_neg c] at hh
    by_cases c : n = 136
    · subst c; exact ⟨gd_X11_lay, 1, by omega, c_lay (by omega)⟩
    rw [if_neg c] at hh
    by_cases c : n = 141
    · subst c; exact ⟨gd_X11_product, i_rpr⟩
    rw [if_neg c] at hh
    exact hh.elim
  intro as h post hC
  match as, hC with
  | [.inr (.inr (.inl 87))], hC =>
    refine ⟨Nat.le_of_ble_eq_true rfl, fun X hX => bs_X11_sum_0 hX ?_⟩
    obtain ⟨G, M⟩ := h
    obtain ⟨hG, hC⟩ := hC
    dsimp only at hG
    subst hG
    simp only [B_rsm, rdC] at hC
    show bk_X11_sum_0 E (ct_rsm r) X _ [some (.inr (.inr (.inl 87))), none] [] (zG, M) (0, 0)
    obtain ⟨ho, op, hC⟩ := hC
    have gd : Gd (tn M) (plw (tT M) (tn M) (pnt (tT M) (tn M) (M 87 10) r) 4 50) := Gd_plw (by omega) (Gd_pnt r)
    obtain ⟨f, hf⟩ : ∃ f, (plw (tT M) (tn M) (pnt (tT M) (tn M) (M 87 10) r) 4 50) = f := ⟨_, rfl⟩
    rw [hf] at gd
    have fin : ∀ (M' : ZMm), okM M' → Fx M M' → sP M' = plw (tT M) (tn M) f 3 50 (sP M) → post none (zG, M') := by
      intro M' o' fx' e
      rw [← hf] at e
      exact hC M' e o' fx'
    have lp : ∀ (m : Nat) (M' : ZMm) (x1 : Option ZV), okM M' → Fx M M' → tn M ≤ (sP M').1 + m → plp (tT M) (tn M) f 3 m (sP M') = plw (tT M) (tn M) f 3 50 (sP M) → X 4 [some (.inr (.inr (.inl 87))), x1] [] (zG, M') (0, 0) := by
      intro m
      induction m with
      | zero =>
        intro M' x1 o' fx' hm hp
        refine bs_X11_sum_4 hX ?_
        have eH : hre (tT M') (tn M') (sP M') = -1 := by
          rw [fx'.eT, fx'.eN]
          unfold hre
          rw [if_neg (by omega)]
        simp only [bk_X11_sum_0, k_X11_sum_0, bk_X11_sum_4, k_X11_sum_4, bk_X11_sum_22, k_X11_sum_22, bk_X11_sum_53, k_X11_sum_53, ↓e_rk1, ↓e_rk0, ↓e_sk0, ↓e_sks, ↓e_ldi0, ↓e_ldis, ↓e_ldl0, ↓e_ldls, ↓e_lda0, ↓e_ldas, ↓e_ok0, ↓e_okss, ↓e_ok1i, ↓e_ok1r, ↓e_ok1n, ↓e_sti, ↓e_sta, ↓e_1, ↓e_2, ↓e_l1, ↓e_l2, ↓e_li, ↓e_sw0, ↓e_sws, ↓e_ceq, ↓e_cne, ↓e_clt, ↓e_cge, ↓e_cgt, ↓e_cle, ↓e_nil, ↓e_cons, ↓e_iconst, ↓e_bipush, ↓e_sipush, ↓e_ldc, ↓e_ldcw, ↓e_ldc2, ↓e_lconst, ↓e_iloadn, ↓e_iload, ↓e_lloadn, ↓e_lload, ↓e_aloadn, ↓e_aload, ↓e_istoren, ↓e_istore, ↓e_astoren, ↓e_astore, ↓e_add, ↓e_iinc, ↓e_iadd, ↓e_isub, ↓e_imul, ↓e_iand, ↓e_ior, ↓e_ixor, ↓e_ishl, ↓e_iushr, ↓e_idiv, ↓e_irem, ↓e_ineg, ↓e_i2l, ↓e_i2b, ↓e_i2s, ↓e_l2i, ↓e_land, ↓e_lor, ↓e_lshl, ↓e_lshr, ↓e_lushr, ↓e_lcmp, ↓e_dupi, ↓e_dupr, ↓e_popi, ↓e_dup2, ↓e_goto, ↓e_if, ↓e_icmp, ↓e_tsw, ↓e_lsw, ↓e_getf, ↓e_putf, ↓e_gets, ↓e_iald, ↓e_cald, ↓e_iast, ↓e_aald, ↓e_aast, ↓e_len, ↓e_copy, ↓e_abs, ↓e_max, ↓e_min, ↓e_iret, ↓e_aret, ↓e_vret, ↓e_is0, ↓e_is1, ↓e_is2, ↓e_is3, ↓e_is4, ↓e_iv1, ↓e_iv2, ↓e_iv3, ↓e_iv4, ↓e_iv5, ↓e_iv6, ↓rt_X11_sum, ↓reduceIte, Nat.reduceAdd, Nat.reduceEqDiff, ↓zcl0, ↓zclv, List.map_nil, List.sum_nil, List.map_cons, List.sum_cons, zcat, true_and, and_true, Nat.reduceLeDiff, Nat.reduceAdd, eq_self, forall_const, e_ok0, e_okss, e_ok1i, e_ok1r, e_ok1n, zl_1, zl_43, zl_45, zl_20000, Int.reduceToNat, Int.reduceAdd, Int.reduceMul, Int.reduceSub, Int.reduceNeg, Int.reduceLT, Int.reduceLE, Int.reduceEq, not_false_eq_true, not_true_eq_false, false_implies, true_implies, implies_true, Int.reduceDiv, Int.reduceMod, zr8_zr, zr_zbo, z01_zbo, z01_0, z01_1, zbo_eq0, zup_eq, zup_o, zup_k, ne_eq, ↓ct_rsm_here, ↓r_here, ↓B_here, ↓ct_rsm_takes, ↓r_takes, ↓B_takes, ↓ct_rsm_lay, ↓r_lay, ↓B_lay, ↓ct_rsm_rpr, ↓r_rpr, ↓B_rpr, ↓v_87, ↓g_87_0, ↓l_88, ↓s_88, ↓n_88, ↓g_87_1, ↓l_89, ↓s_89, ↓n_89, ↓g_87_2, ↓l_90, ↓s_90, ↓n_90, ↓g_87_3, ↓p_87_3, ↓g_87_4, ↓l_91, ↓s_91, ↓n_91, ↓g_87_5, ↓p_87_5, ↓g_87_6, ↓p_87_6, ↓g_87_7, ↓p_87_7, ↓g_87_8, ↓p_87_8, ↓g_87_9, ↓p_87_9, ↓g_87_10, ↓p_87_10, ↓g_87_11, ↓l_92, ↓s_92, ↓n_92, ↓g_87_12, ↓l_93, ↓s_93, ↓n_93, ↓g_87_13, ↓p_87_13, ↓g_87_14, ↓l_94, ↓s_94, ↓n_94, ↓g_87_15, ↓p_87_15, ↓g_87_16, ↓l_95, ↓s_95, ↓n_95, ↓g_87_17, ↓l_96, ↓s_96, ↓n_96, ↓g_87_18, ↓l_97, ↓s_97, ↓n_97, ↓g_87_19, ↓p_87_19, ↓g_87_20, ↓p_87_20, ↓g_87_21, ↓l_98, ↓s_98, ↓n_98, ↓g_87_22, ↓l_99, ↓s_99, ↓n_99, ↓g_87_23, ↓l_100, ↓s_100, ↓n_100, ↓g_87_24, ↓l_101, ↓s_101, ↓n_101, ↓rdC, eH, zl_0, zl_1]
        have r9 : X 53 [some (.inr (.inr (.inl 87))), x1] [] (zG, M') (0, 0) := by
          refine bs_X11_sum_53 hX ?_
          simp only [bk_X11_sum_0, k_X11_sum_0, bk_X11_sum_4, k_X11_sum_4, bk_X11_sum_22, k_X11_sum_22, bk_X11_sum_53, k_X11_sum_53, ↓e_rk1, ↓e_rk0, ↓e_sk0, ↓e_sks, ↓e_ldi0, ↓e_ldis, ↓e_ldl0, ↓e_ldls, ↓e_lda0, ↓e_ldas, ↓e_ok0, ↓e_okss, ↓e_ok1i, ↓e_ok1r, ↓e_ok1n, ↓e_sti, ↓e_sta, ↓e_1, ↓e_2, ↓e_l1, ↓e_l2, ↓e_li, ↓e_sw0, ↓e_sws, ↓e_ceq, ↓e_cne, ↓e_clt, ↓e_cge, ↓e_cgt, ↓e_cle, ↓e_nil, ↓e_cons, ↓e_iconst, ↓e_bipush, ↓e_sipush, ↓e_ldc, ↓e_ldcw, ↓e_ldc2, ↓e_lconst, ↓e_iloadn, ↓e_iload, ↓e_lloadn, ↓e_lload, ↓e_aloadn, ↓e_aload, ↓e_istoren, ↓e_istore, ↓e_astoren, ↓e_astore, ↓e_add, ↓e_iinc, ↓e_iadd, ↓e_isub, ↓e_imul, ↓e_iand, ↓e_ior, ↓e_ixor, ↓e_ishl, ↓e_iushr, ↓e_idiv, ↓e_irem, ↓e_ineg, ↓e_i2l, ↓e_i2b, ↓e_i2s, ↓e_l2i, ↓e_land, ↓e_lor, ↓e_lshl, ↓e_lshr, ↓e_lushr, ↓e_lcmp, ↓e_dupi, ↓e_dupr, ↓e_popi, ↓e_dup2, ↓e_goto, ↓e_if, ↓e_icmp, ↓e_tsw, ↓e_lsw, ↓e_getf, ↓e_putf, ↓e_gets, ↓e_iald, ↓e_cald, ↓e_iast, ↓e_aald, ↓e_aast, ↓e_len, ↓e_copy, ↓e_abs, ↓e_max, ↓e_min, ↓e_iret, ↓e_aret, ↓e_vret, ↓e_is0, ↓e_is1, ↓e_is2, ↓e_is3, ↓e_is4, ↓e_iv1, ↓e_iv2, ↓e_iv3, ↓e_iv4, ↓e_iv5, ↓e_iv6, ↓rt_X11_sum, ↓reduceIte, Nat.reduceAdd, Nat.reduceEqDiff, ↓zcl0, ↓zclv, List.map_nil, List.sum_nil, List.map_cons, List.sum_cons, zcat, true_and, and_true, Nat.reduceLeDiff, Nat.reduceAdd, eq_self, forall_const, e_ok0, e_okss, e_ok1i, e_ok1r, e_ok1n, zl_1, zl_43, zl_45, zl_20000, Int.reduceToNat, Int.reduceAdd, Int.reduceMul, Int.reduceSub, Int.reduceNeg, Int.reduceLT, Int.reduceLE, Int.reduceEq, not_false_eq_true, not_true_eq_false, false_implies, true_implies, implies_true, Int.reduceDiv, Int.reduceMod, zr8_zr, zr_zbo, z01_zbo, z01_0, z01_1, zbo_eq0, zup_eq, zup_o, zup_k, ne_eq, ↓ct_rsm_here, ↓r_here, ↓B_here, ↓ct_rsm_takes, ↓r_takes, ↓B_takes, ↓ct_rsm_lay, ↓r_lay, ↓B_lay, ↓ct_rsm_rpr, ↓r_rpr, ↓B_rpr, ↓v_87, ↓g_87_0, ↓l_88, ↓s_88, ↓n_88, ↓g_87_1, ↓l_89, ↓s_89, ↓n_89, ↓g_87_2, ↓l_90, ↓s_90, ↓n_90, ↓g_87_3, ↓p_87_3, ↓g_87_4, ↓l_91, ↓s_91, ↓n_91, ↓g_87_5, ↓p_87_5, ↓g_87_6, ↓p_87_6, ↓g_87_7, ↓p_87_7, ↓g_87_8, ↓p_87_8, ↓g_87_9, ↓p_87_9, ↓g_87_10, ↓p_87_10, ↓g_87_11, ↓l_92, ↓s_92, ↓n_92, ↓g_87_12, ↓l_93, ↓s_93, ↓n_93, ↓g_87_13, ↓p_87_13, ↓g_87_14, ↓l_94, ↓s_94, ↓n_94, ↓g_87_15, ↓p_87_15, ↓g_87_16, ↓l_95, ↓s_95, ↓n_95, ↓g_87_17, ↓l_96, ↓s_96, ↓n_96, ↓g_87_18, ↓l_97, ↓s_97, ↓n_97, ↓g_87_19, ↓p_87_19, ↓g_87_20, ↓p_87_20, ↓g_87_21, ↓l_98, ↓s_98, ↓n_98, ↓g_87_22, ↓l_99, ↓s_99, ↓n_99, ↓g_87_23, ↓l_100, ↓s_100, ↓n_100, ↓g_87_24, ↓l_101, ↓s_101, ↓n_101, ↓rdC]
          exact fin M' o' fx' hp
        simp only [show zr (-1) = -1 from rfl, Int.reduceNeg, Int.reduceEq, not_false_eq_true, true_implies, false_implies, true_and, and_true, implies_true]
        repeat' (first | assumption | apply And.intro | intro _)
        all_goals first | exact o' | exact r9
      | succ m ih =>
        intro M' x1 o' fx' hm hp
        refine bs_X11_sum_4 hX ?_
        have hr := hre_rg o'
        have eH : hre (tT M') (tn M') (sP M') = hre (tT M) (tn M) (sP M') := by rw [fx'.eT, fx'.eN]
        rw [eH] at hr
        have ep : plp (tT M) (tn M) f 3 (m + 1) (sP M') = if lvl (hre (tT M) (tn M) (sP M')) = 3 then plp (tT M) (tn M) f 3 m (lyy (20000 + hre (tT M) (tn M) (sP M')) (f (adv (sP M')))) else sP M' := rfl
        rw [ep] at hp
        have body : ∀ (H : Int), H = hre (tT M) (tn M) (sP M') → lvl H = 3 → ∀ M1 : ZMm, sP M1 = adv (sP M') → okM M1 → Fx M' M1 → ∀ M2 : ZMm, sP M2 = f (sP M1) → okM M2 → Fx M1 M2 → ((sP M2).2.1 < 0 → (sP M2).2.2.length < (sP M2).1) ∧ ∀ M3 : ZMm, sP M3 = lyy (20000 + H) (sP M2) → okM M3 → Fx M2 M3 → ∀ (x1 : Option ZV), X 4 [some (.inr (.inr (.inl 87))), x1] [] (zG, M3) (0, 0) := by
          intro H hH hl M1 e1 o1 fx1 M2 e2 o2 fx2
          rw [← hH, if_pos hl] at hp
          have ok1 := o1.1
          rw [fx1.eN, fx'.eN] at ok1
          obtain ⟨g1, g2, g3, g4, g5⟩ := gd (sP M1) ok1
          rw [← e2] at g2 g3
          have ea : (sP M1).1 = (sP M').1 + 1 := by rw [e1]; rfl
          have el : (sP M1).2.2 = (sP M').2.2 := by rw [e1]; rfl
          rw [el] at g3
          have hl' := o'.1.2.1
          refine ⟨fun _ => by omega, fun M3 e3 o3 fx3 x1 => ih M3 x1 o3 (((fx'.trans fx1).trans fx2).trans fx3) ?_ ?_⟩
          · have : (sP M3).1 = (sP M2).1 := by rw [e3]; unfold lyy; split <;> rfl
            omega
          · rw [e3, e2, e1]; exact hp
        have stop : ¬ lvl (hre (tT M) (tn M) (sP M')) = 3 → post none (zG, M') := by
          intro hl
          rw [if_neg hl] at hp
          exact fin M' o' fx' hp
        obtain ⟨H, hH⟩ : ∃ H, hre (tT M) (tn M) (sP M') = H := ⟨_, rfl⟩
        rw [hH] at hr eH stop body
        have zh := zr_rg hr
        have r9 : ¬ lvl H = 3 → X 53 [some (.inr (.inr (.inl 87))), x1] [] (zG, M') (0, 0) := by
          intro q
          refine bs_X11_sum_53 hX ?_
          simp only [bk_X11_sum_0, k_X11_sum_0, bk_X11_sum_4, k_X11_sum_4, bk_X11_sum_22, k_X11_sum_22, bk_X11_sum_53, k_X11_sum_53, ↓e_rk1, ↓e_rk0, ↓e_sk0, ↓e_sks, ↓e_ldi0, ↓e_ldis, ↓e_ldl0, ↓e_ldls, ↓e_lda0, ↓e_ldas, ↓e_ok0, ↓e_okss, ↓e_ok1i, ↓e_ok1r, ↓e_ok1n, ↓e_sti, ↓e_sta, ↓e_1, ↓e_2, ↓e_l1, ↓e_l2, ↓e_li, ↓e_sw0, ↓e_sws, ↓e_ceq, ↓e_cne, ↓e_clt, ↓e_cge, ↓e_cgt, ↓e_cle, ↓e_nil, ↓e_cons, ↓e_iconst, ↓e_bipush, ↓e_sipush, ↓e_ldc, ↓e_ldcw, ↓e_ldc2, ↓e_lconst, ↓e_iloadn, ↓e_iload, ↓e_lloadn, ↓e_lload, ↓e_aloadn, ↓e_aload, ↓e_istoren, ↓e_istore, ↓e_astoren, ↓e_astore, ↓e_add, ↓e_iinc, ↓e_iadd, ↓e_isub, ↓e_imul, ↓e_iand, ↓e_ior, ↓e_ixor, ↓e_ishl, ↓e_iushr, ↓e_idiv, ↓e_irem, ↓e_ineg, ↓e_i2l, ↓e_i2b, ↓e_i2s, ↓e_l2i, ↓e_land, ↓e_lor, ↓e_lshl, ↓e_lshr, ↓e_lushr, ↓e_lcmp, ↓e_dupi, ↓e_dupr, ↓e_popi, ↓e_dup2, ↓e_goto, ↓e_if, ↓e_icmp, ↓e_tsw, ↓e_lsw, ↓e_getf, ↓e_putf, ↓e_gets, ↓e_iald, ↓e_cald, ↓e_iast, ↓e_aald, ↓e_aast, ↓e_len, ↓e_copy, ↓e_abs, ↓e_max, ↓e_min, ↓e_iret, ↓e_aret, ↓e_vret, ↓e_is0, ↓e_is1, ↓e_is2, ↓e_is3, ↓e_is4, ↓e_iv1, ↓e_iv2, ↓e_iv3, ↓e_iv4, ↓e_iv5, ↓e_iv6, ↓rt_X11_sum, ↓reduceIte, Nat.reduceAdd, Nat.reduceEqDiff, ↓zcl0, ↓zclv, List.map_nil, List.sum_nil, List.map_cons, List.sum_cons, zcat, true_and, and_true, Nat.reduceLeDiff, Nat.reduceAdd, eq_self, forall_const, e_ok0, e_okss, e_ok1i, e_ok1r, e_ok1n, zl_1, zl_43, zl_45, zl_20000, Int.reduceToNat, Int.reduceAdd, Int.reduceMul, Int.reduceSub, Int.reduceNeg, Int.reduceLT, Int.reduceLE, Int.reduceEq, not_false_eq_true, not_true_eq_false, false_implies, true_implies, implies_true, Int.reduceDiv, Int.reduceMod, zr8_zr, zr_zbo, z01_zbo, z01_0, z01_1, zbo_eq0, zup_eq, zup_o, zup_k, ne_eq, ↓ct_rsm_here, ↓r_here, ↓B_here, ↓ct_rsm_takes, ↓r_takes, ↓B_takes, ↓ct_rsm_lay, ↓r_lay, ↓B_lay, ↓ct_rsm_rpr, ↓r_rpr, ↓B_rpr, ↓v_87, ↓g_87_0, ↓l_88, ↓s_88, ↓n_88, ↓g_87_1, ↓l_89, ↓s_89, ↓n_89, ↓g_87_2, ↓l_90, ↓s_90, ↓n_90, ↓g_87_3, ↓p_87_3, ↓g_87_4, ↓l_91, ↓s_91, ↓n_91, ↓g_87_5, ↓p_87_5, ↓g_87_6, ↓p_87_6, ↓g_87_7, ↓p_87_7, ↓g_87_8, ↓p_87_8, ↓g_87_9, ↓p_87_9, ↓g_87_10, ↓p_87_10, ↓g_87_11, ↓l_92, ↓s_92, ↓n_92, ↓g_87_12, ↓l_93, ↓s_93, ↓n_93, ↓g_87_13, ↓p_87_13, ↓g_87_14, ↓l_94, ↓s_94, ↓n_94, ↓g_87_15, ↓p_87_15, ↓g_87_16, ↓l_95, ↓s_95, ↓n_95, ↓g_87_17, ↓l_96, ↓s_96, ↓n_96, ↓g_87_18, ↓l_97, ↓s_97, ↓n_97, ↓g_87_19, ↓p_87_19, ↓g_87_20, ↓p_87_20, ↓g_87_21, ↓l_98, ↓s_98, ↓n_98, ↓g_87_22, ↓l_99, ↓s_99, ↓n_99, ↓g_87_23, ↓l_100, ↓s_100, ↓n_100, ↓g_87_24, ↓l_101, ↓s_101, ↓n_101, ↓rdC]
          exact stop q
        have g9 : lvl H = 3 → X 22 [some (.inr (.inr (.inl 87))), x1] [] (zG, M') (0, 0) := by
          intro q
          have hn := hre_nn (T := tT M) (n := tn M) (s := sP M') (by rw [hH]; have := lvl_nn (c := H) (by omega); omega)
          obtain ⟨a1, a2, a3⟩ := adv_M o' (by rw [fx'.eN]; exact hn.1)
          refine bs_X11_sum_22 hX ?_
          simp only [bk_X11_sum_0, k_X11_sum_0, bk_X11_sum_4, k_X11_sum_4, bk_X11_sum_22, k_X11_sum_22, bk_X11_sum_53, k_X11_sum_53, ↓e_rk1, ↓e_rk0, ↓e_sk0, ↓e_sks, ↓e_ldi0, ↓e_ldis, ↓e_ldl0, ↓e_ldls, ↓e_lda0, ↓e_ldas, ↓e_ok0, ↓e_okss, ↓e_ok1i, ↓e_ok1r, ↓e_ok1n, ↓e_sti, ↓e_sta, ↓e_1, ↓e_2, ↓e_l1, ↓e_l2, ↓e_li, ↓e_sw0, ↓e_sws, ↓e_ceq, ↓e_cne, ↓e_clt, ↓e_cge, ↓e_cgt, ↓e_cle, ↓e_nil, ↓e_cons, ↓e_iconst, ↓e_bipush, ↓e_sipush, ↓e_ldc, ↓e_ldcw, ↓e_ldc2, ↓e_lconst, ↓e_iloadn, ↓e_iload, ↓e_lloadn, ↓e_lload, ↓e_aloadn, ↓e_aload, ↓e_istoren, ↓e_istore, ↓e_astoren, ↓e_astore, ↓e_add, ↓e_iinc, ↓e_iadd, ↓e_isub, ↓e_imul, ↓e_iand, ↓e_ior, ↓e_ixor, ↓e_ishl, ↓e_iushr, ↓e_idiv, ↓e_irem, ↓e_ineg, ↓e_i2l, ↓e_i2b, ↓e_i2s, ↓e_l2i, ↓e_land, ↓e_lor, ↓e_lshl, ↓e_lshr, ↓e_lushr, ↓e_lcmp, ↓e_dupi, ↓e_dupr, ↓e_popi, ↓e_dup2, ↓e_goto, ↓e_if, ↓e_icmp, ↓e_tsw, ↓e_lsw, ↓e_getf, ↓e_putf, ↓e_gets, ↓e_iald, ↓e_cald, ↓e_iast, ↓e_aald, ↓e_aast, ↓e_len, ↓e_copy, ↓e_abs, ↓e_max, ↓e_min, ↓e_iret, ↓e_aret, ↓e_vret, ↓e_is0, ↓e_is1, ↓e_is2, ↓e_is3, ↓e_is4, ↓e_iv1, ↓e_iv2, ↓e_iv3, ↓e_iv4, ↓e_iv5, ↓e_iv6, ↓rt_X11_sum, ↓reduceIte, Nat.reduceAdd, Nat.reduceEqDiff, ↓zcl0, ↓zclv, List.map_nil, List.sum_nil, List.map_cons, List.sum_cons, zcat, true_and, and_true, Nat.reduceLeDiff, Nat.reduceAdd, eq_self, forall_const, e_ok0, e_okss, e_ok1i, e_ok1r, e_ok1n, zl_1, zl_43, zl_45, zl_20000, Int.reduceToNat, Int.reduceAdd, Int.reduceMul, Int.reduceSub, Int.reduceNeg, Int.reduceLT, Int.reduceLE, Int.reduceEq, not_false_eq_true, not_true_eq_false, false_implies, true_implies, implies_true, Int.reduceDiv, Int.reduceMod, zr8_zr, zr_zbo, z01_zbo, z01_0, z01_1, zbo_eq0, zup_eq, zup_o, zup_k, ne_eq, ↓ct_rsm_here, ↓r_here, ↓B_here, ↓ct_rsm_takes, ↓r_takes, ↓B_takes, ↓ct_rsm_lay, ↓r_lay, ↓B_lay, ↓ct_rsm_rpr, ↓r_rpr, ↓B_rpr, ↓v_87, ↓g_87_0, ↓l_88, ↓s_88, ↓n_88, ↓g_87_1, ↓l_89, ↓s_89, ↓n_89, ↓g_87_2, ↓l_90, ↓s_90, ↓n_90, ↓g_87_3, ↓p_87_3, ↓g_87_4, ↓l_91, ↓s_91, ↓n_91, ↓g_87_5, ↓p_87_5, ↓g_87_6, ↓p_87_6, ↓g_87_7, ↓p_87_7, ↓g_87_8, ↓p_87_8, ↓g_87_9, ↓p_87_9, ↓g_87_10, ↓p_87_10, ↓g_87_11, ↓l_92, ↓s_92, ↓n_92, ↓g_87_12, ↓l_93, ↓s_93, ↓n_93, ↓g_87_13, ↓p_87_13, ↓g_87_14, ↓l_94, ↓s_94, ↓n_94, ↓g_87_15, ↓p_87_15, ↓g_87_16, ↓l_95, ↓s_95, ↓n_95, ↓g_87_17, ↓l_96, ↓s_96, ↓n_96, ↓g_87_18, ↓l_97, ↓s_97, ↓n_97, ↓g_87_19, ↓p_87_19, ↓g_87_20, ↓p_87_20, ↓g_87_21, ↓l_98, ↓s_98, ↓n_98, ↓g_87_22, ↓l_99, ↓s_99, ↓n_99, ↓g_87_23, ↓l_100, ↓s_100, ↓n_100, ↓g_87_24, ↓l_101, ↓s_101, ↓n_101, ↓rdC, eH]
          refine ⟨o', ?_⟩
          refine ⟨by assumption, ⟨by rw [a3.op, fx'.op]; exact op.1, op.2⟩, fun M2 e2 o2 fx2 => ?_⟩
          rw [a3.eT, a3.eN, fx'.eT, fx'.eN, fx'.u, hf] at e2
          obtain ⟨b1, b2⟩ := body H rfl q _ a1 a2 a3 M2 e2 o2 fx2
          exact ⟨o2, b1, fun M3 e3 o3 fx3 => b2 M3 e3 o3 fx3 _⟩
        simp only [bk_X11_sum_0, k_X11_sum_0, bk_X11_sum_4, k_X11_sum_4, bk_X11_sum_22, k_X11_sum_22, bk_X11_sum_53, k_X11_sum_53, ↓e_rk1, ↓e_rk0, ↓e_sk0, ↓e_sks, ↓e_ldi0, ↓e_ldis, ↓e_ldl0, ↓e_ldls, ↓e_lda0, ↓e_ldas, ↓e_ok0, ↓e_okss, ↓e_ok1i, ↓e_ok1r, ↓e_ok1n, ↓e_sti, ↓e_sta, ↓e_1, ↓e_2, ↓e_l1, ↓e_l2, ↓e_li, ↓e_sw0, ↓e_sws, ↓e_ceq, ↓e_cne, ↓e_clt, ↓e_cge, ↓e_cgt, ↓e_cle, ↓e_nil, ↓e_cons, ↓e_iconst, ↓e_bipush, ↓e_sipush, ↓e_ldc, ↓e_ldcw, ↓e_ldc2, ↓e_lconst, ↓e_iloadn, ↓e_iload, ↓e_lloadn, ↓e_lload, ↓e_aloadn, ↓e_aload, ↓e_istoren, ↓e_istore, ↓e_astoren, ↓e_astore, ↓e_add, ↓e_iinc, ↓e_iadd, ↓e_isub, ↓e_imul, ↓e_iand, ↓e_ior, ↓e_ixor, ↓e_ishl, ↓e_iushr, ↓e_idiv, ↓e_irem, ↓e_ineg, ↓e_i2l, ↓e_i2b, ↓e_i2s, ↓e_l2i, ↓e_land, ↓e_lor, ↓e_lshl, ↓e_lshr, ↓e_lushr, ↓e_lcmp, ↓e_dupi, ↓e_dupr, ↓e_popi, ↓e_dup2, ↓e_goto, ↓e_if, ↓e_icmp, ↓e_tsw, ↓e_lsw, ↓e_getf, ↓e_putf, ↓e_gets, ↓e_iald, ↓e_cald, ↓e_iast, ↓e_aald, ↓e_aast, ↓e_len, ↓e_copy, ↓e_abs, ↓e_max, ↓e_min, ↓e_iret, ↓e_aret, ↓e_vret, ↓e_is0, ↓e_is1, ↓e_is2, ↓e_is3, ↓e_is4, ↓e_iv1, ↓e_iv2, ↓e_iv3, ↓e_iv4, ↓e_iv5, ↓e_iv6, ↓rt_X11_sum, ↓reduceIte, Nat.reduceAdd, Nat.reduceEqDiff, ↓zcl0, ↓zclv, List.map_nil, List.sum_nil, List.map_cons, List.sum_cons, zcat, true_and, and_true, Nat.reduceLeDiff, Nat.reduceAdd, eq_self, forall_const, e_ok0, e_okss, e_ok1i, e_ok1r, e_ok1n, zl_1, zl_43, zl_45, zl_20000, Int.reduceToNat, Int.reduceAdd, Int.reduceMul, Int.reduceSub, Int.reduceNeg, Int.reduceLT, Int.reduceLE, Int.reduceEq, not_false_eq_true, not_true_eq_false, false_implies, true_implies, implies_true, Int.reduceDiv, Int.reduceMod, zr8_zr, zr_zbo, z01_zbo, z01_0, z01_1, zbo_eq0, zup_eq, zup_o, zup_k, ne_eq, ↓ct_rsm_here, ↓r_here, ↓B_here, ↓ct_rsm_takes, ↓r_takes, ↓B_takes, ↓ct_rsm_lay, ↓r_lay, ↓B_lay, ↓ct_rsm_rpr, ↓r_rpr, ↓B_rpr, ↓v_87, ↓g_87_0, ↓l_88, ↓s_88, ↓n_88, ↓g_87_1, ↓l_89, ↓s_89, ↓n_89, ↓g_87_2, ↓l_90, ↓s_90, ↓n_90, ↓g_87_3, ↓p_87_3, ↓g_87_4, ↓l_91, ↓s_91, ↓n_91, ↓g_87_5, ↓p_87_5, ↓g_87_6, ↓p_87_6, ↓g_87_7, ↓p_87_7, ↓g_87_8, ↓p_87_8, ↓g_87_9, ↓p_87_9, ↓g_87_10, ↓p_87_10, ↓g_87_11, ↓l_92, ↓s_92, ↓n_92, ↓g_87_12, ↓l_93, ↓s_93, ↓n_93, ↓g_87_13, ↓p_87_13, ↓g_87_14, ↓l_94, ↓s_94, ↓n_94, ↓g_87_15, ↓p_87_15, ↓g_87_16, ↓l_95, ↓s_95, ↓n_95, ↓g_87_17, ↓l_96, ↓s_96, ↓n_96, ↓g_87_18, ↓l_97, ↓s_97, ↓n_97, ↓g_87_19, ↓p_87_19, ↓g_87_20, ↓p_87_20, ↓g_87_21, ↓l_98, ↓s_98, ↓n_98, ↓g_87_22, ↓l_99, ↓s_99, ↓n_99, ↓g_87_23, ↓l_100, ↓s_100, ↓n_100, ↓g_87_24, ↓l_101, ↓s_101, ↓n_101, ↓rdC, eH, zh]
        repeat' (first | assumption | apply And.intro | intro _)
        all_goals first | exact o' | (apply g9; unfold lvl; (repeat' split) <;> omega) | (apply r9; unfold lvl; (repeat' split) <;> omega)
    simp only [bk_X11_sum_0, k_X11_sum_0, bk_X11_sum_4, k_X11_sum_4, bk_X11_sum_22, k_X11_sum_22, bk_X11_sum_53, k_X11_sum_53, ↓e_rk1, ↓e_rk0, ↓e_sk0, ↓e_sks, ↓e_ldi0, ↓e_ldis, ↓e_ldl0, ↓e_ldls, ↓e_lda0, ↓e_ldas, ↓e_ok0, ↓e_okss, ↓e_ok1i, ↓e_ok1r, ↓e_ok1n, ↓e_sti, ↓e_sta, ↓e_1, ↓e_2, ↓e_l1, ↓e_l2, ↓e_li, ↓e_sw0, ↓e_sws, ↓e_ceq, ↓e_cne, ↓e_clt, ↓e_cge, ↓e_cgt, ↓e_cle, ↓e_nil, ↓e_cons, ↓e_iconst, ↓e_bipush, ↓e_sipush, ↓e_ldc, ↓e_ldcw, ↓e_ldc2, ↓e_lconst, ↓e_iloadn, ↓e_iload, ↓e_lloadn, ↓e_lload, ↓e_aloadn, ↓e_aload, ↓e_istoren, ↓e_istore, ↓e_astoren, ↓e_astore, ↓e_add, ↓e_iinc, ↓e_iadd, ↓e_isub, ↓e_imul, ↓e_iand, ↓e_ior, ↓e_ixor, ↓e_ishl, ↓e_iushr, ↓e_idiv, ↓e_irem, ↓e_ineg, ↓e_i2l, ↓e_i2b, ↓e_i2s, ↓e_l2i, ↓e_land, ↓e_lor, ↓e_lshl, ↓e_lshr, ↓e_lushr, ↓e_lcmp, ↓e_dupi, ↓e_dupr, ↓e_popi, ↓e_dup2, ↓e_goto, ↓e_if, ↓e_icmp, ↓e_tsw, ↓e_lsw, ↓e_getf, ↓e_putf, ↓e_gets, ↓e_iald, ↓e_cald, ↓e_iast, ↓e_aald, ↓e_aast, ↓e_len, ↓e_copy, ↓e_abs, ↓e_max, ↓e_min, ↓e_iret, ↓e_aret, ↓e_vret, ↓e_is0, ↓e_is1, ↓e_is2, ↓e_is3, ↓e_is4, ↓e_iv1, ↓e_iv2, ↓e_iv3, ↓e_iv4, ↓e_iv5, ↓e_iv6, ↓rt_X11_sum, ↓reduceIte, Nat.reduceAdd, Nat.reduceEqDiff, ↓zcl0, ↓zclv, List.map_nil, List.sum_nil, List.map_cons, List.sum_cons, zcat, true_and, and_true, Nat.reduceLeDiff, Nat.reduceAdd, eq_self, forall_const, e_ok0, e_okss, e_ok1i, e_ok1r, e_ok1n, zl_1, zl_43, zl_45, zl_20000, Int.reduceToNat, Int.reduceAdd, Int.reduceMul, Int.reduceSub, Int.reduceNeg, Int.reduceLT, Int.reduceLE, Int.reduceEq, not_false_eq_true, not_true_eq_false, false_implies, true_implies, implies_true, Int.reduceDiv, Int.reduceMod, zr8_zr, zr_zbo, z01_zbo, z01_0, z01_1, zbo_eq0, zup_eq, zup_o, zup_k, ne_eq, ↓ct_rsm_here, ↓r_here, ↓B_here, ↓ct_rsm_takes, ↓r_takes, ↓B_takes, ↓ct_rsm_lay, ↓r_lay, ↓B_lay, ↓ct_rsm_rpr, ↓r_rpr, ↓B_rpr, ↓v_87, ↓g_87_0, ↓l_88, ↓s_88, ↓n_88, ↓g_87_1, ↓l_89, ↓s_89, ↓n_89, ↓g_87_2, ↓l_90, ↓s_90, ↓n_90, ↓g_87_3, ↓p_87_3, ↓g_87_4, ↓l_91, ↓s_91, ↓n_91, ↓g_87_5, ↓p_87_5, ↓g_87_6, ↓p_87_6, ↓g_87_7, ↓p_87_7, ↓g_87_8, ↓p_87_8, ↓g_87_9, ↓p_87_9, ↓g_87_10, ↓p_87_10, ↓g_87_11, ↓l_92, ↓s_92, ↓n_92, ↓g_87_12, ↓l_93, ↓s_93, ↓n_93, ↓g_87_13, ↓p_87_13, ↓g_87_14, ↓l_94, ↓s_94, ↓n_94, ↓g_87_15, ↓p_87_15, ↓g_87_16, ↓l_95, ↓s_95, ↓n_95, ↓g_87_17, ↓l_96, ↓s_96, ↓n_96, ↓g_87_18, ↓l_97, ↓s_97, ↓n_97, ↓g_87_19, ↓p_87_19, ↓g_87_20, ↓p_87_20, ↓g_87_21, ↓l_98, ↓s_98, ↓n_98, ↓g_87_22, ↓l_99, ↓s_99, ↓n_99, ↓g_87_23, ↓l_100, ↓s_100, ↓n_100, ↓g_87_24, ↓l_101, ↓s_101, ↓n_101, ↓rdC]
    refine ⟨ho, op, fun M1 e1 o1 fx1 => lp 50 M1 _ o1 fx1 ?_ ?_⟩
    · have := ho.sz
      omega
    · show plp (tT M) (tn M) f 3 50 (sP M1) = plp (tT M) (tn M) f 3 50 (f (sP M))
      rw [← hf, e1]
def ct_rcm (r : Nat) : Nat → ZC := fun n => if n = 132 then C_here else if n = 136 then C_lay else if n = 140 then C_rsm (r) else fun _ _ _ => False
theorem ct_rcm_here {r : Nat} {as : List ZV} {h : ZH} {post : Option ZV → ZH → Prop} : ct_rcm r 132 as h post = C_here as h post := rfl
theorem ct_rcm_lay {r : Nat} {as : List ZV} {h : ZH} {post : Option ZV → ZH → Prop} : ct_rcm r 136 as h post = C_lay as h post := rfl
theorem ct_rcm_rsm {r : Nat} {as : List ZV} {h : ZH} {post : Option ZV → ZH → Prop} : ct_rcm r 140 as h post = C_rsm (r) as h post := rfl
theorem c_rcm {E : ZE} {d : Nat} {r : Nat} (hd : 2 ≤ d) (i_rsm : ∃ d', d' < d ∧ zMet E d' mX11_sum (C_rsm (r))) : zMet E d mX11_compared (C_rcm (r)) := by
  refine zmet_of (o := 11) (ini := false) (CT := ct_rcm r) gd_X11_compared rfl (fun h => by cases h) (by omega) ?_ ?_
  · intro n as h post hh
    unfold ct_rcm at hh
    by_cases c : n = 132
    · subst c; exact ⟨gd_X11_here, 1, by omega, c_here (by omega)⟩
    rw [if_neg c] at hh
    by_cases c : n = 136
    · subst c; exact ⟨gd_X11_lay, 1, by omega, c_lay (by omega)⟩
    rw [if_neg c] at hh
    by_cases c : n = 140
    · subst c; exact ⟨gd_X11_sum, i_rsm⟩
    rw [if_neg c] at hh
    exact hh.elim
  intro as h post hC
  match as, hC with
  | [.inr (.inr (.inl 87))], hC =>
    refine ⟨Nat.le_of_ble_eq_true rfl, fun X hX => bs_X11_compared_0 hX ?_⟩
    obtain ⟨G, M⟩ := h
    obtain ⟨hG, hC⟩ := hC
    dsimp only at hG
    subst hG
    simp only [B_rcm, rdC] at hC
    show bk_X11_compared_0 E (ct_rcm r) X _ [some (.inr (.inr (.inl 87))), none] [] (zG, M) (0, 0)
    obtain ⟨ho, op, hC⟩ := hC
    have gd : Gd (tn M) (pvS (tT M) (tn M) (pnt (tT M) (tn M) (M 87 10) r)) := Gd_plw (by omega) (Gd_plw (by omega) (Gd_pnt r))
    simp only [bk_X11_compared_0, k_X11_compared_0, bk_X11_compared_27, k_X11_compared_27, bk_X11_compared_50, k_X11_compared_50, ↓e_rk1, ↓e_rk0, ↓e_sk0, ↓e_sks, ↓e_ldi0, ↓e_ldis, ↓e_ldl0, ↓e_ldls, ↓e_lda0, ↓e_ldas, ↓e_ok0, ↓e_okss, ↓e_ok1i, ↓e_ok1r, ↓e_ok1n, ↓e_sti, ↓e_sta, ↓e_1, ↓e_2, ↓e_l1, ↓e_l2, ↓e_li, ↓e_sw0, ↓e_sws, ↓e_ceq, ↓e_cne, ↓e_clt, ↓e_cge, ↓e_cgt, ↓e_cle, ↓e_nil, ↓e_cons, ↓e_iconst, ↓e_bipush, ↓e_sipush, ↓e_ldc, ↓e_ldcw, ↓e_ldc2, ↓e_lconst, ↓e_iloadn, ↓e_iload, ↓e_lloadn, ↓e_lload, ↓e_aloadn, ↓e_aload, ↓e_istoren, ↓e_istore, ↓e_astoren, ↓e_astore, ↓e_add, ↓e_iinc, ↓e_iadd, ↓e_isub, ↓e_imul, ↓e_iand, ↓e_ior, ↓e_ixor, ↓e_ishl, ↓e_iushr, ↓e_idiv, ↓e_irem, ↓e_ineg, ↓e_i2l, ↓e_i2b, ↓e_i2s, ↓e_l2i, ↓e_land, ↓e_lor, ↓e_lshl, ↓e_lshr, ↓e_lushr, ↓e_lcmp, ↓e_dupi, ↓e_dupr, ↓e_popi, ↓e_dup2, ↓e_goto, ↓e_if, ↓e_icmp, ↓e_tsw, ↓e_lsw, ↓e_getf, ↓e_putf, ↓e_gets, ↓e_iald, ↓e_cald, ↓e_iast, ↓e_aald, ↓e_aast, ↓e_len, ↓e_copy, ↓e_abs, ↓e_max, ↓e_min, ↓e_iret, ↓e_aret, ↓e_vret, ↓e_is0, ↓e_is1, ↓e_is2, ↓e_is3, ↓e_is4, ↓e_iv1, ↓e_iv2, ↓e_iv3, ↓e_iv4, ↓e_iv5, ↓e_iv6, ↓rt_X11_compared, ↓reduceIte, Nat.reduceAdd, Nat.reduceEqDiff, ↓zcl0, ↓zclv, List.map_nil, List.sum_nil, List.map_cons, List.sum_cons, zcat, true_and, and_true, Nat.reduceLeDiff, Nat.reduceAdd, eq_self, forall_const, e_ok0, e_okss, e_ok1i, e_ok1r, e_ok1n, zl_1, zl_60, zl_61, zl_62, zl_20000, Int.reduceToNat, Int.reduceAdd, Int.reduceMul, Int.reduceSub, Int.reduceNeg, Int.reduceLT, Int.reduceLE, Int.reduceEq, not_false_eq_true, not_true_eq_false, false_implies, true_implies, implies_true, Int.reduceDiv, Int.reduceMod, zr8_zr, zr_zbo, z01_zbo, z01_0, z01_1, zbo_eq0, zup_eq, zup_o, zup_k, ne_eq, ↓ct_rcm_here, ↓r_here, ↓B_here, ↓ct_rcm_lay, ↓r_lay, ↓B_lay, ↓ct_rcm_rsm, ↓r_rsm, ↓B_rsm, ↓v_87, ↓g_87_0, ↓l_88, ↓s_88, ↓n_88, ↓g_87_1, ↓l_89, ↓s_89, ↓n_89, ↓g_87_2, ↓l_90, ↓s_90, ↓n_90, ↓g_87_3, ↓p_87_3, ↓g_87_4, ↓l_91, ↓s_91, ↓n_91, ↓g_87_5, ↓p_87_5, ↓g_87_6, ↓p_87_6, ↓g_87_7, ↓p_87_7, ↓g_87_8, ↓p_87_8, ↓g_87_9, ↓p_87_9, ↓g_87_10, ↓p_87_10, ↓g_87_11, ↓l_92, ↓s_92, ↓n_92, ↓g_87_12, ↓l_93, ↓s_93, ↓n_93, ↓g_87_13, ↓p_87_13, ↓g_87_14, ↓l_94, ↓s_94, ↓n_94, ↓g_87_15, ↓p_87_15, ↓g_87_16, ↓l_95, ↓s_95, ↓n_95, ↓g_87_17, ↓l_96, ↓s_96, ↓n_96, ↓g_87_18, ↓l_97, ↓s_97, ↓n_97, ↓g_87_19, ↓p_87_19, ↓g_87_20, ↓p_87_20, ↓g_87_21, ↓l_98, ↓s_98, ↓n_98, ↓g_87_22, ↓l_99, ↓s_99, ↓n_99, ↓g_87_23, ↓l_100, ↓s_100, ↓n_100, ↓g_87_24, ↓l_101, ↓s_101, ↓n_101, ↓rdC]
    refine ⟨ho, op, fun M' e o' fx' => ⟨o', ?_⟩⟩
    have hr := hre_rg o'
    have eH : hre (tT M') (tn M') (sP M') = hre (tT M) (tn M) (sP M') := by rw [fx'.eT, fx'.eN]
    rw [eH] at hr ⊢
    have ep : pvB (tT M) (tn M) (pnt (tT M) (tn M) (M 87 10) r) (sP M) = if lvl (hre (tT M) (tn M) (sP M')) = 2 then lyy (20000 + hre (tT M) (tn M) (sP M')) (pvS (tT M) (tn M) (pnt (tT M) (tn M) (M 87 10) r) (adv (sP M'))) else sP M' := by
      unfold pvB plw
      rw [← e]
      rfl
    rw [ep] at hC
    obtain ⟨H, hH⟩ : ∃ H, hre (tT M) (tn M) (sP M') = H := ⟨_, rfl⟩
    rw [hH] at hr hC ⊢
    have zh := zr_rg hr
    rw [zh]
    have r9 : ¬ lvl H = 2 → X 50 [some (.inr (.inr (.inl 87))), some (.inl H)] [] (zG, M') (0, 0) := by
      intro q
      refine bs_X11_compared_50 hX ?_
      simp only [bk_X11_compared_0, k_X11_compared_0, bk_X11_compared_27, k_X11_compared_27, bk_X11_compared_50, k_X11_compared_50, ↓e_rk1, ↓e_rk0, ↓e_sk0, ↓e_sks, ↓e_ldi0, ↓e_ldis, ↓e_ldl0, ↓e_ldls, ↓e_lda0, ↓e_ldas, ↓e_ok0, ↓e_okss, ↓e_ok1i, ↓e_ok1r, ↓e_ok1n, ↓e_sti, ↓e_sta, ↓e_1, ↓e_2, ↓e_l1, ↓e_l2, ↓e_li, ↓e_sw0, ↓e_sws, ↓e_ceq, ↓e_cne, ↓e_clt, ↓e_cge, ↓e_cgt, ↓e_cle, ↓e_nil, ↓e_cons, ↓e_iconst, ↓e_bipush, ↓e_sipush, ↓e_ldc, ↓e_ldcw, ↓e_ldc2, ↓e_lconst, ↓e_iloadn, ↓e_iload, ↓e_lloadn, ↓e_lload, ↓e_aloadn, ↓e_aload, ↓e_istoren, ↓e_istore, ↓e_astoren, ↓e_astore, ↓e_add, ↓e_iinc, ↓e_iadd, ↓e_isub, ↓e_imul, ↓e_iand, ↓e_ior, ↓e_ixor, ↓e_ishl, ↓e_iushr, ↓e_idiv, ↓e_irem, ↓e_ineg, ↓e_i2l, ↓e_i2b, ↓e_i2s, ↓e_l2i, ↓e_land, ↓e_lor, ↓e_lshl, ↓e_lshr, ↓e_lushr, ↓e_lcmp, ↓e_dupi, ↓e_dupr, ↓e_popi, ↓e_dup2, ↓e_goto, ↓e_if, ↓e_icmp, ↓e_tsw, ↓e_lsw, ↓e_getf, ↓e_putf, ↓e_gets, ↓e_iald, ↓e_cald, ↓e_iast, ↓e_aald, ↓e_aast, ↓e_len, ↓e_copy, ↓e_abs, ↓e_max, ↓e_min, ↓e_iret, ↓e_aret, ↓e_vret, ↓e_is0, ↓e_is1, ↓e_is2, ↓e_is3, ↓e_is4, ↓e_iv1, ↓e_iv2, ↓e_iv3, ↓e_iv4, ↓e_iv5, ↓e_iv6, ↓rt_X11_compared, ↓reduceIte, Nat.reduceAdd, Nat.reduceEqDiff, ↓zcl0, ↓zclv, List.map_nil, List.sum_nil, List.map_cons, List.sum_cons, zcat, true_and, and_true, Nat.reduceLeDiff, Nat.reduceAdd, eq_self, forall_const, e_ok0, e_okss, e_ok1i, e_ok1r, e_ok1n, zl_1, zl_60, zl_61, zl_62, zl_20000, Int.reduceToNat, Int.reduceAdd, Int.reduceMul, Int.reduceSub, Int.reduceNeg, Int.reduceLT, Int.reduceLE, Int.reduceEq, not_false_eq_true, not_true_eq_false, false_implies, true_implies, implies_true, Int.reduceDiv, Int.reduceMod, zr8_zr, zr_zbo, z01_zbo, z01_0, z01_1, zbo_eq0, zup_eq, zup_o, zup_k, ne_eq, ↓ct_rcm_here, ↓r_here, ↓B_here, ↓ct_rcm_lay, ↓r_lay, ↓B_lay, ↓ct_rcm_rsm, ↓r_rsm, ↓B_rsm, ↓v_87, ↓g_87_0, ↓l_88, ↓s_88, ↓n_88, ↓g_87_1, ↓l_89, ↓s_89, ↓n_89, ↓g_87_2, ↓l_90, ↓s_90, ↓n_90, ↓g_87_3, ↓p_87_3, ↓g_87_4, ↓l_91, ↓s_91, ↓n_91, ↓g_87_5, ↓p_87_5, ↓g_87_6, ↓p_87_6, ↓g_87_7, ↓p_87_7, ↓g_87_8, ↓p_87_8, ↓g_87_9, ↓p_87_9, ↓g_87_10, ↓p_87_10, ↓g_87_11, ↓l_92, ↓s_92, ↓n_92, ↓g_87_12, ↓l_93, ↓s_93, ↓n_93, ↓g_87_13, ↓p_87_13, ↓g_87_14, ↓l_94, ↓s_94, ↓n_94, ↓g_87_15, ↓p_87_15, ↓g_87_16, ↓l_95, ↓s_95, ↓n_95, ↓g_87_17, ↓l_96, ↓s_96, ↓n_96, ↓g_87_18, ↓l_97, ↓s_97, ↓n_97, ↓g_87_19, ↓p_87_19, ↓g_87_20, ↓p_87_20, ↓g_87_21, ↓l_98, ↓s_98, ↓n_98, ↓g_87_22, ↓l_99, ↓s_99, ↓n_99, ↓g_87_23, ↓l_100, ↓s_100, ↓n_100, ↓g_87_24, ↓l_101, ↓s_101, ↓n_101, ↓rdC]
      rw [if_neg q] at hC
      exact hC M' rfl o' fx'
    have g9 : lvl H = 2 → X 27 [some (.inr (.inr (.inl 87))), some (.inl H)] [] (zG, M') (0, 0) := by
      intro q
      have hn := hre_nn (T := tT M) (n := tn M) (s := sP M') (by rw [hH]; have := lvl_nn (c := H) (by omega); omega)
      obtain ⟨a1, a2, a3⟩ := adv_M o' (by rw [fx'.eN]; exact hn.1)
      refine bs_X11_compared_27 hX ?_
      simp only [bk_X11_compared_0, k_X11_compared_0, bk_X11_compared_27, k_X11_compared_27, bk_X11_compared_50, k_X11_compared_50, ↓e_rk1, ↓e_rk0, ↓e_sk0, ↓e_sks, ↓e_ldi0, ↓e_ldis, ↓e_ldl0, ↓e_ldls, ↓e_lda0, ↓e_ldas, ↓e_ok0, ↓e_okss, ↓e_ok1i, ↓e_ok1r, ↓e_ok1n, ↓e_sti, ↓e_sta, ↓e_1, ↓e_2, ↓e_l1, ↓e_l2, ↓e_li, ↓e_sw0, ↓e_sws, ↓e_ceq, ↓e_cne, ↓e_clt, ↓e_cge, ↓e_cgt, ↓e_cle, ↓e_nil, ↓e_cons, ↓e_iconst, ↓e_bipush, ↓e_sipush, ↓e_ldc, ↓e_ldcw, ↓e_ldc2, ↓e_lconst, ↓e_iloadn, ↓e_iload, ↓e_lloadn, ↓e_lload, ↓e_aloadn, ↓e_aload, ↓e_istoren, ↓e_istore, ↓e_astoren, ↓e_astore, ↓e_add, ↓e_iinc, ↓e_iadd, ↓e_isub, ↓e_imul, ↓e_iand, ↓e_ior, ↓e_ixor, ↓e_ishl, ↓e_iushr, ↓e_idiv, ↓e_irem, ↓e_ineg, ↓e_i2l, ↓e_i2b, ↓e_i2s, ↓e_l2i, ↓e_land, ↓e_lor, ↓e_lshl, ↓e_lshr, ↓e_lushr, ↓e_lcmp, ↓e_dupi, ↓e_dupr, ↓e_popi, ↓e_dup2, ↓e_goto, ↓e_if, ↓e_icmp, ↓e_tsw, ↓e_lsw, ↓e_getf, ↓e_putf, ↓e_gets, ↓e_iald, ↓e_cald, ↓e_iast, ↓e_aald, ↓e_aast, ↓e_len, ↓e_copy, ↓e_abs, ↓e_max, ↓e_min, ↓e_iret, ↓e_aret, ↓e_vret, ↓e_is0, ↓e_is1, ↓e_is2, ↓e_is3, ↓e_is4, ↓e_iv1, ↓e_iv2, ↓e_iv3, ↓e_iv4, ↓e_iv5, ↓e_iv6, ↓rt_X11_compared, ↓reduceIte, Nat.reduceAdd, Nat.reduceEqDiff, ↓zcl0, ↓zclv, List.map_nil, List.sum_nil, List.map_cons, List.sum_cons, zcat, true_and, and_true, Nat.reduceLeDiff, Nat.reduceAdd, eq_self, forall_const, e_ok0, e_okss, e_ok1i, e_ok1r, e_ok1n, zl_1, zl_60, zl_61, zl_62, zl_20000, Int.reduceToNat, Int.reduceAdd, Int.reduceMul, Int.reduceSub, Int.reduceNeg, Int.reduceLT, Int.reduceLE, Int.reduceEq, not_false_eq_true, not_true_eq_false, false_implies, true_implies, implies_true, Int.reduceDiv, Int.reduceMod, zr8_zr, zr_zbo, z01_zbo, z01_0, z01_1, zbo_eq0, zup_eq, zup_o, zup_k, ne_eq, ↓ct_rcm_here, ↓r_here, ↓B_here, ↓ct_rcm_lay, ↓r_lay, ↓B_lay, ↓ct_rcm_rsm, ↓r_rsm, ↓B_rsm, ↓v_87, ↓g_87_0, ↓l_88, ↓s_88, ↓n_88, ↓g_87_1, ↓l_89, ↓s_89, ↓n_89, ↓g_87_2, ↓l_90, ↓s_90, ↓n_90, ↓g_87_3, ↓p_87_3, ↓g_87_4, ↓l_91, ↓s_91, ↓n_91, ↓g_87_5, ↓p_87_5, ↓g_87_6, ↓p_87_6, ↓g_87_7, ↓p_87_7, ↓g_87_8, ↓p_87_8, ↓g_87_9, ↓p_87_9, ↓g_87_10, ↓p_87_10, ↓g_87_11, ↓l_92, ↓s_92, ↓n_92, ↓g_87_12, ↓l_93, ↓s_93, ↓n_93, ↓g_87_13, ↓p_87_13, ↓g_87_14, ↓l_94, ↓s_94, ↓n_94, ↓g_87_15, ↓p_87_15, ↓g_87_16, ↓l_95, ↓s_95, ↓n_95, ↓g_87_17, ↓l_96, ↓s_96, ↓n_96, ↓g_87_18, ↓l_97, ↓s_97, ↓n_97, ↓g_87_19, ↓p_87_19, ↓g_87_20, ↓p_87_20, ↓g_87_21, ↓l_98, ↓s_98, ↓n_98, ↓g_87_22, ↓l_99, ↓s_99, ↓n_99, ↓g_87_23, ↓l_100, ↓s_100, ↓n_100, ↓g_87_24, ↓l_101, ↓s_101, ↓n_101, ↓rdC]
      refine ⟨a2, ⟨by rw [a3.op, fx'.op]; exact op.1, op.2⟩, fun M2 e2 o2 fx2 => ?_⟩
      rw [a3.eT, a3.eN, fx'.eT, fx'.eN, fx'.u, a1] at e2
      have ok1 := a2.1
      rw [a3.eN, fx'.eN, a1] at ok1
      obtain ⟨g1, g2, g3, g4, g5⟩ := gd _ ok1
      rw [← e2] at g2 g3
      have ea : (adv (sP M')).1 = (sP M').1 + 1 := rfl
      have el : (adv (sP M')).2.2 = (sP M').2.2 := rfl
      rw [el] at g3
      have hl' := o'.1.2.1
      rw [if_pos q] at hC
      refine ⟨o2, fun _ => by omega, fun M3 e3 o3 fx3 => ?_⟩
      refine bs_X11_compared_50 hX ?_
      simp only [bk_X11_compared_0, k_X11_compared_0, bk_X11_compared_27, k_X11_compared_27, bk_X11_compared_50, k_X11_compared_50, ↓e_rk1, ↓e_rk0, ↓e_sk0, ↓e_sks, ↓e_ldi0, ↓e_ldis, ↓e_ldl0, ↓e_ldls, ↓e_lda0, ↓e_ldas, ↓e_ok0, ↓e_okss, ↓e_ok1i, ↓e_ok1r, ↓e_ok1n, ↓e_sti, ↓e_sta, ↓e_1, ↓e_2, ↓e_l1, ↓e_l2, ↓e_li, ↓e_sw0, ↓e_sws, ↓e_ceq, ↓e_cne, ↓e_clt, ↓e_cge, ↓e_cgt, ↓e_cle, ↓e_nil, ↓e_cons, ↓e_iconst, ↓e_bipush, ↓e_sipush, ↓e_ldc, ↓e_ldcw, ↓e_ldc2, ↓e_lconst, ↓e_iloadn, ↓e_iload, ↓e_lloadn, ↓e_lload, ↓e_aloadn, ↓e_aload, ↓e_istoren, ↓e_istore, ↓e_astoren, ↓e_astore, ↓e_add, ↓e_iinc, ↓e_iadd, ↓e_isub, ↓e_imul, ↓e_iand, ↓e_ior, ↓e_ixor, ↓e_ishl, ↓e_iushr, ↓e_idiv, ↓e_irem, ↓e_ineg, ↓e_i2l, ↓e_i2b, ↓e_i2s, ↓e_l2i, ↓e_land, ↓e_lor, ↓e_lshl, ↓e_lshr, ↓e_lushr, ↓e_lcmp, ↓e_dupi, ↓e_dupr, ↓e_popi, ↓e_dup2, ↓e_goto, ↓e_if, ↓e_icmp, ↓e_tsw, ↓e_lsw, ↓e_getf, ↓e_putf, ↓e_gets, ↓e_iald, ↓e_cald, ↓e_iast, ↓e_aald, ↓e_aast, ↓e_len, ↓e_copy, ↓e_abs, ↓e_max, ↓e_min, ↓e_iret, ↓e_aret, ↓e_vret, ↓e_is0, ↓e_is1, ↓e_is2, ↓e_is3, ↓e_is4, ↓e_iv1, ↓e_iv2, ↓e_iv3, ↓e_iv4, ↓e_iv5, ↓e_iv6, ↓rt_X11_compared, ↓reduceIte, Nat.reduceAdd, Nat.reduceEqDiff, ↓zcl0, ↓zclv, List.map_nil, List.sum_nil, List.map_cons, List.sum_cons, zcat, true_and, and_true, Nat.reduceLeDiff, Nat.reduceAdd, eq_self, forall_const, e_ok0, e_okss, e_ok1i, e_ok1r, e_ok1n, zl_1, zl_60, zl_61, zl_62, zl_20000, Int.reduceToNat, Int.reduceAdd, Int.reduceMul, Int.reduceSub, Int.reduceNeg, Int.reduceLT, Int.reduceLE, Int.reduceEq, not_false_eq_true, not_true_eq_false, false_implies, true_implies, implies_true, Int.reduceDiv, Int.reduceMod, zr8_zr, zr_zbo, z01_zbo, z01_0, z01_1, zbo_eq0, zup_eq, zup_o, zup_k, ne_eq, ↓ct_rcm_here, ↓r_here, ↓B_here, ↓ct_rcm_lay, ↓r_lay, ↓B_lay, ↓ct_rcm_rsm, ↓r_rsm, ↓B_rsm, ↓v_87, ↓g_87_0, ↓l_88, ↓s_88, ↓n_88, ↓g_87_1, ↓l_89, ↓s_89, ↓n_89, ↓g_87_2, ↓l_90, ↓s_90, ↓n_90, ↓g_87_3, ↓p_87_3, ↓g_87_4, ↓l_91, ↓s_91, ↓n_91, ↓g_87_5, ↓p_87_5, ↓g_87_6, ↓p_87_6, ↓g_87_7, ↓p_87_7, ↓g_87_8, ↓p_87_8, ↓g_87_9, ↓p_87_9, ↓g_87_10, ↓p_87_10, ↓g_87_11, ↓l_92, ↓s_92, ↓n_92, ↓g_87_12, ↓l_93, ↓s_93, ↓n_93, ↓g_87_13, ↓p_87_13, ↓g_87_14, ↓l_94, ↓s_94, ↓n_94, ↓g_87_15, ↓p_87_15, ↓g_87_16, ↓l_95, ↓s_95, ↓n_95, ↓g_87_17, ↓l_96, ↓s_96, ↓n_96, ↓g_87_18, ↓l_97, ↓s_97, ↓n_97, ↓g_87_19, ↓p_87_19, ↓g_87_20, ↓p_87_20, ↓g_87_21, ↓l_98, ↓s_98, ↓n_98, ↓g_87_22, ↓l_99, ↓s_99, ↓n_99, ↓g_87_23, ↓l_100, ↓s_100, ↓n_100, ↓g_87_24, ↓l_101, ↓s_101, ↓n_101, ↓rdC]
      refine hC M3 ?_ o3 ((fx'.trans a3).trans (fx2.trans fx3))
      rw [e3, e2]
    repeat' (first | assumption | apply And.intro | intro _)
    all_goals first | (apply g9; unfold lvl; (repeat' split) <;> omega) | (apply r9; unfold lvl; (repeat' split) <;> omega)
def ct_rbo (r : Nat) : Nat → ZC := fun n => if n = 132 then C_here else if n = 134 then C_takes else if n = 136 then C_lay else if n = 139 then C_rcm (r) else fun _ _ _ => False
theorem ct_rbo_here {r : Nat} {as : List ZV} {h : ZH} {post : Option ZV → ZH → Prop} : ct_rbo r 132 as h post = C_here as h post := rfl
theorem ct_rbo_takes {r : Nat} {as : List ZV} {h : ZH} {post : Option ZV → ZH → Prop} : ct_rbo r 134 as h post = C_takes as h post := rfl
theorem ct_rbo_lay {r : Nat} {as : List ZV} {h : ZH} {post : Option ZV → ZH → Prop} : ct_rbo r 136 as h post = C_lay as h post := rfl
theorem ct_rbo_rcm {r : Nat} {as : List ZV} {h : ZH} {post : Option ZV → ZH → Prop} : ct_rbo r 139 as h post = C_rcm (r) as h post := rfl
theorem c_rbo {E : ZE} {d : Nat} {r : Nat} (hd : 3 ≤ d) (i_rcm : ∃ d', d' < d ∧ zMet E d' mX11_compared (C_rcm (r))) : zMet E d mX11_both (C_rbo (r)) := by
  refine zmet_of (o := 11) (ini := false) (CT := ct_rbo r) gd_X11_both rfl (fun h => by cases h) (by omega) ?_ ?_
  · intro n as h post hh
    unfold ct_rbo at hh
    by_cases c : n = 132
    · subst c; exact ⟨gd_X11_here, 1, by omega, c_here (by omega)⟩
    rw [if_neg c] at hh
    by_cases c : n = 134
    · subst c; exact ⟨gd_X11_takes, 2, by omega, c_takes (by omega)⟩
    rw [if_neg c] at hh
    by_cases c : n = 136
    · subst c; exact ⟨gd_X11_lay, 1, by omega, c_lay (by omega)⟩
    rw [if_neg c] at hh
    by_cases c : n = 139
    · subst c; exact ⟨gd_X11_compared, i_rcm⟩
    rw [if_neg c] at hh
    exact hh.elim
  intro as h post hC
  match as, hC with
  | [.inr (.inr (.inl 87))], hC =>
    refine ⟨Nat.le_of_ble_eq_true rfl, fun X hX => bs_X11_both_0 hX ?_⟩
    obtain ⟨G, M⟩ := h
    obtain ⟨hG, hC⟩ := hC
    dsimp only at hG
    subst hG
    simp only [B_rbo, rdC] at hC
    show bk_X11_both_0 E (ct_rbo r) X _ [some (.inr (.inr (.inl 87)))] [] (zG, M) (0, 0)
    obtain ⟨ho, op, hC⟩ := hC
    have gd : Gd (tn M) (pvB (tT M) (tn M) (pnt (tT M) (tn M) (M 87 10) r)) := Gd_plw (by omega) (Gd_plw (by omega) (Gd_plw (by omega) (Gd_pnt r)))
    obtain ⟨f, hf⟩ : ∃ f, (pvB (tT M) (tn M) (pnt (tT M) (tn M) (M 87 10) r)) = f := ⟨_, rfl⟩
    rw [hf] at gd
    have fin : ∀ (M' : ZMm), okM M' → Fx M M' → sP M' = plw (tT M) (tn M) f 1 50 (sP M) → post none (zG, M') := by
      intro M' o' fx' e
      rw [← hf] at e
      exact hC M' e o' fx'
    have lp : ∀ (m : Nat) (M' : ZMm), okM M' → Fx M M' → tn M ≤ (sP M').1 + m → plp (tT M) (tn M) f 1 m (sP M') = plw (tT M) (tn M) f 1 50 (sP M) → X 4 [some (.inr (.inr (.inl 87)))] [] (zG, M') (0, 0) := by
      intro m
      induction m with
      | zero =>
        intro M' o' fx' hm hp
        refine bs_X11_both_4 hX ?_
        have eH : hre (tT M') (tn M') (sP M') = -1 := by
          rw [fx'.eT, fx'.eN]
          unfold hre
          rw [if_neg (by omega)]
        simp only [bk_X11_both_0, k_X11_both_0, bk_X11_both_4, k_X11_both_4, bk_X11_both_13, k_X11_both_13, bk_X11_both_27, k_X11_both_27, ↓e_rk1, ↓e_rk0, ↓e_sk0, ↓e_sks, ↓e_ldi0, ↓e_ldis, ↓e_ldl0, ↓e_ldls, ↓e_lda0, ↓e_ldas, ↓e_ok0, ↓e_okss, ↓e_ok1i, ↓e_ok1r, ↓e_ok1n, ↓e_sti, ↓e_sta, ↓e_1, ↓e_2, ↓e_l1, ↓e_l2, ↓e_li, ↓e_sw0, ↓e_sws, ↓e_ceq, ↓e_cne, ↓e_clt, ↓e_cge, ↓e_cgt, ↓e_cle, ↓e_nil, ↓e_cons, ↓e_iconst, ↓e_bipush, ↓e_sipush, ↓e_ldc, ↓e_ldcw, ↓e_ldc2, ↓e_lconst, ↓e_iloadn, ↓e_iload, ↓e_lloadn, ↓e_lload, ↓e_aloadn, ↓e_aload, ↓e_istoren, ↓e_istore, ↓e_astoren, ↓e_astore, ↓e_add, ↓e_iinc, ↓e_iadd, ↓e_isub, ↓e_imul, ↓e_iand, ↓e_ior, ↓e_ixor, ↓e_ishl, ↓e_iushr, ↓e_idiv, ↓e_irem, ↓e_ineg, ↓e_i2l, ↓e_i2b, ↓e_i2s, ↓e_l2i, ↓e_land, ↓e_lor, ↓e_lshl, ↓e_lshr, ↓e_lushr, ↓e_lcmp, ↓e_dupi, ↓e_dupr, ↓e_popi, ↓e_dup2, ↓e_goto, ↓e_if, ↓e_icmp, ↓e_tsw, ↓e_lsw, ↓e_getf, ↓e_putf, ↓e_gets, ↓e_iald, ↓e_cald, ↓e_iast, ↓e_aald, ↓e_aast, ↓e_len, ↓e_copy, ↓e_abs, ↓e_max, ↓e_min, ↓e_iret, ↓e_aret, ↓e_vret, ↓e_is0, ↓e_is1, ↓e_is2, ↓e_is3, ↓e_is4, ↓e_iv1, ↓e_iv2, ↓e_iv3, ↓e_iv4, ↓e_iv5, ↓e_iv6, ↓rt_X11_both, ↓reduceIte, Nat.reduceAdd, Nat.reduceEqDiff, ↓zcl0, ↓zclv, List.map_nil, List.sum_nil, List.map_cons, List.sum_cons, zcat, true_and, and_true, Nat.reduceLeDiff, Nat.reduceAdd, eq_self, forall_const, e_ok0, e_okss, e_ok1i, e_ok1r, e_ok1n, zl_38, zl_20038, Int.reduceToNat, Int.reduceAdd, Int.reduceMul, Int.reduceSub, Int.reduceNeg, Int.reduceLT, Int.reduceLE, Int.reduceEq, not_false_eq_true, not_true_eq_false, false_implies, true_implies, implies_true, Int.reduceDiv, Int.reduceMod, zr8_zr, zr_zbo, z01_zbo, z01_0, z01_1, zbo_eq0, zup_eq, zup_o, zup_k, ne_eq, ↓ct_rbo_here, ↓r_here, ↓B_here, ↓ct_rbo_takes, ↓r_takes, ↓B_takes, ↓ct_rbo_lay, ↓r_lay, ↓B_lay, ↓ct_rbo_rcm, ↓r_rcm, ↓B_rcm, ↓v_87, ↓g_87_0, ↓l_88, ↓s_88, ↓n_88, ↓g_87_1, ↓l_89, ↓s_89, ↓n_89, ↓g_87_2, ↓l_90, ↓s_90, ↓n_90, ↓g_87_3, ↓p_87_3, ↓g_87_4, ↓l_91, ↓s_91, ↓n_91, ↓g_87_5, ↓p_87_5, ↓g_87_6, ↓p_87_6, ↓g_87_7, ↓p_87_7, ↓g_87_8, ↓p_87_8, ↓g_87_9, ↓p_87_9, ↓g_87_10, ↓p_87_10, ↓g_87_11, ↓l_92, ↓s_92, ↓n_92, ↓g_87_12, ↓l_93, ↓s_93, ↓n_93, ↓g_87_13, ↓p_87_13, ↓g_87_14, ↓l_94, ↓s_94, ↓n_94, ↓g_87_15, ↓p_87_15, ↓g_87_16, ↓l_95, ↓s_95, ↓n_95, ↓g_87_17, ↓l_96, ↓s_96, ↓n_96, ↓g_87_18, ↓l_97, ↓s_97, ↓n_97, ↓g_87_19, ↓p_87_19, ↓g_87_20, ↓p_87_20, ↓g_87_21, ↓l_98, ↓s_98, ↓n_98, ↓g_87_22, ↓l_99, ↓s_99, ↓n_99, ↓g_87_23, ↓l_100, ↓s_100, ↓n_100, ↓g_87_24, ↓l_101, ↓s_101, ↓n_101, ↓rdC, eH, zl_0, zl_1]
        exact ⟨o', fin M' o' fx' hp⟩
      | succ m ih =>
        intro M' o' fx' hm hp
        refine bs_X11_both_4 hX ?_
        have hr := hre_rg o'
        have eH : hre (tT M') (tn M') (sP M') = hre (tT M) (tn M) (sP M') := by rw [fx'.eT, fx'.eN]
        rw [eH] at hr
        have ep : plp (tT M) (tn M) f 1 (m + 1) (sP M') = if lvl (hre (tT M) (tn M) (sP M')) = 1 then plp (tT M) (tn M) f 1 m (lyy (20000 + hre (tT M) (tn M) (sP M')) (f (adv (sP M')))) else sP M' := rfl
        rw [ep] at hp
        have body : ∀ (H : Int), H = hre (tT M) (tn M) (sP M') → lvl H = 1 → ∀ M1 : ZMm, sP M1 = adv (sP M') → okM M1 → Fx M' M1 → ∀ M2 : ZMm, sP M2 = f (sP M1) → okM M2 → Fx M1 M2 → ((sP M2).2.1 < 0 → (sP M2).2.2.length < (sP M2).1) ∧ ∀ M3 : ZMm, sP M3 = lyy (20000 + H) (sP M2) → okM M3 → Fx M2 M3 → X 4 [some (.inr (.inr (.inl 87)))] [] (zG, M3) (0, 0) := by
          intro H hH hl M1 e1 o1 fx1 M2 e2 o2 fx2
          rw [← hH, if_pos hl] at hp
          have ok1 := o1.1
          rw [fx1.eN, fx'.eN] at ok1
          obtain ⟨g1, g2, g3, g4, g5⟩ := gd (sP M1) ok1
          rw [← e2] at g2 g3
          have ea : (sP M1).1 = (sP M').1 + 1 := by rw [e1]; rfl
          have el : (sP M1).2.2 = (sP M').2.2 := by rw [e1]; rfl
          rw [el] at g3
          have hl' := o'.1.2.1
          refine ⟨fun _ => by omega, fun M3 e3 o3 fx3 => ih M3 o3 (((fx'.trans fx1).trans fx2).trans fx3) ?_ ?_⟩
          · have : (sP M3).1 = (sP M2).1 := by rw [e3]; unfold lyy; split <;> rfl
            omega
          · rw [e3, e2, e1]; exact hp
        have stop : ¬ lvl (hre (tT M) (tn M) (sP M')) = 1 → post none (zG, M') := by
          intro hl
          rw [if_neg hl] at hp
          exact fin M' o' fx' hp
        obtain ⟨H, hH⟩ : ∃ H, hre (tT M) (tn M) (sP M') = H := ⟨_, rfl⟩
        rw [hH] at hr eH stop body
        simp only [bk_X11_both_0, k_X11_both_0, bk_X11_both_4, k_X11_both_4, bk_X11_both_13, k_X11_both_13, bk_X11_both_27, k_X11_both_27, ↓e_rk1, ↓e_rk0, ↓e_sk0, ↓e_sks, ↓e_ldi0, ↓e_ldis, ↓e_ldl0, ↓e_ldls, ↓e_lda0, ↓e_ldas, ↓e_ok0, ↓e_okss, ↓e_ok1i, ↓e_ok1r, ↓e_ok1n, ↓e_sti, ↓e_sta, ↓e_1, ↓e_2, ↓e_l1, ↓e_l2, ↓e_li, ↓e_sw0, ↓e_sws, ↓e_ceq, ↓e_cne, ↓e_clt, ↓e_cge, ↓e_cgt, ↓e_cle, ↓e_nil, ↓e_cons, ↓e_iconst, ↓e_bipush, ↓e_sipush, ↓e_ldc, ↓e_ldcw, ↓e_ldc2, ↓e_lconst, ↓e_iloadn, ↓e_iload, ↓e_lloadn, ↓e_lload, ↓e_aloadn, ↓e_aload, ↓e_istoren, ↓e_istore, ↓e_astoren, ↓e_astore, ↓e_add, ↓e_iinc, ↓e_iadd, ↓e_isub, ↓e_imul, ↓e_iand, ↓e_ior, ↓e_ixor, ↓e_ishl, ↓e_iushr, ↓e_idiv, ↓e_irem, ↓e_ineg, ↓e_i2l, ↓e_i2b, ↓e_i2s, ↓e_l2i, ↓e_land, ↓e_lor, ↓e_lshl, ↓e_lshr, ↓e_lushr, ↓e_lcmp, ↓e_dupi, ↓e_dupr, ↓e_popi, ↓e_dup2, ↓e_goto, ↓e_if, ↓e_icmp, ↓e_tsw, ↓e_lsw, ↓e_getf, ↓e_putf, ↓e_gets, ↓e_iald, ↓e_cald, ↓e_iast, ↓e_aald, ↓e_aast, ↓e_len, ↓e_copy, ↓e_abs, ↓e_max, ↓e_min, ↓e_iret, ↓e_aret, ↓e_vret, ↓e_is0, ↓e_is1, ↓e_is2, ↓e_is3, ↓e_is4, ↓e_iv1, ↓e_iv2, ↓e_iv3, ↓e_iv4, ↓e_iv5, ↓e_iv6, ↓rt_X11_both, ↓reduceIte, Nat.reduceAdd, Nat.reduceEqDiff, ↓zcl0, ↓zclv, List.map_nil, List.sum_nil, List.map_cons, List.sum_cons, zcat, true_and, and_true, Nat.reduceLeDiff, Nat.reduceAdd, eq_self, forall_const, e_ok0, e_okss, e_ok1i, e_ok1r, e_ok1n, zl_38, zl_20038, Int.reduceToNat, Int.reduceAdd, Int.reduceMul, Int.reduceSub, Int.reduceNeg, Int.reduceLT, Int.reduceLE, Int.reduceEq, not_false_eq_true, not_true_eq_false, false_implies, true_implies, implies_true, Int.reduceDiv, Int.reduceMod, zr8_zr, zr_zbo, z01_zbo, z01_0, z01_1, zbo_eq0, zup_eq, zup_o, zup_k, ne_eq, ↓ct_rbo_here, ↓r_here, ↓B_here, ↓ct_rbo_takes, ↓r_takes, ↓B_takes, ↓ct_rbo_lay, ↓r_lay, ↓B_lay, ↓ct_rbo_rcm, ↓r_rcm, ↓B_rcm, ↓v_87, ↓g_87_0, ↓l_88, ↓s_88, ↓n_88, ↓g_87_1, ↓l_89, ↓s_89, ↓n_89, ↓g_87_2, ↓l_90, ↓s_90, ↓n_90, ↓g_87_3, ↓p_87_3, ↓g_87_4, ↓l_91, ↓s_91, ↓n_91, ↓g_87_5, ↓p_87_5, ↓g_87_6, ↓p_87_6, ↓g_87_7, ↓p_87_7, ↓g_87_8, ↓p_87_8, ↓g_87_9, ↓p_87_9, ↓g_87_10, ↓p_87_10, ↓g_87_11, ↓l_92, ↓s_92, ↓n_92, ↓g_87_12, ↓l_93, ↓s_93, ↓n_93, ↓g_87_13, ↓p_87_13, ↓g_87_14, ↓l_94, ↓s_94, ↓n_94, ↓g_87_15, ↓p_87_15, ↓g_87_16, ↓l_95, ↓s_95, ↓n_95, ↓g_87_17, ↓l_96, ↓s_96, ↓n_96, ↓g_87_18, ↓l_97, ↓s_97, ↓n_97, ↓g_87_19, ↓p_87_19, ↓g_87_20, ↓p_87_20, ↓g_87_21, ↓l_98, ↓s_98, ↓n_98, ↓g_87_22, ↓l_99, ↓s_99, ↓n_99, ↓g_87_23, ↓l_100, ↓s_100, ↓n_100, ↓g_87_24, ↓l_101, ↓s_101, ↓n_101, ↓rdC, eH, zl_0, zl_1]
        refine ⟨o', fun q M1 a1 a2 a3 => ?_, fun q => stop (by unfold lvl; (repeat' split) <;> omega)⟩
        have q9 : lvl H = 1 := by unfold lvl; (repeat' split) <;> omega
        refine bs_X11_both_13 hX ?_
        simp only [bk_X11_both_0, k_X11_both_0, bk_X11_both_4, k_X11_both_4, bk_X11_both_13, k_X11_both_13, bk_X11_both_27, k_X11_both_27, ↓e_rk1, ↓e_rk0, ↓e_sk0, ↓e_sks, ↓e_ldi0, ↓e_ldis, ↓e_ldl0, ↓e_ldls, ↓e_lda0, ↓e_ldas, ↓e_ok0, ↓e_okss, ↓e_ok1i, ↓e_ok1r, ↓e_ok1n, ↓e_sti, ↓e_sta, ↓e_1, ↓e_2, ↓e_l1, ↓e_l2, ↓e_li, ↓e_sw0, ↓e_sws, ↓e_ceq, ↓e_cne, ↓e_clt, ↓e_cge, ↓e_cgt, ↓e_cle, ↓e_nil, ↓e_cons, ↓e_iconst, ↓e_bipush, ↓e_sipush, ↓e_ldc, ↓e_ldcw, ↓e_ldc2, ↓e_lconst, ↓e_iloadn, ↓e_iload, ↓e_lloadn, ↓e_lload, ↓e_aloadn, ↓e_aload, ↓e_istoren, ↓e_istore, ↓e_astoren, ↓e_astore, ↓e_add, ↓e_iinc, ↓e_iadd, ↓e_isub, ↓e_imul, ↓e_iand, ↓e_ior, ↓e_ixor, ↓e_ishl, ↓e_iushr, ↓e_idiv, ↓e_irem, ↓e_ineg, ↓e_i2l, ↓e_i2b, ↓e_i2s, ↓e_l2i, ↓e_land, ↓e_lor, ↓e_lshl, ↓e_lshr, ↓e_lushr, ↓e_lcmp, ↓e_dupi, ↓e_dupr, ↓e_popi, ↓e_dup2, ↓e_goto, ↓e_if, ↓e_icmp, ↓e_tsw, ↓e_lsw, ↓e_getf, ↓e_putf, ↓e_gets, ↓e_iald, ↓e_cald, ↓e_iast, ↓e_aald, ↓e_aast, ↓e_len, ↓e_copy, ↓e_abs, ↓e_max, ↓e_min, ↓e_iret, ↓e_aret, ↓e_vret, ↓e_is0, ↓e_is1, ↓e_is2, ↓e_is3, ↓e_is4, ↓e_iv1, ↓e_iv2, ↓e_iv3, ↓e_iv4, ↓e_iv5, ↓e_iv6, ↓rt_X11_both, ↓reduceIte, Nat.reduceAdd, Nat.reduceEqDiff, ↓zcl0, ↓zclv, List.map_nil, List.sum_nil, List.map_cons, List.sum_cons, zcat, true_and, and_true, Nat.reduceLeDiff, Nat.reduceAdd, eq_self, forall_const, e_ok0, e_okss, e_ok1i, e_ok1r, e_ok1n, zl_38, zl_20038, Int.reduceToNat, Int.reduceAdd, Int.reduceMul, Int.reduceSub, Int.reduceNeg, Int.reduceLT, Int.reduceLE, Int.reduceEq, not_false_eq_true, not_true_eq_false, false_implies, true_implies, implies_true, Int.reduceDiv, Int.reduceMod, zr8_zr, zr_zbo, z01_zbo, z01_0, z01_1, zbo_eq0, zup_eq, zup_o, zup_k, ne_eq, ↓ct_rbo_here, ↓r_here, ↓B_here, ↓ct_rbo_takes, ↓r_takes, ↓B_takes, ↓ct_rbo_lay, ↓r_lay, ↓B_lay, ↓ct_rbo_rcm, ↓r_rcm, ↓B_rcm, ↓v_87, ↓g_87_0, ↓l_88, ↓s_88, ↓n_88, ↓g_87_1, ↓l_89, ↓s_89, ↓n_89, ↓g_87_2, ↓l_90, ↓s_90, ↓n_90, ↓g_87_3, ↓p_87_3, ↓g_87_4, ↓l_91, ↓s_91, ↓n_91, ↓g_87_5, ↓p_87_5, ↓g_87_6, ↓p_87_6, ↓g_87_7, ↓p_87_7, ↓g_87_8, ↓p_87_8, ↓g_87_9, ↓p_87_9, ↓g_87_10, ↓p_87_10, ↓g_87_11, ↓l_92, ↓s_92, ↓n_92, ↓g_87_12, ↓l_93, ↓s_93, ↓n_93, ↓g_87_13, ↓p_87_13, ↓g_87_14, ↓l_94, ↓s_94, ↓n_94, ↓g_87_15, ↓p_87_15, ↓g_87_16, ↓l_95, ↓s_95, ↓n_95, ↓g_87_17, ↓l_96, ↓s_96, ↓n_96, ↓g_87_18, ↓l_97, ↓s_97, ↓n_97, ↓g_87_19, ↓p_87_19, ↓g_87_20, ↓p_87_20, ↓g_87_21, ↓l_98, ↓s_98, ↓n_98, ↓g_87_22, ↓l_99, ↓s_99, ↓n_99, ↓g_87_23, ↓l_100, ↓s_100, ↓n_100, ↓g_87_24, ↓l_101, ↓s_101, ↓n_101, ↓rdC]
        refine ⟨a2, ⟨by rw [a3.op, fx'.op]; exact op.1, op.2⟩, fun M2 e2 o2 fx2 => ?_⟩
        rw [a3.eT, a3.eN, a3.u, fx'.eT, fx'.eN, fx'.u, hf] at e2
        obtain ⟨b1, b2⟩ := body H rfl q9 _ a1 a2 a3 M2 e2 o2 fx2
        refine ⟨o2, b1, fun M3 e3 o3 fx3 => b2 M3 ?_ o3 fx3⟩
        rw [e3, q]
        rfl
    simp only [bk_X11_both_0, k_X11_both_0, bk_X11_both_4, k_X11_both_4, bk_X11_both_13, k_X11_both_13, bk_X11_both_27, k_X11_both_27, ↓e_rk1, ↓e_rk0, ↓e_sk0, ↓e_sks, ↓e_ldi0, ↓e_ldis, ↓e_ldl0, ↓e_ldls, ↓e_lda0, ↓e_ldas, ↓e_ok0, ↓e_okss, ↓e_ok1i, ↓e_ok1r, ↓e_ok1n, ↓e_sti, ↓e_sta, ↓e_1, ↓e_2, ↓e_l1, ↓e_l2, ↓e_li, ↓e_sw0, ↓e_sws, ↓e_ceq, ↓e_cne, ↓e_clt, ↓e_cge, ↓e_cgt, ↓e_cle, ↓e_nil, ↓e_cons, ↓e_iconst, ↓e_bipush, ↓e_sipush, ↓e_ldc, ↓e_ldcw, ↓e_ldc2, ↓e_lconst, ↓e_iloadn, ↓e_iload, ↓e_lloadn, ↓e_lload, ↓e_aloadn, ↓e_aload, ↓e_istoren, ↓e_istore, ↓e_astoren, ↓e_astore, ↓e_add, ↓e_iinc, ↓e_iadd, ↓e_isub, ↓e_imul, ↓e_iand, ↓e_ior, ↓e_ixor, ↓e_ishl, ↓e_iushr, ↓e_idiv, ↓e_irem, ↓e_ineg, ↓e_i2l, ↓e_i2b, ↓e_i2s, ↓e_l2i, ↓e_land, ↓e_lor, ↓e_lshl, ↓e_lshr, ↓e_lushr, ↓e_lcmp, ↓e_dupi, ↓e_dupr, ↓e_popi, ↓e_dup2, ↓e_goto, ↓e_if, ↓e_icmp, ↓e_tsw, ↓e_lsw, ↓e_getf, ↓e_putf, ↓e_gets, ↓e_iald, ↓e_cald, ↓e_iast, ↓e_aald, ↓e_aast, ↓e_len, ↓e_copy, ↓e_abs, ↓e_max, ↓e_min, ↓e_iret, ↓e_aret, ↓e_vret, ↓e_is0, ↓e_is1, ↓e_is2, ↓e_is3, ↓e_is4, ↓e_iv1, ↓e_iv2, ↓e_iv3, ↓e_iv4, ↓e_iv5, ↓e_iv6, ↓rt_X11_both, ↓reduceIte, Nat.reduceAdd, Nat.reduceEqDiff, ↓zcl0, ↓zclv, List.map_nil, List.sum_nil, List.map_cons, List.sum_cons, zcat, true_and, and_true, Nat.reduceLeDiff, Nat.reduceAdd, eq_self, forall_const, e_ok0, e_okss, e_ok1i, e_ok1r, e_ok1n, zl_38, zl_20038, Int.reduceToNat, Int.reduceAdd, Int.reduceMul, Int.reduceSub, Int.reduceNeg, Int.reduceLT, Int.reduceLE, Int.reduceEq, not_false_eq_true, not_true_eq_false, false_implies, true_implies, implies_true, Int.reduceDiv, Int.reduceMod, zr8_zr, zr_zbo, z01_zbo, z01_0, z01_1, zbo_eq0, zup_eq, zup_o, zup_k, ne_eq, ↓ct_rbo_here, ↓r_here, ↓B_here, ↓ct_rbo_takes, ↓r_takes, ↓B_takes, ↓ct_rbo_lay, ↓r_lay, ↓B_lay, ↓ct_rbo_rcm, ↓r_rcm, ↓B_rcm, ↓v_87, ↓g_87_0, ↓l_88, ↓s_88, ↓n_88, ↓g_87_1, ↓l_89, ↓s_89, ↓n_89, ↓g_87_2, ↓l_90, ↓s_90, ↓n_90, ↓g_87_3, ↓p_87_3, ↓g_87_4, ↓l_91, ↓s_91, ↓n_91, ↓g_87_5, ↓p_87_5, ↓g_87_6, ↓p_87_6, ↓g_87_7, ↓p_87_7, ↓g_87_8, ↓p_87_8, ↓g_87_9, ↓p_87_9, ↓g_87_10, ↓p_87_10, ↓g_87_11, ↓l_92, ↓s_92, ↓n_92, ↓g_87_12, ↓l_93, ↓s_93, ↓n_93, ↓g_87_13, ↓p_87_13, ↓g_87_14, ↓l_94, ↓s_94, ↓n_94, ↓g_87_15, ↓p_87_15, ↓g_87_16, ↓l_95, ↓s_95, ↓n_95, ↓g_87_17, ↓l_96, ↓s_96, ↓n_96, ↓g_87_18, ↓l_97, ↓s_97, ↓n_97, ↓g_87_19, ↓p_87_19, ↓g_87_20, ↓p_87_20, ↓g_87_21, ↓l_98, ↓s_98, ↓n_98, ↓g_87_22, ↓l_99, ↓s_99, ↓n_99, ↓g_87_23, ↓l_100, ↓s_100, ↓n_100, ↓g_87_24, ↓l_101, ↓s_101, ↓n_101, ↓rdC]
    refine ⟨ho, op, fun M1 e1 o1 fx1 => lp 50 M1 o1 fx1 ?_ ?_⟩
    · have := ho.sz
      omega
    · show plp (tT M) (tn M) f 1 50 (sP M1) = plp (tT M) (tn M) f 1 50 (f (sP M))
      rw [← hf, e1]
def ct_rei (r : Nat) : Nat → ZC := fun n => if n = 132 then C_here else if n = 134 then C_takes else if n = 136 then C_lay else if n = 138 then C_rbo (r) else fun _ _ _ => False
theorem ct_rei_here {r : Nat} {as : List ZV} {h : ZH} {post : Option ZV → ZH → Prop} : ct_rei r 132 as h post = C_here as h post := rfl
theorem ct_rei_takes {r : Nat} {as : List ZV} {h : ZH} {post : Option ZV → ZH → Prop} : ct_rei r 134 as h post = C_takes as h post := rfl
theorem ct_rei_lay {r : Nat} {as : List ZV} {h : ZH} {post : Option ZV → ZH → Prop} : ct_rei r 136 as h post = C_lay as h post := rfl
theorem ct_rei_rbo {r : Nat} {as : List ZV} {h : ZH} {post : Option ZV → ZH → Prop} : ct_rei r 138 as h post = C_rbo (r) as h post := rfl
theorem c_rei {E : ZE} {d : Nat} {r : Nat} (hd : 3 ≤ d) (i_rbo : ∃ d', d' < d ∧ zMet E d' mX11_both (C_rbo (r))) : zMet E d mX11_either (C_rei (r)) := by
  refine zmet_of (o := 11) (ini := false) (CT := ct_rei r) gd_X11_either rfl (fun h => by cases h) (by omega) ?_ ?_
  · intro n as h post hh
    unfold ct_rei at hh
    by_cases c : n = 132
    · subst c; exact ⟨gd_X11_here, 1, by omega, c_here (by omega)⟩
    rw [if_neg c] at hh
    by_cases c : n = 134
    · subst c; exact ⟨gd_X11_takes, 2, by omega, c_takes (by omega)⟩
    rw [if_neg c] at hh
    by_cases c : n = 136
    · subst c; exact ⟨gd_X11_lay, 1, by omega, c_lay (by omega)⟩
    rw [if_neg c] at hh
    by_cases c : n = 138
    · subst c; exact ⟨gd_X11_both, i_rbo⟩
    rw [if_neg c] at hh
    exact hh.elim
  intro as h post hC
  match as, hC with
  | [.inr (.inr (.inl 87))], hC =>
    refine ⟨Nat.le_of_ble_eq_true rfl, fun X hX => bs_X11_either_0 hX ?_⟩
    obtain ⟨G, M⟩ := h
    obtain ⟨hG, hC⟩ := hC
    dsimp only at hG
    subst hG
    simp only [B_rei, rdC] at hC
    show bk_X11_either_0 E (ct_rei r) X _ [some (.inr (.inr (.inl 87)))] [] (zG, M) (0, 0)
    obtain ⟨ho, op, hC⟩ := hC
    have gd : Gd (tn M) (pvA (tT M) (tn M) (pnt (tT M) (tn M) (M 87 10) r)) := Gd_plw (by omega) (Gd_plw (by omega) (Gd_plw (by omega) (Gd_plw (by omega) (Gd_pnt r))))
    obtain ⟨f, hf⟩ : ∃ f, (pvA (tT M) (tn M) (pnt (tT M) (tn M) (M 87 10) r)) = f := ⟨_, rfl⟩
    rw [hf] at gd
    have fin : ∀ (M' : ZMm), okM M' → Fx M M' → sP M' = plw (tT M) (tn M) f 0 50 (sP M) → post none (zG, M') := by
      intro M' o' fx' e
      rw [← hf] at e
      exact hC M' e o' fx'
    have lp : ∀ (m : Nat) (M' : ZMm), okM M' → Fx M M' → tn M ≤ (sP M').1 + m → plp (tT M) (tn M) f 0 m (sP M') = plw (tT M) (tn M) f 0 50 (sP M) → X 4 [some (.inr (.inr (.inl 87)))] [] (zG, M') (0, 0) := by
      intro m
      induction m with
      | zero =>
        intro M' o' fx' hm hp
        refine bs_X11_either_4 hX ?_
        have eH : hre (tT M') (tn M') (sP M') = -1 := by
          rw [fx'.eT, fx'.eN]
          unfold hre
          rw [if_neg (by omega)]
        simp only [bk_X11_either_0, k_X11_either_0, bk_X11_either_4, k_X11_either_4, bk_X11_either_13, k_X11_either_13, bk_X11_either_27, k_X11_either_27, ↓e_rk1, ↓e_rk0, ↓e_sk0, ↓e_sks, ↓e_ldi0, ↓e_ldis, ↓e_ldl0, ↓e_ldls, ↓e_lda0, ↓e_ldas, ↓e_ok0, ↓e_okss, ↓e_ok1i, ↓e_ok1r, ↓e_ok1n, ↓e_sti, ↓e_sta, ↓e_1, ↓e_2, ↓e_l1, ↓e_l2, ↓e_li, ↓e_sw0, ↓e_sws, ↓e_ceq, ↓e_cne, ↓e_clt, ↓e_cge, ↓e_cgt, ↓e_cle, ↓e_nil, ↓e_cons, ↓e_iconst, ↓e_bipush, ↓e_sipush, ↓e_ldc, ↓e_ldcw, ↓e_ldc2, ↓e_lconst, ↓e_iloadn, ↓e_iload, ↓e_lloadn, ↓e_lload, ↓e_aloadn, ↓e_aload, ↓e_istoren, ↓e_istore, ↓e_astoren, ↓e_astore, ↓e_add, ↓e_iinc, ↓e_iadd, ↓e_isub, ↓e_imul, ↓e_iand, ↓e_ior, ↓e_ixor, ↓e_ishl, ↓e_iushr, ↓e_idiv, ↓e_irem, ↓e_ineg, ↓e_i2l, ↓e_i2b, ↓e_i2s, ↓e_l2i, ↓e_land, ↓e_lor, ↓e_lshl, ↓e_lshr, ↓e_lushr, ↓e_lcmp, ↓e_dupi, ↓e_dupr, ↓e_popi, ↓e_dup2, ↓e_goto, ↓e_if, ↓e_icmp, ↓e_tsw, ↓e_lsw, ↓e_getf, ↓e_putf, ↓e_gets, ↓e_iald, ↓e_cald, ↓e_iast, ↓e_aald, ↓e_aast, ↓e_len, ↓e_copy, ↓e_abs, ↓e_max, ↓e_min, ↓e_iret, ↓e_aret, ↓e_vret, ↓e_is0, ↓e_is1, ↓e_is2, ↓e_is3, ↓e_is4, ↓e_iv1, ↓e_iv2, ↓e_iv3, ↓e_iv4, ↓e_iv5, ↓e_iv6, ↓rt_X11_either, ↓reduceIte, Nat.reduceAdd, Nat.reduceEqDiff, ↓zcl0, ↓zclv, List.map_nil, List.sum_nil, List.map_cons, List.sum_cons, zcat, true_and, and_true, Nat.reduceLeDiff, Nat.reduceAdd, eq_self, forall_const, e_ok0, e_okss, e_ok1i, e_ok1r, e_ok1n, zl_124, zl_20124, Int.reduceToNat, Int.reduceAdd, Int.reduceMul, Int.reduceSub, Int.reduceNeg, Int.reduceLT, Int.reduceLE, Int.reduceEq, not_false_eq_true, not_true_eq_false, false_implies, true_implies, implies_true, Int.reduceDiv, Int.reduceMod, zr8_zr, zr_zbo, z01_zbo, z01_0, z01_1, zbo_eq0, zup_eq, zup_o, zup_k, ne_eq, ↓ct_rei_here, ↓r_here, ↓B_here, ↓ct_rei_takes, ↓r_takes, ↓B_takes, ↓ct_rei_lay, ↓r_lay, ↓B_lay, ↓ct_rei_rbo, ↓r_rbo, ↓B_rbo, ↓v_87, ↓g_87_0, ↓l_88, ↓s_88, ↓n_88, ↓g_87_1, ↓l_89, ↓s_89, ↓n_89, ↓g_87_2, ↓l_90, ↓s_90, ↓n_90, ↓g_87_3, ↓p_87_3, ↓g_87_4, ↓l_91, ↓s_91, ↓n_91, ↓g_87_5, ↓p_87_5, ↓g_87_6, ↓p_87_6, ↓g_87_7, ↓p_87_7, ↓g_87_8, ↓p_87_8, ↓g_87_9, ↓p_87_9, ↓g_87_10, ↓p_87_10, ↓g_87_11, ↓l_92, ↓s_92, ↓n_92, ↓g_87_12, ↓l_93, ↓s_93, ↓n_93, ↓g_87_13, ↓p_87_13, ↓g_87_14, ↓l_94, ↓s_94, ↓n_94, ↓g_87_15, ↓p_87_15, ↓g_87_16, ↓l_95, ↓s_95, ↓n_95, ↓g_87_17, ↓l_96, ↓s_96, ↓n_96, ↓g_87_18, ↓l_97, ↓s_97, ↓n_97, ↓g_87_19, ↓p_87_19, ↓g_87_20, ↓p_87_20, ↓g_87_21, ↓l_98, ↓s_98, ↓n_98, ↓g_87_22, ↓l_99, ↓s_99, ↓n_99, ↓g_87_23, ↓l_100, ↓s_100, ↓n_100, ↓g_87_24, ↓l_101, ↓s_101, ↓n_101, ↓rdC, eH, zl_0, zl_1]
        exact ⟨o', fin M' o' fx' hp⟩
      | succ m ih =>
        intro M' o' fx' hm hp
        refine bs_X11_either_4 hX ?_
        have hr := hre_rg o'
        have eH : hre (tT M') (tn M') (sP M') = hre (tT M) (tn M) (sP M') := by rw [fx'.eT, fx'.eN]
        rw [eH] at hr
        have ep : plp (tT M) (tn M) f 0 (m + 1) (sP M') = if lvl (hre (tT M) (tn M) (sP M')) = 0 then plp (tT M) (tn M) f 0 m (lyy (20000 + hre (tT M) (tn M) (sP M')) (f (adv (sP M')))) else sP M' := rfl
        rw [ep] at hp
        have body : ∀ (H : Int), H = hre (tT M) (tn M) (sP M') → lvl H = 0 → ∀ M1 : ZMm, sP M1 = adv (sP M') → okM M1 → Fx M' M1 → ∀ M2 : ZMm, sP M2 = f (sP M1) → okM M2 → Fx M1 M2 → ((sP M2).2.1 < 0 → (sP M2).2.2.length < (sP M2).1) ∧ ∀ M3 : ZMm, sP M3 = lyy (20000 + H) (sP M2) → okM M3 → Fx M2 M3 → X 4 [some (.inr (.inr (.inl 87)))] [] (zG, M3) (0, 0) := by
          intro H hH hl M1 e1 o1 fx1 M2 e2 o2 fx2
          rw [← hH, if_pos hl] at hp
          have ok1 := o1.1
          rw [fx1.eN, fx'.eN] at ok1
          obtain ⟨g1, g2, g3, g4, g5⟩ := gd (sP M1) ok1
          rw [← e2] at g2 g3
          have ea : (sP M1).1 = (sP M').1 + 1 := by rw [e1]; rfl
          have el : (sP M1).2.2 = (sP M').2.2 := by rw [e1]; rfl
          rw [el] at g3
          have hl' := o'.1.2.1
          refine ⟨fun _ => by omega, fun M3 e3 o3 fx3 => ih M3 o3 (((fx'.trans fx1).trans fx2).trans fx3) ?_ ?_⟩
          · have : (sP M3).1 = (sP M2).1 := by rw [e3]; unfold lyy; split <;> rfl
            omega
          · rw [e3, e2, e1]; exact hp
        have stop : ¬ lvl (hre (tT M) (tn M) (sP M')) = 0 → post none (zG, M') := by
          intro hl
          rw [if_neg hl] at hp
          exact fin M' o' fx' hp
        obtain ⟨H, hH⟩ : ∃ H, hre (tT M) (tn M) (sP M') = H := ⟨_, rfl⟩
        rw [hH] at hr eH stop body
        simp only [bk_X11_either_0, k_X11_either_0, bk_X11_either_4, k_X11_either_4, bk_X11_either_13, k_X11_either_13, bk_X11_either_27, k_X11_either_27, ↓e_rk1, ↓e_rk0, ↓e_sk0, ↓e_sks, ↓e_ldi0, ↓e_ldis, ↓e_ldl0, ↓e_ldls, ↓e_lda0, ↓e_ldas, ↓e_ok0, ↓e_okss, ↓e_ok1i, ↓e_ok1r, ↓e_ok1n, ↓e_sti, ↓e_sta, ↓e_1, ↓e_2, ↓e_l1, ↓e_l2, ↓e_li, ↓e_sw0, ↓e_sws, ↓e_ceq, ↓e_cne, ↓e_clt, ↓e_cge, ↓e_cgt, ↓e_cle, ↓e_nil, ↓e_cons, ↓e_iconst, ↓e_bipush, ↓e_sipush, ↓e_ldc, ↓e_ldcw, ↓e_ldc2, ↓e_lconst, ↓e_iloadn, ↓e_iload, ↓e_lloadn, ↓e_lload, ↓e_aloadn, ↓e_aload, ↓e_istoren, ↓e_istore, ↓e_astoren, ↓e_astore, ↓e_add, ↓e_iinc, ↓e_iadd, ↓e_isub, ↓e_imul, ↓e_iand, ↓e_ior, ↓e_ixor, ↓e_ishl, ↓e_iushr, ↓e_idiv, ↓e_irem, ↓e_ineg, ↓e_i2l, ↓e_i2b, ↓e_i2s, ↓e_l2i, ↓e_land, ↓e_lor, ↓e_lshl, ↓e_lshr, ↓e_lushr, ↓e_lcmp, ↓e_dupi, ↓e_dupr, ↓e_popi, ↓e_dup2, ↓e_goto, ↓e_if, ↓e_icmp, ↓e_tsw, ↓e_lsw, ↓e_getf, ↓e_putf, ↓e_gets, ↓e_iald, ↓e_cald, ↓e_iast, ↓e_aald, ↓e_aast, ↓e_len, ↓e_copy, ↓e_abs, ↓e_max, ↓e_min, ↓e_iret, ↓e_aret, ↓e_vret, ↓e_is0, ↓e_is1, ↓e_is2, ↓e_is3, ↓e_is4, ↓e_iv1, ↓e_iv2, ↓e_iv3, ↓e_iv4, ↓e_iv5, ↓e_iv6, ↓rt_X11_either, ↓reduceIte, Nat.reduceAdd, Nat.reduceEqDiff, ↓zcl0, ↓zclv, List.map_nil, List.sum_nil, List.map_cons, List.sum_cons, zcat, true_and, and_true, Nat.reduceLeDiff, Nat.reduceAdd, eq_self, forall_const, e_ok0, e_okss, e_ok1i, e_ok1r, e_ok1n, zl_124, zl_20124, Int.reduceToNat, Int.reduceAdd, Int.reduceMul, Int.reduceSub, Int.reduceNeg, Int.reduceLT, Int.reduceLE, Int.reduceEq, not_false_eq_true, not_true_eq_false, false_implies, true_implies, implies_true, Int.reduceDiv, Int.reduceMod, zr8_zr, zr_zbo, z01_zbo, z01_0, z01_1, zbo_eq0, zup_eq, zup_o, zup_k, ne_eq, ↓ct_rei_here, ↓r_here, ↓B_here, ↓ct_rei_takes, ↓r_takes, ↓B_takes, ↓ct_rei_lay, ↓r_lay, ↓B_lay, ↓ct_rei_rbo, ↓r_rbo, ↓B_rbo, ↓v_87, ↓g_87_0, ↓l_88, ↓s_88, ↓n_88, ↓g_87_1, ↓l_89, ↓s_89, ↓n_89, ↓g_87_2, ↓l_90, ↓s_90, ↓n_90, ↓g_87_3, ↓p_87_3, ↓g_87_4, ↓l_91, ↓s_91, ↓n_91, ↓g_87_5, ↓p_87_5, ↓g_87_6, ↓p_87_6, ↓g_87_7, ↓p_87_7, ↓g_87_8, ↓p_87_8, ↓g_87_9, ↓p_87_9, ↓g_87_10, ↓p_87_10, ↓g_87_11, ↓l_92, ↓s_92, ↓n_92, ↓g_87_12, ↓l_93, ↓s_93, ↓n_93, ↓g_87_13, ↓p_87_13, ↓g_87_14, ↓l_94, ↓s_94, ↓n_94, ↓g_87_15, ↓p_87_15, ↓g_87_16, ↓l_95, ↓s_95, ↓n_95, ↓g_87_17, ↓l_96, ↓s_96, ↓n_96, ↓g_87_18, ↓l_97, ↓s_97, ↓n_97, ↓g_87_19, ↓p_87_19, ↓g_87_20, ↓p_87_20, ↓g_87_21, ↓l_98, ↓s_98, ↓n_98, ↓g_87_22, ↓l_99, ↓s_99, ↓n_99, ↓g_87_23, ↓l_100, ↓s_100, ↓n_100, ↓g_87_24, ↓l_101, ↓s_101, ↓n_101, ↓rdC, eH, zl_0, zl_1]
        refine ⟨o', fun q M1 a1 a2 a3 => ?_, fun q => stop (by unfold lvl; (repeat' split) <;> omega)⟩
        have q9 : lvl H = 0 := by unfold lvl; (repeat' split) <;> omega
        refine bs_X11_either_13 hX ?_
        simp only [bk_X11_either_0, k_X11_either_0, bk_X11_either_4, k_X11_either_4, bk_X11_either_13, k_X11_either_13, bk_X11_either_27, k_X11_either_27, ↓e_rk1, ↓e_rk0, ↓e_sk0, ↓e_sks, ↓e_ldi0, ↓e_ldis, ↓e_ldl0, ↓e_ldls, ↓e_lda0, ↓e_ldas, ↓e_ok0, ↓e_okss, ↓e_ok1i, ↓e_ok1r, ↓e_ok1n, ↓e_sti, ↓e_sta, ↓e_1, ↓e_2, ↓e_l1, ↓e_l2, ↓e_li, ↓e_sw0, ↓e_sws, ↓e_ceq, ↓e_cne, ↓e_clt, ↓e_cge, ↓e_cgt, ↓e_cle, ↓e_nil, ↓e_cons, ↓e_iconst, ↓e_bipush, ↓e_sipush, ↓e_ldc, ↓e_ldcw, ↓e_ldc2, ↓e_lconst, ↓e_iloadn, ↓e_iload, ↓e_lloadn, ↓e_lload, ↓e_aloadn, ↓e_aload, ↓e_istoren, ↓e_istore, ↓e_astoren, ↓e_astore, ↓e_add, ↓e_iinc, ↓e_iadd, ↓e_isub, ↓e_imul, ↓e_iand, ↓e_ior, ↓e_ixor, ↓e_ishl, ↓e_iushr, ↓e_idiv, ↓e_irem, ↓e_ineg, ↓e_i2l, ↓e_i2b, ↓e_i2s, ↓e_l2i, ↓e_land, ↓e_lor, ↓e_lshl, ↓e_lshr, ↓e_lushr, ↓e_lcmp, ↓e_dupi, ↓e_dupr, ↓e_popi, ↓e_dup2, ↓e_goto, ↓e_if, ↓e_icmp, ↓e_tsw, ↓e_lsw, ↓e_getf, ↓e_putf, ↓e_gets, ↓e_iald, ↓e_cald, ↓e_iast, ↓e_aald, ↓e_aast, ↓e_len, ↓e_copy, ↓e_abs, ↓e_max, ↓e_min, ↓e_iret, ↓e_aret, ↓e_vret, ↓e_is0, ↓e_is1, ↓e_is2, ↓e_is3, ↓e_is4, ↓e_iv1, ↓e_iv2, ↓e_iv3, ↓e_iv4, ↓e_iv5, ↓e_iv6, ↓rt_X11_either, ↓reduceIte, Nat.reduceAdd, Nat.reduceEqDiff, ↓zcl0, ↓zclv, List.map_nil, List.sum_nil, List.map_cons, List.sum_cons, zcat, true_and, and_true, Nat.reduceLeDiff, Nat.reduceAdd, eq_self, forall_const, e_ok0, e_okss, e_ok1i, e_ok1r, e_ok1n, zl_124, zl_20124, Int.reduceToNat, Int.reduceAdd, Int.reduceMul, Int.reduceSub, Int.reduceNeg, Int.reduceLT, Int.reduceLE, Int.reduceEq, not_false_eq_true, not_true_eq_false, false_implies, true_implies, implies_true, Int.reduceDiv, Int.reduceMod, zr8_zr, zr_zbo, z01_zbo, z01_0, z01_1, zbo_eq0, zup_eq, zup_o, zup_k, ne_eq, ↓ct_rei_here, ↓r_here, ↓B_here, ↓ct_rei_takes, ↓r_takes, ↓B_takes, ↓ct_rei_lay, ↓r_lay, ↓B_lay, ↓ct_rei_rbo, ↓r_rbo, ↓B_rbo, ↓v_87, ↓g_87_0, ↓l_88, ↓s_88, ↓n_88, ↓g_87_1, ↓l_89, ↓s_89, ↓n_89, ↓g_87_2, ↓l_90, ↓s_90, ↓n_90, ↓g_87_3, ↓p_87_3, ↓g_87_4, ↓l_91, ↓s_91, ↓n_91, ↓g_87_5, ↓p_87_5, ↓g_87_6, ↓p_87_6, ↓g_87_7, ↓p_87_7, ↓g_87_8, ↓p_87_8, ↓g_87_9, ↓p_87_9, ↓g_87_10, ↓p_87_10, ↓g_87_11, ↓l_92, ↓s_92, ↓n_92, ↓g_87_12, ↓l_93, ↓s_93, ↓n_93, ↓g_87_13, ↓p_87_13, ↓g_87_14, ↓l_94, ↓s_94, ↓n_94, ↓g_87_15, ↓p_87_15, ↓g_87_16, ↓l_95, ↓s_95, ↓n_95, ↓g_87_17, ↓l_96, ↓s_96, ↓n_96, ↓g_87_18, ↓l_97, ↓s_97, ↓n_97, ↓g_87_19, ↓p_87_19, ↓g_87_20, ↓p_87_20, ↓g_87_21, ↓l_98, ↓s_98, ↓n_98, ↓g_87_22, ↓l_99, ↓s_99, ↓n_99, ↓g_87_23, ↓l_100, ↓s_100, ↓n_100, ↓g_87_24, ↓l_101, ↓s_101, ↓n_101, ↓rdC]
        refine ⟨a2, ⟨by rw [a3.op, fx'.op]; exact op.1, op.2⟩, fun M2 e2 o2 fx2 => ?_⟩
        rw [a3.eT, a3.eN, a3.u, fx'.eT, fx'.eN, fx'.u, hf] at e2
        obtain ⟨b1, b2⟩ := body H rfl q9 _ a1 a2 a3 M2 e2 o2 fx2
        refine ⟨o2, b1, fun M3 e3 o3 fx3 => b2 M3 ?_ o3 fx3⟩
        rw [e3, q]
        rfl
    simp only [bk_X11_either_0, k_X11_either_0, bk_X11_either_4, k_X11_either_4, bk_X11_either_13, k_X11_either_13, bk_X11_either_27, k_X11_either_27, ↓e_rk1, ↓e_rk0, ↓e_sk0, ↓e_sks, ↓e_ldi0, ↓e_ldis, ↓e_ldl0, ↓e_ldls, ↓e_lda0, ↓e_ldas, ↓e_ok0, ↓e_okss, ↓e_ok1i, ↓e_ok1r, ↓e_ok1n, ↓e_sti, ↓e_sta, ↓e_1, ↓e_2, ↓e_l1, ↓e_l2, ↓e_li, ↓e_sw0, ↓e_sws, ↓e_ceq, ↓e_cne, ↓e_clt, ↓e_cge, ↓e_cgt, ↓e_cle, ↓e_nil, ↓e_cons, ↓e_iconst, ↓e_bipush, ↓e_sipush, ↓e_ldc, ↓e_ldcw, ↓e_ldc2, ↓e_lconst, ↓e_iloadn, ↓e_iload, ↓e_lloadn, ↓e_lload, ↓e_aloadn, ↓e_aload, ↓e_istoren, ↓e_istore, ↓e_astoren, ↓e_astore, ↓e_add, ↓e_iinc, ↓e_iadd, ↓e_isub, ↓e_imul, ↓e_iand, ↓e_ior, ↓e_ixor, ↓e_ishl, ↓e_iushr, ↓e_idiv, ↓e_irem, ↓e_ineg, ↓e_i2l, ↓e_i2b, ↓e_i2s, ↓e_l2i, ↓e_land, ↓e_lor, ↓e_lshl, ↓e_lshr, ↓e_lushr, ↓e_lcmp, ↓e_dupi, ↓e_dupr, ↓e_popi, ↓e_dup2, ↓e_goto, ↓e_if, ↓e_icmp, ↓e_tsw, ↓e_lsw, ↓e_getf, ↓e_putf, ↓e_gets, ↓e_iald, ↓e_cald, ↓e_iast, ↓e_aald, ↓e_aast, ↓e_len, ↓e_copy, ↓e_abs, ↓e_max, ↓e_min, ↓e_iret, ↓e_aret, ↓e_vret, ↓e_is0, ↓e_is1, ↓e_is2, ↓e_is3, ↓e_is4, ↓e_iv1, ↓e_iv2, ↓e_iv3, ↓e_iv4, ↓e_iv5, ↓e_iv6, ↓rt_X11_either, ↓reduceIte, Nat.reduceAdd, Nat.reduceEqDiff, ↓zcl0, ↓zclv, List.map_nil, List.sum_nil, List.map_cons, List.sum_cons, zcat, true_and, and_true, Nat.reduceLeDiff, Nat.reduceAdd, eq_self, forall_const, e_ok0, e_okss, e_ok1i, e_ok1r, e_ok1n, zl_124, zl_20124, Int.reduceToNat, Int.reduceAdd, Int.reduceMul, Int.reduceSub, Int.reduceNeg, Int.reduceLT, Int.reduceLE, Int.reduceEq, not_false_eq_true, not_true_eq_false, false_implies, true_implies, implies_true, Int.reduceDiv, Int.reduceMod, zr8_zr, zr_zbo, z01_zbo, z01_0, z01_1, zbo_eq0, zup_eq, zup_o, zup_k, ne_eq, ↓ct_rei_here, ↓r_here, ↓B_here, ↓ct_rei_takes, ↓r_takes, ↓B_takes, ↓ct_rei_lay, ↓r_lay, ↓B_lay, ↓ct_rei_rbo, ↓r_rbo, ↓B_rbo, ↓v_87, ↓g_87_0, ↓l_88, ↓s_88, ↓n_88, ↓g_87_1, ↓l_89, ↓s_89, ↓n_89, ↓g_87_2, ↓l_90, ↓s_90, ↓n_90, ↓g_87_3, ↓p_87_3, ↓g_87_4, ↓l_91, ↓s_91, ↓n_91, ↓g_87_5, ↓p_87_5, ↓g_87_6, ↓p_87_6, ↓g_87_7, ↓p_87_7, ↓g_87_8, ↓p_87_8, ↓g_87_9, ↓p_87_9, ↓g_87_10, ↓p_87_10, ↓g_87_11, ↓l_92, ↓s_92, ↓n_92, ↓g_87_12, ↓l_93, ↓s_93, ↓n_93, ↓g_87_13, ↓p_87_13, ↓g_87_14, ↓l_94, ↓s_94, ↓n_94, ↓g_87_15, ↓p_87_15, ↓g_87_16, ↓l_95, ↓s_95, ↓n_95, ↓g_87_17, ↓l_96, ↓s_96, ↓n_96, ↓g_87_18, ↓l_97, ↓s_97, ↓n_97, ↓g_87_19, ↓p_87_19, ↓g_87_20, ↓p_87_20, ↓g_87_21, ↓l_98, ↓s_98, ↓n_98, ↓g_87_22, ↓l_99, ↓s_99, ↓n_99, ↓g_87_23, ↓l_100, ↓s_100, ↓n_100, ↓g_87_24, ↓l_101, ↓s_101, ↓n_101, ↓rdC]
    refine ⟨ho, op, fun M1 e1 o1 fx1 => lp 50 M1 o1 fx1 ?_ ?_⟩
    · have := ho.sz
      omega
    · show plp (tT M) (tn M) f 0 50 (sP M1) = plp (tT M) (tn M) f 0 50 (f (sP M))
      rw [← hf, e1]
