/-! THE REFERENCE: engineers, heads -/
theorem Vd_ei {d : Nat → Int} (h : Vd d) {e : Int} (h1 : 0 ≤ e) (h2 : e < 8) : (0 ≤ ei d e 0 ∧ ei d e 0 ≤ 6) ∧ (0 ≤ ei d e 1 ∧ ei d e 1 ≤ 9) ∧ (0 ≤ ei d e 2 ∧ ei d e 2 ≤ 1) := h.2.2.2.2.2.2.2.2.2.1 e h1 h2
theorem Vd_hi {d : Nat → Int} (h : Vd d) {e : Int} (h1 : 0 ≤ e) (h2 : e < 2) : (0 ≤ hi4 d e 0 ∧ hi4 d e 0 ≤ 63) ∧ (0 ≤ hi4 d e 1 ∧ hi4 d e 1 ≤ 20) ∧ (0 ≤ hi4 d e 2 ∧ hi4 d e 2 ≤ 99) ∧ (0 ≤ hi4 d e 3 ∧ hi4 d e 3 ≤ 4) := h.2.2.2.2.2.2.2.1 e h1 h2
theorem Vd_pa {d : Nat → Int} (h : Vd d) {e k : Int} (h1 : 0 ≤ e) (h2 : e < 2) (h3 : 0 ≤ k) (h4 : k < 10) : 0 ≤ pa d e k ∧ pa d e k ≤ 63 := h.2.2.2.2.2.2.2.2.1 _ (by omega) (by omega)
theorem Vd_hb {d : Nat → Int} (h : Vd d) {e : Int} (h1 : 0 ≤ e) (h2 : e < 2) : 0 ≤ hb d e ∧ hb d e ≤ 63 := by
  have h3 := h.2.2.1
  exact Vd_pa h (by omega) (by omega) (by omega) (by omega)
theorem Vd_fh {d : Nat → Int} (h : Vd d) {e : Int} (h1 : 0 ≤ e) (h2 : e < 8) : 0 ≤ fh d e ∧ fh d e ≤ 14 := by
  have h3 := (Vd_ei h h1 h2).2.2
  have h4 := (Vd_hi h (e := ei d e 2) h3.1 (by omega)).1
  have h5 := Vd_hb h (e := ei d e 2) h3.1 (by omega)
  exact fr_rng h4.1 h4.2 h5.1 h5.2
def k_X11_points_0 : List ZI := [(.aload_n 0, 1, (0, [0], [])), (.iload_n 1, 1, (0, [1], [])), (.iconst 2, 1, (0, [], [])), (.invokevirtual 167, 3, (0, [126, 3, 0, 11], [])), (.istore_n 2, 1, (0, [2], [])), (.aload_n 0, 1, (0, [0], [])), (.iload_n 1, 1, (0, [1], [])), (.iconst 1, 1, (0, [], [])), (.invokevirtual 167, 3, (0, [126, 3, 0, 11], [])), (.istore_n 3, 1, (0, [3], [])), (.aload_n 0, 1, (0, [0], [])), (.iload_n 2, 1, (0, [2], [])), (.invokevirtual 170, 3, (0, [155, 2, 0, 11], [])), (.bipush 8, 2, (0, [], [])), (.irem, 1, (0, [], [])), (.aload_n 0, 1, (0, [0], [])), (.iload_n 2, 1, (0, [2], [])), (.iconst 0, 1, (0, [], [])), (.invokevirtual 161, 3, (0, [127, 3, 0, 11], [])), (.bipush 8, 2, (0, [], [])), (.irem, 1, (0, [], [])), (.isub, 1, (0, [], [])), (.istore 4, 2, (0, [4], [])), (.aload_n 0, 1, (0, [0], [])), (.iload_n 2, 1, (0, [2], [])), (.invokevirtual 170, 3, (0, [155, 2, 0, 11], [])), (.bipush 8, 2, (0, [], [])), (.idiv, 1, (0, [], [])), (.aload_n 0, 1, (0, [0], [])), (.iload_n 2, 1, (0, [2], [])), (.iconst 0, 1, (0, [], [])), (.invokevirtual 161, 3, (0, [127, 3, 0, 11], [])), (.bipush 8, 2, (0, [], [])), (.idiv, 1, (0, [], [])), (.isub, 1, (0, [], [])), (.istore 5, 2, (0, [5], [])), (.iload 5, 2, (0, [5], [])), (.ifCond .le 7, 3, (0, [63], [])), (.iconst 2, 1, (0, [], [])), (.goto 4, 3, (0, [64], []))]
theorem ok_X11_points_0 : zOK cX11_points 11 false 11 k_X11_points_0 0 = true := zOK_by (by decide +kernel)
def k_X11_points_63 : List ZI := [(.iconst 0, 1, (0, [], []))]
theorem ok_X11_points_63 : zOK cX11_points 11 false 11 k_X11_points_63 63 = true := zOK_by (by decide +kernel)
def k_X11_points_64 : List ZI := [(.istore 6, 2, (0, [6], [])), (.iload 4, 2, (0, [4], [])), (.ifCond .ne 12, 3, (0, [80], [])), (.iload 5, 2, (0, [5], [])), (.ifCond .ne 7, 3, (0, [80], [])), (.iconst 4, 1, (0, [], [])), (.goto 31, 3, (0, [108], []))]
theorem ok_X11_points_64 : zOK cX11_points 11 false 11 k_X11_points_64 64 = true := zOK_by (by decide +kernel)
def k_X11_points_80 : List ZI := [(.iload 4, 2, (0, [4], [])), (.invokestatic 159, 3, (0, [122, 1, 0, 11], [])), (.iload 5, 2, (0, [5], [])), (.invokestatic 159, 3, (0, [122, 1, 0, 11], [])), (.if_icmp .lt 16, 3, (0, [106], [])), (.iload 4, 2, (0, [4], [])), (.ifCond .le 7, 3, (0, [102], [])), (.iconst 1, 1, (0, [], [])), (.goto 9, 3, (0, [108], []))]
theorem ok_X11_points_80 : zOK cX11_points 11 false 11 k_X11_points_80 80 = true := zOK_by (by decide +kernel)
def k_X11_points_102 : List ZI := [(.iconst 3, 1, (0, [], [])), (.goto 5, 3, (0, [108], []))]
theorem ok_X11_points_102 : zOK cX11_points 11 false 11 k_X11_points_102 102 = true := zOK_by (by decide +kernel)
def k_X11_points_106 : List ZI := [(.iload 6, 2, (0, [6], []))]
theorem ok_X11_points_106 : zOK cX11_points 11 false 11 k_X11_points_106 106 = true := zOK_by (by decide +kernel)
def k_X11_points_108 : List ZI := [(.istore 7, 2, (0, [7], [])), (.iload 5, 2, (0, [5], [])), (.ifCond .eq 8, 3, (0, [120], [])), (.iload 6, 2, (0, [6], [])), (.goto 5, 3, (0, [122], []))]
theorem ok_X11_points_108 : zOK cX11_points 11 false 11 k_X11_points_108 108 = true := zOK_by (by decide +kernel)
def k_X11_points_120 : List ZI := [(.iload 7, 2, (0, [7], []))]
theorem ok_X11_points_120 : zOK cX11_points 11 false 11 k_X11_points_120 120 = true := zOK_by (by decide +kernel)
def k_X11_points_122 : List ZI := [(.istore 8, 2, (0, [8], [])), (.iload 7, 2, (0, [7], [])), (.aload_n 0, 1, (0, [0], [])), (.getfield 7, 3, (0, [11, 0], [])), (.iconst 1, 1, (0, [], [])), (.iaload, 1, (0, [], [])), (.iconst 5, 1, (0, [], [])), (.irem, 1, (0, [], [])), (.iload_n 3, 1, (0, [3], [])), (.iconst 5, 1, (0, [], [])), (.irem, 1, (0, [], [])), (.if_icmp .ne 7, 3, (0, [144], [])), (.iconst 2, 1, (0, [], [])), (.goto 4, 3, (0, [145], []))]
theorem ok_X11_points_122 : zOK cX11_points 11 false 11 k_X11_points_122 122 = true := zOK_by (by decide +kernel)
def k_X11_points_144 : List ZI := [(.iconst 0, 1, (0, [], []))]
theorem ok_X11_points_144 : zOK cX11_points 11 false 11 k_X11_points_144 144 = true := zOK_by (by decide +kernel)
def k_X11_points_145 : List ZI := [(.invokestatic 173, 3, (0, [157, 2, 0, 11], [])), (.istore 9, 2, (0, [9], [])), (.iload 7, 2, (0, [7], [])), (.iload_n 3, 1, (0, [3], [])), (.aload_n 0, 1, (0, [0], [])), (.getfield 7, 3, (0, [11, 0], [])), (.iconst 1, 1, (0, [], [])), (.iaload, 1, (0, [], [])), (.bipush 10, 2, (0, [], [])), (.irem, 1, (0, [], [])), (.if_icmp .le 7, 3, (0, [169], [])), (.iconst 1, 1, (0, [], [])), (.goto 4, 3, (0, [170], []))]
theorem ok_X11_points_145 : zOK cX11_points 11 false 11 k_X11_points_145 145 = true := zOK_by (by decide +kernel)
def k_X11_points_169 : List ZI := [(.iconst 0, 1, (0, [], []))]
theorem ok_X11_points_169 : zOK cX11_points 11 false 11 k_X11_points_169 169 = true := zOK_by (by decide +kernel)
def k_X11_points_170 : List ZI := [(.invokestatic 173, 3, (0, [157, 2, 0, 11], [])), (.istore 10, 2, (0, [10], [])), (.aload_n 0, 1, (0, [0], [])), (.iload_n 1, 1, (0, [1], [])), (.iconst 0, 1, (0, [], [])), (.invokevirtual 167, 3, (0, [126, 3, 0, 11], [])), (.tableswitch 104 1 6 #[39, 42, 45, 48, 79, 86], 39, (0, [285], [(1, 220), (2, 223), (3, 226), (4, 229), (5, 260), (6, 267)]))]
theorem ok_X11_points_170 : zOK cX11_points 11 false 11 k_X11_points_170 170 = true := zOK_by (by decide +kernel)
def k_X11_points_220 : List ZI := [(.iload 8, 2, (0, [8], [])), (.ireturn, 1, (0, [], []))]
theorem ok_X11_points_220 : zOK cX11_points 11 false 11 k_X11_points_220 220 = true := zOK_by (by decide +kernel)
def k_X11_points_223 : List ZI := [(.iload 9, 2, (0, [9], [])), (.ireturn, 1, (0, [], []))]
theorem ok_X11_points_223 : zOK cX11_points 11 false 11 k_X11_points_223 223 = true := zOK_by (by decide +kernel)
def k_X11_points_226 : List ZI := [(.iload 10, 2, (0, [10], [])), (.ireturn, 1, (0, [], []))]
theorem ok_X11_points_226 : zOK cX11_points 11 false 11 k_X11_points_226 226 = true := zOK_by (by decide +kernel)
def k_X11_points_229 : List ZI := [(.aload_n 0, 1, (0, [0], [])), (.iload_n 1, 1, (0, [1], [])), (.invokevirtual 176, 3, (0, [156, 2, 0, 11], [])), (.iload_n 3, 1, (0, [3], [])), (.if_icmp .le 22, 3, (0, [257], [])), (.aload_n 0, 1, (0, [0], [])), (.iload_n 2, 1, (0, [2], [])), (.iconst 3, 1, (0, [], [])), (.invokevirtual 161, 3, (0, [127, 3, 0, 11], [])), (.iconst 4, 1, (0, [], [])), (.if_icmp .eq 12, 3, (0, [257], [])), (.aload_n 0, 1, (0, [0], [])), (.iload_n 2, 1, (0, [2], [])), (.iconst 3, 1, (0, [], [])), (.invokevirtual 161, 3, (0, [127, 3, 0, 11], [])), (.goto 5, 3, (0, [259], []))]
theorem ok_X11_points_229 : zOK cX11_points 11 false 11 k_X11_points_229 229 = true := zOK_by (by decide +kernel)
def k_X11_points_257 : List ZI := [(.iload 8, 2, (0, [8], []))]
theorem ok_X11_points_257 : zOK cX11_points 11 false 11 k_X11_points_257 257 = true := zOK_by (by decide +kernel)
def k_X11_points_259 : List ZI := [(.ireturn, 1, (0, [], []))]
theorem ok_X11_points_259 : zOK cX11_points 11 false 11 k_X11_points_259 259 = true := zOK_by (by decide +kernel)
def k_X11_points_260 : List ZI := [(.iload 9, 2, (0, [9], [])), (.iconst 2, 1, (0, [], [])), (.invokestatic 173, 3, (0, [157, 2, 0, 11], [])), (.ireturn, 1, (0, [], []))]
theorem ok_X11_points_260 : zOK cX11_points 11 false 11 k_X11_points_260 260 = true := zOK_by (by decide +kernel)
def k_X11_points_267 : List ZI := [(.aload_n 0, 1, (0, [0], [])), (.getfield 7, 3, (0, [11, 0], [])), (.iconst 1, 1, (0, [], [])), (.iaload, 1, (0, [], [])), (.iconst 2, 1, (0, [], [])), (.irem, 1, (0, [], [])), (.ifCond .ne 7, 3, (0, [282], [])), (.iconst 4, 1, (0, [], [])), (.goto 5, 3, (0, [284], []))]
theorem ok_X11_points_267 : zOK cX11_points 11 false 11 k_X11_points_267 267 = true := zOK_by (by decide +kernel)
def k_X11_points_282 : List ZI := [(.iload 10, 2, (0, [10], []))]
theorem ok_X11_points_282 : zOK cX11_points 11 false 11 k_X11_points_282 282 = true := zOK_by (by decide +kernel)
def k_X11_points_284 : List ZI := [(.ireturn, 1, (0, [], []))]
theorem ok_X11_points_284 : zOK cX11_points 11 false 11 k_X11_points_284 284 = true := zOK_by (by decide +kernel)
def k_X11_points_285 : List ZI := [(.iload 7, 2, (0, [7], [])), (.ireturn, 1, (0, [], []))]
theorem ok_X11_points_285 : zOK cX11_points 11 false 11 k_X11_points_285 285 = true := zOK_by (by decide +kernel)
theorem rt_X11_points {g : Nat} {post : Option ZV → ZH → Prop} {h : ZH} {b : ZB2} {z : Int} : zRt mX11_points g post (some (.inl z)) h b = (post (some (.inl z)) h ∧ h.1.length = g) := by show (_ ∧ _ ∧ True) = _; simp
def bk_X11_points_63 (E : ZE) (CT : Nat → ZC) (X : ZK) (Rt : ZR) (ls : ZL) (st : List ZV) (h : ZH) (b : ZB2) : Prop := zB E CT k_X11_points_63 63 ls st h b (fun t ls st h b => X t ls st h b) Rt
theorem bs_X11_points_63 {E : ZE} {CT : Nat → ZC} {X : ZK} {Rt : ZR} {ls : ZL} {st : List ZV} {h : ZH} {b : ZB2} (hX : zCl E mX11_points 11 false CT Rt X) (q : bk_X11_points_63 E CT X Rt ls st h b) : X 63 ls st h b := by
  refine hX k_X11_points_63 63 ok_X11_points_63 _ ?_ ls st h b q
  exact fun t ls st h b q => q
def bk_X11_points_0 (E : ZE) (CT : Nat → ZC) (X : ZK) (Rt : ZR) (ls : ZL) (st : List ZV) (h : ZH) (b : ZB2) : Prop := zB E CT k_X11_points_0 0 ls st h b (fun t ls st h b => if t = 63 then bk_X11_points_63 E CT X Rt ls st h b else X t ls st h b) Rt
theorem bs_X11_points_0 {E : ZE} {CT : Nat → ZC} {X : ZK} {Rt : ZR} {ls : ZL} {st : List ZV} {h : ZH} {b : ZB2} (hX : zCl E mX11_points 11 false CT Rt X) (q : bk_X11_points_0 E CT X Rt ls st h b) : X 0 ls st h b := by
  refine hX k_X11_points_0 0 ok_X11_points_0 _ ?_ ls st h b q
  exact by
    intro t ls st h b q
    by_cases c : t = 63
    · subst c; rw [if_pos rfl] at q; exact bs_X11_points_63 hX q
    rw [if_neg c] at q
    exact q
def bk_X11_points_102 (E : ZE) (CT : Nat → ZC) (X : ZK) (Rt : ZR) (ls : ZL) (st : List ZV) (h : ZH) (b : ZB2) : Prop := zB E CT k_X11_points_102 102 ls st h b (fun t ls st h b => X t ls st h b) Rt
theorem bs_X11_points_102 {E : ZE} {CT : Nat → ZC} {X : ZK} {Rt : ZR} {ls : ZL} {st : List ZV} {h : ZH} {b : ZB2} (hX : zCl E mX11_points 11 false CT Rt X) (q : bk_X11_points_102 E CT X Rt ls st h b) : X 102 ls st h b := by
  refine hX k_X11_points_102 102 ok_X11_points_102 _ ?_ ls st h b q
  exact fun t ls st h b q => q
def bk_X11_points_106 (E : ZE) (CT : Nat → ZC) (X : ZK) (Rt : ZR) (ls : ZL) (st : List ZV) (h : ZH) (b : ZB2) : Prop := zB E CT k_X11_points_106 106 ls st h b (fun t ls st h b => X t ls st h b) Rt
theorem bs_X11_points_106 {E : ZE} {CT : Nat → ZC} {X : ZK} {Rt : ZR} {ls : ZL} {st : List ZV} {h : ZH} {b : ZB2} (hX : zCl E mX11_points 11 false CT Rt X) (q : bk_X11_points_106 E CT X Rt ls st h b) : X 106 ls st h b := by
  refine hX k_X11_points_106 106 ok_X11_points_106 _ ?_ ls st h b q
  exact fun t ls st h b q => q
def bk_X11_points_80 (E : ZE) (CT : Nat → ZC) (X : ZK) (Rt : ZR) (ls : ZL) (st : List ZV) (h : ZH) (b : ZB2) : Prop := zB E CT k_X11_points_80 80 ls st h b (fun t ls st h b => if t = 102 then bk_X11_points_102 E CT X Rt ls st h b else if t = 106 then bk_X11_points_106 E CT X Rt ls st h b else X t ls st h b) Rt
theorem bs_X11_points_80 {E : ZE} {CT : Nat → ZC} {X : ZK} {Rt : ZR} {ls : ZL} {st : List ZV} {h : ZH} {b : ZB2} (hX : zCl E mX11_points 11 false CT Rt X) (q : bk_X11_points_80 E CT X Rt ls st h b) : X 80 ls st h b := by
  refine hX k_X11_points_80 80 ok_X11_points_80 _ ?_ ls st h b q
  exact by
    intro t ls st h b q
    by_cases c : t = 102
    · subst c; rw [if_pos rfl] at q; exact bs_X11_points_102 hX q
    rw [if_neg c] at q
    by_cases c : t = 106
    · subst c; rw [if_pos rfl] at q; exact bs_X11_points_106 hX q
    rw [if_neg c] at q
    exact q
def bk_X11_points_64 (E : ZE) (CT : Nat → ZC) (X : ZK) (Rt : ZR) (ls : ZL) (st : List ZV) (h : ZH) (b : ZB2) : Prop := zB E CT k_X11_points_64 64 ls st h b (fun t ls st h b => if t = 80 then bk_X11_points_80 E CT X Rt ls st h b else X t ls st h b) Rt
theorem bs_X11_points_64 {E : ZE} {CT : Nat → ZC} {X : ZK} {Rt : ZR} {ls : ZL} {st : List ZV} {h : ZH} {b : ZB2} (hX : zCl E mX11_points 11 false CT Rt X) (q : bk_X11_points_64 E CT X Rt ls st h b) : X 64 ls st h b := by
  refine hX k_X11_points_64 64 ok_X11_points_64 _ ?_ ls st h b q
  exact by
    intro t ls st h b q
    by_cases c : t = 80
    · subst c; rw [if_pos rfl] at q; exact bs_X11_points_80 hX q
    rw [if_neg c] at q
    exact q
def bk_X11_points_120 (E : ZE) (CT : Nat → ZC) (X : ZK) (Rt : ZR) (ls : ZL) (st : List ZV) (h : ZH) (b : ZB2) : Prop := zB E CT k_X11_points_120 120 ls st h b (fun t ls st h b => X t ls st h b) Rt
theorem bs_X11_points_120 {E : ZE} {CT : Nat → ZC} {X : ZK} {Rt : ZR} {ls : ZL} {st : List ZV} {h : ZH} {b : ZB2} (hX : zCl E mX11_points 11 false CT Rt X) (q : bk_X11_points_120 E CT X Rt ls st h b) : X 120 ls st h b := by
  refine hX k_X11_points_120 120 ok_X11_points_120 _ ?_ ls st h b q
  exact fun t ls st h b q => q
def bk_X11_points_108 (E : ZE) (CT : Nat → ZC) (X : ZK) (Rt : ZR) (ls : ZL) (st : List ZV) (h : ZH) (b : ZB2) : Prop := zB E CT k_X11_points_108 108 ls st h b (fun t ls st h b => if t = 120 then bk_X11_points_120 E CT X Rt ls st h b else X t ls st h b) Rt
theorem bs_X11_points_108 {E : ZE} {CT : Nat → ZC} {X : ZK} {Rt : ZR} {ls : ZL} {st : List ZV} {h : ZH} {b : ZB2} (hX : zCl E mX11_points 11 false CT Rt X) (q : bk_X11_points_108 E CT X Rt ls st h b) : X 108 ls st h b := by
  refine hX k_X11_points_108 108 ok_X11_points_108 _ ?_ ls st h b q
  exact by
    intro t ls st h b q
    by_cases c : t = 120
    · subst c; rw [if_pos rfl] at q; exact bs_X11_points_120 hX q
    rw [if_neg c] at q
    exact q
def bk_X11_points_144 (E : ZE) (CT : Nat → ZC) (X : ZK) (Rt : ZR) (ls : ZL) (st : List ZV) (h : ZH) (b : ZB2) : Prop := zB E CT k_X11_points_144 144 ls st h b (fun t ls st h b => X t ls st h b) Rt
theorem bs_X11_points_144 {E : ZE} {CT : Nat → ZC} {X : ZK} {Rt : ZR} {ls : ZL} {st : List ZV} {h : ZH} {b : ZB2} (hX : zCl E mX11_points 11 false CT Rt X) (q : bk_X11_points_144 E CT X Rt ls st h b) : X 144 ls st h b := by
  refine hX k_X11_points_144 144 ok_X11_points_144 _ ?_ ls st h b q
  exact fun t ls st h b q => q
def bk_X11_points_122 (E : ZE) (CT : Nat → ZC) (X : ZK) (Rt : ZR) (ls : ZL) (st : List ZV) (h : ZH) (b : ZB2) : Prop := zB E CT k_X11_points_122 122 ls st h b (fun t ls st h b => if t = 144 then bk_X11_points_144 E CT X Rt ls st h b else X t ls st h b) Rt
theorem bs_X11_points_122 {E : ZE} {CT : Nat → ZC} {X : ZK} {Rt : ZR} {ls : ZL} {st : List ZV} {h : ZH} {b : ZB2} (hX : zCl E mX11_points 11 false CT Rt X) (q : bk_X11_points_122 E CT X Rt ls st h b) : X 122 ls st h b := by
  refine hX k_X11_points_122 122 ok_X11_points_122 _ ?_ ls st h b q
  exact by
    intro t ls st h b q
    by_cases c : t = 144
    · subst c; rw [if_pos rfl] at q; exact bs_X11_points_144 hX q
    rw [if_neg c] at q
    exact q
def bk_X11_points_169 (E : ZE) (CT : Nat → ZC) (X : ZK) (Rt : ZR) (ls : ZL) (st : List ZV) (h : ZH) (b : ZB2) : Prop := zB E CT k_X11_points_169 169 ls st h b (fun t ls st h b => X t ls st h b) Rt
theorem bs_X11_points_169 {E : ZE} {CT : Nat → ZC} {X : ZK} {Rt : ZR} {ls : ZL} {st : List ZV} {h : ZH} {b : ZB2} (hX : zCl E mX11_points 11 false CT Rt X) (q : bk_X11_points_169 E CT X Rt ls st h b) : X 169 ls st h b := by
  refine hX k_X11_points_169 169 ok_X11_points_169 _ ?_ ls st h b q
  exact fun t ls st h b q => q
def bk_X11_points_145 (E : ZE) (CT : Nat → ZC) (X : ZK) (Rt : ZR) (ls : ZL) (st : List ZV) (h : ZH) (b : ZB2) : Prop := zB E CT k_X11_points_145 145 ls st h b (fun t ls st h b => if t = 169 then bk_X11_points_169 E CT X Rt ls st h b else X t ls st h b) Rt
theorem bs_X11_points_145 {E : ZE} {CT : Nat → ZC} {X : ZK} {Rt : ZR} {ls : ZL} {st : List ZV} {h : ZH} {b : ZB2} (hX : zCl E mX11_points 11 false CT Rt X) (q : bk_X11_points_145 E CT X Rt ls st h b) : X 145 ls st h b := by
  refine hX k_X11_points_145 145 ok_X11_points_145 _ ?_ ls st h b q
  exact by
    intro t ls st h b q
    by_cases c : t = 169
    · subst c; rw [if_pos rfl] at q; exact bs_X11_points_169 hX q
    rw [if_neg c] at q
    exact q
def bk_X11_points_220 (E : ZE) (CT : Nat → ZC) (X : ZK) (Rt : ZR) (ls : ZL) (st : List ZV) (h : ZH) (b : ZB2) : Prop := zB E CT k_X11_points_220 220 ls st h b (fun t ls st h b => X t ls st h b) Rt
theorem bs_X11_points_220 {E : ZE} {CT : Nat → ZC} {X : ZK} {Rt : ZR} {ls : ZL} {st : List ZV} {h : ZH} {b : ZB2} (hX : zCl E mX11_points 11 false CT Rt X) (q : bk_X11_points_220 E CT X Rt ls st h b) : X 220 ls st h b := by
  refine hX k_X11_points_220 220 ok_X11_points_220 _ ?_ ls st h b q
  exact fun t ls st h b q => q
def bk_X11_points_223 (E : ZE) (CT : Nat → ZC) (X : ZK) (Rt : ZR) (ls : ZL) (st : List ZV) (h : ZH) (b : ZB2) : Prop := zB E CT k_X11_points_223 223 ls st h b (fun t ls st h b => X t ls st h b) Rt
theorem bs_X11_points_223 {E : ZE} {CT : Nat → ZC} {X : ZK} {Rt : ZR} {ls : ZL} {st : List ZV} {h : ZH} {b : ZB2} (hX : zCl E mX11_points 11 false CT Rt X) (q : bk_X11_points_223 E CT X Rt ls st h b) : X 223 ls st h b := by
  refine hX k_X11_points_223 223 ok_X11_points_223 _ ?_ ls st h b q
  exact fun t ls st h b q => q
def bk_X11_points_226 (E : ZE) (CT : Nat → ZC) (X : ZK) (Rt : ZR) (ls : ZL) (st : List ZV) (h : ZH) (b : ZB2) : Prop := zB E CT k_X11_points_226 226 ls st h b (fun t ls st h b => X t ls st h b) Rt
theorem bs_X11_points_226 {E : ZE} {CT : Nat → ZC} {X : ZK} {Rt : ZR} {ls : ZL} {st : List ZV} {h : ZH} {b : ZB2} (hX : zCl E mX11_points 11 false CT Rt X) (q : bk_X11_points_226 E CT X Rt ls st h b) : X 226 ls st h b := by
  refine hX k_X11_points_226 226 ok_X11_points_226 _ ?_ ls st h b q
  exact fun t ls st h b q => q
def bk_X11_points_259 (E : ZE) (CT : Nat → ZC) (X : ZK) (Rt : ZR) (ls : ZL) (st : List ZV) (h : ZH) (b : ZB2) : Prop := zB E CT k_X11_points_259 259 ls st h b (fun t ls st h b => X t ls st h b) Rt
theorem bs_X11_points_259 {E : ZE} {CT : Nat → ZC} {X : ZK} {Rt : ZR} {ls : ZL} {st : List ZV} {h : ZH} {b : ZB2} (hX : zCl E mX11_points 11 false CT Rt X) (q : bk_X11_points_259 E CT X Rt ls st h b) : X 259 ls st h b := by
  refine hX k_X11_points_259 259 ok_X11_points_259 _ ?_ ls st h b q
  exact fun t ls st h b q => q
def bk_X11_points_257 (E : ZE) (CT : Nat → ZC) (X : ZK) (Rt : ZR) (ls : ZL) (st : List ZV) (h : ZH) (b : ZB2) : Prop := zB E CT k_X11_points_257 257 ls st h b (fun t ls st h b => if t = 259 then bk_X11_points_259 E CT X Rt ls st h b else X t ls st h b) Rt
theorem bs_X11_points_257 {E : ZE} {CT : Nat → ZC} {X : ZK} {Rt : ZR} {ls : ZL} {st : List ZV} {h : ZH} {b : ZB2} (hX : zCl E mX11_points 11 false CT Rt X) (q : bk_X11_points_257 E CT X Rt ls st h b) : X 257 ls st h b := by
  refine hX k_X11_points_257 257 ok_X11_points_257 _ ?_ ls st h b q
  exact by
    intro t ls st h b q
    by_cases c : t = 259
    · subst c; rw [if_pos rfl] at q; exact bs_X11_points_259 hX q
    rw [if_neg c] at q
    exact q
def bk_X11_points_229 (E : ZE) (CT : Nat → ZC) (X : ZK) (Rt : ZR) (ls : ZL) (st : List ZV) (h : ZH) (b : ZB2) : Prop := zB E CT k_X11_points_229 229 ls st h b (fun t ls st h b => if t = 257 then bk_X11_points_257 E CT X Rt ls st h b else if t = 259 then bk_X11_points_259 E CT X Rt ls st h b else X t ls st h b) Rt
theorem bs_X11_points_229 {E : ZE} {CT : Nat → ZC} {X : ZK} {Rt : ZR} {ls : ZL} {st : List ZV} {h : ZH} {b : ZB2} (hX : zCl E mX11_points 11 false CT Rt X) (q : bk_X11_points_229 E CT X Rt ls st h b) : X 229 ls st h b := by
  refine hX k_X11_points_229 229 ok_X11_points_229 _ ?_ ls st h b q
  exact by
    intro t ls st h b q
    by_cases c : t = 257
    · subst c; rw [if_pos rfl] at q; exact bs_X11_points_257 hX q
    rw [if_neg c] at q
    by_cases c : t = 259
    · subst c; rw [if_pos rfl] at q; exact bs_X11_points_259 hX q
    rw [if_neg c] at q
    exact q
def bk_X11_points_260 (E : ZE) (CT : Nat → ZC) (X : ZK) (Rt : ZR) (ls : ZL) (st : List ZV) (h : ZH) (b : ZB2) : Prop := zB E CT k_X11_points_260 260 ls st h b (fun t ls st h b => X t ls st h b) Rt
theorem bs_X11_points_260 {E : ZE} {CT : Nat → ZC} {X : ZK} {Rt : ZR} {ls : ZL} {st : List ZV} {h : ZH} {b : ZB2} (hX : zCl E mX11_points 11 false CT Rt X) (q : bk_X11_points_260 E CT X Rt ls st h b) : X 260 ls st h b := by
  refine hX k_X11_points_260 260 ok_X11_points_260 _ ?_ ls st h b q
  exact fun t ls st h b q => q
def bk_X11_points_284 (E : ZE) (CT : Nat → ZC) (X : ZK) (Rt : ZR) (ls : ZL) (st : List ZV) (h : ZH) (b : ZB2) : Prop := zB E CT k_X11_points_284 284 ls st h b (fun t ls st h b => X t ls st h b) Rt
theorem bs_X11_points_284 {E : ZE} {CT : Nat → ZC} {X : ZK} {Rt : ZR} {ls : ZL} {st : List ZV} {h : ZH} {b : ZB2} (hX : zCl E mX11_points 11 false CT Rt X) (q : bk_X11_points_284 E CT X Rt ls st h b) : X 284 ls st h b := by
  refine hX k_X11_points_284 284 ok_X11_points_284 _ ?_ ls st h b q
  exact fun t ls st h b q => q
def bk_X11_points_282 (E : ZE) (CT : Nat → ZC) (X : ZK) (Rt : ZR) (ls : ZL) (st : List ZV) (h : ZH) (b : ZB2) : Prop := zB E CT k_X11_points_282 282 ls st h b (fun t ls st h b => if t = 284 then bk_X11_points_284 E CT X Rt ls st h b else X t ls st h b) Rt
theorem bs_X11_points_282 {E : ZE} {CT : Nat → ZC} {X : ZK} {Rt : ZR} {ls : ZL} {st : List ZV} {h : ZH} {b : ZB2} (hX : zCl E mX11_points 11 false CT Rt X) (q : bk_X11_points_282 E CT X Rt ls st h b) : X 282 ls st h b := by
  refine hX k_X11_points_282 282 ok_X11_points_282 _ ?_ ls st h b q
  exact by
    intro t ls st h b q
    by_cases c : t = 284
    · subst c; rw [if_pos rfl] at q; exact bs_X11_points_284 hX q
    rw [if_neg c] at q
    exact q
def bk_X11_points_267 (E : ZE) (CT : Nat → ZC) (X : ZK) (Rt : ZR) (ls : ZL) (st : List ZV) (h : ZH) (b : ZB2) : Prop := zB E CT k_X11_points_267 267 ls st h b (fun t ls st h b => if t = 282 then bk_X11_points_282 E CT X Rt ls st h b else if t = 284 then bk_X11_points_284 E CT X Rt ls st h b else X t ls st h b) Rt
theorem bs_X11_points_267 {E : ZE} {CT : Nat → ZC} {X : ZK} {Rt : ZR} {ls : ZL} {st : List ZV} {h : ZH} {b : ZB2} (hX : zCl E mX11_points 11 false CT Rt X) (q : bk_X11_points_267 E CT X Rt ls st h b) : X 267 ls st h b := by
  refine hX k_X11_points_267 267 ok_X11_points_267 _ ?_ ls st h b q
  exact by
    intro t ls st h b q
    by_cases c : t = 282
    · subst c; rw [if_pos rfl] at q; exact bs_X11_points_282 hX q
    rw [if_neg c] at q
    by_cases c : t = 284
    · subst c; rw [if_pos rfl] at q; exact bs_X11_points_284 hX q
    rw [if_neg c] at q
    exact q
def bk_X11_points_285 (E : ZE) (CT : Nat → ZC) (X : ZK) (Rt : ZR) (ls : ZL) (st : List ZV) (h : ZH) (b : ZB2) : Prop := zB E CT k_X11_points_285 285 ls st h b (fun t ls st h b => X t ls st h b) Rt
theorem bs_X11_points_285 {E : ZE} {CT : Nat → ZC} {X : ZK} {Rt : ZR} {ls : ZL} {st : List ZV} {h : ZH} {b : ZB2} (hX : zCl E mX11_points 11 false CT Rt X) (q : bk_X11_points_285 E CT X Rt ls st h b) : X 285 ls st h b := by
  refine hX k_X11_points_285 285 ok_X11_points_285 _ ?_ ls st h b q
  exact fun t ls st h b q => q
def bk_X11_points_170 (E : ZE) (CT : Nat → ZC) (X : ZK) (Rt : ZR) (ls : ZL) (st : List ZV) (h : ZH) (b : ZB2) : Prop := zB E CT k_X11_points_170 170 ls st h b (fun t ls st h b => if t = 220 then bk_X11_points_220 E CT X Rt ls st h b else if t = 223 then bk_X11_points_223 E CT X Rt ls st h b else if t = 226 then bk_X11_points_226 E CT X Rt ls st h b else if t = 229 then bk_X11_points_229 E CT X Rt ls st h b else if t = 260 then bk_X11_points_260 E CT X Rt ls st h b else if t = 267 then bk_X11_points_267 E CT X Rt ls st h b else if t = 285 then bk_X11_points_285 E CT X Rt ls st h b else X t ls st h b) Rt
theorem bs_X11_points_170 {E : ZE} {CT : Nat → ZC} {X : ZK} {Rt : ZR} {ls : ZL} {st : List ZV} {h : ZH} {b : ZB2} (hX : zCl E mX11_points 11 false CT Rt X) (q : bk_X11_points_170 E CT X Rt ls st h b) : X 170 ls st h b := by
  refine hX k_X11_points_170 170 ok_X11_points_170 _ ?_ ls st h b q
  exact by
    intro t ls st h b q
    by_cases c : t = 220
    · subst c; rw [if_pos rfl] at q; exact bs_X11_points_220 hX q
    rw [if_neg c] at q
    by_cases c : t = 223
    · subst c; rw [if_pos rfl] at q; exact bs_X11_points_223 hX q
    rw [if_neg c] at q
    by_cases c : t = 226
    · subst c; rw [if_pos rfl] at q; exact bs_X11_points_226 hX q
    rw [if_neg c] at q
    by_cases c : t = 229
    · subst c; rw [if_pos rfl] at q; exact bs_X11_points_229 hX q
    rw [if_neg c] at q
    by_cases c : t = 260
    · subst c; rw [if_pos rfl] at q; exact bs_X11_points_260 hX q
    rw [if_neg c] at q
    by_cases c : t = 267
    · subst c; rw [if_pos rfl] at q; exact bs_X11_points_267 hX q
    rw [if_neg c] at q
    by_cases c : t = 285
    · subst c; rw [if_pos rfl] at q; exact bs_X11_points_285 hX q
    rw [if_neg c] at q
    exact q
-- X11_points: cuts [64, 108, 122, 145, 170]
def k_X11_earsOf_0 : List ZI := [(.aload_n 0, 1, (0, [0], [])), (.iload_n 1, 1, (0, [1], [])), (.iconst 1, 1, (0, [], [])), (.invokevirtual 167, 3, (0, [126, 3, 0, 11], [])), (.istore_n 2, 1, (0, [2], [])), (.aload_n 0, 1, (0, [0], [])), (.iload_n 1, 1, (0, [1], [])), (.iconst 0, 1, (0, [], [])), (.invokevirtual 167, 3, (0, [126, 3, 0, 11], [])), (.tableswitch 83 1 5 #[35, 41, 43, 45, 68], 35, (0, [96], [(1, 48), (2, 54), (3, 56), (4, 58), (5, 81)]))]
theorem ok_X11_earsOf_0 : zOK cX11_earsOf 11 false 3 k_X11_earsOf_0 0 = true := zOK_by (by decide +kernel)
def k_X11_earsOf_48 : List ZI := [(.iconst 2, 1, (0, [], [])), (.iload_n 2, 1, (0, [2], [])), (.iconst 3, 1, (0, [], [])), (.idiv, 1, (0, [], [])), (.iadd, 1, (0, [], [])), (.ireturn, 1, (0, [], []))]
theorem ok_X11_earsOf_48 : zOK cX11_earsOf 11 false 3 k_X11_earsOf_48 48 = true := zOK_by (by decide +kernel)
def k_X11_earsOf_54 : List ZI := [(.iconst 1, 1, (0, [], [])), (.ireturn, 1, (0, [], []))]
theorem ok_X11_earsOf_54 : zOK cX11_earsOf 11 false 3 k_X11_earsOf_54 54 = true := zOK_by (by decide +kernel)
def k_X11_earsOf_56 : List ZI := [(.iconst 4, 1, (0, [], [])), (.ireturn, 1, (0, [], []))]
theorem ok_X11_earsOf_56 : zOK cX11_earsOf 11 false 3 k_X11_earsOf_56 56 = true := zOK_by (by decide +kernel)
def k_X11_earsOf_58 : List ZI := [(.iconst 2, 1, (0, [], [])), (.iload_n 2, 1, (0, [2], [])), (.iconst 3, 1, (0, [], [])), (.idiv, 1, (0, [], [])), (.iadd, 1, (0, [], [])), (.aload_n 0, 1, (0, [0], [])), (.getfield 7, 3, (0, [11, 0], [])), (.iconst 1, 1, (0, [], [])), (.iaload, 1, (0, [], [])), (.iconst 2, 1, (0, [], [])), (.irem, 1, (0, [], [])), (.ifCond .ne 7, 3, (0, [78], [])), (.iconst 1, 1, (0, [], [])), (.goto 4, 3, (0, [79], []))]
theorem ok_X11_earsOf_58 : zOK cX11_earsOf 11 false 3 k_X11_earsOf_58 58 = true := zOK_by (by decide +kernel)
def k_X11_earsOf_78 : List ZI := [(.iconst 0, 1, (0, [], []))]
theorem ok_X11_earsOf_78 : zOK cX11_earsOf 11 false 3 k_X11_earsOf_78 78 = true := zOK_by (by decide +kernel)
def k_X11_earsOf_79 : List ZI := [(.iadd, 1, (0, [], [])), (.ireturn, 1, (0, [], []))]
theorem ok_X11_earsOf_79 : zOK cX11_earsOf 11 false 3 k_X11_earsOf_79 79 = true := zOK_by (by decide +kernel)
def k_X11_earsOf_81 : List ZI := [(.aload_n 0, 1, (0, [0], [])), (.iload_n 1, 1, (0, [1], [])), (.invokevirtual 176, 3, (0, [156, 2, 0, 11], [])), (.iload_n 2, 1, (0, [2], [])), (.if_icmp .le 7, 3, (0, [94], [])), (.iconst 1, 1, (0, [], [])), (.goto 4, 3, (0, [95], []))]
theorem ok_X11_earsOf_81 : zOK cX11_earsOf 11 false 3 k_X11_earsOf_81 81 = true := zOK_by (by decide +kernel)
def k_X11_earsOf_94 : List ZI := [(.iconst 0, 1, (0, [], []))]
theorem ok_X11_earsOf_94 : zOK cX11_earsOf 11 false 3 k_X11_earsOf_94 94 = true := zOK_by (by decide +kernel)
def k_X11_earsOf_95 : List ZI := [(.ireturn, 1, (0, [], []))]
theorem ok_X11_earsOf_95 : zOK cX11_earsOf 11 false 3 k_X11_earsOf_95 95 = true := zOK_by (by decide +kernel)
def k_X11_earsOf_96 : List ZI := [(.iconst 2, 1, (0, [], [])), (.ireturn, 1, (0, [], []))]
theorem ok_X11_earsOf_96 : zOK cX11_earsOf 11 false 3 k_X11_earsOf_96 96 = true := zOK_by (by decide +kernel)
theorem rt_X11_earsOf {g : Nat} {post : Option ZV → ZH → Prop} {h : ZH} {b : ZB2} {z : Int} : zRt mX11_earsOf g post (some (.inl z)) h b = (post (some (.inl z)) h ∧ h.1.length = g) := by show (_ ∧ _ ∧ True) = _; simp
def bk_X11_earsOf_48 (E : ZE) (CT : Nat → ZC) (X : ZK) (Rt : ZR) (ls : ZL) (st : List ZV) (h : ZH) (b : ZB2) : Prop := zB E CT k_X11_earsOf_48 48 ls st h b (fun t ls st h b => X t ls st h b) Rt
theorem bs_X11_earsOf_48 {E : ZE} {CT : Nat → ZC} {X : ZK} {Rt : ZR} {ls : ZL} {st : List ZV} {h : ZH} {b : ZB2} (hX : zCl E mX11_earsOf 11 false CT Rt X) (q : bk_X11_earsOf_48 E CT X Rt ls st h b) : X 48 ls st h b := by
  refine hX k_X11_earsOf_48 48 ok_X11_earsOf_48 _ ?_ ls st h b q
  exact fun t ls st h b q => q
def bk_X11_earsOf_54 (E : ZE) (CT : Nat → ZC) (X : ZK) (Rt : ZR) (ls : ZL) (st : List ZV) (h : ZH) (b : ZB2) : Prop := zB E CT k_X11_earsOf_54 54 ls st h b (fun t ls st h b => X t ls st h b) Rt
theorem bs_X11_earsOf_54 {E : ZE} {CT : Nat → ZC} {X : ZK} {Rt : ZR} {ls : ZL} {st : List ZV} {h : ZH} {b : ZB2} (hX : zCl E mX11_earsOf 11 false CT Rt X) (q : bk_X11_earsOf_54 E CT X Rt ls st h b) : X 54 ls st h b := by
  refine hX k_X11_earsOf_54 54 ok_X11_earsOf_54 _ ?_ ls st h b q
  exact fun t ls st h b q => q
def bk_X11_earsOf_56 (E : ZE) (CT : Nat → ZC) (X : ZK) (Rt : ZR) (ls : ZL) (st : List ZV) (h : ZH) (b : ZB2) : Prop := zB E CT k_X11_earsOf_56 56 ls st h b (fun t ls st h b => X t ls st h b) Rt
theorem bs_X11_earsOf_56 {E : ZE} {CT : Nat → ZC} {X : ZK} {Rt : ZR} {ls : ZL} {st : List ZV} {h : ZH} {b : ZB2} (hX : zCl E mX11_earsOf 11 false CT Rt X) (q : bk_X11_earsOf_56 E CT X Rt ls st h b) : X 56 ls st h b := by
  refine hX k_X11_earsOf_56 56 ok_X11_earsOf_56 _ ?_ ls st h b q
  exact fun t ls st h b q => q
def bk_X11_earsOf_79 (E : ZE) (CT : Nat → ZC) (X : ZK) (Rt : ZR) (ls : ZL) (st : List ZV) (h : ZH) (b : ZB2) : Prop := zB E CT k_X11_earsOf_79 79 ls st h b (fun t ls st h b => X t ls st h b) Rt
theorem bs_X11_earsOf_79 {E : ZE} {CT : Nat → ZC} {X : ZK} {Rt : ZR} {ls : ZL} {st : List ZV} {h : ZH} {b : ZB2} (hX : zCl E mX11_earsOf 11 false CT Rt X) (q : bk_X11_earsOf_79 E CT X Rt ls st h b) : X 79 ls st h b := by
  refine hX k_X11_earsOf_79 79 ok_X11_earsOf_79 _ ?_ ls st h b q
  exact fun t ls st h b q => q
def bk_X11_earsOf_78 (E : ZE) (CT : Nat → ZC) (X : ZK) (Rt : ZR) (ls : ZL) (st : List ZV) (h : ZH) (b : ZB2) : Prop := zB E CT k_X11_earsOf_78 78 ls st h b (fun t ls st h b => if t = 79 then bk_X11_earsOf_79 E CT X Rt ls st h b else X t ls st h b) Rt
theorem bs_X11_earsOf_78 {E : ZE} {CT : Nat → ZC} {X : ZK} {Rt : ZR} {ls : ZL} {st : List ZV} {h : ZH} {b : ZB2} (hX : zCl E mX11_earsOf 11 false CT Rt X) (q : bk_X11_earsOf_78 E CT X Rt ls st h b) : X 78 ls st h b := by
  refine hX k_X11_earsOf_78 78 ok_X11_earsOf_78 _ ?_ ls st h b q
  exact by
    intro t ls st h b q
    by_cases c : t = 79
    · subst c; rw [if_pos rfl] at q; exact bs_X11_earsOf_79 hX q
    rw [if_neg c] at q
    exact q
def bk_X11_earsOf_58 (E : ZE) (CT : Nat → ZC) (X : ZK) (Rt : ZR) (ls : ZL) (st : List ZV) (h : ZH) (b : ZB2) : Prop := zB E CT k_X11_earsOf_58 58 ls st h b (fun t ls st h b => if t = 78 then bk_X11_earsOf_78 E CT X Rt ls st h b else if t = 79 then bk_X11_earsOf_79 E CT X Rt ls st h b else X t ls st h b) Rt
theorem bs_X11_earsOf_58 {E : ZE} {CT : Nat → ZC} {X : ZK} {Rt : ZR} {ls : ZL} {st : List ZV} {h : ZH} {b : ZB2} (hX : zCl E mX11_earsOf 11 false CT Rt X) (q : bk_X11_earsOf_58 E CT X Rt ls st h b) : X 58 ls st h b := by
  refine hX k_X11_earsOf_58 58 ok_X11_earsOf_58 _ ?_ ls st h b q
  exact by
    intro t ls st h b q
    by_cases c : t = 78
    · subst c; rw [if_pos rfl] at q; exact bs_X11_earsOf_78 hX q
    rw [if_neg c] at q
    by_cases c : t = 79
    · subst c; rw [if_pos rfl] at q; exact bs_X11_earsOf_79 hX q
    rw [if_neg c] at q
    exact q
def bk_X11_earsOf_95 (E : ZE) (CT : Nat → ZC) (X : ZK) (Rt : ZR) (ls : ZL) (st : List ZV) (h : ZH) (b : ZB2) : Prop := zB E CT k_X11_earsOf_95 95 ls st h b (fun t ls st h b => X t ls st h b) Rt
theorem bs_X11_earsOf_95 {E : ZE} {CT : Nat → ZC} {X : ZK} {Rt : ZR} {ls : ZL} {st : List ZV} {h : ZH} {b : ZB2} (hX : zCl E mX11_earsOf 11 false CT Rt X) (q : bk_X11_earsOf_95 E CT X Rt ls st h b) : X 95 ls st h b := by
  refine hX k_X11_earsOf_95 95 ok_X11_earsOf_95 _ ?_ ls st h b q
  exact fun t ls st h b q => q
def bk_X11_earsOf_94 (E : ZE) (CT : Nat → ZC) (X : ZK) (Rt : ZR) (ls : ZL) (st : List ZV) (h : ZH) (b : ZB2) : Prop := zB E CT k_X11_earsOf_94 94 ls st h b (fun t ls st h b => if t = 95 then bk_X11_earsOf_95 E CT X Rt ls st h b else X t ls st h b) Rt
theorem bs_X11_earsOf_94 {E : ZE} {CT : Nat → ZC} {X : ZK} {Rt : ZR} {ls : ZL} {st : List ZV} {h : ZH} {b : ZB2} (hX : zCl E mX11_earsOf 11 false CT Rt X) (q : bk_X11_earsOf_94 E CT X Rt ls st h b) : X 94 ls st h b := by
  refine hX k_X11_earsOf_94 94 ok_X11_earsOf_94 _ ?_ ls st h b q
  exact by
    intro t ls st h b q
    by_cases c : t = 95
    · subst c; rw [if_pos rfl] at q; exact bs_X11_earsOf_95 hX q
    rw [if_neg c] at q
    exact q
def bk_X11_earsOf_81 (E : ZE) (CT : Nat → ZC) (X : ZK) (Rt : ZR) (ls : ZL) (st : List ZV) (h : ZH) (b : ZB2) : Prop := zB E CT k_X11_earsOf_81 81 ls st h b (fun t ls st h b => if t = 94 then bk_X11_earsOf_94 E CT X Rt ls st h b else if t = 95 then bk_X11_earsOf_95 E CT X Rt ls st h b else X t ls st h b) Rt
theorem bs_X11_earsOf_81 {E : ZE} {CT : Nat → ZC} {X : ZK} {Rt : ZR} {ls : ZL} {st : List ZV} {h : ZH} {b : ZB2} (hX : zCl E mX11_earsOf 11 false CT Rt X) (q : bk_X11_earsOf_81 E CT X Rt ls st h b) : X 81 ls st h b := by
  refine hX k_X11_earsOf_81 81 ok_X11_earsOf_81 _ ?_ ls st h b q
  exact by
    intro t ls st h b q
    by_cases c : t = 94
    · subst c; rw [if_pos rfl] at q; exact bs_X11_earsOf_94 hX q
    rw [if_neg c] at q
    by_cases c : t = 95
    · subst c; rw [if_pos rfl] at q; exact bs_X11_earsOf_95 hX q
    rw [if_neg c] at q
    exact q
def bk_X11_earsOf_96 (E : ZE) (CT : Nat → ZC) (X : ZK) (Rt : ZR) (ls : ZL) (st : List ZV) (h : ZH) (b : ZB2) : Prop := zB E CT k_X11_earsOf_96 96 ls st h b (fun t ls st h b => X t ls st h b) Rt
theorem bs_X11_earsOf_96 {E : ZE} {CT : Nat → ZC} {X : ZK} {Rt : ZR} {ls : ZL} {st : List ZV} {h : ZH} {b : ZB2} (hX : zCl E mX11_earsOf 11 false CT Rt X) (q : bk_X11_earsOf_96 E CT X Rt ls st h b) : X 96 ls st h b := by
  refine hX k_X11_earsOf_96 96 ok_X11_earsOf_96 _ ?_ ls st h b q
  exact fun t ls st h b q => q
def bk_X11_earsOf_0 (E : ZE) (CT : Nat → ZC) (X : ZK) (Rt : ZR) (ls : ZL) (st : List ZV) (h : ZH) (b : ZB2) : Prop := zB E CT k_X11_earsOf_0 0 ls st h b (fun t ls st h b => if t = 48 then bk_X11_earsOf_48 E CT X Rt ls st h b else if t = 54 then bk_X11_earsOf_54 E CT X Rt ls st h b else if t = 56 then bk_X11_earsOf_56 E CT X Rt ls st h b else if t = 58 then bk_X11_earsOf_58 E CT X Rt ls st h b else if t = 81 then bk_X11_earsOf_81 E CT X Rt ls st h b else if t = 96 then bk_X11_earsOf_96 E CT X Rt ls st h b else X t ls st h b) Rt
theorem bs_X11_earsOf_0 {E : ZE} {CT : Nat → ZC} {X : ZK} {Rt : ZR} {ls : ZL} {st : List ZV} {h : ZH} {b : ZB2} (hX : zCl E mX11_earsOf 11 false CT Rt X) (q : bk_X11_earsOf_0 E CT X Rt ls st h b) : X 0 ls st h b := by
  refine hX k_X11_earsOf_0 0 ok_X11_earsOf_0 _ ?_ ls st h b q
  exact by
    intro t ls st h b q
    by_cases c : t = 48
    · subst c; rw [if_pos rfl] at q; exact bs_X11_earsOf_48 hX q
    rw [if_neg c] at q
    by_cases c : t = 54
    · subst c; rw [if_pos rfl] at q; exact bs_X11_earsOf_54 hX q
    rw [if_neg c] at q
    by_cases c : t = 56
    · subst c; rw [if_pos rfl] at q; exact bs_X11_earsOf_56 hX q
    rw [if_neg c] at q
    by_cases c : t = 58
    · subst c; rw [if_pos rfl] at q; exact bs_X11_earsOf_58 hX q
    rw [if_neg c] at q
    by_cases c : t = 81
    · subst c; rw [if_pos rfl] at q; exact bs_X11_earsOf_81 hX q
    rw [if_neg c] at q
    by_cases c : t = 96
    · subst c; rw [if_pos rfl] at q; exact bs_X11_earsOf_96 hX q
    rw [if_neg c] at q
    exact q
-- X11_earsOf: cuts []
def k_X11_gives_0 : List ZI := [(.aload_n 0, 1, (0, [0], [])), (.iconst 0, 1, (0, [], [])), (.aload_n 0, 1, (0, [0], [])), (.iload_n 1, 1, (0, [1], [])), (.invokevirtual 179, 3, (0, [159, 2, 0, 11], [])), (.aload_n 0, 1, (0, [0], [])), (.iload_n 1, 1, (0, [1], [])), (.invokevirtual 176, 3, (0, [156, 2, 0, 11], [])), (.aload_n 0, 1, (0, [0], [])), (.getfield 7, 3, (0, [11, 0], [])), (.iconst 1, 1, (0, [], [])), (.iaload, 1, (0, [], [])), (.bipush 8, 2, (0, [], [])), (.irem, 1, (0, [], [])), (.invokevirtual 155, 3, (0, [149, 5, 0, 11], [])), (.ireturn, 1, (0, [], []))]
theorem ok_X11_gives_0 : zOK cX11_gives 11 false 2 k_X11_gives_0 0 = true := zOK_by (by decide +kernel)
theorem rt_X11_gives {g : Nat} {post : Option ZV → ZH → Prop} {h : ZH} {b : ZB2} {z : Int} : zRt mX11_gives g post (some (.inl z)) h b = (post (some (.inl z)) h ∧ h.1.length = g) := by show (_ ∧ _ ∧ True) = _; simp
def bk_X11_gives_0 (E : ZE) (CT : Nat → ZC) (X : ZK) (Rt : ZR) (ls : ZL) (st : List ZV) (h : ZH) (b : ZB2) : Prop := zB E CT k_X11_gives_0 0 ls st h b (fun t ls st h b => X t ls st h b) Rt
theorem bs_X11_gives_0 {E : ZE} {CT : Nat → ZC} {X : ZK} {Rt : ZR} {ls : ZL} {st : List ZV} {h : ZH} {b : ZB2} (hX : zCl E mX11_gives 11 false CT Rt X) (q : bk_X11_gives_0 E CT X Rt ls st h b) : X 0 ls st h b := by
  refine hX k_X11_gives_0 0 ok_X11_gives_0 _ ?_ ls st h b q
  exact fun t ls st h b q => q
-- X11_gives: cuts []
def B_farHeard (e : Int) (M : Nat → Nat → Int) (post : Option ZV → (Nat → Nat → Int) → Prop) : Prop := 0 ≤ e ∧ e < 8 ∧ Vd (M 88) ∧ post (some (.inl (fh (M 88) e))) M
def C_farHeard : ZC := fun as h post => match as with
  | [.inr (.inr (.inl 87)), .inl e] => h.1 = zG ∧ B_farHeard e h.2 (fun v M => post v (zG, M))
  | _ => False
theorem r_farHeard {e : Int} {M : Nat → Nat → Int} {post : Option ZV → ZH → Prop} : C_farHeard [.inr (.inr (.inl 87)), .inl e] (zG, M) post = B_farHeard e M (fun v M => post v (zG, M)) := by show (zG = zG ∧ _) = _; simp
def ct_farHeard : Nat → ZC := fun n => if n = 126 then C_of else if n = 127 then C_its else if n = 155 then C_heardBy else if n = 151 then C_far else fun _ _ _ => False
theorem ct_farHeard_of {as : List ZV} {h : ZH} {post : Option ZV → ZH → Prop} : ct_farHeard 126 as h post = C_of as h post := rfl
theorem ct_farHeard_its {as : List ZV} {h : ZH} {post : Option ZV → ZH → Prop} : ct_farHeard 127 as h post = C_its as h post := rfl
theorem ct_farHeard_heardBy {as : List ZV} {h : ZH} {post : Option ZV → ZH → Prop} : ct_farHeard 155 as h post = C_heardBy as h post := rfl
theorem ct_farHeard_far {as : List ZV} {h : ZH} {post : Option ZV → ZH → Prop} : ct_farHeard 151 as h post = C_far as h post := rfl
theorem c_farHeard {E : ZE} {d : Nat} (hd : 3 ≤ d) : zMet E d mX11_farHeard C_farHeard := by
  refine zmet_of (o := 11) (ini := false) (CT := ct_farHeard) gd_X11_farHeard rfl (fun h => by cases h) (by omega) ?_ ?_
  · intro n as h post hh
    unfold ct_farHeard at hh
    by_cases c : n = 126
    · subst c; exact ⟨gd_X11_of, 1, by omega, c_of (by omega)⟩
    rw [if_neg c] at hh
    by_cases c : n = 127
    · subst c; exact ⟨gd_X11_its, 1, by omega, c_its (by omega)⟩
    rw [if_neg c] at hh
    by_cases c : n = 155
    · subst c; exact ⟨gd_X11_heardBy, 1, by omega, c_heardBy (by omega)⟩
    rw [if_neg c] at hh
    by_cases c : n = 151
    · subst c; exact ⟨gd_X11_far, 2, by omega, c_far (by omega)⟩
    rw [if_neg c] at hh
    exact hh.elim
  intro as h post hC
  match as, hC with
  | [.inr (.inr (.inl 87)), .inl e], hC =>
    refine ⟨Nat.le_of_ble_eq_true rfl, fun X hX => bs_X11_farHeard_0 hX ?_⟩
    obtain ⟨G, M⟩ := h
    obtain ⟨hG, hC⟩ := hC
    dsimp only at hG
    subst hG
    simp only [B_farHeard] at hC
    show bk_X11_farHeard_0 E ct_farHeard X _ [some (.inr (.inr (.inl 87))), some (.inl e), none] [] (zG, M) (0, 0)
    obtain ⟨h1, h2, h3, hC⟩ := hC
    have q1 := (Vd_ei h3 h1 h2).2.2
    have q2 := (Vd_hi h3 (e := ei (M 88) e 2) q1.1 (by omega)).1
    have q3 := Vd_hb h3 (e := ei (M 88) e 2) q1.1 (by omega)
    have q4 := h3.2.2.1
    have e1 : M 88 (162 + 3 * e + 2).toNat = ei (M 88) e 2 := rfl
    have e2 : M 88 (134 + 4 * ei (M 88) e 2 + 0).toNat = hi4 (M 88) (ei (M 88) e 2) 0 := rfl
    have e3 : M 88 (142 + 10 * (1 - ei (M 88) e 2) + M 88 2).toNat = hb (M 88) (ei (M 88) e 2) := rfl
    simp only [bk_X11_farHeard_0, k_X11_farHeard_0, ↓e_rk1, ↓e_rk0, ↓e_sk0, ↓e_sks, ↓e_ldi0, ↓e_ldis, ↓e_ldl0, ↓e_ldls, ↓e_lda0, ↓e_ldas, ↓e_ok0, ↓e_okss, ↓e_ok1i, ↓e_ok1r, ↓e_ok1n, ↓e_sti, ↓e_sta, ↓e_1, ↓e_2, ↓e_l1, ↓e_l2, ↓e_li, ↓e_sw0, ↓e_sws, ↓e_ceq, ↓e_cne, ↓e_clt, ↓e_cge, ↓e_cgt, ↓e_cle, ↓e_nil, ↓e_cons, ↓e_iconst, ↓e_bipush, ↓e_sipush, ↓e_ldc, ↓e_ldcw, ↓e_ldc2, ↓e_lconst, ↓e_iloadn, ↓e_iload, ↓e_lloadn, ↓e_lload, ↓e_aloadn, ↓e_aload, ↓e_istoren, ↓e_istore, ↓e_astoren, ↓e_astore, ↓e_add, ↓e_iinc, ↓e_iadd, ↓e_isub, ↓e_imul, ↓e_iand, ↓e_ior, ↓e_ixor, ↓e_ishl, ↓e_iushr, ↓e_idiv, ↓e_irem, ↓e_ineg, ↓e_i2l, ↓e_i2b, ↓e_i2s, ↓e_l2i, ↓e_land, ↓e_lor, ↓e_lshl, ↓e_lshr, ↓e_lushr, ↓e_lcmp, ↓e_dupi, ↓e_dupr, ↓e_popi, ↓e_dup2, ↓e_goto, ↓e_if, ↓e_icmp, ↓e_tsw, ↓e_lsw, ↓e_getf, ↓e_putf, ↓e_gets, ↓e_iald, ↓e_cald, ↓e_iast, ↓e_aald, ↓e_aast, ↓e_len, ↓e_copy, ↓e_abs, ↓e_max, ↓e_min, ↓e_iret, ↓e_aret, ↓e_vret, ↓e_is0, ↓e_is1, ↓e_is2, ↓e_is3, ↓e_is4, ↓e_iv1, ↓e_iv2, ↓e_iv3, ↓e_iv4, ↓e_iv5, ↓e_iv6, ↓rt_X11_farHeard, ↓reduceIte, Nat.reduceAdd, Nat.reduceEqDiff, ↓zcl0, ↓zclv, List.map_nil, List.sum_nil, List.map_cons, List.sum_cons, zcat, true_and, and_true, Nat.reduceLeDiff, Nat.reduceAdd, eq_self, forall_const, e_ok0, e_okss, e_ok1i, e_ok1r, e_ok1n, zl_0, zl_2, Int.reduceToNat, Int.reduceAdd, Int.reduceMul, Int.reduceSub, Int.reduceNeg, Int.reduceLT, Int.reduceLE, Int.reduceEq, not_false_eq_true, not_true_eq_false, false_implies, true_implies, implies_true, Int.reduceDiv, Int.reduceMod, zr8_zr, zr_zbo, z01_zbo, z01_0, z01_1, zbo_eq0, zup_eq, zup_o, zup_k, ne_eq, ↓ct_farHeard_of, ↓r_of, ↓B_of, ↓ct_farHeard_its, ↓r_its, ↓B_its, ↓ct_farHeard_heardBy, ↓r_heardBy, ↓B_heardBy, ↓ct_farHeard_far, ↓r_far, ↓B_far, ↓v_87, ↓g_87_0, ↓l_88, ↓s_88, ↓n_88, ↓g_87_1, ↓l_89, ↓s_89, ↓n_89, ↓g_87_2, ↓l_90, ↓s_90, ↓n_90, ↓g_87_3, ↓p_87_3, ↓g_87_4, ↓l_91, ↓s_91, ↓n_91, ↓g_87_5, ↓p_87_5, ↓g_87_6, ↓p_87_6, ↓g_87_7, ↓p_87_7, ↓g_87_8, ↓p_87_8, ↓g_87_9, ↓p_87_9, ↓g_87_10, ↓p_87_10, ↓g_87_11, ↓l_92, ↓s_92, ↓n_92, ↓g_87_12, ↓l_93, ↓s_93, ↓n_93, ↓g_87_13, ↓p_87_13, ↓g_87_14, ↓l_94, ↓s_94, ↓n_94, ↓g_87_15, ↓p_87_15, ↓g_87_16, ↓l_95, ↓s_95, ↓n_95, ↓g_87_17, ↓l_96, ↓s_96, ↓n_96, ↓g_87_18, ↓l_97, ↓s_97, ↓n_97, ↓g_87_19, ↓p_87_19, ↓g_87_20, ↓p_87_20, ↓g_87_21, ↓l_98, ↓s_98, ↓n_98, ↓g_87_22, ↓l_99, ↓s_99, ↓n_99, ↓g_87_23, ↓l_100, ↓s_100, ↓n_100, ↓g_87_24, ↓l_101, ↓s_101, ↓n_101, e1, e2, e3]
    exact ⟨h1, h2, q1.1, by omega, q1.1, by omega, q4.1, by omega, q2.1, q2.2, q3.1, q3.2, hC⟩
def B_earsOf (e : Int) (M : Nat → Nat → Int) (post : Option ZV → (Nat → Nat → Int) → Prop) : Prop := 0 ≤ e ∧ e < 8 ∧ Vd (M 88) ∧ post (some (.inl (ears (M 88) e))) M
def C_earsOf : ZC := fun as h post => match as with
  | [.inr (.inr (.inl 87)), .inl e] => h.1 = zG ∧ B_earsOf e h.2 (fun v M => post v (zG, M))
  | _ => False
theorem r_earsOf {e : Int} {M : Nat → Nat → Int} {post : Option ZV → ZH → Prop} : C_earsOf [.inr (.inr (.inl 87)), .inl e] (zG, M) post = B_earsOf e M (fun v M => post v (zG, M)) := by show (zG = zG ∧ _) = _; simp
def ct_earsOf : Nat → ZC := fun n => if n = 126 then C_of else if n = 156 then C_farHeard else fun _ _ _ => False
theorem ct_earsOf_of {as : List ZV} {h : ZH} {post : Option ZV → ZH → Prop} : ct_earsOf 126 as h post = C_of as h post := rfl
theorem ct_earsOf_farHeard {as : List ZV} {h : ZH} {post : Option ZV → ZH → Prop} : ct_earsOf 156 as h post = C_farHeard as h post := rfl
theorem c_earsOf {E : ZE} {d : Nat} (hd : 4 ≤ d) : zMet E d mX11_earsOf C_earsOf := by
  refine zmet_of (o := 11) (ini := false) (CT := ct_earsOf) gd_X11_earsOf rfl (fun h => by cases h) (by omega) ?_ ?_
  · intro n as h post hh
    unfold ct_earsOf at hh
    by_cases c : n = 126
    · subst c; exact ⟨gd_X11_of, 1, by omega, c_of (by omega)⟩
    rw [if_neg c] at hh
    by_cases c : n = 156
    · subst c; exact ⟨gd_X11_farHeard, 3, by omega, c_farHeard (by omega)⟩
    rw [if_neg c] at hh
    exact hh.elim
  intro as h post hC
  match as, hC with
  | [.inr (.inr (.inl 87)), .inl e], hC =>
    refine ⟨Nat.le_of_ble_eq_true rfl, fun X hX => bs_X11_earsOf_0 hX ?_⟩
    obtain ⟨G, M⟩ := h
    obtain ⟨hG, hC⟩ := hC
    dsimp only at hG
    subst hG
    simp only [B_earsOf] at hC
    show bk_X11_earsOf_0 E ct_earsOf X _ [some (.inr (.inr (.inl 87))), some (.inl e), none] [] (zG, M) (0, 0)
    obtain ⟨h1, h2, h3, hC⟩ := hC
    have q0 := (Vd_ei h3 h1 h2).1
    have q1 := (Vd_ei h3 h1 h2).2.1
    have q2 := Vd_fh h3 h1 h2
    have q3 := h3.2.1
    have e0 : M 88 (162 + 3 * e + 0).toNat = ei (M 88) e 0 := rfl
    have e1 : M 88 (162 + 3 * e + 1).toNat = ei (M 88) e 1 := rfl
    have z0 : zr (ei (M 88) e 0) = ei (M 88) e 0 := zr_of (by omega) (by omega)
    have z1 : zr (ei (M 88) e 1) = ei (M 88) e 1 := zr_of (by omega) (by omega)
    have z2 : zr (fh (M 88) e) = fh (M 88) e := zr_of (by omega) (by omega)
    have z3 : zr (M 88 1) = M 88 1 := zr_of (by omega) (by omega)
    have z4 : zr (M 88 1 % 2) = M 88 1 % 2 := zr_of (by omega) (by omega)
    simp only [bk_X11_earsOf_0, k_X11_earsOf_0, bk_X11_earsOf_48, k_X11_earsOf_48, bk_X11_earsOf_54, k_X11_earsOf_54, bk_X11_earsOf_56, k_X11_earsOf_56, bk_X11_earsOf_58, k_X11_earsOf_58, bk_X11_earsOf_78, k_X11_earsOf_78, bk_X11_earsOf_79, k_X11_earsOf_79, bk_X11_earsOf_81, k_X11_earsOf_81, bk_X11_earsOf_94, k_X11_earsOf_94, bk_X11_earsOf_95, k_X11_earsOf_95, bk_X11_earsOf_96, k_X11_earsOf_96, ↓e_rk1, ↓e_rk0, ↓e_sk0, ↓e_sks, ↓e_ldi0, ↓e_ldis, ↓e_ldl0, ↓e_ldls, ↓e_lda0, ↓e_ldas, ↓e_ok0, ↓e_okss, ↓e_ok1i, ↓e_ok1r, ↓e_ok1n, ↓e_sti, ↓e_sta, ↓e_1, ↓e_2, ↓e_l1, ↓e_l2, ↓e_li, ↓e_sw0, ↓e_sws, ↓e_ceq, ↓e_cne, ↓e_clt, ↓e_cge, ↓e_cgt, ↓e_cle, ↓e_nil, ↓e_cons, ↓e_iconst, ↓e_bipush, ↓e_sipush, ↓e_ldc, ↓e_ldcw, ↓e_ldc2, ↓e_lconst, ↓e_iloadn, ↓e_iload, ↓e_lloadn, ↓e_lload, ↓e_aloadn, ↓e_aload, ↓e_istoren, ↓e_istore, ↓e_astoren, ↓e_astore, ↓e_add, ↓e_iinc, ↓e_iadd, ↓e_isub, ↓e_imul, ↓e_iand, ↓e_ior, ↓e_ixor, ↓e_ishl, ↓e_iushr, ↓e_idiv, ↓e_irem, ↓e_ineg, ↓e_i2l, ↓e_i2b, ↓e_i2s, ↓e_l2i, ↓e_land, ↓e_lor, ↓e_lshl, ↓e_lshr, ↓e_lushr, ↓e_lcmp, ↓e_dupi, ↓e_dupr, ↓e_popi, ↓e_dup2, ↓e_goto, ↓e_if, ↓e_icmp, ↓e_tsw, ↓e_lsw, ↓e_getf, ↓e_putf, ↓e_gets, ↓e_iald, ↓e_cald, ↓e_iast, ↓e_aald, ↓e_aast, ↓e_len, ↓e_copy, ↓e_abs, ↓e_max, ↓e_min, ↓e_iret, ↓e_aret, ↓e_vret, ↓e_is0, ↓e_is1, ↓e_is2, ↓e_is3, ↓e_is4, ↓e_iv1, ↓e_iv2, ↓e_iv3, ↓e_iv4, ↓e_iv5, ↓e_iv6, ↓rt_X11_earsOf, ↓reduceIte, Nat.reduceAdd, Nat.reduceEqDiff, ↓zcl0, ↓zclv, List.map_nil, List.sum_nil, List.map_cons, List.sum_cons, zcat, true_and, and_true, Nat.reduceLeDiff, Nat.reduceAdd, eq_self, forall_const, e_ok0, e_okss, e_ok1i, e_ok1r, e_ok1n, zl_0, zl_1, zl_2, zl_3, zl_4, Int.reduceToNat, Int.reduceAdd, Int.reduceMul, Int.reduceSub, Int.reduceNeg, Int.reduceLT, Int.reduceLE, Int.reduceEq, not_false_eq_true, not_true_eq_false, false_implies, true_implies, implies_true, Int.reduceDiv, Int.reduceMod, zr8_zr, zr_zbo, z01_zbo, z01_0, z01_1, zbo_eq0, zup_eq, zup_o, zup_k, ne_eq, ↓ct_earsOf_of, ↓r_of, ↓B_of, ↓ct_earsOf_farHeard, ↓r_farHeard, ↓B_farHeard, ↓v_87, ↓g_87_0, ↓l_88, ↓s_88, ↓n_88, ↓g_87_1, ↓l_89, ↓s_89, ↓n_89, ↓g_87_2, ↓l_90, ↓s_90, ↓n_90, ↓g_87_3, ↓p_87_3, ↓g_87_4, ↓l_91, ↓s_91, ↓n_91, ↓g_87_5, ↓p_87_5, ↓g_87_6, ↓p_87_6, ↓g_87_7, ↓p_87_7, ↓g_87_8, ↓p_87_8, ↓g_87_9, ↓p_87_9, ↓g_87_10, ↓p_87_10, ↓g_87_11, ↓l_92, ↓s_92, ↓n_92, ↓g_87_12, ↓l_93, ↓s_93, ↓n_93, ↓g_87_13, ↓p_87_13, ↓g_87_14, ↓l_94, ↓s_94, ↓n_94, ↓g_87_15, ↓p_87_15, ↓g_87_16, ↓l_95, ↓s_95, ↓n_95, ↓g_87_17, ↓l_96, ↓s_96, ↓n_96, ↓g_87_18, ↓l_97, ↓s_97, ↓n_97, ↓g_87_19, ↓p_87_19, ↓g_87_20, ↓p_87_20, ↓g_87_21, ↓l_98, ↓s_98, ↓n_98, ↓g_87_22, ↓l_99, ↓s_99, ↓n_99, ↓g_87_23, ↓l_100, ↓s_100, ↓n_100, ↓g_87_24, ↓l_101, ↓s_101, ↓n_101, e0, e1, z0, z1, z2, z3, z4, td_of, q1.1, tm_of, q3.1]
    repeat' (first | assumption | apply And.intro | intro _)
    all_goals first | omega | assumption | exact zpost hC (by simp [ears, eark, *])
def B_gives (e : Int) (M : Nat → Nat → Int) (post : Option ZV → (Nat → Nat → Int) → Prop) : Prop := 0 ≤ e ∧ e < 8 ∧ Vd (M 88) ∧ ∀ M' : ZMm, (∀ x, ¬ x = 92 → ¬ x = 94 → M' x = M x) → post (some (.inl (gvs (M 88) e))) M'
def C_gives : ZC := fun as h post => match as with
  | [.inr (.inr (.inl 87)), .inl e] => h.1 = zG ∧ B_gives e h.2 (fun v M => post v (zG, M))
  | _ => False
theorem r_gives {e : Int} {M : Nat → Nat → Int} {post : Option ZV → ZH → Prop} : C_gives [.inr (.inr (.inl 87)), .inl e] (zG, M) post = B_gives e M (fun v M => post v (zG, M)) := by show (zG = zG ∧ _) = _; simp
def ct_gives : Nat → ZC := fun n => if n = 159 then C_earsOf else if n = 156 then C_farHeard else if n = 149 then C_textGives else fun _ _ _ => False
theorem ct_gives_earsOf {as : List ZV} {h : ZH} {post : Option ZV → ZH → Prop} : ct_gives 159 as h post = C_earsOf as h post := rfl
theorem ct_gives_farHeard {as : List ZV} {h : ZH} {post : Option ZV → ZH → Prop} : ct_gives 156 as h post = C_farHeard as h post := rfl
theorem ct_gives_textGives {as : List ZV} {h : ZH} {post : Option ZV → ZH → Prop} : ct_gives 149 as h post = C_textGives as h post := rfl
theorem c_gives {E : ZE} {d : Nat} (hd : 5 ≤ d) : zMet E d mX11_gives C_gives := by
  refine zmet_of (o := 11) (ini := false) (CT := ct_gives) gd_X11_gives rfl (fun h => by cases h) (by omega) ?_ ?_
  · intro n as h post hh
    unfold ct_gives at hh
    by_cases c : n = 159
    · subst c; exact ⟨gd_X11_earsOf, 4, by omega, c_earsOf (by omega)⟩
    rw [if_neg c] at hh
    by_cases c : n = 156
    · subst c; exact ⟨gd_X11_farHeard, 3, by omega, c_farHeard (by omega)⟩
    rw [if_neg c] at hh
    by_cases c : n = 149
    · subst c; exact ⟨gd_X11_textGives, 3, by omega, c_textGives (by omega)⟩
    rw [if_neg c] at hh
    exact hh.elim
  intro as h post hC
  match as, hC with
  | [.inr (.inr (.inl 87)), .inl e], hC =>
    refine ⟨Nat.le_of_ble_eq_true rfl, fun X hX => bs_X11_gives_0 hX ?_⟩
    obtain ⟨G, M⟩ := h
    obtain ⟨hG, hC⟩ := hC
    dsimp only at hG
    subst hG
    simp only [B_gives] at hC
    show bk_X11_gives_0 E ct_gives X _ [some (.inr (.inr (.inl 87))), some (.inl e)] [] (zG, M) (0, 0)
    obtain ⟨h1, h2, h3, hC⟩ := hC
    have q3 := h3.2.1
    have z3 : zr (M 88 1) = M 88 1 := zr_of (by omega) (by omega)
    simp only [bk_X11_gives_0, k_X11_gives_0, ↓e_rk1, ↓e_rk0, ↓e_sk0, ↓e_sks, ↓e_ldi0, ↓e_ldis, ↓e_ldl0, ↓e_ldls, ↓e_lda0, ↓e_ldas, ↓e_ok0, ↓e_okss, ↓e_ok1i, ↓e_ok1r, ↓e_ok1n, ↓e_sti, ↓e_sta, ↓e_1, ↓e_2, ↓e_l1, ↓e_l2, ↓e_li, ↓e_sw0, ↓e_sws, ↓e_ceq, ↓e_cne, ↓e_clt, ↓e_cge, ↓e_cgt, ↓e_cle, ↓e_nil, ↓e_cons, ↓e_iconst, ↓e_bipush, ↓e_sipush, ↓e_ldc, ↓e_ldcw, ↓e_ldc2, ↓e_lconst, ↓e_iloadn, ↓e_iload, ↓e_lloadn, ↓e_lload, ↓e_aloadn, ↓e_aload, ↓e_istoren, ↓e_istore, ↓e_astoren, ↓e_astore, ↓e_add, ↓e_iinc, ↓e_iadd, ↓e_isub, ↓e_imul, ↓e_iand, ↓e_ior, ↓e_ixor, ↓e_ishl, ↓e_iushr, ↓e_idiv, ↓e_irem, ↓e_ineg, ↓e_i2l, ↓e_i2b, ↓e_i2s, ↓e_l2i, ↓e_land, ↓e_lor, ↓e_lshl, ↓e_lshr, ↓e_lushr, ↓e_lcmp, ↓e_dupi, ↓e_dupr, ↓e_popi, ↓e_dup2, ↓e_goto, ↓e_if, ↓e_icmp, ↓e_tsw, ↓e_lsw, ↓e_getf, ↓e_putf, ↓e_gets, ↓e_iald, ↓e_cald, ↓e_iast, ↓e_aald, ↓e_aast, ↓e_len, ↓e_copy, ↓e_abs, ↓e_max, ↓e_min, ↓e_iret, ↓e_aret, ↓e_vret, ↓e_is0, ↓e_is1, ↓e_is2, ↓e_is3, ↓e_is4, ↓e_iv1, ↓e_iv2, ↓e_iv3, ↓e_iv4, ↓e_iv5, ↓e_iv6, ↓rt_X11_gives, ↓reduceIte, Nat.reduceAdd, Nat.reduceEqDiff, ↓zcl0, ↓zclv, List.map_nil, List.sum_nil, List.map_cons, List.sum_cons, zcat, true_and, and_true, Nat.reduceLeDiff, Nat.reduceAdd, eq_self, forall_const, e_ok0, e_okss, e_ok1i, e_ok1r, e_ok1n, zl_0, zl_1, zl_8, Int.reduceToNat, Int.reduceAdd, Int.reduceMul, Int.reduceSub, Int.reduceNeg, Int.reduceLT, Int.reduceLE, Int.reduceEq, not_false_eq_true, not_true_eq_false, false_implies, true_implies, implies_true, Int.reduceDiv, Int.reduceMod, zr8_zr, zr_zbo, z01_zbo, z01_0, z01_1, zbo_eq0, zup_eq, zup_o, zup_k, ne_eq, ↓ct_gives_earsOf, ↓r_earsOf, ↓B_earsOf, ↓ct_gives_farHeard, ↓r_farHeard, ↓B_farHeard, ↓ct_gives_textGives, ↓r_textGives, ↓B_textGives, ↓v_87, ↓g_87_0, ↓l_88, ↓s_88, ↓n_88, ↓g_87_1, ↓l_89, ↓s_89, ↓n_89, ↓g_87_2, ↓l_90, ↓s_90, ↓n_90, ↓g_87_3, ↓p_87_3, ↓g_87_4, ↓l_91, ↓s_91, ↓n_91, ↓g_87_5, ↓p_87_5, ↓g_87_6, ↓p_87_6, ↓g_87_7, ↓p_87_7, ↓g_87_8, ↓p_87_8, ↓g_87_9, ↓p_87_9, ↓g_87_10, ↓p_87_10, ↓g_87_11, ↓l_92, ↓s_92, ↓n_92, ↓g_87_12, ↓l_93, ↓s_93, ↓n_93, ↓g_87_13, ↓p_87_13, ↓g_87_14, ↓l_94, ↓s_94, ↓n_94, ↓g_87_15, ↓p_87_15, ↓g_87_16, ↓l_95, ↓s_95, ↓n_95, ↓g_87_17, ↓l_96, ↓s_96, ↓n_96, ↓g_87_18, ↓l_97, ↓s_97, ↓n_97, ↓g_87_19, ↓p_87_19, ↓g_87_20, ↓p_87_20, ↓g_87_21, ↓l_98, ↓s_98, ↓n_98, ↓g_87_22, ↓l_99, ↓s_99, ↓n_99, ↓g_87_23, ↓l_100, ↓s_100, ↓n_100, ↓g_87_24, ↓l_101, ↓s_101, ↓n_101, z3, tm_of, q3.1]
    exact ⟨h1, h2, h3, h1, h2, h3, h3.2.2.2.2.2.2.2.2.2.2.1, hC⟩
theorem jn {P : Int → Prop} {c : Prop} [Decidable c] {a b : Int} (h : P (if c then a else b)) : (c → P a) ∧ (¬ c → P b) := ⟨fun q => by rw [if_pos q] at h; exact h, fun q => by rw [if_neg q] at h; exact h⟩
def B_points (e : Int) (M : Nat → Nat → Int) (post : Option ZV → (Nat → Nat → Int) → Prop) : Prop := 0 ≤ e ∧ e < 8 ∧ Vd (M 88) ∧ post (some (.inl (pts (M 88) e))) M
def C_points : ZC := fun as h post => match as with
  | [.inr (.inr (.inl 87)), .inl e] => h.1 = zG ∧ B_points e h.2 (fun v M => post v (zG, M))
  | _ => False
theorem r_points {e : Int} {M : Nat → Nat → Int} {post : Option ZV → ZH → Prop} : C_points [.inr (.inr (.inl 87)), .inl e] (zG, M) post = B_points e M (fun v M => post v (zG, M)) := by show (zG = zG ∧ _) = _; simp
def ct_points : Nat → ZC := fun n => if n = 126 then C_of else if n = 127 then C_its else if n = 155 then C_heardBy else if n = 122 then C_size else if n = 157 then C_turned else if n = 156 then C_farHeard else fun _ _ _ => False
theorem ct_points_of {as : List ZV} {h : ZH} {post : Option ZV → ZH → Prop} : ct_points 126 as h post = C_of as h post := rfl
theorem ct_points_its {as : List ZV} {h : ZH} {post : Option ZV → ZH → Prop} : ct_points 127 as h post = C_its as h post := rfl
theorem ct_points_heardBy {as : List ZV} {h : ZH} {post : Option ZV → ZH → Prop} : ct_points 155 as h post = C_heardBy as h post := rfl
theorem ct_points_size {as : List ZV} {h : ZH} {post : Option ZV → ZH → Prop} : ct_points 122 as h post = C_size as h post := rfl
theorem ct_points_turned {as : List ZV} {h : ZH} {post : Option ZV → ZH → Prop} : ct_points 157 as h post = C_turned as h post := rfl
theorem ct_points_farHeard {as : List ZV} {h : ZH} {post : Option ZV → ZH → Prop} : ct_points 156 as h post = C_farHeard as h post := rfl
theorem c_points {E : ZE} {d : Nat} (hd : 4 ≤ d) : zMet E d mX11_points C_points := by
  refine zmet_of (o := 11) (ini := false) (CT := ct_points) gd_X11_points rfl (fun h => by cases h) (by omega) ?_ ?_
  · intro n as h post hh
    unfold ct_points at hh
    by_cases c : n = 126
    · subst c; exact ⟨gd_X11_of, 1, by omega, c_of (by omega)⟩
    rw [if_neg c] at hh
    by_cases c : n = 127
    · subst c; exact ⟨gd_X11_its, 1, by omega, c_its (by omega)⟩
    rw [if_neg c] at hh
    by_cases c : n = 155
    · subst c; exact ⟨gd_X11_heardBy, 1, by omega, c_heardBy (by omega)⟩
    rw [if_neg c] at hh
    by_cases c : n = 122
    · subst c; exact ⟨gd_X11_size, 1, by omega, c_size (by omega)⟩
    rw [if_neg c] at hh
    by_cases c : n = 157
    · subst c; exact ⟨gd_X11_turned, 1, by omega, c_turned (by omega)⟩
    rw [if_neg c] at hh
    by_cases c : n = 156
    · subst c; exact ⟨gd_X11_farHeard, 3, by omega, c_farHeard (by omega)⟩
    rw [if_neg c] at hh
    exact hh.elim
  intro as h post hC
  match as, hC with
  | [.inr (.inr (.inl 87)), .inl e], hC =>
    refine ⟨Nat.le_of_ble_eq_true rfl, fun X hX => bs_X11_points_0 hX ?_⟩
    obtain ⟨G, M⟩ := h
    obtain ⟨hG, hC⟩ := hC
    dsimp only at hG
    subst hG
    simp only [B_points] at hC
    show bk_X11_points_0 E ct_points X _ [some (.inr (.inr (.inl 87))), some (.inl e), none, none, none, none, none, none, none, none, none] [] (zG, M) (0, 0)
    obtain ⟨h1, h2, h3, hC⟩ := hC
    obtain ⟨q0, q1, q2⟩ := Vd_ei h3 h1 h2
    obtain ⟨p0, p1, p2, p3⟩ := Vd_hi h3 (e := ei (M 88) e 2) q2.1 (by omega)
    have p4 := Vd_hb h3 (e := ei (M 88) e 2) q2.1 (by omega)
    have p5 := Vd_fh h3 h1 h2
    have p6 := h3.2.1
    have p7 := h3.2.2.1
    have e0 : M 88 (162 + 3 * e + 0).toNat = ei (M 88) e 0 := rfl
    have e1 : M 88 (162 + 3 * e + 1).toNat = ei (M 88) e 1 := rfl
    have e2 : M 88 (162 + 3 * e + 2).toNat = ei (M 88) e 2 := rfl
    have e3 : M 88 (134 + 4 * ei (M 88) e 2 + 0).toNat = hi4 (M 88) (ei (M 88) e 2) 0 := rfl
    have e4 : M 88 (134 + 4 * ei (M 88) e 2 + 3).toNat = hi4 (M 88) (ei (M 88) e 2) 3 := rfl
    have e5 : M 88 (142 + 10 * (1 - ei (M 88) e 2) + M 88 2).toNat = hb (M 88) (ei (M 88) e 2) := rfl
    unfold pts at hC
    obtain ⟨ffh, hffh⟩ : ∃ x, fh (M 88) e = x := ⟨_, rfl⟩
    rw [hffh] at hC p5
    generalize ei (M 88) e 0 = kd at *
    generalize ei (M 88) e 1 = mm at *
    generalize ei (M 88) e 2 = hh at *
    generalize hi4 (M 88) hh 0 = hat at *
    generalize hi4 (M 88) hh 3 = hla at *
    generalize hb (M 88) hh = hea at *
    have zkd : zr kd = kd := zr_of (by omega) (by omega)
    have zmm : zr mm = mm := zr_of (by omega) (by omega)
    have zat : zr hat = hat := zr_of (by omega) (by omega)
    have zla : zr hla = hla := zr_of (by omega) (by omega)
    have zea : zr hea = hea := zr_of (by omega) (by omega)
    have zfh : zr ffh = ffh := zr_of (by omega) (by omega)
    have zyr : zr (M 88 1) = M 88 1 := zr_of (by omega) (by omega)
    have zy5 : zr (M 88 1 % 5) = M 88 1 % 5 := zr_of (by omega) (by omega)
    have zy10 : zr (M 88 1 % 10) = M 88 1 % 10 := zr_of (by omega) (by omega)
    have zy2 : zr (M 88 1 % 2) = M 88 1 % 2 := zr_of (by omega) (by omega)
    have zm5 : zr (mm % 5) = mm % 5 := zr_of (by omega) (by omega)
    obtain ⟨r, hr⟩ : ∃ r, r = hea % 8 - hat % 8 := ⟨_, rfl⟩
    obtain ⟨dw, hdw⟩ : ∃ dw, dw = hea / 8 - hat / 8 := ⟨_, rfl⟩
    have zrr : zr r = r := zr_of (by omega) (by omega)
    have zdw : zr dw = dw := zr_of (by omega) (by omega)
    have rgr : rg r := ⟨by omega, by omega⟩
    have rgd : rg dw := ⟨by omega, by omega⟩
    have zsr : zr (sz r) = sz r := by unfold sz; split <;> exact zr_of (by omega) (by omega)
    have zsd : zr (sz dw) = sz dw := by unfold sz; split <;> exact zr_of (by omega) (by omega)
    rw [← hr, ← hdw] at hC
    simp only [bk_X11_points_0, k_X11_points_0, bk_X11_points_63, k_X11_points_63, bk_X11_points_64, k_X11_points_64, bk_X11_points_80, k_X11_points_80, bk_X11_points_102, k_X11_points_102, bk_X11_points_106, k_X11_points_106, bk_X11_points_108, k_X11_points_108, bk_X11_points_120, k_X11_points_120, bk_X11_points_122, k_X11_points_122, bk_X11_points_144, k_X11_points_144, bk_X11_points_145, k_X11_points_145, bk_X11_points_169, k_X11_points_169, bk_X11_points_170, k_X11_points_170, bk_X11_points_220, k_X11_points_220, bk_X11_points_223, k_X11_points_223, bk_X11_points_226, k_X11_points_226, bk_X11_points_229, k_X11_points_229, bk_X11_points_257, k_X11_points_257, bk_X11_points_259, k_X11_points_259, bk_X11_points_260, k_X11_points_260, bk_X11_points_267, k_X11_points_267, bk_X11_points_282, k_X11_points_282, bk_X11_points_284, k_X11_points_284, bk_X11_points_285, k_X11_points_285, ↓e_rk1, ↓e_rk0, ↓e_sk0, ↓e_sks, ↓e_ldi0, ↓e_ldis, ↓e_ldl0, ↓e_ldls, ↓e_lda0, ↓e_ldas, ↓e_ok0, ↓e_okss, ↓e_ok1i, ↓e_ok1r, ↓e_ok1n, ↓e_sti, ↓e_sta, ↓e_1, ↓e_2, ↓e_l1, ↓e_l2, ↓e_li, ↓e_sw0, ↓e_sws, ↓e_ceq, ↓e_cne, ↓e_clt, ↓e_cge, ↓e_cgt, ↓e_cle, ↓e_nil, ↓e_cons, ↓e_iconst, ↓e_bipush, ↓e_sipush, ↓e_ldc, ↓e_ldcw, ↓e_ldc2, ↓e_lconst, ↓e_iloadn, ↓e_iload, ↓e_lloadn, ↓e_lload, ↓e_aloadn, ↓e_aload, ↓e_istoren, ↓e_istore, ↓e_astoren, ↓e_astore, ↓e_add, ↓e_iinc, ↓e_iadd, ↓e_isub, ↓e_imul, ↓e_iand, ↓e_ior, ↓e_ixor, ↓e_ishl, ↓e_iushr, ↓e_idiv, ↓e_irem, ↓e_ineg, ↓e_i2l, ↓e_i2b, ↓e_i2s, ↓e_l2i, ↓e_land, ↓e_lor, ↓e_lshl, ↓e_lshr, ↓e_lushr, ↓e_lcmp, ↓e_dupi, ↓e_dupr, ↓e_popi, ↓e_dup2, ↓e_goto, ↓e_if, ↓e_icmp, ↓e_tsw, ↓e_lsw, ↓e_getf, ↓e_putf, ↓e_gets, ↓e_iald, ↓e_cald, ↓e_iast, ↓e_aald, ↓e_aast, ↓e_len, ↓e_copy, ↓e_abs, ↓e_max, ↓e_min, ↓e_iret, ↓e_aret, ↓e_vret, ↓e_is0, ↓e_is1, ↓e_is2, ↓e_is3, ↓e_is4, ↓e_iv1, ↓e_iv2, ↓e_iv3, ↓e_iv4, ↓e_iv5, ↓e_iv6, ↓rt_X11_points, ↓reduceIte, Nat.reduceAdd, Nat.reduceEqDiff, ↓zcl0, ↓zclv, List.map_nil, List.sum_nil, List.map_cons, List.sum_cons, zcat, true_and, and_true, Nat.reduceLeDiff, Nat.reduceAdd, eq_self, forall_const, e_ok0, e_okss, e_ok1i, e_ok1r, e_ok1n, zl_0, zl_1, zl_2, zl_3, zl_4, zl_5, zl_8, zl_10, Int.reduceToNat, Int.reduceAdd, Int.reduceMul, Int.reduceSub, Int.reduceNeg, Int.reduceLT, Int.reduceLE, Int.reduceEq, not_false_eq_true, not_true_eq_false, false_implies, true_implies, implies_true, Int.reduceDiv, Int.reduceMod, zr8_zr, zr_zbo, z01_zbo, z01_0, z01_1, zbo_eq0, zup_eq, zup_o, zup_k, ne_eq, ↓ct_points_of, ↓r_of, ↓B_of, ↓ct_points_its, ↓r_its, ↓B_its, ↓ct_points_heardBy, ↓r_heardBy, ↓B_heardBy, ↓ct_points_size, ↓r_size, ↓B_size, ↓ct_points_turned, ↓r_turned, ↓B_turned, ↓ct_points_farHeard, ↓r_farHeard, ↓B_farHeard, ↓v_87, ↓g_87_0, ↓l_88, ↓s_88, ↓n_88, ↓g_87_1, ↓l_89, ↓s_89, ↓n_89, ↓g_87_2, ↓l_90, ↓s_90, ↓n_90, ↓g_87_3, ↓p_87_3, ↓g_87_4, ↓l_91, ↓s_91, ↓n_91, ↓g_87_5, ↓p_87_5, ↓g_87_6, ↓p_87_6, ↓g_87_7, ↓p_87_7, ↓g_87_8, ↓p_87_8, ↓g_87_9, ↓p_87_9, ↓g_87_10, ↓p_87_10, ↓g_87_11, ↓l_92, ↓s_92, ↓n_92, ↓g_87_12, ↓l_93, ↓s_93, ↓n_93, ↓g_87_13, ↓p_87_13, ↓g_87_14, ↓l_94, ↓s_94, ↓n_94, ↓g_87_15, ↓p_87_15, ↓g_87_16, ↓l_95, ↓s_95, ↓n_95, ↓g_87_17, ↓l_96, ↓s_96, ↓n_96, ↓g_87_18, ↓l_97, ↓s_97, ↓n_97, ↓g_87_19, ↓p_87_19, ↓g_87_20, ↓p_87_20, ↓g_87_21, ↓l_98, ↓s_98, ↓n_98, ↓g_87_22, ↓l_99, ↓s_99, ↓n_99, ↓g_87_23, ↓l_100, ↓s_100, ↓n_100, ↓g_87_24, ↓l_101, ↓s_101, ↓n_101, e0, e1, e2, e3, e5, zea, zat, tm_of, p4.1, tm_of, p0.1, td_of, p4.1, td_of, p0.1]
    rw [← hr, ← hdw]
    clear hr hdw
    have pr := plain_rng r dw
    have ar := aly_rng dw
    have drr := trn_rng (q := if M 88 1 % 5 = mm % 5 then 2 else 0) pr.1
    have fwr := trn_rng (q := if M 88 1 % 10 < mm then 1 else 0) pr.1
    have zpl : zr (plain r dw) = plain r dw := zr_of (by omega) (by omega)
    have J170 : X 170 [some (.inr (.inr (.inl 87))), some (.inl e), some (.inl hh), some (.inl mm), some (.inl r), some (.inl dw), some (.inl (aly dw)), some (.inl (plain r dw)), some (.inl (srv r dw)), some (.inl (drm mm (M 88 1) r dw)), none] [.inl (if M 88 1 % 10 < mm then 1 else 0), .inl (plain r dw)] (zG, M) (0, 0) := by
      refine bs_X11_points_170 hX ?_
      simp only [bk_X11_points_0, k_X11_points_0, bk_X11_points_63, k_X11_points_63, bk_X11_points_64, k_X11_points_64, bk_X11_points_80, k_X11_points_80, bk_X11_points_102, k_X11_points_102, bk_X11_points_106, k_X11_points_106, bk_X11_points_108, k_X11_points_108, bk_X11_points_120, k_X11_points_120, bk_X11_points_122, k_X11_points_122, bk_X11_points_144, k_X11_points_144, bk_X11_points_145, k_X11_points_145, bk_X11_points_169, k_X11_points_169, bk_X11_points_170, k_X11_points_170, bk_X11_points_220, k_X11_points_220, bk_X11_points_223, k_X11_points_223, bk_X11_points_226, k_X11_points_226, bk_X11_points_229, k_X11_points_229, bk_X11_points_257, k_X11_points_257, bk_X11_points_259, k_X11_points_259, bk_X11_points_260, k_X11_points_260, bk_X11_points_267, k_X11_points_267, bk_X11_points_282, k_X11_points_282, bk_X11_points_284, k_X11_points_284, bk_X11_points_285, k_X11_points_285, ↓e_rk1, ↓e_rk0, ↓e_sk0, ↓e_sks, ↓e_ldi0, ↓e_ldis, ↓e_ldl0, ↓e_ldls, ↓e_lda0, ↓e_ldas, ↓e_ok0, ↓e_okss, ↓e_ok1i, ↓e_ok1r, ↓e_ok1n, ↓e_sti, ↓e_sta, ↓e_1, ↓e_2, ↓e_l1, ↓e_l2, ↓e_li, ↓e_sw0, ↓e_sws, ↓e_ceq, ↓e_cne, ↓e_clt, ↓e_cge, ↓e_cgt, ↓e_cle, ↓e_nil, ↓e_cons, ↓e_iconst, ↓e_bipush, ↓e_sipush, ↓e_ldc, ↓e_ldcw, ↓e_ldc2, ↓e_lconst, ↓e_iloadn, ↓e_iload, ↓e_lloadn, ↓e_lload, ↓e_aloadn, ↓e_aload, ↓e_istoren, ↓e_istore, ↓e_astoren, ↓e_astore, ↓e_add, ↓e_iinc, ↓e_iadd, ↓e_isub, ↓e_imul, ↓e_iand, ↓e_ior, ↓e_ixor, ↓e_ishl, ↓e_iushr, ↓e_idiv, ↓e_irem, ↓e_ineg, ↓e_i2l, ↓e_i2b, ↓e_i2s, ↓e_l2i, ↓e_land, ↓e_lor, ↓e_lshl, ↓e_lshr, ↓e_lushr, ↓e_lcmp, ↓e_dupi, ↓e_dupr, ↓e_popi, ↓e_dup2, ↓e_goto, ↓e_if, ↓e_icmp, ↓e_tsw, ↓e_lsw, ↓e_getf, ↓e_putf, ↓e_gets, ↓e_iald, ↓e_cald, ↓e_iast, ↓e_aald, ↓e_aast, ↓e_len, ↓e_copy, ↓e_abs, ↓e_max, ↓e_min, ↓e_iret, ↓e_aret, ↓e_vret, ↓e_is0, ↓e_is1, ↓e_is2, ↓e_is3, ↓e_is4, ↓e_iv1, ↓e_iv2, ↓e_iv3, ↓e_iv4, ↓e_iv5, ↓e_iv6, ↓rt_X11_points, ↓reduceIte, Nat.reduceAdd, Nat.reduceEqDiff, ↓zcl0, ↓zclv, List.map_nil, List.sum_nil, List.map_cons, List.sum_cons, zcat, true_and, and_true, Nat.reduceLeDiff, Nat.reduceAdd, eq_self, forall_const, e_ok0, e_okss, e_ok1i, e_ok1r, e_ok1n, zl_0, zl_1, zl_2, zl_3, zl_4, zl_5, zl_8, zl_10, Int.reduceToNat, Int.reduceAdd, Int.reduceMul, Int.reduceSub, Int.reduceNeg, Int.reduceLT, Int.reduceLE, Int.reduceEq, not_false_eq_true, not_true_eq_false, false_implies, true_implies, implies_true, Int.reduceDiv, Int.reduceMod, zr8_zr, zr_zbo, z01_zbo, z01_0, z01_1, zbo_eq0, zup_eq, zup_o, zup_k, ne_eq, ↓ct_points_of, ↓r_of, ↓B_of, ↓ct_points_its, ↓r_its, ↓B_its, ↓ct_points_heardBy, ↓r_heardBy, ↓B_heardBy, ↓ct_points_size, ↓r_size, ↓B_size, ↓ct_points_turned, ↓r_turned, ↓B_turned, ↓ct_points_farHeard, ↓r_farHeard, ↓B_farHeard, ↓v_87, ↓g_87_0, ↓l_88, ↓s_88, ↓n_88, ↓g_87_1, ↓l_89, ↓s_89, ↓n_89, ↓g_87_2, ↓l_90, ↓s_90, ↓n_90, ↓g_87_3, ↓p_87_3, ↓g_87_4, ↓l_91, ↓s_91, ↓n_91, ↓g_87_5, ↓p_87_5, ↓g_87_6, ↓p_87_6, ↓g_87_7, ↓p_87_7, ↓g_87_8, ↓p_87_8, ↓g_87_9, ↓p_87_9, ↓g_87_10, ↓p_87_10, ↓g_87_11, ↓l_92, ↓s_92, ↓n_92, ↓g_87_12, ↓l_93, ↓s_93, ↓n_93, ↓g_87_13, ↓p_87_13, ↓g_87_14, ↓l_94, ↓s_94, ↓n_94, ↓g_87_15, ↓p_87_15, ↓g_87_16, ↓l_95, ↓s_95, ↓n_95, ↓g_87_17, ↓l_96, ↓s_96, ↓n_96, ↓g_87_18, ↓l_97, ↓s_97, ↓n_97, ↓g_87_19, ↓p_87_19, ↓g_87_20, ↓p_87_20, ↓g_87_21, ↓l_98, ↓s_98, ↓n_98, ↓g_87_22, ↓l_99, ↓s_99, ↓n_99, ↓g_87_23, ↓l_100, ↓s_100, ↓n_100, ↓g_87_24, ↓l_101, ↓s_101, ↓n_101, e0, e1, e2, e4, zkd, zmm, zla, hffh, zfh, zyr, zy2, tm_of, p6.1]
      refine ⟨by omega, by omega, by split <;> omega, by split <;> omega, by omega, by omega, ?_⟩
      repeat' (first | assumption | apply And.intro | intro _)
      all_goals first | omega | exact drr.1 | exact drr.2 | exact zpost hC (by simp [ptk, fwd, *])
    have J145 : X 145 [some (.inr (.inr (.inl 87))), some (.inl e), some (.inl hh), some (.inl mm), some (.inl r), some (.inl dw), some (.inl (aly dw)), some (.inl (plain r dw)), some (.inl (srv r dw)), none, none] [.inl (if M 88 1 % 5 = mm % 5 then 2 else 0), .inl (plain r dw)] (zG, M) (0, 0) := by
      refine bs_X11_points_145 hX ?_
      simp only [bk_X11_points_0, k_X11_points_0, bk_X11_points_63, k_X11_points_63, bk_X11_points_64, k_X11_points_64, bk_X11_points_80, k_X11_points_80, bk_X11_points_102, k_X11_points_102, bk_X11_points_106, k_X11_points_106, bk_X11_points_108, k_X11_points_108, bk_X11_points_120, k_X11_points_120, bk_X11_points_122, k_X11_points_122, bk_X11_points_144, k_X11_points_144, bk_X11_points_145, k_X11_points_145, bk_X11_points_169, k_X11_points_169, bk_X11_points_170, k_X11_points_170, bk_X11_points_220, k_X11_points_220, bk_X11_points_223, k_X11_points_223, bk_X11_points_226, k_X11_points_226, bk_X11_points_229, k_X11_points_229, bk_X11_points_257, k_X11_points_257, bk_X11_points_259, k_X11_points_259, bk_X11_points_260, k_X11_points_260, bk_X11_points_267, k_X11_points_267, bk_X11_points_282, k_X11_points_282, bk_X11_points_284, k_X11_points_284, bk_X11_points_285, k_X11_points_285, ↓e_rk1, ↓e_rk0, ↓e_sk0, ↓e_sks, ↓e_ldi0, ↓e_ldis, ↓e_ldl0, ↓e_ldls, ↓e_lda0, ↓e_ldas, ↓e_ok0, ↓e_okss, ↓e_ok1i, ↓e_ok1r, ↓e_ok1n, ↓e_sti, ↓e_sta, ↓e_1, ↓e_2, ↓e_l1, ↓e_l2, ↓e_li, ↓e_sw0, ↓e_sws, ↓e_ceq, ↓e_cne, ↓e_clt, ↓e_cge, ↓e_cgt, ↓e_cle, ↓e_nil, ↓e_cons, ↓e_iconst, ↓e_bipush, ↓e_sipush, ↓e_ldc, ↓e_ldcw, ↓e_ldc2, ↓e_lconst, ↓e_iloadn, ↓e_iload, ↓e_lloadn, ↓e_lload, ↓e_aloadn, ↓e_aload, ↓e_istoren, ↓e_istore, ↓e_astoren, ↓e_astore, ↓e_add, ↓e_iinc, ↓e_iadd, ↓e_isub, ↓e_imul, ↓e_iand, ↓e_ior, ↓e_ixor, ↓e_ishl, ↓e_iushr, ↓e_idiv, ↓e_irem, ↓e_ineg, ↓e_i2l, ↓e_i2b, ↓e_i2s, ↓e_l2i, ↓e_land, ↓e_lor, ↓e_lshl, ↓e_lshr, ↓e_lushr, ↓e_lcmp, ↓e_dupi, ↓e_dupr, ↓e_popi, ↓e_dup2, ↓e_goto, ↓e_if, ↓e_icmp, ↓e_tsw, ↓e_lsw, ↓e_getf, ↓e_putf, ↓e_gets, ↓e_iald, ↓e_cald, ↓e_iast, ↓e_aald, ↓e_aast, ↓e_len, ↓e_copy, ↓e_abs, ↓e_max, ↓e_min, ↓e_iret, ↓e_aret, ↓e_vret, ↓e_is0, ↓e_is1, ↓e_is2, ↓e_is3, ↓e_is4, ↓e_iv1, ↓e_iv2, ↓e_iv3, ↓e_iv4, ↓e_iv5, ↓e_iv6, ↓rt_X11_points, ↓reduceIte, Nat.reduceAdd, Nat.reduceEqDiff, ↓zcl0, ↓zclv, List.map_nil, List.sum_nil, List.map_cons, List.sum_cons, zcat, true_and, and_true, Nat.reduceLeDiff, Nat.reduceAdd, eq_self, forall_const, e_ok0, e_okss, e_ok1i, e_ok1r, e_ok1n, zl_0, zl_1, zl_2, zl_3, zl_4, zl_5, zl_8, zl_10, Int.reduceToNat, Int.reduceAdd, Int.reduceMul, Int.reduceSub, Int.reduceNeg, Int.reduceLT, Int.reduceLE, Int.reduceEq, not_false_eq_true, not_true_eq_false, false_implies, true_implies, implies_true, Int.reduceDiv, Int.reduceMod, zr8_zr, zr_zbo, z01_zbo, z01_0, z01_1, zbo_eq0, zup_eq, zup_o, zup_k, ne_eq, ↓ct_points_of, ↓r_of, ↓B_of, ↓ct_points_its, ↓r_its, ↓B_its, ↓ct_points_heardBy, ↓r_heardBy, ↓B_heardBy, ↓ct_points_size, ↓r_size, ↓B_size, ↓ct_points_turned, ↓r_turned, ↓B_turned, ↓ct_points_farHeard, ↓r_farHeard, ↓B_farHeard, ↓v_87, ↓g_87_0, ↓l_88, ↓s_88, ↓n_88, ↓g_87_1, ↓l_89, ↓s_89, ↓n_89, ↓g_87_2, ↓l_90, ↓s_90, ↓n_90, ↓g_87_3, ↓p_87_3, ↓g_87_4, ↓l_91, ↓s_91, ↓n_91, ↓g_87_5, ↓p_87_5, ↓g_87_6, ↓p_87_6, ↓g_87_7, ↓p_87_7, ↓g_87_8, ↓p_87_8, ↓g_87_9, ↓p_87_9, ↓g_87_10, ↓p_87_10, ↓g_87_11, ↓l_92, ↓s_92, ↓n_92, ↓g_87_12, ↓l_93, ↓s_93, ↓n_93, ↓g_87_13, ↓p_87_13, ↓g_87_14, ↓l_94, ↓s_94, ↓n_94, ↓g_87_15, ↓p_87_15, ↓g_87_16, ↓l_95, ↓s_95, ↓n_95, ↓g_87_17, ↓l_96, ↓s_96, ↓n_96, ↓g_87_18, ↓l_97, ↓s_97, ↓n_97, ↓g_87_19, ↓p_87_19, ↓g_87_20, ↓p_87_20, ↓g_87_21, ↓l_98, ↓s_98, ↓n_98, ↓g_87_22, ↓l_99, ↓s_99, ↓n_99, ↓g_87_23, ↓l_100, ↓s_100, ↓n_100, ↓g_87_24, ↓l_101, ↓s_101, ↓n_101, zmm, zyr, zy10, tm_of, p6.1]
      exact ⟨by omega, by omega, by split <;> omega, by split <;> omega, jn (P := fun v => X 170 [some (.inr (.inr (.inl 87))), some (.inl e), some (.inl hh), some (.inl mm), some (.inl r), some (.inl dw), some (.inl (aly dw)), some (.inl (plain r dw)), some (.inl (srv r dw)), some (.inl (drm mm (M 88 1) r dw)), none] [.inl v, .inl (plain r dw)] (zG, M) (0, 0)) J170⟩
    have J122 : X 122 [some (.inr (.inr (.inl 87))), some (.inl e), some (.inl hh), some (.inl mm), some (.inl r), some (.inl dw), some (.inl (aly dw)), some (.inl (plain r dw)), none, none, none] [.inl (srv r dw)] (zG, M) (0, 0) := by
      refine bs_X11_points_122 hX ?_
      simp only [bk_X11_points_0, k_X11_points_0, bk_X11_points_63, k_X11_points_63, bk_X11_points_64, k_X11_points_64, bk_X11_points_80, k_X11_points_80, bk_X11_points_102, k_X11_points_102, bk_X11_points_106, k_X11_points_106, bk_X11_points_108, k_X11_points_108, bk_X11_points_120, k_X11_points_120, bk_X11_points_122, k_X11_points_122, bk_X11_points_144, k_X11_points_144, bk_X11_points_145, k_X11_points_145, bk_X11_points_169, k_X11_points_169, bk_X11_points_170, k_X11_points_170, bk_X11_points_220, k_X11_points_220, bk_X11_points_223, k_X11_points_223, bk_X11_points_226, k_X11_points_226, bk_X11_points_229, k_X11_points_229, bk_X11_points_257, k_X11_points_257, bk_X11_points_259, k_X11_points_259, bk_X11_points_260, k_X11_points_260, bk_X11_points_267, k_X11_points_267, bk_X11_points_282, k_X11_points_282, bk_X11_points_284, k_X11_points_284, bk_X11_points_285, k_X11_points_285, ↓e_rk1, ↓e_rk0, ↓e_sk0, ↓e_sks, ↓e_ldi0, ↓e_ldis, ↓e_ldl0, ↓e_ldls, ↓e_lda0, ↓e_ldas, ↓e_ok0, ↓e_okss, ↓e_ok1i, ↓e_ok1r, ↓e_ok1n, ↓e_sti, ↓e_sta, ↓e_1, ↓e_2, ↓e_l1, ↓e_l2, ↓e_li, ↓e_sw0, ↓e_sws, ↓e_ceq, ↓e_cne, ↓e_clt, ↓e_cge, ↓e_cgt, ↓e_cle, ↓e_nil, ↓e_cons, ↓e_iconst, ↓e_bipush, ↓e_sipush, ↓e_ldc, ↓e_ldcw, ↓e_ldc2, ↓e_lconst, ↓e_iloadn, ↓e_iload, ↓e_lloadn, ↓e_lload, ↓e_aloadn, ↓e_aload, ↓e_istoren, ↓e_istore, ↓e_astoren, ↓e_astore, ↓e_add, ↓e_iinc, ↓e_iadd, ↓e_isub, ↓e_imul, ↓e_iand, ↓e_ior, ↓e_ixor, ↓e_ishl, ↓e_iushr, ↓e_idiv, ↓e_irem, ↓e_ineg, ↓e_i2l, ↓e_i2b, ↓e_i2s, ↓e_l2i, ↓e_land, ↓e_lor, ↓e_lshl, ↓e_lshr, ↓e_lushr, ↓e_lcmp, ↓e_dupi, ↓e_dupr, ↓e_popi, ↓e_dup2, ↓e_goto, ↓e_if, ↓e_icmp, ↓e_tsw, ↓e_lsw, ↓e_getf, ↓e_putf, ↓e_gets, ↓e_iald, ↓e_cald, ↓e_iast, ↓e_aald, ↓e_aast, ↓e_len, ↓e_copy, ↓e_abs, ↓e_max, ↓e_min, ↓e_iret, ↓e_aret, ↓e_vret, ↓e_is0, ↓e_is1, ↓e_is2, ↓e_is3, ↓e_is4, ↓e_iv1, ↓e_iv2, ↓e_iv3, ↓e_iv4, ↓e_iv5, ↓e_iv6, ↓rt_X11_points, ↓reduceIte, Nat.reduceAdd, Nat.reduceEqDiff, ↓zcl0, ↓zclv, List.map_nil, List.sum_nil, List.map_cons, List.sum_cons, zcat, true_and, and_true, Nat.reduceLeDiff, Nat.reduceAdd, eq_self, forall_const, e_ok0, e_okss, e_ok1i, e_ok1r, e_ok1n, zl_0, zl_1, zl_2, zl_3, zl_4, zl_5, zl_8, zl_10, Int.reduceToNat, Int.reduceAdd, Int.reduceMul, Int.reduceSub, Int.reduceNeg, Int.reduceLT, Int.reduceLE, Int.reduceEq, not_false_eq_true, not_true_eq_false, false_implies, true_implies, implies_true, Int.reduceDiv, Int.reduceMod, zr8_zr, zr_zbo, z01_zbo, z01_0, z01_1, zbo_eq0, zup_eq, zup_o, zup_k, ne_eq, ↓ct_points_of, ↓r_of, ↓B_of, ↓ct_points_its, ↓r_its, ↓B_its, ↓ct_points_heardBy, ↓r_heardBy, ↓B_heardBy, ↓ct_points_size, ↓r_size, ↓B_size, ↓ct_points_turned, ↓r_turned, ↓B_turned, ↓ct_points_farHeard, ↓r_farHeard, ↓B_farHeard, ↓v_87, ↓g_87_0, ↓l_88, ↓s_88, ↓n_88, ↓g_87_1, ↓l_89, ↓s_89, ↓n_89, ↓g_87_2, ↓l_90, ↓s_90, ↓n_90, ↓g_87_3, ↓p_87_3, ↓g_87_4, ↓l_91, ↓s_91, ↓n_91, ↓g_87_5, ↓p_87_5, ↓g_87_6, ↓p_87_6, ↓g_87_7, ↓p_87_7, ↓g_87_8, ↓p_87_8, ↓g_87_9, ↓p_87_9, ↓g_87_10, ↓p_87_10, ↓g_87_11, ↓l_92, ↓s_92, ↓n_92, ↓g_87_12, ↓l_93, ↓s_93, ↓n_93, ↓g_87_13, ↓p_87_13, ↓g_87_14, ↓l_94, ↓s_94, ↓n_94, ↓g_87_15, ↓p_87_15, ↓g_87_16, ↓l_95, ↓s_95, ↓n_95, ↓g_87_17, ↓l_96, ↓s_96, ↓n_96, ↓g_87_18, ↓l_97, ↓s_97, ↓n_97, ↓g_87_19, ↓p_87_19, ↓g_87_20, ↓p_87_20, ↓g_87_21, ↓l_98, ↓s_98, ↓n_98, ↓g_87_22, ↓l_99, ↓s_99, ↓n_99, ↓g_87_23, ↓l_100, ↓s_100, ↓n_100, ↓g_87_24, ↓l_101, ↓s_101, ↓n_101, zmm, zyr, zy5, zm5, tm_of, p6.1, tm_of, q1.1]
      exact jn (P := fun v => X 145 [some (.inr (.inr (.inl 87))), some (.inl e), some (.inl hh), some (.inl mm), some (.inl r), some (.inl dw), some (.inl (aly dw)), some (.inl (plain r dw)), some (.inl (srv r dw)), none, none] [.inl v, .inl (plain r dw)] (zG, M) (0, 0)) J145
    have J108 : X 108 [some (.inr (.inr (.inl 87))), some (.inl e), some (.inl hh), some (.inl mm), some (.inl r), some (.inl dw), some (.inl (aly dw)), none, none, none, none] [.inl (plain r dw)] (zG, M) (0, 0) := by
      refine bs_X11_points_108 hX ?_
      simp only [bk_X11_points_0, k_X11_points_0, bk_X11_points_63, k_X11_points_63, bk_X11_points_64, k_X11_points_64, bk_X11_points_80, k_X11_points_80, bk_X11_points_102, k_X11_points_102, bk_X11_points_106, k_X11_points_106, bk_X11_points_108, k_X11_points_108, bk_X11_points_120, k_X11_points_120, bk_X11_points_122, k_X11_points_122, bk_X11_points_144, k_X11_points_144, bk_X11_points_145, k_X11_points_145, bk_X11_points_169, k_X11_points_169, bk_X11_points_170, k_X11_points_170, bk_X11_points_220, k_X11_points_220, bk_X11_points_223, k_X11_points_223, bk_X11_points_226, k_X11_points_226, bk_X11_points_229, k_X11_points_229, bk_X11_points_257, k_X11_points_257, bk_X11_points_259, k_X11_points_259, bk_X11_points_260, k_X11_points_260, bk_X11_points_267, k_X11_points_267, bk_X11_points_282, k_X11_points_282, bk_X11_points_284, k_X11_points_284, bk_X11_points_285, k_X11_points_285, ↓e_rk1, ↓e_rk0, ↓e_sk0, ↓e_sks, ↓e_ldi0, ↓e_ldis, ↓e_ldl0, ↓e_ldls, ↓e_lda0, ↓e_ldas, ↓e_ok0, ↓e_okss, ↓e_ok1i, ↓e_ok1r, ↓e_ok1n, ↓e_sti, ↓e_sta, ↓e_1, ↓e_2, ↓e_l1, ↓e_l2, ↓e_li, ↓e_sw0, ↓e_sws, ↓e_ceq, ↓e_cne, ↓e_clt, ↓e_cge, ↓e_cgt, ↓e_cle, ↓e_nil, ↓e_cons, ↓e_iconst, ↓e_bipush, ↓e_sipush, ↓e_ldc, ↓e_ldcw, ↓e_ldc2, ↓e_lconst, ↓e_iloadn, ↓e_iload, ↓e_lloadn, ↓e_lload, ↓e_aloadn, ↓e_aload, ↓e_istoren, ↓e_istore, ↓e_astoren, ↓e_astore, ↓e_add, ↓e_iinc, ↓e_iadd, ↓e_isub, ↓e_imul, ↓e_iand, ↓e_ior, ↓e_ixor, ↓e_ishl, ↓e_iushr, ↓e_idiv, ↓e_irem, ↓e_ineg, ↓e_i2l, ↓e_i2b, ↓e_i2s, ↓e_l2i, ↓e_land, ↓e_lor, ↓e_lshl, ↓e_lshr, ↓e_lushr, ↓e_lcmp, ↓e_dupi, ↓e_dupr, ↓e_popi, ↓e_dup2, ↓e_goto, ↓e_if, ↓e_icmp, ↓e_tsw, ↓e_lsw, ↓e_getf, ↓e_putf, ↓e_gets, ↓e_iald, ↓e_cald, ↓e_iast, ↓e_aald, ↓e_aast, ↓e_len, ↓e_copy, ↓e_abs, ↓e_max, ↓e_min, ↓e_iret, ↓e_aret, ↓e_vret, ↓e_is0, ↓e_is1, ↓e_is2, ↓e_is3, ↓e_is4, ↓e_iv1, ↓e_iv2, ↓e_iv3, ↓e_iv4, ↓e_iv5, ↓e_iv6, ↓rt_X11_points, ↓reduceIte, Nat.reduceAdd, Nat.reduceEqDiff, ↓zcl0, ↓zclv, List.map_nil, List.sum_nil, List.map_cons, List.sum_cons, zcat, true_and, and_true, Nat.reduceLeDiff, Nat.reduceAdd, eq_self, forall_const, e_ok0, e_okss, e_ok1i, e_ok1r, e_ok1n, zl_0, zl_1, zl_2, zl_3, zl_4, zl_5, zl_8, zl_10, Int.reduceToNat, Int.reduceAdd, Int.reduceMul, Int.reduceSub, Int.reduceNeg, Int.reduceLT, Int.reduceLE, Int.reduceEq, not_false_eq_true, not_true_eq_false, false_implies, true_implies, implies_true, Int.reduceDiv, Int.reduceMod, zr8_zr, zr_zbo, z01_zbo, z01_0, z01_1, zbo_eq0, zup_eq, zup_o, zup_k, ne_eq, ↓ct_points_of, ↓r_of, ↓B_of, ↓ct_points_its, ↓r_its, ↓B_its, ↓ct_points_heardBy, ↓r_heardBy, ↓B_heardBy, ↓ct_points_size, ↓r_size, ↓B_size, ↓ct_points_turned, ↓r_turned, ↓B_turned, ↓ct_points_farHeard, ↓r_farHeard, ↓B_farHeard, ↓v_87, ↓g_87_0, ↓l_88, ↓s_88, ↓n_88, ↓g_87_1, ↓l_89, ↓s_89, ↓n_89, ↓g_87_2, ↓l_90, ↓s_90, ↓n_90, ↓g_87_3, ↓p_87_3, ↓g_87_4, ↓l_91, ↓s_91, ↓n_91, ↓g_87_5, ↓p_87_5, ↓g_87_6, ↓p_87_6, ↓g_87_7, ↓p_87_7, ↓g_87_8, ↓p_87_8, ↓g_87_9, ↓p_87_9, ↓g_87_10, ↓p_87_10, ↓g_87_11, ↓l_92, ↓s_92, ↓n_92, ↓g_87_12, ↓l_93, ↓s_93, ↓n_93, ↓g_87_13, ↓p_87_13, ↓g_87_14, ↓l_94, ↓s_94, ↓n_94, ↓g_87_15, ↓p_87_15, ↓g_87_16, ↓l_95, ↓s_95, ↓n_95, ↓g_87_17, ↓l_96, ↓s_96, ↓n_96, ↓g_87_18, ↓l_97, ↓s_97, ↓n_97, ↓g_87_19, ↓p_87_19, ↓g_87_20, ↓p_87_20, ↓g_87_21, ↓l_98, ↓s_98, ↓n_98, ↓g_87_22, ↓l_99, ↓s_99, ↓n_99, ↓g_87_23, ↓l_100, ↓s_100, ↓n_100, ↓g_87_24, ↓l_101, ↓s_101, ↓n_101, zdw]
      exact jn (P := fun v => X 122 [some (.inr (.inr (.inl 87))), some (.inl e), some (.inl hh), some (.inl mm), some (.inl r), some (.inl dw), some (.inl (aly dw)), some (.inl (plain r dw)), none, none, none] [.inl v] (zG, M) (0, 0)) J122
    have J64 : X 64 [some (.inr (.inr (.inl 87))), some (.inl e), some (.inl hh), some (.inl mm), some (.inl r), some (.inl dw), none, none, none, none, none] [.inl (aly dw)] (zG, M) (0, 0) := by
      refine bs_X11_points_64 hX ?_
      simp only [bk_X11_points_0, k_X11_points_0, bk_X11_points_63, k_X11_points_63, bk_X11_points_64, k_X11_points_64, bk_X11_points_80, k_X11_points_80, bk_X11_points_102, k_X11_points_102, bk_X11_points_106, k_X11_points_106, bk_X11_points_108, k_X11_points_108, bk_X11_points_120, k_X11_points_120, bk_X11_points_122, k_X11_points_122, bk_X11_points_144, k_X11_points_144, bk_X11_points_145, k_X11_points_145, bk_X11_points_169, k_X11_points_169, bk_X11_points_170, k_X11_points_170, bk_X11_points_220, k_X11_points_220, bk_X11_points_223, k_X11_points_223, bk_X11_points_226, k_X11_points_226, bk_X11_points_229, k_X11_points_229, bk_X11_points_257, k_X11_points_257, bk_X11_points_259, k_X11_points_259, bk_X11_points_260, k_X11_points_260, bk_X11_points_267, k_X11_points_267, bk_X11_points_282, k_X11_points_282, bk_X11_points_284, k_X11_points_284, bk_X11_points_285, k_X11_points_285, ↓e_rk1, ↓e_rk0, ↓e_sk0, ↓e_sks, ↓e_ldi0, ↓e_ldis, ↓e_ldl0, ↓e_ldls, ↓e_lda0, ↓e_ldas, ↓e_ok0, ↓e_okss, ↓e_ok1i, ↓e_ok1r, ↓e_ok1n, ↓e_sti, ↓e_sta, ↓e_1, ↓e_2, ↓e_l1, ↓e_l2, ↓e_li, ↓e_sw0, ↓e_sws, ↓e_ceq, ↓e_cne, ↓e_clt, ↓e_cge, ↓e_cgt, ↓e_cle, ↓e_nil, ↓e_cons, ↓e_iconst, ↓e_bipush, ↓e_sipush, ↓e_ldc, ↓e_ldcw, ↓e_ldc2, ↓e_lconst, ↓e_iloadn, ↓e_iload, ↓e_lloadn, ↓e_lload, ↓e_aloadn, ↓e_aload, ↓e_istoren, ↓e_istore, ↓e_astoren, ↓e_astore, ↓e_add, ↓e_iinc, ↓e_iadd, ↓e_isub, ↓e_imul, ↓e_iand, ↓e_ior, ↓e_ixor, ↓e_ishl, ↓e_iushr, ↓e_idiv, ↓e_irem, ↓e_ineg, ↓e_i2l, ↓e_i2b, ↓e_i2s, ↓e_l2i, ↓e_land, ↓e_lor, ↓e_lshl, ↓e_lshr, ↓e_lushr, ↓e_lcmp, ↓e_dupi, ↓e_dupr, ↓e_popi, ↓e_dup2, ↓e_goto, ↓e_if, ↓e_icmp, ↓e_tsw, ↓e_lsw, ↓e_getf, ↓e_putf, ↓e_gets, ↓e_iald, ↓e_cald, ↓e_iast, ↓e_aald, ↓e_aast, ↓e_len, ↓e_copy, ↓e_abs, ↓e_max, ↓e_min, ↓e_iret, ↓e_aret, ↓e_vret, ↓e_is0, ↓e_is1, ↓e_is2, ↓e_is3, ↓e_is4, ↓e_iv1, ↓e_iv2, ↓e_iv3, ↓e_iv4, ↓e_iv5, ↓e_iv6, ↓rt_X11_points, ↓reduceIte, Nat.reduceAdd, Nat.reduceEqDiff, ↓zcl0, ↓zclv, List.map_nil, List.sum_nil, List.map_cons, List.sum_cons, zcat, true_and, and_true, Nat.reduceLeDiff, Nat.reduceAdd, eq_self, forall_const, e_ok0, e_okss, e_ok1i, e_ok1r, e_ok1n, zl_0, zl_1, zl_2, zl_3, zl_4, zl_5, zl_8, zl_10, Int.reduceToNat, Int.reduceAdd, Int.reduceMul, Int.reduceSub, Int.reduceNeg, Int.reduceLT, Int.reduceLE, Int.reduceEq, not_false_eq_true, not_true_eq_false, false_implies, true_implies, implies_true, Int.reduceDiv, Int.reduceMod, zr8_zr, zr_zbo, z01_zbo, z01_0, z01_1, zbo_eq0, zup_eq, zup_o, zup_k, ne_eq, ↓ct_points_of, ↓r_of, ↓B_of, ↓ct_points_its, ↓r_its, ↓B_its, ↓ct_points_heardBy, ↓r_heardBy, ↓B_heardBy, ↓ct_points_size, ↓r_size, ↓B_size, ↓ct_points_turned, ↓r_turned, ↓B_turned, ↓ct_points_farHeard, ↓r_farHeard, ↓B_farHeard, ↓v_87, ↓g_87_0, ↓l_88, ↓s_88, ↓n_88, ↓g_87_1, ↓l_89, ↓s_89, ↓n_89, ↓g_87_2, ↓l_90, ↓s_90, ↓n_90, ↓g_87_3, ↓p_87_3, ↓g_87_4, ↓l_91, ↓s_91, ↓n_91, ↓g_87_5, ↓p_87_5, ↓g_87_6, ↓p_87_6, ↓g_87_7, ↓p_87_7, ↓g_87_8, ↓p_87_8, ↓g_87_9, ↓p_87_9, ↓g_87_10, ↓p_87_10, ↓g_87_11, ↓l_92, ↓s_92, ↓n_92, ↓g_87_12, ↓l_93, ↓s_93, ↓n_93, ↓g_87_13, ↓p_87_13, ↓g_87_14, ↓l_94, ↓s_94, ↓n_94, ↓g_87_15, ↓p_87_15, ↓g_87_16, ↓l_95, ↓s_95, ↓n_95, ↓g_87_17, ↓l_96, ↓s_96, ↓n_96, ↓g_87_18, ↓l_97, ↓s_97, ↓n_97, ↓g_87_19, ↓p_87_19, ↓g_87_20, ↓p_87_20, ↓g_87_21, ↓l_98, ↓s_98, ↓n_98, ↓g_87_22, ↓l_99, ↓s_99, ↓n_99, ↓g_87_23, ↓l_100, ↓s_100, ↓n_100, ↓g_87_24, ↓l_101, ↓s_101, ↓n_101, zdw, zrr, zsr, zsd]
      have go : ∀ v, plain r dw = v → X 108 [some (.inr (.inr (.inl 87))), some (.inl e), some (.inl hh), some (.inl mm), some (.inl r), some (.inl dw), some (.inl (aly dw)), none, none, none, none] [.inl v] (zG, M) (0, 0) := fun v hv => hv ▸ J108
      repeat' (first | assumption | apply And.intro | intro _)
      all_goals first | assumption | exact go _ (by unfold plain; repeat' split; all_goals first | rfl | omega)
    have j := jn (P := fun v => X 64 [some (.inr (.inr (.inl 87))), some (.inl e), some (.inl hh), some (.inl mm), some (.inl r), some (.inl dw), none, none, none, none, none] [.inl v] (zG, M) (0, 0)) J64
    simp only [zdw]
    repeat (refine And.intro (by omega) ?_)
    exact j
