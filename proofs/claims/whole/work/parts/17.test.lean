def k_X11_in_0 : List ZI := [(.lload_n 0, 1, (0, [0], [])), (.lload_n 2, 1, (0, [2], [])), (.lcmp, 1, (0, [], [])), (.ifCond .lt 14, 3, (0, [17], [])), (.lload_n 0, 1, (0, [0], [])), (.lload 4, 2, (0, [4], [])), (.lcmp, 1, (0, [], [])), (.ifCond .gt 7, 3, (0, [17], [])), (.iconst 1, 1, (0, [], [])), (.goto 4, 3, (0, [18], []))]
theorem ok_X11_in_0 : zOK cX11_in 11 false 6 k_X11_in_0 0 = true := zOK_by (by decide +kernel)
def k_X11_in_17 : List ZI := [(.iconst 0, 1, (0, [], []))]
theorem ok_X11_in_17 : zOK cX11_in 11 false 6 k_X11_in_17 17 = true := zOK_by (by decide +kernel)
def k_X11_in_18 : List ZI := [(.ireturn, 1, (0, [], []))]
theorem ok_X11_in_18 : zOK cX11_in 11 false 6 k_X11_in_18 18 = true := zOK_by (by decide +kernel)
theorem rt_X11_in {g : Nat} {post : Option ZV → ZH → Prop} {h : ZH} {b : ZB2} {z : Int} : zRt mX11_in g post (some (.inl z)) h b = (post (some (.inl z)) h ∧ h.1.length = g ∧ (zr z = 0 ∨ zr z = 1)) := rfl
def bk_X11_in_18 (E : ZE) (CT : Nat → ZC) (X : ZK) (Rt : ZR) (ls : ZL) (st : List ZV) (h : ZH) (b : ZB2) : Prop := zB E CT k_X11_in_18 18 ls st h b (fun t ls st h b => X t ls st h b) Rt
theorem bs_X11_in_18 {E : ZE} {CT : Nat → ZC} {X : ZK} {Rt : ZR} {ls : ZL} {st : List ZV} {h : ZH} {b : ZB2} (hX : zCl E mX11_in 11 false CT Rt X) (q : bk_X11_in_18 E CT X Rt ls st h b) : X 18 ls st h b := by
  refine hX k_X11_in_18 18 ok_X11_in_18 _ ?_ ls st h b q
  exact fun t ls st h b q => q
def bk_X11_in_17 (E : ZE) (CT : Nat → ZC) (X : ZK) (Rt : ZR) (ls : ZL) (st : List ZV) (h : ZH) (b : ZB2) : Prop := zB E CT k_X11_in_17 17 ls st h b (fun t ls st h b => if t = 18 then bk_X11_in_18 E CT X Rt ls st h b else X t ls st h b) Rt
theorem bs_X11_in_17 {E : ZE} {CT : Nat → ZC} {X : ZK} {Rt : ZR} {ls : ZL} {st : List ZV} {h : ZH} {b : ZB2} (hX : zCl E mX11_in 11 false CT Rt X) (q : bk_X11_in_17 E CT X Rt ls st h b) : X 17 ls st h b := by
  refine hX k_X11_in_17 17 ok_X11_in_17 _ ?_ ls st h b q
  exact by
    intro t ls st h b q
    by_cases c : t = 18
    · subst c; rw [if_pos rfl] at q; exact bs_X11_in_18 hX q
    rw [if_neg c] at q
    exact q
def bk_X11_in_0 (E : ZE) (CT : Nat → ZC) (X : ZK) (Rt : ZR) (ls : ZL) (st : List ZV) (h : ZH) (b : ZB2) : Prop := zB E CT k_X11_in_0 0 ls st h b (fun t ls st h b => if t = 17 then bk_X11_in_17 E CT X Rt ls st h b else if t = 18 then bk_X11_in_18 E CT X Rt ls st h b else X t ls st h b) Rt
theorem bs_X11_in_0 {E : ZE} {CT : Nat → ZC} {X : ZK} {Rt : ZR} {ls : ZL} {st : List ZV} {h : ZH} {b : ZB2} (hX : zCl E mX11_in 11 false CT Rt X) (q : bk_X11_in_0 E CT X Rt ls st h b) : X 0 ls st h b := by
  refine hX k_X11_in_0 0 ok_X11_in_0 _ ?_ ls st h b q
  exact by
    intro t ls st h b q
    by_cases c : t = 17
    · subst c; rw [if_pos rfl] at q; exact bs_X11_in_17 hX q
    rw [if_neg c] at q
    by_cases c : t = 18
    · subst c; rw [if_pos rfl] at q; exact bs_X11_in_18 hX q
    rw [if_neg c] at q
    exact q
-- X11_in: cuts []
def k_X11_isCell_0 : List ZI := [(.iload_n 0, 1, (0, [0], [])), (.i2l, 1, (0, [], [])), (.lconst 0, 1, (0, [], [])), (.ldc2_w 65, 3, (63, [], [])), (.invokestatic 61, 3, (0, [120, 3, 0, 11], [])), (.ireturn, 1, (0, [], []))]
theorem ok_X11_isCell_0 : zOK cX11_isCell 11 false 1 k_X11_isCell_0 0 = true := zOK_by (by decide +kernel)
theorem rt_X11_isCell {g : Nat} {post : Option ZV → ZH → Prop} {h : ZH} {b : ZB2} {z : Int} : zRt mX11_isCell g post (some (.inl z)) h b = (post (some (.inl z)) h ∧ h.1.length = g ∧ (zr z = 0 ∨ zr z = 1)) := rfl
def bk_X11_isCell_0 (E : ZE) (CT : Nat → ZC) (X : ZK) (Rt : ZR) (ls : ZL) (st : List ZV) (h : ZH) (b : ZB2) : Prop := zB E CT k_X11_isCell_0 0 ls st h b (fun t ls st h b => X t ls st h b) Rt
theorem bs_X11_isCell_0 {E : ZE} {CT : Nat → ZC} {X : ZK} {Rt : ZR} {ls : ZL} {st : List ZV} {h : ZH} {b : ZB2} (hX : zCl E mX11_isCell 11 false CT Rt X) (q : bk_X11_isCell_0 E CT X Rt ls st h b) : X 0 ls st h b := by
  refine hX k_X11_isCell_0 0 ok_X11_isCell_0 _ ?_ ls st h b q
  exact fun t ls st h b q => q
-- X11_isCell: cuts []
def k_X11_finds_0 : List ZI := [(.aload_n 0, 1, (0, [0], [])), (.getfield 19, 3, (0, [11, 4], [])), (.iload_n 1, 1, (0, [1], [])), (.dup2, 1, (0, [], [])), (.iaload, 1, (0, [], [])), (.iconst 1, 1, (0, [], [])), (.iadd, 1, (0, [], [])), (.iastore, 1, (0, [], [])), (.ldc 60, 2, ((-1000000000), [], [])), (.iload_n 1, 1, (0, [1], [])), (.isub, 1, (0, [], [])), (.ireturn, 1, (0, [], []))]
theorem ok_X11_finds_0 : zOK cX11_finds 11 false 2 k_X11_finds_0 0 = true := zOK_by (by decide +kernel)
theorem rt_X11_finds {g : Nat} {post : Option ZV → ZH → Prop} {h : ZH} {b : ZB2} {z : Int} : zRt mX11_finds g post (some (.inl z)) h b = (post (some (.inl z)) h ∧ h.1.length = g) := by show (_ ∧ _ ∧ True) = _; simp
def bk_X11_finds_0 (E : ZE) (CT : Nat → ZC) (X : ZK) (Rt : ZR) (ls : ZL) (st : List ZV) (h : ZH) (b : ZB2) : Prop := zB E CT k_X11_finds_0 0 ls st h b (fun t ls st h b => X t ls st h b) Rt
theorem bs_X11_finds_0 {E : ZE} {CT : Nat → ZC} {X : ZK} {Rt : ZR} {ls : ZL} {st : List ZV} {h : ZH} {b : ZB2} (hX : zCl E mX11_finds 11 false CT Rt X) (q : bk_X11_finds_0 E CT X Rt ls st h b) : X 0 ls st h b := by
  refine hX k_X11_finds_0 0 ok_X11_finds_0 _ ?_ ls st h b q
  exact fun t ls st h b q => q
-- X11_finds: cuts []
def k_X11_becomes_0 : List ZI := [(.aload_n 0, 1, (0, [0], [])), (.getfield 7, 3, (0, [11, 0], [])), (.iload_n 1, 1, (0, [1], [])), (.iaload, 1, (0, [], [])), (.istore_n 3, 1, (0, [3], [])), (.aload_n 0, 1, (0, [0], [])), (.getfield 7, 3, (0, [11, 0], [])), (.iload_n 1, 1, (0, [1], [])), (.iload_n 2, 1, (0, [2], [])), (.iastore, 1, (0, [], [])), (.iload_n 3, 1, (0, [3], [])), (.ireturn, 1, (0, [], []))]
theorem ok_X11_becomes_0 : zOK cX11_becomes 11 false 4 k_X11_becomes_0 0 = true := zOK_by (by decide +kernel)
theorem rt_X11_becomes {g : Nat} {post : Option ZV → ZH → Prop} {h : ZH} {b : ZB2} {z : Int} : zRt mX11_becomes g post (some (.inl z)) h b = (post (some (.inl z)) h ∧ h.1.length = g) := by show (_ ∧ _ ∧ True) = _; simp
def bk_X11_becomes_0 (E : ZE) (CT : Nat → ZC) (X : ZK) (Rt : ZR) (ls : ZL) (st : List ZV) (h : ZH) (b : ZB2) : Prop := zB E CT k_X11_becomes_0 0 ls st h b (fun t ls st h b => X t ls st h b) Rt
theorem bs_X11_becomes_0 {E : ZE} {CT : Nat → ZC} {X : ZK} {Rt : ZR} {ls : ZL} {st : List ZV} {h : ZH} {b : ZB2} (hX : zCl E mX11_becomes 11 false CT Rt X) (q : bk_X11_becomes_0 E CT X Rt ls st h b) : X 0 ls st h b := by
  refine hX k_X11_becomes_0 0 ok_X11_becomes_0 _ ?_ ls st h b q
  exact fun t ls st h b q => q
-- X11_becomes: cuts []
def k_X11_rock_0 : List ZI := [(.iload_n 1, 1, (0, [1], [])), (.invokestatic 203, 3, (0, [124, 1, 0, 11], [])), (.ifCond .eq 27, 3, (0, [31], [])), (.iload_n 2, 1, (0, [2], [])), (.i2l, 1, (0, [], [])), (.lconst 0, 1, (0, [], [])), (.ldc2_w 206, 3, (9, [], [])), (.invokestatic 61, 3, (0, [120, 3, 0, 11], [])), (.ifCond .eq 15, 3, (0, [31], [])), (.aload_n 0, 1, (0, [0], [])), (.bipush 6, 2, (0, [], [])), (.iload_n 1, 1, (0, [1], [])), (.iadd, 1, (0, [], [])), (.iload_n 2, 1, (0, [2], [])), (.invokevirtual 208, 3, (0, [129, 3, 0, 11], [])), (.goto 8, 3, (0, [36], []))]
theorem ok_X11_rock_0 : zOK cX11_rock 11 false 3 k_X11_rock_0 0 = true := zOK_by (by decide +kernel)
def k_X11_rock_31 : List ZI := [(.aload_n 0, 1, (0, [0], [])), (.iconst 1, 1, (0, [], [])), (.invokevirtual 139, 3, (0, [119, 2, 0, 11], []))]
theorem ok_X11_rock_31 : zOK cX11_rock 11 false 3 k_X11_rock_31 31 = true := zOK_by (by decide +kernel)
def k_X11_rock_36 : List ZI := [(.ireturn, 1, (0, [], []))]
theorem ok_X11_rock_36 : zOK cX11_rock 11 false 3 k_X11_rock_36 36 = true := zOK_by (by decide +kernel)
theorem rt_X11_rock {g : Nat} {post : Option ZV → ZH → Prop} {h : ZH} {b : ZB2} {z : Int} : zRt mX11_rock g post (some (.inl z)) h b = (post (some (.inl z)) h ∧ h.1.length = g) := by show (_ ∧ _ ∧ True) = _; simp
def bk_X11_rock_36 (E : ZE) (CT : Nat → ZC) (X : ZK) (Rt : ZR) (ls : ZL) (st : List ZV) (h : ZH) (b : ZB2) : Prop := zB E CT k_X11_rock_36 36 ls st h b (fun t ls st h b => X t ls st h b) Rt
theorem bs_X11_rock_36 {E : ZE} {CT : Nat → ZC} {X : ZK} {Rt : ZR} {ls : ZL} {st : List ZV} {h : ZH} {b : ZB2} (hX : zCl E mX11_rock 11 false CT Rt X) (q : bk_X11_rock_36 E CT X Rt ls st h b) : X 36 ls st h b := by
  refine hX k_X11_rock_36 36 ok_X11_rock_36 _ ?_ ls st h b q
  exact fun t ls st h b q => q
def bk_X11_rock_31 (E : ZE) (CT : Nat → ZC) (X : ZK) (Rt : ZR) (ls : ZL) (st : List ZV) (h : ZH) (b : ZB2) : Prop := zB E CT k_X11_rock_31 31 ls st h b (fun t ls st h b => if t = 36 then bk_X11_rock_36 E CT X Rt ls st h b else X t ls st h b) Rt
theorem bs_X11_rock_31 {E : ZE} {CT : Nat → ZC} {X : ZK} {Rt : ZR} {ls : ZL} {st : List ZV} {h : ZH} {b : ZB2} (hX : zCl E mX11_rock 11 false CT Rt X) (q : bk_X11_rock_31 E CT X Rt ls st h b) : X 31 ls st h b := by
  refine hX k_X11_rock_31 31 ok_X11_rock_31 _ ?_ ls st h b q
  exact by
    intro t ls st h b q
    by_cases c : t = 36
    · subst c; rw [if_pos rfl] at q; exact bs_X11_rock_36 hX q
    rw [if_neg c] at q
    exact q
def bk_X11_rock_0 (E : ZE) (CT : Nat → ZC) (X : ZK) (Rt : ZR) (ls : ZL) (st : List ZV) (h : ZH) (b : ZB2) : Prop := zB E CT k_X11_rock_0 0 ls st h b (fun t ls st h b => if t = 31 then bk_X11_rock_31 E CT X Rt ls st h b else if t = 36 then bk_X11_rock_36 E CT X Rt ls st h b else X t ls st h b) Rt
theorem bs_X11_rock_0 {E : ZE} {CT : Nat → ZC} {X : ZK} {Rt : ZR} {ls : ZL} {st : List ZV} {h : ZH} {b : ZB2} (hX : zCl E mX11_rock 11 false CT Rt X) (q : bk_X11_rock_0 E CT X Rt ls st h b) : X 0 ls st h b := by
  refine hX k_X11_rock_0 0 ok_X11_rock_0 _ ?_ ls st h b q
  exact by
    intro t ls st h b q
    by_cases c : t = 31
    · subst c; rw [if_pos rfl] at q; exact bs_X11_rock_31 hX q
    rw [if_neg c] at q
    by_cases c : t = 36
    · subst c; rw [if_pos rfl] at q; exact bs_X11_rock_36 hX q
    rw [if_neg c] at q
    exact q
-- X11_rock: cuts []
theorem zcmpL_zr (x y : Int) : zr (zcmpL x y) = zcmpL x y := by
  unfold zcmpL; split; rfl; split <;> rfl
theorem zcmpL_lt (x y : Int) : zcmpL x y < 0 ↔ zr8 x < zr8 y := by
  unfold zcmpL; split; omega; split <;> omega
theorem zcmpL_gt (x y : Int) : 0 < zcmpL x y ↔ zr8 y < zr8 x := by
  unfold zcmpL; split; omega; split <;> omega
def B_in (v : Int) (lo : Int) (hi : Int) (post : Option ZV → Prop) : Prop := post (some (.inl (if zr8 lo ≤ zr8 v ∧ zr8 v ≤ zr8 hi then 1 else 0)))
def C_in : ZC := fun as h post => match as with
  | [.inr (.inl v), .inr (.inl lo), .inr (.inl hi)] => B_in v lo hi (fun v => post v h)
  | _ => False
theorem r_in {v : Int} {lo : Int} {hi : Int} {h : ZH} {post : Option ZV → ZH → Prop} : C_in [.inr (.inl v), .inr (.inl lo), .inr (.inl hi)] h post = B_in v lo hi (fun v => post v h) := rfl
def ct_in : Nat → ZC := fun n => fun _ _ _ => False
theorem c_in {E : ZE} {d : Nat} (hd : 1 ≤ d) : zMet E d mX11_in C_in := by
  refine zmet_of (o := 11) (ini := false) (CT := ct_in) gd_X11_in rfl (fun h => by cases h) (by omega) ?_ ?_
  · intro n as h post hh
    unfold ct_in at hh
    exact hh.elim
  intro as h post hC
  match as, hC with
  | [.inr (.inl v), .inr (.inl lo), .inr (.inl hi)], hC =>
    refine ⟨Nat.le_of_ble_eq_true rfl, fun X hX => bs_X11_in_0 hX ?_⟩
    have hC : B_in v lo hi (fun v => post v h) := hC
    simp only [B_in] at hC
    show bk_X11_in_0 E ct_in X _ [some (.inr (.inl v)), none, some (.inr (.inl lo)), none, some (.inr (.inl hi)), none] [] h (0, 0)
    simp only [bk_X11_in_0, k_X11_in_0, bk_X11_in_17, k_X11_in_17, bk_X11_in_18, k_X11_in_18, ↓e_rk1, ↓e_rk0, ↓e_sk0, ↓e_sks, ↓e_ldi0, ↓e_ldis, ↓e_ldl0, ↓e_ldls, ↓e_lda0, ↓e_ldas, ↓e_ok0, ↓e_okss, ↓e_ok1i, ↓e_ok1r, ↓e_ok1n, ↓e_sti, ↓e_sta, ↓e_1, ↓e_2, ↓e_l1, ↓e_l2, ↓e_li, ↓e_sw0, ↓e_sws, ↓e_ceq, ↓e_cne, ↓e_clt, ↓e_cge, ↓e_cgt, ↓e_cle, ↓e_nil, ↓e_cons, ↓e_iconst, ↓e_bipush, ↓e_sipush, ↓e_ldc, ↓e_ldcw, ↓e_ldc2, ↓e_lconst, ↓e_iloadn, ↓e_iload, ↓e_lloadn, ↓e_lload, ↓e_aloadn, ↓e_aload, ↓e_istoren, ↓e_istore, ↓e_astoren, ↓e_astore, ↓e_add, ↓e_iinc, ↓e_iadd, ↓e_isub, ↓e_imul, ↓e_iand, ↓e_ior, ↓e_ixor, ↓e_ishl, ↓e_iushr, ↓e_idiv, ↓e_irem, ↓e_ineg, ↓e_i2l, ↓e_i2b, ↓e_i2s, ↓e_l2i, ↓e_land, ↓e_lor, ↓e_lshl, ↓e_lshr, ↓e_lushr, ↓e_lcmp, ↓e_dupi, ↓e_dupr, ↓e_popi, ↓e_dup2, ↓e_goto, ↓e_if, ↓e_icmp, ↓e_tsw, ↓e_lsw, ↓e_getf, ↓e_putf, ↓e_gets, ↓e_iald, ↓e_cald, ↓e_iast, ↓e_aald, ↓e_aast, ↓e_len, ↓e_copy, ↓e_abs, ↓e_max, ↓e_min, ↓e_iret, ↓e_aret, ↓e_vret, ↓e_is0, ↓e_is1, ↓e_is2, ↓e_is3, ↓e_is4, ↓e_iv1, ↓e_iv2, ↓e_iv3, ↓e_iv4, ↓e_iv5, ↓e_iv6, ↓rt_X11_in, ↓reduceIte, Nat.reduceAdd, Nat.reduceEqDiff, ↓zcl0, ↓zclv, List.map_nil, List.sum_nil, List.map_cons, List.sum_cons, zcat, true_and, and_true, Nat.reduceLeDiff, Nat.reduceAdd, eq_self, forall_const, e_ok0, e_okss, e_ok1i, e_ok1r, e_ok1n, zcmpL_zr, zcmpL_lt, zcmpL_gt]
    trace_state
    sorry
def B_isCell (c : Int) (post : Option ZV → Prop) : Prop := post (some (.inl (if 0 ≤ zr c ∧ zr c ≤ 63 then 1 else 0)))
def C_isCell : ZC := fun as h post => match as with
  | [.inl c] => B_isCell c (fun v => post v h)
  | _ => False
theorem r_isCell {c : Int} {h : ZH} {post : Option ZV → ZH → Prop} : C_isCell [.inl c] h post = B_isCell c (fun v => post v h) := rfl
def ct_isCell : Nat → ZC := fun n => if n = 120 then C_in else fun _ _ _ => False
theorem ct_isCell_in {as : List ZV} {h : ZH} {post : Option ZV → ZH → Prop} : ct_isCell 120 as h post = C_in as h post := rfl
theorem c_isCell {E : ZE} {d : Nat} (hd : 2 ≤ d) : zMet E d mX11_isCell C_isCell := by
  refine zmet_of (o := 11) (ini := false) (CT := ct_isCell) gd_X11_isCell rfl (fun h => by cases h) (by omega) ?_ ?_
  · intro n as h post hh
    unfold ct_isCell at hh
    by_cases c : n = 120
    · subst c; exact ⟨gd_X11_in, 1, by omega, c_in (by omega)⟩
    rw [if_neg c] at hh
    exact hh.elim
  intro as h post hC
  match as, hC with
  | [.inl c], hC =>
    refine ⟨Nat.le_of_ble_eq_true rfl, fun X hX => bs_X11_isCell_0 hX ?_⟩
    have hC : B_isCell c (fun v => post v h) := hC
    simp only [B_isCell] at hC
    show bk_X11_isCell_0 E ct_isCell X _ [some (.inl c)] [] h (0, 0)
    simp only [bk_X11_isCell_0, k_X11_isCell_0, ↓e_rk1, ↓e_rk0, ↓e_sk0, ↓e_sks, ↓e_ldi0, ↓e_ldis, ↓e_ldl0, ↓e_ldls, ↓e_lda0, ↓e_ldas, ↓e_ok0, ↓e_okss, ↓e_ok1i, ↓e_ok1r, ↓e_ok1n, ↓e_sti, ↓e_sta, ↓e_1, ↓e_2, ↓e_l1, ↓e_l2, ↓e_li, ↓e_sw0, ↓e_sws, ↓e_ceq, ↓e_cne, ↓e_clt, ↓e_cge, ↓e_cgt, ↓e_cle, ↓e_nil, ↓e_cons, ↓e_iconst, ↓e_bipush, ↓e_sipush, ↓e_ldc, ↓e_ldcw, ↓e_ldc2, ↓e_lconst, ↓e_iloadn, ↓e_iload, ↓e_lloadn, ↓e_lload, ↓e_aloadn, ↓e_aload, ↓e_istoren, ↓e_istore, ↓e_astoren, ↓e_astore, ↓e_add, ↓e_iinc, ↓e_iadd, ↓e_isub, ↓e_imul, ↓e_iand, ↓e_ior, ↓e_ixor, ↓e_ishl, ↓e_iushr, ↓e_idiv, ↓e_irem, ↓e_ineg, ↓e_i2l, ↓e_i2b, ↓e_i2s, ↓e_l2i, ↓e_land, ↓e_lor, ↓e_lshl, ↓e_lshr, ↓e_lushr, ↓e_lcmp, ↓e_dupi, ↓e_dupr, ↓e_popi, ↓e_dup2, ↓e_goto, ↓e_if, ↓e_icmp, ↓e_tsw, ↓e_lsw, ↓e_getf, ↓e_putf, ↓e_gets, ↓e_iald, ↓e_cald, ↓e_iast, ↓e_aald, ↓e_aast, ↓e_len, ↓e_copy, ↓e_abs, ↓e_max, ↓e_min, ↓e_iret, ↓e_aret, ↓e_vret, ↓e_is0, ↓e_is1, ↓e_is2, ↓e_is3, ↓e_is4, ↓e_iv1, ↓e_iv2, ↓e_iv3, ↓e_iv4, ↓e_iv5, ↓e_iv6, ↓rt_X11_isCell, ↓reduceIte, Nat.reduceAdd, Nat.reduceEqDiff, ↓zcl0, ↓zclv, List.map_nil, List.sum_nil, List.map_cons, List.sum_cons, zcat, true_and, and_true, Nat.reduceLeDiff, Nat.reduceAdd, eq_self, forall_const, e_ok0, e_okss, e_ok1i, e_ok1r, e_ok1n, ↓ct_isCell_in, ↓r_in, ↓B_in]
    trace_state
    sorry
def B_finds (k : Int) (M : Nat → Nat → Int) (post : Option ZV → (Nat → Nat → Int) → Prop) : Prop := 0 ≤ k ∧ k < 6 ∧ post (some (.inl (-1000000000 - k))) (zup M 91 k.toNat (M 91 k.toNat + 1))
def C_finds : ZC := fun as h post => match as with
  | [.inr (.inr (.inl 87)), .inl k] => h.1 = zG ∧ B_finds k h.2 (fun v M => post v (zG, M))
  | _ => False
theorem r_finds {k : Int} {M : Nat → Nat → Int} {post : Option ZV → ZH → Prop} : C_finds [.inr (.inr (.inl 87)), .inl k] (zG, M) post = B_finds k M (fun v M => post v (zG, M)) := by show (zG = zG ∧ _) = _; simp
def ct_finds : Nat → ZC := fun n => fun _ _ _ => False
theorem c_finds {E : ZE} {d : Nat} (hd : 1 ≤ d) : zMet E d mX11_finds C_finds := by
  refine zmet_of (o := 11) (ini := false) (CT := ct_finds) gd_X11_finds rfl (fun h => by cases h) (by omega) ?_ ?_
  · intro n as h post hh
    unfold ct_finds at hh
    exact hh.elim
  intro as h post hC
  match as, hC with
  | [.inr (.inr (.inl 87)), .inl k], hC =>
    refine ⟨Nat.le_of_ble_eq_true rfl, fun X hX => bs_X11_finds_0 hX ?_⟩
    obtain ⟨G, M⟩ := h
    obtain ⟨hG, hC⟩ := hC
    dsimp only at hG
    subst hG
    simp only [B_finds] at hC
    show bk_X11_finds_0 E ct_finds X _ [some (.inr (.inr (.inl 87))), some (.inl k)] [] (zG, M) (0, 0)
    simp only [bk_X11_finds_0, k_X11_finds_0, ↓e_rk1, ↓e_rk0, ↓e_sk0, ↓e_sks, ↓e_ldi0, ↓e_ldis, ↓e_ldl0, ↓e_ldls, ↓e_lda0, ↓e_ldas, ↓e_ok0, ↓e_okss, ↓e_ok1i, ↓e_ok1r, ↓e_ok1n, ↓e_sti, ↓e_sta, ↓e_1, ↓e_2, ↓e_l1, ↓e_l2, ↓e_li, ↓e_sw0, ↓e_sws, ↓e_ceq, ↓e_cne, ↓e_clt, ↓e_cge, ↓e_cgt, ↓e_cle, ↓e_nil, ↓e_cons, ↓e_iconst, ↓e_bipush, ↓e_sipush, ↓e_ldc, ↓e_ldcw, ↓e_ldc2, ↓e_lconst, ↓e_iloadn, ↓e_iload, ↓e_lloadn, ↓e_lload, ↓e_aloadn, ↓e_aload, ↓e_istoren, ↓e_istore, ↓e_astoren, ↓e_astore, ↓e_add, ↓e_iinc, ↓e_iadd, ↓e_isub, ↓e_imul, ↓e_iand, ↓e_ior, ↓e_ixor, ↓e_ishl, ↓e_iushr, ↓e_idiv, ↓e_irem, ↓e_ineg, ↓e_i2l, ↓e_i2b, ↓e_i2s, ↓e_l2i, ↓e_land, ↓e_lor, ↓e_lshl, ↓e_lshr, ↓e_lushr, ↓e_lcmp, ↓e_dupi, ↓e_dupr, ↓e_popi, ↓e_dup2, ↓e_goto, ↓e_if, ↓e_icmp, ↓e_tsw, ↓e_lsw, ↓e_getf, ↓e_putf, ↓e_gets, ↓e_iald, ↓e_cald, ↓e_iast, ↓e_aald, ↓e_aast, ↓e_len, ↓e_copy, ↓e_abs, ↓e_max, ↓e_min, ↓e_iret, ↓e_aret, ↓e_vret, ↓e_is0, ↓e_is1, ↓e_is2, ↓e_is3, ↓e_is4, ↓e_iv1, ↓e_iv2, ↓e_iv3, ↓e_iv4, ↓e_iv5, ↓e_iv6, ↓rt_X11_finds, ↓reduceIte, Nat.reduceAdd, Nat.reduceEqDiff, ↓zcl0, ↓zclv, List.map_nil, List.sum_nil, List.map_cons, List.sum_cons, zcat, true_and, and_true, Nat.reduceLeDiff, Nat.reduceAdd, eq_self, forall_const, e_ok0, e_okss, e_ok1i, e_ok1r, e_ok1n, ↓v_87, ↓g_87_0, ↓l_88, ↓s_88, ↓n_88, ↓g_87_1, ↓l_89, ↓s_89, ↓n_89, ↓g_87_2, ↓l_90, ↓s_90, ↓n_90, ↓g_87_3, ↓p_87_3, ↓g_87_4, ↓l_91, ↓s_91, ↓n_91, ↓g_87_5, ↓p_87_5, ↓g_87_6, ↓p_87_6, ↓g_87_7, ↓p_87_7, ↓g_87_8, ↓p_87_8, ↓g_87_9, ↓p_87_9, ↓g_87_10, ↓p_87_10, ↓g_87_11, ↓l_92, ↓s_92, ↓n_92, ↓g_87_12, ↓l_93, ↓s_93, ↓n_93, ↓g_87_13, ↓p_87_13, ↓g_87_14, ↓l_94, ↓s_94, ↓n_94, ↓g_87_15, ↓p_87_15, ↓g_87_16, ↓l_95, ↓s_95, ↓n_95, ↓g_87_17, ↓l_96, ↓s_96, ↓n_96, ↓g_87_18, ↓l_97, ↓s_97, ↓n_97, ↓g_87_19, ↓p_87_19, ↓g_87_20, ↓p_87_20, ↓g_87_21, ↓l_98, ↓s_98, ↓n_98, ↓g_87_22, ↓l_99, ↓s_99, ↓n_99, ↓g_87_23, ↓l_100, ↓s_100, ↓n_100, ↓g_87_24, ↓l_101, ↓s_101, ↓n_101]
    trace_state
    sorry
def B_becomes (w : Int) (v : Int) (M : Nat → Nat → Int) (post : Option ZV → (Nat → Nat → Int) → Prop) : Prop := 0 ≤ w ∧ w < 358 ∧ post (some (.inl (M 88 w.toNat))) (zup M 88 w.toNat v)
def C_becomes : ZC := fun as h post => match as with
  | [.inr (.inr (.inl 87)), .inl w, .inl v] => h.1 = zG ∧ B_becomes w v h.2 (fun v M => post v (zG, M))
  | _ => False
theorem r_becomes {w : Int} {v : Int} {M : Nat → Nat → Int} {post : Option ZV → ZH → Prop} : C_becomes [.inr (.inr (.inl 87)), .inl w, .inl v] (zG, M) post = B_becomes w v M (fun v M => post v (zG, M)) := by show (zG = zG ∧ _) = _; simp
def ct_becomes : Nat → ZC := fun n => fun _ _ _ => False
theorem c_becomes {E : ZE} {d : Nat} (hd : 1 ≤ d) : zMet E d mX11_becomes C_becomes := by
  refine zmet_of (o := 11) (ini := false) (CT := ct_becomes) gd_X11_becomes rfl (fun h => by cases h) (by omega) ?_ ?_
  · intro n as h post hh
    unfold ct_becomes at hh
    exact hh.elim
  intro as h post hC
  match as, hC with
  | [.inr (.inr (.inl 87)), .inl w, .inl v], hC =>
    refine ⟨Nat.le_of_ble_eq_true rfl, fun X hX => bs_X11_becomes_0 hX ?_⟩
    obtain ⟨G, M⟩ := h
    obtain ⟨hG, hC⟩ := hC
    dsimp only at hG
    subst hG
    simp only [B_becomes] at hC
    show bk_X11_becomes_0 E ct_becomes X _ [some (.inr (.inr (.inl 87))), some (.inl w), some (.inl v), none] [] (zG, M) (0, 0)
    simp only [bk_X11_becomes_0, k_X11_becomes_0, ↓e_rk1, ↓e_rk0, ↓e_sk0, ↓e_sks, ↓e_ldi0, ↓e_ldis, ↓e_ldl0, ↓e_ldls, ↓e_lda0, ↓e_ldas, ↓e_ok0, ↓e_okss, ↓e_ok1i, ↓e_ok1r, ↓e_ok1n, ↓e_sti, ↓e_sta, ↓e_1, ↓e_2, ↓e_l1, ↓e_l2, ↓e_li, ↓e_sw0, ↓e_sws, ↓e_ceq, ↓e_cne, ↓e_clt, ↓e_cge, ↓e_cgt, ↓e_cle, ↓e_nil, ↓e_cons, ↓e_iconst, ↓e_bipush, ↓e_sipush, ↓e_ldc, ↓e_ldcw, ↓e_ldc2, ↓e_lconst, ↓e_iloadn, ↓e_iload, ↓e_lloadn, ↓e_lload, ↓e_aloadn, ↓e_aload, ↓e_istoren, ↓e_istore, ↓e_astoren, ↓e_astore, ↓e_add, ↓e_iinc, ↓e_iadd, ↓e_isub, ↓e_imul, ↓e_iand, ↓e_ior, ↓e_ixor, ↓e_ishl, ↓e_iushr, ↓e_idiv, ↓e_irem, ↓e_ineg, ↓e_i2l, ↓e_i2b, ↓e_i2s, ↓e_l2i, ↓e_land, ↓e_lor, ↓e_lshl, ↓e_lshr, ↓e_lushr, ↓e_lcmp, ↓e_dupi, ↓e_dupr, ↓e_popi, ↓e_dup2, ↓e_goto, ↓e_if, ↓e_icmp, ↓e_tsw, ↓e_lsw, ↓e_getf, ↓e_putf, ↓e_gets, ↓e_iald, ↓e_cald, ↓e_iast, ↓e_aald, ↓e_aast, ↓e_len, ↓e_copy, ↓e_abs, ↓e_max, ↓e_min, ↓e_iret, ↓e_aret, ↓e_vret, ↓e_is0, ↓e_is1, ↓e_is2, ↓e_is3, ↓e_is4, ↓e_iv1, ↓e_iv2, ↓e_iv3, ↓e_iv4, ↓e_iv5, ↓e_iv6, ↓rt_X11_becomes, ↓reduceIte, Nat.reduceAdd, Nat.reduceEqDiff, ↓zcl0, ↓zclv, List.map_nil, List.sum_nil, List.map_cons, List.sum_cons, zcat, true_and, and_true, Nat.reduceLeDiff, Nat.reduceAdd, eq_self, forall_const, e_ok0, e_okss, e_ok1i, e_ok1r, e_ok1n, ↓v_87, ↓g_87_0, ↓l_88, ↓s_88, ↓n_88, ↓g_87_1, ↓l_89, ↓s_89, ↓n_89, ↓g_87_2, ↓l_90, ↓s_90, ↓n_90, ↓g_87_3, ↓p_87_3, ↓g_87_4, ↓l_91, ↓s_91, ↓n_91, ↓g_87_5, ↓p_87_5, ↓g_87_6, ↓p_87_6, ↓g_87_7, ↓p_87_7, ↓g_87_8, ↓p_87_8, ↓g_87_9, ↓p_87_9, ↓g_87_10, ↓p_87_10, ↓g_87_11, ↓l_92, ↓s_92, ↓n_92, ↓g_87_12, ↓l_93, ↓s_93, ↓n_93, ↓g_87_13, ↓p_87_13, ↓g_87_14, ↓l_94, ↓s_94, ↓n_94, ↓g_87_15, ↓p_87_15, ↓g_87_16, ↓l_95, ↓s_95, ↓n_95, ↓g_87_17, ↓l_96, ↓s_96, ↓n_96, ↓g_87_18, ↓l_97, ↓s_97, ↓n_97, ↓g_87_19, ↓p_87_19, ↓g_87_20, ↓p_87_20, ↓g_87_21, ↓l_98, ↓s_98, ↓n_98, ↓g_87_22, ↓l_99, ↓s_99, ↓n_99, ↓g_87_23, ↓l_100, ↓s_100, ↓n_100, ↓g_87_24, ↓l_101, ↓s_101, ↓n_101]
    trace_state
    sorry
def B_rock (c : Int) (v : Int) (M : Nat → Nat → Int) (post : Option ZV → (Nat → Nat → Int) → Prop) : Prop := (if (0 ≤ zr c ∧ zr c ≤ 63) ∧ 0 ≤ zr v ∧ zr v ≤ 9 then post (some (.inl (M 88 (6 + zr c).toNat))) (zup M 88 (6 + zr c).toNat (zr v)) else post (some (.inl (-1000000001))) (zup M 91 1 (M 91 1 + 1)))
def C_rock : ZC := fun as h post => match as with
  | [.inr (.inr (.inl 87)), .inl c, .inl v] => h.1 = zG ∧ B_rock c v h.2 (fun v M => post v (zG, M))
  | _ => False
theorem r_rock {c : Int} {v : Int} {M : Nat → Nat → Int} {post : Option ZV → ZH → Prop} : C_rock [.inr (.inr (.inl 87)), .inl c, .inl v] (zG, M) post = B_rock c v M (fun v M => post v (zG, M)) := by show (zG = zG ∧ _) = _; simp
def ct_rock : Nat → ZC := fun n => if n = 120 then C_in else if n = 124 then C_isCell else if n = 119 then C_finds else if n = 129 then C_becomes else fun _ _ _ => False
theorem ct_rock_in {as : List ZV} {h : ZH} {post : Option ZV → ZH → Prop} : ct_rock 120 as h post = C_in as h post := rfl
theorem ct_rock_isCell {as : List ZV} {h : ZH} {post : Option ZV → ZH → Prop} : ct_rock 124 as h post = C_isCell as h post := rfl
theorem ct_rock_finds {as : List ZV} {h : ZH} {post : Option ZV → ZH → Prop} : ct_rock 119 as h post = C_finds as h post := rfl
theorem ct_rock_becomes {as : List ZV} {h : ZH} {post : Option ZV → ZH → Prop} : ct_rock 129 as h post = C_becomes as h post := rfl
theorem c_rock {E : ZE} {d : Nat} (hd : 3 ≤ d) : zMet E d mX11_rock C_rock := by
  refine zmet_of (o := 11) (ini := false) (CT := ct_rock) gd_X11_rock rfl (fun h => by cases h) (by omega) ?_ ?_
  · intro n as h post hh
    unfold ct_rock at hh
    by_cases c : n = 120
    · subst c; exact ⟨gd_X11_in, 1, by omega, c_in (by omega)⟩
    rw [if_neg c] at hh
    by_cases c : n = 124
    · subst c; exact ⟨gd_X11_isCell, 2, by omega, c_isCell (by omega)⟩
    rw [if_neg c] at hh
    by_cases c : n = 119
    · subst c; exact ⟨gd_X11_finds, 1, by omega, c_finds (by omega)⟩
    rw [if_neg c] at hh
    by_cases c : n = 129
    · subst c; exact ⟨gd_X11_becomes, 1, by omega, c_becomes (by omega)⟩
    rw [if_neg c] at hh
    exact hh.elim
  intro as h post hC
  match as, hC with
  | [.inr (.inr (.inl 87)), .inl c, .inl v], hC =>
    refine ⟨Nat.le_of_ble_eq_true rfl, fun X hX => bs_X11_rock_0 hX ?_⟩
    obtain ⟨G, M⟩ := h
    obtain ⟨hG, hC⟩ := hC
    dsimp only at hG
    subst hG
    simp only [B_rock] at hC
    show bk_X11_rock_0 E ct_rock X _ [some (.inr (.inr (.inl 87))), some (.inl c), some (.inl v)] [] (zG, M) (0, 0)
    simp only [bk_X11_rock_0, k_X11_rock_0, bk_X11_rock_31, k_X11_rock_31, bk_X11_rock_36, k_X11_rock_36, ↓e_rk1, ↓e_rk0, ↓e_sk0, ↓e_sks, ↓e_ldi0, ↓e_ldis, ↓e_ldl0, ↓e_ldls, ↓e_lda0, ↓e_ldas, ↓e_ok0, ↓e_okss, ↓e_ok1i, ↓e_ok1r, ↓e_ok1n, ↓e_sti, ↓e_sta, ↓e_1, ↓e_2, ↓e_l1, ↓e_l2, ↓e_li, ↓e_sw0, ↓e_sws, ↓e_ceq, ↓e_cne, ↓e_clt, ↓e_cge, ↓e_cgt, ↓e_cle, ↓e_nil, ↓e_cons, ↓e_iconst, ↓e_bipush, ↓e_sipush, ↓e_ldc, ↓e_ldcw, ↓e_ldc2, ↓e_lconst, ↓e_iloadn, ↓e_iload, ↓e_lloadn, ↓e_lload, ↓e_aloadn, ↓e_aload, ↓e_istoren, ↓e_istore, ↓e_astoren, ↓e_astore, ↓e_add, ↓e_iinc, ↓e_iadd, ↓e_isub, ↓e_imul, ↓e_iand, ↓e_ior, ↓e_ixor, ↓e_ishl, ↓e_iushr, ↓e_idiv, ↓e_irem, ↓e_ineg, ↓e_i2l, ↓e_i2b, ↓e_i2s, ↓e_l2i, ↓e_land, ↓e_lor, ↓e_lshl, ↓e_lshr, ↓e_lushr, ↓e_lcmp, ↓e_dupi, ↓e_dupr, ↓e_popi, ↓e_dup2, ↓e_goto, ↓e_if, ↓e_icmp, ↓e_tsw, ↓e_lsw, ↓e_getf, ↓e_putf, ↓e_gets, ↓e_iald, ↓e_cald, ↓e_iast, ↓e_aald, ↓e_aast, ↓e_len, ↓e_copy, ↓e_abs, ↓e_max, ↓e_min, ↓e_iret, ↓e_aret, ↓e_vret, ↓e_is0, ↓e_is1, ↓e_is2, ↓e_is3, ↓e_is4, ↓e_iv1, ↓e_iv2, ↓e_iv3, ↓e_iv4, ↓e_iv5, ↓e_iv6, ↓rt_X11_rock, ↓reduceIte, Nat.reduceAdd, Nat.reduceEqDiff, ↓zcl0, ↓zclv, List.map_nil, List.sum_nil, List.map_cons, List.sum_cons, zcat, true_and, and_true, Nat.reduceLeDiff, Nat.reduceAdd, eq_self, forall_const, e_ok0, e_okss, e_ok1i, e_ok1r, e_ok1n, ↓ct_rock_in, ↓r_in, ↓B_in, ↓ct_rock_isCell, ↓r_isCell, ↓B_isCell, ↓ct_rock_finds, ↓r_finds, ↓B_finds, ↓ct_rock_becomes, ↓r_becomes, ↓B_becomes, ↓v_87, ↓g_87_0, ↓l_88, ↓s_88, ↓n_88, ↓g_87_1, ↓l_89, ↓s_89, ↓n_89, ↓g_87_2, ↓l_90, ↓s_90, ↓n_90, ↓g_87_3, ↓p_87_3, ↓g_87_4, ↓l_91, ↓s_91, ↓n_91, ↓g_87_5, ↓p_87_5, ↓g_87_6, ↓p_87_6, ↓g_87_7, ↓p_87_7, ↓g_87_8, ↓p_87_8, ↓g_87_9, ↓p_87_9, ↓g_87_10, ↓p_87_10, ↓g_87_11, ↓l_92, ↓s_92, ↓n_92, ↓g_87_12, ↓l_93, ↓s_93, ↓n_93, ↓g_87_13, ↓p_87_13, ↓g_87_14, ↓l_94, ↓s_94, ↓n_94, ↓g_87_15, ↓p_87_15, ↓g_87_16, ↓l_95, ↓s_95, ↓n_95, ↓g_87_17, ↓l_96, ↓s_96, ↓n_96, ↓g_87_18, ↓l_97, ↓s_97, ↓n_97, ↓g_87_19, ↓p_87_19, ↓g_87_20, ↓p_87_20, ↓g_87_21, ↓l_98, ↓s_98, ↓n_98, ↓g_87_22, ↓l_99, ↓s_99, ↓n_99, ↓g_87_23, ↓l_100, ↓s_100, ↓n_100, ↓g_87_24, ↓l_101, ↓s_101, ↓n_101]
    trace_state
    sorry
