/-! CONSTRUCTORS: the small ones -/
def k_X0_init_0 : List ZI := [(.aload_n 0, 1, (0, [0], [])), (.invokespecial 3, 3, (0, [], [])), (.aload_n 0, 1, (0, [0], [])), (.bipush 8, 2, (0, [], [])), (.newarray .int, 2, (0, [], [])), (.putfield 9, 3, (2, [0, 0], [])), (.aload_n 0, 1, (0, [0], [])), (.bipush 8, 2, (0, [], [])), (.newarray .int, 2, (0, [], [])), (.putfield 15, 3, (2, [0, 1], [])), (.aload_n 0, 1, (0, [0], [])), (.bipush 8, 2, (0, [], [])), (.newarray .int, 2, (0, [], [])), (.putfield 18, 3, (2, [0, 2], [])), (.return_, 1, (0, [], []))]
theorem ok_X0_init_0 : zOK cX0_init 0 true 1 k_X0_init_0 0 = true := zOK_by (by decide +kernel)
def bk_X0_init_0 (E : ZE) (CT : Nat → ZC) (X : ZK) (Rt : ZR) (ls : ZL) (st : List ZV) (h : ZH) (b : ZB2) : Prop := zB E CT k_X0_init_0 0 ls st h b (fun t ls st h b => X t ls st h b) Rt
theorem bs_X0_init_0 {E : ZE} {CT : Nat → ZC} {X : ZK} {Rt : ZR} {ls : ZL} {st : List ZV} {h : ZH} {b : ZB2} (hX : zCl E mX0_init 0 true CT Rt X) (q : bk_X0_init_0 E CT X Rt ls st h b) : X 0 ls st h b := by
  refine hX k_X0_init_0 0 ok_X0_init_0 _ ?_ ls st h b q
  exact fun t ls st h b q => q
-- X0_init: cuts []
theorem rt_X0_init {g : Nat} {post : Option ZV → ZH → Prop} {h : ZH} {b : ZB2} : zRt mX0_init g post none h b = (post none h ∧ h.1.length = g + 3) := by show (_ ∧ _ ∧ True) = _; simp
def LfX0 (o : Nat) : List ZG := [.inl (0, [some (some (o + 1)), some (some (o + 2)), some (some (o + 3)), none]), .inr (.inl 8), .inr (.inl 8), .inr (.inl 8)]
def C_i0 : ZC := fun as h post => match as with
  | [.inr (.inr (.inl o))] => ∃ G0 : List ZG, h.1 = G0 ++ [.inl (0, zfl 0)] ∧ o = G0.length ∧ (∀ k, h.2 o k = 0) ∧ ∀ M2 : ZMm, Zvq o 4 z00 h.2 M2 → post none (G0 ++ LfX0 o, M2)
  | _ => False
theorem u_i0 {G0 L : List ZG} {M : ZMm} {post : Option ZV → ZH → Prop} (h0 : ∀ k, M (G0.length + L.length) k = 0) (h : ∀ M2 : ZMm, Zvq (G0.length + L.length) 4 z00 M M2 → post none (G0 ++ (L ++ LfX0 (G0.length + L.length)), M2)) : C_i0 [.inr (.inr (.inl (G0.length + L.length)))] (G0 ++ (L ++ [.inl (0, zfl 0)]), M) post := by
  refine ⟨G0 ++ L, (List.append_assoc ..).symm, (List.length_append ..).symm, h0, fun M2 z => ?_⟩
  rw [List.append_assoc]
  exact h M2 z
-- known: i0 X0_init 1 r:o
def ct_i0 : Nat → ZC := fun n => fun _ _ _ => False
theorem c_i0 {E : ZE} {d : Nat} (hd : 1 ≤ d) : zMet E d mX0_init C_i0 := by
  refine zmet_of (o := 0) (ini := true) (CT := ct_i0) gd_X0_init rfl (fun _ => rfl) (by omega) ?_ ?_
  · intro n as h post hh
    unfold ct_i0 at hh
    exact hh.elim
  intro as h post hC
  match as, hC with
  | [.inr (.inr (.inl o))], hC =>
    refine ⟨Nat.le_of_ble_eq_true rfl, fun X hX => bs_X0_init_0 hX ?_⟩
    obtain ⟨G, M⟩ := h
    obtain ⟨G0, hG, ho, h0, hC⟩ := hC
    dsimp only at hG h0 hC
    subst hG
    subst ho
    show bk_X0_init_0 E ct_i0 X _ [some (.inr (.inr (.inl (G0.length + 0))))] [] (G0 ++ [.inl (0, zfl 0)], M) (3, 24)
    simp only [bk_X0_init_0, k_X0_init_0, ↓e_rk1, ↓e_rk0, ↓e_sk0, ↓e_sks, ↓e_ldi0, ↓e_ldis, ↓e_ldl0, ↓e_ldls, ↓e_lda0, ↓e_ldas, ↓e_ok0, ↓e_okss, ↓e_ok1i, ↓e_ok1r, ↓e_ok1n, ↓e_sti, ↓e_sta, ↓e_1, ↓e_2, ↓e_l1, ↓e_l2, ↓e_li, ↓e_sw0, ↓e_sws, ↓e_ceq, ↓e_cne, ↓e_clt, ↓e_cge, ↓e_cgt, ↓e_cle, ↓e_nil, ↓e_cons, ↓e_iconst, ↓e_bipush, ↓e_sipush, ↓e_ldc, ↓e_ldcw, ↓e_ldc2, ↓e_lconst, ↓e_iloadn, ↓e_iload, ↓e_lloadn, ↓e_lload, ↓e_aloadn, ↓e_aload, ↓e_istoren, ↓e_istore, ↓e_astoren, ↓e_astore, ↓e_add, ↓e_iinc, ↓e_iadd, ↓e_isub, ↓e_imul, ↓e_iand, ↓e_ior, ↓e_ixor, ↓e_ishl, ↓e_iushr, ↓e_idiv, ↓e_irem, ↓e_ineg, ↓e_i2l, ↓e_i2b, ↓e_i2s, ↓e_l2i, ↓e_land, ↓e_lor, ↓e_lshl, ↓e_lshr, ↓e_lushr, ↓e_lcmp, ↓e_dupi, ↓e_dupr, ↓e_popi, ↓e_dup2, ↓e_goto, ↓e_if, ↓e_icmp, ↓e_tsw, ↓e_lsw, ↓e_getf, ↓e_putf, ↓e_gets, ↓e_iald, ↓e_cald, ↓e_iast, ↓e_aald, ↓e_aast, ↓e_len, ↓e_copy, ↓e_abs, ↓e_max, ↓e_min, ↓e_iret, ↓e_aret, ↓e_vret, ↓e_is0, ↓e_is1, ↓e_is2, ↓e_is3, ↓e_is4, ↓e_iv1, ↓e_iv2, ↓e_iv3, ↓e_iv4, ↓e_iv5, ↓e_iv6, ↓rt_X0_init, ↓reduceIte, Nat.reduceAdd, Nat.reduceEqDiff, ↓zcl0, ↓zclv, List.map_nil, List.sum_nil, List.map_cons, List.sum_cons, zcat, true_and, and_true, Nat.reduceLeDiff, Nat.reduceAdd, eq_self, forall_const, e_ok0, e_okss, e_ok1i, e_ok1r, e_ok1n, zl_8, Int.reduceToNat, Int.reduceAdd, Int.reduceMul, Int.reduceSub, Int.reduceNeg, Int.reduceLT, Int.reduceLE, Int.reduceEq, not_false_eq_true, not_true_eq_false, false_implies, true_implies, implies_true, Int.reduceDiv, Int.reduceMod, zr8_zr, zr_zbo, z01_zbo, z01_0, z01_1, zbo_eq0, zup_eq, zup_o, zup_k, ne_eq, ↓q_new, ↓q_ob, ↓q_i1, ↓q_i2, ↓q_i5, ↓q_pf, ↓q_pi, Nat.reduceSub, ↓q_na nn_8 (by decide), zl_1, zl_2, zl_3]
    repeat (refine And.intro (by first | rfl | decide | omega) ?_)
    refine ⟨hC _ (((((Zvq.one (v := z00) (fun _ => rfl) h0)).new (n := 1) (fun k => rfl)).new (n := 2) (fun k => rfl)).new (n := 3) (fun k => rfl)), ?_⟩
    simp only [List.length_append]
    rfl
def k_X7_init_0 : List ZI := [(.aload_n 0, 1, (0, [0], [])), (.invokespecial 3, 3, (0, [], [])), (.aload_n 0, 1, (0, [0], [])), (.bipush 40, 2, (0, [], [])), (.newarray .int, 2, (0, [], [])), (.putfield 9, 3, (2, [7, 0], [])), (.return_, 1, (0, [], []))]
theorem ok_X7_init_0 : zOK cX7_init 7 true 1 k_X7_init_0 0 = true := zOK_by (by decide +kernel)
def bk_X7_init_0 (E : ZE) (CT : Nat → ZC) (X : ZK) (Rt : ZR) (ls : ZL) (st : List ZV) (h : ZH) (b : ZB2) : Prop := zB E CT k_X7_init_0 0 ls st h b (fun t ls st h b => X t ls st h b) Rt
theorem bs_X7_init_0 {E : ZE} {CT : Nat → ZC} {X : ZK} {Rt : ZR} {ls : ZL} {st : List ZV} {h : ZH} {b : ZB2} (hX : zCl E mX7_init 7 true CT Rt X) (q : bk_X7_init_0 E CT X Rt ls st h b) : X 0 ls st h b := by
  refine hX k_X7_init_0 0 ok_X7_init_0 _ ?_ ls st h b q
  exact fun t ls st h b q => q
-- X7_init: cuts []
theorem rt_X7_init {g : Nat} {post : Option ZV → ZH → Prop} {h : ZH} {b : ZB2} : zRt mX7_init g post none h b = (post none h ∧ h.1.length = g + 1) := by show (_ ∧ _ ∧ True) = _; simp
def LfX7 (o : Nat) : List ZG := [.inl (7, [some (some (o + 1)), none, none]), .inr (.inl 40)]
def C_i7 : ZC := fun as h post => match as with
  | [.inr (.inr (.inl o))] => ∃ G0 : List ZG, h.1 = G0 ++ [.inl (7, zfl 7)] ∧ o = G0.length ∧ (∀ k, h.2 o k = 0) ∧ ∀ M2 : ZMm, Zvq o 2 z00 h.2 M2 → post none (G0 ++ LfX7 o, M2)
  | _ => False
theorem u_i7 {G0 L : List ZG} {M : ZMm} {post : Option ZV → ZH → Prop} (h0 : ∀ k, M (G0.length + L.length) k = 0) (h : ∀ M2 : ZMm, Zvq (G0.length + L.length) 2 z00 M M2 → post none (G0 ++ (L ++ LfX7 (G0.length + L.length)), M2)) : C_i7 [.inr (.inr (.inl (G0.length + L.length)))] (G0 ++ (L ++ [.inl (7, zfl 7)]), M) post := by
  refine ⟨G0 ++ L, (List.append_assoc ..).symm, (List.length_append ..).symm, h0, fun M2 z => ?_⟩
  rw [List.append_assoc]
  exact h M2 z
-- known: i7 X7_init 1 r:o
def ct_i7 : Nat → ZC := fun n => fun _ _ _ => False
theorem c_i7 {E : ZE} {d : Nat} (hd : 1 ≤ d) : zMet E d mX7_init C_i7 := by
  refine zmet_of (o := 7) (ini := true) (CT := ct_i7) gd_X7_init rfl (fun _ => rfl) (by omega) ?_ ?_
  · intro n as h post hh
    unfold ct_i7 at hh
    exact hh.elim
  intro as h post hC
  match as, hC with
  | [.inr (.inr (.inl o))], hC =>
    refine ⟨Nat.le_of_ble_eq_true rfl, fun X hX => bs_X7_init_0 hX ?_⟩
    obtain ⟨G, M⟩ := h
    obtain ⟨G0, hG, ho, h0, hC⟩ := hC
    dsimp only at hG h0 hC
    subst hG
    subst ho
    show bk_X7_init_0 E ct_i7 X _ [some (.inr (.inr (.inl (G0.length + 0))))] [] (G0 ++ [.inl (7, zfl 7)], M) (1, 40)
    simp only [bk_X7_init_0, k_X7_init_0, ↓e_rk1, ↓e_rk0, ↓e_sk0, ↓e_sks, ↓e_ldi0, ↓e_ldis, ↓e_ldl0, ↓e_ldls, ↓e_lda0, ↓e_ldas, ↓e_ok0, ↓e_okss, ↓e_ok1i, ↓e_ok1r, ↓e_ok1n, ↓e_sti, ↓e_sta, ↓e_1, ↓e_2, ↓e_l1, ↓e_l2, ↓e_li, ↓e_sw0, ↓e_sws, ↓e_ceq, ↓e_cne, ↓e_clt, ↓e_cge, ↓e_cgt, ↓e_cle, ↓e_nil, ↓e_cons, ↓e_iconst, ↓e_bipush, ↓e_sipush, ↓e_ldc, ↓e_ldcw, ↓e_ldc2, ↓e_lconst, ↓e_iloadn, ↓e_iload, ↓e_lloadn, ↓e_lload, ↓e_aloadn, ↓e_aload, ↓e_istoren, ↓e_istore, ↓e_astoren, ↓e_astore, ↓e_add, ↓e_iinc, ↓e_iadd, ↓e_isub, ↓e_imul, ↓e_iand, ↓e_ior, ↓e_ixor, ↓e_ishl, ↓e_iushr, ↓e_idiv, ↓e_irem, ↓e_ineg, ↓e_i2l, ↓e_i2b, ↓e_i2s, ↓e_l2i, ↓e_land, ↓e_lor, ↓e_lshl, ↓e_lshr, ↓e_lushr, ↓e_lcmp, ↓e_dupi, ↓e_dupr, ↓e_popi, ↓e_dup2, ↓e_goto, ↓e_if, ↓e_icmp, ↓e_tsw, ↓e_lsw, ↓e_getf, ↓e_putf, ↓e_gets, ↓e_iald, ↓e_cald, ↓e_iast, ↓e_aald, ↓e_aast, ↓e_len, ↓e_copy, ↓e_abs, ↓e_max, ↓e_min, ↓e_iret, ↓e_aret, ↓e_vret, ↓e_is0, ↓e_is1, ↓e_is2, ↓e_is3, ↓e_is4, ↓e_iv1, ↓e_iv2, ↓e_iv3, ↓e_iv4, ↓e_iv5, ↓e_iv6, ↓rt_X7_init, ↓reduceIte, Nat.reduceAdd, Nat.reduceEqDiff, ↓zcl0, ↓zclv, List.map_nil, List.sum_nil, List.map_cons, List.sum_cons, zcat, true_and, and_true, Nat.reduceLeDiff, Nat.reduceAdd, eq_self, forall_const, e_ok0, e_okss, e_ok1i, e_ok1r, e_ok1n, zl_40, Int.reduceToNat, Int.reduceAdd, Int.reduceMul, Int.reduceSub, Int.reduceNeg, Int.reduceLT, Int.reduceLE, Int.reduceEq, not_false_eq_true, not_true_eq_false, false_implies, true_implies, implies_true, Int.reduceDiv, Int.reduceMod, zr8_zr, zr_zbo, z01_zbo, z01_0, z01_1, zbo_eq0, zup_eq, zup_o, zup_k, ne_eq, ↓q_new, ↓q_ob, ↓q_i1, ↓q_i2, ↓q_i5, ↓q_pf, ↓q_pi, Nat.reduceSub, ↓q_na nn_40 (by decide), zl_1, zl_2, zl_3]
    repeat (refine And.intro (by first | rfl | decide | omega) ?_)
    refine ⟨hC _ (((Zvq.one (v := z00) (fun _ => rfl) h0)).new (n := 1) (fun k => rfl)), ?_⟩
    simp only [List.length_append]
    rfl
def k_X9_init_0 : List ZI := [(.aload_n 0, 1, (0, [0], [])), (.invokespecial 3, 3, (0, [], [])), (.aload_n 0, 1, (0, [0], [])), (.bipush 64, 2, (0, [], [])), (.newarray .int, 2, (0, [], [])), (.putfield 9, 3, (2, [9, 1], [])), (.aload_n 0, 1, (0, [0], [])), (.bipush 64, 2, (0, [], [])), (.newarray .int, 2, (0, [], [])), (.putfield 15, 3, (2, [9, 2], [])), (.aload_n 0, 1, (0, [0], [])), (.bipush 64, 2, (0, [], [])), (.newarray .int, 2, (0, [], [])), (.putfield 18, 3, (2, [9, 3], [])), (.aload_n 0, 1, (0, [0], [])), (.aload_n 1, 1, (0, [1], [])), (.putfield 21, 3, (2, [9, 0], [])), (.return_, 1, (0, [], []))]
theorem ok_X9_init_0 : zOK cX9_init 9 true 2 k_X9_init_0 0 = true := zOK_by (by decide +kernel)
def bk_X9_init_0 (E : ZE) (CT : Nat → ZC) (X : ZK) (Rt : ZR) (ls : ZL) (st : List ZV) (h : ZH) (b : ZB2) : Prop := zB E CT k_X9_init_0 0 ls st h b (fun t ls st h b => X t ls st h b) Rt
theorem bs_X9_init_0 {E : ZE} {CT : Nat → ZC} {X : ZK} {Rt : ZR} {ls : ZL} {st : List ZV} {h : ZH} {b : ZB2} (hX : zCl E mX9_init 9 true CT Rt X) (q : bk_X9_init_0 E CT X Rt ls st h b) : X 0 ls st h b := by
  refine hX k_X9_init_0 0 ok_X9_init_0 _ ?_ ls st h b q
  exact fun t ls st h b q => q
-- X9_init: cuts []
theorem rt_X9_init {g : Nat} {post : Option ZV → ZH → Prop} {h : ZH} {b : ZB2} : zRt mX9_init g post none h b = (post none h ∧ h.1.length = g + 3) := by show (_ ∧ _ ∧ True) = _; simp
def LfX9 (o : Nat) (t : Nat) : List ZG := [.inl (9, [some (some (t)), some (some (o + 1)), some (some (o + 2)), some (some (o + 3))]), .inr (.inl 64), .inr (.inl 64), .inr (.inl 64)]
def C_i9 : ZC := fun as h post => match as with
  | [.inr (.inr (.inl o)), .inr (.inr (.inl t))] => ∃ G0 : List ZG, h.1 = G0 ++ [.inl (9, zfl 9)] ∧ o = G0.length ∧ (∀ k, h.2 o k = 0) ∧ ∀ M2 : ZMm, Zvq o 4 z00 h.2 M2 → post none (G0 ++ LfX9 o t, M2)
  | _ => False
theorem u_i9 {t : Nat} {G0 L : List ZG} {M : ZMm} {post : Option ZV → ZH → Prop} (h0 : ∀ k, M (G0.length + L.length) k = 0) (h : ∀ M2 : ZMm, Zvq (G0.length + L.length) 4 z00 M M2 → post none (G0 ++ (L ++ LfX9 (G0.length + L.length) t), M2)) : C_i9 [.inr (.inr (.inl (G0.length + L.length))), .inr (.inr (.inl t))] (G0 ++ (L ++ [.inl (9, zfl 9)]), M) post := by
  refine ⟨G0 ++ L, (List.append_assoc ..).symm, (List.length_append ..).symm, h0, fun M2 z => ?_⟩
  rw [List.append_assoc]
  exact h M2 z
-- known: i9 X9_init 1 r:o
def ct_i9 : Nat → ZC := fun n => fun _ _ _ => False
theorem c_i9 {E : ZE} {d : Nat} (hd : 1 ≤ d) : zMet E d mX9_init C_i9 := by
  refine zmet_of (o := 9) (ini := true) (CT := ct_i9) gd_X9_init rfl (fun _ => rfl) (by omega) ?_ ?_
  · intro n as h post hh
    unfold ct_i9 at hh
    exact hh.elim
  intro as h post hC
  match as, hC with
  | [.inr (.inr (.inl o)), .inr (.inr (.inl t))], hC =>
    refine ⟨Nat.le_of_ble_eq_true rfl, fun X hX => bs_X9_init_0 hX ?_⟩
    obtain ⟨G, M⟩ := h
    obtain ⟨G0, hG, ho, h0, hC⟩ := hC
    dsimp only at hG h0 hC
    subst hG
    subst ho
    show bk_X9_init_0 E ct_i9 X _ [some (.inr (.inr (.inl (G0.length + 0)))), some (.inr (.inr (.inl t)))] [] (G0 ++ [.inl (9, zfl 9)], M) (3, 192)
    simp only [bk_X9_init_0, k_X9_init_0, ↓e_rk1, ↓e_rk0, ↓e_sk0, ↓e_sks, ↓e_ldi0, ↓e_ldis, ↓e_ldl0, ↓e_ldls, ↓e_lda0, ↓e_ldas, ↓e_ok0, ↓e_okss, ↓e_ok1i, ↓e_ok1r, ↓e_ok1n, ↓e_sti, ↓e_sta, ↓e_1, ↓e_2, ↓e_l1, ↓e_l2, ↓e_li, ↓e_sw0, ↓e_sws, ↓e_ceq, ↓e_cne, ↓e_clt, ↓e_cge, ↓e_cgt, ↓e_cle, ↓e_nil, ↓e_cons, ↓e_iconst, ↓e_bipush, ↓e_sipush, ↓e_ldc, ↓e_ldcw, ↓e_ldc2, ↓e_lconst, ↓e_iloadn, ↓e_iload, ↓e_lloadn, ↓e_lload, ↓e_aloadn, ↓e_aload, ↓e_istoren, ↓e_istore, ↓e_astoren, ↓e_astore, ↓e_add, ↓e_iinc, ↓e_iadd, ↓e_isub, ↓e_imul, ↓e_iand, ↓e_ior, ↓e_ixor, ↓e_ishl, ↓e_iushr, ↓e_idiv, ↓e_irem, ↓e_ineg, ↓e_i2l, ↓e_i2b, ↓e_i2s, ↓e_l2i, ↓e_land, ↓e_lor, ↓e_lshl, ↓e_lshr, ↓e_lushr, ↓e_lcmp, ↓e_dupi, ↓e_dupr, ↓e_popi, ↓e_dup2, ↓e_goto, ↓e_if, ↓e_icmp, ↓e_tsw, ↓e_lsw, ↓e_getf, ↓e_putf, ↓e_gets, ↓e_iald, ↓e_cald, ↓e_iast, ↓e_aald, ↓e_aast, ↓e_len, ↓e_copy, ↓e_abs, ↓e_max, ↓e_min, ↓e_iret, ↓e_aret, ↓e_vret, ↓e_is0, ↓e_is1, ↓e_is2, ↓e_is3, ↓e_is4, ↓e_iv1, ↓e_iv2, ↓e_iv3, ↓e_iv4, ↓e_iv5, ↓e_iv6, ↓rt_X9_init, ↓reduceIte, Nat.reduceAdd, Nat.reduceEqDiff, ↓zcl0, ↓zclv, List.map_nil, List.sum_nil, List.map_cons, List.sum_cons, zcat, true_and, and_true, Nat.reduceLeDiff, Nat.reduceAdd, eq_self, forall_const, e_ok0, e_okss, e_ok1i, e_ok1r, e_ok1n, zl_64, Int.reduceToNat, Int.reduceAdd, Int.reduceMul, Int.reduceSub, Int.reduceNeg, Int.reduceLT, Int.reduceLE, Int.reduceEq, not_false_eq_true, not_true_eq_false, false_implies, true_implies, implies_true, Int.reduceDiv, Int.reduceMod, zr8_zr, zr_zbo, z01_zbo, z01_0, z01_1, zbo_eq0, zup_eq, zup_o, zup_k, ne_eq, ↓q_new, ↓q_ob, ↓q_i1, ↓q_i2, ↓q_i5, ↓q_pf, ↓q_pi, Nat.reduceSub, ↓q_na nn_64 (by decide), zl_1, zl_2, zl_3]
    repeat (refine And.intro (by first | rfl | decide | omega) ?_)
    refine ⟨hC _ (((((Zvq.one (v := z00) (fun _ => rfl) h0)).new (n := 1) (fun k => rfl)).new (n := 2) (fun k => rfl)).new (n := 3) (fun k => rfl)), ?_⟩
    simp only [List.length_append]
    rfl
def k_X3_init_0 : List ZI := [(.aload_n 0, 1, (0, [0], [])), (.invokespecial 3, 3, (0, [], [])), (.aload_n 0, 1, (0, [0], [])), (.new 9, 3, (0, [5], [])), (.dup, 1, (0, [], [])), (.bipush 50, 2, (0, [], [])), (.invokespecial 11, 3, (50, [40, 2, 1, 5], []))]
theorem ok_X3_init_0 : zOK cX3_init 3 true 1 k_X3_init_0 0 = true := zOK_by (by decide +kernel)
def k_X3_init_14 : List ZI := [(.putfield 14, 3, (2, [3, 0], [])), (.aload_n 0, 1, (0, [0], [])), (.bipush 50, 2, (0, [], [])), (.newarray .int, 2, (0, [], [])), (.putfield 20, 3, (2, [3, 1], [])), (.return_, 1, (0, [], []))]
theorem ok_X3_init_14 : zOK cX3_init 3 true 1 k_X3_init_14 14 = true := zOK_by (by decide +kernel)
def bk_X3_init_0 (E : ZE) (CT : Nat → ZC) (X : ZK) (Rt : ZR) (ls : ZL) (st : List ZV) (h : ZH) (b : ZB2) : Prop := zB E CT k_X3_init_0 0 ls st h b (fun t ls st h b => X t ls st h b) Rt
theorem bs_X3_init_0 {E : ZE} {CT : Nat → ZC} {X : ZK} {Rt : ZR} {ls : ZL} {st : List ZV} {h : ZH} {b : ZB2} (hX : zCl E mX3_init 3 true CT Rt X) (q : bk_X3_init_0 E CT X Rt ls st h b) : X 0 ls st h b := by
  refine hX k_X3_init_0 0 ok_X3_init_0 _ ?_ ls st h b q
  exact fun t ls st h b q => q
def bk_X3_init_14 (E : ZE) (CT : Nat → ZC) (X : ZK) (Rt : ZR) (ls : ZL) (st : List ZV) (h : ZH) (b : ZB2) : Prop := zB E CT k_X3_init_14 14 ls st h b (fun t ls st h b => X t ls st h b) Rt
theorem bs_X3_init_14 {E : ZE} {CT : Nat → ZC} {X : ZK} {Rt : ZR} {ls : ZL} {st : List ZV} {h : ZH} {b : ZB2} (hX : zCl E mX3_init 3 true CT Rt X) (q : bk_X3_init_14 E CT X Rt ls st h b) : X 14 ls st h b := by
  refine hX k_X3_init_14 14 ok_X3_init_14 _ ?_ ls st h b q
  exact fun t ls st h b q => q
-- X3_init: cuts [14]
theorem rt_X3_init {g : Nat} {post : Option ZV → ZH → Prop} {h : ZH} {b : ZB2} : zRt mX3_init g post none h b = (post none h ∧ h.1.length = g + 3) := by show (_ ∧ _ ∧ True) = _; simp
def LfX3 (o : Nat) : List ZG := [.inl (3, [some (some (o + 1)), some (some (o + 3))]), .inl (5, [some (some (o + 2)), none]), .inr (.inl 50), .inr (.inl 50)]
def C_i3 : ZC := fun as h post => match as with
  | [.inr (.inr (.inl o))] => ∃ G0 : List ZG, h.1 = G0 ++ [.inl (3, zfl 3)] ∧ o = G0.length ∧ (∀ k, h.2 o k = 0) ∧ ∀ M2 : ZMm, Zvq o 4 z00 h.2 M2 → post none (G0 ++ LfX3 o, M2)
  | _ => False
theorem u_i3 {G0 L : List ZG} {M : ZMm} {post : Option ZV → ZH → Prop} (h0 : ∀ k, M (G0.length + L.length) k = 0) (h : ∀ M2 : ZMm, Zvq (G0.length + L.length) 4 z00 M M2 → post none (G0 ++ (L ++ LfX3 (G0.length + L.length)), M2)) : C_i3 [.inr (.inr (.inl (G0.length + L.length)))] (G0 ++ (L ++ [.inl (3, zfl 3)]), M) post := by
  refine ⟨G0 ++ L, (List.append_assoc ..).symm, (List.length_append ..).symm, h0, fun M2 z => ?_⟩
  rw [List.append_assoc]
  exact h M2 z
def LqX3_init_14 (o : Nat) : List ZG := [.inl (3, [some none, some none]), .inl (5, [some (some (o + 2)), none]), .inr (.inl 50)]
-- known: i3 X3_init 2 r:o
def ct_i3 : Nat → ZC := fun n => if n = 40 then C_i5 else fun _ _ _ => False
theorem ct_i3_i5 {as : List ZV} {h : ZH} {post : Option ZV → ZH → Prop} : ct_i3 40 as h post = C_i5 as h post := rfl
theorem c_i3 {E : ZE} {d : Nat} (hd : 2 ≤ d) : zMet E d mX3_init C_i3 := by
  refine zmet_of (o := 3) (ini := true) (CT := ct_i3) gd_X3_init rfl (fun _ => rfl) (by omega) ?_ ?_
  · intro n as h post hh
    unfold ct_i3 at hh
    by_cases c : n = 40
    · subst c; exact ⟨gd_X5_init, 1, by omega, c_i5 (by omega)⟩
    rw [if_neg c] at hh
    exact hh.elim
  intro as h post hC
  match as, hC with
  | [.inr (.inr (.inl o))], hC =>
    refine ⟨Nat.le_of_ble_eq_true rfl, fun X hX => bs_X3_init_0 hX ?_⟩
    obtain ⟨G, M⟩ := h
    obtain ⟨G0, hG, ho, h0, hC⟩ := hC
    dsimp only at hG h0 hC
    subst hG
    subst ho
    have J14 : ∀ M1 : ZMm, Zvq G0.length 3 z00 M M1 → X 14 [some (.inr (.inr (.inl (G0.length + 0))))] [.inr (.inr (.inl (G0.length + 1))), .inr (.inr (.inl (G0.length + 0)))] (G0 ++ LqX3_init_14 G0.length, M1) (1, 50) := by
      intro M1 z1
      refine bs_X3_init_14 hX ?_
      simp only [bk_X3_init_0, k_X3_init_0, bk_X3_init_14, k_X3_init_14, ↓e_rk1, ↓e_rk0, ↓e_sk0, ↓e_sks, ↓e_ldi0, ↓e_ldis, ↓e_ldl0, ↓e_ldls, ↓e_lda0, ↓e_ldas, ↓e_ok0, ↓e_okss, ↓e_ok1i, ↓e_ok1r, ↓e_ok1n, ↓e_sti, ↓e_sta, ↓e_1, ↓e_2, ↓e_l1, ↓e_l2, ↓e_li, ↓e_sw0, ↓e_sws, ↓e_ceq, ↓e_cne, ↓e_clt, ↓e_cge, ↓e_cgt, ↓e_cle, ↓e_nil, ↓e_cons, ↓e_iconst, ↓e_bipush, ↓e_sipush, ↓e_ldc, ↓e_ldcw, ↓e_ldc2, ↓e_lconst, ↓e_iloadn, ↓e_iload, ↓e_lloadn, ↓e_lload, ↓e_aloadn, ↓e_aload, ↓e_istoren, ↓e_istore, ↓e_astoren, ↓e_astore, ↓e_add, ↓e_iinc, ↓e_iadd, ↓e_isub, ↓e_imul, ↓e_iand, ↓e_ior, ↓e_ixor, ↓e_ishl, ↓e_iushr, ↓e_idiv, ↓e_irem, ↓e_ineg, ↓e_i2l, ↓e_i2b, ↓e_i2s, ↓e_l2i, ↓e_land, ↓e_lor, ↓e_lshl, ↓e_lshr, ↓e_lushr, ↓e_lcmp, ↓e_dupi, ↓e_dupr, ↓e_popi, ↓e_dup2, ↓e_goto, ↓e_if, ↓e_icmp, ↓e_tsw, ↓e_lsw, ↓e_getf, ↓e_putf, ↓e_gets, ↓e_iald, ↓e_cald, ↓e_iast, ↓e_aald, ↓e_aast, ↓e_len, ↓e_copy, ↓e_abs, ↓e_max, ↓e_min, ↓e_iret, ↓e_aret, ↓e_vret, ↓e_is0, ↓e_is1, ↓e_is2, ↓e_is3, ↓e_is4, ↓e_iv1, ↓e_iv2, ↓e_iv3, ↓e_iv4, ↓e_iv5, ↓e_iv6, ↓rt_X3_init, ↓reduceIte, Nat.reduceAdd, Nat.reduceEqDiff, ↓zcl0, ↓zclv, List.map_nil, List.sum_nil, List.map_cons, List.sum_cons, zcat, true_and, and_true, Nat.reduceLeDiff, Nat.reduceAdd, eq_self, forall_const, e_ok0, e_okss, e_ok1i, e_ok1r, e_ok1n, zl_50, Int.reduceToNat, Int.reduceAdd, Int.reduceMul, Int.reduceSub, Int.reduceNeg, Int.reduceLT, Int.reduceLE, Int.reduceEq, not_false_eq_true, not_true_eq_false, false_implies, true_implies, implies_true, Int.reduceDiv, Int.reduceMod, zr8_zr, zr_zbo, z01_zbo, z01_0, z01_1, zbo_eq0, zup_eq, zup_o, zup_k, ne_eq, ↓q_new, ↓q_ob, ↓q_i1, ↓q_i2, ↓q_i5, ↓q_pf, ↓q_pi, Nat.reduceSub, ↓q_na nn_50 (by decide), ↓ct_i3_i5, zl_1, zl_2, zl_3]
      repeat (refine And.intro (by first | rfl | decide | omega) ?_)
      refine ⟨hC _ ((z1).new (n := 3) (fun k => rfl)), ?_⟩
      simp only [List.length_append]
      rfl
    show bk_X3_init_0 E ct_i3 X _ [some (.inr (.inr (.inl (G0.length + 0))))] [] (G0 ++ [.inl (3, zfl 3)], M) (3, 102)
    simp only [bk_X3_init_0, k_X3_init_0, bk_X3_init_14, k_X3_init_14, ↓e_rk1, ↓e_rk0, ↓e_sk0, ↓e_sks, ↓e_ldi0, ↓e_ldis, ↓e_ldl0, ↓e_ldls, ↓e_lda0, ↓e_ldas, ↓e_ok0, ↓e_okss, ↓e_ok1i, ↓e_ok1r, ↓e_ok1n, ↓e_sti, ↓e_sta, ↓e_1, ↓e_2, ↓e_l1, ↓e_l2, ↓e_li, ↓e_sw0, ↓e_sws, ↓e_ceq, ↓e_cne, ↓e_clt, ↓e_cge, ↓e_cgt, ↓e_cle, ↓e_nil, ↓e_cons, ↓e_iconst, ↓e_bipush, ↓e_sipush, ↓e_ldc, ↓e_ldcw, ↓e_ldc2, ↓e_lconst, ↓e_iloadn, ↓e_iload, ↓e_lloadn, ↓e_lload, ↓e_aloadn, ↓e_aload, ↓e_istoren, ↓e_istore, ↓e_astoren, ↓e_astore, ↓e_add, ↓e_iinc, ↓e_iadd, ↓e_isub, ↓e_imul, ↓e_iand, ↓e_ior, ↓e_ixor, ↓e_ishl, ↓e_iushr, ↓e_idiv, ↓e_irem, ↓e_ineg, ↓e_i2l, ↓e_i2b, ↓e_i2s, ↓e_l2i, ↓e_land, ↓e_lor, ↓e_lshl, ↓e_lshr, ↓e_lushr, ↓e_lcmp, ↓e_dupi, ↓e_dupr, ↓e_popi, ↓e_dup2, ↓e_goto, ↓e_if, ↓e_icmp, ↓e_tsw, ↓e_lsw, ↓e_getf, ↓e_putf, ↓e_gets, ↓e_iald, ↓e_cald, ↓e_iast, ↓e_aald, ↓e_aast, ↓e_len, ↓e_copy, ↓e_abs, ↓e_max, ↓e_min, ↓e_iret, ↓e_aret, ↓e_vret, ↓e_is0, ↓e_is1, ↓e_is2, ↓e_is3, ↓e_is4, ↓e_iv1, ↓e_iv2, ↓e_iv3, ↓e_iv4, ↓e_iv5, ↓e_iv6, ↓rt_X3_init, ↓reduceIte, Nat.reduceAdd, Nat.reduceEqDiff, ↓zcl0, ↓zclv, List.map_nil, List.sum_nil, List.map_cons, List.sum_cons, zcat, true_and, and_true, Nat.reduceLeDiff, Nat.reduceAdd, eq_self, forall_const, e_ok0, e_okss, e_ok1i, e_ok1r, e_ok1n, zl_50, Int.reduceToNat, Int.reduceAdd, Int.reduceMul, Int.reduceSub, Int.reduceNeg, Int.reduceLT, Int.reduceLE, Int.reduceEq, not_false_eq_true, not_true_eq_false, false_implies, true_implies, implies_true, Int.reduceDiv, Int.reduceMod, zr8_zr, zr_zbo, z01_zbo, z01_0, z01_1, zbo_eq0, zup_eq, zup_o, zup_k, ne_eq, ↓q_new, ↓q_ob, ↓q_i1, ↓q_i2, ↓q_i5, ↓q_pf, ↓q_pi, Nat.reduceSub, ↓ct_i3_i5, zl_1, zl_2, zl_3]
    repeat (refine And.intro (by first | rfl | decide | omega) ?_)
    refine u_i5 (by decide) (fun _ => zro_self) (fun M2 z2 => J14 M2 ?_)
    exact Zvq.callN (n := 1) (m := 2) (v' := z00) ((Zvq.one (v := z00) (fun _ => rfl) h0)) z2 (fun j k hj => rfl)
def k_X4_init_0 : List ZI := [(.aload_n 0, 1, (0, [0], [])), (.invokespecial 3, 3, (0, [], [])), (.aload_n 0, 1, (0, [0], [])), (.new 9, 3, (0, [5], [])), (.dup, 1, (0, [], [])), (.bipush 50, 2, (0, [], [])), (.invokespecial 11, 3, (50, [40, 2, 1, 5], []))]
theorem ok_X4_init_0 : zOK cX4_init 4 true 2 k_X4_init_0 0 = true := zOK_by (by decide +kernel)
def k_X4_init_14 : List ZI := [(.putfield 14, 3, (2, [4, 0], [])), (.aload_n 0, 1, (0, [0], [])), (.aload_n 1, 1, (0, [1], [])), (.putfield 20, 3, (2, [4, 1], [])), (.return_, 1, (0, [], []))]
theorem ok_X4_init_14 : zOK cX4_init 4 true 2 k_X4_init_14 14 = true := zOK_by (by decide +kernel)
def bk_X4_init_0 (E : ZE) (CT : Nat → ZC) (X : ZK) (Rt : ZR) (ls : ZL) (st : List ZV) (h : ZH) (b : ZB2) : Prop := zB E CT k_X4_init_0 0 ls st h b (fun t ls st h b => X t ls st h b) Rt
theorem bs_X4_init_0 {E : ZE} {CT : Nat → ZC} {X : ZK} {Rt : ZR} {ls : ZL} {st : List ZV} {h : ZH} {b : ZB2} (hX : zCl E mX4_init 4 true CT Rt X) (q : bk_X4_init_0 E CT X Rt ls st h b) : X 0 ls st h b := by
  refine hX k_X4_init_0 0 ok_X4_init_0 _ ?_ ls st h b q
  exact fun t ls st h b q => q
def bk_X4_init_14 (E : ZE) (CT : Nat → ZC) (X : ZK) (Rt : ZR) (ls : ZL) (st : List ZV) (h : ZH) (b : ZB2) : Prop := zB E CT k_X4_init_14 14 ls st h b (fun t ls st h b => X t ls st h b) Rt
theorem bs_X4_init_14 {E : ZE} {CT : Nat → ZC} {X : ZK} {Rt : ZR} {ls : ZL} {st : List ZV} {h : ZH} {b : ZB2} (hX : zCl E mX4_init 4 true CT Rt X) (q : bk_X4_init_14 E CT X Rt ls st h b) : X 14 ls st h b := by
  refine hX k_X4_init_14 14 ok_X4_init_14 _ ?_ ls st h b q
  exact fun t ls st h b q => q
-- X4_init: cuts [14]
theorem rt_X4_init {g : Nat} {post : Option ZV → ZH → Prop} {h : ZH} {b : ZB2} : zRt mX4_init g post none h b = (post none h ∧ h.1.length = g + 2) := by show (_ ∧ _ ∧ True) = _; simp
def LfX4 (o : Nat) (t : Nat) : List ZG := [.inl (4, [some (some (o + 1)), some (some (t)), none, none, none]), .inl (5, [some (some (o + 2)), none]), .inr (.inl 50)]
def C_i4 : ZC := fun as h post => match as with
  | [.inr (.inr (.inl o)), .inr (.inr (.inl t))] => ∃ G0 : List ZG, h.1 = G0 ++ [.inl (4, zfl 4)] ∧ o = G0.length ∧ (∀ k, h.2 o k = 0) ∧ ∀ M2 : ZMm, Zvq o 3 z00 h.2 M2 → post none (G0 ++ LfX4 o t, M2)
  | _ => False
theorem u_i4 {t : Nat} {G0 L : List ZG} {M : ZMm} {post : Option ZV → ZH → Prop} (h0 : ∀ k, M (G0.length + L.length) k = 0) (h : ∀ M2 : ZMm, Zvq (G0.length + L.length) 3 z00 M M2 → post none (G0 ++ (L ++ LfX4 (G0.length + L.length) t), M2)) : C_i4 [.inr (.inr (.inl (G0.length + L.length))), .inr (.inr (.inl t))] (G0 ++ (L ++ [.inl (4, zfl 4)]), M) post := by
  refine ⟨G0 ++ L, (List.append_assoc ..).symm, (List.length_append ..).symm, h0, fun M2 z => ?_⟩
  rw [List.append_assoc]
  exact h M2 z
def LqX4_init_14 (o : Nat) (t : Nat) : List ZG := [.inl (4, [some none, some none, none, none, none]), .inl (5, [some (some (o + 2)), none]), .inr (.inl 50)]
-- known: i4 X4_init 2 r:o
def ct_i4 : Nat → ZC := fun n => if n = 40 then C_i5 else fun _ _ _ => False
theorem ct_i4_i5 {as : List ZV} {h : ZH} {post : Option ZV → ZH → Prop} : ct_i4 40 as h post = C_i5 as h post := rfl
theorem c_i4 {E : ZE} {d : Nat} (hd : 2 ≤ d) : zMet E d mX4_init C_i4 := by
  refine zmet_of (o := 4) (ini := true) (CT := ct_i4) gd_X4_init rfl (fun _ => rfl) (by omega) ?_ ?_
  · intro n as h post hh
    unfold ct_i4 at hh
    by_cases c : n = 40
    · subst c; exact ⟨gd_X5_init, 1, by omega, c_i5 (by omega)⟩
    rw [if_neg c] at hh
    exact hh.elim
  intro as h post hC
  match as, hC with
  | [.inr (.inr (.inl o)), .inr (.inr (.inl t))], hC =>
    refine ⟨Nat.le_of_ble_eq_true rfl, fun X hX => bs_X4_init_0 hX ?_⟩
    obtain ⟨G, M⟩ := h
    obtain ⟨G0, hG, ho, h0, hC⟩ := hC
    dsimp only at hG h0 hC
    subst hG
    subst ho
    have J14 : ∀ M1 : ZMm, Zvq G0.length 3 z00 M M1 → X 14 [some (.inr (.inr (.inl (G0.length + 0)))), some (.inr (.inr (.inl t)))] [.inr (.inr (.inl (G0.length + 1))), .inr (.inr (.inl (G0.length + 0)))] (G0 ++ LqX4_init_14 G0.length t, M1) (0, 0) := by
      intro M1 z1
      refine bs_X4_init_14 hX ?_
      simp only [bk_X4_init_0, k_X4_init_0, bk_X4_init_14, k_X4_init_14, ↓e_rk1, ↓e_rk0, ↓e_sk0, ↓e_sks, ↓e_ldi0, ↓e_ldis, ↓e_ldl0, ↓e_ldls, ↓e_lda0, ↓e_ldas, ↓e_ok0, ↓e_okss, ↓e_ok1i, ↓e_ok1r, ↓e_ok1n, ↓e_sti, ↓e_sta, ↓e_1, ↓e_2, ↓e_l1, ↓e_l2, ↓e_li, ↓e_sw0, ↓e_sws, ↓e_ceq, ↓e_cne, ↓e_clt, ↓e_cge, ↓e_cgt, ↓e_cle, ↓e_nil, ↓e_cons, ↓e_iconst, ↓e_bipush, ↓e_sipush, ↓e_ldc, ↓e_ldcw, ↓e_ldc2, ↓e_lconst, ↓e_iloadn, ↓e_iload, ↓e_lloadn, ↓e_lload, ↓e_aloadn, ↓e_aload, ↓e_istoren, ↓e_istore, ↓e_astoren, ↓e_astore, ↓e_add, ↓e_iinc, ↓e_iadd, ↓e_isub, ↓e_imul, ↓e_iand, ↓e_ior, ↓e_ixor, ↓e_ishl, ↓e_iushr, ↓e_idiv, ↓e_irem, ↓e_ineg, ↓e_i2l, ↓e_i2b, ↓e_i2s, ↓e_l2i, ↓e_land, ↓e_lor, ↓e_lshl, ↓e_lshr, ↓e_lushr, ↓e_lcmp, ↓e_dupi, ↓e_dupr, ↓e_popi, ↓e_dup2, ↓e_goto, ↓e_if, ↓e_icmp, ↓e_tsw, ↓e_lsw, ↓e_getf, ↓e_putf, ↓e_gets, ↓e_iald, ↓e_cald, ↓e_iast, ↓e_aald, ↓e_aast, ↓e_len, ↓e_copy, ↓e_abs, ↓e_max, ↓e_min, ↓e_iret, ↓e_aret, ↓e_vret, ↓e_is0, ↓e_is1, ↓e_is2, ↓e_is3, ↓e_is4, ↓e_iv1, ↓e_iv2, ↓e_iv3, ↓e_iv4, ↓e_iv5, ↓e_iv6, ↓rt_X4_init, ↓reduceIte, Nat.reduceAdd, Nat.reduceEqDiff, ↓zcl0, ↓zclv, List.map_nil, List.sum_nil, List.map_cons, List.sum_cons, zcat, true_and, and_true, Nat.reduceLeDiff, Nat.reduceAdd, eq_self, forall_const, e_ok0, e_okss, e_ok1i, e_ok1r, e_ok1n, zl_50, Int.reduceToNat, Int.reduceAdd, Int.reduceMul, Int.reduceSub, Int.reduceNeg, Int.reduceLT, Int.reduceLE, Int.reduceEq, not_false_eq_true, not_true_eq_false, false_implies, true_implies, implies_true, Int.reduceDiv, Int.reduceMod, zr8_zr, zr_zbo, z01_zbo, z01_0, z01_1, zbo_eq0, zup_eq, zup_o, zup_k, ne_eq, ↓q_new, ↓q_ob, ↓q_i1, ↓q_i2, ↓q_i5, ↓q_pf, ↓q_pi, Nat.reduceSub, ↓ct_i4_i5, zl_1, zl_2, zl_3]
      repeat (refine And.intro (by first | rfl | decide | omega) ?_)
      refine ⟨hC _ (z1), ?_⟩
      simp only [List.length_append]
      rfl
    show bk_X4_init_0 E ct_i4 X _ [some (.inr (.inr (.inl (G0.length + 0)))), some (.inr (.inr (.inl t)))] [] (G0 ++ [.inl (4, zfl 4)], M) (2, 52)
    simp only [bk_X4_init_0, k_X4_init_0, bk_X4_init_14, k_X4_init_14, ↓e_rk1, ↓e_rk0, ↓e_sk0, ↓e_sks, ↓e_ldi0, ↓e_ldis, ↓e_ldl0, ↓e_ldls, ↓e_lda0, ↓e_ldas, ↓e_ok0, ↓e_okss, ↓e_ok1i, ↓e_ok1r, ↓e_ok1n, ↓e_sti, ↓e_sta, ↓e_1, ↓e_2, ↓e_l1, ↓e_l2, ↓e_li, ↓e_sw0, ↓e_sws, ↓e_ceq, ↓e_cne, ↓e_clt, ↓e_cge, ↓e_cgt, ↓e_cle, ↓e_nil, ↓e_cons, ↓e_iconst, ↓e_bipush, ↓e_sipush, ↓e_ldc, ↓e_ldcw, ↓e_ldc2, ↓e_lconst, ↓e_iloadn, ↓e_iload, ↓e_lloadn, ↓e_lload, ↓e_aloadn, ↓e_aload, ↓e_istoren, ↓e_istore, ↓e_astoren, ↓e_astore, ↓e_add, ↓e_iinc, ↓e_iadd, ↓e_isub, ↓e_imul, ↓e_iand, ↓e_ior, ↓e_ixor, ↓e_ishl, ↓e_iushr, ↓e_idiv, ↓e_irem, ↓e_ineg, ↓e_i2l, ↓e_i2b, ↓e_i2s, ↓e_l2i, ↓e_land, ↓e_lor, ↓e_lshl, ↓e_lshr, ↓e_lushr, ↓e_lcmp, ↓e_dupi, ↓e_dupr, ↓e_popi, ↓e_dup2, ↓e_goto, ↓e_if, ↓e_icmp, ↓e_tsw, ↓e_lsw, ↓e_getf, ↓e_putf, ↓e_gets, ↓e_iald, ↓e_cald, ↓e_iast, ↓e_aald, ↓e_aast, ↓e_len, ↓e_copy, ↓e_abs, ↓e_max, ↓e_min, ↓e_iret, ↓e_aret, ↓e_vret, ↓e_is0, ↓e_is1, ↓e_is2, ↓e_is3, ↓e_is4, ↓e_iv1, ↓e_iv2, ↓e_iv3, ↓e_iv4, ↓e_iv5, ↓e_iv6, ↓rt_X4_init, ↓reduceIte, Nat.reduceAdd, Nat.reduceEqDiff, ↓zcl0, ↓zclv, List.map_nil, List.sum_nil, List.map_cons, List.sum_cons, zcat, true_and, and_true, Nat.reduceLeDiff, Nat.reduceAdd, eq_self, forall_const, e_ok0, e_okss, e_ok1i, e_ok1r, e_ok1n, zl_50, Int.reduceToNat, Int.reduceAdd, Int.reduceMul, Int.reduceSub, Int.reduceNeg, Int.reduceLT, Int.reduceLE, Int.reduceEq, not_false_eq_true, not_true_eq_false, false_implies, true_implies, implies_true, Int.reduceDiv, Int.reduceMod, zr8_zr, zr_zbo, z01_zbo, z01_0, z01_1, zbo_eq0, zup_eq, zup_o, zup_k, ne_eq, ↓q_new, ↓q_ob, ↓q_i1, ↓q_i2, ↓q_i5, ↓q_pf, ↓q_pi, Nat.reduceSub, ↓ct_i4_i5, zl_1, zl_2, zl_3]
    repeat (refine And.intro (by first | rfl | decide | omega) ?_)
    refine u_i5 (by decide) (fun _ => zro_self) (fun M2 z2 => J14 M2 ?_)
    exact Zvq.callN (n := 1) (m := 2) (v' := z00) ((Zvq.one (v := z00) (fun _ => rfl) h0)) z2 (fun j k hj => rfl)
def k_X8_init_0 : List ZI := [(.aload_n 0, 1, (0, [0], [])), (.invokespecial 3, 3, (0, [], [])), (.aload_n 0, 1, (0, [0], [])), (.new 9, 3, (0, [5], [])), (.dup, 1, (0, [], [])), (.bipush 40, 2, (0, [], [])), (.invokespecial 11, 3, (50, [40, 2, 1, 5], []))]
theorem ok_X8_init_0 : zOK cX8_init 8 true 1 k_X8_init_0 0 = true := zOK_by (by decide +kernel)
def k_X8_init_14 : List ZI := [(.putfield 14, 3, (2, [8, 0], [])), (.return_, 1, (0, [], []))]
theorem ok_X8_init_14 : zOK cX8_init 8 true 1 k_X8_init_14 14 = true := zOK_by (by decide +kernel)
def bk_X8_init_0 (E : ZE) (CT : Nat → ZC) (X : ZK) (Rt : ZR) (ls : ZL) (st : List ZV) (h : ZH) (b : ZB2) : Prop := zB E CT k_X8_init_0 0 ls st h b (fun t ls st h b => X t ls st h b) Rt
theorem bs_X8_init_0 {E : ZE} {CT : Nat → ZC} {X : ZK} {Rt : ZR} {ls : ZL} {st : List ZV} {h : ZH} {b : ZB2} (hX : zCl E mX8_init 8 true CT Rt X) (q : bk_X8_init_0 E CT X Rt ls st h b) : X 0 ls st h b := by
  refine hX k_X8_init_0 0 ok_X8_init_0 _ ?_ ls st h b q
  exact fun t ls st h b q => q
def bk_X8_init_14 (E : ZE) (CT : Nat → ZC) (X : ZK) (Rt : ZR) (ls : ZL) (st : List ZV) (h : ZH) (b : ZB2) : Prop := zB E CT k_X8_init_14 14 ls st h b (fun t ls st h b => X t ls st h b) Rt
theorem bs_X8_init_14 {E : ZE} {CT : Nat → ZC} {X : ZK} {Rt : ZR} {ls : ZL} {st : List ZV} {h : ZH} {b : ZB2} (hX : zCl E mX8_init 8 true CT Rt X) (q : bk_X8_init_14 E CT X Rt ls st h b) : X 14 ls st h b := by
  refine hX k_X8_init_14 14 ok_X8_init_14 _ ?_ ls st h b q
  exact fun t ls st h b q => q
-- X8_init: cuts [14]
theorem rt_X8_init {g : Nat} {post : Option ZV → ZH → Prop} {h : ZH} {b : ZB2} : zRt mX8_init g post none h b = (post none h ∧ h.1.length = g + 2) := by show (_ ∧ _ ∧ True) = _; simp
def LfX8 (o : Nat) : List ZG := [.inl (8, [some (some (o + 1)), none, none, none]), .inl (5, [some (some (o + 2)), none]), .inr (.inl 40)]
def C_i8 : ZC := fun as h post => match as with
  | [.inr (.inr (.inl o))] => ∃ G0 : List ZG, h.1 = G0 ++ [.inl (8, zfl 8)] ∧ o = G0.length ∧ (∀ k, h.2 o k = 0) ∧ ∀ M2 : ZMm, Zvq o 3 z00 h.2 M2 → post none (G0 ++ LfX8 o, M2)
  | _ => False
theorem u_i8 {G0 L : List ZG} {M : ZMm} {post : Option ZV → ZH → Prop} (h0 : ∀ k, M (G0.length + L.length) k = 0) (h : ∀ M2 : ZMm, Zvq (G0.length + L.length) 3 z00 M M2 → post none (G0 ++ (L ++ LfX8 (G0.length + L.length)), M2)) : C_i8 [.inr (.inr (.inl (G0.length + L.length)))] (G0 ++ (L ++ [.inl (8, zfl 8)]), M) post := by
  refine ⟨G0 ++ L, (List.append_assoc ..).symm, (List.length_append ..).symm, h0, fun M2 z => ?_⟩
  rw [List.append_assoc]
  exact h M2 z
def LqX8_init_14 (o : Nat) : List ZG := [.inl (8, [some none, none, none, none]), .inl (5, [some (some (o + 2)), none]), .inr (.inl 40)]
-- known: i8 X8_init 2 r:o
def ct_i8 : Nat → ZC := fun n => if n = 40 then C_i5 else fun _ _ _ => False
theorem ct_i8_i5 {as : List ZV} {h : ZH} {post : Option ZV → ZH → Prop} : ct_i8 40 as h post = C_i5 as h post := rfl
theorem c_i8 {E : ZE} {d : Nat} (hd : 2 ≤ d) : zMet E d mX8_init C_i8 := by
  refine zmet_of (o := 8) (ini := true) (CT := ct_i8) gd_X8_init rfl (fun _ => rfl) (by omega) ?_ ?_
  · intro n as h post hh
    unfold ct_i8 at hh
    by_cases c : n = 40
    · subst c; exact ⟨gd_X5_init, 1, by omega, c_i5 (by omega)⟩
    rw [if_neg c] at hh
    exact hh.elim
  intro as h post hC
  match as, hC with
  | [.inr (.inr (.inl o))], hC =>
    refine ⟨Nat.le_of_ble_eq_true rfl, fun X hX => bs_X8_init_0 hX ?_⟩
    obtain ⟨G, M⟩ := h
    obtain ⟨G0, hG, ho, h0, hC⟩ := hC
    dsimp only at hG h0 hC
    subst hG
    subst ho
    have J14 : ∀ M1 : ZMm, Zvq G0.length 3 z00 M M1 → X 14 [some (.inr (.inr (.inl (G0.length + 0))))] [.inr (.inr (.inl (G0.length + 1))), .inr (.inr (.inl (G0.length + 0)))] (G0 ++ LqX8_init_14 G0.length, M1) (0, 0) := by
      intro M1 z1
      refine bs_X8_init_14 hX ?_
      simp only [bk_X8_init_0, k_X8_init_0, bk_X8_init_14, k_X8_init_14, ↓e_rk1, ↓e_rk0, ↓e_sk0, ↓e_sks, ↓e_ldi0, ↓e_ldis, ↓e_ldl0, ↓e_ldls, ↓e_lda0, ↓e_ldas, ↓e_ok0, ↓e_okss, ↓e_ok1i, ↓e_ok1r, ↓e_ok1n, ↓e_sti, ↓e_sta, ↓e_1, ↓e_2, ↓e_l1, ↓e_l2, ↓e_li, ↓e_sw0, ↓e_sws, ↓e_ceq, ↓e_cne, ↓e_clt, ↓e_cge, ↓e_cgt, ↓e_cle, ↓e_nil, ↓e_cons, ↓e_iconst, ↓e_bipush, ↓e_sipush, ↓e_ldc, ↓e_ldcw, ↓e_ldc2, ↓e_lconst, ↓e_iloadn, ↓e_iload, ↓e_lloadn, ↓e_lload, ↓e_aloadn, ↓e_aload, ↓e_istoren, ↓e_istore, ↓e_astoren, ↓e_astore, ↓e_add, ↓e_iinc, ↓e_iadd, ↓e_isub, ↓e_imul, ↓e_iand, ↓e_ior, ↓e_ixor, ↓e_ishl, ↓e_iushr, ↓e_idiv, ↓e_irem, ↓e_ineg, ↓e_i2l, ↓e_i2b, ↓e_i2s, ↓e_l2i, ↓e_land, ↓e_lor, ↓e_lshl, ↓e_lshr, ↓e_lushr, ↓e_lcmp, ↓e_dupi, ↓e_dupr, ↓e_popi, ↓e_dup2, ↓e_goto, ↓e_if, ↓e_icmp, ↓e_tsw, ↓e_lsw, ↓e_getf, ↓e_putf, ↓e_gets, ↓e_iald, ↓e_cald, ↓e_iast, ↓e_aald, ↓e_aast, ↓e_len, ↓e_copy, ↓e_abs, ↓e_max, ↓e_min, ↓e_iret, ↓e_aret, ↓e_vret, ↓e_is0, ↓e_is1, ↓e_is2, ↓e_is3, ↓e_is4, ↓e_iv1, ↓e_iv2, ↓e_iv3, ↓e_iv4, ↓e_iv5, ↓e_iv6, ↓rt_X8_init, ↓reduceIte, Nat.reduceAdd, Nat.reduceEqDiff, ↓zcl0, ↓zclv, List.map_nil, List.sum_nil, List.map_cons, List.sum_cons, zcat, true_and, and_true, Nat.reduceLeDiff, Nat.reduceAdd, eq_self, forall_const, e_ok0, e_okss, e_ok1i, e_ok1r, e_ok1n, zl_40, Int.reduceToNat, Int.reduceAdd, Int.reduceMul, Int.reduceSub, Int.reduceNeg, Int.reduceLT, Int.reduceLE, Int.reduceEq, not_false_eq_true, not_true_eq_false, false_implies, true_implies, implies_true, Int.reduceDiv, Int.reduceMod, zr8_zr, zr_zbo, z01_zbo, z01_0, z01_1, zbo_eq0, zup_eq, zup_o, zup_k, ne_eq, ↓q_new, ↓q_ob, ↓q_i1, ↓q_i2, ↓q_i5, ↓q_pf, ↓q_pi, Nat.reduceSub, ↓ct_i8_i5, zl_1, zl_2, zl_3]
      repeat (refine And.intro (by first | rfl | decide | omega) ?_)
      refine ⟨hC _ (z1), ?_⟩
      simp only [List.length_append]
      rfl
    show bk_X8_init_0 E ct_i8 X _ [some (.inr (.inr (.inl (G0.length + 0))))] [] (G0 ++ [.inl (8, zfl 8)], M) (2, 52)
    simp only [bk_X8_init_0, k_X8_init_0, bk_X8_init_14, k_X8_init_14, ↓e_rk1, ↓e_rk0, ↓e_sk0, ↓e_sks, ↓e_ldi0, ↓e_ldis, ↓e_ldl0, ↓e_ldls, ↓e_lda0, ↓e_ldas, ↓e_ok0, ↓e_okss, ↓e_ok1i, ↓e_ok1r, ↓e_ok1n, ↓e_sti, ↓e_sta, ↓e_1, ↓e_2, ↓e_l1, ↓e_l2, ↓e_li, ↓e_sw0, ↓e_sws, ↓e_ceq, ↓e_cne, ↓e_clt, ↓e_cge, ↓e_cgt, ↓e_cle, ↓e_nil, ↓e_cons, ↓e_iconst, ↓e_bipush, ↓e_sipush, ↓e_ldc, ↓e_ldcw, ↓e_ldc2, ↓e_lconst, ↓e_iloadn, ↓e_iload, ↓e_lloadn, ↓e_lload, ↓e_aloadn, ↓e_aload, ↓e_istoren, ↓e_istore, ↓e_astoren, ↓e_astore, ↓e_add, ↓e_iinc, ↓e_iadd, ↓e_isub, ↓e_imul, ↓e_iand, ↓e_ior, ↓e_ixor, ↓e_ishl, ↓e_iushr, ↓e_idiv, ↓e_irem, ↓e_ineg, ↓e_i2l, ↓e_i2b, ↓e_i2s, ↓e_l2i, ↓e_land, ↓e_lor, ↓e_lshl, ↓e_lshr, ↓e_lushr, ↓e_lcmp, ↓e_dupi, ↓e_dupr, ↓e_popi, ↓e_dup2, ↓e_goto, ↓e_if, ↓e_icmp, ↓e_tsw, ↓e_lsw, ↓e_getf, ↓e_putf, ↓e_gets, ↓e_iald, ↓e_cald, ↓e_iast, ↓e_aald, ↓e_aast, ↓e_len, ↓e_copy, ↓e_abs, ↓e_max, ↓e_min, ↓e_iret, ↓e_aret, ↓e_vret, ↓e_is0, ↓e_is1, ↓e_is2, ↓e_is3, ↓e_is4, ↓e_iv1, ↓e_iv2, ↓e_iv3, ↓e_iv4, ↓e_iv5, ↓e_iv6, ↓rt_X8_init, ↓reduceIte, Nat.reduceAdd, Nat.reduceEqDiff, ↓zcl0, ↓zclv, List.map_nil, List.sum_nil, List.map_cons, List.sum_cons, zcat, true_and, and_true, Nat.reduceLeDiff, Nat.reduceAdd, eq_self, forall_const, e_ok0, e_okss, e_ok1i, e_ok1r, e_ok1n, zl_40, Int.reduceToNat, Int.reduceAdd, Int.reduceMul, Int.reduceSub, Int.reduceNeg, Int.reduceLT, Int.reduceLE, Int.reduceEq, not_false_eq_true, not_true_eq_false, false_implies, true_implies, implies_true, Int.reduceDiv, Int.reduceMod, zr8_zr, zr_zbo, z01_zbo, z01_0, z01_1, zbo_eq0, zup_eq, zup_o, zup_k, ne_eq, ↓q_new, ↓q_ob, ↓q_i1, ↓q_i2, ↓q_i5, ↓q_pf, ↓q_pi, Nat.reduceSub, ↓ct_i8_i5, zl_1, zl_2, zl_3]
    repeat (refine And.intro (by first | rfl | decide | omega) ?_)
    refine u_i5 (by decide) (fun _ => zro_self) (fun M2 z2 => J14 M2 ?_)
    exact Zvq.callN (n := 1) (m := 2) (v' := z00) ((Zvq.one (v := z00) (fun _ => rfl) h0)) z2 (fun j k hj => rfl)
def k_X1_init_0 : List ZI := [(.aload_n 0, 1, (0, [0], [])), (.invokespecial 3, 3, (0, [], [])), (.aload_n 0, 1, (0, [0], [])), (.iconst 4, 1, (0, [], [])), (.newarray .int, 2, (0, [], [])), (.putfield 9, 3, (2, [1, 4], [])), (.aload_n 0, 1, (0, [0], [])), (.aload_n 1, 1, (0, [1], [])), (.putfield 15, 3, (2, [1, 0], [])), (.aload_n 0, 1, (0, [0], [])), (.aload_n 2, 1, (0, [2], [])), (.putfield 19, 3, (2, [1, 1], [])), (.aload_n 0, 1, (0, [0], [])), (.aload_n 3, 1, (0, [3], [])), (.putfield 23, 3, (2, [1, 2], [])), (.aload_n 0, 1, (0, [0], [])), (.aload 4, 2, (0, [4], [])), (.putfield 27, 3, (2, [1, 3], [])), (.return_, 1, (0, [], []))]
theorem ok_X1_init_0 : zOK cX1_init 1 true 5 k_X1_init_0 0 = true := zOK_by (by decide +kernel)
def bk_X1_init_0 (E : ZE) (CT : Nat → ZC) (X : ZK) (Rt : ZR) (ls : ZL) (st : List ZV) (h : ZH) (b : ZB2) : Prop := zB E CT k_X1_init_0 0 ls st h b (fun t ls st h b => X t ls st h b) Rt
theorem bs_X1_init_0 {E : ZE} {CT : Nat → ZC} {X : ZK} {Rt : ZR} {ls : ZL} {st : List ZV} {h : ZH} {b : ZB2} (hX : zCl E mX1_init 1 true CT Rt X) (q : bk_X1_init_0 E CT X Rt ls st h b) : X 0 ls st h b := by
  refine hX k_X1_init_0 0 ok_X1_init_0 _ ?_ ls st h b q
  exact fun t ls st h b q => q
-- X1_init: cuts []
theorem rt_X1_init {g : Nat} {post : Option ZV → ZH → Prop} {h : ZH} {b : ZB2} : zRt mX1_init g post none h b = (post none h ∧ h.1.length = g + 1) := by show (_ ∧ _ ∧ True) = _; simp
def C_i1 : ZC := fun as h post => match as with
  | [.inr (.inr (.inl o)), .inr (.inr (.inl a)), .inr (.inr (.inl b)), .inr (.inr (.inl c)), .inr (.inr (.inl e))] => ∃ G0 L1 : List ZG, h.1 = G0 ++ (.inl (1, zfl 1) :: L1) ∧ o = G0.length ∧ ∀ M2 : ZMm, Zvq (G0.length + (L1.length + 1)) 1 z00 h.2 M2 → post none (G0 ++ (.inl (1, [some (some a), some (some b), some (some c), some (some e), some (some (G0.length + (L1.length + 1))), none, none, none, none, none]) :: (L1 ++ [.inr (.inl 4)])), M2)
  | _ => False
theorem u_i1 {a b c e : Nat} {G0 L L1 : List ZG} {M : ZMm} {post : Option ZV → ZH → Prop} (h : ∀ M2 : ZMm, Zvq (G0.length + (L.length + (L1.length + 1))) 1 z00 M M2 → post none (G0 ++ (L ++ (.inl (1, [some (some a), some (some b), some (some c), some (some e), some (some (G0.length + (L.length + (L1.length + 1)))), none, none, none, none, none]) :: (L1 ++ [.inr (.inl 4)]))), M2)) : C_i1 [.inr (.inr (.inl (G0.length + L.length))), .inr (.inr (.inl a)), .inr (.inr (.inl b)), .inr (.inr (.inl c)), .inr (.inr (.inl e))] (G0 ++ (L ++ (.inl (1, zfl 1) :: L1)), M) post := by
  refine ⟨G0 ++ L, L1, (List.append_assoc ..).symm, (List.length_append ..).symm, fun M2 z => ?_⟩
  have e9 : (G0 ++ L).length + (L1.length + 1) = G0.length + (L.length + (L1.length + 1)) := by rw [List.length_append]; omega
  rw [e9] at z ⊢
  rw [List.append_assoc]
  exact h M2 z
-- known: i1 X1_init 1 r:o
def ct_i1 : Nat → ZC := fun n => fun _ _ _ => False
theorem c_i1 {E : ZE} {d : Nat} (hd : 1 ≤ d) : zMet E d mX1_init C_i1 := by
  refine zmet_of (o := 1) (ini := true) (CT := ct_i1) gd_X1_init rfl (fun _ => rfl) (by omega) ?_ ?_
  · intro n as h post hh
    unfold ct_i1 at hh
    exact hh.elim
  intro as h post hC
  match as, hC with
  | [.inr (.inr (.inl o)), .inr (.inr (.inl a)), .inr (.inr (.inl b)), .inr (.inr (.inl c)), .inr (.inr (.inl e))], hC =>
    refine ⟨Nat.le_of_ble_eq_true rfl, fun X hX => bs_X1_init_0 hX ?_⟩
    obtain ⟨G, M⟩ := h
    obtain ⟨G0, L1, hG, ho, hD⟩ := hC
    dsimp only at hG hD
    subst hG
    subst ho
    show bk_X1_init_0 E ct_i1 X _ [some (.inr (.inr (.inl (G0.length + 0)))), some (.inr (.inr (.inl a))), some (.inr (.inr (.inl b))), some (.inr (.inr (.inl c))), some (.inr (.inr (.inl e)))] [] (G0 ++ (.inl (1, zfl 1) :: L1), M) (1, 4)
    simp only [bk_X1_init_0, k_X1_init_0, ↓e_rk1, ↓e_rk0, ↓e_sk0, ↓e_sks, ↓e_ldi0, ↓e_ldis, ↓e_ldl0, ↓e_ldls, ↓e_lda0, ↓e_ldas, ↓e_ok0, ↓e_okss, ↓e_ok1i, ↓e_ok1r, ↓e_ok1n, ↓e_sti, ↓e_sta, ↓e_1, ↓e_2, ↓e_l1, ↓e_l2, ↓e_li, ↓e_sw0, ↓e_sws, ↓e_ceq, ↓e_cne, ↓e_clt, ↓e_cge, ↓e_cgt, ↓e_cle, ↓e_nil, ↓e_cons, ↓e_iconst, ↓e_bipush, ↓e_sipush, ↓e_ldc, ↓e_ldcw, ↓e_ldc2, ↓e_lconst, ↓e_iloadn, ↓e_iload, ↓e_lloadn, ↓e_lload, ↓e_aloadn, ↓e_aload, ↓e_istoren, ↓e_istore, ↓e_astoren, ↓e_astore, ↓e_add, ↓e_iinc, ↓e_iadd, ↓e_isub, ↓e_imul, ↓e_iand, ↓e_ior, ↓e_ixor, ↓e_ishl, ↓e_iushr, ↓e_idiv, ↓e_irem, ↓e_ineg, ↓e_i2l, ↓e_i2b, ↓e_i2s, ↓e_l2i, ↓e_land, ↓e_lor, ↓e_lshl, ↓e_lshr, ↓e_lushr, ↓e_lcmp, ↓e_dupi, ↓e_dupr, ↓e_popi, ↓e_dup2, ↓e_goto, ↓e_if, ↓e_icmp, ↓e_tsw, ↓e_lsw, ↓e_getf, ↓e_putf, ↓e_gets, ↓e_iald, ↓e_cald, ↓e_iast, ↓e_aald, ↓e_aast, ↓e_len, ↓e_copy, ↓e_abs, ↓e_max, ↓e_min, ↓e_iret, ↓e_aret, ↓e_vret, ↓e_is0, ↓e_is1, ↓e_is2, ↓e_is3, ↓e_is4, ↓e_iv1, ↓e_iv2, ↓e_iv3, ↓e_iv4, ↓e_iv5, ↓e_iv6, ↓rt_X1_init, ↓reduceIte, Nat.reduceAdd, Nat.reduceEqDiff, ↓zcl0, ↓zclv, List.map_nil, List.sum_nil, List.map_cons, List.sum_cons, zcat, true_and, and_true, Nat.reduceLeDiff, Nat.reduceAdd, eq_self, forall_const, e_ok0, e_okss, e_ok1i, e_ok1r, e_ok1n, zl_4, Int.reduceToNat, Int.reduceAdd, Int.reduceMul, Int.reduceSub, Int.reduceNeg, Int.reduceLT, Int.reduceLE, Int.reduceEq, not_false_eq_true, not_true_eq_false, false_implies, true_implies, implies_true, Int.reduceDiv, Int.reduceMod, zr8_zr, zr_zbo, z01_zbo, z01_0, z01_1, zbo_eq0, zup_eq, zup_o, zup_k, ne_eq, ↓q_new, ↓q_ob, ↓q_i1, ↓q_i2, ↓q_i5, ↓q_pf, ↓q_pi, Nat.reduceSub, ↓q_na nn_4 (by decide)]
    repeat (refine And.intro (by first | rfl | decide | omega) ?_)
    refine ⟨hD _ ⟨fun x hx => zro_ne _ (by simp only [List.length_cons]; omega), fun j k hj => ?_⟩, ?_⟩
    · rw [show j = 0 by omega]; exact zro_self
    · simp only [List.length_append]
      show G0.length + (L1 ++ [_]).length.succ = G0.length + (L1.length + 1) + 1
      rw [List.length_append]
      rfl
