/-! THE CLASS: text -/
def k_X10_text_0 : List ZI := [(.iload_n 1, 1, (0, [1], [])), (.iconst 1, 1, (0, [], [])), (.invokestatic 92, 3, (0, [111, 2, 0, 10], [])), (.ifCond .eq 10, 3, (0, [15], []))]
theorem ok_X10_text_0 : zOK cX10_text 10 false 3 k_X10_text_0 0 = true := zOK_by (by decide +kernel)
def k_X10_text_8 : List ZI := [(.aload_n 0, 1, (0, [0], [])), (.ldc 96, 2, ((-1000000001), [], [])), (.invokevirtual 97, 3, (0, [110, 2, 0, 10], [])), (.ireturn, 1, (0, [], []))]
theorem ok_X10_text_8 : zOK cX10_text 10 false 3 k_X10_text_8 8 = true := zOK_by (by decide +kernel)
def k_X10_text_15 : List ZI := [(.aload_n 0, 1, (0, [0], [])), (.getfield 61, 3, (0, [10, 4], [])), (.iload_n 1, 1, (0, [1], [])), (.invokevirtual 177, 3, (0, [30, 2, 0, 4], [])), (.istore_n 2, 1, (0, [2], []))]
theorem ok_X10_text_15 : zOK cX10_text 10 false 3 k_X10_text_15 15 = true := zOK_by (by decide +kernel)
def k_X10_text_24 : List ZI := [(.aload_n 0, 1, (0, [0], [])), (.getfield 12, 3, (0, [10, 0], [])), (.getfield 54, 3, (0, [6, 4], [])), (.iconst 0, 1, (0, [], [])), (.putfield 171, 3, (0, [5, 1], [])), (.iload_n 2, 1, (0, [2], [])), (.iconst (-1), 1, (0, [], [])), (.if_icmp .eq 8, 3, (0, [45], []))]
theorem ok_X10_text_24 : zOK cX10_text 10 false 3 k_X10_text_24 24 = true := zOK_by (by decide +kernel)
def k_X10_text_40 : List ZI := [(.bipush (-10), 2, (0, [], [])), (.iload_n 2, 1, (0, [2], [])), (.isub, 1, (0, [], [])), (.ireturn, 1, (0, [], []))]
theorem ok_X10_text_40 : zOK cX10_text 10 false 3 k_X10_text_40 40 = true := zOK_by (by decide +kernel)
def k_X10_text_45 : List ZI := [(.aload_n 0, 1, (0, [0], [])), (.getfield 12, 3, (0, [10, 0], [])), (.iload_n 1, 1, (0, [1], [])), (.invokevirtual 180, 3, (0, [44, 2, 0, 6], [])), (.getfield 184, 3, (0, [3, 0], [])), (.aload_n 0, 1, (0, [0], [])), (.getfield 61, 3, (0, [10, 4], [])), (.getfield 189, 3, (0, [4, 0], [])), (.invokevirtual 190, 3, (0, [42, 2, 0, 5], [])), (.iconst 1, 1, (0, [], [])), (.ireturn, 1, (0, [], []))]
theorem ok_X10_text_45 : zOK cX10_text 10 false 3 k_X10_text_45 45 = true := zOK_by (by decide +kernel)
theorem rt_X10_text {g : Nat} {post : Option ZV → ZH → Prop} {h : ZH} {b : ZB2} {z : Int} : zRt mX10_text g post (some (.inl z)) h b = (post (some (.inl z)) h ∧ h.1.length = g) := by show (_ ∧ _ ∧ True) = _; simp
def bk_X10_text_0 (E : ZE) (CT : Nat → ZC) (X : ZK) (Rt : ZR) (ls : ZL) (st : List ZV) (h : ZH) (b : ZB2) : Prop := zB E CT k_X10_text_0 0 ls st h b (fun t ls st h b => X t ls st h b) Rt
theorem bs_X10_text_0 {E : ZE} {CT : Nat → ZC} {X : ZK} {Rt : ZR} {ls : ZL} {st : List ZV} {h : ZH} {b : ZB2} (hX : zCl E mX10_text 10 false CT Rt X) (q : bk_X10_text_0 E CT X Rt ls st h b) : X 0 ls st h b := by
  refine hX k_X10_text_0 0 ok_X10_text_0 _ ?_ ls st h b q
  exact fun t ls st h b q => q
def bk_X10_text_8 (E : ZE) (CT : Nat → ZC) (X : ZK) (Rt : ZR) (ls : ZL) (st : List ZV) (h : ZH) (b : ZB2) : Prop := zB E CT k_X10_text_8 8 ls st h b (fun t ls st h b => X t ls st h b) Rt
theorem bs_X10_text_8 {E : ZE} {CT : Nat → ZC} {X : ZK} {Rt : ZR} {ls : ZL} {st : List ZV} {h : ZH} {b : ZB2} (hX : zCl E mX10_text 10 false CT Rt X) (q : bk_X10_text_8 E CT X Rt ls st h b) : X 8 ls st h b := by
  refine hX k_X10_text_8 8 ok_X10_text_8 _ ?_ ls st h b q
  exact fun t ls st h b q => q
def bk_X10_text_15 (E : ZE) (CT : Nat → ZC) (X : ZK) (Rt : ZR) (ls : ZL) (st : List ZV) (h : ZH) (b : ZB2) : Prop := zB E CT k_X10_text_15 15 ls st h b (fun t ls st h b => X t ls st h b) Rt
theorem bs_X10_text_15 {E : ZE} {CT : Nat → ZC} {X : ZK} {Rt : ZR} {ls : ZL} {st : List ZV} {h : ZH} {b : ZB2} (hX : zCl E mX10_text 10 false CT Rt X) (q : bk_X10_text_15 E CT X Rt ls st h b) : X 15 ls st h b := by
  refine hX k_X10_text_15 15 ok_X10_text_15 _ ?_ ls st h b q
  exact fun t ls st h b q => q
def bk_X10_text_24 (E : ZE) (CT : Nat → ZC) (X : ZK) (Rt : ZR) (ls : ZL) (st : List ZV) (h : ZH) (b : ZB2) : Prop := zB E CT k_X10_text_24 24 ls st h b (fun t ls st h b => X t ls st h b) Rt
theorem bs_X10_text_24 {E : ZE} {CT : Nat → ZC} {X : ZK} {Rt : ZR} {ls : ZL} {st : List ZV} {h : ZH} {b : ZB2} (hX : zCl E mX10_text 10 false CT Rt X) (q : bk_X10_text_24 E CT X Rt ls st h b) : X 24 ls st h b := by
  refine hX k_X10_text_24 24 ok_X10_text_24 _ ?_ ls st h b q
  exact fun t ls st h b q => q
def bk_X10_text_40 (E : ZE) (CT : Nat → ZC) (X : ZK) (Rt : ZR) (ls : ZL) (st : List ZV) (h : ZH) (b : ZB2) : Prop := zB E CT k_X10_text_40 40 ls st h b (fun t ls st h b => X t ls st h b) Rt
theorem bs_X10_text_40 {E : ZE} {CT : Nat → ZC} {X : ZK} {Rt : ZR} {ls : ZL} {st : List ZV} {h : ZH} {b : ZB2} (hX : zCl E mX10_text 10 false CT Rt X) (q : bk_X10_text_40 E CT X Rt ls st h b) : X 40 ls st h b := by
  refine hX k_X10_text_40 40 ok_X10_text_40 _ ?_ ls st h b q
  exact fun t ls st h b q => q
def bk_X10_text_45 (E : ZE) (CT : Nat → ZC) (X : ZK) (Rt : ZR) (ls : ZL) (st : List ZV) (h : ZH) (b : ZB2) : Prop := zB E CT k_X10_text_45 45 ls st h b (fun t ls st h b => X t ls st h b) Rt
theorem bs_X10_text_45 {E : ZE} {CT : Nat → ZC} {X : ZK} {Rt : ZR} {ls : ZL} {st : List ZV} {h : ZH} {b : ZB2} (hX : zCl E mX10_text 10 false CT Rt X) (q : bk_X10_text_45 E CT X Rt ls st h b) : X 45 ls st h b := by
  refine hX k_X10_text_45 45 ok_X10_text_45 _ ?_ ls st h b q
  exact fun t ls st h b q => q
-- X10_text: cuts [8, 15, 24, 40, 45]
def B_xtext9 (r : Nat) (u : Int) (M : Nat → Nat → Int) (post : Option ZV → (Nat → Nat → Int) → Prop) : Prop := rg u ∧ ∃ S : ZMm, Vs S ∧ Rc S M ∧ cp M (R_text S u) post
def C_xtext9 (r : Nat) : ZC := fun as h post => match as with
  | [.inr (.inr (.inl 0)), .inl u] => h.1 = zG ∧ B_xtext9 r u h.2 (fun v M => post v (zG, M))
  | _ => False
theorem r_xtext9 {r : Nat} {u : Int} {M : Nat → Nat → Int} {post : Option ZV → ZH → Prop} : C_xtext9 r [.inr (.inr (.inl 0)), .inl u] (zG, M) post = B_xtext9 r u M (fun v M => post v (zG, M)) := by show (zG = zG ∧ _) = _; simp
def ct_xtext9 (r : Nat) : Nat → ZC := fun n => if n = 111 then C_cbey else if n = 110 then C_cfail else if n = 44 then C_slaw else if n = 42 then C_rcpy else if n = 30 then C_red (0) else fun _ _ _ => False
theorem ct_xtext9_cbey {r : Nat} {as : List ZV} {h : ZH} {post : Option ZV → ZH → Prop} : ct_xtext9 r 111 as h post = C_cbey as h post := rfl
theorem ct_xtext9_cfail {r : Nat} {as : List ZV} {h : ZH} {post : Option ZV → ZH → Prop} : ct_xtext9 r 110 as h post = C_cfail as h post := rfl
theorem ct_xtext9_slaw {r : Nat} {as : List ZV} {h : ZH} {post : Option ZV → ZH → Prop} : ct_xtext9 r 44 as h post = C_slaw as h post := rfl
theorem ct_xtext9_rcpy {r : Nat} {as : List ZV} {h : ZH} {post : Option ZV → ZH → Prop} : ct_xtext9 r 42 as h post = C_rcpy as h post := rfl
theorem ct_xtext9_red {r : Nat} {as : List ZV} {h : ZH} {post : Option ZV → ZH → Prop} : ct_xtext9 r 30 as h post = C_red (0) as h post := rfl
theorem c_xtext9 {E : ZE} {d : Nat} {r : Nat} (hd : 2 ≤ d) (i_red : ∃ d', d' < d ∧ zMet E d' mX4_read (C_red (0))) : zMet E d mX10_text (C_xtext9 (r)) := by
  refine zmet_of (o := 10) (ini := false) (CT := ct_xtext9 r) gd_X10_text rfl (fun h => by cases h) (by omega) ?_ ?_
  · intro n as h post hh
    unfold ct_xtext9 at hh
    by_cases c : n = 111
    · subst c; exact ⟨gd_X10_isBeyond, 1, by omega, c_cbey (by omega)⟩
    rw [if_neg c] at hh
    by_cases c : n = 110
    · subst c; exact ⟨gd_X10_failed, 1, by omega, c_cfail (by omega)⟩
    rw [if_neg c] at hh
    by_cases c : n = 44
    · subst c; exact ⟨gd_X6_lawOf, 1, by omega, c_slaw (by omega)⟩
    rw [if_neg c] at hh
    by_cases c : n = 42
    · subst c; exact ⟨gd_X5_copyFrom, 1, by omega, c_rcpy (by omega)⟩
    rw [if_neg c] at hh
    by_cases c : n = 30
    · subst c; exact ⟨gd_X4_read, i_red⟩
    rw [if_neg c] at hh
    exact hh.elim
  intro as h post hC
  match as, hC with
  | [.inr (.inr (.inl 0)), .inl u], hC =>
    refine ⟨Nat.le_of_ble_eq_true rfl, fun X hX => bs_X10_text_0 hX ?_⟩
    obtain ⟨G, M⟩ := h
    obtain ⟨hG, hC⟩ := hC
    dsimp only at hG
    subst hG
    simp only [B_xtext9] at hC
    show bk_X10_text_0 E (ct_xtext9 r) X _ [some (.inr (.inr (.inl 0))), some (.inl u), none] [] (zG, M) (0, 0)
    obtain ⟨h1, S, vs9, H, hC⟩ := hC
    have vd : Vd (S 88) := vs9.1
    have n9 := H.1
    have v4 := vd.2.2.2.1
    have v9 := Vd_l vd
    have tp := n9.2.2.2.2.1
    have zu : zr u = u := zr_rg h1
    have J8 : ¬ (0 ≤ u ∧ u ≤ 1) → X 8 [some (.inr (.inr (.inl 0))), some (.inl u), none] [] (zG, M) (0, 0) := by
      intro q
      refine bs_X10_text_8 hX ?_
      simp only [bk_X10_text_0, k_X10_text_0, bk_X10_text_8, k_X10_text_8, bk_X10_text_15, k_X10_text_15, bk_X10_text_24, k_X10_text_24, bk_X10_text_40, k_X10_text_40, bk_X10_text_45, k_X10_text_45, ↓e_rk1, ↓e_rk0, ↓e_sk0, ↓e_sks, ↓e_ldi0, ↓e_ldis, ↓e_ldl0, ↓e_ldls, ↓e_lda0, ↓e_ldas, ↓e_ok0, ↓e_okss, ↓e_ok1i, ↓e_ok1r, ↓e_ok1n, ↓e_sti, ↓e_sta, ↓e_1, ↓e_2, ↓e_l1, ↓e_l2, ↓e_li, ↓e_sw0, ↓e_sws, ↓e_ceq, ↓e_cne, ↓e_clt, ↓e_cge, ↓e_cgt, ↓e_cle, ↓e_nil, ↓e_cons, ↓e_iconst, ↓e_bipush, ↓e_sipush, ↓e_ldc, ↓e_ldcw, ↓e_ldc2, ↓e_lconst, ↓e_iloadn, ↓e_iload, ↓e_lloadn, ↓e_lload, ↓e_aloadn, ↓e_aload, ↓e_istoren, ↓e_istore, ↓e_astoren, ↓e_astore, ↓e_add, ↓e_iinc, ↓e_iadd, ↓e_isub, ↓e_imul, ↓e_iand, ↓e_ior, ↓e_ixor, ↓e_ishl, ↓e_iushr, ↓e_idiv, ↓e_irem, ↓e_ineg, ↓e_i2l, ↓e_i2b, ↓e_i2s, ↓e_l2i, ↓e_land, ↓e_lor, ↓e_lshl, ↓e_lshr, ↓e_lushr, ↓e_lcmp, ↓e_dupi, ↓e_dupr, ↓e_popi, ↓e_dup2, ↓e_goto, ↓e_if, ↓e_icmp, ↓e_tsw, ↓e_lsw, ↓e_getf, ↓e_putf, ↓e_gets, ↓e_iald, ↓e_cald, ↓e_iast, ↓e_aald, ↓e_aast, ↓e_len, ↓e_copy, ↓e_abs, ↓e_max, ↓e_min, ↓e_iret, ↓e_aret, ↓e_vret, ↓e_is0, ↓e_is1, ↓e_is2, ↓e_is3, ↓e_is4, ↓e_iv1, ↓e_iv2, ↓e_iv3, ↓e_iv4, ↓e_iv5, ↓e_iv6, ↓rt_X10_text, ↓reduceIte, Nat.reduceAdd, Nat.reduceEqDiff, ↓zcl0, ↓zclv, List.map_nil, List.sum_nil, List.map_cons, List.sum_cons, zcat, true_and, and_true, Nat.reduceLeDiff, Nat.reduceAdd, eq_self, forall_const, e_ok0, e_okss, e_ok1i, e_ok1r, e_ok1n, zl_m1000000001, zl_m10, zl_m1, zl_0, zl_1, Int.reduceToNat, Int.reduceAdd, Int.reduceMul, Int.reduceSub, Int.reduceNeg, Int.reduceLT, Int.reduceLE, Int.reduceEq, not_false_eq_true, not_true_eq_false, false_implies, true_implies, implies_true, Int.reduceDiv, Int.reduceMod, zr8_zr, zr_zbo, z01_zbo, z01_0, z01_1, zbo_eq0, zup_eq, zup_o, zup_k, ne_eq, ↓ct_xtext9_cbey, ↓r_cbey, ↓B_cbey, ↓ct_xtext9_cfail, ↓r_cfail, ↓B_cfail, ↓ct_xtext9_slaw, ↓r_slaw, ↓B_slaw, ↓ct_xtext9_rcpy, ↓r_rcpy, ↓B_rcpy, ↓ct_xtext9_red, ↓r_red, ↓B_red, ↓v_0, ↓g_0_0, ↓g_0_1, ↓g_0_2, ↓g_0_3, ↓g_0_4, ↓g_0_5, ↓g_0_6, ↓g_0_7, ↓g_0_8, ↓l_78, ↓s_78, ↓n_78, ↓g_0_9, ↓p_0_9]
      exact ⟨1, by omega, by omega, cp_no hC H vd (by omega) (by unfold R_text; rw [if_neg q]) rfl⟩
    have J15 : (0 ≤ u ∧ u ≤ 1) → X 15 [some (.inr (.inr (.inl 0))), some (.inl u), none] [] (zG, M) (0, 0) := by
      intro q
      have uu : u = 0 ∨ u = 1 := by omega
      refine bs_X10_text_15 hX ?_
      simp only [bk_X10_text_0, k_X10_text_0, bk_X10_text_8, k_X10_text_8, bk_X10_text_15, k_X10_text_15, bk_X10_text_24, k_X10_text_24, bk_X10_text_40, k_X10_text_40, bk_X10_text_45, k_X10_text_45, ↓e_rk1, ↓e_rk0, ↓e_sk0, ↓e_sks, ↓e_ldi0, ↓e_ldis, ↓e_ldl0, ↓e_ldls, ↓e_lda0, ↓e_ldas, ↓e_ok0, ↓e_okss, ↓e_ok1i, ↓e_ok1r, ↓e_ok1n, ↓e_sti, ↓e_sta, ↓e_1, ↓e_2, ↓e_l1, ↓e_l2, ↓e_li, ↓e_sw0, ↓e_sws, ↓e_ceq, ↓e_cne, ↓e_clt, ↓e_cge, ↓e_cgt, ↓e_cle, ↓e_nil, ↓e_cons, ↓e_iconst, ↓e_bipush, ↓e_sipush, ↓e_ldc, ↓e_ldcw, ↓e_ldc2, ↓e_lconst, ↓e_iloadn, ↓e_iload, ↓e_lloadn, ↓e_lload, ↓e_aloadn, ↓e_aload, ↓e_istoren, ↓e_istore, ↓e_astoren, ↓e_astore, ↓e_add, ↓e_iinc, ↓e_iadd, ↓e_isub, ↓e_imul, ↓e_iand, ↓e_ior, ↓e_ixor, ↓e_ishl, ↓e_iushr, ↓e_idiv, ↓e_irem, ↓e_ineg, ↓e_i2l, ↓e_i2b, ↓e_i2s, ↓e_l2i, ↓e_land, ↓e_lor, ↓e_lshl, ↓e_lshr, ↓e_lushr, ↓e_lcmp, ↓e_dupi, ↓e_dupr, ↓e_popi, ↓e_dup2, ↓e_goto, ↓e_if, ↓e_icmp, ↓e_tsw, ↓e_lsw, ↓e_getf, ↓e_putf, ↓e_gets, ↓e_iald, ↓e_cald, ↓e_iast, ↓e_aald, ↓e_aast, ↓e_len, ↓e_copy, ↓e_abs, ↓e_max, ↓e_min, ↓e_iret, ↓e_aret, ↓e_vret, ↓e_is0, ↓e_is1, ↓e_is2, ↓e_is3, ↓e_is4, ↓e_iv1, ↓e_iv2, ↓e_iv3, ↓e_iv4, ↓e_iv5, ↓e_iv6, ↓rt_X10_text, ↓reduceIte, Nat.reduceAdd, Nat.reduceEqDiff, ↓zcl0, ↓zclv, List.map_nil, List.sum_nil, List.map_cons, List.sum_cons, zcat, true_and, and_true, Nat.reduceLeDiff, Nat.reduceAdd, eq_self, forall_const, e_ok0, e_okss, e_ok1i, e_ok1r, e_ok1n, zl_m1000000001, zl_m10, zl_m1, zl_0, zl_1, Int.reduceToNat, Int.reduceAdd, Int.reduceMul, Int.reduceSub, Int.reduceNeg, Int.reduceLT, Int.reduceLE, Int.reduceEq, not_false_eq_true, not_true_eq_false, false_implies, true_implies, implies_true, Int.reduceDiv, Int.reduceMod, zr8_zr, zr_zbo, z01_zbo, z01_0, z01_1, zbo_eq0, zup_eq, zup_o, zup_k, ne_eq, ↓ct_xtext9_cbey, ↓r_cbey, ↓B_cbey, ↓ct_xtext9_cfail, ↓r_cfail, ↓B_cfail, ↓ct_xtext9_slaw, ↓r_slaw, ↓B_slaw, ↓ct_xtext9_rcpy, ↓r_rcpy, ↓B_rcpy, ↓ct_xtext9_red, ↓r_red, ↓B_red, ↓v_0, ↓g_0_0, ↓g_0_1, ↓g_0_2, ↓g_0_3, ↓g_0_4, ↓g_0_5, ↓g_0_6, ↓g_0_7, ↓g_0_8, ↓l_78, ↓s_78, ↓n_78, ↓g_0_9, ↓p_0_9, ↓v_67, ↓g_67_0, ↓g_67_1, ↓g_67_2, ↓p_67_2, ↓g_67_3, ↓p_67_3, ↓g_67_4, ↓p_67_4]
      refine ⟨uu, fun k => S 88 (308 + k), (S 88 4).toNat, by omega, by rw [tp.1]; omega, fun k hk => ⟨tp.2 k (by omega), vs9.2.2.2.2.2.2.2.2.2.2.1 (308 + k) (by omega) (by omega)⟩, fun M2 a b => ?_⟩
      have a' : Rd (fun k => S 88 (308 + k)) (S 88 4).toNat u M2 (tpr S u) := a
      have eb : ∀ x, x < 67 ∨ 69 < x → M2 x = M x := fun x p => b x (by omega) (by omega) (by omega)
      obtain ⟨w, hw⟩ : ∃ w, (tpr S u).2.1 = w := ⟨_, rfl⟩
      have o9 := a'.2.2.2.1
      unfold okS at o9
      rw [hw] at o9
      show X 24 [some (.inr (.inr (.inl 0))), some (.inl u), some (.inl ((tpr S u).2.1))] [] (zG, M2) (0, 0)
      rw [hw]
      have zw : zr w = w := zr_of (by omega) (by omega)
      obtain ⟨M3, hM3⟩ : ∃ M3, zup M2 22 1 0 = M3 := ⟨_, rfl⟩
      have e22 : M3 22 1 = 0 := by rw [← hM3]; simp [zup]
      have e3 : ∀ x, ¬ x = 22 → M3 x = M2 x := fun x p => by rw [← hM3, zup_ne _ p]
      have J40 : 0 ≤ w → X 40 [some (.inr (.inr (.inl 0))), some (.inl u), some (.inl w)] [] (zG, M3) (0, 0) := by
        intro l
        refine bs_X10_text_40 hX ?_
        have z1 : zr (-10 - w) = -10 - w := zr_of (by omega) (by omega)
        simp only [bk_X10_text_0, k_X10_text_0, bk_X10_text_8, k_X10_text_8, bk_X10_text_15, k_X10_text_15, bk_X10_text_24, k_X10_text_24, bk_X10_text_40, k_X10_text_40, bk_X10_text_45, k_X10_text_45, ↓e_rk1, ↓e_rk0, ↓e_sk0, ↓e_sks, ↓e_ldi0, ↓e_ldis, ↓e_ldl0, ↓e_ldls, ↓e_lda0, ↓e_ldas, ↓e_ok0, ↓e_okss, ↓e_ok1i, ↓e_ok1r, ↓e_ok1n, ↓e_sti, ↓e_sta, ↓e_1, ↓e_2, ↓e_l1, ↓e_l2, ↓e_li, ↓e_sw0, ↓e_sws, ↓e_ceq, ↓e_cne, ↓e_clt, ↓e_cge, ↓e_cgt, ↓e_cle, ↓e_nil, ↓e_cons, ↓e_iconst, ↓e_bipush, ↓e_sipush, ↓e_ldc, ↓e_ldcw, ↓e_ldc2, ↓e_lconst, ↓e_iloadn, ↓e_iload, ↓e_lloadn, ↓e_lload, ↓e_aloadn, ↓e_aload, ↓e_istoren, ↓e_istore, ↓e_astoren, ↓e_astore, ↓e_add, ↓e_iinc, ↓e_iadd, ↓e_isub, ↓e_imul, ↓e_iand, ↓e_ior, ↓e_ixor, ↓e_ishl, ↓e_iushr, ↓e_idiv, ↓e_irem, ↓e_ineg, ↓e_i2l, ↓e_i2b, ↓e_i2s, ↓e_l2i, ↓e_land, ↓e_lor, ↓e_lshl, ↓e_lshr, ↓e_lushr, ↓e_lcmp, ↓e_dupi, ↓e_dupr, ↓e_popi, ↓e_dup2, ↓e_goto, ↓e_if, ↓e_icmp, ↓e_tsw, ↓e_lsw, ↓e_getf, ↓e_putf, ↓e_gets, ↓e_iald, ↓e_cald, ↓e_iast, ↓e_aald, ↓e_aast, ↓e_len, ↓e_copy, ↓e_abs, ↓e_max, ↓e_min, ↓e_iret, ↓e_aret, ↓e_vret, ↓e_is0, ↓e_is1, ↓e_is2, ↓e_is3, ↓e_is4, ↓e_iv1, ↓e_iv2, ↓e_iv3, ↓e_iv4, ↓e_iv5, ↓e_iv6, ↓rt_X10_text, ↓reduceIte, Nat.reduceAdd, Nat.reduceEqDiff, ↓zcl0, ↓zclv, List.map_nil, List.sum_nil, List.map_cons, List.sum_cons, zcat, true_and, and_true, Nat.reduceLeDiff, Nat.reduceAdd, eq_self, forall_const, e_ok0, e_okss, e_ok1i, e_ok1r, e_ok1n, zl_m1000000001, zl_m10, zl_m1, zl_0, zl_1, Int.reduceToNat, Int.reduceAdd, Int.reduceMul, Int.reduceSub, Int.reduceNeg, Int.reduceLT, Int.reduceLE, Int.reduceEq, not_false_eq_true, not_true_eq_false, false_implies, true_implies, implies_true, Int.reduceDiv, Int.reduceMod, zr8_zr, zr_zbo, z01_zbo, z01_0, z01_1, zbo_eq0, zup_eq, zup_o, zup_k, ne_eq, ↓ct_xtext9_cbey, ↓r_cbey, ↓B_cbey, ↓ct_xtext9_cfail, ↓r_cfail, ↓B_cfail, ↓ct_xtext9_slaw, ↓r_slaw, ↓B_slaw, ↓ct_xtext9_rcpy, ↓r_rcpy, ↓B_rcpy, ↓ct_xtext9_red, ↓r_red, ↓B_red, ↓v_0, ↓g_0_0, ↓g_0_1, ↓g_0_2, ↓g_0_3, ↓g_0_4, ↓g_0_5, ↓g_0_6, ↓g_0_7, ↓g_0_8, ↓l_78, ↓s_78, ↓n_78, ↓g_0_9, ↓p_0_9]
        refine cp_now hC H (f := up1 (S 88) 4 0) ?_ (SRn_tx0 n9 v9.1 v9.2.2 (fun x p p2 => by rw [e3 x p2, eb x (by omega)]) e22) (fun x p => by rw [e3 x (by omega), eb x (by omega)])
        unfold R_text
        rw [if_pos q, hw, if_neg (by omega)]
      have J45 : w < 0 → X 45 [some (.inr (.inr (.inl 0))), some (.inl u), some (.inl w)] [] (zG, M3) (0, 0) := by
        intro l
        refine bs_X10_text_45 hX ?_
        have c9 := a'.2.2.2.2.2 (by rw [hw]; exact l)
        have z9 := a'.2.2.2.2.1
        have ln : (M3 68 1).toNat = (tpr S u).2.2.length := by rw [e3 68 (by decide), ← c9, List.length_map, List.length_range]
        have er : R_text S u = (1, r88 S (txd (S 88) u (tpr S u).2.2)) := by
          unfold R_text
          rw [if_pos q, hw, if_pos l]
        have z68 : 0 ≤ M3 68 1 := by rw [e3 68 (by decide)]; exact z9.1
        have gd : ∀ k : Nat, (k : Int) < M3 68 1 → M3 69 k = (tpr S u).2.2.getD k 0 := by
          intro k hk
          rw [e3 68 (by decide)] at hk
          rw [e3 69 (by decide), ← c9, List.getD_eq_getElem?_getD, List.getElem?_map, List.getElem?_range (by omega)]
          rfl
        rcases uu with e | e
        · subst e
          simp only [bk_X10_text_0, k_X10_text_0, bk_X10_text_8, k_X10_text_8, bk_X10_text_15, k_X10_text_15, bk_X10_text_24, k_X10_text_24, bk_X10_text_40, k_X10_text_40, bk_X10_text_45, k_X10_text_45, ↓e_rk1, ↓e_rk0, ↓e_sk0, ↓e_sks, ↓e_ldi0, ↓e_ldis, ↓e_ldl0, ↓e_ldls, ↓e_lda0, ↓e_ldas, ↓e_ok0, ↓e_okss, ↓e_ok1i, ↓e_ok1r, ↓e_ok1n, ↓e_sti, ↓e_sta, ↓e_1, ↓e_2, ↓e_l1, ↓e_l2, ↓e_li, ↓e_sw0, ↓e_sws, ↓e_ceq, ↓e_cne, ↓e_clt, ↓e_cge, ↓e_cgt, ↓e_cle, ↓e_nil, ↓e_cons, ↓e_iconst, ↓e_bipush, ↓e_sipush, ↓e_ldc, ↓e_ldcw, ↓e_ldc2, ↓e_lconst, ↓e_iloadn, ↓e_iload, ↓e_lloadn, ↓e_lload, ↓e_aloadn, ↓e_aload, ↓e_istoren, ↓e_istore, ↓e_astoren, ↓e_astore, ↓e_add, ↓e_iinc, ↓e_iadd, ↓e_isub, ↓e_imul, ↓e_iand, ↓e_ior, ↓e_ixor, ↓e_ishl, ↓e_iushr, ↓e_idiv, ↓e_irem, ↓e_ineg, ↓e_i2l, ↓e_i2b, ↓e_i2s, ↓e_l2i, ↓e_land, ↓e_lor, ↓e_lshl, ↓e_lshr, ↓e_lushr, ↓e_lcmp, ↓e_dupi, ↓e_dupr, ↓e_popi, ↓e_dup2, ↓e_goto, ↓e_if, ↓e_icmp, ↓e_tsw, ↓e_lsw, ↓e_getf, ↓e_putf, ↓e_gets, ↓e_iald, ↓e_cald, ↓e_iast, ↓e_aald, ↓e_aast, ↓e_len, ↓e_copy, ↓e_abs, ↓e_max, ↓e_min, ↓e_iret, ↓e_aret, ↓e_vret, ↓e_is0, ↓e_is1, ↓e_is2, ↓e_is3, ↓e_is4, ↓e_iv1, ↓e_iv2, ↓e_iv3, ↓e_iv4, ↓e_iv5, ↓e_iv6, ↓rt_X10_text, ↓reduceIte, Nat.reduceAdd, Nat.reduceEqDiff, ↓zcl0, ↓zclv, List.map_nil, List.sum_nil, List.map_cons, List.sum_cons, zcat, true_and, and_true, Nat.reduceLeDiff, Nat.reduceAdd, eq_self, forall_const, e_ok0, e_okss, e_ok1i, e_ok1r, e_ok1n, zl_m1000000001, zl_m10, zl_m1, zl_0, zl_1, Int.reduceToNat, Int.reduceAdd, Int.reduceMul, Int.reduceSub, Int.reduceNeg, Int.reduceLT, Int.reduceLE, Int.reduceEq, not_false_eq_true, not_true_eq_false, false_implies, true_implies, implies_true, Int.reduceDiv, Int.reduceMod, zr8_zr, zr_zbo, z01_zbo, z01_0, z01_1, zbo_eq0, zup_eq, zup_o, zup_k, ne_eq, ↓ct_xtext9_cbey, ↓r_cbey, ↓B_cbey, ↓ct_xtext9_cfail, ↓r_cfail, ↓B_cfail, ↓ct_xtext9_slaw, ↓r_slaw, ↓B_slaw, ↓ct_xtext9_rcpy, ↓r_rcpy, ↓B_rcpy, ↓ct_xtext9_red, ↓r_red, ↓B_red, ↓v_0, ↓g_0_0, ↓g_0_1, ↓g_0_2, ↓g_0_3, ↓g_0_4, ↓g_0_5, ↓g_0_6, ↓g_0_7, ↓g_0_8, ↓l_78, ↓s_78, ↓n_78, ↓g_0_9, ↓p_0_9, ↓v_1, ↓g_1_0, ↓g_1_1, ↓g_1_2, ↓g_1_3, ↓g_1_4, ↓g_1_5, ↓g_1_6, ↓p_1_6, ↓v_14, ↓g_14_0, ↓g_14_1, ↓l_17, ↓s_17, ↓n_17, ↓v_15, ↓g_15_0, ↓l_16, ↓s_16, ↓n_16, ↓g_15_1, ↓p_15_1, ↓v_67, ↓g_67_0, ↓g_67_1, ↓g_67_2, ↓p_67_2, ↓g_67_3, ↓p_67_3, ↓g_67_4, ↓p_67_4]
          refine ⟨⟨by omega, by omega⟩, 50, Or.inl ⟨rfl, rfl⟩, r68, by omega, by omega, ⟨z68, by omega⟩, fun M4 g1 g2 g3 => ?_⟩
          refine cp_now hC H er (SRn_tx1 (a := 15) (b := 19) (Or.inl ⟨rfl, rfl, rfl⟩) (by omega) n9 v9.1 v9.2.2 (fun x p p2 p3 p4 => by rw [g3 x p3 p4, e3 x p2, eb x (by omega)]) (by rw [g3 22 (by decide) (by decide)]; exact e22) (by rw [g1]; omega) (fun k hk => by rw [g2 k (by omega)]; exact gd k (by omega))) (fun x p => by rw [g3 x (by omega) (by omega), e3 x (by omega), eb x (by omega)])
        · subst e
          simp only [bk_X10_text_0, k_X10_text_0, bk_X10_text_8, k_X10_text_8, bk_X10_text_15, k_X10_text_15, bk_X10_text_24, k_X10_text_24, bk_X10_text_40, k_X10_text_40, bk_X10_text_45, k_X10_text_45, ↓e_rk1, ↓e_rk0, ↓e_sk0, ↓e_sks, ↓e_ldi0, ↓e_ldis, ↓e_ldl0, ↓e_ldls, ↓e_lda0, ↓e_ldas, ↓e_ok0, ↓e_okss, ↓e_ok1i, ↓e_ok1r, ↓e_ok1n, ↓e_sti, ↓e_sta, ↓e_1, ↓e_2, ↓e_l1, ↓e_l2, ↓e_li, ↓e_sw0, ↓e_sws, ↓e_ceq, ↓e_cne, ↓e_clt, ↓e_cge, ↓e_cgt, ↓e_cle, ↓e_nil, ↓e_cons, ↓e_iconst, ↓e_bipush, ↓e_sipush, ↓e_ldc, ↓e_ldcw, ↓e_ldc2, ↓e_lconst, ↓e_iloadn, ↓e_iload, ↓e_lloadn, ↓e_lload, ↓e_aloadn, ↓e_aload, ↓e_istoren, ↓e_istore, ↓e_astoren, ↓e_astore, ↓e_add, ↓e_iinc, ↓e_iadd, ↓e_isub, ↓e_imul, ↓e_iand, ↓e_ior, ↓e_ixor, ↓e_ishl, ↓e_iushr, ↓e_idiv, ↓e_irem, ↓e_ineg, ↓e_i2l, ↓e_i2b, ↓e_i2s, ↓e_l2i, ↓e_land, ↓e_lor, ↓e_lshl, ↓e_lshr, ↓e_lushr, ↓e_lcmp, ↓e_dupi, ↓e_dupr, ↓e_popi, ↓e_dup2, ↓e_goto, ↓e_if, ↓e_icmp, ↓e_tsw, ↓e_lsw, ↓e_getf, ↓e_putf, ↓e_gets, ↓e_iald, ↓e_cald, ↓e_iast, ↓e_aald, ↓e_aast, ↓e_len, ↓e_copy, ↓e_abs, ↓e_max, ↓e_min, ↓e_iret, ↓e_aret, ↓e_vret, ↓e_is0, ↓e_is1, ↓e_is2, ↓e_is3, ↓e_is4, ↓e_iv1, ↓e_iv2, ↓e_iv3, ↓e_iv4, ↓e_iv5, ↓e_iv6, ↓rt_X10_text, ↓reduceIte, Nat.reduceAdd, Nat.reduceEqDiff, ↓zcl0, ↓zclv, List.map_nil, List.sum_nil, List.map_cons, List.sum_cons, zcat, true_and, and_true, Nat.reduceLeDiff, Nat.reduceAdd, eq_self, forall_const, e_ok0, e_okss, e_ok1i, e_ok1r, e_ok1n, zl_m1000000001, zl_m10, zl_m1, zl_0, zl_1, Int.reduceToNat, Int.reduceAdd, Int.reduceMul, Int.reduceSub, Int.reduceNeg, Int.reduceLT, Int.reduceLE, Int.reduceEq, not_false_eq_true, not_true_eq_false, false_implies, true_implies, implies_true, Int.reduceDiv, Int.reduceMod, zr8_zr, zr_zbo, z01_zbo, z01_0, z01_1, zbo_eq0, zup_eq, zup_o, zup_k, ne_eq, ↓ct_xtext9_cbey, ↓r_cbey, ↓B_cbey, ↓ct_xtext9_cfail, ↓r_cfail, ↓B_cfail, ↓ct_xtext9_slaw, ↓r_slaw, ↓B_slaw, ↓ct_xtext9_rcpy, ↓r_rcpy, ↓B_rcpy, ↓ct_xtext9_red, ↓r_red, ↓B_red, ↓v_0, ↓g_0_0, ↓g_0_1, ↓g_0_2, ↓g_0_3, ↓g_0_4, ↓g_0_5, ↓g_0_6, ↓g_0_7, ↓g_0_8, ↓l_78, ↓s_78, ↓n_78, ↓g_0_9, ↓p_0_9, ↓v_1, ↓g_1_0, ↓g_1_1, ↓g_1_2, ↓g_1_3, ↓g_1_4, ↓g_1_5, ↓g_1_6, ↓p_1_6, ↓v_18, ↓g_18_0, ↓g_18_1, ↓l_21, ↓s_21, ↓n_21, ↓v_19, ↓g_19_0, ↓l_20, ↓s_20, ↓n_20, ↓g_19_1, ↓p_19_1, ↓v_67, ↓g_67_0, ↓g_67_1, ↓g_67_2, ↓p_67_2, ↓g_67_3, ↓p_67_3, ↓g_67_4, ↓p_67_4]
          refine ⟨⟨by omega, by omega⟩, 50, Or.inr (Or.inl ⟨rfl, rfl⟩), r68, by omega, by omega, ⟨z68, by omega⟩, fun M4 g1 g2 g3 => ?_⟩
          refine cp_now hC H er (SRn_tx1 (a := 19) (b := 15) (Or.inr ⟨rfl, rfl, rfl⟩) (by omega) n9 v9.1 v9.2.2 (fun x p p2 p3 p4 => by rw [g3 x p3 p4, e3 x p2, eb x (by omega)]) (by rw [g3 22 (by decide) (by decide)]; exact e22) (by rw [g1]; omega) (fun k hk => by rw [g2 k (by omega)]; exact gd k (by omega))) (fun x p => by rw [g3 x (by omega) (by omega), e3 x (by omega), eb x (by omega)])
      refine bs_X10_text_24 hX ?_
      simp only [bk_X10_text_0, k_X10_text_0, bk_X10_text_8, k_X10_text_8, bk_X10_text_15, k_X10_text_15, bk_X10_text_24, k_X10_text_24, bk_X10_text_40, k_X10_text_40, bk_X10_text_45, k_X10_text_45, ↓e_rk1, ↓e_rk0, ↓e_sk0, ↓e_sks, ↓e_ldi0, ↓e_ldis, ↓e_ldl0, ↓e_ldls, ↓e_lda0, ↓e_ldas, ↓e_ok0, ↓e_okss, ↓e_ok1i, ↓e_ok1r, ↓e_ok1n, ↓e_sti, ↓e_sta, ↓e_1, ↓e_2, ↓e_l1, ↓e_l2, ↓e_li, ↓e_sw0, ↓e_sws, ↓e_ceq, ↓e_cne, ↓e_clt, ↓e_cge, ↓e_cgt, ↓e_cle, ↓e_nil, ↓e_cons, ↓e_iconst, ↓e_bipush, ↓e_sipush, ↓e_ldc, ↓e_ldcw, ↓e_ldc2, ↓e_lconst, ↓e_iloadn, ↓e_iload, ↓e_lloadn, ↓e_lload, ↓e_aloadn, ↓e_aload, ↓e_istoren, ↓e_istore, ↓e_astoren, ↓e_astore, ↓e_add, ↓e_iinc, ↓e_iadd, ↓e_isub, ↓e_imul, ↓e_iand, ↓e_ior, ↓e_ixor, ↓e_ishl, ↓e_iushr, ↓e_idiv, ↓e_irem, ↓e_ineg, ↓e_i2l, ↓e_i2b, ↓e_i2s, ↓e_l2i, ↓e_land, ↓e_lor, ↓e_lshl, ↓e_lshr, ↓e_lushr, ↓e_lcmp, ↓e_dupi, ↓e_dupr, ↓e_popi, ↓e_dup2, ↓e_goto, ↓e_if, ↓e_icmp, ↓e_tsw, ↓e_lsw, ↓e_getf, ↓e_putf, ↓e_gets, ↓e_iald, ↓e_cald, ↓e_iast, ↓e_aald, ↓e_aast, ↓e_len, ↓e_copy, ↓e_abs, ↓e_max, ↓e_min, ↓e_iret, ↓e_aret, ↓e_vret, ↓e_is0, ↓e_is1, ↓e_is2, ↓e_is3, ↓e_is4, ↓e_iv1, ↓e_iv2, ↓e_iv3, ↓e_iv4, ↓e_iv5, ↓e_iv6, ↓rt_X10_text, ↓reduceIte, Nat.reduceAdd, Nat.reduceEqDiff, ↓zcl0, ↓zclv, List.map_nil, List.sum_nil, List.map_cons, List.sum_cons, zcat, true_and, and_true, Nat.reduceLeDiff, Nat.reduceAdd, eq_self, forall_const, e_ok0, e_okss, e_ok1i, e_ok1r, e_ok1n, zl_m1000000001, zl_m10, zl_m1, zl_0, zl_1, Int.reduceToNat, Int.reduceAdd, Int.reduceMul, Int.reduceSub, Int.reduceNeg, Int.reduceLT, Int.reduceLE, Int.reduceEq, not_false_eq_true, not_true_eq_false, false_implies, true_implies, implies_true, Int.reduceDiv, Int.reduceMod, zr8_zr, zr_zbo, z01_zbo, z01_0, z01_1, zbo_eq0, zup_eq, zup_o, zup_k, ne_eq, ↓ct_xtext9_cbey, ↓r_cbey, ↓B_cbey, ↓ct_xtext9_cfail, ↓r_cfail, ↓B_cfail, ↓ct_xtext9_slaw, ↓r_slaw, ↓B_slaw, ↓ct_xtext9_rcpy, ↓r_rcpy, ↓B_rcpy, ↓ct_xtext9_red, ↓r_red, ↓B_red, ↓v_0, ↓g_0_0, ↓g_0_1, ↓g_0_2, ↓g_0_3, ↓g_0_4, ↓g_0_5, ↓g_0_6, ↓g_0_7, ↓g_0_8, ↓l_78, ↓s_78, ↓n_78, ↓g_0_9, ↓p_0_9, ↓v_1, ↓g_1_0, ↓g_1_1, ↓g_1_2, ↓g_1_3, ↓g_1_4, ↓g_1_5, ↓g_1_6, ↓p_1_6, ↓v_22, ↓g_22_0, ↓l_23, ↓s_23, ↓n_23, ↓g_22_1, ↓p_22_1, zw]
      rw [hM3]
      refine ⟨fun c => ?_, fun c => ?_⟩
      · first | exact J45 (by omega) | exact J40 (by omega)
      · first | exact J45 (by omega) | exact J40 (by omega)
    simp only [bk_X10_text_0, k_X10_text_0, bk_X10_text_8, k_X10_text_8, bk_X10_text_15, k_X10_text_15, bk_X10_text_24, k_X10_text_24, bk_X10_text_40, k_X10_text_40, bk_X10_text_45, k_X10_text_45, ↓e_rk1, ↓e_rk0, ↓e_sk0, ↓e_sks, ↓e_ldi0, ↓e_ldis, ↓e_ldl0, ↓e_ldls, ↓e_lda0, ↓e_ldas, ↓e_ok0, ↓e_okss, ↓e_ok1i, ↓e_ok1r, ↓e_ok1n, ↓e_sti, ↓e_sta, ↓e_1, ↓e_2, ↓e_l1, ↓e_l2, ↓e_li, ↓e_sw0, ↓e_sws, ↓e_ceq, ↓e_cne, ↓e_clt, ↓e_cge, ↓e_cgt, ↓e_cle, ↓e_nil, ↓e_cons, ↓e_iconst, ↓e_bipush, ↓e_sipush, ↓e_ldc, ↓e_ldcw, ↓e_ldc2, ↓e_lconst, ↓e_iloadn, ↓e_iload, ↓e_lloadn, ↓e_lload, ↓e_aloadn, ↓e_aload, ↓e_istoren, ↓e_istore, ↓e_astoren, ↓e_astore, ↓e_add, ↓e_iinc, ↓e_iadd, ↓e_isub, ↓e_imul, ↓e_iand, ↓e_ior, ↓e_ixor, ↓e_ishl, ↓e_iushr, ↓e_idiv, ↓e_irem, ↓e_ineg, ↓e_i2l, ↓e_i2b, ↓e_i2s, ↓e_l2i, ↓e_land, ↓e_lor, ↓e_lshl, ↓e_lshr, ↓e_lushr, ↓e_lcmp, ↓e_dupi, ↓e_dupr, ↓e_popi, ↓e_dup2, ↓e_goto, ↓e_if, ↓e_icmp, ↓e_tsw, ↓e_lsw, ↓e_getf, ↓e_putf, ↓e_gets, ↓e_iald, ↓e_cald, ↓e_iast, ↓e_aald, ↓e_aast, ↓e_len, ↓e_copy, ↓e_abs, ↓e_max, ↓e_min, ↓e_iret, ↓e_aret, ↓e_vret, ↓e_is0, ↓e_is1, ↓e_is2, ↓e_is3, ↓e_is4, ↓e_iv1, ↓e_iv2, ↓e_iv3, ↓e_iv4, ↓e_iv5, ↓e_iv6, ↓rt_X10_text, ↓reduceIte, Nat.reduceAdd, Nat.reduceEqDiff, ↓zcl0, ↓zclv, List.map_nil, List.sum_nil, List.map_cons, List.sum_cons, zcat, true_and, and_true, Nat.reduceLeDiff, Nat.reduceAdd, eq_self, forall_const, e_ok0, e_okss, e_ok1i, e_ok1r, e_ok1n, zl_m1000000001, zl_m10, zl_m1, zl_0, zl_1, Int.reduceToNat, Int.reduceAdd, Int.reduceMul, Int.reduceSub, Int.reduceNeg, Int.reduceLT, Int.reduceLE, Int.reduceEq, not_false_eq_true, not_true_eq_false, false_implies, true_implies, implies_true, Int.reduceDiv, Int.reduceMod, zr8_zr, zr_zbo, z01_zbo, z01_0, z01_1, zbo_eq0, zup_eq, zup_o, zup_k, ne_eq, ↓ct_xtext9_cbey, ↓r_cbey, ↓B_cbey, ↓ct_xtext9_cfail, ↓r_cfail, ↓B_cfail, ↓ct_xtext9_slaw, ↓r_slaw, ↓B_slaw, ↓ct_xtext9_rcpy, ↓r_rcpy, ↓B_rcpy, ↓ct_xtext9_red, ↓r_red, ↓B_red, ↓v_0, ↓g_0_0, ↓g_0_1, ↓g_0_2, ↓g_0_3, ↓g_0_4, ↓g_0_5, ↓g_0_6, ↓g_0_7, ↓g_0_8, ↓l_78, ↓s_78, ↓n_78, ↓g_0_9, ↓p_0_9, zr_zbo, zbo_eq0]
    repeat' (first | assumption | apply And.intro | intro _)
    all_goals first | omega | (apply J8; omega) | (apply J15; omega)
def C_x_text : ZC := C_xtext9 0
def B_x_text (u : Int) (M : Nat → Nat → Int) (post : Option ZV → (Nat → Nat → Int) → Prop) : Prop := B_xtext9 0 u M post
theorem r_x_text {u : Int} {M : Nat → Nat → Int} {post : Option ZV → ZH → Prop} : C_x_text [.inr (.inr (.inl 0)), .inl u] (zG, M) post = B_x_text u M (fun v M => post v (zG, M)) := r_xtext9
theorem c_x_text {E : ZE} {d : Nat} (h : 48 ≤ d) : zMet E d mX10_text C_x_text := c_xtext9 (r := 0) (by omega) ⟨47, by omega, c_redA (by omega)⟩
-- known: x_text X10_text 48 r:0 i:u
