/-! THE REFERENCE: restore, put -/
def R_restore (S : ZMm) : Int × ZMm := if S 87 3 = 0 then no S 2 else (S 89 1, r88 S (fun k => if k < 358 then S 89 k else S 88 k))
def B_restore (M : Nat → Nat → Int) (post : Option ZV → (Nat → Nat → Int) → Prop) : Prop := pub M (R_restore (st M)) post
def C_restore : ZC := fun as h post => match as with
  | [.inr (.inr (.inl 87))] => h.1 = zG ∧ B_restore h.2 (fun v M => post v (zG, M))
  | _ => False
theorem r_restore {M : Nat → Nat → Int} {post : Option ZV → ZH → Prop} : C_restore [.inr (.inr (.inl 87))] (zG, M) post = B_restore M (fun v M => post v (zG, M)) := by show (zG = zG ∧ _) = _; simp
def ct_restore : Nat → ZC := fun n => if n = 119 then C_finds else fun _ _ _ => False
theorem ct_restore_finds {as : List ZV} {h : ZH} {post : Option ZV → ZH → Prop} : ct_restore 119 as h post = C_finds as h post := rfl
theorem c_restore {E : ZE} {d : Nat} (hd : 2 ≤ d) : zMet E d mX11_restore C_restore := by
  refine zmet_of (o := 11) (ini := false) (CT := ct_restore) gd_X11_restore rfl (fun h => by cases h) (by omega) ?_ ?_
  · intro n as h post hh
    unfold ct_restore at hh
    by_cases c : n = 119
    · subst c; exact ⟨gd_X11_finds, 1, by omega, c_finds (by omega)⟩
    rw [if_neg c] at hh
    exact hh.elim
  intro as h post hC
  match as, hC with
  | [.inr (.inr (.inl 87))], hC =>
    refine ⟨Nat.le_of_ble_eq_true rfl, fun X hX => bs_X11_restore_0 hX ?_⟩
    obtain ⟨G, M⟩ := h
    obtain ⟨hG, hC⟩ := hC
    dsimp only at hG
    subst hG
    simp only [B_restore] at hC
    show bk_X11_restore_0 E ct_restore X _ [some (.inr (.inr (.inl 87))), none] [] (zG, M) (0, 0)
    have im : 0 ≤ st M 87 3 ∧ st M 87 3 ≤ 4000 := hC.1.2.2.2.1
    have s3 : st M 87 3 = M 87 3 := rfl
    have z3 : zr (M 87 3) = M 87 3 := zr_of (by omega) (by omega)
    simp only [bk_X11_restore_0, k_X11_restore_0, bk_X11_restore_13, k_X11_restore_13, bk_X11_restore_15, k_X11_restore_15, bk_X11_restore_40, k_X11_restore_40, ↓e_rk1, ↓e_rk0, ↓e_sk0, ↓e_sks, ↓e_ldi0, ↓e_ldis, ↓e_ldl0, ↓e_ldls, ↓e_lda0, ↓e_ldas, ↓e_ok0, ↓e_okss, ↓e_ok1i, ↓e_ok1r, ↓e_ok1n, ↓e_sti, ↓e_sta, ↓e_1, ↓e_2, ↓e_l1, ↓e_l2, ↓e_li, ↓e_sw0, ↓e_sws, ↓e_ceq, ↓e_cne, ↓e_clt, ↓e_cge, ↓e_cgt, ↓e_cle, ↓e_nil, ↓e_cons, ↓e_iconst, ↓e_bipush, ↓e_sipush, ↓e_ldc, ↓e_ldcw, ↓e_ldc2, ↓e_lconst, ↓e_iloadn, ↓e_iload, ↓e_lloadn, ↓e_lload, ↓e_aloadn, ↓e_aload, ↓e_istoren, ↓e_istore, ↓e_astoren, ↓e_astore, ↓e_add, ↓e_iinc, ↓e_iadd, ↓e_isub, ↓e_imul, ↓e_iand, ↓e_ior, ↓e_ixor, ↓e_ishl, ↓e_iushr, ↓e_idiv, ↓e_irem, ↓e_ineg, ↓e_i2l, ↓e_i2b, ↓e_i2s, ↓e_l2i, ↓e_land, ↓e_lor, ↓e_lshl, ↓e_lshr, ↓e_lushr, ↓e_lcmp, ↓e_dupi, ↓e_dupr, ↓e_popi, ↓e_dup2, ↓e_goto, ↓e_if, ↓e_icmp, ↓e_tsw, ↓e_lsw, ↓e_getf, ↓e_putf, ↓e_gets, ↓e_iald, ↓e_cald, ↓e_iast, ↓e_aald, ↓e_aast, ↓e_len, ↓e_copy, ↓e_abs, ↓e_max, ↓e_min, ↓e_iret, ↓e_aret, ↓e_vret, ↓e_is0, ↓e_is1, ↓e_is2, ↓e_is3, ↓e_is4, ↓e_iv1, ↓e_iv2, ↓e_iv3, ↓e_iv4, ↓e_iv5, ↓e_iv6, ↓rt_X11_restore, ↓reduceIte, Nat.reduceAdd, Nat.reduceEqDiff, ↓zcl0, ↓zclv, List.map_nil, List.sum_nil, List.map_cons, List.sum_cons, zcat, true_and, and_true, Nat.reduceLeDiff, Nat.reduceAdd, eq_self, forall_const, e_ok0, e_okss, e_ok1i, e_ok1r, e_ok1n, zl_0, zl_1, zl_2, zl_358, Int.reduceToNat, Int.reduceAdd, Int.reduceMul, Int.reduceSub, Int.reduceNeg, Int.reduceLT, Int.reduceLE, Int.reduceEq, not_false_eq_true, not_true_eq_false, false_implies, true_implies, implies_true, Int.reduceDiv, Int.reduceMod, zr8_zr, zr_zbo, z01_zbo, z01_0, z01_1, zbo_eq0, zup_eq, zup_o, zup_k, ne_eq, ↓ct_restore_finds, ↓r_finds, ↓B_finds, ↓v_87, ↓g_87_0, ↓l_88, ↓s_88, ↓n_88, ↓g_87_1, ↓l_89, ↓s_89, ↓n_89, ↓g_87_2, ↓l_90, ↓s_90, ↓n_90, ↓g_87_3, ↓p_87_3, ↓g_87_4, ↓l_91, ↓s_91, ↓n_91, ↓g_87_5, ↓p_87_5, ↓g_87_6, ↓p_87_6, ↓g_87_7, ↓p_87_7, ↓g_87_8, ↓p_87_8, ↓g_87_9, ↓p_87_9, ↓g_87_10, ↓p_87_10, ↓g_87_11, ↓l_92, ↓s_92, ↓n_92, ↓g_87_12, ↓l_93, ↓s_93, ↓n_93, ↓g_87_13, ↓p_87_13, ↓g_87_14, ↓l_94, ↓s_94, ↓n_94, ↓g_87_15, ↓p_87_15, ↓g_87_16, ↓l_95, ↓s_95, ↓n_95, ↓g_87_17, ↓l_96, ↓s_96, ↓n_96, ↓g_87_18, ↓l_97, ↓s_97, ↓n_97, ↓g_87_19, ↓p_87_19, ↓g_87_20, ↓p_87_20, ↓g_87_21, ↓l_98, ↓s_98, ↓n_98, ↓g_87_22, ↓l_99, ↓s_99, ↓n_99, ↓g_87_23, ↓l_100, ↓s_100, ↓n_100, ↓g_87_24, ↓l_101, ↓s_101, ↓n_101, z3]
    have lp : ¬ M 87 3 = 0 → ∀ (j k : Nat) (M' : ZMm), j + k = 358 → M' 88 = (fun i => if i < k then M 89 i else M 88 i) → (∀ x, ¬ x = 88 → M' x = M x) → X 15 [some (.inr (.inr (.inl 87))), some (.inl (k : Int))] [] (zG, M') (0, 0) := by
      intro hn j
      induction j with
      | zero =>
        intro k M' hk hd hM
        refine bs_X11_restore_15 hX ?_
        have zk : zr (k : Int) = k := zr_of (by omega) (by omega)
        have lk : ((k : Int) < 358) = False := eq_false (by omega)
        simp only [bk_X11_restore_0, k_X11_restore_0, bk_X11_restore_13, k_X11_restore_13, bk_X11_restore_15, k_X11_restore_15, bk_X11_restore_40, k_X11_restore_40, ↓e_rk1, ↓e_rk0, ↓e_sk0, ↓e_sks, ↓e_ldi0, ↓e_ldis, ↓e_ldl0, ↓e_ldls, ↓e_lda0, ↓e_ldas, ↓e_ok0, ↓e_okss, ↓e_ok1i, ↓e_ok1r, ↓e_ok1n, ↓e_sti, ↓e_sta, ↓e_1, ↓e_2, ↓e_l1, ↓e_l2, ↓e_li, ↓e_sw0, ↓e_sws, ↓e_ceq, ↓e_cne, ↓e_clt, ↓e_cge, ↓e_cgt, ↓e_cle, ↓e_nil, ↓e_cons, ↓e_iconst, ↓e_bipush, ↓e_sipush, ↓e_ldc, ↓e_ldcw, ↓e_ldc2, ↓e_lconst, ↓e_iloadn, ↓e_iload, ↓e_lloadn, ↓e_lload, ↓e_aloadn, ↓e_aload, ↓e_istoren, ↓e_istore, ↓e_astoren, ↓e_astore, ↓e_add, ↓e_iinc, ↓e_iadd, ↓e_isub, ↓e_imul, ↓e_iand, ↓e_ior, ↓e_ixor, ↓e_ishl, ↓e_iushr, ↓e_idiv, ↓e_irem, ↓e_ineg, ↓e_i2l, ↓e_i2b, ↓e_i2s, ↓e_l2i, ↓e_land, ↓e_lor, ↓e_lshl, ↓e_lshr, ↓e_lushr, ↓e_lcmp, ↓e_dupi, ↓e_dupr, ↓e_popi, ↓e_dup2, ↓e_goto, ↓e_if, ↓e_icmp, ↓e_tsw, ↓e_lsw, ↓e_getf, ↓e_putf, ↓e_gets, ↓e_iald, ↓e_cald, ↓e_iast, ↓e_aald, ↓e_aast, ↓e_len, ↓e_copy, ↓e_abs, ↓e_max, ↓e_min, ↓e_iret, ↓e_aret, ↓e_vret, ↓e_is0, ↓e_is1, ↓e_is2, ↓e_is3, ↓e_is4, ↓e_iv1, ↓e_iv2, ↓e_iv3, ↓e_iv4, ↓e_iv5, ↓e_iv6, ↓rt_X11_restore, ↓reduceIte, Nat.reduceAdd, Nat.reduceEqDiff, ↓zcl0, ↓zclv, List.map_nil, List.sum_nil, List.map_cons, List.sum_cons, zcat, true_and, and_true, Nat.reduceLeDiff, Nat.reduceAdd, eq_self, forall_const, e_ok0, e_okss, e_ok1i, e_ok1r, e_ok1n, zl_0, zl_1, zl_2, zl_358, Int.reduceToNat, Int.reduceAdd, Int.reduceMul, Int.reduceSub, Int.reduceNeg, Int.reduceLT, Int.reduceLE, Int.reduceEq, not_false_eq_true, not_true_eq_false, false_implies, true_implies, implies_true, Int.reduceDiv, Int.reduceMod, zr8_zr, zr_zbo, z01_zbo, z01_0, z01_1, zbo_eq0, zup_eq, zup_o, zup_k, ne_eq, ↓ct_restore_finds, ↓r_finds, ↓B_finds, ↓v_87, ↓g_87_0, ↓l_88, ↓s_88, ↓n_88, ↓g_87_1, ↓l_89, ↓s_89, ↓n_89, ↓g_87_2, ↓l_90, ↓s_90, ↓n_90, ↓g_87_3, ↓p_87_3, ↓g_87_4, ↓l_91, ↓s_91, ↓n_91, ↓g_87_5, ↓p_87_5, ↓g_87_6, ↓p_87_6, ↓g_87_7, ↓p_87_7, ↓g_87_8, ↓p_87_8, ↓g_87_9, ↓p_87_9, ↓g_87_10, ↓p_87_10, ↓g_87_11, ↓l_92, ↓s_92, ↓n_92, ↓g_87_12, ↓l_93, ↓s_93, ↓n_93, ↓g_87_13, ↓p_87_13, ↓g_87_14, ↓l_94, ↓s_94, ↓n_94, ↓g_87_15, ↓p_87_15, ↓g_87_16, ↓l_95, ↓s_95, ↓n_95, ↓g_87_17, ↓l_96, ↓s_96, ↓n_96, ↓g_87_18, ↓l_97, ↓s_97, ↓n_97, ↓g_87_19, ↓p_87_19, ↓g_87_20, ↓p_87_20, ↓g_87_21, ↓l_98, ↓s_98, ↓n_98, ↓g_87_22, ↓l_99, ↓s_99, ↓n_99, ↓g_87_23, ↓l_100, ↓s_100, ↓n_100, ↓g_87_24, ↓l_101, ↓s_101, ↓n_101, zk, lk]
        refine pub_88 hC (fun x q _ _ _ => hM x q) ?_
        unfold R_restore
        rw [if_neg (by omega), hd, show k = 358 by omega]
        rfl
      | succ j ih =>
        intro k M' hk hd hM
        refine bs_X11_restore_15 hX ?_
        have zk : zr (k : Int) = k := zr_of (by omega) (by omega)
        have lk : ((k : Int) < 358) = True := eq_true (by omega)
        simp only [bk_X11_restore_0, k_X11_restore_0, bk_X11_restore_13, k_X11_restore_13, bk_X11_restore_15, k_X11_restore_15, bk_X11_restore_40, k_X11_restore_40, ↓e_rk1, ↓e_rk0, ↓e_sk0, ↓e_sks, ↓e_ldi0, ↓e_ldis, ↓e_ldl0, ↓e_ldls, ↓e_lda0, ↓e_ldas, ↓e_ok0, ↓e_okss, ↓e_ok1i, ↓e_ok1r, ↓e_ok1n, ↓e_sti, ↓e_sta, ↓e_1, ↓e_2, ↓e_l1, ↓e_l2, ↓e_li, ↓e_sw0, ↓e_sws, ↓e_ceq, ↓e_cne, ↓e_clt, ↓e_cge, ↓e_cgt, ↓e_cle, ↓e_nil, ↓e_cons, ↓e_iconst, ↓e_bipush, ↓e_sipush, ↓e_ldc, ↓e_ldcw, ↓e_ldc2, ↓e_lconst, ↓e_iloadn, ↓e_iload, ↓e_lloadn, ↓e_lload, ↓e_aloadn, ↓e_aload, ↓e_istoren, ↓e_istore, ↓e_astoren, ↓e_astore, ↓e_add, ↓e_iinc, ↓e_iadd, ↓e_isub, ↓e_imul, ↓e_iand, ↓e_ior, ↓e_ixor, ↓e_ishl, ↓e_iushr, ↓e_idiv, ↓e_irem, ↓e_ineg, ↓e_i2l, ↓e_i2b, ↓e_i2s, ↓e_l2i, ↓e_land, ↓e_lor, ↓e_lshl, ↓e_lshr, ↓e_lushr, ↓e_lcmp, ↓e_dupi, ↓e_dupr, ↓e_popi, ↓e_dup2, ↓e_goto, ↓e_if, ↓e_icmp, ↓e_tsw, ↓e_lsw, ↓e_getf, ↓e_putf, ↓e_gets, ↓e_iald, ↓e_cald, ↓e_iast, ↓e_aald, ↓e_aast, ↓e_len, ↓e_copy, ↓e_abs, ↓e_max, ↓e_min, ↓e_iret, ↓e_aret, ↓e_vret, ↓e_is0, ↓e_is1, ↓e_is2, ↓e_is3, ↓e_is4, ↓e_iv1, ↓e_iv2, ↓e_iv3, ↓e_iv4, ↓e_iv5, ↓e_iv6, ↓rt_X11_restore, ↓reduceIte, Nat.reduceAdd, Nat.reduceEqDiff, ↓zcl0, ↓zclv, List.map_nil, List.sum_nil, List.map_cons, List.sum_cons, zcat, true_and, and_true, Nat.reduceLeDiff, Nat.reduceAdd, eq_self, forall_const, e_ok0, e_okss, e_ok1i, e_ok1r, e_ok1n, zl_0, zl_1, zl_2, zl_358, Int.reduceToNat, Int.reduceAdd, Int.reduceMul, Int.reduceSub, Int.reduceNeg, Int.reduceLT, Int.reduceLE, Int.reduceEq, not_false_eq_true, not_true_eq_false, false_implies, true_implies, implies_true, Int.reduceDiv, Int.reduceMod, zr8_zr, zr_zbo, z01_zbo, z01_0, z01_1, zbo_eq0, zup_eq, zup_o, zup_k, ne_eq, ↓ct_restore_finds, ↓r_finds, ↓B_finds, ↓v_87, ↓g_87_0, ↓l_88, ↓s_88, ↓n_88, ↓g_87_1, ↓l_89, ↓s_89, ↓n_89, ↓g_87_2, ↓l_90, ↓s_90, ↓n_90, ↓g_87_3, ↓p_87_3, ↓g_87_4, ↓l_91, ↓s_91, ↓n_91, ↓g_87_5, ↓p_87_5, ↓g_87_6, ↓p_87_6, ↓g_87_7, ↓p_87_7, ↓g_87_8, ↓p_87_8, ↓g_87_9, ↓p_87_9, ↓g_87_10, ↓p_87_10, ↓g_87_11, ↓l_92, ↓s_92, ↓n_92, ↓g_87_12, ↓l_93, ↓s_93, ↓n_93, ↓g_87_13, ↓p_87_13, ↓g_87_14, ↓l_94, ↓s_94, ↓n_94, ↓g_87_15, ↓p_87_15, ↓g_87_16, ↓l_95, ↓s_95, ↓n_95, ↓g_87_17, ↓l_96, ↓s_96, ↓n_96, ↓g_87_18, ↓l_97, ↓s_97, ↓n_97, ↓g_87_19, ↓p_87_19, ↓g_87_20, ↓p_87_20, ↓g_87_21, ↓l_98, ↓s_98, ↓n_98, ↓g_87_22, ↓l_99, ↓s_99, ↓n_99, ↓g_87_23, ↓l_100, ↓s_100, ↓n_100, ↓g_87_24, ↓l_101, ↓s_101, ↓n_101, zk, lk, Int.toNat_natCast]
        repeat (refine And.intro (by omega) ?_)
        refine ih (k + 1) _ (by omega) ?_ (fun x q => by rw [zup_ne _ q]; exact hM x q)
        rw [zup_up, hd, hM 89 (by decide)]
        funext i
        unfold up1
        by_cases q : i = k
        · subst q
          rw [if_pos rfl, if_pos (by omega)]
        · rw [if_neg q]; dsimp only
          by_cases q2 : i < k
          · rw [if_pos q2, if_pos (by omega)]
          · rw [if_neg q2, if_neg (by omega)]
    refine ⟨fun c => ?_, fun c => ?_⟩
    · first | exact lp c 358 0 M (by omega) (by funext i; rw [if_neg (by omega)]) (fun _ _ => rfl) | exact pub_no hC (by unfold R_restore; rw [if_pos (by omega)]) rfl
    · first | exact lp c 358 0 M (by omega) (by funext i; rw [if_neg (by omega)]) (fun _ _ => rfl) | exact pub_no hC (by unfold R_restore; rw [if_pos (by omega)]) rfl
def cst (b v : Int) : Int := if b = 8 then zi2b v else if b = 16 then zi2s v else v
theorem pub_up {M : ZMm} {R : Int × ZMm} {post : Option ZV → ZMm → Prop} (h : pub M R post) {a : Int} {x k : Nat} {v : Int} (hx : 87 < x) (hk : kpt x k = true) (e : R = (a, zup (st M) x k v)) : post (some (.inl a)) (zup M x k v) :=
  pub_of h (by rw [e, st_up hk]) (by rw [zup_ne _ (by omega)]) (fun y q => by rw [zup_ne _ (by omega)])
def R_put (S : ZMm) (s i v : Int) : Int × ZMm := if 0 ≤ s ∧ s ≤ 3 then (if S 98 s.toNat = 0 then no S 2 else if 0 ≤ i ∧ i < S 99 s.toNat then (1, zup S 100 (40 * s + i).toNat (cst (S 98 s.toNat) v)) else no S 1) else no S 1
def B_put (s : Int) (i : Int) (v : Int) (M : Nat → Nat → Int) (post : Option ZV → (Nat → Nat → Int) → Prop) : Prop := rg s ∧ rg i ∧ rg v ∧ pub M (R_put (st M) s i v) post
def C_put : ZC := fun as h post => match as with
  | [.inr (.inr (.inl 87)), .inl s, .inl i, .inl v] => h.1 = zG ∧ B_put s i v h.2 (fun v M => post v (zG, M))
  | _ => False
theorem r_put {s : Int} {i : Int} {v : Int} {M : Nat → Nat → Int} {post : Option ZV → ZH → Prop} : C_put [.inr (.inr (.inl 87)), .inl s, .inl i, .inl v] (zG, M) post = B_put s i v M (fun v M => post v (zG, M)) := by show (zG = zG ∧ _) = _; simp
def ct_put : Nat → ZC := fun n => if n = 210 then C_isSheet else if n = 120 then C_in else if n = 119 then C_finds else fun _ _ _ => False
theorem ct_put_isSheet {as : List ZV} {h : ZH} {post : Option ZV → ZH → Prop} : ct_put 210 as h post = C_isSheet as h post := rfl
theorem ct_put_in {as : List ZV} {h : ZH} {post : Option ZV → ZH → Prop} : ct_put 120 as h post = C_in as h post := rfl
theorem ct_put_finds {as : List ZV} {h : ZH} {post : Option ZV → ZH → Prop} : ct_put 119 as h post = C_finds as h post := rfl
theorem c_put {E : ZE} {d : Nat} (hd : 3 ≤ d) : zMet E d mX11_put C_put := by
  refine zmet_of (o := 11) (ini := false) (CT := ct_put) gd_X11_put rfl (fun h => by cases h) (by omega) ?_ ?_
  · intro n as h post hh
    unfold ct_put at hh
    by_cases c : n = 210
    · subst c; exact ⟨gd_X11_isSheet, 2, by omega, c_isSheet (by omega)⟩
    rw [if_neg c] at hh
    by_cases c : n = 120
    · subst c; exact ⟨gd_X11_in, 1, by omega, c_in (by omega)⟩
    rw [if_neg c] at hh
    by_cases c : n = 119
    · subst c; exact ⟨gd_X11_finds, 1, by omega, c_finds (by omega)⟩
    rw [if_neg c] at hh
    exact hh.elim
  intro as h post hC
  match as, hC with
  | [.inr (.inr (.inl 87)), .inl s, .inl i, .inl v], hC =>
    refine ⟨Nat.le_of_ble_eq_true rfl, fun X hX => bs_X11_put_0 hX ?_⟩
    obtain ⟨G, M⟩ := h
    obtain ⟨hG, hC⟩ := hC
    dsimp only at hG
    subst hG
    simp only [B_put] at hC
    show bk_X11_put_0 E ct_put X _ [some (.inr (.inr (.inl 87))), some (.inl s), some (.inl i), some (.inl v)] [] (zG, M) (0, 0)
    obtain ⟨h1, h2, h3, hC⟩ := hC
    have sh := hC.1.2.2.2.2.2.1
    by_cases hs : 0 ≤ s ∧ s ≤ 3
    · obtain ⟨bs, z1, z2⟩ := sh s.toNat (by omega)
      have e98 : st M 98 s.toNat = M 98 s.toNat := rfl
      have e99 : st M 99 s.toNat = M 99 s.toNat := rfl
      rw [e98] at bs
      rw [e99] at z1 z2
      have zb : zr (M 98 s.toNat) = M 98 s.toNat := zr_of (by omega) (by omega)
      have zz : zr (M 99 s.toNat - 1) = M 99 s.toNat - 1 := zr_of (by omega) (by omega)
      have z8 : zr8 (M 99 s.toNat - 1) = M 99 s.toNat - 1 := zr8_of (by omega) (by omega)
      have R1 : ¬ M 98 s.toNat = 0 → (0 ≤ i ∧ i ≤ M 99 s.toNat - 1) → R_put (st M) s i v = (1, zup (st M) 100 (40 * s + i).toNat (cst (M 98 s.toNat) v)) := fun q1 q2 => by
        unfold R_put
        rw [if_pos hs, e98, if_neg q1, e99, if_pos (by omega)]
      simp only [bk_X11_put_0, k_X11_put_0, bk_X11_put_13, k_X11_put_13, bk_X11_put_28, k_X11_put_28, bk_X11_put_52, k_X11_put_52, bk_X11_put_78, k_X11_put_78, bk_X11_put_94, k_X11_put_94, bk_X11_put_95, k_X11_put_95, ↓e_rk1, ↓e_rk0, ↓e_sk0, ↓e_sks, ↓e_ldi0, ↓e_ldis, ↓e_ldl0, ↓e_ldls, ↓e_lda0, ↓e_ldas, ↓e_ok0, ↓e_okss, ↓e_ok1i, ↓e_ok1r, ↓e_ok1n, ↓e_sti, ↓e_sta, ↓e_1, ↓e_2, ↓e_l1, ↓e_l2, ↓e_li, ↓e_sw0, ↓e_sws, ↓e_ceq, ↓e_cne, ↓e_clt, ↓e_cge, ↓e_cgt, ↓e_cle, ↓e_nil, ↓e_cons, ↓e_iconst, ↓e_bipush, ↓e_sipush, ↓e_ldc, ↓e_ldcw, ↓e_ldc2, ↓e_lconst, ↓e_iloadn, ↓e_iload, ↓e_lloadn, ↓e_lload, ↓e_aloadn, ↓e_aload, ↓e_istoren, ↓e_istore, ↓e_astoren, ↓e_astore, ↓e_add, ↓e_iinc, ↓e_iadd, ↓e_isub, ↓e_imul, ↓e_iand, ↓e_ior, ↓e_ixor, ↓e_ishl, ↓e_iushr, ↓e_idiv, ↓e_irem, ↓e_ineg, ↓e_i2l, ↓e_i2b, ↓e_i2s, ↓e_l2i, ↓e_land, ↓e_lor, ↓e_lshl, ↓e_lshr, ↓e_lushr, ↓e_lcmp, ↓e_dupi, ↓e_dupr, ↓e_popi, ↓e_dup2, ↓e_goto, ↓e_if, ↓e_icmp, ↓e_tsw, ↓e_lsw, ↓e_getf, ↓e_putf, ↓e_gets, ↓e_iald, ↓e_cald, ↓e_iast, ↓e_aald, ↓e_aast, ↓e_len, ↓e_copy, ↓e_abs, ↓e_max, ↓e_min, ↓e_iret, ↓e_aret, ↓e_vret, ↓e_is0, ↓e_is1, ↓e_is2, ↓e_is3, ↓e_is4, ↓e_iv1, ↓e_iv2, ↓e_iv3, ↓e_iv4, ↓e_iv5, ↓e_iv6, ↓rt_X11_put, ↓reduceIte, Nat.reduceAdd, Nat.reduceEqDiff, ↓zcl0, ↓zclv, List.map_nil, List.sum_nil, List.map_cons, List.sum_cons, zcat, true_and, and_true, Nat.reduceLeDiff, Nat.reduceAdd, eq_self, forall_const, e_ok0, e_okss, e_ok1i, e_ok1r, e_ok1n, zl_1, zl_2, zl_8, zl_16, zl_40, zq_0, Int.reduceToNat, Int.reduceAdd, Int.reduceMul, Int.reduceSub, Int.reduceNeg, Int.reduceLT, Int.reduceLE, Int.reduceEq, not_false_eq_true, not_true_eq_false, false_implies, true_implies, implies_true, Int.reduceDiv, Int.reduceMod, zr8_zr, zr_zbo, z01_zbo, z01_0, z01_1, zbo_eq0, zup_eq, zup_o, zup_k, ne_eq, ↓ct_put_isSheet, ↓r_isSheet, ↓B_isSheet, ↓ct_put_in, ↓r_in, ↓B_in, ↓ct_put_finds, ↓r_finds, ↓B_finds, ↓v_87, ↓g_87_0, ↓l_88, ↓s_88, ↓n_88, ↓g_87_1, ↓l_89, ↓s_89, ↓n_89, ↓g_87_2, ↓l_90, ↓s_90, ↓n_90, ↓g_87_3, ↓p_87_3, ↓g_87_4, ↓l_91, ↓s_91, ↓n_91, ↓g_87_5, ↓p_87_5, ↓g_87_6, ↓p_87_6, ↓g_87_7, ↓p_87_7, ↓g_87_8, ↓p_87_8, ↓g_87_9, ↓p_87_9, ↓g_87_10, ↓p_87_10, ↓g_87_11, ↓l_92, ↓s_92, ↓n_92, ↓g_87_12, ↓l_93, ↓s_93, ↓n_93, ↓g_87_13, ↓p_87_13, ↓g_87_14, ↓l_94, ↓s_94, ↓n_94, ↓g_87_15, ↓p_87_15, ↓g_87_16, ↓l_95, ↓s_95, ↓n_95, ↓g_87_17, ↓l_96, ↓s_96, ↓n_96, ↓g_87_18, ↓l_97, ↓s_97, ↓n_97, ↓g_87_19, ↓p_87_19, ↓g_87_20, ↓p_87_20, ↓g_87_21, ↓l_98, ↓s_98, ↓n_98, ↓g_87_22, ↓l_99, ↓s_99, ↓n_99, ↓g_87_23, ↓l_100, ↓s_100, ↓n_100, ↓g_87_24, ↓l_101, ↓s_101, ↓n_101, zr_rg, h1, zr_rg, h2, zr_rg, h3, zr8_rg, h1, zr8_rg, h2, zb, zz, z8, zr8_zr, zr_zbo, zbo_01, zbo_eq0, zbo_eq1]
      refine ⟨fun c => absurd hs c, fun _ => ⟨by omega, by omega, fun c1 => ?_, fun c1 => ⟨by omega, by omega, fun c2 => ?_, fun c2 => ⟨by omega, by omega, ?_⟩⟩⟩⟩
      · exact pub_no hC (by unfold R_put; rw [if_pos hs, e98, if_pos c1]) rfl
      · exact pub_no hC (by unfold R_put; rw [if_pos hs, e98, if_neg c1, e99, if_neg (by omega)]) rfl
      have R2 := R1 c1 (by omega)
      unfold cst at R2
      have zi : zr (40 * s + i) = 40 * s + i := zr_of (by omega) (by omega)
      rw [zi]
      refine ⟨fun c3 => ⟨by omega, by omega, ?_⟩, fun c3 => ⟨by omega, by omega, fun c4 => ⟨by omega, by omega, ?_⟩, fun c4 => ⟨by omega, by omega, ?_⟩⟩⟩
      · rw [if_pos c3] at R2; exact pub_up hC (by decide) rfl R2
      · rw [if_neg c3, if_pos c4] at R2; exact pub_up hC (by decide) rfl R2
      · rw [if_neg c3, if_neg c4] at R2; exact pub_up hC (by decide) rfl R2
    · simp only [bk_X11_put_0, k_X11_put_0, bk_X11_put_13, k_X11_put_13, bk_X11_put_28, k_X11_put_28, bk_X11_put_52, k_X11_put_52, bk_X11_put_78, k_X11_put_78, bk_X11_put_94, k_X11_put_94, bk_X11_put_95, k_X11_put_95, ↓e_rk1, ↓e_rk0, ↓e_sk0, ↓e_sks, ↓e_ldi0, ↓e_ldis, ↓e_ldl0, ↓e_ldls, ↓e_lda0, ↓e_ldas, ↓e_ok0, ↓e_okss, ↓e_ok1i, ↓e_ok1r, ↓e_ok1n, ↓e_sti, ↓e_sta, ↓e_1, ↓e_2, ↓e_l1, ↓e_l2, ↓e_li, ↓e_sw0, ↓e_sws, ↓e_ceq, ↓e_cne, ↓e_clt, ↓e_cge, ↓e_cgt, ↓e_cle, ↓e_nil, ↓e_cons, ↓e_iconst, ↓e_bipush, ↓e_sipush, ↓e_ldc, ↓e_ldcw, ↓e_ldc2, ↓e_lconst, ↓e_iloadn, ↓e_iload, ↓e_lloadn, ↓e_lload, ↓e_aloadn, ↓e_aload, ↓e_istoren, ↓e_istore, ↓e_astoren, ↓e_astore, ↓e_add, ↓e_iinc, ↓e_iadd, ↓e_isub, ↓e_imul, ↓e_iand, ↓e_ior, ↓e_ixor, ↓e_ishl, ↓e_iushr, ↓e_idiv, ↓e_irem, ↓e_ineg, ↓e_i2l, ↓e_i2b, ↓e_i2s, ↓e_l2i, ↓e_land, ↓e_lor, ↓e_lshl, ↓e_lshr, ↓e_lushr, ↓e_lcmp, ↓e_dupi, ↓e_dupr, ↓e_popi, ↓e_dup2, ↓e_goto, ↓e_if, ↓e_icmp, ↓e_tsw, ↓e_lsw, ↓e_getf, ↓e_putf, ↓e_gets, ↓e_iald, ↓e_cald, ↓e_iast, ↓e_aald, ↓e_aast, ↓e_len, ↓e_copy, ↓e_abs, ↓e_max, ↓e_min, ↓e_iret, ↓e_aret, ↓e_vret, ↓e_is0, ↓e_is1, ↓e_is2, ↓e_is3, ↓e_is4, ↓e_iv1, ↓e_iv2, ↓e_iv3, ↓e_iv4, ↓e_iv5, ↓e_iv6, ↓rt_X11_put, ↓reduceIte, Nat.reduceAdd, Nat.reduceEqDiff, ↓zcl0, ↓zclv, List.map_nil, List.sum_nil, List.map_cons, List.sum_cons, zcat, true_and, and_true, Nat.reduceLeDiff, Nat.reduceAdd, eq_self, forall_const, e_ok0, e_okss, e_ok1i, e_ok1r, e_ok1n, zl_1, zl_2, zl_8, zl_16, zl_40, zq_0, Int.reduceToNat, Int.reduceAdd, Int.reduceMul, Int.reduceSub, Int.reduceNeg, Int.reduceLT, Int.reduceLE, Int.reduceEq, not_false_eq_true, not_true_eq_false, false_implies, true_implies, implies_true, Int.reduceDiv, Int.reduceMod, zr8_zr, zr_zbo, z01_zbo, z01_0, z01_1, zbo_eq0, zup_eq, zup_o, zup_k, ne_eq, ↓ct_put_isSheet, ↓r_isSheet, ↓B_isSheet, ↓ct_put_in, ↓r_in, ↓B_in, ↓ct_put_finds, ↓r_finds, ↓B_finds, ↓v_87, ↓g_87_0, ↓l_88, ↓s_88, ↓n_88, ↓g_87_1, ↓l_89, ↓s_89, ↓n_89, ↓g_87_2, ↓l_90, ↓s_90, ↓n_90, ↓g_87_3, ↓p_87_3, ↓g_87_4, ↓l_91, ↓s_91, ↓n_91, ↓g_87_5, ↓p_87_5, ↓g_87_6, ↓p_87_6, ↓g_87_7, ↓p_87_7, ↓g_87_8, ↓p_87_8, ↓g_87_9, ↓p_87_9, ↓g_87_10, ↓p_87_10, ↓g_87_11, ↓l_92, ↓s_92, ↓n_92, ↓g_87_12, ↓l_93, ↓s_93, ↓n_93, ↓g_87_13, ↓p_87_13, ↓g_87_14, ↓l_94, ↓s_94, ↓n_94, ↓g_87_15, ↓p_87_15, ↓g_87_16, ↓l_95, ↓s_95, ↓n_95, ↓g_87_17, ↓l_96, ↓s_96, ↓n_96, ↓g_87_18, ↓l_97, ↓s_97, ↓n_97, ↓g_87_19, ↓p_87_19, ↓g_87_20, ↓p_87_20, ↓g_87_21, ↓l_98, ↓s_98, ↓n_98, ↓g_87_22, ↓l_99, ↓s_99, ↓n_99, ↓g_87_23, ↓l_100, ↓s_100, ↓n_100, ↓g_87_24, ↓l_101, ↓s_101, ↓n_101, zr_rg, h1, zr_rg, h2, zr_rg, h3, zr8_rg, h1, zr8_rg, h2, zr8_zr, zr_zbo, zbo_01, zbo_eq0, zbo_eq1]
      refine ⟨fun c => ?_, fun c => absurd hs c⟩
      exact pub_no hC (by unfold R_put; rw [if_neg hs]) rfl
