/-! THE REFERENCE: sheet -/
def R_sheet (S : ZMm) (s b n : Int) : Int × ZMm := if (0 ≤ s ∧ s ≤ 3) ∧ (b = 0 ∨ b = 8 ∨ b = 16 ∨ b = 32) then (if ¬ b = 0 ∧ n < 0 then no S 3 else if ¬ b = 0 ∧ 40 < n then no S 1 else (1, fun x => if x = 100 then (fun k : Nat => if 40 * s ≤ k ∧ (k : Int) < 40 * s + 40 then 0 else S 100 k) else zup (zup S 98 s.toNat b) 99 s.toNat (if b = 0 then 0 else n) x)) else no S 1
def B_sheet (s : Int) (b : Int) (n : Int) (M : Nat → Nat → Int) (post : Option ZV → (Nat → Nat → Int) → Prop) : Prop := rg s ∧ rg b ∧ rg n ∧ pub M (R_sheet (st M) s b n) post
def C_sheet : ZC := fun as h post => match as with
  | [.inr (.inr (.inl 87)), .inl s, .inl b, .inl n] => h.1 = zG ∧ B_sheet s b n h.2 (fun v M => post v (zG, M))
  | _ => False
theorem r_sheet {s : Int} {b : Int} {n : Int} {M : Nat → Nat → Int} {post : Option ZV → ZH → Prop} : C_sheet [.inr (.inr (.inl 87)), .inl s, .inl b, .inl n] (zG, M) post = B_sheet s b n M (fun v M => post v (zG, M)) := by show (zG = zG ∧ _) = _; simp
def ct_sheet : Nat → ZC := fun n => if n = 210 then C_isSheet else if n = 119 then C_finds else fun _ _ _ => False
theorem ct_sheet_isSheet {as : List ZV} {h : ZH} {post : Option ZV → ZH → Prop} : ct_sheet 210 as h post = C_isSheet as h post := rfl
theorem ct_sheet_finds {as : List ZV} {h : ZH} {post : Option ZV → ZH → Prop} : ct_sheet 119 as h post = C_finds as h post := rfl
theorem c_sheet {E : ZE} {d : Nat} (hd : 3 ≤ d) : zMet E d mX11_sheet C_sheet := by
  refine zmet_of (o := 11) (ini := false) (CT := ct_sheet) gd_X11_sheet rfl (fun h => by cases h) (by omega) ?_ ?_
  · intro n as h post hh
    unfold ct_sheet at hh
    by_cases c : n = 210
    · subst c; exact ⟨gd_X11_isSheet, 2, by omega, c_isSheet (by omega)⟩
    rw [if_neg c] at hh
    by_cases c : n = 119
    · subst c; exact ⟨gd_X11_finds, 1, by omega, c_finds (by omega)⟩
    rw [if_neg c] at hh
    exact hh.elim
  intro as h post hC
  match as, hC with
  | [.inr (.inr (.inl 87)), .inl s, .inl b, .inl n], hC =>
    refine ⟨Nat.le_of_ble_eq_true rfl, fun X hX => bs_X11_sheet_0 hX ?_⟩
    obtain ⟨G, M⟩ := h
    obtain ⟨hG, hC⟩ := hC
    dsimp only at hG
    subst hG
    simp only [B_sheet] at hC
    show bk_X11_sheet_0 E ct_sheet X _ [some (.inr (.inr (.inl 87))), some (.inl s), some (.inl b), some (.inl n), none] [] (zG, M) (0, 0)
    obtain ⟨h1, h2, h3, hC⟩ := hC
    have lp : ∀ (M1 : ZMm), (0 ≤ s ∧ s ≤ 3) → M1 100 = M 100 → M1 87 15 = M 87 15 → (∀ x, x < 87 → M1 x = M x) → R_sheet (st M) s b n = (1, fun x => if x = 100 then (fun k : Nat => if 40 * s ≤ k ∧ (k : Int) < 40 * s + 40 then 0 else M 100 k) else st M1 x) → ∀ (j k : Nat) (M' : ZMm), j + k = 40 → M' 100 = (fun i : Nat => if 40 * s ≤ i ∧ (i : Int) < 40 * s + k then 0 else M 100 i) → (∀ x, ¬ x = 100 → M' x = M1 x) → X 90 [some (.inr (.inr (.inl 87))), some (.inl s), some (.inl b), some (.inl n), some (.inl (k : Int))] [] (zG, M') (0, 0) := by
      intro M1 hs e100 e15 e87 hR j
      induction j with
      | zero =>
        intro k M' hk hd hM
        refine bs_X11_sheet_90 hX ?_
        have zk : zr (k : Int) = k := zr_of (by omega) (by omega)
        have lk : ((k : Int) < 40) = False := eq_false (by omega)
        simp only [bk_X11_sheet_0, k_X11_sheet_0, bk_X11_sheet_29, k_X11_sheet_29, bk_X11_sheet_35, k_X11_sheet_35, bk_X11_sheet_49, k_X11_sheet_49, bk_X11_sheet_65, k_X11_sheet_65, bk_X11_sheet_85, k_X11_sheet_85, bk_X11_sheet_86, k_X11_sheet_86, bk_X11_sheet_90, k_X11_sheet_90, bk_X11_sheet_116, k_X11_sheet_116, ↓e_rk1, ↓e_rk0, ↓e_sk0, ↓e_sks, ↓e_ldi0, ↓e_ldis, ↓e_ldl0, ↓e_ldls, ↓e_lda0, ↓e_ldas, ↓e_ok0, ↓e_okss, ↓e_ok1i, ↓e_ok1r, ↓e_ok1n, ↓e_sti, ↓e_sta, ↓e_1, ↓e_2, ↓e_l1, ↓e_l2, ↓e_li, ↓e_sw0, ↓e_sws, ↓e_ceq, ↓e_cne, ↓e_clt, ↓e_cge, ↓e_cgt, ↓e_cle, ↓e_nil, ↓e_cons, ↓e_iconst, ↓e_bipush, ↓e_sipush, ↓e_ldc, ↓e_ldcw, ↓e_ldc2, ↓e_lconst, ↓e_iloadn, ↓e_iload, ↓e_lloadn, ↓e_lload, ↓e_aloadn, ↓e_aload, ↓e_istoren, ↓e_istore, ↓e_astoren, ↓e_astore, ↓e_add, ↓e_iinc, ↓e_iadd, ↓e_isub, ↓e_imul, ↓e_iand, ↓e_ior, ↓e_ixor, ↓e_ishl, ↓e_iushr, ↓e_idiv, ↓e_irem, ↓e_ineg, ↓e_i2l, ↓e_i2b, ↓e_i2s, ↓e_l2i, ↓e_land, ↓e_lor, ↓e_lshl, ↓e_lshr, ↓e_lushr, ↓e_lcmp, ↓e_dupi, ↓e_dupr, ↓e_popi, ↓e_dup2, ↓e_goto, ↓e_if, ↓e_icmp, ↓e_tsw, ↓e_lsw, ↓e_getf, ↓e_putf, ↓e_gets, ↓e_iald, ↓e_cald, ↓e_iast, ↓e_aald, ↓e_aast, ↓e_len, ↓e_copy, ↓e_abs, ↓e_max, ↓e_min, ↓e_iret, ↓e_aret, ↓e_vret, ↓e_is0, ↓e_is1, ↓e_is2, ↓e_is3, ↓e_is4, ↓e_iv1, ↓e_iv2, ↓e_iv3, ↓e_iv4, ↓e_iv5, ↓e_iv6, ↓rt_X11_sheet, ↓reduceIte, Nat.reduceAdd, Nat.reduceEqDiff, ↓zcl0, ↓zclv, List.map_nil, List.sum_nil, List.map_cons, List.sum_cons, zcat, true_and, and_true, Nat.reduceLeDiff, Nat.reduceAdd, eq_self, forall_const, e_ok0, e_okss, e_ok1i, e_ok1r, e_ok1n, zl_0, zl_1, zl_3, zl_8, zl_16, zl_32, zl_40, Int.reduceToNat, Int.reduceAdd, Int.reduceMul, Int.reduceSub, Int.reduceNeg, Int.reduceLT, Int.reduceLE, Int.reduceEq, not_false_eq_true, not_true_eq_false, false_implies, true_implies, implies_true, Int.reduceDiv, Int.reduceMod, zr8_zr, zr_zbo, z01_zbo, z01_0, z01_1, zbo_eq0, zup_eq, zup_o, zup_k, ne_eq, ↓ct_sheet_isSheet, ↓r_isSheet, ↓B_isSheet, ↓ct_sheet_finds, ↓r_finds, ↓B_finds, ↓v_87, ↓g_87_0, ↓l_88, ↓s_88, ↓n_88, ↓g_87_1, ↓l_89, ↓s_89, ↓n_89, ↓g_87_2, ↓l_90, ↓s_90, ↓n_90, ↓g_87_3, ↓p_87_3, ↓g_87_4, ↓l_91, ↓s_91, ↓n_91, ↓g_87_5, ↓p_87_5, ↓g_87_6, ↓p_87_6, ↓g_87_7, ↓p_87_7, ↓g_87_8, ↓p_87_8, ↓g_87_9, ↓p_87_9, ↓g_87_10, ↓p_87_10, ↓g_87_11, ↓l_92, ↓s_92, ↓n_92, ↓g_87_12, ↓l_93, ↓s_93, ↓n_93, ↓g_87_13, ↓p_87_13, ↓g_87_14, ↓l_94, ↓s_94, ↓n_94, ↓g_87_15, ↓p_87_15, ↓g_87_16, ↓l_95, ↓s_95, ↓n_95, ↓g_87_17, ↓l_96, ↓s_96, ↓n_96, ↓g_87_18, ↓l_97, ↓s_97, ↓n_97, ↓g_87_19, ↓p_87_19, ↓g_87_20, ↓p_87_20, ↓g_87_21, ↓l_98, ↓s_98, ↓n_98, ↓g_87_22, ↓l_99, ↓s_99, ↓n_99, ↓g_87_23, ↓l_100, ↓s_100, ↓n_100, ↓g_87_24, ↓l_101, ↓s_101, ↓n_101, zk, lk]
        refine pub_of hC ?_ (by rw [hM 87 (by decide), e15]) (fun x q => by rw [hM x (by omega), e87 x q])
        rw [hR, st_row hM (fun _ => rfl), hd]
        have : k = 40 := by omega
        subst this
        rfl
      | succ j ih =>
        intro k M' hk hd hM
        refine bs_X11_sheet_90 hX ?_
        have zk : zr (k : Int) = k := zr_of (by omega) (by omega)
        have lk : ((k : Int) < 40) = True := eq_true (by omega)
        have zi : zr (40 * s + k) = 40 * s + k := zr_of (by omega) (by omega)
        simp only [bk_X11_sheet_0, k_X11_sheet_0, bk_X11_sheet_29, k_X11_sheet_29, bk_X11_sheet_35, k_X11_sheet_35, bk_X11_sheet_49, k_X11_sheet_49, bk_X11_sheet_65, k_X11_sheet_65, bk_X11_sheet_85, k_X11_sheet_85, bk_X11_sheet_86, k_X11_sheet_86, bk_X11_sheet_90, k_X11_sheet_90, bk_X11_sheet_116, k_X11_sheet_116, ↓e_rk1, ↓e_rk0, ↓e_sk0, ↓e_sks, ↓e_ldi0, ↓e_ldis, ↓e_ldl0, ↓e_ldls, ↓e_lda0, ↓e_ldas, ↓e_ok0, ↓e_okss, ↓e_ok1i, ↓e_ok1r, ↓e_ok1n, ↓e_sti, ↓e_sta, ↓e_1, ↓e_2, ↓e_l1, ↓e_l2, ↓e_li, ↓e_sw0, ↓e_sws, ↓e_ceq, ↓e_cne, ↓e_clt, ↓e_cge, ↓e_cgt, ↓e_cle, ↓e_nil, ↓e_cons, ↓e_iconst, ↓e_bipush, ↓e_sipush, ↓e_ldc, ↓e_ldcw, ↓e_ldc2, ↓e_lconst, ↓e_iloadn, ↓e_iload, ↓e_lloadn, ↓e_lload, ↓e_aloadn, ↓e_aload, ↓e_istoren, ↓e_istore, ↓e_astoren, ↓e_astore, ↓e_add, ↓e_iinc, ↓e_iadd, ↓e_isub, ↓e_imul, ↓e_iand, ↓e_ior, ↓e_ixor, ↓e_ishl, ↓e_iushr, ↓e_idiv, ↓e_irem, ↓e_ineg, ↓e_i2l, ↓e_i2b, ↓e_i2s, ↓e_l2i, ↓e_land, ↓e_lor, ↓e_lshl, ↓e_lshr, ↓e_lushr, ↓e_lcmp, ↓e_dupi, ↓e_dupr, ↓e_popi, ↓e_dup2, ↓e_goto, ↓e_if, ↓e_icmp, ↓e_tsw, ↓e_lsw, ↓e_getf, ↓e_putf, ↓e_gets, ↓e_iald, ↓e_cald, ↓e_iast, ↓e_aald, ↓e_aast, ↓e_len, ↓e_copy, ↓e_abs, ↓e_max, ↓e_min, ↓e_iret, ↓e_aret, ↓e_vret, ↓e_is0, ↓e_is1, ↓e_is2, ↓e_is3, ↓e_is4, ↓e_iv1, ↓e_iv2, ↓e_iv3, ↓e_iv4, ↓e_iv5, ↓e_iv6, ↓rt_X11_sheet, ↓reduceIte, Nat.reduceAdd, Nat.reduceEqDiff, ↓zcl0, ↓zclv, List.map_nil, List.sum_nil, List.map_cons, List.sum_cons, zcat, true_and, and_true, Nat.reduceLeDiff, Nat.reduceAdd, eq_self, forall_const, e_ok0, e_okss, e_ok1i, e_ok1r, e_ok1n, zl_0, zl_1, zl_3, zl_8, zl_16, zl_32, zl_40, Int.reduceToNat, Int.reduceAdd, Int.reduceMul, Int.reduceSub, Int.reduceNeg, Int.reduceLT, Int.reduceLE, Int.reduceEq, not_false_eq_true, not_true_eq_false, false_implies, true_implies, implies_true, Int.reduceDiv, Int.reduceMod, zr8_zr, zr_zbo, z01_zbo, z01_0, z01_1, zbo_eq0, zup_eq, zup_o, zup_k, ne_eq, ↓ct_sheet_isSheet, ↓r_isSheet, ↓B_isSheet, ↓ct_sheet_finds, ↓r_finds, ↓B_finds, ↓v_87, ↓g_87_0, ↓l_88, ↓s_88, ↓n_88, ↓g_87_1, ↓l_89, ↓s_89, ↓n_89, ↓g_87_2, ↓l_90, ↓s_90, ↓n_90, ↓g_87_3, ↓p_87_3, ↓g_87_4, ↓l_91, ↓s_91, ↓n_91, ↓g_87_5, ↓p_87_5, ↓g_87_6, ↓p_87_6, ↓g_87_7, ↓p_87_7, ↓g_87_8, ↓p_87_8, ↓g_87_9, ↓p_87_9, ↓g_87_10, ↓p_87_10, ↓g_87_11, ↓l_92, ↓s_92, ↓n_92, ↓g_87_12, ↓l_93, ↓s_93, ↓n_93, ↓g_87_13, ↓p_87_13, ↓g_87_14, ↓l_94, ↓s_94, ↓n_94, ↓g_87_15, ↓p_87_15, ↓g_87_16, ↓l_95, ↓s_95, ↓n_95, ↓g_87_17, ↓l_96, ↓s_96, ↓n_96, ↓g_87_18, ↓l_97, ↓s_97, ↓n_97, ↓g_87_19, ↓p_87_19, ↓g_87_20, ↓p_87_20, ↓g_87_21, ↓l_98, ↓s_98, ↓n_98, ↓g_87_22, ↓l_99, ↓s_99, ↓n_99, ↓g_87_23, ↓l_100, ↓s_100, ↓n_100, ↓g_87_24, ↓l_101, ↓s_101, ↓n_101, zk, lk, zi]
        repeat (refine And.intro (by omega) ?_)
        refine ih (k + 1) _ (by omega) ?_ (fun x q => by rw [zup_ne _ q]; exact hM x q)
        rw [zup_up, hd]
        funext i
        unfold up1
        by_cases q : i = (40 * s + (k : Int)).toNat
        · rw [if_pos q, if_pos (by omega)]
        · rw [if_neg q]; dsimp only
          by_cases q2 : 40 * s ≤ (i : Int) ∧ (i : Int) < 40 * s + k
          · rw [if_pos q2, if_pos (by omega)]
          · rw [if_neg q2, if_neg (by omega)]
    have go : ∀ v : Int, (0 ≤ s ∧ s ≤ 3) → (b = 0 ∨ b = 8 ∨ b = 16 ∨ b = 32) → (b = 0 ∧ v = 0 ∨ ¬ b = 0 ∧ 0 ≤ n ∧ n ≤ 40 ∧ v = n) → X 90 [some (.inr (.inr (.inl 87))), some (.inl s), some (.inl b), some (.inl n), some (.inl 0)] [] (zG, zup (zup M 98 s.toNat b) 99 s.toNat v) (0, 0) := by
      intro v hs hb hv
      refine lp (zup (zup M 98 s.toNat b) 99 s.toNat v) hs (by rw [zup_ne _ (by decide), zup_ne _ (by decide)]) (by rw [zup_ne _ (by decide), zup_ne _ (by decide)]) (fun x q => by rw [zup_ne _ (by omega), zup_ne _ (by omega)]) ?_ 40 0 _ (by omega) ?_ (fun _ _ => rfl)
      · unfold R_sheet
        rw [if_pos ⟨hs, hb⟩, if_neg (by omega), if_neg (by omega), st_up rfl, st_up rfl]
        have : (if b = 0 then 0 else n) = v := by split <;> omega
        rw [this]
        rfl
      · rw [zup_ne _ (by decide), zup_ne _ (by decide)]
        funext i
        rw [if_neg (by omega)]
    simp only [bk_X11_sheet_0, k_X11_sheet_0, bk_X11_sheet_29, k_X11_sheet_29, bk_X11_sheet_35, k_X11_sheet_35, bk_X11_sheet_49, k_X11_sheet_49, bk_X11_sheet_65, k_X11_sheet_65, bk_X11_sheet_85, k_X11_sheet_85, bk_X11_sheet_86, k_X11_sheet_86, bk_X11_sheet_90, k_X11_sheet_90, bk_X11_sheet_116, k_X11_sheet_116, ↓e_rk1, ↓e_rk0, ↓e_sk0, ↓e_sks, ↓e_ldi0, ↓e_ldis, ↓e_ldl0, ↓e_ldls, ↓e_lda0, ↓e_ldas, ↓e_ok0, ↓e_okss, ↓e_ok1i, ↓e_ok1r, ↓e_ok1n, ↓e_sti, ↓e_sta, ↓e_1, ↓e_2, ↓e_l1, ↓e_l2, ↓e_li, ↓e_sw0, ↓e_sws, ↓e_ceq, ↓e_cne, ↓e_clt, ↓e_cge, ↓e_cgt, ↓e_cle, ↓e_nil, ↓e_cons, ↓e_iconst, ↓e_bipush, ↓e_sipush, ↓e_ldc, ↓e_ldcw, ↓e_ldc2, ↓e_lconst, ↓e_iloadn, ↓e_iload, ↓e_lloadn, ↓e_lload, ↓e_aloadn, ↓e_aload, ↓e_istoren, ↓e_istore, ↓e_astoren, ↓e_astore, ↓e_add, ↓e_iinc, ↓e_iadd, ↓e_isub, ↓e_imul, ↓e_iand, ↓e_ior, ↓e_ixor, ↓e_ishl, ↓e_iushr, ↓e_idiv, ↓e_irem, ↓e_ineg, ↓e_i2l, ↓e_i2b, ↓e_i2s, ↓e_l2i, ↓e_land, ↓e_lor, ↓e_lshl, ↓e_lshr, ↓e_lushr, ↓e_lcmp, ↓e_dupi, ↓e_dupr, ↓e_popi, ↓e_dup2, ↓e_goto, ↓e_if, ↓e_icmp, ↓e_tsw, ↓e_lsw, ↓e_getf, ↓e_putf, ↓e_gets, ↓e_iald, ↓e_cald, ↓e_iast, ↓e_aald, ↓e_aast, ↓e_len, ↓e_copy, ↓e_abs, ↓e_max, ↓e_min, ↓e_iret, ↓e_aret, ↓e_vret, ↓e_is0, ↓e_is1, ↓e_is2, ↓e_is3, ↓e_is4, ↓e_iv1, ↓e_iv2, ↓e_iv3, ↓e_iv4, ↓e_iv5, ↓e_iv6, ↓rt_X11_sheet, ↓reduceIte, Nat.reduceAdd, Nat.reduceEqDiff, ↓zcl0, ↓zclv, List.map_nil, List.sum_nil, List.map_cons, List.sum_cons, zcat, true_and, and_true, Nat.reduceLeDiff, Nat.reduceAdd, eq_self, forall_const, e_ok0, e_okss, e_ok1i, e_ok1r, e_ok1n, zl_0, zl_1, zl_3, zl_8, zl_16, zl_32, zl_40, Int.reduceToNat, Int.reduceAdd, Int.reduceMul, Int.reduceSub, Int.reduceNeg, Int.reduceLT, Int.reduceLE, Int.reduceEq, not_false_eq_true, not_true_eq_false, false_implies, true_implies, implies_true, Int.reduceDiv, Int.reduceMod, zr8_zr, zr_zbo, z01_zbo, z01_0, z01_1, zbo_eq0, zup_eq, zup_o, zup_k, ne_eq, ↓ct_sheet_isSheet, ↓r_isSheet, ↓B_isSheet, ↓ct_sheet_finds, ↓r_finds, ↓B_finds, ↓v_87, ↓g_87_0, ↓l_88, ↓s_88, ↓n_88, ↓g_87_1, ↓l_89, ↓s_89, ↓n_89, ↓g_87_2, ↓l_90, ↓s_90, ↓n_90, ↓g_87_3, ↓p_87_3, ↓g_87_4, ↓l_91, ↓s_91, ↓n_91, ↓g_87_5, ↓p_87_5, ↓g_87_6, ↓p_87_6, ↓g_87_7, ↓p_87_7, ↓g_87_8, ↓p_87_8, ↓g_87_9, ↓p_87_9, ↓g_87_10, ↓p_87_10, ↓g_87_11, ↓l_92, ↓s_92, ↓n_92, ↓g_87_12, ↓l_93, ↓s_93, ↓n_93, ↓g_87_13, ↓p_87_13, ↓g_87_14, ↓l_94, ↓s_94, ↓n_94, ↓g_87_15, ↓p_87_15, ↓g_87_16, ↓l_95, ↓s_95, ↓n_95, ↓g_87_17, ↓l_96, ↓s_96, ↓n_96, ↓g_87_18, ↓l_97, ↓s_97, ↓n_97, ↓g_87_19, ↓p_87_19, ↓g_87_20, ↓p_87_20, ↓g_87_21, ↓l_98, ↓s_98, ↓n_98, ↓g_87_22, ↓l_99, ↓s_99, ↓n_99, ↓g_87_23, ↓l_100, ↓s_100, ↓n_100, ↓g_87_24, ↓l_101, ↓s_101, ↓n_101, zr_rg, h1, zr_rg, h2, zr_rg, h3, zr8_rg, h1, zr8_rg, h2, zr8_zr, zr_zbo, zbo_01, zbo_eq0, zbo_eq1]
    repeat' (first | assumption | apply And.intro | intro _)
    all_goals first | omega | (refine pub_no hC ?_ rfl; simp only [R_sheet]; (repeat' split) <;> first | rfl | omega) | exact go _ (by omega) (by omega) (by omega)
