/-! THE REFERENCE: engineers tried out -/
/-- which engineers are needless -/
def ndw (d : Nat → Int) (n : Int) : Nat → Int
  | 0 => 0
  | e + 1 => zor (ndw d n e) (if gap (yrs d (-1) n.toNat) < gap (yrs d (e : Int) n.toNat) then 0 else zshl 1 e)
def R_needless (S : ZMm) (n : Int) : Int × ZMm := if 0 ≤ n ∧ n ≤ 60 then (ndw (S 88) n (S 88 0).toNat, S) else no S 1
def B_needless (n : Int) (M : Nat → Nat → Int) (post : Option ZV → (Nat → Nat → Int) → Prop) : Prop := rg n ∧ pub M (R_needless (st M) n) post
def C_needless : ZC := fun as h post => match as with
  | [.inr (.inr (.inl 87)), .inl n] => h.1 = zG ∧ B_needless n h.2 (fun v M => post v (zG, M))
  | _ => False
theorem r_needless {n : Int} {M : Nat → Nat → Int} {post : Option ZV → ZH → Prop} : C_needless [.inr (.inr (.inl 87)), .inl n] (zG, M) post = B_needless n M (fun v M => post v (zG, M)) := by show (zG = zG ∧ _) = _; simp
def ct_needless : Nat → ZC := fun n => if n = 183 then C_isAhead else if n = 130 then C_keepAside else if n = 186 then C_apartBehind else if n = 119 then C_finds else fun _ _ _ => False
theorem ct_needless_isAhead {as : List ZV} {h : ZH} {post : Option ZV → ZH → Prop} : ct_needless 183 as h post = C_isAhead as h post := rfl
theorem ct_needless_keepAside {as : List ZV} {h : ZH} {post : Option ZV → ZH → Prop} : ct_needless 130 as h post = C_keepAside as h post := rfl
theorem ct_needless_apartBehind {as : List ZV} {h : ZH} {post : Option ZV → ZH → Prop} : ct_needless 186 as h post = C_apartBehind as h post := rfl
theorem ct_needless_finds {as : List ZV} {h : ZH} {post : Option ZV → ZH → Prop} : ct_needless 119 as h post = C_finds as h post := rfl
theorem c_needless {E : ZE} {d : Nat} (hd : 10 ≤ d) : zMet E d mX11_needless C_needless := by
  refine zmet_of (o := 11) (ini := false) (CT := ct_needless) gd_X11_needless rfl (fun h => by cases h) (by omega) ?_ ?_
  · intro n as h post hh
    unfold ct_needless at hh
    by_cases c : n = 183
    · subst c; exact ⟨gd_X11_isAhead, 2, by omega, c_isAhead (by omega)⟩
    rw [if_neg c] at hh
    by_cases c : n = 130
    · subst c; exact ⟨gd_X11_keepAside, 1, by omega, c_keepAside (by omega)⟩
    rw [if_neg c] at hh
    by_cases c : n = 186
    · subst c; exact ⟨gd_X11_apartBehind, 9, by omega, c_apartBehind (by omega)⟩
    rw [if_neg c] at hh
    by_cases c : n = 119
    · subst c; exact ⟨gd_X11_finds, 1, by omega, c_finds (by omega)⟩
    rw [if_neg c] at hh
    exact hh.elim
  intro as h post hC
  match as, hC with
  | [.inr (.inr (.inl 87)), .inl n], hC =>
    refine ⟨Nat.le_of_ble_eq_true rfl, fun X hX => bs_X11_needless_0 hX ?_⟩
    obtain ⟨G, M⟩ := h
    obtain ⟨hG, hC⟩ := hC
    dsimp only at hG
    subst hG
    simp only [B_needless] at hC
    show bk_X11_needless_0 E ct_needless X _ [some (.inr (.inr (.inl 87))), some (.inl n), none, none, none] [] (zG, M) (0, 0)
    obtain ⟨h1, hC⟩ := hC
    have vd : Vd (M 88) := hC.1.1
    have v1 := vd.2.1
    have y1 : st M 88 1 ≤ 9999 := hC.1.2.1
    have m15 : M 87 15 = -1 := hC.2.1
    have s1 : st M 88 1 = M 88 1 := rfl
    have s88 : st M 88 = M 88 := rfl
    have rm : rg (-1) := ⟨by omega, by omega⟩
    have gq : (0 ≤ n ∧ n ≤ 60) → ∀ wo : Int, 0 ≤ gap (yrs (M 88) wo n.toNat) ∧ gap (yrs (M 88) wo n.toNat) ≤ 14 := fun hn wo => gap_rng (yrs_ok vd wo n.toNat (by omega)).1
    have lp : (0 ≤ n ∧ n ≤ 60) → ∀ (j k : Nat) (M' : ZMm), j + k = (M 88 0).toNat → M' 88 = M 88 → (∀ i, i < 186 → M' 90 i = M 88 i) → (∀ x i, ¬ x = 88 → ¬ x = 90 → ¬ x = 92 → ¬ x = 94 → ¬ (x = 87 ∧ i = 15) → M' x i = M x i) → X 28 [some (.inr (.inr (.inl 87))), some (.inl n), some (.inl (gap (yrs (M 88) (-1) n.toNat))), some (.inl (ndw (M 88) n k)), some (.inl (k : Int))] [] (zG, M') (0, 0) := by
      intro hn j
      have g0 := gq hn (-1)
      have z0 : zr (gap (yrs (M 88) (-1) n.toNat)) = gap (yrs (M 88) (-1) n.toNat) := zr_of (by omega) (by omega)
      have v0 := vd.1
      have zN : zr (M 88 0) = M 88 0 := zr_of (by omega) (by omega)
      induction j with
      | zero =>
        intro k M' hk hd ha hM
        refine bs_X11_needless_28 hX ?_
        have zk : zr (k : Int) = k := zr_of (by omega) (by omega)
        have lk : ((k : Int) < M 88 0) = False := eq_false (by omega)
        simp only [bk_X11_needless_0, k_X11_needless_0, bk_X11_needless_13, k_X11_needless_13, bk_X11_needless_28, k_X11_needless_28, bk_X11_needless_62, k_X11_needless_62, bk_X11_needless_63, k_X11_needless_63, bk_X11_needless_71, k_X11_needless_71, ↓e_rk1, ↓e_rk0, ↓e_sk0, ↓e_sks, ↓e_ldi0, ↓e_ldis, ↓e_ldl0, ↓e_ldls, ↓e_lda0, ↓e_ldas, ↓e_ok0, ↓e_okss, ↓e_ok1i, ↓e_ok1r, ↓e_ok1n, ↓e_sti, ↓e_sta, ↓e_1, ↓e_2, ↓e_l1, ↓e_l2, ↓e_li, ↓e_sw0, ↓e_sws, ↓e_ceq, ↓e_cne, ↓e_clt, ↓e_cge, ↓e_cgt, ↓e_cle, ↓e_nil, ↓e_cons, ↓e_iconst, ↓e_bipush, ↓e_sipush, ↓e_ldc, ↓e_ldcw, ↓e_ldc2, ↓e_lconst, ↓e_iloadn, ↓e_iload, ↓e_lloadn, ↓e_lload, ↓e_aloadn, ↓e_aload, ↓e_istoren, ↓e_istore, ↓e_astoren, ↓e_astore, ↓e_add, ↓e_iinc, ↓e_iadd, ↓e_isub, ↓e_imul, ↓e_iand, ↓e_ior, ↓e_ixor, ↓e_ishl, ↓e_iushr, ↓e_idiv, ↓e_irem, ↓e_ineg, ↓e_i2l, ↓e_i2b, ↓e_i2s, ↓e_l2i, ↓e_land, ↓e_lor, ↓e_lshl, ↓e_lshr, ↓e_lushr, ↓e_lcmp, ↓e_dupi, ↓e_dupr, ↓e_popi, ↓e_dup2, ↓e_goto, ↓e_if, ↓e_icmp, ↓e_tsw, ↓e_lsw, ↓e_getf, ↓e_putf, ↓e_gets, ↓e_iald, ↓e_cald, ↓e_iast, ↓e_aald, ↓e_aast, ↓e_len, ↓e_copy, ↓e_abs, ↓e_max, ↓e_min, ↓e_iret, ↓e_aret, ↓e_vret, ↓e_is0, ↓e_is1, ↓e_is2, ↓e_is3, ↓e_is4, ↓e_iv1, ↓e_iv2, ↓e_iv3, ↓e_iv4, ↓e_iv5, ↓e_iv6, ↓rt_X11_needless, ↓reduceIte, Nat.reduceAdd, Nat.reduceEqDiff, ↓zcl0, ↓zclv, List.map_nil, List.sum_nil, List.map_cons, List.sum_cons, zcat, true_and, and_true, Nat.reduceLeDiff, Nat.reduceAdd, eq_self, forall_const, e_ok0, e_okss, e_ok1i, e_ok1r, e_ok1n, zl_m1, zl_0, zl_1, Int.reduceToNat, Int.reduceAdd, Int.reduceMul, Int.reduceSub, Int.reduceNeg, Int.reduceLT, Int.reduceLE, Int.reduceEq, not_false_eq_true, not_true_eq_false, false_implies, true_implies, implies_true, Int.reduceDiv, Int.reduceMod, zr8_zr, zr_zbo, z01_zbo, z01_0, z01_1, zbo_eq0, zup_eq, zup_o, zup_k, ne_eq, ↓ct_needless_isAhead, ↓r_isAhead, ↓B_isAhead, ↓ct_needless_keepAside, ↓r_keepAside, ↓B_keepAside, ↓ct_needless_apartBehind, ↓r_apartBehind, ↓B_apartBehind, ↓ct_needless_finds, ↓r_finds, ↓B_finds, ↓v_87, ↓g_87_0, ↓l_88, ↓s_88, ↓n_88, ↓g_87_1, ↓l_89, ↓s_89, ↓n_89, ↓g_87_2, ↓l_90, ↓s_90, ↓n_90, ↓g_87_3, ↓p_87_3, ↓g_87_4, ↓l_91, ↓s_91, ↓n_91, ↓g_87_5, ↓p_87_5, ↓g_87_6, ↓p_87_6, ↓g_87_7, ↓p_87_7, ↓g_87_8, ↓p_87_8, ↓g_87_9, ↓p_87_9, ↓g_87_10, ↓p_87_10, ↓g_87_11, ↓l_92, ↓s_92, ↓n_92, ↓g_87_12, ↓l_93, ↓s_93, ↓n_93, ↓g_87_13, ↓p_87_13, ↓g_87_14, ↓l_94, ↓s_94, ↓n_94, ↓g_87_15, ↓p_87_15, ↓g_87_16, ↓l_95, ↓s_95, ↓n_95, ↓g_87_17, ↓l_96, ↓s_96, ↓n_96, ↓g_87_18, ↓l_97, ↓s_97, ↓n_97, ↓g_87_19, ↓p_87_19, ↓g_87_20, ↓p_87_20, ↓g_87_21, ↓l_98, ↓s_98, ↓n_98, ↓g_87_22, ↓l_99, ↓s_99, ↓n_99, ↓g_87_23, ↓l_100, ↓s_100, ↓n_100, ↓g_87_24, ↓l_101, ↓s_101, ↓n_101, zk, hd, zN, lk]
        refine pub_sm hC (fun x q q0 q1 q2 => ?_) (by rw [zup_ne _ (by decide), hd]) ?_
        · funext i
          by_cases qi : x = 87 ∧ i = 15
          · obtain ⟨e1, e2⟩ := qi
            subst e1; subst e2
            rw [zup_eq, m15]
          · have : zup M' 87 15 (-1) x i = M' x i := by simp [zup, qi]
            rw [this, hM x i q q0 q1 q2 qi]
        · unfold R_needless
          rw [if_pos hn, s88, show k = (M 88 0).toNat by omega]
      | succ j ih =>
        intro k M' hk hd ha hM
        refine bs_X11_needless_28 hX ?_
        have zk : zr (k : Int) = k := zr_of (by omega) (by omega)
        have lk : ((k : Int) < M 88 0) = True := eq_true (by omega)
        have gk := gq hn k
        have zg : zr (gap (yrs (M 88) (k : Int) n.toNat)) = gap (yrs (M 88) (k : Int) n.toNat) := zr_of (by omega) (by omega)
        simp only [bk_X11_needless_0, k_X11_needless_0, bk_X11_needless_13, k_X11_needless_13, bk_X11_needless_28, k_X11_needless_28, bk_X11_needless_62, k_X11_needless_62, bk_X11_needless_63, k_X11_needless_63, bk_X11_needless_71, k_X11_needless_71, ↓e_rk1, ↓e_rk0, ↓e_sk0, ↓e_sks, ↓e_ldi0, ↓e_ldis, ↓e_ldl0, ↓e_ldls, ↓e_lda0, ↓e_ldas, ↓e_ok0, ↓e_okss, ↓e_ok1i, ↓e_ok1r, ↓e_ok1n, ↓e_sti, ↓e_sta, ↓e_1, ↓e_2, ↓e_l1, ↓e_l2, ↓e_li, ↓e_sw0, ↓e_sws, ↓e_ceq, ↓e_cne, ↓e_clt, ↓e_cge, ↓e_cgt, ↓e_cle, ↓e_nil, ↓e_cons, ↓e_iconst, ↓e_bipush, ↓e_sipush, ↓e_ldc, ↓e_ldcw, ↓e_ldc2, ↓e_lconst, ↓e_iloadn, ↓e_iload, ↓e_lloadn, ↓e_lload, ↓e_aloadn, ↓e_aload, ↓e_istoren, ↓e_istore, ↓e_astoren, ↓e_astore, ↓e_add, ↓e_iinc, ↓e_iadd, ↓e_isub, ↓e_imul, ↓e_iand, ↓e_ior, ↓e_ixor, ↓e_ishl, ↓e_iushr, ↓e_idiv, ↓e_irem, ↓e_ineg, ↓e_i2l, ↓e_i2b, ↓e_i2s, ↓e_l2i, ↓e_land, ↓e_lor, ↓e_lshl, ↓e_lshr, ↓e_lushr, ↓e_lcmp, ↓e_dupi, ↓e_dupr, ↓e_popi, ↓e_dup2, ↓e_goto, ↓e_if, ↓e_icmp, ↓e_tsw, ↓e_lsw, ↓e_getf, ↓e_putf, ↓e_gets, ↓e_iald, ↓e_cald, ↓e_iast, ↓e_aald, ↓e_aast, ↓e_len, ↓e_copy, ↓e_abs, ↓e_max, ↓e_min, ↓e_iret, ↓e_aret, ↓e_vret, ↓e_is0, ↓e_is1, ↓e_is2, ↓e_is3, ↓e_is4, ↓e_iv1, ↓e_iv2, ↓e_iv3, ↓e_iv4, ↓e_iv5, ↓e_iv6, ↓rt_X11_needless, ↓reduceIte, Nat.reduceAdd, Nat.reduceEqDiff, ↓zcl0, ↓zclv, List.map_nil, List.sum_nil, List.map_cons, List.sum_cons, zcat, true_and, and_true, Nat.reduceLeDiff, Nat.reduceAdd, eq_self, forall_const, e_ok0, e_okss, e_ok1i, e_ok1r, e_ok1n, zl_m1, zl_0, zl_1, Int.reduceToNat, Int.reduceAdd, Int.reduceMul, Int.reduceSub, Int.reduceNeg, Int.reduceLT, Int.reduceLE, Int.reduceEq, not_false_eq_true, not_true_eq_false, false_implies, true_implies, implies_true, Int.reduceDiv, Int.reduceMod, zr8_zr, zr_zbo, z01_zbo, z01_0, z01_1, zbo_eq0, zup_eq, zup_o, zup_k, ne_eq, ↓ct_needless_isAhead, ↓r_isAhead, ↓B_isAhead, ↓ct_needless_keepAside, ↓r_keepAside, ↓B_keepAside, ↓ct_needless_apartBehind, ↓r_apartBehind, ↓B_apartBehind, ↓ct_needless_finds, ↓r_finds, ↓B_finds, ↓v_87, ↓g_87_0, ↓l_88, ↓s_88, ↓n_88, ↓g_87_1, ↓l_89, ↓s_89, ↓n_89, ↓g_87_2, ↓l_90, ↓s_90, ↓n_90, ↓g_87_3, ↓p_87_3, ↓g_87_4, ↓l_91, ↓s_91, ↓n_91, ↓g_87_5, ↓p_87_5, ↓g_87_6, ↓p_87_6, ↓g_87_7, ↓p_87_7, ↓g_87_8, ↓p_87_8, ↓g_87_9, ↓p_87_9, ↓g_87_10, ↓p_87_10, ↓g_87_11, ↓l_92, ↓s_92, ↓n_92, ↓g_87_12, ↓l_93, ↓s_93, ↓n_93, ↓g_87_13, ↓p_87_13, ↓g_87_14, ↓l_94, ↓s_94, ↓n_94, ↓g_87_15, ↓p_87_15, ↓g_87_16, ↓l_95, ↓s_95, ↓n_95, ↓g_87_17, ↓l_96, ↓s_96, ↓n_96, ↓g_87_18, ↓l_97, ↓s_97, ↓n_97, ↓g_87_19, ↓p_87_19, ↓g_87_20, ↓p_87_20, ↓g_87_21, ↓l_98, ↓s_98, ↓n_98, ↓g_87_22, ↓l_99, ↓s_99, ↓n_99, ↓g_87_23, ↓l_100, ↓s_100, ↓n_100, ↓g_87_24, ↓l_101, ↓s_101, ↓n_101, zk, hd, zN, lk, z0, zg]
        rw [zup_ne _ (show ¬ (88 : Nat) = 87 by decide), hd, zg]
        refine ⟨by omega, by omega, ⟨by omega, by omega⟩, vd, by omega, fun M2 h2 hM2 => ?_⟩
        have nx := ih (k + 1) M2 (by omega) ?_ ?_ ?_
        · simp only [ndw] at nx
          refine ⟨fun c => ?_, fun c => ?_⟩
          · rw [if_pos c] at nx; exact nx
          · rw [if_neg c] at nx; exact nx
        · rw [h2]
          funext i
          by_cases q : i < 186
          · rw [if_pos q, ha i q]
          · rw [if_neg q]
        · intro i hi
          rw [hM2 90 (by decide) (by decide) (by decide), zup_ne _ (by decide), ha i hi]
        · intro x i q q0 q1 q2 q3
          have : zup M' 87 15 (k : Int) x i = M' x i := by simp [zup, q3]
          rw [hM2 x q q1 q2, this, hM x i q q0 q1 q2 q3]
    simp only [bk_X11_needless_0, k_X11_needless_0, bk_X11_needless_13, k_X11_needless_13, bk_X11_needless_28, k_X11_needless_28, bk_X11_needless_62, k_X11_needless_62, bk_X11_needless_63, k_X11_needless_63, bk_X11_needless_71, k_X11_needless_71, ↓e_rk1, ↓e_rk0, ↓e_sk0, ↓e_sks, ↓e_ldi0, ↓e_ldis, ↓e_ldl0, ↓e_ldls, ↓e_lda0, ↓e_ldas, ↓e_ok0, ↓e_okss, ↓e_ok1i, ↓e_ok1r, ↓e_ok1n, ↓e_sti, ↓e_sta, ↓e_1, ↓e_2, ↓e_l1, ↓e_l2, ↓e_li, ↓e_sw0, ↓e_sws, ↓e_ceq, ↓e_cne, ↓e_clt, ↓e_cge, ↓e_cgt, ↓e_cle, ↓e_nil, ↓e_cons, ↓e_iconst, ↓e_bipush, ↓e_sipush, ↓e_ldc, ↓e_ldcw, ↓e_ldc2, ↓e_lconst, ↓e_iloadn, ↓e_iload, ↓e_lloadn, ↓e_lload, ↓e_aloadn, ↓e_aload, ↓e_istoren, ↓e_istore, ↓e_astoren, ↓e_astore, ↓e_add, ↓e_iinc, ↓e_iadd, ↓e_isub, ↓e_imul, ↓e_iand, ↓e_ior, ↓e_ixor, ↓e_ishl, ↓e_iushr, ↓e_idiv, ↓e_irem, ↓e_ineg, ↓e_i2l, ↓e_i2b, ↓e_i2s, ↓e_l2i, ↓e_land, ↓e_lor, ↓e_lshl, ↓e_lshr, ↓e_lushr, ↓e_lcmp, ↓e_dupi, ↓e_dupr, ↓e_popi, ↓e_dup2, ↓e_goto, ↓e_if, ↓e_icmp, ↓e_tsw, ↓e_lsw, ↓e_getf, ↓e_putf, ↓e_gets, ↓e_iald, ↓e_cald, ↓e_iast, ↓e_aald, ↓e_aast, ↓e_len, ↓e_copy, ↓e_abs, ↓e_max, ↓e_min, ↓e_iret, ↓e_aret, ↓e_vret, ↓e_is0, ↓e_is1, ↓e_is2, ↓e_is3, ↓e_is4, ↓e_iv1, ↓e_iv2, ↓e_iv3, ↓e_iv4, ↓e_iv5, ↓e_iv6, ↓rt_X11_needless, ↓reduceIte, Nat.reduceAdd, Nat.reduceEqDiff, ↓zcl0, ↓zclv, List.map_nil, List.sum_nil, List.map_cons, List.sum_cons, zcat, true_and, and_true, Nat.reduceLeDiff, Nat.reduceAdd, eq_self, forall_const, e_ok0, e_okss, e_ok1i, e_ok1r, e_ok1n, zl_m1, zl_0, zl_1, Int.reduceToNat, Int.reduceAdd, Int.reduceMul, Int.reduceSub, Int.reduceNeg, Int.reduceLT, Int.reduceLE, Int.reduceEq, not_false_eq_true, not_true_eq_false, false_implies, true_implies, implies_true, Int.reduceDiv, Int.reduceMod, zr8_zr, zr_zbo, z01_zbo, z01_0, z01_1, zbo_eq0, zup_eq, zup_o, zup_k, ne_eq, ↓ct_needless_isAhead, ↓r_isAhead, ↓B_isAhead, ↓ct_needless_keepAside, ↓r_keepAside, ↓B_keepAside, ↓ct_needless_apartBehind, ↓r_apartBehind, ↓B_apartBehind, ↓ct_needless_finds, ↓r_finds, ↓B_finds, ↓v_87, ↓g_87_0, ↓l_88, ↓s_88, ↓n_88, ↓g_87_1, ↓l_89, ↓s_89, ↓n_89, ↓g_87_2, ↓l_90, ↓s_90, ↓n_90, ↓g_87_3, ↓p_87_3, ↓g_87_4, ↓l_91, ↓s_91, ↓n_91, ↓g_87_5, ↓p_87_5, ↓g_87_6, ↓p_87_6, ↓g_87_7, ↓p_87_7, ↓g_87_8, ↓p_87_8, ↓g_87_9, ↓p_87_9, ↓g_87_10, ↓p_87_10, ↓g_87_11, ↓l_92, ↓s_92, ↓n_92, ↓g_87_12, ↓l_93, ↓s_93, ↓n_93, ↓g_87_13, ↓p_87_13, ↓g_87_14, ↓l_94, ↓s_94, ↓n_94, ↓g_87_15, ↓p_87_15, ↓g_87_16, ↓l_95, ↓s_95, ↓n_95, ↓g_87_17, ↓l_96, ↓s_96, ↓n_96, ↓g_87_18, ↓l_97, ↓s_97, ↓n_97, ↓g_87_19, ↓p_87_19, ↓g_87_20, ↓p_87_20, ↓g_87_21, ↓l_98, ↓s_98, ↓n_98, ↓g_87_22, ↓l_99, ↓s_99, ↓n_99, ↓g_87_23, ↓l_100, ↓s_100, ↓n_100, ↓g_87_24, ↓l_101, ↓s_101, ↓n_101, m15, zr_rg, h1, zr8_rg, h1, zr8_zr, zr_zbo, zbo_01, zbo_eq0, zbo_eq1]
    refine ⟨fun c1 => ?_, fun c1 M1 hk1 hM1 => ?_⟩
    · exact pub_no hC (by unfold R_needless; rw [if_neg (by omega)]) rfl
    rw [hM1 88 (by decide), hM1 87 (by decide), m15]
    refine ⟨by omega, by omega, rm, vd, by omega, fun M2 h2 hM2 => ?_⟩
    refine lp (by omega) (M 88 0).toNat 0 M2 (by omega) ?_ (fun i hi => ?_) (fun x i q q0 q1 q2 _ => ?_)
    · rw [h2]
      funext i
      by_cases q : i < 186
      · rw [if_pos q, hk1 i q]
      · rw [if_neg q]
    · rw [hM2 90 (by decide) (by decide) (by decide), hk1 i hi]
    · rw [hM2 x q q1 q2, hM1 x q0]
