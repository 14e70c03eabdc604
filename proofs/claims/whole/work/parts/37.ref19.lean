/-! THE REFERENCE: meets -/
def mtn (d : Nat → Int) : Nat → Nat → Nat
  | 0, k => k
  | j + 1, k => if 0 < gap (yrs d (-1) k) then mtn d j (k + 1) else k
def R_meets (S : ZMm) : Int × ZMm := if gap (yrs (S 88) (-1) (mtn (S 88) 60 0)) = 0 then (((mtn (S 88) 60 0 : Nat) : Int), S) else no S 2
def B_meets (M : Nat → Nat → Int) (post : Option ZV → (Nat → Nat → Int) → Prop) : Prop := pub M (R_meets (st M)) post
def C_meets : ZC := fun as h post => match as with
  | [.inr (.inr (.inl 87))] => h.1 = zG ∧ B_meets h.2 (fun v M => post v (zG, M))
  | _ => False
theorem r_meets {M : Nat → Nat → Int} {post : Option ZV → ZH → Prop} : C_meets [.inr (.inr (.inl 87))] (zG, M) post = B_meets M (fun v M => post v (zG, M)) := by show (zG = zG ∧ _) = _; simp
def ct_meets : Nat → ZC := fun n => if n = 130 then C_keepAside else if n = 153 then C_heads else if n = 163 then C_yearGoes else if n = 131 then C_putBack else if n = 119 then C_finds else fun _ _ _ => False
theorem ct_meets_keepAside {as : List ZV} {h : ZH} {post : Option ZV → ZH → Prop} : ct_meets 130 as h post = C_keepAside as h post := rfl
theorem ct_meets_heads {as : List ZV} {h : ZH} {post : Option ZV → ZH → Prop} : ct_meets 153 as h post = C_heads as h post := rfl
theorem ct_meets_yearGoes {as : List ZV} {h : ZH} {post : Option ZV → ZH → Prop} : ct_meets 163 as h post = C_yearGoes as h post := rfl
theorem ct_meets_putBack {as : List ZV} {h : ZH} {post : Option ZV → ZH → Prop} : ct_meets 131 as h post = C_putBack as h post := rfl
theorem ct_meets_finds {as : List ZV} {h : ZH} {post : Option ZV → ZH → Prop} : ct_meets 119 as h post = C_finds as h post := rfl
theorem c_meets {E : ZE} {d : Nat} (hd : 8 ≤ d) : zMet E d mX11_meets C_meets := by
  refine zmet_of (o := 11) (ini := false) (CT := ct_meets) gd_X11_meets rfl (fun h => by cases h) (by omega) ?_ ?_
  · intro n as h post hh
    unfold ct_meets at hh
    by_cases c : n = 130
    · subst c; exact ⟨gd_X11_keepAside, 1, by omega, c_keepAside (by omega)⟩
    rw [if_neg c] at hh
    by_cases c : n = 153
    · subst c; exact ⟨gd_X11_heads, 3, by omega, c_heads (by omega)⟩
    rw [if_neg c] at hh
    by_cases c : n = 163
    · subst c; exact ⟨gd_X11_yearGoes, 7, by omega, c_yearGoes (by omega)⟩
    rw [if_neg c] at hh
    by_cases c : n = 131
    · subst c; exact ⟨gd_X11_putBack, 1, by omega, c_putBack (by omega)⟩
    rw [if_neg c] at hh
    by_cases c : n = 119
    · subst c; exact ⟨gd_X11_finds, 1, by omega, c_finds (by omega)⟩
    rw [if_neg c] at hh
    exact hh.elim
  intro as h post hC
  match as, hC with
  | [.inr (.inr (.inl 87))], hC =>
    refine ⟨Nat.le_of_ble_eq_true rfl, fun X hX => bs_X11_meets_0 hX ?_⟩
    obtain ⟨G, M⟩ := h
    obtain ⟨hG, hC⟩ := hC
    dsimp only at hG
    subst hG
    simp only [B_meets] at hC
    show bk_X11_meets_0 E ct_meets X _ [some (.inr (.inr (.inl 87))), none, none] [] (zG, M) (0, 0)
    have vd : Vd (M 88) := hC.1.1
    have v1 := vd.2.1
    have y1 : st M 88 1 ≤ 9999 := hC.1.2.1
    have m15 : M 87 15 = -1 := hC.2.1
    have s1 : st M 88 1 = M 88 1 := rfl
    have s88 : st M 88 = M 88 := rfl
    have rm : rg (-1) := ⟨by omega, by omega⟩
    have ex : ∀ (k : Nat) (M' : ZMm), k ≤ 60 → mtn (M 88) 60 0 = k → (∀ i, i < 186 → M' 90 i = M 88 i) → (∀ x, ¬ x = 88 → ¬ x = 90 → ¬ x = 92 → ¬ x = 94 → M' x = M x) → (gap (yrs (M 88) (-1) k) = 0 → ∀ M2 : ZMm, (M2 88 = fun i => if i < 186 then M' 90 i else yrs (M 88) (-1) k i) → (∀ x, ¬ x = 88 → M2 x = M' x) → post (some (.inl (k : Int))) (zG, M2)) ∧ (¬ gap (yrs (M 88) (-1) k) = 0 → ∀ M2 : ZMm, (M2 88 = fun i => if i < 186 then M' 90 i else yrs (M 88) (-1) k i) → (∀ x, ¬ x = 88 → M2 x = M' x) → post (some (.inl (-1000000002))) (zG, zup M2 91 2 (M2 91 2 + 1))) := by
      intro k M' hk hm ha hM
      have bk : ∀ M2 : ZMm, (M2 88 = fun i => if i < 186 then M' 90 i else yrs (M 88) (-1) k i) → M2 88 = M 88 := by
        intro M2 h2
        rw [h2]
        funext i
        by_cases q : i < 186
        · rw [if_pos q, ha i q]
        · rw [if_neg q, yrs_hi vd (-1) (by omega) k (by omega)]
      refine ⟨fun c M2 h2 hM2 => ?_, fun c M2 h2 hM2 => ?_⟩
      · refine pub_sm hC (fun x q q0 q1 q2 => (hM2 x q).trans (hM x q q0 q1 q2)) (bk M2 h2) ?_
        unfold R_meets
        rw [s88, hm, if_pos c]
      · refine pub_nb hC (fun x q q0 q1 q2 => (hM2 x q).trans (hM x q q0 q1 q2)) (bk M2 h2) ?_ rfl
        unfold R_meets
        rw [s88, hm, if_neg c]
    have lp : ∀ (j k : Nat) (M' : ZMm), j + k = 60 → mtn (M 88) 60 0 = mtn (M 88) j k → M' 88 = yrs (M 88) (-1) k → (∀ i, i < 186 → M' 90 i = M 88 i) → (∀ x, ¬ x = 88 → ¬ x = 90 → ¬ x = 92 → ¬ x = 94 → M' x = M x) → X 6 [some (.inr (.inr (.inl 87))), some (.inl (k : Int)), none] [] (zG, M') (0, 0) := by
      intro j
      induction j with
      | zero =>
        intro k M' hk hm hd ha hM
        refine bs_X11_meets_6 hX ?_
        have zk : zr (k : Int) = k := zr_of (by omega) (by omega)
        have lk : ((k : Int) < 60) = False := eq_false (by omega)
        have ok := yrs_ok vd (-1) k (by omega)
        have q0 := (Vd_hi ok.1 (e := 0) (by omega) (by omega)).1
        have q1 := (Vd_hi ok.1 (e := 1) (by omega) (by omega)).1
        have eg : fr (yrs (M 88) (-1) k 134) (yrs (M 88) (-1) k 138) = gap (yrs (M 88) (-1) k) := rfl
        have gr := gap_rng ok.1
        have zg : zr (gap (yrs (M 88) (-1) k)) = gap (yrs (M 88) (-1) k) := zr_of (by omega) (by omega)
        simp only [bk_X11_meets_0, k_X11_meets_0, bk_X11_meets_6, k_X11_meets_6, bk_X11_meets_29, k_X11_meets_29, bk_X11_meets_40, k_X11_meets_40, bk_X11_meets_41, k_X11_meets_41, bk_X11_meets_54, k_X11_meets_54, bk_X11_meets_59, k_X11_meets_59, ↓e_rk1, ↓e_rk0, ↓e_sk0, ↓e_sks, ↓e_ldi0, ↓e_ldis, ↓e_ldl0, ↓e_ldls, ↓e_lda0, ↓e_ldas, ↓e_ok0, ↓e_okss, ↓e_ok1i, ↓e_ok1r, ↓e_ok1n, ↓e_sti, ↓e_sta, ↓e_1, ↓e_2, ↓e_l1, ↓e_l2, ↓e_li, ↓e_sw0, ↓e_sws, ↓e_ceq, ↓e_cne, ↓e_clt, ↓e_cge, ↓e_cgt, ↓e_cle, ↓e_nil, ↓e_cons, ↓e_iconst, ↓e_bipush, ↓e_sipush, ↓e_ldc, ↓e_ldcw, ↓e_ldc2, ↓e_lconst, ↓e_iloadn, ↓e_iload, ↓e_lloadn, ↓e_lload, ↓e_aloadn, ↓e_aload, ↓e_istoren, ↓e_istore, ↓e_astoren, ↓e_astore, ↓e_add, ↓e_iinc, ↓e_iadd, ↓e_isub, ↓e_imul, ↓e_iand, ↓e_ior, ↓e_ixor, ↓e_ishl, ↓e_iushr, ↓e_idiv, ↓e_irem, ↓e_ineg, ↓e_i2l, ↓e_i2b, ↓e_i2s, ↓e_l2i, ↓e_land, ↓e_lor, ↓e_lshl, ↓e_lshr, ↓e_lushr, ↓e_lcmp, ↓e_dupi, ↓e_dupr, ↓e_popi, ↓e_dup2, ↓e_goto, ↓e_if, ↓e_icmp, ↓e_tsw, ↓e_lsw, ↓e_getf, ↓e_putf, ↓e_gets, ↓e_iald, ↓e_cald, ↓e_iast, ↓e_aald, ↓e_aast, ↓e_len, ↓e_copy, ↓e_abs, ↓e_max, ↓e_min, ↓e_iret, ↓e_aret, ↓e_vret, ↓e_is0, ↓e_is1, ↓e_is2, ↓e_is3, ↓e_is4, ↓e_iv1, ↓e_iv2, ↓e_iv3, ↓e_iv4, ↓e_iv5, ↓e_iv6, ↓rt_X11_meets, ↓reduceIte, Nat.reduceAdd, Nat.reduceEqDiff, ↓zcl0, ↓zclv, List.map_nil, List.sum_nil, List.map_cons, List.sum_cons, zcat, true_and, and_true, Nat.reduceLeDiff, Nat.reduceAdd, eq_self, forall_const, e_ok0, e_okss, e_ok1i, e_ok1r, e_ok1n, zl_0, zl_1, zl_2, zl_60, Int.reduceToNat, Int.reduceAdd, Int.reduceMul, Int.reduceSub, Int.reduceNeg, Int.reduceLT, Int.reduceLE, Int.reduceEq, not_false_eq_true, not_true_eq_false, false_implies, true_implies, implies_true, Int.reduceDiv, Int.reduceMod, zr8_zr, zr_zbo, z01_zbo, z01_0, z01_1, zbo_eq0, zup_eq, zup_o, zup_k, ne_eq, ↓ct_meets_keepAside, ↓r_keepAside, ↓B_keepAside, ↓ct_meets_heads, ↓r_heads, ↓B_heads, ↓ct_meets_yearGoes, ↓r_yearGoes, ↓B_yearGoes, ↓ct_meets_putBack, ↓r_putBack, ↓B_putBack, ↓ct_meets_finds, ↓r_finds, ↓B_finds, ↓v_87, ↓g_87_0, ↓l_88, ↓s_88, ↓n_88, ↓g_87_1, ↓l_89, ↓s_89, ↓n_89, ↓g_87_2, ↓l_90, ↓s_90, ↓n_90, ↓g_87_3, ↓p_87_3, ↓g_87_4, ↓l_91, ↓s_91, ↓n_91, ↓g_87_5, ↓p_87_5, ↓g_87_6, ↓p_87_6, ↓g_87_7, ↓p_87_7, ↓g_87_8, ↓p_87_8, ↓g_87_9, ↓p_87_9, ↓g_87_10, ↓p_87_10, ↓g_87_11, ↓l_92, ↓s_92, ↓n_92, ↓g_87_12, ↓l_93, ↓s_93, ↓n_93, ↓g_87_13, ↓p_87_13, ↓g_87_14, ↓l_94, ↓s_94, ↓n_94, ↓g_87_15, ↓p_87_15, ↓g_87_16, ↓l_95, ↓s_95, ↓n_95, ↓g_87_17, ↓l_96, ↓s_96, ↓n_96, ↓g_87_18, ↓l_97, ↓s_97, ↓n_97, ↓g_87_19, ↓p_87_19, ↓g_87_20, ↓p_87_20, ↓g_87_21, ↓l_98, ↓s_98, ↓n_98, ↓g_87_22, ↓l_99, ↓s_99, ↓n_99, ↓g_87_23, ↓l_100, ↓s_100, ↓n_100, ↓g_87_24, ↓l_101, ↓s_101, ↓n_101, zk, lk, hd, eg, zg]
        exact ⟨q0.1, q0.2, q1.1, q1.2, ex k M' (by omega) hm ha hM⟩
      | succ j ih =>
        intro k M' hk hm hd ha hM
        refine bs_X11_meets_6 hX ?_
        have zk : zr (k : Int) = k := zr_of (by omega) (by omega)
        have lk : ((k : Int) < 60) = True := eq_true (by omega)
        have ok := yrs_ok vd (-1) k (by omega)
        have q0 := (Vd_hi ok.1 (e := 0) (by omega) (by omega)).1
        have q1 := (Vd_hi ok.1 (e := 1) (by omega) (by omega)).1
        have eg : fr (yrs (M 88) (-1) k 134) (yrs (M 88) (-1) k 138) = gap (yrs (M 88) (-1) k) := rfl
        have gr := gap_rng ok.1
        have zg : zr (gap (yrs (M 88) (-1) k)) = gap (yrs (M 88) (-1) k) := zr_of (by omega) (by omega)
        have m87 : M' 87 15 = -1 := by rw [hM 87 (by decide) (by decide) (by decide) (by decide)]; exact m15
        simp only [bk_X11_meets_0, k_X11_meets_0, bk_X11_meets_6, k_X11_meets_6, bk_X11_meets_29, k_X11_meets_29, bk_X11_meets_40, k_X11_meets_40, bk_X11_meets_41, k_X11_meets_41, bk_X11_meets_54, k_X11_meets_54, bk_X11_meets_59, k_X11_meets_59, ↓e_rk1, ↓e_rk0, ↓e_sk0, ↓e_sks, ↓e_ldi0, ↓e_ldis, ↓e_ldl0, ↓e_ldls, ↓e_lda0, ↓e_ldas, ↓e_ok0, ↓e_okss, ↓e_ok1i, ↓e_ok1r, ↓e_ok1n, ↓e_sti, ↓e_sta, ↓e_1, ↓e_2, ↓e_l1, ↓e_l2, ↓e_li, ↓e_sw0, ↓e_sws, ↓e_ceq, ↓e_cne, ↓e_clt, ↓e_cge, ↓e_cgt, ↓e_cle, ↓e_nil, ↓e_cons, ↓e_iconst, ↓e_bipush, ↓e_sipush, ↓e_ldc, ↓e_ldcw, ↓e_ldc2, ↓e_lconst, ↓e_iloadn, ↓e_iload, ↓e_lloadn, ↓e_lload, ↓e_aloadn, ↓e_aload, ↓e_istoren, ↓e_istore, ↓e_astoren, ↓e_astore, ↓e_add, ↓e_iinc, ↓e_iadd, ↓e_isub, ↓e_imul, ↓e_iand, ↓e_ior, ↓e_ixor, ↓e_ishl, ↓e_iushr, ↓e_idiv, ↓e_irem, ↓e_ineg, ↓e_i2l, ↓e_i2b, ↓e_i2s, ↓e_l2i, ↓e_land, ↓e_lor, ↓e_lshl, ↓e_lshr, ↓e_lushr, ↓e_lcmp, ↓e_dupi, ↓e_dupr, ↓e_popi, ↓e_dup2, ↓e_goto, ↓e_if, ↓e_icmp, ↓e_tsw, ↓e_lsw, ↓e_getf, ↓e_putf, ↓e_gets, ↓e_iald, ↓e_cald, ↓e_iast, ↓e_aald, ↓e_aast, ↓e_len, ↓e_copy, ↓e_abs, ↓e_max, ↓e_min, ↓e_iret, ↓e_aret, ↓e_vret, ↓e_is0, ↓e_is1, ↓e_is2, ↓e_is3, ↓e_is4, ↓e_iv1, ↓e_iv2, ↓e_iv3, ↓e_iv4, ↓e_iv5, ↓e_iv6, ↓rt_X11_meets, ↓reduceIte, Nat.reduceAdd, Nat.reduceEqDiff, ↓zcl0, ↓zclv, List.map_nil, List.sum_nil, List.map_cons, List.sum_cons, zcat, true_and, and_true, Nat.reduceLeDiff, Nat.reduceAdd, eq_self, forall_const, e_ok0, e_okss, e_ok1i, e_ok1r, e_ok1n, zl_0, zl_1, zl_2, zl_60, Int.reduceToNat, Int.reduceAdd, Int.reduceMul, Int.reduceSub, Int.reduceNeg, Int.reduceLT, Int.reduceLE, Int.reduceEq, not_false_eq_true, not_true_eq_false, false_implies, true_implies, implies_true, Int.reduceDiv, Int.reduceMod, zr8_zr, zr_zbo, z01_zbo, z01_0, z01_1, zbo_eq0, zup_eq, zup_o, zup_k, ne_eq, ↓ct_meets_keepAside, ↓r_keepAside, ↓B_keepAside, ↓ct_meets_heads, ↓r_heads, ↓B_heads, ↓ct_meets_yearGoes, ↓r_yearGoes, ↓B_yearGoes, ↓ct_meets_putBack, ↓r_putBack, ↓B_putBack, ↓ct_meets_finds, ↓r_finds, ↓B_finds, ↓v_87, ↓g_87_0, ↓l_88, ↓s_88, ↓n_88, ↓g_87_1, ↓l_89, ↓s_89, ↓n_89, ↓g_87_2, ↓l_90, ↓s_90, ↓n_90, ↓g_87_3, ↓p_87_3, ↓g_87_4, ↓l_91, ↓s_91, ↓n_91, ↓g_87_5, ↓p_87_5, ↓g_87_6, ↓p_87_6, ↓g_87_7, ↓p_87_7, ↓g_87_8, ↓p_87_8, ↓g_87_9, ↓p_87_9, ↓g_87_10, ↓p_87_10, ↓g_87_11, ↓l_92, ↓s_92, ↓n_92, ↓g_87_12, ↓l_93, ↓s_93, ↓n_93, ↓g_87_13, ↓p_87_13, ↓g_87_14, ↓l_94, ↓s_94, ↓n_94, ↓g_87_15, ↓p_87_15, ↓g_87_16, ↓l_95, ↓s_95, ↓n_95, ↓g_87_17, ↓l_96, ↓s_96, ↓n_96, ↓g_87_18, ↓l_97, ↓s_97, ↓n_97, ↓g_87_19, ↓p_87_19, ↓g_87_20, ↓p_87_20, ↓g_87_21, ↓l_98, ↓s_98, ↓n_98, ↓g_87_22, ↓l_99, ↓s_99, ↓n_99, ↓g_87_23, ↓l_100, ↓s_100, ↓n_100, ↓g_87_24, ↓l_101, ↓s_101, ↓n_101, zk, lk, hd, eg, zg, m87]
        have hs : mtn (M 88) (j + 1) k = if 0 < gap (yrs (M 88) (-1) k) then mtn (M 88) j (k + 1) else k := rfl
        rw [hs] at hm
        refine ⟨q0.1, q0.2, q1.1, q1.2, fun c => ⟨rm, ok.1, by omega, fun M2 h2 hM2 => ?_⟩, fun c => ⟨q0.1, q0.2, q1.1, q1.2, ?_⟩⟩
        · rw [if_pos c] at hm
          refine ih (k + 1) M2 (by omega) hm (h2.trans rfl) (fun i hi => ?_) (fun x q q0 q1 q2 => (hM2 x q q1 q2).trans (hM x q q0 q1 q2))
          rw [hM2 90 (by decide) (by decide) (by decide), ha i hi]
        · rw [if_neg c] at hm
          exact ex k M' (by omega) hm ha hM
    simp only [bk_X11_meets_0, k_X11_meets_0, bk_X11_meets_6, k_X11_meets_6, bk_X11_meets_29, k_X11_meets_29, bk_X11_meets_40, k_X11_meets_40, bk_X11_meets_41, k_X11_meets_41, bk_X11_meets_54, k_X11_meets_54, bk_X11_meets_59, k_X11_meets_59, ↓e_rk1, ↓e_rk0, ↓e_sk0, ↓e_sks, ↓e_ldi0, ↓e_ldis, ↓e_ldl0, ↓e_ldls, ↓e_lda0, ↓e_ldas, ↓e_ok0, ↓e_okss, ↓e_ok1i, ↓e_ok1r, ↓e_ok1n, ↓e_sti, ↓e_sta, ↓e_1, ↓e_2, ↓e_l1, ↓e_l2, ↓e_li, ↓e_sw0, ↓e_sws, ↓e_ceq, ↓e_cne, ↓e_clt, ↓e_cge, ↓e_cgt, ↓e_cle, ↓e_nil, ↓e_cons, ↓e_iconst, ↓e_bipush, ↓e_sipush, ↓e_ldc, ↓e_ldcw, ↓e_ldc2, ↓e_lconst, ↓e_iloadn, ↓e_iload, ↓e_lloadn, ↓e_lload, ↓e_aloadn, ↓e_aload, ↓e_istoren, ↓e_istore, ↓e_astoren, ↓e_astore, ↓e_add, ↓e_iinc, ↓e_iadd, ↓e_isub, ↓e_imul, ↓e_iand, ↓e_ior, ↓e_ixor, ↓e_ishl, ↓e_iushr, ↓e_idiv, ↓e_irem, ↓e_ineg, ↓e_i2l, ↓e_i2b, ↓e_i2s, ↓e_l2i, ↓e_land, ↓e_lor, ↓e_lshl, ↓e_lshr, ↓e_lushr, ↓e_lcmp, ↓e_dupi, ↓e_dupr, ↓e_popi, ↓e_dup2, ↓e_goto, ↓e_if, ↓e_icmp, ↓e_tsw, ↓e_lsw, ↓e_getf, ↓e_putf, ↓e_gets, ↓e_iald, ↓e_cald, ↓e_iast, ↓e_aald, ↓e_aast, ↓e_len, ↓e_copy, ↓e_abs, ↓e_max, ↓e_min, ↓e_iret, ↓e_aret, ↓e_vret, ↓e_is0, ↓e_is1, ↓e_is2, ↓e_is3, ↓e_is4, ↓e_iv1, ↓e_iv2, ↓e_iv3, ↓e_iv4, ↓e_iv5, ↓e_iv6, ↓rt_X11_meets, ↓reduceIte, Nat.reduceAdd, Nat.reduceEqDiff, ↓zcl0, ↓zclv, List.map_nil, List.sum_nil, List.map_cons, List.sum_cons, zcat, true_and, and_true, Nat.reduceLeDiff, Nat.reduceAdd, eq_self, forall_const, e_ok0, e_okss, e_ok1i, e_ok1r, e_ok1n, zl_0, zl_1, zl_2, zl_60, Int.reduceToNat, Int.reduceAdd, Int.reduceMul, Int.reduceSub, Int.reduceNeg, Int.reduceLT, Int.reduceLE, Int.reduceEq, not_false_eq_true, not_true_eq_false, false_implies, true_implies, implies_true, Int.reduceDiv, Int.reduceMod, zr8_zr, zr_zbo, z01_zbo, z01_0, z01_1, zbo_eq0, zup_eq, zup_o, zup_k, ne_eq, ↓ct_meets_keepAside, ↓r_keepAside, ↓B_keepAside, ↓ct_meets_heads, ↓r_heads, ↓B_heads, ↓ct_meets_yearGoes, ↓r_yearGoes, ↓B_yearGoes, ↓ct_meets_putBack, ↓r_putBack, ↓B_putBack, ↓ct_meets_finds, ↓r_finds, ↓B_finds, ↓v_87, ↓g_87_0, ↓l_88, ↓s_88, ↓n_88, ↓g_87_1, ↓l_89, ↓s_89, ↓n_89, ↓g_87_2, ↓l_90, ↓s_90, ↓n_90, ↓g_87_3, ↓p_87_3, ↓g_87_4, ↓l_91, ↓s_91, ↓n_91, ↓g_87_5, ↓p_87_5, ↓g_87_6, ↓p_87_6, ↓g_87_7, ↓p_87_7, ↓g_87_8, ↓p_87_8, ↓g_87_9, ↓p_87_9, ↓g_87_10, ↓p_87_10, ↓g_87_11, ↓l_92, ↓s_92, ↓n_92, ↓g_87_12, ↓l_93, ↓s_93, ↓n_93, ↓g_87_13, ↓p_87_13, ↓g_87_14, ↓l_94, ↓s_94, ↓n_94, ↓g_87_15, ↓p_87_15, ↓g_87_16, ↓l_95, ↓s_95, ↓n_95, ↓g_87_17, ↓l_96, ↓s_96, ↓n_96, ↓g_87_18, ↓l_97, ↓s_97, ↓n_97, ↓g_87_19, ↓p_87_19, ↓g_87_20, ↓p_87_20, ↓g_87_21, ↓l_98, ↓s_98, ↓n_98, ↓g_87_22, ↓l_99, ↓s_99, ↓n_99, ↓g_87_23, ↓l_100, ↓s_100, ↓n_100, ↓g_87_24, ↓l_101, ↓s_101, ↓n_101, m15]
    exact fun M1 hk1 hM1 => lp 60 0 M1 (by omega) rfl (hM1 88 (by decide)) hk1 (fun x _ q _ _ => hM1 x q)
