/-! THE CLASS: numbers read -/
theorem pdg_s {T : Nat → Int} {n k : Nat} {v : Int} {s : PS} (h : 48 ≤ hre T n s ∧ hre T n s ≤ 57) : pdg T n (k + 1) v s = pdg T n k (10 * v + hre T n s - 48) (adv s) := if_pos h
theorem pdg_n {T : Nat → Int} {n k : Nat} {v : Int} {s : PS} (h : ¬ (48 ≤ hre T n s ∧ hre T n s ≤ 57)) : pdg T n (k + 1) v s = (v, s) := if_neg h
theorem r68 : rowb 68 50 := Or.inr (Or.inr (Or.inr (Or.inr (Or.inr (Or.inr (Or.inr (Or.inr (Or.inl ⟨rfl, rfl⟩))))))))
def B_rnb (M : Nat → Nat → Int) (post : Option ZV → (Nat → Nat → Int) → Prop) : Prop := ∃ (T : Nat → Int) (n : Nat) (u : Int) (s : PS), Rd T n u M s ∧ (48 ≤ hre T n s ∧ hre T n s ≤ 57) ∧ ∀ M2 : ZMm, Rd T n u M2 (lyy (pdg T n 4 0 s).1 (pdg T n 4 0 s).2) → Fdq M M2 → M2 68 1 + s.1 ≤ M 68 1 + (pdg T n 4 0 s).2.1 → post none M2
def C_rnb : ZC := fun as h post => match as with
  | [.inr (.inr (.inl 67))] => h.1 = zG ∧ B_rnb h.2 (fun v M => post v (zG, M))
  | _ => False
theorem r_rnb {M : Nat → Nat → Int} {post : Option ZV → ZH → Prop} : C_rnb [.inr (.inr (.inl 67))] (zG, M) post = B_rnb M (fun v M => post v (zG, M)) := by show (zG = zG ∧ _) = _; simp
def ct_rnb : Nat → ZC := fun n => if n = 35 then C_rnx else if n = 37 then C_rdg else if n = 41 then C_radd else fun _ _ _ => False
theorem ct_rnb_rnx {as : List ZV} {h : ZH} {post : Option ZV → ZH → Prop} : ct_rnb 35 as h post = C_rnx as h post := rfl
theorem ct_rnb_rdg {as : List ZV} {h : ZH} {post : Option ZV → ZH → Prop} : ct_rnb 37 as h post = C_rdg as h post := rfl
theorem ct_rnb_radd {as : List ZV} {h : ZH} {post : Option ZV → ZH → Prop} : ct_rnb 41 as h post = C_radd as h post := rfl
theorem c_rnb {E : ZE} {d : Nat} (hd : 2 ≤ d) : zMet E d mX4_readNumber C_rnb := by
  refine zmet_of (o := 4) (ini := false) (CT := ct_rnb) gd_X4_readNumber rfl (fun h => by cases h) (by omega) ?_ ?_
  · intro n as h post hh
    unfold ct_rnb at hh
    by_cases c : n = 35
    · subst c; exact ⟨gd_X4_next, 1, by omega, c_rnx (by omega)⟩
    rw [if_neg c] at hh
    by_cases c : n = 37
    · subst c; exact ⟨gd_X4_isDigit, 1, by omega, c_rdg (by omega)⟩
    rw [if_neg c] at hh
    by_cases c : n = 41
    · subst c; exact ⟨gd_X5_add, 1, by omega, c_radd (by omega)⟩
    rw [if_neg c] at hh
    exact hh.elim
  intro as h post hC
  match as, hC with
  | [.inr (.inr (.inl 67))], hC =>
    refine ⟨Nat.le_of_ble_eq_true rfl, fun X hX => bs_X4_readNumber_0 hX ?_⟩
    obtain ⟨G, M⟩ := h
    obtain ⟨hG, hC⟩ := hC
    dsimp only at hG
    subst hG
    simp only [B_rnb] at hC
    show bk_X4_readNumber_0 E ct_rnb X _ [some (.inr (.inr (.inl 67))), none, none] [] (zG, M) (0, 0)
    obtain ⟨T, n, u, s, ho, hd9, hC⟩ := hC
    have n5 := ho.1.2.1
    have J48 : ∀ (v i : Int) (M' : ZMm) (s' : PS), Rd T n u M' s' → M' 68 1 = M 68 1 → Fdq M M' → s.1 < s'.1 → pdg T n 4 0 s = (v, s') → X 48 [some (.inr (.inr (.inl 67))), some (.inl v), some (.inl i)] [] (zG, M') (0, 0) := by
      intro v i M' s' h1 h2 h3 h4 h5
      have z1 := h1.2.2.2.2.1
      have z0 := ho.2.2.2.2.1
      have o1 := h1.2.2.2.1.1
      obtain ⟨g1, g2⟩ := Rd_lay v h1 (by omega)
      refine bs_X4_readNumber_48 hX ?_
      simp only [bk_X4_readNumber_0, k_X4_readNumber_0, bk_X4_readNumber_4, k_X4_readNumber_4, bk_X4_readNumber_9, k_X4_readNumber_9, bk_X4_readNumber_19, k_X4_readNumber_19, bk_X4_readNumber_48, k_X4_readNumber_48, ↓e_rk1, ↓e_rk0, ↓e_sk0, ↓e_sks, ↓e_ldi0, ↓e_ldis, ↓e_ldl0, ↓e_ldls, ↓e_lda0, ↓e_ldas, ↓e_ok0, ↓e_okss, ↓e_ok1i, ↓e_ok1r, ↓e_ok1n, ↓e_sti, ↓e_sta, ↓e_1, ↓e_2, ↓e_l1, ↓e_l2, ↓e_li, ↓e_sw0, ↓e_sws, ↓e_ceq, ↓e_cne, ↓e_clt, ↓e_cge, ↓e_cgt, ↓e_cle, ↓e_nil, ↓e_cons, ↓e_iconst, ↓e_bipush, ↓e_sipush, ↓e_ldc, ↓e_ldcw, ↓e_ldc2, ↓e_lconst, ↓e_iloadn, ↓e_iload, ↓e_lloadn, ↓e_lload, ↓e_aloadn, ↓e_aload, ↓e_istoren, ↓e_istore, ↓e_astoren, ↓e_astore, ↓e_add, ↓e_iinc, ↓e_iadd, ↓e_isub, ↓e_imul, ↓e_iand, ↓e_ior, ↓e_ixor, ↓e_ishl, ↓e_iushr, ↓e_idiv, ↓e_irem, ↓e_ineg, ↓e_i2l, ↓e_i2b, ↓e_i2s, ↓e_l2i, ↓e_land, ↓e_lor, ↓e_lshl, ↓e_lshr, ↓e_lushr, ↓e_lcmp, ↓e_dupi, ↓e_dupr, ↓e_popi, ↓e_dup2, ↓e_goto, ↓e_if, ↓e_icmp, ↓e_tsw, ↓e_lsw, ↓e_getf, ↓e_putf, ↓e_gets, ↓e_iald, ↓e_cald, ↓e_iast, ↓e_aald, ↓e_aast, ↓e_len, ↓e_copy, ↓e_abs, ↓e_max, ↓e_min, ↓e_iret, ↓e_aret, ↓e_vret, ↓e_is0, ↓e_is1, ↓e_is2, ↓e_is3, ↓e_is4, ↓e_iv1, ↓e_iv2, ↓e_iv3, ↓e_iv4, ↓e_iv5, ↓e_iv6, ↓rt_X4_readNumber, ↓reduceIte, Nat.reduceAdd, Nat.reduceEqDiff, ↓zcl0, ↓zclv, List.map_nil, List.sum_nil, List.map_cons, List.sum_cons, zcat, true_and, and_true, Nat.reduceLeDiff, Nat.reduceAdd, eq_self, forall_const, e_ok0, e_okss, e_ok1i, e_ok1r, e_ok1n, zl_0, zl_1, zl_4, zl_10, zl_48, Int.reduceToNat, Int.reduceAdd, Int.reduceMul, Int.reduceSub, Int.reduceNeg, Int.reduceLT, Int.reduceLE, Int.reduceEq, not_false_eq_true, not_true_eq_false, false_implies, true_implies, implies_true, Int.reduceDiv, Int.reduceMod, zr8_zr, zr_zbo, z01_zbo, z01_0, z01_1, zbo_eq0, zup_eq, zup_o, zup_k, ne_eq, ↓ct_rnb_rnx, ↓r_rnx, ↓B_rnx, ↓ct_rnb_rdg, ↓r_rdg, ↓B_rdg, ↓ct_rnb_radd, ↓r_radd, ↓B_radd, ↓v_67, ↓g_67_0, ↓g_67_1, ↓g_67_2, ↓p_67_2, ↓g_67_3, ↓p_67_3, ↓g_67_4, ↓p_67_4, ↓v_68, ↓g_68_0, ↓l_69, ↓s_69, ↓n_69, ↓g_68_1, ↓p_68_1]
      refine ⟨50, r68, by omega, by omega, fun _ => ?_, fun q => absurd q (by omega)⟩
      rw [h5] at hC
      refine hC _ g1 (h3.trans g2) ?_
      rw [zup_eq]
      show M' 68 1 + 1 + (s.1 : Int) ≤ M 68 1 + (s'.1 : Int)
      omega
    have lp : ∀ (k i : Nat) (v : Int) (M' : ZMm) (s' : PS), k + i = 4 → Rd T n u M' s' → M' 68 1 = M 68 1 → Fdq M M' → ((i = 0 ∧ s' = s) ∨ s.1 < s'.1) → pdg T n 4 0 s = pdg T n k v s' → X 4 [some (.inr (.inr (.inl 67))), some (.inl v), some (.inl ((i : Int)))] [] (zG, M') (0, 0) := by
      intro k
      induction k with
      | zero =>
        intro i v M' s' hk h1 h2 h3 h4 h5
        have ei : i = 4 := by omega
        subst ei
        have z4 : zr ((4 : Nat) : Int) = 4 := rfl
        refine bs_X4_readNumber_4 hX ?_
        simp only [bk_X4_readNumber_0, k_X4_readNumber_0, bk_X4_readNumber_4, k_X4_readNumber_4, bk_X4_readNumber_9, k_X4_readNumber_9, bk_X4_readNumber_19, k_X4_readNumber_19, bk_X4_readNumber_48, k_X4_readNumber_48, ↓e_rk1, ↓e_rk0, ↓e_sk0, ↓e_sks, ↓e_ldi0, ↓e_ldis, ↓e_ldl0, ↓e_ldls, ↓e_lda0, ↓e_ldas, ↓e_ok0, ↓e_okss, ↓e_ok1i, ↓e_ok1r, ↓e_ok1n, ↓e_sti, ↓e_sta, ↓e_1, ↓e_2, ↓e_l1, ↓e_l2, ↓e_li, ↓e_sw0, ↓e_sws, ↓e_ceq, ↓e_cne, ↓e_clt, ↓e_cge, ↓e_cgt, ↓e_cle, ↓e_nil, ↓e_cons, ↓e_iconst, ↓e_bipush, ↓e_sipush, ↓e_ldc, ↓e_ldcw, ↓e_ldc2, ↓e_lconst, ↓e_iloadn, ↓e_iload, ↓e_lloadn, ↓e_lload, ↓e_aloadn, ↓e_aload, ↓e_istoren, ↓e_istore, ↓e_astoren, ↓e_astore, ↓e_add, ↓e_iinc, ↓e_iadd, ↓e_isub, ↓e_imul, ↓e_iand, ↓e_ior, ↓e_ixor, ↓e_ishl, ↓e_iushr, ↓e_idiv, ↓e_irem, ↓e_ineg, ↓e_i2l, ↓e_i2b, ↓e_i2s, ↓e_l2i, ↓e_land, ↓e_lor, ↓e_lshl, ↓e_lshr, ↓e_lushr, ↓e_lcmp, ↓e_dupi, ↓e_dupr, ↓e_popi, ↓e_dup2, ↓e_goto, ↓e_if, ↓e_icmp, ↓e_tsw, ↓e_lsw, ↓e_getf, ↓e_putf, ↓e_gets, ↓e_iald, ↓e_cald, ↓e_iast, ↓e_aald, ↓e_aast, ↓e_len, ↓e_copy, ↓e_abs, ↓e_max, ↓e_min, ↓e_iret, ↓e_aret, ↓e_vret, ↓e_is0, ↓e_is1, ↓e_is2, ↓e_is3, ↓e_is4, ↓e_iv1, ↓e_iv2, ↓e_iv3, ↓e_iv4, ↓e_iv5, ↓e_iv6, ↓rt_X4_readNumber, ↓reduceIte, Nat.reduceAdd, Nat.reduceEqDiff, ↓zcl0, ↓zclv, List.map_nil, List.sum_nil, List.map_cons, List.sum_cons, zcat, true_and, and_true, Nat.reduceLeDiff, Nat.reduceAdd, eq_self, forall_const, e_ok0, e_okss, e_ok1i, e_ok1r, e_ok1n, zl_0, zl_1, zl_4, zl_10, zl_48, Int.reduceToNat, Int.reduceAdd, Int.reduceMul, Int.reduceSub, Int.reduceNeg, Int.reduceLT, Int.reduceLE, Int.reduceEq, not_false_eq_true, not_true_eq_false, false_implies, true_implies, implies_true, Int.reduceDiv, Int.reduceMod, zr8_zr, zr_zbo, z01_zbo, z01_0, z01_1, zbo_eq0, zup_eq, zup_o, zup_k, ne_eq, ↓ct_rnb_rnx, ↓r_rnx, ↓B_rnx, ↓ct_rnb_rdg, ↓r_rdg, ↓B_rdg, ↓ct_rnb_radd, ↓r_radd, ↓B_radd, ↓v_67, ↓g_67_0, ↓g_67_1, ↓g_67_2, ↓p_67_2, ↓g_67_3, ↓p_67_3, ↓g_67_4, ↓p_67_4, z4]
        refine J48 v _ M' s' h1 h2 h3 ?_ h5
        rcases h4 with q | q
        · omega
        · exact q
      | succ k ih =>
        intro i v M' s' hk h1 h2 h3 h4 h5
        have zi : zr (i : Int) = i := zr_of (by omega) (by omega)
        have li : ((i : Int) < 4) = True := eq_true (by omega)
        have hr := Rd_rg h1
        have J19 : (48 ≤ hre T n s' ∧ hre T n s' ≤ 57) → X 19 [some (.inr (.inr (.inl 67))), some (.inl v), some (.inl ((i : Int)))] [] (zG, M') (0, 0) := by
          intro q
          have hn := hre_nn (T := T) (n := n) (s := s') (by omega)
          obtain ⟨g1, g2⟩ := Rd_adv h1 hn.1
          have a9 : (adv s').1 = s'.1 + 1 := rfl
          refine bs_X4_readNumber_19 hX ?_
          simp only [bk_X4_readNumber_0, k_X4_readNumber_0, bk_X4_readNumber_4, k_X4_readNumber_4, bk_X4_readNumber_9, k_X4_readNumber_9, bk_X4_readNumber_19, k_X4_readNumber_19, bk_X4_readNumber_48, k_X4_readNumber_48, ↓e_rk1, ↓e_rk0, ↓e_sk0, ↓e_sks, ↓e_ldi0, ↓e_ldis, ↓e_ldl0, ↓e_ldls, ↓e_lda0, ↓e_ldas, ↓e_ok0, ↓e_okss, ↓e_ok1i, ↓e_ok1r, ↓e_ok1n, ↓e_sti, ↓e_sta, ↓e_1, ↓e_2, ↓e_l1, ↓e_l2, ↓e_li, ↓e_sw0, ↓e_sws, ↓e_ceq, ↓e_cne, ↓e_clt, ↓e_cge, ↓e_cgt, ↓e_cle, ↓e_nil, ↓e_cons, ↓e_iconst, ↓e_bipush, ↓e_sipush, ↓e_ldc, ↓e_ldcw, ↓e_ldc2, ↓e_lconst, ↓e_iloadn, ↓e_iload, ↓e_lloadn, ↓e_lload, ↓e_aloadn, ↓e_aload, ↓e_istoren, ↓e_istore, ↓e_astoren, ↓e_astore, ↓e_add, ↓e_iinc, ↓e_iadd, ↓e_isub, ↓e_imul, ↓e_iand, ↓e_ior, ↓e_ixor, ↓e_ishl, ↓e_iushr, ↓e_idiv, ↓e_irem, ↓e_ineg, ↓e_i2l, ↓e_i2b, ↓e_i2s, ↓e_l2i, ↓e_land, ↓e_lor, ↓e_lshl, ↓e_lshr, ↓e_lushr, ↓e_lcmp, ↓e_dupi, ↓e_dupr, ↓e_popi, ↓e_dup2, ↓e_goto, ↓e_if, ↓e_icmp, ↓e_tsw, ↓e_lsw, ↓e_getf, ↓e_putf, ↓e_gets, ↓e_iald, ↓e_cald, ↓e_iast, ↓e_aald, ↓e_aast, ↓e_len, ↓e_copy, ↓e_abs, ↓e_max, ↓e_min, ↓e_iret, ↓e_aret, ↓e_vret, ↓e_is0, ↓e_is1, ↓e_is2, ↓e_is3, ↓e_is4, ↓e_iv1, ↓e_iv2, ↓e_iv3, ↓e_iv4, ↓e_iv5, ↓e_iv6, ↓rt_X4_readNumber, ↓reduceIte, Nat.reduceAdd, Nat.reduceEqDiff, ↓zcl0, ↓zclv, List.map_nil, List.sum_nil, List.map_cons, List.sum_cons, zcat, true_and, and_true, Nat.reduceLeDiff, Nat.reduceAdd, eq_self, forall_const, e_ok0, e_okss, e_ok1i, e_ok1r, e_ok1n, zl_0, zl_1, zl_4, zl_10, zl_48, Int.reduceToNat, Int.reduceAdd, Int.reduceMul, Int.reduceSub, Int.reduceNeg, Int.reduceLT, Int.reduceLE, Int.reduceEq, not_false_eq_true, not_true_eq_false, false_implies, true_implies, implies_true, Int.reduceDiv, Int.reduceMod, zr8_zr, zr_zbo, z01_zbo, z01_0, z01_1, zbo_eq0, zup_eq, zup_o, zup_k, ne_eq, ↓ct_rnb_rnx, ↓r_rnx, ↓B_rnx, ↓ct_rnb_rdg, ↓r_rdg, ↓B_rdg, ↓ct_rnb_radd, ↓r_radd, ↓B_radd, ↓v_67, ↓g_67_0, ↓g_67_1, ↓g_67_2, ↓p_67_2, ↓g_67_3, ↓p_67_3, ↓g_67_4, ↓p_67_4]
          refine ⟨T, n, u, s', h1, ?_⟩
          refine ih (i + 1) _ _ (adv s') (by omega) g1 ?_ (h3.trans g2) (Or.inr ?_) ?_
          · rw [zup_o (by decide)]; exact h2
          · rcases h4 with q9 | q9
            · rw [a9, q9.2]; omega
            · omega
          · rw [h5, pdg_s q, show v * 10 + hre T n s' - 48 = 10 * v + hre T n s' - 48 by omega]
        have J48b : ¬ (48 ≤ hre T n s' ∧ hre T n s' ≤ 57) → X 48 [some (.inr (.inr (.inl 67))), some (.inl v), some (.inl ((i : Int)))] [] (zG, M') (0, 0) := by
          intro q
          refine J48 v _ M' s' h1 h2 h3 ?_ (by rw [h5, pdg_n q])
          rcases h4 with q9 | q9
          · rw [q9.2] at q
            exact absurd hd9 q
          · exact q9
        refine bs_X4_readNumber_4 hX ?_
        simp only [bk_X4_readNumber_0, k_X4_readNumber_0, bk_X4_readNumber_4, k_X4_readNumber_4, bk_X4_readNumber_9, k_X4_readNumber_9, bk_X4_readNumber_19, k_X4_readNumber_19, bk_X4_readNumber_48, k_X4_readNumber_48, ↓e_rk1, ↓e_rk0, ↓e_sk0, ↓e_sks, ↓e_ldi0, ↓e_ldis, ↓e_ldl0, ↓e_ldls, ↓e_lda0, ↓e_ldas, ↓e_ok0, ↓e_okss, ↓e_ok1i, ↓e_ok1r, ↓e_ok1n, ↓e_sti, ↓e_sta, ↓e_1, ↓e_2, ↓e_l1, ↓e_l2, ↓e_li, ↓e_sw0, ↓e_sws, ↓e_ceq, ↓e_cne, ↓e_clt, ↓e_cge, ↓e_cgt, ↓e_cle, ↓e_nil, ↓e_cons, ↓e_iconst, ↓e_bipush, ↓e_sipush, ↓e_ldc, ↓e_ldcw, ↓e_ldc2, ↓e_lconst, ↓e_iloadn, ↓e_iload, ↓e_lloadn, ↓e_lload, ↓e_aloadn, ↓e_aload, ↓e_istoren, ↓e_istore, ↓e_astoren, ↓e_astore, ↓e_add, ↓e_iinc, ↓e_iadd, ↓e_isub, ↓e_imul, ↓e_iand, ↓e_ior, ↓e_ixor, ↓e_ishl, ↓e_iushr, ↓e_idiv, ↓e_irem, ↓e_ineg, ↓e_i2l, ↓e_i2b, ↓e_i2s, ↓e_l2i, ↓e_land, ↓e_lor, ↓e_lshl, ↓e_lshr, ↓e_lushr, ↓e_lcmp, ↓e_dupi, ↓e_dupr, ↓e_popi, ↓e_dup2, ↓e_goto, ↓e_if, ↓e_icmp, ↓e_tsw, ↓e_lsw, ↓e_getf, ↓e_putf, ↓e_gets, ↓e_iald, ↓e_cald, ↓e_iast, ↓e_aald, ↓e_aast, ↓e_len, ↓e_copy, ↓e_abs, ↓e_max, ↓e_min, ↓e_iret, ↓e_aret, ↓e_vret, ↓e_is0, ↓e_is1, ↓e_is2, ↓e_is3, ↓e_is4, ↓e_iv1, ↓e_iv2, ↓e_iv3, ↓e_iv4, ↓e_iv5, ↓e_iv6, ↓rt_X4_readNumber, ↓reduceIte, Nat.reduceAdd, Nat.reduceEqDiff, ↓zcl0, ↓zclv, List.map_nil, List.sum_nil, List.map_cons, List.sum_cons, zcat, true_and, and_true, Nat.reduceLeDiff, Nat.reduceAdd, eq_self, forall_const, e_ok0, e_okss, e_ok1i, e_ok1r, e_ok1n, zl_0, zl_1, zl_4, zl_10, zl_48, Int.reduceToNat, Int.reduceAdd, Int.reduceMul, Int.reduceSub, Int.reduceNeg, Int.reduceLT, Int.reduceLE, Int.reduceEq, not_false_eq_true, not_true_eq_false, false_implies, true_implies, implies_true, Int.reduceDiv, Int.reduceMod, zr8_zr, zr_zbo, z01_zbo, z01_0, z01_1, zbo_eq0, zup_eq, zup_o, zup_k, ne_eq, ↓ct_rnb_rnx, ↓r_rnx, ↓B_rnx, ↓ct_rnb_rdg, ↓r_rdg, ↓B_rdg, ↓ct_rnb_radd, ↓r_radd, ↓B_radd, ↓v_67, ↓g_67_0, ↓g_67_1, ↓g_67_2, ↓p_67_2, ↓g_67_3, ↓p_67_3, ↓g_67_4, ↓p_67_4, zi, li]
        refine bs_X4_readNumber_9 hX ?_
        simp only [bk_X4_readNumber_0, k_X4_readNumber_0, bk_X4_readNumber_4, k_X4_readNumber_4, bk_X4_readNumber_9, k_X4_readNumber_9, bk_X4_readNumber_19, k_X4_readNumber_19, bk_X4_readNumber_48, k_X4_readNumber_48, ↓e_rk1, ↓e_rk0, ↓e_sk0, ↓e_sks, ↓e_ldi0, ↓e_ldis, ↓e_ldl0, ↓e_ldls, ↓e_lda0, ↓e_ldas, ↓e_ok0, ↓e_okss, ↓e_ok1i, ↓e_ok1r, ↓e_ok1n, ↓e_sti, ↓e_sta, ↓e_1, ↓e_2, ↓e_l1, ↓e_l2, ↓e_li, ↓e_sw0, ↓e_sws, ↓e_ceq, ↓e_cne, ↓e_clt, ↓e_cge, ↓e_cgt, ↓e_cle, ↓e_nil, ↓e_cons, ↓e_iconst, ↓e_bipush, ↓e_sipush, ↓e_ldc, ↓e_ldcw, ↓e_ldc2, ↓e_lconst, ↓e_iloadn, ↓e_iload, ↓e_lloadn, ↓e_lload, ↓e_aloadn, ↓e_aload, ↓e_istoren, ↓e_istore, ↓e_astoren, ↓e_astore, ↓e_add, ↓e_iinc, ↓e_iadd, ↓e_isub, ↓e_imul, ↓e_iand, ↓e_ior, ↓e_ixor, ↓e_ishl, ↓e_iushr, ↓e_idiv, ↓e_irem, ↓e_ineg, ↓e_i2l, ↓e_i2b, ↓e_i2s, ↓e_l2i, ↓e_land, ↓e_lor, ↓e_lshl, ↓e_lshr, ↓e_lushr, ↓e_lcmp, ↓e_dupi, ↓e_dupr, ↓e_popi, ↓e_dup2, ↓e_goto, ↓e_if, ↓e_icmp, ↓e_tsw, ↓e_lsw, ↓e_getf, ↓e_putf, ↓e_gets, ↓e_iald, ↓e_cald, ↓e_iast, ↓e_aald, ↓e_aast, ↓e_len, ↓e_copy, ↓e_abs, ↓e_max, ↓e_min, ↓e_iret, ↓e_aret, ↓e_vret, ↓e_is0, ↓e_is1, ↓e_is2, ↓e_is3, ↓e_is4, ↓e_iv1, ↓e_iv2, ↓e_iv3, ↓e_iv4, ↓e_iv5, ↓e_iv6, ↓rt_X4_readNumber, ↓reduceIte, Nat.reduceAdd, Nat.reduceEqDiff, ↓zcl0, ↓zclv, List.map_nil, List.sum_nil, List.map_cons, List.sum_cons, zcat, true_and, and_true, Nat.reduceLeDiff, Nat.reduceAdd, eq_self, forall_const, e_ok0, e_okss, e_ok1i, e_ok1r, e_ok1n, zl_0, zl_1, zl_4, zl_10, zl_48, Int.reduceToNat, Int.reduceAdd, Int.reduceMul, Int.reduceSub, Int.reduceNeg, Int.reduceLT, Int.reduceLE, Int.reduceEq, not_false_eq_true, not_true_eq_false, false_implies, true_implies, implies_true, Int.reduceDiv, Int.reduceMod, zr8_zr, zr_zbo, z01_zbo, z01_0, z01_1, zbo_eq0, zup_eq, zup_o, zup_k, ne_eq, ↓ct_rnb_rnx, ↓r_rnx, ↓B_rnx, ↓ct_rnb_rdg, ↓r_rdg, ↓B_rdg, ↓ct_rnb_radd, ↓r_radd, ↓B_radd, ↓v_67, ↓g_67_0, ↓g_67_1, ↓g_67_2, ↓p_67_2, ↓g_67_3, ↓p_67_3, ↓g_67_4, ↓p_67_4]
        refine ⟨T, n, u, s', h1, hr, ?_⟩
        exact ⟨fun q => J48b q, fun q => J19 (Decidable.of_not_not q)⟩
    simp only [bk_X4_readNumber_0, k_X4_readNumber_0, bk_X4_readNumber_4, k_X4_readNumber_4, bk_X4_readNumber_9, k_X4_readNumber_9, bk_X4_readNumber_19, k_X4_readNumber_19, bk_X4_readNumber_48, k_X4_readNumber_48, ↓e_rk1, ↓e_rk0, ↓e_sk0, ↓e_sks, ↓e_ldi0, ↓e_ldis, ↓e_ldl0, ↓e_ldls, ↓e_lda0, ↓e_ldas, ↓e_ok0, ↓e_okss, ↓e_ok1i, ↓e_ok1r, ↓e_ok1n, ↓e_sti, ↓e_sta, ↓e_1, ↓e_2, ↓e_l1, ↓e_l2, ↓e_li, ↓e_sw0, ↓e_sws, ↓e_ceq, ↓e_cne, ↓e_clt, ↓e_cge, ↓e_cgt, ↓e_cle, ↓e_nil, ↓e_cons, ↓e_iconst, ↓e_bipush, ↓e_sipush, ↓e_ldc, ↓e_ldcw, ↓e_ldc2, ↓e_lconst, ↓e_iloadn, ↓e_iload, ↓e_lloadn, ↓e_lload, ↓e_aloadn, ↓e_aload, ↓e_istoren, ↓e_istore, ↓e_astoren, ↓e_astore, ↓e_add, ↓e_iinc, ↓e_iadd, ↓e_isub, ↓e_imul, ↓e_iand, ↓e_ior, ↓e_ixor, ↓e_ishl, ↓e_iushr, ↓e_idiv, ↓e_irem, ↓e_ineg, ↓e_i2l, ↓e_i2b, ↓e_i2s, ↓e_l2i, ↓e_land, ↓e_lor, ↓e_lshl, ↓e_lshr, ↓e_lushr, ↓e_lcmp, ↓e_dupi, ↓e_dupr, ↓e_popi, ↓e_dup2, ↓e_goto, ↓e_if, ↓e_icmp, ↓e_tsw, ↓e_lsw, ↓e_getf, ↓e_putf, ↓e_gets, ↓e_iald, ↓e_cald, ↓e_iast, ↓e_aald, ↓e_aast, ↓e_len, ↓e_copy, ↓e_abs, ↓e_max, ↓e_min, ↓e_iret, ↓e_aret, ↓e_vret, ↓e_is0, ↓e_is1, ↓e_is2, ↓e_is3, ↓e_is4, ↓e_iv1, ↓e_iv2, ↓e_iv3, ↓e_iv4, ↓e_iv5, ↓e_iv6, ↓rt_X4_readNumber, ↓reduceIte, Nat.reduceAdd, Nat.reduceEqDiff, ↓zcl0, ↓zclv, List.map_nil, List.sum_nil, List.map_cons, List.sum_cons, zcat, true_and, and_true, Nat.reduceLeDiff, Nat.reduceAdd, eq_self, forall_const, e_ok0, e_okss, e_ok1i, e_ok1r, e_ok1n, zl_0, zl_1, zl_4, zl_10, zl_48, Int.reduceToNat, Int.reduceAdd, Int.reduceMul, Int.reduceSub, Int.reduceNeg, Int.reduceLT, Int.reduceLE, Int.reduceEq, not_false_eq_true, not_true_eq_false, false_implies, true_implies, implies_true, Int.reduceDiv, Int.reduceMod, zr8_zr, zr_zbo, z01_zbo, z01_0, z01_1, zbo_eq0, zup_eq, zup_o, zup_k, ne_eq, ↓ct_rnb_rnx, ↓r_rnx, ↓B_rnx, ↓ct_rnb_rdg, ↓r_rdg, ↓B_rdg, ↓ct_rnb_radd, ↓r_radd, ↓B_radd, ↓v_67, ↓g_67_0, ↓g_67_1, ↓g_67_2, ↓p_67_2, ↓g_67_3, ↓p_67_3, ↓g_67_4, ↓p_67_4]
    exact lp 4 0 0 M s (by omega) ho rfl Fdq.rf (Or.inl ⟨rfl, rfl⟩) rfl
