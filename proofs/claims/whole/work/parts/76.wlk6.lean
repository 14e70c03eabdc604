/-! THE CLASS: steps, parts -/
theorem VC9_c {d f : Nat → Int} (h : ∀ k, k < 64 → f k = 1000000) : VC9 d f := ⟨fun k hk => Or.inl (h k hk), fun c w hc _ hn => absurd (h c hc) hn⟩
theorem VC9_fl {d : Nat → Int} {a : Int} {D f0 f : Nat → Int} (hD : Grt d 1 a D) (h0 : VC9 d f0) (h : flR D f0 f) : VC9 d f := by
  refine ⟨fun k hk => ?_, fun c w hc hw hn q0 q1 => ?_⟩
  · by_cases q : f0 k = 1000000
    · rcases h.2 k hk q with e | e
      · exact Or.inl e.1
      · exact Or.inr (by omega)
    · rw [(h.1 k hk q).1]; exact h0.1 k hk
  · have br := bsd_rng (c := c) (w := w) (by omega) (by omega)
    have kk : (bsd c w).toNat < 64 := by omega
    have sm9 : ∀ k, k < 64 → ¬ f0 k = 1000000 → ¬ f k = 1000000 := fun k hk q => by rw [(h.1 k hk q).1]; exact q
    by_cases q : f0 c = 1000000
    · rcases h.2 c hc q with e | e
      · exact absurd e.1 hn
      · have cl := hD.2 c w hc hw q0 (Or.inr q1)
        have wg : wgt d 1 (bsd c w) = 1 := if_neg (by decide)
        rw [wg] at cl
        by_cases q9 : f0 (bsd c w).toNat = 1000000
        · rcases h.2 _ kk q9 with e2 | e2
          · omega
          · omega
        · exact sm9 _ kk q9
    · exact sm9 _ kk (h0.2 c w hc hw q q0 q1)
theorem D_shut {d : Nat → Int} {a : Int} {D : Nat → Int} (hD : Grt d 1 a D) (h : ¬ d (70 + a).toNat = 1) {k : Nat} (hk : k < 64) : D k = 100000 := by
  have cl : Cld d 1 a (fun _ => 100000) := by
    refine ⟨fun _ _ => Int.le_refl _, fun o => ?_, fun c w _ _ _ _ => ?_⟩
    · rcases o with e | e
      · omega
      · exact absurd e h
    · have wg : wgt d 1 (bsd c w) = 1 := if_neg (by decide)
      rw [wg]
      dsimp only
      omega
  have := hD.1.2.2 _ cl k hk
  have := (hD.1.1 k hk).2
  omega
def B_wfew (a : Int) (b : Int) (M : Nat → Nat → Int) (post : Option ZV → (Nat → Nat → Int) → Prop) : Prop := (0 ≤ a ∧ a ≤ 63) ∧ (0 ≤ b ∧ b ≤ 63) ∧ ∃ d : Nat → Int, HR 2 M d ∧ Vd d ∧ ∀ (M2 : ZMm) (v : Int), (∀ x, ¬ x = 71 → ¬ x = 73 → M2 x = M x) → ((v = 1000000 ∧ gD d 1 a b.toNat = 100000) ∨ (v = gD d 1 a b.toNat ∧ 0 ≤ v ∧ v ≤ 63)) → post (some (.inl v)) M2
def C_wfew : ZC := fun as h post => match as with
  | [.inr (.inr (.inl 70)), .inl a, .inl b] => h.1 = zG ∧ B_wfew a b h.2 (fun v M => post v (zG, M))
  | _ => False
theorem r_wfew {a : Int} {b : Int} {M : Nat → Nat → Int} {post : Option ZV → ZH → Prop} : C_wfew [.inr (.inr (.inl 70)), .inl a, .inl b] (zG, M) post = B_wfew a b M (fun v M => post v (zG, M)) := by show (zG = zG ∧ _) = _; simp
def ct_wfew : Nat → ZC := fun n => if n = 223 then C_fill else if n = 61 then C_wflood else fun _ _ _ => False
theorem ct_wfew_fill {as : List ZV} {h : ZH} {post : Option ZV → ZH → Prop} : ct_wfew 223 as h post = C_fill as h post := rfl
theorem ct_wfew_wflood {as : List ZV} {h : ZH} {post : Option ZV → ZH → Prop} : ct_wfew 61 as h post = C_wflood as h post := rfl
theorem c_wfew {E : ZE} {d : Nat} (hd : 3 ≤ d) : zMet E d mX9_fewestWays C_wfew := by
  refine zmet_of (o := 9) (ini := false) (CT := ct_wfew) gd_X9_fewestWays rfl (fun h => by cases h) (by omega) ?_ ?_
  · intro n as h post hh
    unfold ct_wfew at hh
    by_cases c : n = 223
    · subst c; exact ⟨gd_J7_fill_53178, 1, by omega, c_fill (by omega)⟩
    rw [if_neg c] at hh
    by_cases c : n = 61
    · subst c; exact ⟨gd_X9_flood, 2, by omega, c_wflood (by omega)⟩
    rw [if_neg c] at hh
    exact hh.elim
  intro as h post hC
  match as, hC with
  | [.inr (.inr (.inl 70)), .inl a, .inl b], hC =>
    refine ⟨Nat.le_of_ble_eq_true rfl, fun X hX => bs_X9_fewestWays_0 hX ?_⟩
    obtain ⟨G, M⟩ := h
    obtain ⟨hG, hC⟩ := hC
    dsimp only at hG
    subst hG
    simp only [B_wfew] at hC
    show bk_X9_fewestWays_0 E ct_wfew X _ [some (.inr (.inr (.inl 70))), some (.inl a), some (.inl b)] [] (zG, M) (0, 0)
    obtain ⟨ha, hb, d9, H, vd, hC⟩ := hC
    have hD := gD_Grt vd (s := 1) ha
    have za : zr a = a := zr_of (by omega) (by omega)
    have zb : zr b = b := zr_of (by omega) (by omega)
    have J27 : ∀ M' : ZMm, (∀ x, ¬ x = 71 → ¬ x = 73 → M' x = M x) → ((M' 71 b.toNat = 1000000 ∧ gD d9 1 a b.toNat = 100000) ∨ (M' 71 b.toNat = gD d9 1 a b.toNat ∧ 0 ≤ M' 71 b.toNat ∧ M' 71 b.toNat ≤ 63)) → X 27 [some (.inr (.inr (.inl 70))), some (.inl a), some (.inl b)] [] (zG, M') (0, 0) := by
      intro M' f h
      refine bs_X9_fewestWays_27 hX ?_
      simp only [bk_X9_fewestWays_0, k_X9_fewestWays_0, bk_X9_fewestWays_9, k_X9_fewestWays_9, bk_X9_fewestWays_22, k_X9_fewestWays_22, bk_X9_fewestWays_27, k_X9_fewestWays_27, ↓e_rk1, ↓e_rk0, ↓e_sk0, ↓e_sks, ↓e_ldi0, ↓e_ldis, ↓e_ldl0, ↓e_ldls, ↓e_lda0, ↓e_ldas, ↓e_ok0, ↓e_okss, ↓e_ok1i, ↓e_ok1r, ↓e_ok1n, ↓e_sti, ↓e_sta, ↓e_1, ↓e_2, ↓e_l1, ↓e_l2, ↓e_li, ↓e_sw0, ↓e_sws, ↓e_ceq, ↓e_cne, ↓e_clt, ↓e_cge, ↓e_cgt, ↓e_cle, ↓e_nil, ↓e_cons, ↓e_iconst, ↓e_bipush, ↓e_sipush, ↓e_ldc, ↓e_ldcw, ↓e_ldc2, ↓e_lconst, ↓e_iloadn, ↓e_iload, ↓e_lloadn, ↓e_lload, ↓e_aloadn, ↓e_aload, ↓e_istoren, ↓e_istore, ↓e_astoren, ↓e_astore, ↓e_add, ↓e_iinc, ↓e_iadd, ↓e_isub, ↓e_imul, ↓e_iand, ↓e_ior, ↓e_ixor, ↓e_ishl, ↓e_iushr, ↓e_idiv, ↓e_irem, ↓e_ineg, ↓e_i2l, ↓e_i2b, ↓e_i2s, ↓e_l2i, ↓e_land, ↓e_lor, ↓e_lshl, ↓e_lshr, ↓e_lushr, ↓e_lcmp, ↓e_dupi, ↓e_dupr, ↓e_popi, ↓e_dup2, ↓e_goto, ↓e_if, ↓e_icmp, ↓e_tsw, ↓e_lsw, ↓e_getf, ↓e_putf, ↓e_gets, ↓e_iald, ↓e_cald, ↓e_iast, ↓e_aald, ↓e_aast, ↓e_len, ↓e_copy, ↓e_abs, ↓e_max, ↓e_min, ↓e_iret, ↓e_aret, ↓e_vret, ↓e_is0, ↓e_is1, ↓e_is2, ↓e_is3, ↓e_is4, ↓e_iv1, ↓e_iv2, ↓e_iv3, ↓e_iv4, ↓e_iv5, ↓e_iv6, ↓rt_X9_fewestWays, ↓reduceIte, Nat.reduceAdd, Nat.reduceEqDiff, ↓zcl0, ↓zclv, List.map_nil, List.sum_nil, List.map_cons, List.sum_cons, zcat, true_and, and_true, Nat.reduceLeDiff, Nat.reduceAdd, eq_self, forall_const, e_ok0, e_okss, e_ok1i, e_ok1r, e_ok1n, zl_1, zl_1000000, Int.reduceToNat, Int.reduceAdd, Int.reduceMul, Int.reduceSub, Int.reduceNeg, Int.reduceLT, Int.reduceLE, Int.reduceEq, not_false_eq_true, not_true_eq_false, false_implies, true_implies, implies_true, Int.reduceDiv, Int.reduceMod, zr8_zr, zr_zbo, z01_zbo, z01_0, z01_1, zbo_eq0, zup_eq, zup_o, zup_k, ne_eq, ↓ct_wfew_fill, ↓r_fill, ↓B_fill, ↓ct_wfew_wflood, ↓r_wflood, ↓B_wflood, ↓v_70, ↓g_70_0, ↓g_70_1, ↓l_71, ↓s_71, ↓n_71, ↓g_70_2, ↓l_72, ↓s_72, ↓n_72, ↓g_70_3, ↓l_73, ↓s_73, ↓n_73, zb]
      exact ⟨by omega, by omega, hC M' _ f h⟩
    simp only [bk_X9_fewestWays_0, k_X9_fewestWays_0, bk_X9_fewestWays_9, k_X9_fewestWays_9, bk_X9_fewestWays_22, k_X9_fewestWays_22, bk_X9_fewestWays_27, k_X9_fewestWays_27, ↓e_rk1, ↓e_rk0, ↓e_sk0, ↓e_sks, ↓e_ldi0, ↓e_ldis, ↓e_ldl0, ↓e_ldls, ↓e_lda0, ↓e_ldas, ↓e_ok0, ↓e_okss, ↓e_ok1i, ↓e_ok1r, ↓e_ok1n, ↓e_sti, ↓e_sta, ↓e_1, ↓e_2, ↓e_l1, ↓e_l2, ↓e_li, ↓e_sw0, ↓e_sws, ↓e_ceq, ↓e_cne, ↓e_clt, ↓e_cge, ↓e_cgt, ↓e_cle, ↓e_nil, ↓e_cons, ↓e_iconst, ↓e_bipush, ↓e_sipush, ↓e_ldc, ↓e_ldcw, ↓e_ldc2, ↓e_lconst, ↓e_iloadn, ↓e_iload, ↓e_lloadn, ↓e_lload, ↓e_aloadn, ↓e_aload, ↓e_istoren, ↓e_istore, ↓e_astoren, ↓e_astore, ↓e_add, ↓e_iinc, ↓e_iadd, ↓e_isub, ↓e_imul, ↓e_iand, ↓e_ior, ↓e_ixor, ↓e_ishl, ↓e_iushr, ↓e_idiv, ↓e_irem, ↓e_ineg, ↓e_i2l, ↓e_i2b, ↓e_i2s, ↓e_l2i, ↓e_land, ↓e_lor, ↓e_lshl, ↓e_lshr, ↓e_lushr, ↓e_lcmp, ↓e_dupi, ↓e_dupr, ↓e_popi, ↓e_dup2, ↓e_goto, ↓e_if, ↓e_icmp, ↓e_tsw, ↓e_lsw, ↓e_getf, ↓e_putf, ↓e_gets, ↓e_iald, ↓e_cald, ↓e_iast, ↓e_aald, ↓e_aast, ↓e_len, ↓e_copy, ↓e_abs, ↓e_max, ↓e_min, ↓e_iret, ↓e_aret, ↓e_vret, ↓e_is0, ↓e_is1, ↓e_is2, ↓e_is3, ↓e_is4, ↓e_iv1, ↓e_iv2, ↓e_iv3, ↓e_iv4, ↓e_iv5, ↓e_iv6, ↓rt_X9_fewestWays, ↓reduceIte, Nat.reduceAdd, Nat.reduceEqDiff, ↓zcl0, ↓zclv, List.map_nil, List.sum_nil, List.map_cons, List.sum_cons, zcat, true_and, and_true, Nat.reduceLeDiff, Nat.reduceAdd, eq_self, forall_const, e_ok0, e_okss, e_ok1i, e_ok1r, e_ok1n, zl_1, zl_1000000, Int.reduceToNat, Int.reduceAdd, Int.reduceMul, Int.reduceSub, Int.reduceNeg, Int.reduceLT, Int.reduceLE, Int.reduceEq, not_false_eq_true, not_true_eq_false, false_implies, true_implies, implies_true, Int.reduceDiv, Int.reduceMod, zr8_zr, zr_zbo, z01_zbo, z01_0, z01_1, zbo_eq0, zup_eq, zup_o, zup_k, ne_eq, ↓ct_wfew_fill, ↓r_fill, ↓B_fill, ↓ct_wfew_wflood, ↓r_wflood, ↓B_wflood, ↓v_70, ↓g_70_0, ↓g_70_1, ↓l_71, ↓s_71, ↓n_71, ↓g_70_2, ↓l_72, ↓s_72, ↓n_72, ↓g_70_3, ↓l_73, ↓s_73, ↓n_73]
    refine ⟨64, rfl, by omega, fun M1 e1 f1 => ?_⟩
    have p71 : ∀ k, k < 64 → M1 71 k = 1000000 := fun k hk => by
      rw [e1]
      dsimp only
      rw [if_pos hk]
    have H1 : HR 2 M1 d9 := HR_cg H (fun x p q => f1 x (by omega)) (fun _ _ => rfl)
    have ed : M1 4 a.toNat = d9 (70 + a).toNat := by rw [H1.2.1 a.toNat (by omega), show (70 + a).toNat = 70 + a.toNat by omega]
    have bd := vd.2.2.2.2.2.2.1 (70 + a).toNat (by omega) (by omega)
    have zd : zr (d9 (70 + a).toNat) = d9 (70 + a).toNat := zr_of (by omega) (by omega)
    have J22 : d9 (70 + a).toNat = 1 → X 22 [some (.inr (.inr (.inl 70))), some (.inl a), some (.inl b)] [] (zG, M1) (0, 0) := by
      intro q
      refine bs_X9_fewestWays_22 hX ?_
      simp only [bk_X9_fewestWays_0, k_X9_fewestWays_0, bk_X9_fewestWays_9, k_X9_fewestWays_9, bk_X9_fewestWays_22, k_X9_fewestWays_22, bk_X9_fewestWays_27, k_X9_fewestWays_27, ↓e_rk1, ↓e_rk0, ↓e_sk0, ↓e_sks, ↓e_ldi0, ↓e_ldis, ↓e_ldl0, ↓e_ldls, ↓e_lda0, ↓e_ldas, ↓e_ok0, ↓e_okss, ↓e_ok1i, ↓e_ok1r, ↓e_ok1n, ↓e_sti, ↓e_sta, ↓e_1, ↓e_2, ↓e_l1, ↓e_l2, ↓e_li, ↓e_sw0, ↓e_sws, ↓e_ceq, ↓e_cne, ↓e_clt, ↓e_cge, ↓e_cgt, ↓e_cle, ↓e_nil, ↓e_cons, ↓e_iconst, ↓e_bipush, ↓e_sipush, ↓e_ldc, ↓e_ldcw, ↓e_ldc2, ↓e_lconst, ↓e_iloadn, ↓e_iload, ↓e_lloadn, ↓e_lload, ↓e_aloadn, ↓e_aload, ↓e_istoren, ↓e_istore, ↓e_astoren, ↓e_astore, ↓e_add, ↓e_iinc, ↓e_iadd, ↓e_isub, ↓e_imul, ↓e_iand, ↓e_ior, ↓e_ixor, ↓e_ishl, ↓e_iushr, ↓e_idiv, ↓e_irem, ↓e_ineg, ↓e_i2l, ↓e_i2b, ↓e_i2s, ↓e_l2i, ↓e_land, ↓e_lor, ↓e_lshl, ↓e_lshr, ↓e_lushr, ↓e_lcmp, ↓e_dupi, ↓e_dupr, ↓e_popi, ↓e_dup2, ↓e_goto, ↓e_if, ↓e_icmp, ↓e_tsw, ↓e_lsw, ↓e_getf, ↓e_putf, ↓e_gets, ↓e_iald, ↓e_cald, ↓e_iast, ↓e_aald, ↓e_aast, ↓e_len, ↓e_copy, ↓e_abs, ↓e_max, ↓e_min, ↓e_iret, ↓e_aret, ↓e_vret, ↓e_is0, ↓e_is1, ↓e_is2, ↓e_is3, ↓e_is4, ↓e_iv1, ↓e_iv2, ↓e_iv3, ↓e_iv4, ↓e_iv5, ↓e_iv6, ↓rt_X9_fewestWays, ↓reduceIte, Nat.reduceAdd, Nat.reduceEqDiff, ↓zcl0, ↓zclv, List.map_nil, List.sum_nil, List.map_cons, List.sum_cons, zcat, true_and, and_true, Nat.reduceLeDiff, Nat.reduceAdd, eq_self, forall_const, e_ok0, e_okss, e_ok1i, e_ok1r, e_ok1n, zl_1, zl_1000000, Int.reduceToNat, Int.reduceAdd, Int.reduceMul, Int.reduceSub, Int.reduceNeg, Int.reduceLT, Int.reduceLE, Int.reduceEq, not_false_eq_true, not_true_eq_false, false_implies, true_implies, implies_true, Int.reduceDiv, Int.reduceMod, zr8_zr, zr_zbo, z01_zbo, z01_0, z01_1, zbo_eq0, zup_eq, zup_o, zup_k, ne_eq, ↓ct_wfew_fill, ↓r_fill, ↓B_fill, ↓ct_wfew_wflood, ↓r_wflood, ↓B_wflood, ↓v_70, ↓g_70_0, ↓g_70_1, ↓l_71, ↓s_71, ↓n_71, ↓g_70_2, ↓l_72, ↓s_72, ↓n_72, ↓g_70_3, ↓l_73, ↓s_73, ↓n_73]
      refine ⟨by omega, d9, H1, vd, q, VC9_c p71, p71 _ (by omega), fun M2 h2 f2 => J27 M2 (fun x p1 p2 => by rw [f2 x p1 p2, f1 x p1]) ?_⟩
      rcases h2.2 b.toNat (by omega) (p71 _ (by omega)) with e | e
      · exact Or.inl e
      · exact Or.inr ⟨e.1, by omega, by omega⟩
    refine bs_X9_fewestWays_9 hX ?_
    simp only [bk_X9_fewestWays_0, k_X9_fewestWays_0, bk_X9_fewestWays_9, k_X9_fewestWays_9, bk_X9_fewestWays_22, k_X9_fewestWays_22, bk_X9_fewestWays_27, k_X9_fewestWays_27, ↓e_rk1, ↓e_rk0, ↓e_sk0, ↓e_sks, ↓e_ldi0, ↓e_ldis, ↓e_ldl0, ↓e_ldls, ↓e_lda0, ↓e_ldas, ↓e_ok0, ↓e_okss, ↓e_ok1i, ↓e_ok1r, ↓e_ok1n, ↓e_sti, ↓e_sta, ↓e_1, ↓e_2, ↓e_l1, ↓e_l2, ↓e_li, ↓e_sw0, ↓e_sws, ↓e_ceq, ↓e_cne, ↓e_clt, ↓e_cge, ↓e_cgt, ↓e_cle, ↓e_nil, ↓e_cons, ↓e_iconst, ↓e_bipush, ↓e_sipush, ↓e_ldc, ↓e_ldcw, ↓e_ldc2, ↓e_lconst, ↓e_iloadn, ↓e_iload, ↓e_lloadn, ↓e_lload, ↓e_aloadn, ↓e_aload, ↓e_istoren, ↓e_istore, ↓e_astoren, ↓e_astore, ↓e_add, ↓e_iinc, ↓e_iadd, ↓e_isub, ↓e_imul, ↓e_iand, ↓e_ior, ↓e_ixor, ↓e_ishl, ↓e_iushr, ↓e_idiv, ↓e_irem, ↓e_ineg, ↓e_i2l, ↓e_i2b, ↓e_i2s, ↓e_l2i, ↓e_land, ↓e_lor, ↓e_lshl, ↓e_lshr, ↓e_lushr, ↓e_lcmp, ↓e_dupi, ↓e_dupr, ↓e_popi, ↓e_dup2, ↓e_goto, ↓e_if, ↓e_icmp, ↓e_tsw, ↓e_lsw, ↓e_getf, ↓e_putf, ↓e_gets, ↓e_iald, ↓e_cald, ↓e_iast, ↓e_aald, ↓e_aast, ↓e_len, ↓e_copy, ↓e_abs, ↓e_max, ↓e_min, ↓e_iret, ↓e_aret, ↓e_vret, ↓e_is0, ↓e_is1, ↓e_is2, ↓e_is3, ↓e_is4, ↓e_iv1, ↓e_iv2, ↓e_iv3, ↓e_iv4, ↓e_iv5, ↓e_iv6, ↓rt_X9_fewestWays, ↓reduceIte, Nat.reduceAdd, Nat.reduceEqDiff, ↓zcl0, ↓zclv, List.map_nil, List.sum_nil, List.map_cons, List.sum_cons, zcat, true_and, and_true, Nat.reduceLeDiff, Nat.reduceAdd, eq_self, forall_const, e_ok0, e_okss, e_ok1i, e_ok1r, e_ok1n, zl_1, zl_1000000, Int.reduceToNat, Int.reduceAdd, Int.reduceMul, Int.reduceSub, Int.reduceNeg, Int.reduceLT, Int.reduceLE, Int.reduceEq, not_false_eq_true, not_true_eq_false, false_implies, true_implies, implies_true, Int.reduceDiv, Int.reduceMod, zr8_zr, zr_zbo, z01_zbo, z01_0, z01_1, zbo_eq0, zup_eq, zup_o, zup_k, ne_eq, ↓ct_wfew_fill, ↓r_fill, ↓B_fill, ↓ct_wfew_wflood, ↓r_wflood, ↓B_wflood, ↓v_70, ↓g_70_0, ↓g_70_1, ↓l_71, ↓s_71, ↓n_71, ↓g_70_2, ↓l_72, ↓s_72, ↓n_72, ↓g_70_3, ↓l_73, ↓s_73, ↓n_73, ↓v_2, ↓g_2_0, ↓l_3, ↓s_3, ↓n_3, ↓g_2_1, ↓l_4, ↓s_4, ↓n_4, ↓g_2_2, ↓l_5, ↓s_5, ↓n_5, ↓g_2_3, ↓l_6, ↓s_6, ↓n_6, ↓g_2_4, ↓l_7, ↓s_7, ↓n_7, ↓g_2_5, ↓l_8, ↓s_8, ↓n_8, ↓g_2_6, ↓l_9, ↓s_9, ↓n_9, ↓g_2_7, ↓p_2_7, ↓g_2_8, ↓p_2_8, ↓g_2_9, ↓p_2_9, za, ed, zd]
    refine ⟨by omega, by omega, fun q => ?_, fun q => ?_⟩
    · first | exact J22 q | exact J27 M1 (fun x p1 p2 => f1 x p1) (Or.inl ⟨p71 _ (by omega), D_shut hD q (by omega)⟩)
    · first | exact J22 q | exact J27 M1 (fun x p1 p2 => f1 x p1) (Or.inl ⟨p71 _ (by omega), D_shut hD q (by omega)⟩)
theorem prt_s {d : Nat → Int} {c : Nat} : prt d (c + 1) = if d (70 + c) = 1 ∧ (prt d c).2 c = false then ((prt d c).1 + 1, fun k => decide (gD d 1 c k < 100000) || (prt d c).2 k) else prt d c := by
  simp only [prt]
def B_wparts (M : Nat → Nat → Int) (post : Option ZV → (Nat → Nat → Int) → Prop) : Prop := ∃ d : Nat → Int, HR 2 M d ∧ Vd d ∧ ∀ M2 : ZMm, (∀ x, ¬ x = 71 → ¬ x = 73 → M2 x = M x) → post (some (.inl (prt d 64).1)) M2
def C_wparts : ZC := fun as h post => match as with
  | [.inr (.inr (.inl 70))] => h.1 = zG ∧ B_wparts h.2 (fun v M => post v (zG, M))
  | _ => False
theorem r_wparts {M : Nat → Nat → Int} {post : Option ZV → ZH → Prop} : C_wparts [.inr (.inr (.inl 70))] (zG, M) post = B_wparts M (fun v M => post v (zG, M)) := by show (zG = zG ∧ _) = _; simp
def ct_wparts : Nat → ZC := fun n => if n = 223 then C_fill else if n = 61 then C_wflood else fun _ _ _ => False
theorem ct_wparts_fill {as : List ZV} {h : ZH} {post : Option ZV → ZH → Prop} : ct_wparts 223 as h post = C_fill as h post := rfl
theorem ct_wparts_wflood {as : List ZV} {h : ZH} {post : Option ZV → ZH → Prop} : ct_wparts 61 as h post = C_wflood as h post := rfl
theorem c_wparts {E : ZE} {d : Nat} (hd : 3 ≤ d) : zMet E d mX9_partsDug C_wparts := by
  refine zmet_of (o := 9) (ini := false) (CT := ct_wparts) gd_X9_partsDug rfl (fun h => by cases h) (by omega) ?_ ?_
  · intro n as h post hh
    unfold ct_wparts at hh
    by_cases c : n = 223
    · subst c; exact ⟨gd_J7_fill_53178, 1, by omega, c_fill (by omega)⟩
    rw [if_neg c] at hh
    by_cases c : n = 61
    · subst c; exact ⟨gd_X9_flood, 2, by omega, c_wflood (by omega)⟩
    rw [if_neg c] at hh
    exact hh.elim
  intro as h post hC
  match as, hC with
  | [.inr (.inr (.inl 70))], hC =>
    refine ⟨Nat.le_of_ble_eq_true rfl, fun X hX => bs_X9_partsDug_0 hX ?_⟩
    obtain ⟨G, M⟩ := h
    obtain ⟨hG, hC⟩ := hC
    dsimp only at hG
    subst hG
    simp only [B_wparts] at hC
    show bk_X9_partsDug_0 E ct_wparts X _ [some (.inr (.inr (.inl 70))), none, none] [] (zG, M) (0, 0)
    obtain ⟨d9, H, vd, hC⟩ := hC
    have lp : ∀ (t c : Nat) (M' : ZMm), t + c = 64 → VC9 d9 (M' 71) → (∀ k, k < 64 → (M' 71 k = 1000000 ↔ (prt d9 c).2 k = false)) → (∀ x, ¬ x = 71 → ¬ x = 73 → M' x = M x) → X 13 [some (.inr (.inr (.inl 70))), some (.inl ((prt d9 c).1)), some (.inl ((c : Int)))] [] (zG, M') (0, 0) := by
      intro t
      induction t with
      | zero =>
        intro c M' ht hv hp f
        have ec : c = 64 := by omega
        subst ec
        refine bs_X9_partsDug_13 hX ?_
        have zc9 : zr ((64 : Nat) : Int) = 64 := rfl
        simp only [bk_X9_partsDug_0, k_X9_partsDug_0, bk_X9_partsDug_9, k_X9_partsDug_9, bk_X9_partsDug_13, k_X9_partsDug_13, bk_X9_partsDug_19, k_X9_partsDug_19, bk_X9_partsDug_32, k_X9_partsDug_32, bk_X9_partsDug_43, k_X9_partsDug_43, bk_X9_partsDug_51, k_X9_partsDug_51, bk_X9_partsDug_57, k_X9_partsDug_57, ↓e_rk1, ↓e_rk0, ↓e_sk0, ↓e_sks, ↓e_ldi0, ↓e_ldis, ↓e_ldl0, ↓e_ldls, ↓e_lda0, ↓e_ldas, ↓e_ok0, ↓e_okss, ↓e_ok1i, ↓e_ok1r, ↓e_ok1n, ↓e_sti, ↓e_sta, ↓e_1, ↓e_2, ↓e_l1, ↓e_l2, ↓e_li, ↓e_sw0, ↓e_sws, ↓e_ceq, ↓e_cne, ↓e_clt, ↓e_cge, ↓e_cgt, ↓e_cle, ↓e_nil, ↓e_cons, ↓e_iconst, ↓e_bipush, ↓e_sipush, ↓e_ldc, ↓e_ldcw, ↓e_ldc2, ↓e_lconst, ↓e_iloadn, ↓e_iload, ↓e_lloadn, ↓e_lload, ↓e_aloadn, ↓e_aload, ↓e_istoren, ↓e_istore, ↓e_astoren, ↓e_astore, ↓e_add, ↓e_iinc, ↓e_iadd, ↓e_isub, ↓e_imul, ↓e_iand, ↓e_ior, ↓e_ixor, ↓e_ishl, ↓e_iushr, ↓e_idiv, ↓e_irem, ↓e_ineg, ↓e_i2l, ↓e_i2b, ↓e_i2s, ↓e_l2i, ↓e_land, ↓e_lor, ↓e_lshl, ↓e_lshr, ↓e_lushr, ↓e_lcmp, ↓e_dupi, ↓e_dupr, ↓e_popi, ↓e_dup2, ↓e_goto, ↓e_if, ↓e_icmp, ↓e_tsw, ↓e_lsw, ↓e_getf, ↓e_putf, ↓e_gets, ↓e_iald, ↓e_cald, ↓e_iast, ↓e_aald, ↓e_aast, ↓e_len, ↓e_copy, ↓e_abs, ↓e_max, ↓e_min, ↓e_iret, ↓e_aret, ↓e_vret, ↓e_is0, ↓e_is1, ↓e_is2, ↓e_is3, ↓e_is4, ↓e_iv1, ↓e_iv2, ↓e_iv3, ↓e_iv4, ↓e_iv5, ↓e_iv6, ↓rt_X9_partsDug, ↓reduceIte, Nat.reduceAdd, Nat.reduceEqDiff, ↓zcl0, ↓zclv, List.map_nil, List.sum_nil, List.map_cons, List.sum_cons, zcat, true_and, and_true, Nat.reduceLeDiff, Nat.reduceAdd, eq_self, forall_const, e_ok0, e_okss, e_ok1i, e_ok1r, e_ok1n, zl_0, zl_1, zl_64, zl_1000000, Int.reduceToNat, Int.reduceAdd, Int.reduceMul, Int.reduceSub, Int.reduceNeg, Int.reduceLT, Int.reduceLE, Int.reduceEq, not_false_eq_true, not_true_eq_false, false_implies, true_implies, implies_true, Int.reduceDiv, Int.reduceMod, zr8_zr, zr_zbo, z01_zbo, z01_0, z01_1, zbo_eq0, zup_eq, zup_o, zup_k, ne_eq, ↓ct_wparts_fill, ↓r_fill, ↓B_fill, ↓ct_wparts_wflood, ↓r_wflood, ↓B_wflood, ↓v_70, ↓g_70_0, ↓g_70_1, ↓l_71, ↓s_71, ↓n_71, ↓g_70_2, ↓l_72, ↓s_72, ↓n_72, ↓g_70_3, ↓l_73, ↓s_73, ↓n_73, zc9]
        refine bs_X9_partsDug_57 hX ?_
        simp only [bk_X9_partsDug_0, k_X9_partsDug_0, bk_X9_partsDug_9, k_X9_partsDug_9, bk_X9_partsDug_13, k_X9_partsDug_13, bk_X9_partsDug_19, k_X9_partsDug_19, bk_X9_partsDug_32, k_X9_partsDug_32, bk_X9_partsDug_43, k_X9_partsDug_43, bk_X9_partsDug_51, k_X9_partsDug_51, bk_X9_partsDug_57, k_X9_partsDug_57, ↓e_rk1, ↓e_rk0, ↓e_sk0, ↓e_sks, ↓e_ldi0, ↓e_ldis, ↓e_ldl0, ↓e_ldls, ↓e_lda0, ↓e_ldas, ↓e_ok0, ↓e_okss, ↓e_ok1i, ↓e_ok1r, ↓e_ok1n, ↓e_sti, ↓e_sta, ↓e_1, ↓e_2, ↓e_l1, ↓e_l2, ↓e_li, ↓e_sw0, ↓e_sws, ↓e_ceq, ↓e_cne, ↓e_clt, ↓e_cge, ↓e_cgt, ↓e_cle, ↓e_nil, ↓e_cons, ↓e_iconst, ↓e_bipush, ↓e_sipush, ↓e_ldc, ↓e_ldcw, ↓e_ldc2, ↓e_lconst, ↓e_iloadn, ↓e_iload, ↓e_lloadn, ↓e_lload, ↓e_aloadn, ↓e_aload, ↓e_istoren, ↓e_istore, ↓e_astoren, ↓e_astore, ↓e_add, ↓e_iinc, ↓e_iadd, ↓e_isub, ↓e_imul, ↓e_iand, ↓e_ior, ↓e_ixor, ↓e_ishl, ↓e_iushr, ↓e_idiv, ↓e_irem, ↓e_ineg, ↓e_i2l, ↓e_i2b, ↓e_i2s, ↓e_l2i, ↓e_land, ↓e_lor, ↓e_lshl, ↓e_lshr, ↓e_lushr, ↓e_lcmp, ↓e_dupi, ↓e_dupr, ↓e_popi, ↓e_dup2, ↓e_goto, ↓e_if, ↓e_icmp, ↓e_tsw, ↓e_lsw, ↓e_getf, ↓e_putf, ↓e_gets, ↓e_iald, ↓e_cald, ↓e_iast, ↓e_aald, ↓e_aast, ↓e_len, ↓e_copy, ↓e_abs, ↓e_max, ↓e_min, ↓e_iret, ↓e_aret, ↓e_vret, ↓e_is0, ↓e_is1, ↓e_is2, ↓e_is3, ↓e_is4, ↓e_iv1, ↓e_iv2, ↓e_iv3, ↓e_iv4, ↓e_iv5, ↓e_iv6, ↓rt_X9_partsDug, ↓reduceIte, Nat.reduceAdd, Nat.reduceEqDiff, ↓zcl0, ↓zclv, List.map_nil, List.sum_nil, List.map_cons, List.sum_cons, zcat, true_and, and_true, Nat.reduceLeDiff, Nat.reduceAdd, eq_self, forall_const, e_ok0, e_okss, e_ok1i, e_ok1r, e_ok1n, zl_0, zl_1, zl_64, zl_1000000, Int.reduceToNat, Int.reduceAdd, Int.reduceMul, Int.reduceSub, Int.reduceNeg, Int.reduceLT, Int.reduceLE, Int.reduceEq, not_false_eq_true, not_true_eq_false, false_implies, true_implies, implies_true, Int.reduceDiv, Int.reduceMod, zr8_zr, zr_zbo, z01_zbo, z01_0, z01_1, zbo_eq0, zup_eq, zup_o, zup_k, ne_eq, ↓ct_wparts_fill, ↓r_fill, ↓B_fill, ↓ct_wparts_wflood, ↓r_wflood, ↓B_wflood, ↓v_70, ↓g_70_0, ↓g_70_1, ↓l_71, ↓s_71, ↓n_71, ↓g_70_2, ↓l_72, ↓s_72, ↓n_72, ↓g_70_3, ↓l_73, ↓s_73, ↓n_73]
        exact hC M' f
      | succ t ih =>
        intro c M' ht hv hp f
        have zc9 : zr (c : Int) = c := zr_of (by omega) (by omega)
        have lc : ((c : Int) < 64) = True := eq_true (by omega)
        have H1 : HR 2 M' d9 := HR_cg H (fun x p q => f x (by omega) (by omega)) (fun _ _ => rfl)
        have ed : M' 4 c = d9 (70 + c) := H1.2.1 c (by omega)
        have bd := vd.2.2.2.2.2.2.1 (70 + c) (by omega) (by omega)
        have zd : zr (d9 (70 + c)) = d9 (70 + c) := zr_of (by omega) (by omega)
        have pc := hp c (by omega)
        have pr := hv.1 c (by omega)
        have zp : zr (M' 71 c) = M' 71 c := zr_of (by omega) (by omega)
        have z6 : zr 1000000 = 1000000 := rfl
        have J51 : ∀ (M2 : ZMm) (v : Int), v = (prt d9 (c + 1)).1 → VC9 d9 (M2 71) → (∀ k, k < 64 → (M2 71 k = 1000000 ↔ (prt d9 (c + 1)).2 k = false)) → (∀ x, ¬ x = 71 → ¬ x = 73 → M2 x = M x) → X 51 [some (.inr (.inr (.inl 70))), some (.inl v), some (.inl ((c : Int)))] [] (zG, M2) (0, 0) := by
          intro M2 v hv9 a1 a2 a3
          refine bs_X9_partsDug_51 hX ?_
          simp only [bk_X9_partsDug_0, k_X9_partsDug_0, bk_X9_partsDug_9, k_X9_partsDug_9, bk_X9_partsDug_13, k_X9_partsDug_13, bk_X9_partsDug_19, k_X9_partsDug_19, bk_X9_partsDug_32, k_X9_partsDug_32, bk_X9_partsDug_43, k_X9_partsDug_43, bk_X9_partsDug_51, k_X9_partsDug_51, bk_X9_partsDug_57, k_X9_partsDug_57, ↓e_rk1, ↓e_rk0, ↓e_sk0, ↓e_sks, ↓e_ldi0, ↓e_ldis, ↓e_ldl0, ↓e_ldls, ↓e_lda0, ↓e_ldas, ↓e_ok0, ↓e_okss, ↓e_ok1i, ↓e_ok1r, ↓e_ok1n, ↓e_sti, ↓e_sta, ↓e_1, ↓e_2, ↓e_l1, ↓e_l2, ↓e_li, ↓e_sw0, ↓e_sws, ↓e_ceq, ↓e_cne, ↓e_clt, ↓e_cge, ↓e_cgt, ↓e_cle, ↓e_nil, ↓e_cons, ↓e_iconst, ↓e_bipush, ↓e_sipush, ↓e_ldc, ↓e_ldcw, ↓e_ldc2, ↓e_lconst, ↓e_iloadn, ↓e_iload, ↓e_lloadn, ↓e_lload, ↓e_aloadn, ↓e_aload, ↓e_istoren, ↓e_istore, ↓e_astoren, ↓e_astore, ↓e_add, ↓e_iinc, ↓e_iadd, ↓e_isub, ↓e_imul, ↓e_iand, ↓e_ior, ↓e_ixor, ↓e_ishl, ↓e_iushr, ↓e_idiv, ↓e_irem, ↓e_ineg, ↓e_i2l, ↓e_i2b, ↓e_i2s, ↓e_l2i, ↓e_land, ↓e_lor, ↓e_lshl, ↓e_lshr, ↓e_lushr, ↓e_lcmp, ↓e_dupi, ↓e_dupr, ↓e_popi, ↓e_dup2, ↓e_goto, ↓e_if, ↓e_icmp, ↓e_tsw, ↓e_lsw, ↓e_getf, ↓e_putf, ↓e_gets, ↓e_iald, ↓e_cald, ↓e_iast, ↓e_aald, ↓e_aast, ↓e_len, ↓e_copy, ↓e_abs, ↓e_max, ↓e_min, ↓e_iret, ↓e_aret, ↓e_vret, ↓e_is0, ↓e_is1, ↓e_is2, ↓e_is3, ↓e_is4, ↓e_iv1, ↓e_iv2, ↓e_iv3, ↓e_iv4, ↓e_iv5, ↓e_iv6, ↓rt_X9_partsDug, ↓reduceIte, Nat.reduceAdd, Nat.reduceEqDiff, ↓zcl0, ↓zclv, List.map_nil, List.sum_nil, List.map_cons, List.sum_cons, zcat, true_and, and_true, Nat.reduceLeDiff, Nat.reduceAdd, eq_self, forall_const, e_ok0, e_okss, e_ok1i, e_ok1r, e_ok1n, zl_0, zl_1, zl_64, zl_1000000, Int.reduceToNat, Int.reduceAdd, Int.reduceMul, Int.reduceSub, Int.reduceNeg, Int.reduceLT, Int.reduceLE, Int.reduceEq, not_false_eq_true, not_true_eq_false, false_implies, true_implies, implies_true, Int.reduceDiv, Int.reduceMod, zr8_zr, zr_zbo, z01_zbo, z01_0, z01_1, zbo_eq0, zup_eq, zup_o, zup_k, ne_eq, ↓ct_wparts_fill, ↓r_fill, ↓B_fill, ↓ct_wparts_wflood, ↓r_wflood, ↓B_wflood, ↓v_70, ↓g_70_0, ↓g_70_1, ↓l_71, ↓s_71, ↓n_71, ↓g_70_2, ↓l_72, ↓s_72, ↓n_72, ↓g_70_3, ↓l_73, ↓s_73, ↓n_73]
          subst hv9
          exact ih (c + 1) M2 (by omega) a1 a2 a3
        have no9 : ¬ (d9 (70 + c) = 1 ∧ (prt d9 c).2 c = false) → X 51 [some (.inr (.inr (.inl 70))), some (.inl ((prt d9 c).1)), some (.inl ((c : Int)))] [] (zG, M') (0, 0) := by
          intro q
          have e : prt d9 (c + 1) = prt d9 c := by rw [prt_s, if_neg q]
          exact J51 M' _ (by rw [e]) hv (fun k hk => by rw [e]; exact hp k hk) f
        have J43 : (d9 (70 + c) = 1 ∧ (prt d9 c).2 c = false) → X 43 [some (.inr (.inr (.inl 70))), some (.inl ((prt d9 c).1)), some (.inl ((c : Int)))] [] (zG, M') (0, 0) := by
          intro q
          have e : prt d9 (c + 1) = ((prt d9 c).1 + 1, fun k => decide (gD d9 1 c k < 100000) || (prt d9 c).2 k) := by rw [prt_s, if_pos q]
          have hD := gD_Grt vd (s := 1) (a := c) (by omega)
          refine bs_X9_partsDug_43 hX ?_
          simp only [bk_X9_partsDug_0, k_X9_partsDug_0, bk_X9_partsDug_9, k_X9_partsDug_9, bk_X9_partsDug_13, k_X9_partsDug_13, bk_X9_partsDug_19, k_X9_partsDug_19, bk_X9_partsDug_32, k_X9_partsDug_32, bk_X9_partsDug_43, k_X9_partsDug_43, bk_X9_partsDug_51, k_X9_partsDug_51, bk_X9_partsDug_57, k_X9_partsDug_57, ↓e_rk1, ↓e_rk0, ↓e_sk0, ↓e_sks, ↓e_ldi0, ↓e_ldis, ↓e_ldl0, ↓e_ldls, ↓e_lda0, ↓e_ldas, ↓e_ok0, ↓e_okss, ↓e_ok1i, ↓e_ok1r, ↓e_ok1n, ↓e_sti, ↓e_sta, ↓e_1, ↓e_2, ↓e_l1, ↓e_l2, ↓e_li, ↓e_sw0, ↓e_sws, ↓e_ceq, ↓e_cne, ↓e_clt, ↓e_cge, ↓e_cgt, ↓e_cle, ↓e_nil, ↓e_cons, ↓e_iconst, ↓e_bipush, ↓e_sipush, ↓e_ldc, ↓e_ldcw, ↓e_ldc2, ↓e_lconst, ↓e_iloadn, ↓e_iload, ↓e_lloadn, ↓e_lload, ↓e_aloadn, ↓e_aload, ↓e_istoren, ↓e_istore, ↓e_astoren, ↓e_astore, ↓e_add, ↓e_iinc, ↓e_iadd, ↓e_isub, ↓e_imul, ↓e_iand, ↓e_ior, ↓e_ixor, ↓e_ishl, ↓e_iushr, ↓e_idiv, ↓e_irem, ↓e_ineg, ↓e_i2l, ↓e_i2b, ↓e_i2s, ↓e_l2i, ↓e_land, ↓e_lor, ↓e_lshl, ↓e_lshr, ↓e_lushr, ↓e_lcmp, ↓e_dupi, ↓e_dupr, ↓e_popi, ↓e_dup2, ↓e_goto, ↓e_if, ↓e_icmp, ↓e_tsw, ↓e_lsw, ↓e_getf, ↓e_putf, ↓e_gets, ↓e_iald, ↓e_cald, ↓e_iast, ↓e_aald, ↓e_aast, ↓e_len, ↓e_copy, ↓e_abs, ↓e_max, ↓e_min, ↓e_iret, ↓e_aret, ↓e_vret, ↓e_is0, ↓e_is1, ↓e_is2, ↓e_is3, ↓e_is4, ↓e_iv1, ↓e_iv2, ↓e_iv3, ↓e_iv4, ↓e_iv5, ↓e_iv6, ↓rt_X9_partsDug, ↓reduceIte, Nat.reduceAdd, Nat.reduceEqDiff, ↓zcl0, ↓zclv, List.map_nil, List.sum_nil, List.map_cons, List.sum_cons, zcat, true_and, and_true, Nat.reduceLeDiff, Nat.reduceAdd, eq_self, forall_const, e_ok0, e_okss, e_ok1i, e_ok1r, e_ok1n, zl_0, zl_1, zl_64, zl_1000000, Int.reduceToNat, Int.reduceAdd, Int.reduceMul, Int.reduceSub, Int.reduceNeg, Int.reduceLT, Int.reduceLE, Int.reduceEq, not_false_eq_true, not_true_eq_false, false_implies, true_implies, implies_true, Int.reduceDiv, Int.reduceMod, zr8_zr, zr_zbo, z01_zbo, z01_0, z01_1, zbo_eq0, zup_eq, zup_o, zup_k, ne_eq, ↓ct_wparts_fill, ↓r_fill, ↓B_fill, ↓ct_wparts_wflood, ↓r_wflood, ↓B_wflood, ↓v_70, ↓g_70_0, ↓g_70_1, ↓l_71, ↓s_71, ↓n_71, ↓g_70_2, ↓l_72, ↓s_72, ↓n_72, ↓g_70_3, ↓l_73, ↓s_73, ↓n_73]
          refine ⟨by omega, d9, H1, vd, by rw [show (70 + (c : Int)).toNat = 70 + c by omega]; exact q.1, hv, by rw [Int.toNat_natCast]; exact pc.mpr q.2, fun M2 h2 f2 => J51 M2 _ (by rw [e]) (VC9_fl hD hv h2) (fun k hk => ?_) (fun x p1 p2 => by rw [f2 x p1 p2, f x p1 p2])⟩
          rw [e]
          dsimp only
          have hk9 := hp k hk
          by_cases q9 : M' 71 k = 1000000
          · rw [hk9.mp q9]
            rcases h2.2 k hk q9 with e2 | e2
            · rw [decide_eq_false (by omega)]
              exact ⟨fun _ => rfl, fun _ => e2.1⟩
            · rw [decide_eq_true (by omega)]
              exact ⟨fun h9 => by omega, fun h9 => absurd h9 (by decide)⟩
          · have e2 := h2.1 k hk q9
            have vt : (prt d9 c).2 k = true := by
              cases hb : (prt d9 c).2 k
              · exact absurd (hk9.mpr hb) q9
              · rfl
            rw [vt, Bool.or_true, e2.1]
            exact ⟨fun h9 => absurd h9 q9, fun h9 => absurd h9 (by decide)⟩
        have J32 : d9 (70 + c) = 1 → X 32 [some (.inr (.inr (.inl 70))), some (.inl ((prt d9 c).1)), some (.inl ((c : Int)))] [] (zG, M') (0, 0) := by
          intro q
          refine bs_X9_partsDug_32 hX ?_
          simp only [bk_X9_partsDug_0, k_X9_partsDug_0, bk_X9_partsDug_9, k_X9_partsDug_9, bk_X9_partsDug_13, k_X9_partsDug_13, bk_X9_partsDug_19, k_X9_partsDug_19, bk_X9_partsDug_32, k_X9_partsDug_32, bk_X9_partsDug_43, k_X9_partsDug_43, bk_X9_partsDug_51, k_X9_partsDug_51, bk_X9_partsDug_57, k_X9_partsDug_57, ↓e_rk1, ↓e_rk0, ↓e_sk0, ↓e_sks, ↓e_ldi0, ↓e_ldis, ↓e_ldl0, ↓e_ldls, ↓e_lda0, ↓e_ldas, ↓e_ok0, ↓e_okss, ↓e_ok1i, ↓e_ok1r, ↓e_ok1n, ↓e_sti, ↓e_sta, ↓e_1, ↓e_2, ↓e_l1, ↓e_l2, ↓e_li, ↓e_sw0, ↓e_sws, ↓e_ceq, ↓e_cne, ↓e_clt, ↓e_cge, ↓e_cgt, ↓e_cle, ↓e_nil, ↓e_cons, ↓e_iconst, ↓e_bipush, ↓e_sipush, ↓e_ldc, ↓e_ldcw, ↓e_ldc2, ↓e_lconst, ↓e_iloadn, ↓e_iload, ↓e_lloadn, ↓e_lload, ↓e_aloadn, ↓e_aload, ↓e_istoren, ↓e_istore, ↓e_astoren, ↓e_astore, ↓e_add, ↓e_iinc, ↓e_iadd, ↓e_isub, ↓e_imul, ↓e_iand, ↓e_ior, ↓e_ixor, ↓e_ishl, ↓e_iushr, ↓e_idiv, ↓e_irem, ↓e_ineg, ↓e_i2l, ↓e_i2b, ↓e_i2s, ↓e_l2i, ↓e_land, ↓e_lor, ↓e_lshl, ↓e_lshr, ↓e_lushr, ↓e_lcmp, ↓e_dupi, ↓e_dupr, ↓e_popi, ↓e_dup2, ↓e_goto, ↓e_if, ↓e_icmp, ↓e_tsw, ↓e_lsw, ↓e_getf, ↓e_putf, ↓e_gets, ↓e_iald, ↓e_cald, ↓e_iast, ↓e_aald, ↓e_aast, ↓e_len, ↓e_copy, ↓e_abs, ↓e_max, ↓e_min, ↓e_iret, ↓e_aret, ↓e_vret, ↓e_is0, ↓e_is1, ↓e_is2, ↓e_is3, ↓e_is4, ↓e_iv1, ↓e_iv2, ↓e_iv3, ↓e_iv4, ↓e_iv5, ↓e_iv6, ↓rt_X9_partsDug, ↓reduceIte, Nat.reduceAdd, Nat.reduceEqDiff, ↓zcl0, ↓zclv, List.map_nil, List.sum_nil, List.map_cons, List.sum_cons, zcat, true_and, and_true, Nat.reduceLeDiff, Nat.reduceAdd, eq_self, forall_const, e_ok0, e_okss, e_ok1i, e_ok1r, e_ok1n, zl_0, zl_1, zl_64, zl_1000000, Int.reduceToNat, Int.reduceAdd, Int.reduceMul, Int.reduceSub, Int.reduceNeg, Int.reduceLT, Int.reduceLE, Int.reduceEq, not_false_eq_true, not_true_eq_false, false_implies, true_implies, implies_true, Int.reduceDiv, Int.reduceMod, zr8_zr, zr_zbo, z01_zbo, z01_0, z01_1, zbo_eq0, zup_eq, zup_o, zup_k, ne_eq, ↓ct_wparts_fill, ↓r_fill, ↓B_fill, ↓ct_wparts_wflood, ↓r_wflood, ↓B_wflood, ↓v_70, ↓g_70_0, ↓g_70_1, ↓l_71, ↓s_71, ↓n_71, ↓g_70_2, ↓l_72, ↓s_72, ↓n_72, ↓g_70_3, ↓l_73, ↓s_73, ↓n_73, zc9, Int.toNat_natCast, zp, z6]
          refine ⟨by omega, by omega, fun e => ?_, fun e => ?_⟩
          · first | exact J43 ⟨q, pc.mp e⟩ | exact no9 (fun h9 => e (pc.mpr h9.2))
          · first | exact J43 ⟨q, pc.mp e⟩ | exact no9 (fun h9 => e (pc.mpr h9.2))
        refine bs_X9_partsDug_13 hX ?_
        simp only [bk_X9_partsDug_0, k_X9_partsDug_0, bk_X9_partsDug_9, k_X9_partsDug_9, bk_X9_partsDug_13, k_X9_partsDug_13, bk_X9_partsDug_19, k_X9_partsDug_19, bk_X9_partsDug_32, k_X9_partsDug_32, bk_X9_partsDug_43, k_X9_partsDug_43, bk_X9_partsDug_51, k_X9_partsDug_51, bk_X9_partsDug_57, k_X9_partsDug_57, ↓e_rk1, ↓e_rk0, ↓e_sk0, ↓e_sks, ↓e_ldi0, ↓e_ldis, ↓e_ldl0, ↓e_ldls, ↓e_lda0, ↓e_ldas, ↓e_ok0, ↓e_okss, ↓e_ok1i, ↓e_ok1r, ↓e_ok1n, ↓e_sti, ↓e_sta, ↓e_1, ↓e_2, ↓e_l1, ↓e_l2, ↓e_li, ↓e_sw0, ↓e_sws, ↓e_ceq, ↓e_cne, ↓e_clt, ↓e_cge, ↓e_cgt, ↓e_cle, ↓e_nil, ↓e_cons, ↓e_iconst, ↓e_bipush, ↓e_sipush, ↓e_ldc, ↓e_ldcw, ↓e_ldc2, ↓e_lconst, ↓e_iloadn, ↓e_iload, ↓e_lloadn, ↓e_lload, ↓e_aloadn, ↓e_aload, ↓e_istoren, ↓e_istore, ↓e_astoren, ↓e_astore, ↓e_add, ↓e_iinc, ↓e_iadd, ↓e_isub, ↓e_imul, ↓e_iand, ↓e_ior, ↓e_ixor, ↓e_ishl, ↓e_iushr, ↓e_idiv, ↓e_irem, ↓e_ineg, ↓e_i2l, ↓e_i2b, ↓e_i2s, ↓e_l2i, ↓e_land, ↓e_lor, ↓e_lshl, ↓e_lshr, ↓e_lushr, ↓e_lcmp, ↓e_dupi, ↓e_dupr, ↓e_popi, ↓e_dup2, ↓e_goto, ↓e_if, ↓e_icmp, ↓e_tsw, ↓e_lsw, ↓e_getf, ↓e_putf, ↓e_gets, ↓e_iald, ↓e_cald, ↓e_iast, ↓e_aald, ↓e_aast, ↓e_len, ↓e_copy, ↓e_abs, ↓e_max, ↓e_min, ↓e_iret, ↓e_aret, ↓e_vret, ↓e_is0, ↓e_is1, ↓e_is2, ↓e_is3, ↓e_is4, ↓e_iv1, ↓e_iv2, ↓e_iv3, ↓e_iv4, ↓e_iv5, ↓e_iv6, ↓rt_X9_partsDug, ↓reduceIte, Nat.reduceAdd, Nat.reduceEqDiff, ↓zcl0, ↓zclv, List.map_nil, List.sum_nil, List.map_cons, List.sum_cons, zcat, true_and, and_true, Nat.reduceLeDiff, Nat.reduceAdd, eq_self, forall_const, e_ok0, e_okss, e_ok1i, e_ok1r, e_ok1n, zl_0, zl_1, zl_64, zl_1000000, Int.reduceToNat, Int.reduceAdd, Int.reduceMul, Int.reduceSub, Int.reduceNeg, Int.reduceLT, Int.reduceLE, Int.reduceEq, not_false_eq_true, not_true_eq_false, false_implies, true_implies, implies_true, Int.reduceDiv, Int.reduceMod, zr8_zr, zr_zbo, z01_zbo, z01_0, z01_1, zbo_eq0, zup_eq, zup_o, zup_k, ne_eq, ↓ct_wparts_fill, ↓r_fill, ↓B_fill, ↓ct_wparts_wflood, ↓r_wflood, ↓B_wflood, ↓v_70, ↓g_70_0, ↓g_70_1, ↓l_71, ↓s_71, ↓n_71, ↓g_70_2, ↓l_72, ↓s_72, ↓n_72, ↓g_70_3, ↓l_73, ↓s_73, ↓n_73, zc9, lc]
        refine bs_X9_partsDug_19 hX ?_
        simp only [bk_X9_partsDug_0, k_X9_partsDug_0, bk_X9_partsDug_9, k_X9_partsDug_9, bk_X9_partsDug_13, k_X9_partsDug_13, bk_X9_partsDug_19, k_X9_partsDug_19, bk_X9_partsDug_32, k_X9_partsDug_32, bk_X9_partsDug_43, k_X9_partsDug_43, bk_X9_partsDug_51, k_X9_partsDug_51, bk_X9_partsDug_57, k_X9_partsDug_57, ↓e_rk1, ↓e_rk0, ↓e_sk0, ↓e_sks, ↓e_ldi0, ↓e_ldis, ↓e_ldl0, ↓e_ldls, ↓e_lda0, ↓e_ldas, ↓e_ok0, ↓e_okss, ↓e_ok1i, ↓e_ok1r, ↓e_ok1n, ↓e_sti, ↓e_sta, ↓e_1, ↓e_2, ↓e_l1, ↓e_l2, ↓e_li, ↓e_sw0, ↓e_sws, ↓e_ceq, ↓e_cne, ↓e_clt, ↓e_cge, ↓e_cgt, ↓e_cle, ↓e_nil, ↓e_cons, ↓e_iconst, ↓e_bipush, ↓e_sipush, ↓e_ldc, ↓e_ldcw, ↓e_ldc2, ↓e_lconst, ↓e_iloadn, ↓e_iload, ↓e_lloadn, ↓e_lload, ↓e_aloadn, ↓e_aload, ↓e_istoren, ↓e_istore, ↓e_astoren, ↓e_astore, ↓e_add, ↓e_iinc, ↓e_iadd, ↓e_isub, ↓e_imul, ↓e_iand, ↓e_ior, ↓e_ixor, ↓e_ishl, ↓e_iushr, ↓e_idiv, ↓e_irem, ↓e_ineg, ↓e_i2l, ↓e_i2b, ↓e_i2s, ↓e_l2i, ↓e_land, ↓e_lor, ↓e_lshl, ↓e_lshr, ↓e_lushr, ↓e_lcmp, ↓e_dupi, ↓e_dupr, ↓e_popi, ↓e_dup2, ↓e_goto, ↓e_if, ↓e_icmp, ↓e_tsw, ↓e_lsw, ↓e_getf, ↓e_putf, ↓e_gets, ↓e_iald, ↓e_cald, ↓e_iast, ↓e_aald, ↓e_aast, ↓e_len, ↓e_copy, ↓e_abs, ↓e_max, ↓e_min, ↓e_iret, ↓e_aret, ↓e_vret, ↓e_is0, ↓e_is1, ↓e_is2, ↓e_is3, ↓e_is4, ↓e_iv1, ↓e_iv2, ↓e_iv3, ↓e_iv4, ↓e_iv5, ↓e_iv6, ↓rt_X9_partsDug, ↓reduceIte, Nat.reduceAdd, Nat.reduceEqDiff, ↓zcl0, ↓zclv, List.map_nil, List.sum_nil, List.map_cons, List.sum_cons, zcat, true_and, and_true, Nat.reduceLeDiff, Nat.reduceAdd, eq_self, forall_const, e_ok0, e_okss, e_ok1i, e_ok1r, e_ok1n, zl_0, zl_1, zl_64, zl_1000000, Int.reduceToNat, Int.reduceAdd, Int.reduceMul, Int.reduceSub, Int.reduceNeg, Int.reduceLT, Int.reduceLE, Int.reduceEq, not_false_eq_true, not_true_eq_false, false_implies, true_implies, implies_true, Int.reduceDiv, Int.reduceMod, zr8_zr, zr_zbo, z01_zbo, z01_0, z01_1, zbo_eq0, zup_eq, zup_o, zup_k, ne_eq, ↓ct_wparts_fill, ↓r_fill, ↓B_fill, ↓ct_wparts_wflood, ↓r_wflood, ↓B_wflood, ↓v_70, ↓g_70_0, ↓g_70_1, ↓l_71, ↓s_71, ↓n_71, ↓g_70_2, ↓l_72, ↓s_72, ↓n_72, ↓g_70_3, ↓l_73, ↓s_73, ↓n_73, ↓v_2, ↓g_2_0, ↓l_3, ↓s_3, ↓n_3, ↓g_2_1, ↓l_4, ↓s_4, ↓n_4, ↓g_2_2, ↓l_5, ↓s_5, ↓n_5, ↓g_2_3, ↓l_6, ↓s_6, ↓n_6, ↓g_2_4, ↓l_7, ↓s_7, ↓n_7, ↓g_2_5, ↓l_8, ↓s_8, ↓n_8, ↓g_2_6, ↓l_9, ↓s_9, ↓n_9, ↓g_2_7, ↓p_2_7, ↓g_2_8, ↓p_2_8, ↓g_2_9, ↓p_2_9, zc9, Int.toNat_natCast, ed, zd]
        refine ⟨by omega, by omega, fun e => ?_, fun e => ?_⟩
        · first | exact J32 e | exact no9 (fun h9 => e h9.1)
        · first | exact J32 e | exact no9 (fun h9 => e h9.1)
    simp only [bk_X9_partsDug_0, k_X9_partsDug_0, bk_X9_partsDug_9, k_X9_partsDug_9, bk_X9_partsDug_13, k_X9_partsDug_13, bk_X9_partsDug_19, k_X9_partsDug_19, bk_X9_partsDug_32, k_X9_partsDug_32, bk_X9_partsDug_43, k_X9_partsDug_43, bk_X9_partsDug_51, k_X9_partsDug_51, bk_X9_partsDug_57, k_X9_partsDug_57, ↓e_rk1, ↓e_rk0, ↓e_sk0, ↓e_sks, ↓e_ldi0, ↓e_ldis, ↓e_ldl0, ↓e_ldls, ↓e_lda0, ↓e_ldas, ↓e_ok0, ↓e_okss, ↓e_ok1i, ↓e_ok1r, ↓e_ok1n, ↓e_sti, ↓e_sta, ↓e_1, ↓e_2, ↓e_l1, ↓e_l2, ↓e_li, ↓e_sw0, ↓e_sws, ↓e_ceq, ↓e_cne, ↓e_clt, ↓e_cge, ↓e_cgt, ↓e_cle, ↓e_nil, ↓e_cons, ↓e_iconst, ↓e_bipush, ↓e_sipush, ↓e_ldc, ↓e_ldcw, ↓e_ldc2, ↓e_lconst, ↓e_iloadn, ↓e_iload, ↓e_lloadn, ↓e_lload, ↓e_aloadn, ↓e_aload, ↓e_istoren, ↓e_istore, ↓e_astoren, ↓e_astore, ↓e_add, ↓e_iinc, ↓e_iadd, ↓e_isub, ↓e_imul, ↓e_iand, ↓e_ior, ↓e_ixor, ↓e_ishl, ↓e_iushr, ↓e_idiv, ↓e_irem, ↓e_ineg, ↓e_i2l, ↓e_i2b, ↓e_i2s, ↓e_l2i, ↓e_land, ↓e_lor, ↓e_lshl, ↓e_lshr, ↓e_lushr, ↓e_lcmp, ↓e_dupi, ↓e_dupr, ↓e_popi, ↓e_dup2, ↓e_goto, ↓e_if, ↓e_icmp, ↓e_tsw, ↓e_lsw, ↓e_getf, ↓e_putf, ↓e_gets, ↓e_iald, ↓e_cald, ↓e_iast, ↓e_aald, ↓e_aast, ↓e_len, ↓e_copy, ↓e_abs, ↓e_max, ↓e_min, ↓e_iret, ↓e_aret, ↓e_vret, ↓e_is0, ↓e_is1, ↓e_is2, ↓e_is3, ↓e_is4, ↓e_iv1, ↓e_iv2, ↓e_iv3, ↓e_iv4, ↓e_iv5, ↓e_iv6, ↓rt_X9_partsDug, ↓reduceIte, Nat.reduceAdd, Nat.reduceEqDiff, ↓zcl0, ↓zclv, List.map_nil, List.sum_nil, List.map_cons, List.sum_cons, zcat, true_and, and_true, Nat.reduceLeDiff, Nat.reduceAdd, eq_self, forall_const, e_ok0, e_okss, e_ok1i, e_ok1r, e_ok1n, zl_0, zl_1, zl_64, zl_1000000, Int.reduceToNat, Int.reduceAdd, Int.reduceMul, Int.reduceSub, Int.reduceNeg, Int.reduceLT, Int.reduceLE, Int.reduceEq, not_false_eq_true, not_true_eq_false, false_implies, true_implies, implies_true, Int.reduceDiv, Int.reduceMod, zr8_zr, zr_zbo, z01_zbo, z01_0, z01_1, zbo_eq0, zup_eq, zup_o, zup_k, ne_eq, ↓ct_wparts_fill, ↓r_fill, ↓B_fill, ↓ct_wparts_wflood, ↓r_wflood, ↓B_wflood, ↓v_70, ↓g_70_0, ↓g_70_1, ↓l_71, ↓s_71, ↓n_71, ↓g_70_2, ↓l_72, ↓s_72, ↓n_72, ↓g_70_3, ↓l_73, ↓s_73, ↓n_73]
    refine ⟨64, rfl, by omega, fun M1 e1 f1 => ?_⟩
    have p71 : ∀ k, k < 64 → M1 71 k = 1000000 := fun k hk => by
      rw [e1]
      dsimp only
      rw [if_pos hk]
    refine bs_X9_partsDug_9 hX ?_
    simp only [bk_X9_partsDug_0, k_X9_partsDug_0, bk_X9_partsDug_9, k_X9_partsDug_9, bk_X9_partsDug_13, k_X9_partsDug_13, bk_X9_partsDug_19, k_X9_partsDug_19, bk_X9_partsDug_32, k_X9_partsDug_32, bk_X9_partsDug_43, k_X9_partsDug_43, bk_X9_partsDug_51, k_X9_partsDug_51, bk_X9_partsDug_57, k_X9_partsDug_57, ↓e_rk1, ↓e_rk0, ↓e_sk0, ↓e_sks, ↓e_ldi0, ↓e_ldis, ↓e_ldl0, ↓e_ldls, ↓e_lda0, ↓e_ldas, ↓e_ok0, ↓e_okss, ↓e_ok1i, ↓e_ok1r, ↓e_ok1n, ↓e_sti, ↓e_sta, ↓e_1, ↓e_2, ↓e_l1, ↓e_l2, ↓e_li, ↓e_sw0, ↓e_sws, ↓e_ceq, ↓e_cne, ↓e_clt, ↓e_cge, ↓e_cgt, ↓e_cle, ↓e_nil, ↓e_cons, ↓e_iconst, ↓e_bipush, ↓e_sipush, ↓e_ldc, ↓e_ldcw, ↓e_ldc2, ↓e_lconst, ↓e_iloadn, ↓e_iload, ↓e_lloadn, ↓e_lload, ↓e_aloadn, ↓e_aload, ↓e_istoren, ↓e_istore, ↓e_astoren, ↓e_astore, ↓e_add, ↓e_iinc, ↓e_iadd, ↓e_isub, ↓e_imul, ↓e_iand, ↓e_ior, ↓e_ixor, ↓e_ishl, ↓e_iushr, ↓e_idiv, ↓e_irem, ↓e_ineg, ↓e_i2l, ↓e_i2b, ↓e_i2s, ↓e_l2i, ↓e_land, ↓e_lor, ↓e_lshl, ↓e_lshr, ↓e_lushr, ↓e_lcmp, ↓e_dupi, ↓e_dupr, ↓e_popi, ↓e_dup2, ↓e_goto, ↓e_if, ↓e_icmp, ↓e_tsw, ↓e_lsw, ↓e_getf, ↓e_putf, ↓e_gets, ↓e_iald, ↓e_cald, ↓e_iast, ↓e_aald, ↓e_aast, ↓e_len, ↓e_copy, ↓e_abs, ↓e_max, ↓e_min, ↓e_iret, ↓e_aret, ↓e_vret, ↓e_is0, ↓e_is1, ↓e_is2, ↓e_is3, ↓e_is4, ↓e_iv1, ↓e_iv2, ↓e_iv3, ↓e_iv4, ↓e_iv5, ↓e_iv6, ↓rt_X9_partsDug, ↓reduceIte, Nat.reduceAdd, Nat.reduceEqDiff, ↓zcl0, ↓zclv, List.map_nil, List.sum_nil, List.map_cons, List.sum_cons, zcat, true_and, and_true, Nat.reduceLeDiff, Nat.reduceAdd, eq_self, forall_const, e_ok0, e_okss, e_ok1i, e_ok1r, e_ok1n, zl_0, zl_1, zl_64, zl_1000000, Int.reduceToNat, Int.reduceAdd, Int.reduceMul, Int.reduceSub, Int.reduceNeg, Int.reduceLT, Int.reduceLE, Int.reduceEq, not_false_eq_true, not_true_eq_false, false_implies, true_implies, implies_true, Int.reduceDiv, Int.reduceMod, zr8_zr, zr_zbo, z01_zbo, z01_0, z01_1, zbo_eq0, zup_eq, zup_o, zup_k, ne_eq, ↓ct_wparts_fill, ↓r_fill, ↓B_fill, ↓ct_wparts_wflood, ↓r_wflood, ↓B_wflood, ↓v_70, ↓g_70_0, ↓g_70_1, ↓l_71, ↓s_71, ↓n_71, ↓g_70_2, ↓l_72, ↓s_72, ↓n_72, ↓g_70_3, ↓l_73, ↓s_73, ↓n_73]
    exact lp 64 0 M1 (by omega) (VC9_c p71) (fun k hk => ⟨fun _ => rfl, fun _ => p71 k hk⟩) (fun x p1 _ => f1 x p1)
def B_x_steps (a : Int) (b : Int) (M : Nat → Nat → Int) (post : Option ZV → (Nat → Nat → Int) → Prop) : Prop := rg a ∧ rg b ∧ ∃ S : ZMm, Vs S ∧ Rc S M ∧ cp M (R_steps S a b) post
def C_x_steps : ZC := fun as h post => match as with
  | [.inr (.inr (.inl 0)), .inl a, .inl b] => h.1 = zG ∧ B_x_steps a b h.2 (fun v M => post v (zG, M))
  | _ => False
theorem r_x_steps {a : Int} {b : Int} {M : Nat → Nat → Int} {post : Option ZV → ZH → Prop} : C_x_steps [.inr (.inr (.inl 0)), .inl a, .inl b] (zG, M) post = B_x_steps a b M (fun v M => post v (zG, M)) := by show (zG = zG ∧ _) = _; simp
def ct_x_steps : Nat → ZC := fun n => if n = 111 then C_cbey else if n = 110 then C_cfail else if n = 59 then C_wfew else fun _ _ _ => False
theorem ct_x_steps_cbey {as : List ZV} {h : ZH} {post : Option ZV → ZH → Prop} : ct_x_steps 111 as h post = C_cbey as h post := rfl
theorem ct_x_steps_cfail {as : List ZV} {h : ZH} {post : Option ZV → ZH → Prop} : ct_x_steps 110 as h post = C_cfail as h post := rfl
theorem ct_x_steps_wfew {as : List ZV} {h : ZH} {post : Option ZV → ZH → Prop} : ct_x_steps 59 as h post = C_wfew as h post := rfl
theorem c_x_steps {E : ZE} {d : Nat} (hd : 4 ≤ d) : zMet E d mX10_steps C_x_steps := by
  refine zmet_of (o := 10) (ini := false) (CT := ct_x_steps) gd_X10_steps rfl (fun h => by cases h) (by omega) ?_ ?_
  · intro n as h post hh
    unfold ct_x_steps at hh
    by_cases c : n = 111
    · subst c; exact ⟨gd_X10_isBeyond, 1, by omega, c_cbey (by omega)⟩
    rw [if_neg c] at hh
    by_cases c : n = 110
    · subst c; exact ⟨gd_X10_failed, 1, by omega, c_cfail (by omega)⟩
    rw [if_neg c] at hh
    by_cases c : n = 59
    · subst c; exact ⟨gd_X9_fewestWays, 3, by omega, c_wfew (by omega)⟩
    rw [if_neg c] at hh
    exact hh.elim
  intro as h post hC
  match as, hC with
  | [.inr (.inr (.inl 0)), .inl a, .inl b], hC =>
    refine ⟨Nat.le_of_ble_eq_true rfl, fun X hX => bs_X10_steps_0 hX ?_⟩
    obtain ⟨G, M⟩ := h
    obtain ⟨hG, hC⟩ := hC
    dsimp only at hG
    subst hG
    simp only [B_x_steps] at hC
    show bk_X10_steps_0 E ct_x_steps X _ [some (.inr (.inr (.inl 0))), some (.inl a), some (.inl b), none] [] (zG, M) (0, 0)
    obtain ⟨h1, h2, S, vs9, H, hC⟩ := hC
    have vd : Vd (S 88) := vs9.1
    have n9 := H.1
    have J18 : ¬ ((0 ≤ a ∧ a ≤ 63) ∧ 0 ≤ b ∧ b ≤ 63) → X 18 [some (.inr (.inr (.inl 0))), some (.inl a), some (.inl b), none] [] (zG, M) (0, 0) := by
      intro q
      refine bs_X10_steps_18 hX ?_
      simp only [bk_X10_steps_0, k_X10_steps_0, bk_X10_steps_9, k_X10_steps_9, bk_X10_steps_18, k_X10_steps_18, bk_X10_steps_25, k_X10_steps_25, bk_X10_steps_35, k_X10_steps_35, bk_X10_steps_50, k_X10_steps_50, bk_X10_steps_51, k_X10_steps_51, ↓e_rk1, ↓e_rk0, ↓e_sk0, ↓e_sks, ↓e_ldi0, ↓e_ldis, ↓e_ldl0, ↓e_ldls, ↓e_lda0, ↓e_ldas, ↓e_ok0, ↓e_okss, ↓e_ok1i, ↓e_ok1r, ↓e_ok1n, ↓e_sti, ↓e_sta, ↓e_1, ↓e_2, ↓e_l1, ↓e_l2, ↓e_li, ↓e_sw0, ↓e_sws, ↓e_ceq, ↓e_cne, ↓e_clt, ↓e_cge, ↓e_cgt, ↓e_cle, ↓e_nil, ↓e_cons, ↓e_iconst, ↓e_bipush, ↓e_sipush, ↓e_ldc, ↓e_ldcw, ↓e_ldc2, ↓e_lconst, ↓e_iloadn, ↓e_iload, ↓e_lloadn, ↓e_lload, ↓e_aloadn, ↓e_aload, ↓e_istoren, ↓e_istore, ↓e_astoren, ↓e_astore, ↓e_add, ↓e_iinc, ↓e_iadd, ↓e_isub, ↓e_imul, ↓e_iand, ↓e_ior, ↓e_ixor, ↓e_ishl, ↓e_iushr, ↓e_idiv, ↓e_irem, ↓e_ineg, ↓e_i2l, ↓e_i2b, ↓e_i2s, ↓e_l2i, ↓e_land, ↓e_lor, ↓e_lshl, ↓e_lshr, ↓e_lushr, ↓e_lcmp, ↓e_dupi, ↓e_dupr, ↓e_popi, ↓e_dup2, ↓e_goto, ↓e_if, ↓e_icmp, ↓e_tsw, ↓e_lsw, ↓e_getf, ↓e_putf, ↓e_gets, ↓e_iald, ↓e_cald, ↓e_iast, ↓e_aald, ↓e_aast, ↓e_len, ↓e_copy, ↓e_abs, ↓e_max, ↓e_min, ↓e_iret, ↓e_aret, ↓e_vret, ↓e_is0, ↓e_is1, ↓e_is2, ↓e_is3, ↓e_is4, ↓e_iv1, ↓e_iv2, ↓e_iv3, ↓e_iv4, ↓e_iv5, ↓e_iv6, ↓rt_X10_steps, ↓reduceIte, Nat.reduceAdd, Nat.reduceEqDiff, ↓zcl0, ↓zclv, List.map_nil, List.sum_nil, List.map_cons, List.sum_cons, zcat, true_and, and_true, Nat.reduceLeDiff, Nat.reduceAdd, eq_self, forall_const, e_ok0, e_okss, e_ok1i, e_ok1r, e_ok1n, zl_m1000000002, zl_m1000000001, zl_63, zl_1000000, Int.reduceToNat, Int.reduceAdd, Int.reduceMul, Int.reduceSub, Int.reduceNeg, Int.reduceLT, Int.reduceLE, Int.reduceEq, not_false_eq_true, not_true_eq_false, false_implies, true_implies, implies_true, Int.reduceDiv, Int.reduceMod, zr8_zr, zr_zbo, z01_zbo, z01_0, z01_1, zbo_eq0, zup_eq, zup_o, zup_k, ne_eq, ↓ct_x_steps_cbey, ↓r_cbey, ↓B_cbey, ↓ct_x_steps_cfail, ↓r_cfail, ↓B_cfail, ↓ct_x_steps_wfew, ↓r_wfew, ↓B_wfew, ↓v_0, ↓g_0_0, ↓g_0_1, ↓g_0_2, ↓g_0_3, ↓g_0_4, ↓g_0_5, ↓g_0_6, ↓g_0_7, ↓g_0_8, ↓l_78, ↓s_78, ↓n_78, ↓g_0_9, ↓p_0_9]
      exact ⟨1, by omega, by omega, cp_no hC H vd (by omega) (by unfold R_steps; rw [if_neg (by omega)]) rfl⟩
    have J25 : ((0 ≤ a ∧ a ≤ 63) ∧ 0 ≤ b ∧ b ≤ 63) → X 25 [some (.inr (.inr (.inl 0))), some (.inl a), some (.inl b), none] [] (zG, M) (0, 0) := by
      intro q
      refine bs_X10_steps_25 hX ?_
      simp only [bk_X10_steps_0, k_X10_steps_0, bk_X10_steps_9, k_X10_steps_9, bk_X10_steps_18, k_X10_steps_18, bk_X10_steps_25, k_X10_steps_25, bk_X10_steps_35, k_X10_steps_35, bk_X10_steps_50, k_X10_steps_50, bk_X10_steps_51, k_X10_steps_51, ↓e_rk1, ↓e_rk0, ↓e_sk0, ↓e_sks, ↓e_ldi0, ↓e_ldis, ↓e_ldl0, ↓e_ldls, ↓e_lda0, ↓e_ldas, ↓e_ok0, ↓e_okss, ↓e_ok1i, ↓e_ok1r, ↓e_ok1n, ↓e_sti, ↓e_sta, ↓e_1, ↓e_2, ↓e_l1, ↓e_l2, ↓e_li, ↓e_sw0, ↓e_sws, ↓e_ceq, ↓e_cne, ↓e_clt, ↓e_cge, ↓e_cgt, ↓e_cle, ↓e_nil, ↓e_cons, ↓e_iconst, ↓e_bipush, ↓e_sipush, ↓e_ldc, ↓e_ldcw, ↓e_ldc2, ↓e_lconst, ↓e_iloadn, ↓e_iload, ↓e_lloadn, ↓e_lload, ↓e_aloadn, ↓e_aload, ↓e_istoren, ↓e_istore, ↓e_astoren, ↓e_astore, ↓e_add, ↓e_iinc, ↓e_iadd, ↓e_isub, ↓e_imul, ↓e_iand, ↓e_ior, ↓e_ixor, ↓e_ishl, ↓e_iushr, ↓e_idiv, ↓e_irem, ↓e_ineg, ↓e_i2l, ↓e_i2b, ↓e_i2s, ↓e_l2i, ↓e_land, ↓e_lor, ↓e_lshl, ↓e_lshr, ↓e_lushr, ↓e_lcmp, ↓e_dupi, ↓e_dupr, ↓e_popi, ↓e_dup2, ↓e_goto, ↓e_if, ↓e_icmp, ↓e_tsw, ↓e_lsw, ↓e_getf, ↓e_putf, ↓e_gets, ↓e_iald, ↓e_cald, ↓e_iast, ↓e_aald, ↓e_aast, ↓e_len, ↓e_copy, ↓e_abs, ↓e_max, ↓e_min, ↓e_iret, ↓e_aret, ↓e_vret, ↓e_is0, ↓e_is1, ↓e_is2, ↓e_is3, ↓e_is4, ↓e_iv1, ↓e_iv2, ↓e_iv3, ↓e_iv4, ↓e_iv5, ↓e_iv6, ↓rt_X10_steps, ↓reduceIte, Nat.reduceAdd, Nat.reduceEqDiff, ↓zcl0, ↓zclv, List.map_nil, List.sum_nil, List.map_cons, List.sum_cons, zcat, true_and, and_true, Nat.reduceLeDiff, Nat.reduceAdd, eq_self, forall_const, e_ok0, e_okss, e_ok1i, e_ok1r, e_ok1n, zl_m1000000002, zl_m1000000001, zl_63, zl_1000000, Int.reduceToNat, Int.reduceAdd, Int.reduceMul, Int.reduceSub, Int.reduceNeg, Int.reduceLT, Int.reduceLE, Int.reduceEq, not_false_eq_true, not_true_eq_false, false_implies, true_implies, implies_true, Int.reduceDiv, Int.reduceMod, zr8_zr, zr_zbo, z01_zbo, z01_0, z01_1, zbo_eq0, zup_eq, zup_o, zup_k, ne_eq, ↓ct_x_steps_cbey, ↓r_cbey, ↓B_cbey, ↓ct_x_steps_cfail, ↓r_cfail, ↓B_cfail, ↓ct_x_steps_wfew, ↓r_wfew, ↓B_wfew, ↓v_0, ↓g_0_0, ↓g_0_1, ↓g_0_2, ↓g_0_3, ↓g_0_4, ↓g_0_5, ↓g_0_6, ↓g_0_7, ↓g_0_8, ↓l_78, ↓s_78, ↓n_78, ↓g_0_9, ↓p_0_9, ↓v_70, ↓g_70_0, ↓g_70_1, ↓l_71, ↓s_71, ↓n_71, ↓g_70_2, ↓l_72, ↓s_72, ↓n_72, ↓g_70_3, ↓l_73, ↓s_73, ↓n_73]
      refine ⟨by omega, by omega, S 88, n9.1, vd, fun M2 v f2 h9 => ?_⟩
      have t : Tg M M2 := fun x p1 p2 p3 => f2 x (by omega) (by omega)
      have zv : zr v = v := by rcases h9 with e | e <;> exact zr_of (by omega) (by omega)
      have z6 : zr 1000000 = 1000000 := rfl
      have J50 : ¬ v = 1000000 → X 50 [some (.inr (.inr (.inl 0))), some (.inl a), some (.inl b), some (.inl v)] [] (zG, M2) (0, 0) := by
        intro e
        refine bs_X10_steps_50 hX ?_
        simp only [bk_X10_steps_0, k_X10_steps_0, bk_X10_steps_9, k_X10_steps_9, bk_X10_steps_18, k_X10_steps_18, bk_X10_steps_25, k_X10_steps_25, bk_X10_steps_35, k_X10_steps_35, bk_X10_steps_50, k_X10_steps_50, bk_X10_steps_51, k_X10_steps_51, ↓e_rk1, ↓e_rk0, ↓e_sk0, ↓e_sks, ↓e_ldi0, ↓e_ldis, ↓e_ldl0, ↓e_ldls, ↓e_lda0, ↓e_ldas, ↓e_ok0, ↓e_okss, ↓e_ok1i, ↓e_ok1r, ↓e_ok1n, ↓e_sti, ↓e_sta, ↓e_1, ↓e_2, ↓e_l1, ↓e_l2, ↓e_li, ↓e_sw0, ↓e_sws, ↓e_ceq, ↓e_cne, ↓e_clt, ↓e_cge, ↓e_cgt, ↓e_cle, ↓e_nil, ↓e_cons, ↓e_iconst, ↓e_bipush, ↓e_sipush, ↓e_ldc, ↓e_ldcw, ↓e_ldc2, ↓e_lconst, ↓e_iloadn, ↓e_iload, ↓e_lloadn, ↓e_lload, ↓e_aloadn, ↓e_aload, ↓e_istoren, ↓e_istore, ↓e_astoren, ↓e_astore, ↓e_add, ↓e_iinc, ↓e_iadd, ↓e_isub, ↓e_imul, ↓e_iand, ↓e_ior, ↓e_ixor, ↓e_ishl, ↓e_iushr, ↓e_idiv, ↓e_irem, ↓e_ineg, ↓e_i2l, ↓e_i2b, ↓e_i2s, ↓e_l2i, ↓e_land, ↓e_lor, ↓e_lshl, ↓e_lshr, ↓e_lushr, ↓e_lcmp, ↓e_dupi, ↓e_dupr, ↓e_popi, ↓e_dup2, ↓e_goto, ↓e_if, ↓e_icmp, ↓e_tsw, ↓e_lsw, ↓e_getf, ↓e_putf, ↓e_gets, ↓e_iald, ↓e_cald, ↓e_iast, ↓e_aald, ↓e_aast, ↓e_len, ↓e_copy, ↓e_abs, ↓e_max, ↓e_min, ↓e_iret, ↓e_aret, ↓e_vret, ↓e_is0, ↓e_is1, ↓e_is2, ↓e_is3, ↓e_is4, ↓e_iv1, ↓e_iv2, ↓e_iv3, ↓e_iv4, ↓e_iv5, ↓e_iv6, ↓rt_X10_steps, ↓reduceIte, Nat.reduceAdd, Nat.reduceEqDiff, ↓zcl0, ↓zclv, List.map_nil, List.sum_nil, List.map_cons, List.sum_cons, zcat, true_and, and_true, Nat.reduceLeDiff, Nat.reduceAdd, eq_self, forall_const, e_ok0, e_okss, e_ok1i, e_ok1r, e_ok1n, zl_m1000000002, zl_m1000000001, zl_63, zl_1000000, Int.reduceToNat, Int.reduceAdd, Int.reduceMul, Int.reduceSub, Int.reduceNeg, Int.reduceLT, Int.reduceLE, Int.reduceEq, not_false_eq_true, not_true_eq_false, false_implies, true_implies, implies_true, Int.reduceDiv, Int.reduceMod, zr8_zr, zr_zbo, z01_zbo, z01_0, z01_1, zbo_eq0, zup_eq, zup_o, zup_k, ne_eq, ↓ct_x_steps_cbey, ↓r_cbey, ↓B_cbey, ↓ct_x_steps_cfail, ↓r_cfail, ↓B_cfail, ↓ct_x_steps_wfew, ↓r_wfew, ↓B_wfew, ↓v_0, ↓g_0_0, ↓g_0_1, ↓g_0_2, ↓g_0_3, ↓g_0_4, ↓g_0_5, ↓g_0_6, ↓g_0_7, ↓g_0_8, ↓l_78, ↓s_78, ↓n_78, ↓g_0_9, ↓p_0_9]
        rcases h9 with e2 | e2
        · exact absurd e2.1 e
        · refine cp_G hC H vd t ?_
          unfold R_steps
          rw [if_pos q, ← e2.1, if_pos (by omega)]
      refine bs_X10_steps_35 hX ?_
      simp only [bk_X10_steps_0, k_X10_steps_0, bk_X10_steps_9, k_X10_steps_9, bk_X10_steps_18, k_X10_steps_18, bk_X10_steps_25, k_X10_steps_25, bk_X10_steps_35, k_X10_steps_35, bk_X10_steps_50, k_X10_steps_50, bk_X10_steps_51, k_X10_steps_51, ↓e_rk1, ↓e_rk0, ↓e_sk0, ↓e_sks, ↓e_ldi0, ↓e_ldis, ↓e_ldl0, ↓e_ldls, ↓e_lda0, ↓e_ldas, ↓e_ok0, ↓e_okss, ↓e_ok1i, ↓e_ok1r, ↓e_ok1n, ↓e_sti, ↓e_sta, ↓e_1, ↓e_2, ↓e_l1, ↓e_l2, ↓e_li, ↓e_sw0, ↓e_sws, ↓e_ceq, ↓e_cne, ↓e_clt, ↓e_cge, ↓e_cgt, ↓e_cle, ↓e_nil, ↓e_cons, ↓e_iconst, ↓e_bipush, ↓e_sipush, ↓e_ldc, ↓e_ldcw, ↓e_ldc2, ↓e_lconst, ↓e_iloadn, ↓e_iload, ↓e_lloadn, ↓e_lload, ↓e_aloadn, ↓e_aload, ↓e_istoren, ↓e_istore, ↓e_astoren, ↓e_astore, ↓e_add, ↓e_iinc, ↓e_iadd, ↓e_isub, ↓e_imul, ↓e_iand, ↓e_ior, ↓e_ixor, ↓e_ishl, ↓e_iushr, ↓e_idiv, ↓e_irem, ↓e_ineg, ↓e_i2l, ↓e_i2b, ↓e_i2s, ↓e_l2i, ↓e_land, ↓e_lor, ↓e_lshl, ↓e_lshr, ↓e_lushr, ↓e_lcmp, ↓e_dupi, ↓e_dupr, ↓e_popi, ↓e_dup2, ↓e_goto, ↓e_if, ↓e_icmp, ↓e_tsw, ↓e_lsw, ↓e_getf, ↓e_putf, ↓e_gets, ↓e_iald, ↓e_cald, ↓e_iast, ↓e_aald, ↓e_aast, ↓e_len, ↓e_copy, ↓e_abs, ↓e_max, ↓e_min, ↓e_iret, ↓e_aret, ↓e_vret, ↓e_is0, ↓e_is1, ↓e_is2, ↓e_is3, ↓e_is4, ↓e_iv1, ↓e_iv2, ↓e_iv3, ↓e_iv4, ↓e_iv5, ↓e_iv6, ↓rt_X10_steps, ↓reduceIte, Nat.reduceAdd, Nat.reduceEqDiff, ↓zcl0, ↓zclv, List.map_nil, List.sum_nil, List.map_cons, List.sum_cons, zcat, true_and, and_true, Nat.reduceLeDiff, Nat.reduceAdd, eq_self, forall_const, e_ok0, e_okss, e_ok1i, e_ok1r, e_ok1n, zl_m1000000002, zl_m1000000001, zl_63, zl_1000000, Int.reduceToNat, Int.reduceAdd, Int.reduceMul, Int.reduceSub, Int.reduceNeg, Int.reduceLT, Int.reduceLE, Int.reduceEq, not_false_eq_true, not_true_eq_false, false_implies, true_implies, implies_true, Int.reduceDiv, Int.reduceMod, zr8_zr, zr_zbo, z01_zbo, z01_0, z01_1, zbo_eq0, zup_eq, zup_o, zup_k, ne_eq, ↓ct_x_steps_cbey, ↓r_cbey, ↓B_cbey, ↓ct_x_steps_cfail, ↓r_cfail, ↓B_cfail, ↓ct_x_steps_wfew, ↓r_wfew, ↓B_wfew, ↓v_0, ↓g_0_0, ↓g_0_1, ↓g_0_2, ↓g_0_3, ↓g_0_4, ↓g_0_5, ↓g_0_6, ↓g_0_7, ↓g_0_8, ↓l_78, ↓s_78, ↓n_78, ↓g_0_9, ↓p_0_9, zv, z6]
      refine ⟨fun e => ?_, fun e => ?_⟩
      · first
          | exact J50 e
          | (rcases h9 with e2 | e2
             · exact ⟨2, by omega, by omega, cp_nG hC H vd t (by omega) (by unfold R_steps; rw [if_pos q, if_neg (by omega)]) rfl⟩
             · omega)
      · first
          | exact J50 e
          | (rcases h9 with e2 | e2
             · exact ⟨2, by omega, by omega, cp_nG hC H vd t (by omega) (by unfold R_steps; rw [if_pos q, if_neg (by omega)]) rfl⟩
             · omega)
    have J9 : (0 ≤ a ∧ a ≤ 63) → X 9 [some (.inr (.inr (.inl 0))), some (.inl a), some (.inl b), none] [] (zG, M) (0, 0) := by
      intro q
      refine bs_X10_steps_9 hX ?_
      simp only [bk_X10_steps_0, k_X10_steps_0, bk_X10_steps_9, k_X10_steps_9, bk_X10_steps_18, k_X10_steps_18, bk_X10_steps_25, k_X10_steps_25, bk_X10_steps_35, k_X10_steps_35, bk_X10_steps_50, k_X10_steps_50, bk_X10_steps_51, k_X10_steps_51, ↓e_rk1, ↓e_rk0, ↓e_sk0, ↓e_sks, ↓e_ldi0, ↓e_ldis, ↓e_ldl0, ↓e_ldls, ↓e_lda0, ↓e_ldas, ↓e_ok0, ↓e_okss, ↓e_ok1i, ↓e_ok1r, ↓e_ok1n, ↓e_sti, ↓e_sta, ↓e_1, ↓e_2, ↓e_l1, ↓e_l2, ↓e_li, ↓e_sw0, ↓e_sws, ↓e_ceq, ↓e_cne, ↓e_clt, ↓e_cge, ↓e_cgt, ↓e_cle, ↓e_nil, ↓e_cons, ↓e_iconst, ↓e_bipush, ↓e_sipush, ↓e_ldc, ↓e_ldcw, ↓e_ldc2, ↓e_lconst, ↓e_iloadn, ↓e_iload, ↓e_lloadn, ↓e_lload, ↓e_aloadn, ↓e_aload, ↓e_istoren, ↓e_istore, ↓e_astoren, ↓e_astore, ↓e_add, ↓e_iinc, ↓e_iadd, ↓e_isub, ↓e_imul, ↓e_iand, ↓e_ior, ↓e_ixor, ↓e_ishl, ↓e_iushr, ↓e_idiv, ↓e_irem, ↓e_ineg, ↓e_i2l, ↓e_i2b, ↓e_i2s, ↓e_l2i, ↓e_land, ↓e_lor, ↓e_lshl, ↓e_lshr, ↓e_lushr, ↓e_lcmp, ↓e_dupi, ↓e_dupr, ↓e_popi, ↓e_dup2, ↓e_goto, ↓e_if, ↓e_icmp, ↓e_tsw, ↓e_lsw, ↓e_getf, ↓e_putf, ↓e_gets, ↓e_iald, ↓e_cald, ↓e_iast, ↓e_aald, ↓e_aast, ↓e_len, ↓e_copy, ↓e_abs, ↓e_max, ↓e_min, ↓e_iret, ↓e_aret, ↓e_vret, ↓e_is0, ↓e_is1, ↓e_is2, ↓e_is3, ↓e_is4, ↓e_iv1, ↓e_iv2, ↓e_iv3, ↓e_iv4, ↓e_iv5, ↓e_iv6, ↓rt_X10_steps, ↓reduceIte, Nat.reduceAdd, Nat.reduceEqDiff, ↓zcl0, ↓zclv, List.map_nil, List.sum_nil, List.map_cons, List.sum_cons, zcat, true_and, and_true, Nat.reduceLeDiff, Nat.reduceAdd, eq_self, forall_const, e_ok0, e_okss, e_ok1i, e_ok1r, e_ok1n, zl_m1000000002, zl_m1000000001, zl_63, zl_1000000, Int.reduceToNat, Int.reduceAdd, Int.reduceMul, Int.reduceSub, Int.reduceNeg, Int.reduceLT, Int.reduceLE, Int.reduceEq, not_false_eq_true, not_true_eq_false, false_implies, true_implies, implies_true, Int.reduceDiv, Int.reduceMod, zr8_zr, zr_zbo, z01_zbo, z01_0, z01_1, zbo_eq0, zup_eq, zup_o, zup_k, ne_eq, ↓ct_x_steps_cbey, ↓r_cbey, ↓B_cbey, ↓ct_x_steps_cfail, ↓r_cfail, ↓B_cfail, ↓ct_x_steps_wfew, ↓r_wfew, ↓B_wfew, ↓v_0, ↓g_0_0, ↓g_0_1, ↓g_0_2, ↓g_0_3, ↓g_0_4, ↓g_0_5, ↓g_0_6, ↓g_0_7, ↓g_0_8, ↓l_78, ↓s_78, ↓n_78, ↓g_0_9, ↓p_0_9, zr_zbo, zbo_eq0]
      repeat' (first | assumption | apply And.intro | intro _)
      all_goals first | omega | (apply J18; omega) | (apply J25; omega)
    simp only [bk_X10_steps_0, k_X10_steps_0, bk_X10_steps_9, k_X10_steps_9, bk_X10_steps_18, k_X10_steps_18, bk_X10_steps_25, k_X10_steps_25, bk_X10_steps_35, k_X10_steps_35, bk_X10_steps_50, k_X10_steps_50, bk_X10_steps_51, k_X10_steps_51, ↓e_rk1, ↓e_rk0, ↓e_sk0, ↓e_sks, ↓e_ldi0, ↓e_ldis, ↓e_ldl0, ↓e_ldls, ↓e_lda0, ↓e_ldas, ↓e_ok0, ↓e_okss, ↓e_ok1i, ↓e_ok1r, ↓e_ok1n, ↓e_sti, ↓e_sta, ↓e_1, ↓e_2, ↓e_l1, ↓e_l2, ↓e_li, ↓e_sw0, ↓e_sws, ↓e_ceq, ↓e_cne, ↓e_clt, ↓e_cge, ↓e_cgt, ↓e_cle, ↓e_nil, ↓e_cons, ↓e_iconst, ↓e_bipush, ↓e_sipush, ↓e_ldc, ↓e_ldcw, ↓e_ldc2, ↓e_lconst, ↓e_iloadn, ↓e_iload, ↓e_lloadn, ↓e_lload, ↓e_aloadn, ↓e_aload, ↓e_istoren, ↓e_istore, ↓e_astoren, ↓e_astore, ↓e_add, ↓e_iinc, ↓e_iadd, ↓e_isub, ↓e_imul, ↓e_iand, ↓e_ior, ↓e_ixor, ↓e_ishl, ↓e_iushr, ↓e_idiv, ↓e_irem, ↓e_ineg, ↓e_i2l, ↓e_i2b, ↓e_i2s, ↓e_l2i, ↓e_land, ↓e_lor, ↓e_lshl, ↓e_lshr, ↓e_lushr, ↓e_lcmp, ↓e_dupi, ↓e_dupr, ↓e_popi, ↓e_dup2, ↓e_goto, ↓e_if, ↓e_icmp, ↓e_tsw, ↓e_lsw, ↓e_getf, ↓e_putf, ↓e_gets, ↓e_iald, ↓e_cald, ↓e_iast, ↓e_aald, ↓e_aast, ↓e_len, ↓e_copy, ↓e_abs, ↓e_max, ↓e_min, ↓e_iret, ↓e_aret, ↓e_vret, ↓e_is0, ↓e_is1, ↓e_is2, ↓e_is3, ↓e_is4, ↓e_iv1, ↓e_iv2, ↓e_iv3, ↓e_iv4, ↓e_iv5, ↓e_iv6, ↓rt_X10_steps, ↓reduceIte, Nat.reduceAdd, Nat.reduceEqDiff, ↓zcl0, ↓zclv, List.map_nil, List.sum_nil, List.map_cons, List.sum_cons, zcat, true_and, and_true, Nat.reduceLeDiff, Nat.reduceAdd, eq_self, forall_const, e_ok0, e_okss, e_ok1i, e_ok1r, e_ok1n, zl_m1000000002, zl_m1000000001, zl_63, zl_1000000, Int.reduceToNat, Int.reduceAdd, Int.reduceMul, Int.reduceSub, Int.reduceNeg, Int.reduceLT, Int.reduceLE, Int.reduceEq, not_false_eq_true, not_true_eq_false, false_implies, true_implies, implies_true, Int.reduceDiv, Int.reduceMod, zr8_zr, zr_zbo, z01_zbo, z01_0, z01_1, zbo_eq0, zup_eq, zup_o, zup_k, ne_eq, ↓ct_x_steps_cbey, ↓r_cbey, ↓B_cbey, ↓ct_x_steps_cfail, ↓r_cfail, ↓B_cfail, ↓ct_x_steps_wfew, ↓r_wfew, ↓B_wfew, ↓v_0, ↓g_0_0, ↓g_0_1, ↓g_0_2, ↓g_0_3, ↓g_0_4, ↓g_0_5, ↓g_0_6, ↓g_0_7, ↓g_0_8, ↓l_78, ↓s_78, ↓n_78, ↓g_0_9, ↓p_0_9, zr_zbo, zbo_eq0]
    repeat' (first | assumption | apply And.intro | intro _)
    all_goals first | omega | (apply J18; omega) | (apply J9; omega)
def B_x_parts (M : Nat → Nat → Int) (post : Option ZV → (Nat → Nat → Int) → Prop) : Prop := ∃ S : ZMm, Vs S ∧ Rc S M ∧ cp M (R_parts S) post
def C_x_parts : ZC := fun as h post => match as with
  | [.inr (.inr (.inl 0))] => h.1 = zG ∧ B_x_parts h.2 (fun v M => post v (zG, M))
  | _ => False
theorem r_x_parts {M : Nat → Nat → Int} {post : Option ZV → ZH → Prop} : C_x_parts [.inr (.inr (.inl 0))] (zG, M) post = B_x_parts M (fun v M => post v (zG, M)) := by show (zG = zG ∧ _) = _; simp
def ct_x_parts : Nat → ZC := fun n => if n = 60 then C_wparts else fun _ _ _ => False
theorem ct_x_parts_wparts {as : List ZV} {h : ZH} {post : Option ZV → ZH → Prop} : ct_x_parts 60 as h post = C_wparts as h post := rfl
theorem c_x_parts {E : ZE} {d : Nat} (hd : 4 ≤ d) : zMet E d mX10_parts C_x_parts := by
  refine zmet_of (o := 10) (ini := false) (CT := ct_x_parts) gd_X10_parts rfl (fun h => by cases h) (by omega) ?_ ?_
  · intro n as h post hh
    unfold ct_x_parts at hh
    by_cases c : n = 60
    · subst c; exact ⟨gd_X9_partsDug, 3, by omega, c_wparts (by omega)⟩
    rw [if_neg c] at hh
    exact hh.elim
  intro as h post hC
  match as, hC with
  | [.inr (.inr (.inl 0))], hC =>
    refine ⟨Nat.le_of_ble_eq_true rfl, fun X hX => bs_X10_parts_0 hX ?_⟩
    obtain ⟨G, M⟩ := h
    obtain ⟨hG, hC⟩ := hC
    dsimp only at hG
    subst hG
    simp only [B_x_parts] at hC
    show bk_X10_parts_0 E ct_x_parts X _ [some (.inr (.inr (.inl 0)))] [] (zG, M) (0, 0)
    obtain ⟨S, vs9, H, hC⟩ := hC
    have vd : Vd (S 88) := vs9.1
    have n9 := H.1
    simp only [bk_X10_parts_0, k_X10_parts_0, ↓e_rk1, ↓e_rk0, ↓e_sk0, ↓e_sks, ↓e_ldi0, ↓e_ldis, ↓e_ldl0, ↓e_ldls, ↓e_lda0, ↓e_ldas, ↓e_ok0, ↓e_okss, ↓e_ok1i, ↓e_ok1r, ↓e_ok1n, ↓e_sti, ↓e_sta, ↓e_1, ↓e_2, ↓e_l1, ↓e_l2, ↓e_li, ↓e_sw0, ↓e_sws, ↓e_ceq, ↓e_cne, ↓e_clt, ↓e_cge, ↓e_cgt, ↓e_cle, ↓e_nil, ↓e_cons, ↓e_iconst, ↓e_bipush, ↓e_sipush, ↓e_ldc, ↓e_ldcw, ↓e_ldc2, ↓e_lconst, ↓e_iloadn, ↓e_iload, ↓e_lloadn, ↓e_lload, ↓e_aloadn, ↓e_aload, ↓e_istoren, ↓e_istore, ↓e_astoren, ↓e_astore, ↓e_add, ↓e_iinc, ↓e_iadd, ↓e_isub, ↓e_imul, ↓e_iand, ↓e_ior, ↓e_ixor, ↓e_ishl, ↓e_iushr, ↓e_idiv, ↓e_irem, ↓e_ineg, ↓e_i2l, ↓e_i2b, ↓e_i2s, ↓e_l2i, ↓e_land, ↓e_lor, ↓e_lshl, ↓e_lshr, ↓e_lushr, ↓e_lcmp, ↓e_dupi, ↓e_dupr, ↓e_popi, ↓e_dup2, ↓e_goto, ↓e_if, ↓e_icmp, ↓e_tsw, ↓e_lsw, ↓e_getf, ↓e_putf, ↓e_gets, ↓e_iald, ↓e_cald, ↓e_iast, ↓e_aald, ↓e_aast, ↓e_len, ↓e_copy, ↓e_abs, ↓e_max, ↓e_min, ↓e_iret, ↓e_aret, ↓e_vret, ↓e_is0, ↓e_is1, ↓e_is2, ↓e_is3, ↓e_is4, ↓e_iv1, ↓e_iv2, ↓e_iv3, ↓e_iv4, ↓e_iv5, ↓e_iv6, ↓rt_X10_parts, ↓reduceIte, Nat.reduceAdd, Nat.reduceEqDiff, ↓zcl0, ↓zclv, List.map_nil, List.sum_nil, List.map_cons, List.sum_cons, zcat, true_and, and_true, Nat.reduceLeDiff, Nat.reduceAdd, eq_self, forall_const, e_ok0, e_okss, e_ok1i, e_ok1r, e_ok1n, Int.reduceToNat, Int.reduceAdd, Int.reduceMul, Int.reduceSub, Int.reduceNeg, Int.reduceLT, Int.reduceLE, Int.reduceEq, not_false_eq_true, not_true_eq_false, false_implies, true_implies, implies_true, Int.reduceDiv, Int.reduceMod, zr8_zr, zr_zbo, z01_zbo, z01_0, z01_1, zbo_eq0, zup_eq, zup_o, zup_k, ne_eq, ↓ct_x_parts_wparts, ↓r_wparts, ↓B_wparts, ↓v_0, ↓g_0_0, ↓g_0_1, ↓g_0_2, ↓g_0_3, ↓g_0_4, ↓g_0_5, ↓g_0_6, ↓g_0_7, ↓g_0_8, ↓l_78, ↓s_78, ↓n_78, ↓g_0_9, ↓p_0_9, ↓v_70, ↓g_70_0, ↓g_70_1, ↓l_71, ↓s_71, ↓n_71, ↓g_70_2, ↓l_72, ↓s_72, ↓n_72, ↓g_70_3, ↓l_73, ↓s_73, ↓n_73]
    exact ⟨S 88, n9.1, vd, fun M2 f2 => cp_G hC H vd (fun x p1 p2 p3 => f2 x (by omega) (by omega)) rfl⟩
