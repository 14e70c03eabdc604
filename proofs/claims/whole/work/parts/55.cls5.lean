/-! THE CLASS: what is hearkened to, a year -/
theorem fh_eq {d : Nat → Int} {e q : Int} (h : ei d e 2 = q) : fh d e = sz (rgt d q) + sz (dwn d q) := by
  unfold fh rgt dwn
  rw [h, fr_sz]
theorem pts_eq {d : Nat → Int} {e q : Int} (h : ei d e 2 = q) : pts d e = ptk (ei d e 0) (ei d e 1) (d 1) (rgt d q) (dwn d q) (sz (rgt d q) + sz (dwn d q)) (hi4 d q 3) := by
  unfold pts
  rw [fh_eq h, h]
  rfl
theorem gvs_eq {d : Nat → Int} {e q : Int} (h : ei d e 2 = q) : gvs d e = tgv d 0 (eark (ei d e 0) (ei d e 1) (d 1) (sz (rgt d q) + sz (dwn d q))) (sz (rgt d q) + sz (dwn d q)) (d 1 % 8) := by
  unfold gvs ears
  rw [fh_eq h]
theorem CR.at {c : Nat} {M : ZMm} {d : Nat → Int} {wo : Int} (H : CR c M d wo) {e : Nat} (he : e < 8) : M (c + 1) e = ei d e 0 ∧ M (c + 2) e = ei d e 1 ∧ M (c + 3) e = if (e : Int) = wo then 2 else ei d e 2 := by
  have := H.2 e he
  unfold ei
  rw [show (162 + 3 * (e : Int) + 0).toNat = 162 + 3 * e by omega, show (162 + 3 * (e : Int) + 1).toNat = 162 + 3 * e + 1 by omega, show (162 + 3 * (e : Int) + 2).toNat = 162 + 3 * e + 2 by omega]
  exact this
def B_dhk (g : Nat) (q : Int) (M : Nat → Nat → Int) (post : Option ZV → (Nat → Nat → Int) → Prop) : Prop := (0 ≤ q ∧ q < 2) ∧ ∃ (h c v : Nat) (d : Nat → Int) (wo : Int), DG g h c v M d wo ∧ ∀ M2 : ZMm, (∀ x, ¬ x = g → ¬ x = v → ¬ x = 17 → M2 x = M x) → post (some (.inl (hk d wo q))) M2
def C_dhk : ZC := fun as h post => match as with
  | [.inr (.inr (.inl g)), .inl q] => h.1 = zG ∧ B_dhk g q h.2 (fun v M => post v (zG, M))
  | _ => False
theorem r_dhk {g : Nat} {q : Int} {M : Nat → Nat → Int} {post : Option ZV → ZH → Prop} : C_dhk [.inr (.inr (.inl g)), .inl q] (zG, M) post = B_dhk g q M (fun v M => post v (zG, M)) := by show (zG = zG ∧ _) = _; simp
def ct_dhk : Nat → ZC := fun n => if n = 6 then C_dlist else if n = 223 then C_fill else if n = 7 then C_pofe else if n = 13 then C_wofe else fun _ _ _ => False
theorem ct_dhk_dlist {as : List ZV} {h : ZH} {post : Option ZV → ZH → Prop} : ct_dhk 6 as h post = C_dlist as h post := rfl
theorem ct_dhk_fill {as : List ZV} {h : ZH} {post : Option ZV → ZH → Prop} : ct_dhk 223 as h post = C_fill as h post := rfl
theorem ct_dhk_pofe {as : List ZV} {h : ZH} {post : Option ZV → ZH → Prop} : ct_dhk 7 as h post = C_pofe as h post := rfl
theorem ct_dhk_wofe {as : List ZV} {h : ZH} {post : Option ZV → ZH → Prop} : ct_dhk 13 as h post = C_wofe as h post := rfl
theorem c_dhk {E : ZE} {d : Nat} (hd : 4 ≤ d) : zMet E d mX1_hearkens C_dhk := by
  refine zmet_of (o := 1) (ini := false) (CT := ct_dhk) gd_X1_hearkens rfl (fun h => by cases h) (by omega) ?_ ?_
  · intro n as h post hh
    unfold ct_dhk at hh
    by_cases c : n = 6
    · subst c; exact ⟨gd_X1_listen, 2, by omega, c_dlist (by omega)⟩
    rw [if_neg c] at hh
    by_cases c : n = 223
    · subst c; exact ⟨gd_J7_fill_53178, 1, by omega, c_fill (by omega)⟩
    rw [if_neg c] at hh
    by_cases c : n = 7
    · subst c; exact ⟨gd_X1_pointOf, 3, by omega, c_pofe (by omega)⟩
    rw [if_neg c] at hh
    by_cases c : n = 13
    · subst c; exact ⟨gd_X1_weightOf, 3, by omega, c_wofe (by omega)⟩
    rw [if_neg c] at hh
    exact hh.elim
  intro as h post hC
  match as, hC with
  | [.inr (.inr (.inl g)), .inl q], hC =>
    refine ⟨Nat.le_of_ble_eq_true rfl, fun X hX => bs_X1_hearkens_0 hX ?_⟩
    obtain ⟨G, M⟩ := h
    obtain ⟨hG, hC⟩ := hC
    dsimp only at hG
    subst hG
    simp only [B_dhk] at hC
    show bk_X1_hearkens_0 E ct_dhk X _ [some (.inr (.inr (.inl g))), some (.inl q), none, none, none] [] (zG, M) (0, 0)
    obtain ⟨hq, hh, cc, vv, d9, wo, ⟨hb9, H, C, L14, L18, vd⟩, hC⟩ := hC
    have hbh := hD hb9
    have hbc := cD hb9
    have zq : zr q = q := zr_of (by omega) (by omega)
    have v0 := vd.1
    have v1 := vd.2.1
    have vh := Vd_hi vd hq.1 hq.2
    have sep : ¬ g = vv ∧ ¬ g = 17 ∧ ¬ vv = 17 ∧ ¬ hh = g ∧ ¬ hh = vv ∧ ¬ hh = 17 ∧ (cc + 3 < g ∨ g < cc) ∧ (cc + 3 < vv ∨ vv < cc) ∧ (cc + 3 < 17 ∨ 17 < cc) ∧ (16 < g) ∧ (16 < vv) := by
      rcases hb9 with ⟨e1, e2, e3, e4⟩ | ⟨e1, e2, e3, e4⟩ <;> subst e1 <;> subst e2 <;> subst e3 <;> subst e4 <;> omega
    obtain ⟨n, hn⟩ : ∃ n : Nat, d9 0 = n := ⟨(d9 0).toNat, by omega⟩
    have nn : (d9 0).toNat = n := by omega
    have J74 : ∀ (M' : ZMm) (x2 x3 : Option ZV), (∀ w : Nat, w < 4 → M' vv w = vs d9 wo q w n) → (∀ x, ¬ x = g → ¬ x = vv → ¬ x = 17 → M' x = M x) → X 74 [some (.inr (.inr (.inl g))), some (.inl q), x2, x3, none] [] (zG, M') (0, 0) := by
      intro M' x2 x3 hv hM
      have lp : ∀ (j k : Nat), j + k = 4 → X 81 [some (.inr (.inr (.inl g))), some (.inl q), some (.inl ((hkw d9 wo q k).1)), some (.inl ((hkw d9 wo q k).2)), some (.inl ((k : Int)))] [] (zG, M') (0, 0) := by
        intro j
        induction j with
        | zero =>
          intro k hk9
          refine bs_X1_hearkens_81 hX ?_
          have zk : zr (k : Int) = k := zr_of (by omega) (by omega)
          have lk : ((k : Int) < 4) = False := eq_false (by omega)
          simp only [bk_X1_hearkens_0, k_X1_hearkens_0, bk_X1_hearkens_5, k_X1_hearkens_5, bk_X1_hearkens_15, k_X1_hearkens_15, bk_X1_hearkens_26, k_X1_hearkens_26, bk_X1_hearkens_39, k_X1_hearkens_39, bk_X1_hearkens_68, k_X1_hearkens_68, bk_X1_hearkens_74, k_X1_hearkens_74, bk_X1_hearkens_81, k_X1_hearkens_81, bk_X1_hearkens_109, k_X1_hearkens_109, bk_X1_hearkens_115, k_X1_hearkens_115, ↓e_rk1, ↓e_rk0, ↓e_sk0, ↓e_sks, ↓e_ldi0, ↓e_ldis, ↓e_ldl0, ↓e_ldls, ↓e_lda0, ↓e_ldas, ↓e_ok0, ↓e_okss, ↓e_ok1i, ↓e_ok1r, ↓e_ok1n, ↓e_sti, ↓e_sta, ↓e_1, ↓e_2, ↓e_l1, ↓e_l2, ↓e_li, ↓e_sw0, ↓e_sws, ↓e_ceq, ↓e_cne, ↓e_clt, ↓e_cge, ↓e_cgt, ↓e_cle, ↓e_nil, ↓e_cons, ↓e_iconst, ↓e_bipush, ↓e_sipush, ↓e_ldc, ↓e_ldcw, ↓e_ldc2, ↓e_lconst, ↓e_iloadn, ↓e_iload, ↓e_lloadn, ↓e_lload, ↓e_aloadn, ↓e_aload, ↓e_istoren, ↓e_istore, ↓e_astoren, ↓e_astore, ↓e_add, ↓e_iinc, ↓e_iadd, ↓e_isub, ↓e_imul, ↓e_iand, ↓e_ior, ↓e_ixor, ↓e_ishl, ↓e_iushr, ↓e_idiv, ↓e_irem, ↓e_ineg, ↓e_i2l, ↓e_i2b, ↓e_i2s, ↓e_l2i, ↓e_land, ↓e_lor, ↓e_lshl, ↓e_lshr, ↓e_lushr, ↓e_lcmp, ↓e_dupi, ↓e_dupr, ↓e_popi, ↓e_dup2, ↓e_goto, ↓e_if, ↓e_icmp, ↓e_tsw, ↓e_lsw, ↓e_getf, ↓e_putf, ↓e_gets, ↓e_iald, ↓e_cald, ↓e_iast, ↓e_aald, ↓e_aast, ↓e_len, ↓e_copy, ↓e_abs, ↓e_max, ↓e_min, ↓e_iret, ↓e_aret, ↓e_vret, ↓e_is0, ↓e_is1, ↓e_is2, ↓e_is3, ↓e_is4, ↓e_iv1, ↓e_iv2, ↓e_iv3, ↓e_iv4, ↓e_iv5, ↓e_iv6, ↓rt_X1_hearkens, ↓reduceIte, Nat.reduceAdd, Nat.reduceEqDiff, ↓zcl0, ↓zclv, List.map_nil, List.sum_nil, List.map_cons, List.sum_cons, zcat, true_and, and_true, Nat.reduceLeDiff, Nat.reduceAdd, eq_self, forall_const, e_ok0, e_okss, e_ok1i, e_ok1r, e_ok1n, zl_0, zl_4, Int.reduceToNat, Int.reduceAdd, Int.reduceMul, Int.reduceSub, Int.reduceNeg, Int.reduceLT, Int.reduceLE, Int.reduceEq, not_false_eq_true, not_true_eq_false, false_implies, true_implies, implies_true, Int.reduceDiv, Int.reduceMod, zr8_zr, zr_zbo, z01_zbo, z01_0, z01_1, zbo_eq0, zup_eq, zup_o, zup_k, ne_eq, ↓ct_dhk_dlist, ↓r_dlist, ↓B_dlist, ↓ct_dhk_fill, ↓r_fill, ↓B_fill, ↓ct_dhk_pofe, ↓r_pofe, ↓B_pofe, ↓ct_dhk_wofe, ↓r_wofe, ↓B_wofe, ↓vD hb9, ↓gD_0 hb9, ↓gD_1 hb9, ↓gD_2 hb9, ↓gD_3 hb9, ↓gD_4 hb9, ↓gD_5 hb9, ↓gD_6 hb9, ↓gD_7 hb9, ↓gD_8 hb9, ↓gD_9 hb9, ↓pD_5 hb9, ↓pD_6 hb9, ↓pD_7 hb9, ↓pD_8 hb9, ↓pD_9 hb9, ↓lD_v hb9, ↓sD_v hb9, zk, lk]
          refine zpost (hC M' hM) ?_
          unfold hk
          rw [show k = 4 by omega]
        | succ j ih =>
          intro k hk9
          refine bs_X1_hearkens_81 hX ?_
          have zk : zr (k : Int) = k := zr_of (by omega) (by omega)
          have lk : ((k : Int) < 4) = True := eq_true (by omega)
          have ev := hv k (by omega)
          have vr := vs_rng (d := d9) (wo := wo) (h := q) (w := k) n
          have hr := hkw_rng (d := d9) (wo := wo) (h := q) v0 k (by omega)
          have z1 : zr (vs d9 wo q k n) = vs d9 wo q k n := zr_of (by omega) (by omega)
          have z2 : zr (hkw d9 wo q k).2 = (hkw d9 wo q k).2 := zr_of (by omega) (by omega)
          have nx := ih (k + 1) (by omega)
          have en : hkw d9 wo q (k + 1) = if (hkw d9 wo q k).2 < vs d9 wo q k n then ((k : Int), vs d9 wo q k n) else hkw d9 wo q k := by
            show (if _ then _ else _) = _
            rw [nn]
          rw [en] at nx
          have J109 : ∀ a b : Int, (a, b) = (if (hkw d9 wo q k).2 < vs d9 wo q k n then ((k : Int), vs d9 wo q k n) else hkw d9 wo q k) → X 109 [some (.inr (.inr (.inl g))), some (.inl q), some (.inl a), some (.inl b), some (.inl ((k : Int)))] [] (zG, M') (0, 0) := by
            intro a b hab
            rw [← hab] at nx
            refine bs_X1_hearkens_109 hX ?_
            simp only [bk_X1_hearkens_0, k_X1_hearkens_0, bk_X1_hearkens_5, k_X1_hearkens_5, bk_X1_hearkens_15, k_X1_hearkens_15, bk_X1_hearkens_26, k_X1_hearkens_26, bk_X1_hearkens_39, k_X1_hearkens_39, bk_X1_hearkens_68, k_X1_hearkens_68, bk_X1_hearkens_74, k_X1_hearkens_74, bk_X1_hearkens_81, k_X1_hearkens_81, bk_X1_hearkens_109, k_X1_hearkens_109, bk_X1_hearkens_115, k_X1_hearkens_115, ↓e_rk1, ↓e_rk0, ↓e_sk0, ↓e_sks, ↓e_ldi0, ↓e_ldis, ↓e_ldl0, ↓e_ldls, ↓e_lda0, ↓e_ldas, ↓e_ok0, ↓e_okss, ↓e_ok1i, ↓e_ok1r, ↓e_ok1n, ↓e_sti, ↓e_sta, ↓e_1, ↓e_2, ↓e_l1, ↓e_l2, ↓e_li, ↓e_sw0, ↓e_sws, ↓e_ceq, ↓e_cne, ↓e_clt, ↓e_cge, ↓e_cgt, ↓e_cle, ↓e_nil, ↓e_cons, ↓e_iconst, ↓e_bipush, ↓e_sipush, ↓e_ldc, ↓e_ldcw, ↓e_ldc2, ↓e_lconst, ↓e_iloadn, ↓e_iload, ↓e_lloadn, ↓e_lload, ↓e_aloadn, ↓e_aload, ↓e_istoren, ↓e_istore, ↓e_astoren, ↓e_astore, ↓e_add, ↓e_iinc, ↓e_iadd, ↓e_isub, ↓e_imul, ↓e_iand, ↓e_ior, ↓e_ixor, ↓e_ishl, ↓e_iushr, ↓e_idiv, ↓e_irem, ↓e_ineg, ↓e_i2l, ↓e_i2b, ↓e_i2s, ↓e_l2i, ↓e_land, ↓e_lor, ↓e_lshl, ↓e_lshr, ↓e_lushr, ↓e_lcmp, ↓e_dupi, ↓e_dupr, ↓e_popi, ↓e_dup2, ↓e_goto, ↓e_if, ↓e_icmp, ↓e_tsw, ↓e_lsw, ↓e_getf, ↓e_putf, ↓e_gets, ↓e_iald, ↓e_cald, ↓e_iast, ↓e_aald, ↓e_aast, ↓e_len, ↓e_copy, ↓e_abs, ↓e_max, ↓e_min, ↓e_iret, ↓e_aret, ↓e_vret, ↓e_is0, ↓e_is1, ↓e_is2, ↓e_is3, ↓e_is4, ↓e_iv1, ↓e_iv2, ↓e_iv3, ↓e_iv4, ↓e_iv5, ↓e_iv6, ↓rt_X1_hearkens, ↓reduceIte, Nat.reduceAdd, Nat.reduceEqDiff, ↓zcl0, ↓zclv, List.map_nil, List.sum_nil, List.map_cons, List.sum_cons, zcat, true_and, and_true, Nat.reduceLeDiff, Nat.reduceAdd, eq_self, forall_const, e_ok0, e_okss, e_ok1i, e_ok1r, e_ok1n, zl_0, zl_4, Int.reduceToNat, Int.reduceAdd, Int.reduceMul, Int.reduceSub, Int.reduceNeg, Int.reduceLT, Int.reduceLE, Int.reduceEq, not_false_eq_true, not_true_eq_false, false_implies, true_implies, implies_true, Int.reduceDiv, Int.reduceMod, zr8_zr, zr_zbo, z01_zbo, z01_0, z01_1, zbo_eq0, zup_eq, zup_o, zup_k, ne_eq, ↓ct_dhk_dlist, ↓r_dlist, ↓B_dlist, ↓ct_dhk_fill, ↓r_fill, ↓B_fill, ↓ct_dhk_pofe, ↓r_pofe, ↓B_pofe, ↓ct_dhk_wofe, ↓r_wofe, ↓B_wofe, ↓vD hb9, ↓gD_0 hb9, ↓gD_1 hb9, ↓gD_2 hb9, ↓gD_3 hb9, ↓gD_4 hb9, ↓gD_5 hb9, ↓gD_6 hb9, ↓gD_7 hb9, ↓gD_8 hb9, ↓gD_9 hb9, ↓pD_5 hb9, ↓pD_6 hb9, ↓pD_7 hb9, ↓pD_8 hb9, ↓pD_9 hb9, ↓lD_v hb9, ↓sD_v hb9]
            exact nx
          simp only [bk_X1_hearkens_0, k_X1_hearkens_0, bk_X1_hearkens_5, k_X1_hearkens_5, bk_X1_hearkens_15, k_X1_hearkens_15, bk_X1_hearkens_26, k_X1_hearkens_26, bk_X1_hearkens_39, k_X1_hearkens_39, bk_X1_hearkens_68, k_X1_hearkens_68, bk_X1_hearkens_74, k_X1_hearkens_74, bk_X1_hearkens_81, k_X1_hearkens_81, bk_X1_hearkens_109, k_X1_hearkens_109, bk_X1_hearkens_115, k_X1_hearkens_115, ↓e_rk1, ↓e_rk0, ↓e_sk0, ↓e_sks, ↓e_ldi0, ↓e_ldis, ↓e_ldl0, ↓e_ldls, ↓e_lda0, ↓e_ldas, ↓e_ok0, ↓e_okss, ↓e_ok1i, ↓e_ok1r, ↓e_ok1n, ↓e_sti, ↓e_sta, ↓e_1, ↓e_2, ↓e_l1, ↓e_l2, ↓e_li, ↓e_sw0, ↓e_sws, ↓e_ceq, ↓e_cne, ↓e_clt, ↓e_cge, ↓e_cgt, ↓e_cle, ↓e_nil, ↓e_cons, ↓e_iconst, ↓e_bipush, ↓e_sipush, ↓e_ldc, ↓e_ldcw, ↓e_ldc2, ↓e_lconst, ↓e_iloadn, ↓e_iload, ↓e_lloadn, ↓e_lload, ↓e_aloadn, ↓e_aload, ↓e_istoren, ↓e_istore, ↓e_astoren, ↓e_astore, ↓e_add, ↓e_iinc, ↓e_iadd, ↓e_isub, ↓e_imul, ↓e_iand, ↓e_ior, ↓e_ixor, ↓e_ishl, ↓e_iushr, ↓e_idiv, ↓e_irem, ↓e_ineg, ↓e_i2l, ↓e_i2b, ↓e_i2s, ↓e_l2i, ↓e_land, ↓e_lor, ↓e_lshl, ↓e_lshr, ↓e_lushr, ↓e_lcmp, ↓e_dupi, ↓e_dupr, ↓e_popi, ↓e_dup2, ↓e_goto, ↓e_if, ↓e_icmp, ↓e_tsw, ↓e_lsw, ↓e_getf, ↓e_putf, ↓e_gets, ↓e_iald, ↓e_cald, ↓e_iast, ↓e_aald, ↓e_aast, ↓e_len, ↓e_copy, ↓e_abs, ↓e_max, ↓e_min, ↓e_iret, ↓e_aret, ↓e_vret, ↓e_is0, ↓e_is1, ↓e_is2, ↓e_is3, ↓e_is4, ↓e_iv1, ↓e_iv2, ↓e_iv3, ↓e_iv4, ↓e_iv5, ↓e_iv6, ↓rt_X1_hearkens, ↓reduceIte, Nat.reduceAdd, Nat.reduceEqDiff, ↓zcl0, ↓zclv, List.map_nil, List.sum_nil, List.map_cons, List.sum_cons, zcat, true_and, and_true, Nat.reduceLeDiff, Nat.reduceAdd, eq_self, forall_const, e_ok0, e_okss, e_ok1i, e_ok1r, e_ok1n, zl_0, zl_4, Int.reduceToNat, Int.reduceAdd, Int.reduceMul, Int.reduceSub, Int.reduceNeg, Int.reduceLT, Int.reduceLE, Int.reduceEq, not_false_eq_true, not_true_eq_false, false_implies, true_implies, implies_true, Int.reduceDiv, Int.reduceMod, zr8_zr, zr_zbo, z01_zbo, z01_0, z01_1, zbo_eq0, zup_eq, zup_o, zup_k, ne_eq, ↓ct_dhk_dlist, ↓r_dlist, ↓B_dlist, ↓ct_dhk_fill, ↓r_fill, ↓B_fill, ↓ct_dhk_pofe, ↓r_pofe, ↓B_pofe, ↓ct_dhk_wofe, ↓r_wofe, ↓B_wofe, ↓vD hb9, ↓gD_0 hb9, ↓gD_1 hb9, ↓gD_2 hb9, ↓gD_3 hb9, ↓gD_4 hb9, ↓gD_5 hb9, ↓gD_6 hb9, ↓gD_7 hb9, ↓gD_8 hb9, ↓gD_9 hb9, ↓pD_5 hb9, ↓pD_6 hb9, ↓pD_7 hb9, ↓pD_8 hb9, ↓pD_9 hb9, ↓lD_v hb9, ↓sD_v hb9, zk, lk, ev, z1, z2, Int.toNat_natCast]
          repeat' (first | assumption | apply And.intro | intro _)
          all_goals first | omega | (apply J109; rw [if_pos (by assumption)]) | (apply J109; rw [if_neg (by assumption)])
      refine bs_X1_hearkens_74 hX ?_
      simp only [bk_X1_hearkens_0, k_X1_hearkens_0, bk_X1_hearkens_5, k_X1_hearkens_5, bk_X1_hearkens_15, k_X1_hearkens_15, bk_X1_hearkens_26, k_X1_hearkens_26, bk_X1_hearkens_39, k_X1_hearkens_39, bk_X1_hearkens_68, k_X1_hearkens_68, bk_X1_hearkens_74, k_X1_hearkens_74, bk_X1_hearkens_81, k_X1_hearkens_81, bk_X1_hearkens_109, k_X1_hearkens_109, bk_X1_hearkens_115, k_X1_hearkens_115, ↓e_rk1, ↓e_rk0, ↓e_sk0, ↓e_sks, ↓e_ldi0, ↓e_ldis, ↓e_ldl0, ↓e_ldls, ↓e_lda0, ↓e_ldas, ↓e_ok0, ↓e_okss, ↓e_ok1i, ↓e_ok1r, ↓e_ok1n, ↓e_sti, ↓e_sta, ↓e_1, ↓e_2, ↓e_l1, ↓e_l2, ↓e_li, ↓e_sw0, ↓e_sws, ↓e_ceq, ↓e_cne, ↓e_clt, ↓e_cge, ↓e_cgt, ↓e_cle, ↓e_nil, ↓e_cons, ↓e_iconst, ↓e_bipush, ↓e_sipush, ↓e_ldc, ↓e_ldcw, ↓e_ldc2, ↓e_lconst, ↓e_iloadn, ↓e_iload, ↓e_lloadn, ↓e_lload, ↓e_aloadn, ↓e_aload, ↓e_istoren, ↓e_istore, ↓e_astoren, ↓e_astore, ↓e_add, ↓e_iinc, ↓e_iadd, ↓e_isub, ↓e_imul, ↓e_iand, ↓e_ior, ↓e_ixor, ↓e_ishl, ↓e_iushr, ↓e_idiv, ↓e_irem, ↓e_ineg, ↓e_i2l, ↓e_i2b, ↓e_i2s, ↓e_l2i, ↓e_land, ↓e_lor, ↓e_lshl, ↓e_lshr, ↓e_lushr, ↓e_lcmp, ↓e_dupi, ↓e_dupr, ↓e_popi, ↓e_dup2, ↓e_goto, ↓e_if, ↓e_icmp, ↓e_tsw, ↓e_lsw, ↓e_getf, ↓e_putf, ↓e_gets, ↓e_iald, ↓e_cald, ↓e_iast, ↓e_aald, ↓e_aast, ↓e_len, ↓e_copy, ↓e_abs, ↓e_max, ↓e_min, ↓e_iret, ↓e_aret, ↓e_vret, ↓e_is0, ↓e_is1, ↓e_is2, ↓e_is3, ↓e_is4, ↓e_iv1, ↓e_iv2, ↓e_iv3, ↓e_iv4, ↓e_iv5, ↓e_iv6, ↓rt_X1_hearkens, ↓reduceIte, Nat.reduceAdd, Nat.reduceEqDiff, ↓zcl0, ↓zclv, List.map_nil, List.sum_nil, List.map_cons, List.sum_cons, zcat, true_and, and_true, Nat.reduceLeDiff, Nat.reduceAdd, eq_self, forall_const, e_ok0, e_okss, e_ok1i, e_ok1r, e_ok1n, zl_0, zl_4, Int.reduceToNat, Int.reduceAdd, Int.reduceMul, Int.reduceSub, Int.reduceNeg, Int.reduceLT, Int.reduceLE, Int.reduceEq, not_false_eq_true, not_true_eq_false, false_implies, true_implies, implies_true, Int.reduceDiv, Int.reduceMod, zr8_zr, zr_zbo, z01_zbo, z01_0, z01_1, zbo_eq0, zup_eq, zup_o, zup_k, ne_eq, ↓ct_dhk_dlist, ↓r_dlist, ↓B_dlist, ↓ct_dhk_fill, ↓r_fill, ↓B_fill, ↓ct_dhk_pofe, ↓r_pofe, ↓B_pofe, ↓ct_dhk_wofe, ↓r_wofe, ↓B_wofe, ↓vD hb9, ↓gD_0 hb9, ↓gD_1 hb9, ↓gD_2 hb9, ↓gD_3 hb9, ↓gD_4 hb9, ↓gD_5 hb9, ↓gD_6 hb9, ↓gD_7 hb9, ↓gD_8 hb9, ↓gD_9 hb9, ↓pD_5 hb9, ↓pD_6 hb9, ↓pD_7 hb9, ↓pD_8 hb9, ↓pD_9 hb9, ↓lD_v hb9, ↓sD_v hb9]
      exact lp 4 0 (by omega)
    have lp1 : ∀ (j k : Nat) (M' : ZMm) (x3 : Option ZV), j + k = n → LSt g M' (rgt d9 q) (dwn d9 q) (hi4 d9 q 3) → (∀ w : Nat, w < 4 → M' vv w = vs d9 wo q w k) → (∀ x, ¬ x = g → ¬ x = vv → ¬ x = 17 → M' x = M x) → X 15 [some (.inr (.inr (.inl g))), some (.inl q), some (.inl ((k : Int))), x3, none] [] (zG, M') (0, 0) := by
      intro j
      induction j with
      | zero =>
        intro k M' x3 hk9 L hv hM
        refine bs_X1_hearkens_15 hX ?_
        have zk : zr (k : Int) = k := zr_of (by omega) (by omega)
        have e3 : M' cc 3 = n := by rw [hM cc (by omega) (by omega) (by omega), C.1, hn]
        have zn : zr (n : Int) = n := zr_of (by omega) (by omega)
        have lk : ((k : Int) < n) = False := eq_false (by omega)
        simp only [bk_X1_hearkens_0, k_X1_hearkens_0, bk_X1_hearkens_5, k_X1_hearkens_5, bk_X1_hearkens_15, k_X1_hearkens_15, bk_X1_hearkens_26, k_X1_hearkens_26, bk_X1_hearkens_39, k_X1_hearkens_39, bk_X1_hearkens_68, k_X1_hearkens_68, bk_X1_hearkens_74, k_X1_hearkens_74, bk_X1_hearkens_81, k_X1_hearkens_81, bk_X1_hearkens_109, k_X1_hearkens_109, bk_X1_hearkens_115, k_X1_hearkens_115, ↓e_rk1, ↓e_rk0, ↓e_sk0, ↓e_sks, ↓e_ldi0, ↓e_ldis, ↓e_ldl0, ↓e_ldls, ↓e_lda0, ↓e_ldas, ↓e_ok0, ↓e_okss, ↓e_ok1i, ↓e_ok1r, ↓e_ok1n, ↓e_sti, ↓e_sta, ↓e_1, ↓e_2, ↓e_l1, ↓e_l2, ↓e_li, ↓e_sw0, ↓e_sws, ↓e_ceq, ↓e_cne, ↓e_clt, ↓e_cge, ↓e_cgt, ↓e_cle, ↓e_nil, ↓e_cons, ↓e_iconst, ↓e_bipush, ↓e_sipush, ↓e_ldc, ↓e_ldcw, ↓e_ldc2, ↓e_lconst, ↓e_iloadn, ↓e_iload, ↓e_lloadn, ↓e_lload, ↓e_aloadn, ↓e_aload, ↓e_istoren, ↓e_istore, ↓e_astoren, ↓e_astore, ↓e_add, ↓e_iinc, ↓e_iadd, ↓e_isub, ↓e_imul, ↓e_iand, ↓e_ior, ↓e_ixor, ↓e_ishl, ↓e_iushr, ↓e_idiv, ↓e_irem, ↓e_ineg, ↓e_i2l, ↓e_i2b, ↓e_i2s, ↓e_l2i, ↓e_land, ↓e_lor, ↓e_lshl, ↓e_lshr, ↓e_lushr, ↓e_lcmp, ↓e_dupi, ↓e_dupr, ↓e_popi, ↓e_dup2, ↓e_goto, ↓e_if, ↓e_icmp, ↓e_tsw, ↓e_lsw, ↓e_getf, ↓e_putf, ↓e_gets, ↓e_iald, ↓e_cald, ↓e_iast, ↓e_aald, ↓e_aast, ↓e_len, ↓e_copy, ↓e_abs, ↓e_max, ↓e_min, ↓e_iret, ↓e_aret, ↓e_vret, ↓e_is0, ↓e_is1, ↓e_is2, ↓e_is3, ↓e_is4, ↓e_iv1, ↓e_iv2, ↓e_iv3, ↓e_iv4, ↓e_iv5, ↓e_iv6, ↓rt_X1_hearkens, ↓reduceIte, Nat.reduceAdd, Nat.reduceEqDiff, ↓zcl0, ↓zclv, List.map_nil, List.sum_nil, List.map_cons, List.sum_cons, zcat, true_and, and_true, Nat.reduceLeDiff, Nat.reduceAdd, eq_self, forall_const, e_ok0, e_okss, e_ok1i, e_ok1r, e_ok1n, zl_0, zl_4, Int.reduceToNat, Int.reduceAdd, Int.reduceMul, Int.reduceSub, Int.reduceNeg, Int.reduceLT, Int.reduceLE, Int.reduceEq, not_false_eq_true, not_true_eq_false, false_implies, true_implies, implies_true, Int.reduceDiv, Int.reduceMod, zr8_zr, zr_zbo, z01_zbo, z01_0, z01_1, zbo_eq0, zup_eq, zup_o, zup_k, ne_eq, ↓ct_dhk_dlist, ↓r_dlist, ↓B_dlist, ↓ct_dhk_fill, ↓r_fill, ↓B_fill, ↓ct_dhk_pofe, ↓r_pofe, ↓B_pofe, ↓ct_dhk_wofe, ↓r_wofe, ↓B_wofe, ↓vD hb9, ↓gD_0 hb9, ↓gD_1 hb9, ↓gD_2 hb9, ↓gD_3 hb9, ↓gD_4 hb9, ↓gD_5 hb9, ↓gD_6 hb9, ↓gD_7 hb9, ↓gD_8 hb9, ↓gD_9 hb9, ↓pD_5 hb9, ↓pD_6 hb9, ↓pD_7 hb9, ↓pD_8 hb9, ↓pD_9 hb9, ↓lD_v hb9, ↓sD_v hb9, ↓vC hbc, ↓gC_0 hbc, ↓gC_1 hbc, ↓gC_2 hbc, ↓gC_3 hbc, ↓pC_3 hbc, ↓lC_1 hbc, ↓sC_1 hbc, ↓lC_2 hbc, ↓sC_2 hbc, ↓lC_3 hbc, ↓sC_3 hbc, zk, e3, zn, lk]
        exact J74 M' _ _ (fun w hw => by rw [hv w hw, show k = n by omega]) hM
      | succ j ih =>
        intro k M' x3 hk9 L hv hM
        have zk : zr (k : Int) = k := zr_of (by omega) (by omega)
        have e3 : M' cc 3 = n := by rw [hM cc (by omega) (by omega) (by omega), C.1, hn]
        have zn : zr (n : Int) = n := zr_of (by omega) (by omega)
        have lk : ((k : Int) < n) = True := eq_true (by omega)
        obtain ⟨p1, p2, p3⟩ := C.at (e := k) (by omega)
        have f1 : M' (cc + 1) k = ei d9 k 0 := by rw [hM _ (by omega) (by omega) (by omega)]; exact p1
        have f2 : M' (cc + 2) k = ei d9 k 1 := by rw [hM _ (by omega) (by omega) (by omega)]; exact p2
        have f3 : M' (cc + 3) k = if (k : Int) = wo then 2 else ei d9 k 2 := by rw [hM _ (by omega) (by omega) (by omega)]; exact p3
        have eb := Vd_ei vd (e := k) (by omega) (by omega)
        obtain ⟨sd, hsd⟩ : ∃ sd, (if (k : Int) = wo then 2 else ei d9 k 2) = sd := ⟨_, rfl⟩
        have sr : 0 ≤ sd ∧ sd ≤ 2 := by rw [← hsd]; split <;> omega
        rw [hsd] at f3
        have zs : zr sd = sd := zr_of (by omega) (by omega)
        have vstep : ∀ w : Nat, vs d9 wo q w (k + 1) = vs d9 wo q w k + vt d9 wo q w k := fun w => rfl
        have J68 : ∀ (M2 : ZMm) (x3 : Option ZV), LSt g M2 (rgt d9 q) (dwn d9 q) (hi4 d9 q 3) → (∀ w : Nat, w < 4 → M2 vv w = vs d9 wo q w (k + 1)) → (∀ x, ¬ x = g → ¬ x = vv → ¬ x = 17 → M2 x = M x) → X 68 [some (.inr (.inr (.inl g))), some (.inl q), some (.inl ((k : Int))), x3, none] [] (zG, M2) (0, 0) := by
          intro M2 x3 L2 hv2 hM2
          refine bs_X1_hearkens_68 hX ?_
          simp only [bk_X1_hearkens_0, k_X1_hearkens_0, bk_X1_hearkens_5, k_X1_hearkens_5, bk_X1_hearkens_15, k_X1_hearkens_15, bk_X1_hearkens_26, k_X1_hearkens_26, bk_X1_hearkens_39, k_X1_hearkens_39, bk_X1_hearkens_68, k_X1_hearkens_68, bk_X1_hearkens_74, k_X1_hearkens_74, bk_X1_hearkens_81, k_X1_hearkens_81, bk_X1_hearkens_109, k_X1_hearkens_109, bk_X1_hearkens_115, k_X1_hearkens_115, ↓e_rk1, ↓e_rk0, ↓e_sk0, ↓e_sks, ↓e_ldi0, ↓e_ldis, ↓e_ldl0, ↓e_ldls, ↓e_lda0, ↓e_ldas, ↓e_ok0, ↓e_okss, ↓e_ok1i, ↓e_ok1r, ↓e_ok1n, ↓e_sti, ↓e_sta, ↓e_1, ↓e_2, ↓e_l1, ↓e_l2, ↓e_li, ↓e_sw0, ↓e_sws, ↓e_ceq, ↓e_cne, ↓e_clt, ↓e_cge, ↓e_cgt, ↓e_cle, ↓e_nil, ↓e_cons, ↓e_iconst, ↓e_bipush, ↓e_sipush, ↓e_ldc, ↓e_ldcw, ↓e_ldc2, ↓e_lconst, ↓e_iloadn, ↓e_iload, ↓e_lloadn, ↓e_lload, ↓e_aloadn, ↓e_aload, ↓e_istoren, ↓e_istore, ↓e_astoren, ↓e_astore, ↓e_add, ↓e_iinc, ↓e_iadd, ↓e_isub, ↓e_imul, ↓e_iand, ↓e_ior, ↓e_ixor, ↓e_ishl, ↓e_iushr, ↓e_idiv, ↓e_irem, ↓e_ineg, ↓e_i2l, ↓e_i2b, ↓e_i2s, ↓e_l2i, ↓e_land, ↓e_lor, ↓e_lshl, ↓e_lshr, ↓e_lushr, ↓e_lcmp, ↓e_dupi, ↓e_dupr, ↓e_popi, ↓e_dup2, ↓e_goto, ↓e_if, ↓e_icmp, ↓e_tsw, ↓e_lsw, ↓e_getf, ↓e_putf, ↓e_gets, ↓e_iald, ↓e_cald, ↓e_iast, ↓e_aald, ↓e_aast, ↓e_len, ↓e_copy, ↓e_abs, ↓e_max, ↓e_min, ↓e_iret, ↓e_aret, ↓e_vret, ↓e_is0, ↓e_is1, ↓e_is2, ↓e_is3, ↓e_is4, ↓e_iv1, ↓e_iv2, ↓e_iv3, ↓e_iv4, ↓e_iv5, ↓e_iv6, ↓rt_X1_hearkens, ↓reduceIte, Nat.reduceAdd, Nat.reduceEqDiff, ↓zcl0, ↓zclv, List.map_nil, List.sum_nil, List.map_cons, List.sum_cons, zcat, true_and, and_true, Nat.reduceLeDiff, Nat.reduceAdd, eq_self, forall_const, e_ok0, e_okss, e_ok1i, e_ok1r, e_ok1n, zl_0, zl_4, Int.reduceToNat, Int.reduceAdd, Int.reduceMul, Int.reduceSub, Int.reduceNeg, Int.reduceLT, Int.reduceLE, Int.reduceEq, not_false_eq_true, not_true_eq_false, false_implies, true_implies, implies_true, Int.reduceDiv, Int.reduceMod, zr8_zr, zr_zbo, z01_zbo, z01_0, z01_1, zbo_eq0, zup_eq, zup_o, zup_k, ne_eq, ↓ct_dhk_dlist, ↓r_dlist, ↓B_dlist, ↓ct_dhk_fill, ↓r_fill, ↓B_fill, ↓ct_dhk_pofe, ↓r_pofe, ↓B_pofe, ↓ct_dhk_wofe, ↓r_wofe, ↓B_wofe, ↓vD hb9, ↓gD_0 hb9, ↓gD_1 hb9, ↓gD_2 hb9, ↓gD_3 hb9, ↓gD_4 hb9, ↓gD_5 hb9, ↓gD_6 hb9, ↓gD_7 hb9, ↓gD_8 hb9, ↓gD_9 hb9, ↓pD_5 hb9, ↓pD_6 hb9, ↓pD_7 hb9, ↓pD_8 hb9, ↓pD_9 hb9, ↓lD_v hb9, ↓sD_v hb9]
          exact ih (k + 1) M2 x3 (by omega) L2 hv2 hM2
        have no9 : ¬ sd = q → X 68 [some (.inr (.inr (.inl g))), some (.inl q), some (.inl ((k : Int))), x3, none] [] (zG, M') (0, 0) := by
          intro q9
          refine J68 M' x3 L (fun w hw => ?_) hM
          rw [hv w hw, vstep]
          unfold vt
          rw [if_neg (fun h9 => q9 (by rw [← hsd, if_neg h9.1]; exact h9.2.1))]
          omega
        have ye : sd = q → X 39 [some (.inr (.inr (.inl g))), some (.inl q), some (.inl ((k : Int))), x3, none] [] (zG, M') (0, 0) := by
          intro q9
          have nw : ¬ (k : Int) = wo := fun e => by rw [if_pos e] at hsd; omega
          have es : ei d9 k 2 = q := by rw [if_neg nw] at hsd; rw [hsd, q9]
          have pr := ptk_rng (kd := ei d9 k 0) (m := ei d9 k 1) (yr := d9 1) (r := rgt d9 q) (dw := dwn d9 q) (fa := sz (rgt d9 q) + sz (dwn d9 q)) (la := hi4 d9 q 3) vh.2.2.2.1 vh.2.2.2.2
          rw [← pts_eq es] at pr
          have zp : zr (pts d9 k) = pts d9 k := zr_of (by omega) (by omega)
          have f1' : M' (cc + 1) (k : Int).toNat = ei d9 k 0 := f1
          have f2' : M' (cc + 2) (k : Int).toNat = ei d9 k 1 := f2
          have y9 : M' hh 9 = d9 1 := by rw [hM hh (by omega) (by omega) (by omega)]; exact H.2.2.2.2.2.1
          refine bs_X1_hearkens_39 hX ?_
          simp only [bk_X1_hearkens_0, k_X1_hearkens_0, bk_X1_hearkens_5, k_X1_hearkens_5, bk_X1_hearkens_15, k_X1_hearkens_15, bk_X1_hearkens_26, k_X1_hearkens_26, bk_X1_hearkens_39, k_X1_hearkens_39, bk_X1_hearkens_68, k_X1_hearkens_68, bk_X1_hearkens_74, k_X1_hearkens_74, bk_X1_hearkens_81, k_X1_hearkens_81, bk_X1_hearkens_109, k_X1_hearkens_109, bk_X1_hearkens_115, k_X1_hearkens_115, ↓e_rk1, ↓e_rk0, ↓e_sk0, ↓e_sks, ↓e_ldi0, ↓e_ldis, ↓e_ldl0, ↓e_ldls, ↓e_lda0, ↓e_ldas, ↓e_ok0, ↓e_okss, ↓e_ok1i, ↓e_ok1r, ↓e_ok1n, ↓e_sti, ↓e_sta, ↓e_1, ↓e_2, ↓e_l1, ↓e_l2, ↓e_li, ↓e_sw0, ↓e_sws, ↓e_ceq, ↓e_cne, ↓e_clt, ↓e_cge, ↓e_cgt, ↓e_cle, ↓e_nil, ↓e_cons, ↓e_iconst, ↓e_bipush, ↓e_sipush, ↓e_ldc, ↓e_ldcw, ↓e_ldc2, ↓e_lconst, ↓e_iloadn, ↓e_iload, ↓e_lloadn, ↓e_lload, ↓e_aloadn, ↓e_aload, ↓e_istoren, ↓e_istore, ↓e_astoren, ↓e_astore, ↓e_add, ↓e_iinc, ↓e_iadd, ↓e_isub, ↓e_imul, ↓e_iand, ↓e_ior, ↓e_ixor, ↓e_ishl, ↓e_iushr, ↓e_idiv, ↓e_irem, ↓e_ineg, ↓e_i2l, ↓e_i2b, ↓e_i2s, ↓e_l2i, ↓e_land, ↓e_lor, ↓e_lshl, ↓e_lshr, ↓e_lushr, ↓e_lcmp, ↓e_dupi, ↓e_dupr, ↓e_popi, ↓e_dup2, ↓e_goto, ↓e_if, ↓e_icmp, ↓e_tsw, ↓e_lsw, ↓e_getf, ↓e_putf, ↓e_gets, ↓e_iald, ↓e_cald, ↓e_iast, ↓e_aald, ↓e_aast, ↓e_len, ↓e_copy, ↓e_abs, ↓e_max, ↓e_min, ↓e_iret, ↓e_aret, ↓e_vret, ↓e_is0, ↓e_is1, ↓e_is2, ↓e_is3, ↓e_is4, ↓e_iv1, ↓e_iv2, ↓e_iv3, ↓e_iv4, ↓e_iv5, ↓e_iv6, ↓rt_X1_hearkens, ↓reduceIte, Nat.reduceAdd, Nat.reduceEqDiff, ↓zcl0, ↓zclv, List.map_nil, List.sum_nil, List.map_cons, List.sum_cons, zcat, true_and, and_true, Nat.reduceLeDiff, Nat.reduceAdd, eq_self, forall_const, e_ok0, e_okss, e_ok1i, e_ok1r, e_ok1n, zl_0, zl_4, Int.reduceToNat, Int.reduceAdd, Int.reduceMul, Int.reduceSub, Int.reduceNeg, Int.reduceLT, Int.reduceLE, Int.reduceEq, not_false_eq_true, not_true_eq_false, false_implies, true_implies, implies_true, Int.reduceDiv, Int.reduceMod, zr8_zr, zr_zbo, z01_zbo, z01_0, z01_1, zbo_eq0, zup_eq, zup_o, zup_k, ne_eq, ↓ct_dhk_dlist, ↓r_dlist, ↓B_dlist, ↓ct_dhk_fill, ↓r_fill, ↓B_fill, ↓ct_dhk_pofe, ↓r_pofe, ↓B_pofe, ↓ct_dhk_wofe, ↓r_wofe, ↓B_wofe, ↓vD hb9, ↓gD_0 hb9, ↓gD_1 hb9, ↓gD_2 hb9, ↓gD_3 hb9, ↓gD_4 hb9, ↓gD_5 hb9, ↓gD_6 hb9, ↓gD_7 hb9, ↓gD_8 hb9, ↓gD_9 hb9, ↓pD_5 hb9, ↓pD_6 hb9, ↓pD_7 hb9, ↓pD_8 hb9, ↓pD_9 hb9, ↓lD_v hb9, ↓sD_v hb9]
          refine ⟨by omega, hh, cc, vv, rgt d9 q, dwn d9 q, hi4 d9 q 3, d9 1, ei d9 k 0, ei d9 k 1, hb9, L, y9, v1, f1', eb.1, f2', eb.2.1, ?_⟩
          rw [← pts_eq es, zp]
          refine ⟨fun lt => by omega, fun _ => ⟨fun l4 => ?_, fun l4 => ?_⟩⟩
          rotate_left
          · refine J68 M' _ L (fun w hw => ?_) hM
            rw [hv w hw, vstep]
            unfold vt
            rw [if_neg (by omega)]
            omega
          refine ⟨by omega, by omega, by omega, hh, cc, vv, d9, rgt d9 q, dwn d9 q, hi4 d9 q 3, ei d9 k 0, ei d9 k 1, hb9, L, y9, v1, f1', eb.1, f2', eb.2.1, ?_, vd.2.2.2.2.2.2.2.2.2.2.1, fun M2 hM2 => ⟨by omega, by omega, ?_⟩⟩
          · exact LR_cg L14 (vd.2.2.2.2.2.2.2.2.2.2.1.2.1) (by omega) (fun x q1 q2 => hM x (by omega) (by omega) (by omega)) (fun _ _ => rfl)
          rw [← gvs_eq es]
          refine J68 _ _ ?_ (fun w hw => ?_) (fun x q1 q2 q3 => by rw [zup_ne _ q2, hM2 x q3, hM x q1 q2 q3])
          · unfold LSt at L ⊢
            rw [zup_ne _ (by omega), hM2 g (by omega)]
            exact L
          · rw [vstep]
            unfold vt
            by_cases qw : w = (pts d9 k).toNat
            · rw [if_pos ⟨nw, es, by omega⟩]
              subst qw
              rw [zup_eq, hv _ (by omega)]
            · rw [if_neg (by omega), zup_k qw, hM2 vv (by omega), hv w hw]
              omega
        refine bs_X1_hearkens_15 hX ?_
        simp only [bk_X1_hearkens_0, k_X1_hearkens_0, bk_X1_hearkens_5, k_X1_hearkens_5, bk_X1_hearkens_15, k_X1_hearkens_15, bk_X1_hearkens_26, k_X1_hearkens_26, bk_X1_hearkens_39, k_X1_hearkens_39, bk_X1_hearkens_68, k_X1_hearkens_68, bk_X1_hearkens_74, k_X1_hearkens_74, bk_X1_hearkens_81, k_X1_hearkens_81, bk_X1_hearkens_109, k_X1_hearkens_109, bk_X1_hearkens_115, k_X1_hearkens_115, ↓e_rk1, ↓e_rk0, ↓e_sk0, ↓e_sks, ↓e_ldi0, ↓e_ldis, ↓e_ldl0, ↓e_ldls, ↓e_lda0, ↓e_ldas, ↓e_ok0, ↓e_okss, ↓e_ok1i, ↓e_ok1r, ↓e_ok1n, ↓e_sti, ↓e_sta, ↓e_1, ↓e_2, ↓e_l1, ↓e_l2, ↓e_li, ↓e_sw0, ↓e_sws, ↓e_ceq, ↓e_cne, ↓e_clt, ↓e_cge, ↓e_cgt, ↓e_cle, ↓e_nil, ↓e_cons, ↓e_iconst, ↓e_bipush, ↓e_sipush, ↓e_ldc, ↓e_ldcw, ↓e_ldc2, ↓e_lconst, ↓e_iloadn, ↓e_iload, ↓e_lloadn, ↓e_lload, ↓e_aloadn, ↓e_aload, ↓e_istoren, ↓e_istore, ↓e_astoren, ↓e_astore, ↓e_add, ↓e_iinc, ↓e_iadd, ↓e_isub, ↓e_imul, ↓e_iand, ↓e_ior, ↓e_ixor, ↓e_ishl, ↓e_iushr, ↓e_idiv, ↓e_irem, ↓e_ineg, ↓e_i2l, ↓e_i2b, ↓e_i2s, ↓e_l2i, ↓e_land, ↓e_lor, ↓e_lshl, ↓e_lshr, ↓e_lushr, ↓e_lcmp, ↓e_dupi, ↓e_dupr, ↓e_popi, ↓e_dup2, ↓e_goto, ↓e_if, ↓e_icmp, ↓e_tsw, ↓e_lsw, ↓e_getf, ↓e_putf, ↓e_gets, ↓e_iald, ↓e_cald, ↓e_iast, ↓e_aald, ↓e_aast, ↓e_len, ↓e_copy, ↓e_abs, ↓e_max, ↓e_min, ↓e_iret, ↓e_aret, ↓e_vret, ↓e_is0, ↓e_is1, ↓e_is2, ↓e_is3, ↓e_is4, ↓e_iv1, ↓e_iv2, ↓e_iv3, ↓e_iv4, ↓e_iv5, ↓e_iv6, ↓rt_X1_hearkens, ↓reduceIte, Nat.reduceAdd, Nat.reduceEqDiff, ↓zcl0, ↓zclv, List.map_nil, List.sum_nil, List.map_cons, List.sum_cons, zcat, true_and, and_true, Nat.reduceLeDiff, Nat.reduceAdd, eq_self, forall_const, e_ok0, e_okss, e_ok1i, e_ok1r, e_ok1n, zl_0, zl_4, Int.reduceToNat, Int.reduceAdd, Int.reduceMul, Int.reduceSub, Int.reduceNeg, Int.reduceLT, Int.reduceLE, Int.reduceEq, not_false_eq_true, not_true_eq_false, false_implies, true_implies, implies_true, Int.reduceDiv, Int.reduceMod, zr8_zr, zr_zbo, z01_zbo, z01_0, z01_1, zbo_eq0, zup_eq, zup_o, zup_k, ne_eq, ↓ct_dhk_dlist, ↓r_dlist, ↓B_dlist, ↓ct_dhk_fill, ↓r_fill, ↓B_fill, ↓ct_dhk_pofe, ↓r_pofe, ↓B_pofe, ↓ct_dhk_wofe, ↓r_wofe, ↓B_wofe, ↓vD hb9, ↓gD_0 hb9, ↓gD_1 hb9, ↓gD_2 hb9, ↓gD_3 hb9, ↓gD_4 hb9, ↓gD_5 hb9, ↓gD_6 hb9, ↓gD_7 hb9, ↓gD_8 hb9, ↓gD_9 hb9, ↓pD_5 hb9, ↓pD_6 hb9, ↓pD_7 hb9, ↓pD_8 hb9, ↓pD_9 hb9, ↓lD_v hb9, ↓sD_v hb9, ↓vC hbc, ↓gC_0 hbc, ↓gC_1 hbc, ↓gC_2 hbc, ↓gC_3 hbc, ↓pC_3 hbc, ↓lC_1 hbc, ↓sC_1 hbc, ↓lC_2 hbc, ↓sC_2 hbc, ↓lC_3 hbc, ↓sC_3 hbc, zk, e3, zn, lk]
        refine bs_X1_hearkens_26 hX ?_
        simp only [bk_X1_hearkens_0, k_X1_hearkens_0, bk_X1_hearkens_5, k_X1_hearkens_5, bk_X1_hearkens_15, k_X1_hearkens_15, bk_X1_hearkens_26, k_X1_hearkens_26, bk_X1_hearkens_39, k_X1_hearkens_39, bk_X1_hearkens_68, k_X1_hearkens_68, bk_X1_hearkens_74, k_X1_hearkens_74, bk_X1_hearkens_81, k_X1_hearkens_81, bk_X1_hearkens_109, k_X1_hearkens_109, bk_X1_hearkens_115, k_X1_hearkens_115, ↓e_rk1, ↓e_rk0, ↓e_sk0, ↓e_sks, ↓e_ldi0, ↓e_ldis, ↓e_ldl0, ↓e_ldls, ↓e_lda0, ↓e_ldas, ↓e_ok0, ↓e_okss, ↓e_ok1i, ↓e_ok1r, ↓e_ok1n, ↓e_sti, ↓e_sta, ↓e_1, ↓e_2, ↓e_l1, ↓e_l2, ↓e_li, ↓e_sw0, ↓e_sws, ↓e_ceq, ↓e_cne, ↓e_clt, ↓e_cge, ↓e_cgt, ↓e_cle, ↓e_nil, ↓e_cons, ↓e_iconst, ↓e_bipush, ↓e_sipush, ↓e_ldc, ↓e_ldcw, ↓e_ldc2, ↓e_lconst, ↓e_iloadn, ↓e_iload, ↓e_lloadn, ↓e_lload, ↓e_aloadn, ↓e_aload, ↓e_istoren, ↓e_istore, ↓e_astoren, ↓e_astore, ↓e_add, ↓e_iinc, ↓e_iadd, ↓e_isub, ↓e_imul, ↓e_iand, ↓e_ior, ↓e_ixor, ↓e_ishl, ↓e_iushr, ↓e_idiv, ↓e_irem, ↓e_ineg, ↓e_i2l, ↓e_i2b, ↓e_i2s, ↓e_l2i, ↓e_land, ↓e_lor, ↓e_lshl, ↓e_lshr, ↓e_lushr, ↓e_lcmp, ↓e_dupi, ↓e_dupr, ↓e_popi, ↓e_dup2, ↓e_goto, ↓e_if, ↓e_icmp, ↓e_tsw, ↓e_lsw, ↓e_getf, ↓e_putf, ↓e_gets, ↓e_iald, ↓e_cald, ↓e_iast, ↓e_aald, ↓e_aast, ↓e_len, ↓e_copy, ↓e_abs, ↓e_max, ↓e_min, ↓e_iret, ↓e_aret, ↓e_vret, ↓e_is0, ↓e_is1, ↓e_is2, ↓e_is3, ↓e_is4, ↓e_iv1, ↓e_iv2, ↓e_iv3, ↓e_iv4, ↓e_iv5, ↓e_iv6, ↓rt_X1_hearkens, ↓reduceIte, Nat.reduceAdd, Nat.reduceEqDiff, ↓zcl0, ↓zclv, List.map_nil, List.sum_nil, List.map_cons, List.sum_cons, zcat, true_and, and_true, Nat.reduceLeDiff, Nat.reduceAdd, eq_self, forall_const, e_ok0, e_okss, e_ok1i, e_ok1r, e_ok1n, zl_0, zl_4, Int.reduceToNat, Int.reduceAdd, Int.reduceMul, Int.reduceSub, Int.reduceNeg, Int.reduceLT, Int.reduceLE, Int.reduceEq, not_false_eq_true, not_true_eq_false, false_implies, true_implies, implies_true, Int.reduceDiv, Int.reduceMod, zr8_zr, zr_zbo, z01_zbo, z01_0, z01_1, zbo_eq0, zup_eq, zup_o, zup_k, ne_eq, ↓ct_dhk_dlist, ↓r_dlist, ↓B_dlist, ↓ct_dhk_fill, ↓r_fill, ↓B_fill, ↓ct_dhk_pofe, ↓r_pofe, ↓B_pofe, ↓ct_dhk_wofe, ↓r_wofe, ↓B_wofe, ↓vD hb9, ↓gD_0 hb9, ↓gD_1 hb9, ↓gD_2 hb9, ↓gD_3 hb9, ↓gD_4 hb9, ↓gD_5 hb9, ↓gD_6 hb9, ↓gD_7 hb9, ↓gD_8 hb9, ↓gD_9 hb9, ↓pD_5 hb9, ↓pD_6 hb9, ↓pD_7 hb9, ↓pD_8 hb9, ↓pD_9 hb9, ↓lD_v hb9, ↓sD_v hb9, ↓vC hbc, ↓gC_0 hbc, ↓gC_1 hbc, ↓gC_2 hbc, ↓gC_3 hbc, ↓pC_3 hbc, ↓lC_1 hbc, ↓sC_1 hbc, ↓lC_2 hbc, ↓sC_2 hbc, ↓lC_3 hbc, ↓sC_3 hbc, zk, f3, zs, zq, Int.toNat_natCast]
        repeat' (first | assumption | apply And.intro | intro _)
        all_goals first | omega | (apply ye; assumption) | (apply no9; assumption)
    simp only [bk_X1_hearkens_0, k_X1_hearkens_0, bk_X1_hearkens_5, k_X1_hearkens_5, bk_X1_hearkens_15, k_X1_hearkens_15, bk_X1_hearkens_26, k_X1_hearkens_26, bk_X1_hearkens_39, k_X1_hearkens_39, bk_X1_hearkens_68, k_X1_hearkens_68, bk_X1_hearkens_74, k_X1_hearkens_74, bk_X1_hearkens_81, k_X1_hearkens_81, bk_X1_hearkens_109, k_X1_hearkens_109, bk_X1_hearkens_115, k_X1_hearkens_115, ↓e_rk1, ↓e_rk0, ↓e_sk0, ↓e_sks, ↓e_ldi0, ↓e_ldis, ↓e_ldl0, ↓e_ldls, ↓e_lda0, ↓e_ldas, ↓e_ok0, ↓e_okss, ↓e_ok1i, ↓e_ok1r, ↓e_ok1n, ↓e_sti, ↓e_sta, ↓e_1, ↓e_2, ↓e_l1, ↓e_l2, ↓e_li, ↓e_sw0, ↓e_sws, ↓e_ceq, ↓e_cne, ↓e_clt, ↓e_cge, ↓e_cgt, ↓e_cle, ↓e_nil, ↓e_cons, ↓e_iconst, ↓e_bipush, ↓e_sipush, ↓e_ldc, ↓e_ldcw, ↓e_ldc2, ↓e_lconst, ↓e_iloadn, ↓e_iload, ↓e_lloadn, ↓e_lload, ↓e_aloadn, ↓e_aload, ↓e_istoren, ↓e_istore, ↓e_astoren, ↓e_astore, ↓e_add, ↓e_iinc, ↓e_iadd, ↓e_isub, ↓e_imul, ↓e_iand, ↓e_ior, ↓e_ixor, ↓e_ishl, ↓e_iushr, ↓e_idiv, ↓e_irem, ↓e_ineg, ↓e_i2l, ↓e_i2b, ↓e_i2s, ↓e_l2i, ↓e_land, ↓e_lor, ↓e_lshl, ↓e_lshr, ↓e_lushr, ↓e_lcmp, ↓e_dupi, ↓e_dupr, ↓e_popi, ↓e_dup2, ↓e_goto, ↓e_if, ↓e_icmp, ↓e_tsw, ↓e_lsw, ↓e_getf, ↓e_putf, ↓e_gets, ↓e_iald, ↓e_cald, ↓e_iast, ↓e_aald, ↓e_aast, ↓e_len, ↓e_copy, ↓e_abs, ↓e_max, ↓e_min, ↓e_iret, ↓e_aret, ↓e_vret, ↓e_is0, ↓e_is1, ↓e_is2, ↓e_is3, ↓e_is4, ↓e_iv1, ↓e_iv2, ↓e_iv3, ↓e_iv4, ↓e_iv5, ↓e_iv6, ↓rt_X1_hearkens, ↓reduceIte, Nat.reduceAdd, Nat.reduceEqDiff, ↓zcl0, ↓zclv, List.map_nil, List.sum_nil, List.map_cons, List.sum_cons, zcat, true_and, and_true, Nat.reduceLeDiff, Nat.reduceAdd, eq_self, forall_const, e_ok0, e_okss, e_ok1i, e_ok1r, e_ok1n, zl_0, zl_4, Int.reduceToNat, Int.reduceAdd, Int.reduceMul, Int.reduceSub, Int.reduceNeg, Int.reduceLT, Int.reduceLE, Int.reduceEq, not_false_eq_true, not_true_eq_false, false_implies, true_implies, implies_true, Int.reduceDiv, Int.reduceMod, zr8_zr, zr_zbo, z01_zbo, z01_0, z01_1, zbo_eq0, zup_eq, zup_o, zup_k, ne_eq, ↓ct_dhk_dlist, ↓r_dlist, ↓B_dlist, ↓ct_dhk_fill, ↓r_fill, ↓B_fill, ↓ct_dhk_pofe, ↓r_pofe, ↓B_pofe, ↓ct_dhk_wofe, ↓r_wofe, ↓B_wofe, ↓vD hb9, ↓gD_0 hb9, ↓gD_1 hb9, ↓gD_2 hb9, ↓gD_3 hb9, ↓gD_4 hb9, ↓gD_5 hb9, ↓gD_6 hb9, ↓gD_7 hb9, ↓gD_8 hb9, ↓gD_9 hb9, ↓pD_5 hb9, ↓pD_6 hb9, ↓pD_7 hb9, ↓pD_8 hb9, ↓pD_9 hb9, ↓lD_v hb9, ↓sD_v hb9]
    refine ⟨hq, hh, cc, vv, d9, hb9, H, vd, fun M1 L1 f1 => ?_⟩
    refine bs_X1_hearkens_5 hX ?_
    simp only [bk_X1_hearkens_0, k_X1_hearkens_0, bk_X1_hearkens_5, k_X1_hearkens_5, bk_X1_hearkens_15, k_X1_hearkens_15, bk_X1_hearkens_26, k_X1_hearkens_26, bk_X1_hearkens_39, k_X1_hearkens_39, bk_X1_hearkens_68, k_X1_hearkens_68, bk_X1_hearkens_74, k_X1_hearkens_74, bk_X1_hearkens_81, k_X1_hearkens_81, bk_X1_hearkens_109, k_X1_hearkens_109, bk_X1_hearkens_115, k_X1_hearkens_115, ↓e_rk1, ↓e_rk0, ↓e_sk0, ↓e_sks, ↓e_ldi0, ↓e_ldis, ↓e_ldl0, ↓e_ldls, ↓e_lda0, ↓e_ldas, ↓e_ok0, ↓e_okss, ↓e_ok1i, ↓e_ok1r, ↓e_ok1n, ↓e_sti, ↓e_sta, ↓e_1, ↓e_2, ↓e_l1, ↓e_l2, ↓e_li, ↓e_sw0, ↓e_sws, ↓e_ceq, ↓e_cne, ↓e_clt, ↓e_cge, ↓e_cgt, ↓e_cle, ↓e_nil, ↓e_cons, ↓e_iconst, ↓e_bipush, ↓e_sipush, ↓e_ldc, ↓e_ldcw, ↓e_ldc2, ↓e_lconst, ↓e_iloadn, ↓e_iload, ↓e_lloadn, ↓e_lload, ↓e_aloadn, ↓e_aload, ↓e_istoren, ↓e_istore, ↓e_astoren, ↓e_astore, ↓e_add, ↓e_iinc, ↓e_iadd, ↓e_isub, ↓e_imul, ↓e_iand, ↓e_ior, ↓e_ixor, ↓e_ishl, ↓e_iushr, ↓e_idiv, ↓e_irem, ↓e_ineg, ↓e_i2l, ↓e_i2b, ↓e_i2s, ↓e_l2i, ↓e_land, ↓e_lor, ↓e_lshl, ↓e_lshr, ↓e_lushr, ↓e_lcmp, ↓e_dupi, ↓e_dupr, ↓e_popi, ↓e_dup2, ↓e_goto, ↓e_if, ↓e_icmp, ↓e_tsw, ↓e_lsw, ↓e_getf, ↓e_putf, ↓e_gets, ↓e_iald, ↓e_cald, ↓e_iast, ↓e_aald, ↓e_aast, ↓e_len, ↓e_copy, ↓e_abs, ↓e_max, ↓e_min, ↓e_iret, ↓e_aret, ↓e_vret, ↓e_is0, ↓e_is1, ↓e_is2, ↓e_is3, ↓e_is4, ↓e_iv1, ↓e_iv2, ↓e_iv3, ↓e_iv4, ↓e_iv5, ↓e_iv6, ↓rt_X1_hearkens, ↓reduceIte, Nat.reduceAdd, Nat.reduceEqDiff, ↓zcl0, ↓zclv, List.map_nil, List.sum_nil, List.map_cons, List.sum_cons, zcat, true_and, and_true, Nat.reduceLeDiff, Nat.reduceAdd, eq_self, forall_const, e_ok0, e_okss, e_ok1i, e_ok1r, e_ok1n, zl_0, zl_4, Int.reduceToNat, Int.reduceAdd, Int.reduceMul, Int.reduceSub, Int.reduceNeg, Int.reduceLT, Int.reduceLE, Int.reduceEq, not_false_eq_true, not_true_eq_false, false_implies, true_implies, implies_true, Int.reduceDiv, Int.reduceMod, zr8_zr, zr_zbo, z01_zbo, z01_0, z01_1, zbo_eq0, zup_eq, zup_o, zup_k, ne_eq, ↓ct_dhk_dlist, ↓r_dlist, ↓B_dlist, ↓ct_dhk_fill, ↓r_fill, ↓B_fill, ↓ct_dhk_pofe, ↓r_pofe, ↓B_pofe, ↓ct_dhk_wofe, ↓r_wofe, ↓B_wofe, ↓vD hb9, ↓gD_0 hb9, ↓gD_1 hb9, ↓gD_2 hb9, ↓gD_3 hb9, ↓gD_4 hb9, ↓gD_5 hb9, ↓gD_6 hb9, ↓gD_7 hb9, ↓gD_8 hb9, ↓gD_9 hb9, ↓pD_5 hb9, ↓pD_6 hb9, ↓pD_7 hb9, ↓pD_8 hb9, ↓pD_9 hb9, ↓lD_v hb9, ↓sD_v hb9]
    refine ⟨4, aD_v hb9, by omega, fun M2 e2 f2 => ?_⟩
    refine lp1 n 0 M2 _ (by omega) ?_ (fun w hw => ?_) (fun x q1 q2 q3 => by rw [f2 x q2, f1 x q1])
    · unfold LSt at L1 ⊢
      rw [f2 g (by omega)]
      exact L1
    · rw [e2]
      show (if w < 4 then 0 else _) = _
      rw [if_pos hw]
      rfl
def B_dyear (g : Nat) (M : Nat → Nat → Int) (post : Option ZV → (Nat → Nat → Int) → Prop) : Prop := ∃ (h c v : Nat) (d : Nat → Int) (wo : Int), DG g h c v M d wo ∧ ∀ M2 : ZMm, HR h M2 (yr1 d wo) → (∀ x, (x < h ∨ h + 7 < x) → ¬ x = g → ¬ x = v → ¬ x = 17 → ¬ x = 21 → M2 x = M x) → post none M2
def C_dyear : ZC := fun as h post => match as with
  | [.inr (.inr (.inl g))] => h.1 = zG ∧ B_dyear g h.2 (fun v M => post v (zG, M))
  | _ => False
theorem r_dyear {g : Nat} {M : Nat → Nat → Int} {post : Option ZV → ZH → Prop} : C_dyear [.inr (.inr (.inl g))] (zG, M) post = B_dyear g M (fun v M => post v (zG, M)) := by show (zG = zG ∧ _) = _; simp
def ct_dyear : Nat → ZC := fun n => if n = 5 then C_dhk else if n = 22 then C_hgo else if n = 23 then C_hend else fun _ _ _ => False
theorem ct_dyear_dhk {as : List ZV} {h : ZH} {post : Option ZV → ZH → Prop} : ct_dyear 5 as h post = C_dhk as h post := rfl
theorem ct_dyear_hgo {as : List ZV} {h : ZH} {post : Option ZV → ZH → Prop} : ct_dyear 22 as h post = C_hgo as h post := rfl
theorem ct_dyear_hend {as : List ZV} {h : ZH} {post : Option ZV → ZH → Prop} : ct_dyear 23 as h post = C_hend as h post := rfl
theorem c_dyear {E : ZE} {d : Nat} (hd : 5 ≤ d) : zMet E d mX1_goYear C_dyear := by
  refine zmet_of (o := 1) (ini := false) (CT := ct_dyear) gd_X1_goYear rfl (fun h => by cases h) (by omega) ?_ ?_
  · intro n as h post hh
    unfold ct_dyear at hh
    by_cases c : n = 5
    · subst c; exact ⟨gd_X1_hearkens, 4, by omega, c_dhk (by omega)⟩
    rw [if_neg c] at hh
    by_cases c : n = 22
    · subst c; exact ⟨gd_X2_go, 3, by omega, c_hgo (by omega)⟩
    rw [if_neg c] at hh
    by_cases c : n = 23
    · subst c; exact ⟨gd_X2_endYear, 1, by omega, c_hend (by omega)⟩
    rw [if_neg c] at hh
    exact hh.elim
  intro as h post hC
  match as, hC with
  | [.inr (.inr (.inl g))], hC =>
    refine ⟨Nat.le_of_ble_eq_true rfl, fun X hX => bs_X1_goYear_0 hX ?_⟩
    obtain ⟨G, M⟩ := h
    obtain ⟨hG, hC⟩ := hC
    dsimp only at hG
    subst hG
    simp only [B_dyear] at hC
    show bk_X1_goYear_0 E ct_dyear X _ [some (.inr (.inr (.inl g))), none, none] [] (zG, M) (0, 0)
    obtain ⟨hh, cc, vv, d9, wo, D, hC⟩ := hC
    have D9 := D
    obtain ⟨hb9, H, C, L14, L18, vd⟩ := D
    have hbh := hD hb9
    have sep : ¬ g = vv ∧ ¬ g = 17 ∧ ¬ vv = 17 ∧ (g < hh ∨ hh + 7 < g) ∧ (vv < hh ∨ hh + 7 < vv) ∧ (17 < hh ∨ hh + 7 < 15) ∧ (21 < hh ∨ hh + 7 < 15) ∧ (cc + 3 < g ∨ g < cc) ∧ (cc + 3 < vv ∨ vv < cc) ∧ (cc + 3 < 15 ∨ 21 < cc) ∧ (21 < g) ∧ (21 < vv) ∧ (cc + 3 < hh ∨ hh + 7 < cc) := by
      rcases hb9 with ⟨e1, e2, e3, e4⟩ | ⟨e1, e2, e3, e4⟩ <;> subst e1 <;> subst e2 <;> subst e3 <;> subst e4 <;> omega
    have q0 := (Vd_hi vd (e := 0) (by omega) (by omega)).1
    have q1 := (Vd_hi vd (e := 1) (by omega) (by omega)).1
    have a0 : M (hh + 3) 0 = hi4 d9 0 0 := (H.at (g := 0) (by omega) (by omega)).1
    have a1 : M (hh + 3) 1 = hi4 d9 1 0 := (H.at (g := 1) (by omega) (by omega)).1
    have z0 : zr (hi4 d9 0 0) = hi4 d9 0 0 := zr_of (by omega) (by omega)
    have z1 : zr (hi4 d9 1 0) = hi4 d9 1 0 := zr_of (by omega) (by omega)
    have fz := fr_zero q0.1 q0.2 q1.1 q1.2
    have frr := fr_rng q0.1 q0.2 q1.1 q1.2
    have J59 : ∀ (M1 : ZMm) (x1 x2 : Option ZV), HR hh M1 (yr0 d9 wo) → (∀ x, (x < hh ∨ hh + 7 < x) → ¬ x = g → ¬ x = vv → ¬ x = 17 → ¬ x = 21 → M1 x = M x) → X 59 [some (.inr (.inr (.inl g))), x1, x2] [] (zG, M1) (0, 0) := by
      intro M1 x1 x2 H1 f1
      refine bs_X1_goYear_59 hX ?_
      simp only [bk_X1_goYear_0, k_X1_goYear_0, bk_X1_goYear_21, k_X1_goYear_21, bk_X1_goYear_33, k_X1_goYear_33, bk_X1_goYear_59, k_X1_goYear_59, ↓e_rk1, ↓e_rk0, ↓e_sk0, ↓e_sks, ↓e_ldi0, ↓e_ldis, ↓e_ldl0, ↓e_ldls, ↓e_lda0, ↓e_ldas, ↓e_ok0, ↓e_okss, ↓e_ok1i, ↓e_ok1r, ↓e_ok1n, ↓e_sti, ↓e_sta, ↓e_1, ↓e_2, ↓e_l1, ↓e_l2, ↓e_li, ↓e_sw0, ↓e_sws, ↓e_ceq, ↓e_cne, ↓e_clt, ↓e_cge, ↓e_cgt, ↓e_cle, ↓e_nil, ↓e_cons, ↓e_iconst, ↓e_bipush, ↓e_sipush, ↓e_ldc, ↓e_ldcw, ↓e_ldc2, ↓e_lconst, ↓e_iloadn, ↓e_iload, ↓e_lloadn, ↓e_lload, ↓e_aloadn, ↓e_aload, ↓e_istoren, ↓e_istore, ↓e_astoren, ↓e_astore, ↓e_add, ↓e_iinc, ↓e_iadd, ↓e_isub, ↓e_imul, ↓e_iand, ↓e_ior, ↓e_ixor, ↓e_ishl, ↓e_iushr, ↓e_idiv, ↓e_irem, ↓e_ineg, ↓e_i2l, ↓e_i2b, ↓e_i2s, ↓e_l2i, ↓e_land, ↓e_lor, ↓e_lshl, ↓e_lshr, ↓e_lushr, ↓e_lcmp, ↓e_dupi, ↓e_dupr, ↓e_popi, ↓e_dup2, ↓e_goto, ↓e_if, ↓e_icmp, ↓e_tsw, ↓e_lsw, ↓e_getf, ↓e_putf, ↓e_gets, ↓e_iald, ↓e_cald, ↓e_iast, ↓e_aald, ↓e_aast, ↓e_len, ↓e_copy, ↓e_abs, ↓e_max, ↓e_min, ↓e_iret, ↓e_aret, ↓e_vret, ↓e_is0, ↓e_is1, ↓e_is2, ↓e_is3, ↓e_is4, ↓e_iv1, ↓e_iv2, ↓e_iv3, ↓e_iv4, ↓e_iv5, ↓e_iv6, ↓rt_X1_goYear, ↓reduceIte, Nat.reduceAdd, Nat.reduceEqDiff, ↓zcl0, ↓zclv, List.map_nil, List.sum_nil, List.map_cons, List.sum_cons, zcat, true_and, and_true, Nat.reduceLeDiff, Nat.reduceAdd, eq_self, forall_const, e_ok0, e_okss, e_ok1i, e_ok1r, e_ok1n, zl_0, zl_1, Int.reduceToNat, Int.reduceAdd, Int.reduceMul, Int.reduceSub, Int.reduceNeg, Int.reduceLT, Int.reduceLE, Int.reduceEq, not_false_eq_true, not_true_eq_false, false_implies, true_implies, implies_true, Int.reduceDiv, Int.reduceMod, zr8_zr, zr_zbo, z01_zbo, z01_0, z01_1, zbo_eq0, zup_eq, zup_o, zup_k, ne_eq, ↓ct_dyear_dhk, ↓r_dhk, ↓B_dhk, ↓ct_dyear_hgo, ↓r_hgo, ↓B_hgo, ↓ct_dyear_hend, ↓r_hend, ↓B_hend, ↓vD hb9, ↓gD_0 hb9, ↓gD_1 hb9, ↓gD_2 hb9, ↓gD_3 hb9, ↓gD_4 hb9, ↓gD_5 hb9, ↓gD_6 hb9, ↓gD_7 hb9, ↓gD_8 hb9, ↓gD_9 hb9, ↓pD_5 hb9, ↓pD_6 hb9, ↓pD_7 hb9, ↓pD_8 hb9, ↓pD_9 hb9, ↓lD_v hb9, ↓sD_v hb9, ↓vH hbh, ↓gH_0 hbh, ↓gH_1 hbh, ↓gH_2 hbh, ↓gH_3 hbh, ↓gH_4 hbh, ↓gH_5 hbh, ↓gH_6 hbh, ↓gH_7 hbh, ↓gH_8 hbh, ↓gH_9 hbh, ↓pH_7 hbh, ↓pH_8 hbh, ↓pH_9 hbh, ↓lH_1 hbh, ↓sH_1 hbh, ↓lH_2 hbh, ↓sH_2 hbh, ↓lH_3 hbh, ↓sH_3 hbh, ↓lH_4 hbh, ↓sH_4 hbh, ↓lH_5 hbh, ↓sH_5 hbh, ↓lH_6 hbh, ↓sH_6 hbh, ↓lH_7 hbh, ↓sH_7 hbh]
      exact ⟨hbh, yr0 d9 wo, H1, fun M2 H2 f2 => hC M2 H2 (fun x p1 p2 p3 p4 p5 => by rw [f2 x p1, f1 x p1 p2 p3 p4 p5])⟩
    have J21 : ¬ hi4 d9 0 0 = hi4 d9 1 0 → X 21 [some (.inr (.inr (.inl g))), none, none] [] (zG, M) (0, 0) := by
      intro ne
      have ey : yr0 d9 wo = gos (gos d9 0 (hk d9 wo 0)) 1 (hk d9 wo 1) := by
        unfold yr0
        rw [if_pos (by omega)]
      have r0 := hk_rng (d := d9) (wo := wo) (h := 0) vd.1
      have r1 := hk_rng (d := d9) (wo := wo) (h := 1) vd.1
      refine bs_X1_goYear_21 hX ?_
      simp only [bk_X1_goYear_0, k_X1_goYear_0, bk_X1_goYear_21, k_X1_goYear_21, bk_X1_goYear_33, k_X1_goYear_33, bk_X1_goYear_59, k_X1_goYear_59, ↓e_rk1, ↓e_rk0, ↓e_sk0, ↓e_sks, ↓e_ldi0, ↓e_ldis, ↓e_ldl0, ↓e_ldls, ↓e_lda0, ↓e_ldas, ↓e_ok0, ↓e_okss, ↓e_ok1i, ↓e_ok1r, ↓e_ok1n, ↓e_sti, ↓e_sta, ↓e_1, ↓e_2, ↓e_l1, ↓e_l2, ↓e_li, ↓e_sw0, ↓e_sws, ↓e_ceq, ↓e_cne, ↓e_clt, ↓e_cge, ↓e_cgt, ↓e_cle, ↓e_nil, ↓e_cons, ↓e_iconst, ↓e_bipush, ↓e_sipush, ↓e_ldc, ↓e_ldcw, ↓e_ldc2, ↓e_lconst, ↓e_iloadn, ↓e_iload, ↓e_lloadn, ↓e_lload, ↓e_aloadn, ↓e_aload, ↓e_istoren, ↓e_istore, ↓e_astoren, ↓e_astore, ↓e_add, ↓e_iinc, ↓e_iadd, ↓e_isub, ↓e_imul, ↓e_iand, ↓e_ior, ↓e_ixor, ↓e_ishl, ↓e_iushr, ↓e_idiv, ↓e_irem, ↓e_ineg, ↓e_i2l, ↓e_i2b, ↓e_i2s, ↓e_l2i, ↓e_land, ↓e_lor, ↓e_lshl, ↓e_lshr, ↓e_lushr, ↓e_lcmp, ↓e_dupi, ↓e_dupr, ↓e_popi, ↓e_dup2, ↓e_goto, ↓e_if, ↓e_icmp, ↓e_tsw, ↓e_lsw, ↓e_getf, ↓e_putf, ↓e_gets, ↓e_iald, ↓e_cald, ↓e_iast, ↓e_aald, ↓e_aast, ↓e_len, ↓e_copy, ↓e_abs, ↓e_max, ↓e_min, ↓e_iret, ↓e_aret, ↓e_vret, ↓e_is0, ↓e_is1, ↓e_is2, ↓e_is3, ↓e_is4, ↓e_iv1, ↓e_iv2, ↓e_iv3, ↓e_iv4, ↓e_iv5, ↓e_iv6, ↓rt_X1_goYear, ↓reduceIte, Nat.reduceAdd, Nat.reduceEqDiff, ↓zcl0, ↓zclv, List.map_nil, List.sum_nil, List.map_cons, List.sum_cons, zcat, true_and, and_true, Nat.reduceLeDiff, Nat.reduceAdd, eq_self, forall_const, e_ok0, e_okss, e_ok1i, e_ok1r, e_ok1n, zl_0, zl_1, Int.reduceToNat, Int.reduceAdd, Int.reduceMul, Int.reduceSub, Int.reduceNeg, Int.reduceLT, Int.reduceLE, Int.reduceEq, not_false_eq_true, not_true_eq_false, false_implies, true_implies, implies_true, Int.reduceDiv, Int.reduceMod, zr8_zr, zr_zbo, z01_zbo, z01_0, z01_1, zbo_eq0, zup_eq, zup_o, zup_k, ne_eq, ↓ct_dyear_dhk, ↓r_dhk, ↓B_dhk, ↓ct_dyear_hgo, ↓r_hgo, ↓B_hgo, ↓ct_dyear_hend, ↓r_hend, ↓B_hend, ↓vD hb9, ↓gD_0 hb9, ↓gD_1 hb9, ↓gD_2 hb9, ↓gD_3 hb9, ↓gD_4 hb9, ↓gD_5 hb9, ↓gD_6 hb9, ↓gD_7 hb9, ↓gD_8 hb9, ↓gD_9 hb9, ↓pD_5 hb9, ↓pD_6 hb9, ↓pD_7 hb9, ↓pD_8 hb9, ↓pD_9 hb9, ↓lD_v hb9, ↓sD_v hb9]
      refine ⟨hh, cc, vv, d9, wo, D9, fun M1 f1 => ⟨hh, cc, vv, d9, wo, ?_, fun M2 f2 => ?_⟩⟩
      · refine ⟨hb9, HR_cg H (fun x p1 p2 => f1 x (by omega) (by omega) (by omega)) (fun _ _ => rfl), CR_cg C (fun x p1 p2 => f1 x (by omega) (by omega) (by omega)) (fun _ _ => rfl), LR_cg L14 (vd.2.2.2.2.2.2.2.2.2.2.1.2.1) (by omega) (fun x p1 p2 => f1 x (by omega) (by omega) (by omega)) (fun _ _ => rfl), LR_cg L18 (vd.2.2.2.2.2.2.2.2.2.2.2.2.1) (by omega) (fun x p1 p2 => f1 x (by omega) (by omega) (by omega)) (fun _ _ => rfl), vd⟩
      have g2 : ∀ x, ¬ x = g → ¬ x = vv → ¬ x = 17 → M2 x = M x := fun x p1 p2 p3 => by rw [f2 x p1 p2 p3, f1 x p1 p2 p3]
      have H2 : HR hh M2 d9 := HR_cg H (fun x p1 p2 => g2 x (by omega) (by omega) (by omega)) (fun _ _ => rfl)
      have L2 : LR 18 M2 d9 1 := LR_cg L18 (vd.2.2.2.2.2.2.2.2.2.2.2.2.1) (by omega) (fun x p1 p2 => g2 x (by omega) (by omega) (by omega)) (fun _ _ => rfl)
      have vg := Vd_gos vd (g := 0) (w := hk d9 wo 0) (by omega) (by omega) r0.1 r0.2
      have hq0 := (Vd_hi vd (e := 0) (by omega) (by omega)).1
      refine bs_X1_goYear_33 hX ?_
      simp only [bk_X1_goYear_0, k_X1_goYear_0, bk_X1_goYear_21, k_X1_goYear_21, bk_X1_goYear_33, k_X1_goYear_33, bk_X1_goYear_59, k_X1_goYear_59, ↓e_rk1, ↓e_rk0, ↓e_sk0, ↓e_sks, ↓e_ldi0, ↓e_ldis, ↓e_ldl0, ↓e_ldls, ↓e_lda0, ↓e_ldas, ↓e_ok0, ↓e_okss, ↓e_ok1i, ↓e_ok1r, ↓e_ok1n, ↓e_sti, ↓e_sta, ↓e_1, ↓e_2, ↓e_l1, ↓e_l2, ↓e_li, ↓e_sw0, ↓e_sws, ↓e_ceq, ↓e_cne, ↓e_clt, ↓e_cge, ↓e_cgt, ↓e_cle, ↓e_nil, ↓e_cons, ↓e_iconst, ↓e_bipush, ↓e_sipush, ↓e_ldc, ↓e_ldcw, ↓e_ldc2, ↓e_lconst, ↓e_iloadn, ↓e_iload, ↓e_lloadn, ↓e_lload, ↓e_aloadn, ↓e_aload, ↓e_istoren, ↓e_istore, ↓e_astoren, ↓e_astore, ↓e_add, ↓e_iinc, ↓e_iadd, ↓e_isub, ↓e_imul, ↓e_iand, ↓e_ior, ↓e_ixor, ↓e_ishl, ↓e_iushr, ↓e_idiv, ↓e_irem, ↓e_ineg, ↓e_i2l, ↓e_i2b, ↓e_i2s, ↓e_l2i, ↓e_land, ↓e_lor, ↓e_lshl, ↓e_lshr, ↓e_lushr, ↓e_lcmp, ↓e_dupi, ↓e_dupr, ↓e_popi, ↓e_dup2, ↓e_goto, ↓e_if, ↓e_icmp, ↓e_tsw, ↓e_lsw, ↓e_getf, ↓e_putf, ↓e_gets, ↓e_iald, ↓e_cald, ↓e_iast, ↓e_aald, ↓e_aast, ↓e_len, ↓e_copy, ↓e_abs, ↓e_max, ↓e_min, ↓e_iret, ↓e_aret, ↓e_vret, ↓e_is0, ↓e_is1, ↓e_is2, ↓e_is3, ↓e_is4, ↓e_iv1, ↓e_iv2, ↓e_iv3, ↓e_iv4, ↓e_iv5, ↓e_iv6, ↓rt_X1_goYear, ↓reduceIte, Nat.reduceAdd, Nat.reduceEqDiff, ↓zcl0, ↓zclv, List.map_nil, List.sum_nil, List.map_cons, List.sum_cons, zcat, true_and, and_true, Nat.reduceLeDiff, Nat.reduceAdd, eq_self, forall_const, e_ok0, e_okss, e_ok1i, e_ok1r, e_ok1n, zl_0, zl_1, Int.reduceToNat, Int.reduceAdd, Int.reduceMul, Int.reduceSub, Int.reduceNeg, Int.reduceLT, Int.reduceLE, Int.reduceEq, not_false_eq_true, not_true_eq_false, false_implies, true_implies, implies_true, Int.reduceDiv, Int.reduceMod, zr8_zr, zr_zbo, z01_zbo, z01_0, z01_1, zbo_eq0, zup_eq, zup_o, zup_k, ne_eq, ↓ct_dyear_dhk, ↓r_dhk, ↓B_dhk, ↓ct_dyear_hgo, ↓r_hgo, ↓B_hgo, ↓ct_dyear_hend, ↓r_hend, ↓B_hend, ↓vD hb9, ↓gD_0 hb9, ↓gD_1 hb9, ↓gD_2 hb9, ↓gD_3 hb9, ↓gD_4 hb9, ↓gD_5 hb9, ↓gD_6 hb9, ↓gD_7 hb9, ↓gD_8 hb9, ↓gD_9 hb9, ↓pD_5 hb9, ↓pD_6 hb9, ↓pD_7 hb9, ↓pD_8 hb9, ↓pD_9 hb9, ↓lD_v hb9, ↓sD_v hb9, ↓vH hbh, ↓gH_0 hbh, ↓gH_1 hbh, ↓gH_2 hbh, ↓gH_3 hbh, ↓gH_4 hbh, ↓gH_5 hbh, ↓gH_6 hbh, ↓gH_7 hbh, ↓gH_8 hbh, ↓gH_9 hbh, ↓pH_7 hbh, ↓pH_8 hbh, ↓pH_9 hbh, ↓lH_1 hbh, ↓sH_1 hbh, ↓lH_2 hbh, ↓sH_2 hbh, ↓lH_3 hbh, ↓sH_3 hbh, ↓lH_4 hbh, ↓sH_4 hbh, ↓lH_5 hbh, ↓sH_5 hbh, ↓lH_6 hbh, ↓sH_6 hbh, ↓lH_7 hbh, ↓sH_7 hbh]
      refine ⟨hbh, r0, d9, H2, vd, L2, fun M3 H3 f3 => ⟨hbh, r1, gos d9 0 (hk d9 wo 0), H3, vg, ?_, fun M4 H4 f4 => ?_⟩⟩
      · exact LR_cg L2 (vd.2.2.2.2.2.2.2.2.2.2.2.2.1) (by omega) (fun x p1 p2 => f3 x (by omega) (by omega)) (fun k hk9 => gos_hi d9 (by omega) (by omega) hq0.1 hq0.2 (by omega))
      · refine J59 M4 _ _ (by rw [ey]; exact H4) (fun x p1 p2 p3 p4 p5 => by rw [f4 x p1 p5, f3 x p1 p5, g2 x p2 p3 p4])
    simp only [bk_X1_goYear_0, k_X1_goYear_0, bk_X1_goYear_21, k_X1_goYear_21, bk_X1_goYear_33, k_X1_goYear_33, bk_X1_goYear_59, k_X1_goYear_59, ↓e_rk1, ↓e_rk0, ↓e_sk0, ↓e_sks, ↓e_ldi0, ↓e_ldis, ↓e_ldl0, ↓e_ldls, ↓e_lda0, ↓e_ldas, ↓e_ok0, ↓e_okss, ↓e_ok1i, ↓e_ok1r, ↓e_ok1n, ↓e_sti, ↓e_sta, ↓e_1, ↓e_2, ↓e_l1, ↓e_l2, ↓e_li, ↓e_sw0, ↓e_sws, ↓e_ceq, ↓e_cne, ↓e_clt, ↓e_cge, ↓e_cgt, ↓e_cle, ↓e_nil, ↓e_cons, ↓e_iconst, ↓e_bipush, ↓e_sipush, ↓e_ldc, ↓e_ldcw, ↓e_ldc2, ↓e_lconst, ↓e_iloadn, ↓e_iload, ↓e_lloadn, ↓e_lload, ↓e_aloadn, ↓e_aload, ↓e_istoren, ↓e_istore, ↓e_astoren, ↓e_astore, ↓e_add, ↓e_iinc, ↓e_iadd, ↓e_isub, ↓e_imul, ↓e_iand, ↓e_ior, ↓e_ixor, ↓e_ishl, ↓e_iushr, ↓e_idiv, ↓e_irem, ↓e_ineg, ↓e_i2l, ↓e_i2b, ↓e_i2s, ↓e_l2i, ↓e_land, ↓e_lor, ↓e_lshl, ↓e_lshr, ↓e_lushr, ↓e_lcmp, ↓e_dupi, ↓e_dupr, ↓e_popi, ↓e_dup2, ↓e_goto, ↓e_if, ↓e_icmp, ↓e_tsw, ↓e_lsw, ↓e_getf, ↓e_putf, ↓e_gets, ↓e_iald, ↓e_cald, ↓e_iast, ↓e_aald, ↓e_aast, ↓e_len, ↓e_copy, ↓e_abs, ↓e_max, ↓e_min, ↓e_iret, ↓e_aret, ↓e_vret, ↓e_is0, ↓e_is1, ↓e_is2, ↓e_is3, ↓e_is4, ↓e_iv1, ↓e_iv2, ↓e_iv3, ↓e_iv4, ↓e_iv5, ↓e_iv6, ↓rt_X1_goYear, ↓reduceIte, Nat.reduceAdd, Nat.reduceEqDiff, ↓zcl0, ↓zclv, List.map_nil, List.sum_nil, List.map_cons, List.sum_cons, zcat, true_and, and_true, Nat.reduceLeDiff, Nat.reduceAdd, eq_self, forall_const, e_ok0, e_okss, e_ok1i, e_ok1r, e_ok1n, zl_0, zl_1, Int.reduceToNat, Int.reduceAdd, Int.reduceMul, Int.reduceSub, Int.reduceNeg, Int.reduceLT, Int.reduceLE, Int.reduceEq, not_false_eq_true, not_true_eq_false, false_implies, true_implies, implies_true, Int.reduceDiv, Int.reduceMod, zr8_zr, zr_zbo, z01_zbo, z01_0, z01_1, zbo_eq0, zup_eq, zup_o, zup_k, ne_eq, ↓ct_dyear_dhk, ↓r_dhk, ↓B_dhk, ↓ct_dyear_hgo, ↓r_hgo, ↓B_hgo, ↓ct_dyear_hend, ↓r_hend, ↓B_hend, ↓vD hb9, ↓gD_0 hb9, ↓gD_1 hb9, ↓gD_2 hb9, ↓gD_3 hb9, ↓gD_4 hb9, ↓gD_5 hb9, ↓gD_6 hb9, ↓gD_7 hb9, ↓gD_8 hb9, ↓gD_9 hb9, ↓pD_5 hb9, ↓pD_6 hb9, ↓pD_7 hb9, ↓pD_8 hb9, ↓pD_9 hb9, ↓lD_v hb9, ↓sD_v hb9, ↓vH hbh, ↓gH_0 hbh, ↓gH_1 hbh, ↓gH_2 hbh, ↓gH_3 hbh, ↓gH_4 hbh, ↓gH_5 hbh, ↓gH_6 hbh, ↓gH_7 hbh, ↓gH_8 hbh, ↓gH_9 hbh, ↓pH_7 hbh, ↓pH_8 hbh, ↓pH_9 hbh, ↓lH_1 hbh, ↓sH_1 hbh, ↓lH_2 hbh, ↓sH_2 hbh, ↓lH_3 hbh, ↓sH_3 hbh, ↓lH_4 hbh, ↓sH_4 hbh, ↓lH_5 hbh, ↓sH_5 hbh, ↓lH_6 hbh, ↓sH_6 hbh, ↓lH_7 hbh, ↓sH_7 hbh, a0, a1, z0, z1]
    refine ⟨fun e => ?_, fun e => ?_⟩
    · first | exact J21 e | exact J59 M _ _ (by unfold yr0; rw [if_neg (by omega)]; exact H) (fun x _ _ _ _ _ => rfl)
    · first | exact J21 e | exact J59 M _ _ (by unfold yr0; rw [if_neg (by omega)]; exact H) (fun x _ _ _ _ _ => rfl)
