/-! THE CLASS: a tape read -/
def k_X4_read_0 : List ZI := [(.aload_n 0, 1, (0, [0], [])), (.iload_n 1, 1, (0, [1], [])), (.putfield 23, 3, (0, [4, 2], [])), (.aload_n 0, 1, (0, [0], [])), (.iconst 0, 1, (0, [], [])), (.putfield 27, 3, (0, [4, 3], [])), (.aload_n 0, 1, (0, [0], [])), (.iconst (-1), 1, (0, [], [])), (.putfield 30, 3, (0, [4, 4], [])), (.aload_n 0, 1, (0, [0], [])), (.getfield 14, 3, (0, [4, 0], [])), (.iconst 0, 1, (0, [], [])), (.putfield 33, 3, (0, [5, 1], [])), (.aload_n 0, 1, (0, [0], [])), (.iconst 0, 1, (0, [], [])), (.iconst 0, 1, (0, [], [])), (.invokevirtual 36, 3, (0, [31, 3, 0, 4], []))]
theorem ok_X4_read_0 : zOK cX4_read 4 false 2 k_X4_read_0 0 = true := zOK_by (by decide +kernel)
def k_X4_read_29 : List ZI := [(.aload_n 0, 1, (0, [0], [])), (.getfield 27, 3, (0, [4, 3], [])), (.aload_n 0, 1, (0, [0], [])), (.getfield 20, 3, (0, [4, 1], [])), (.getfield 33, 3, (0, [5, 1], [])), (.if_icmp .ge 7, 3, (0, [47], []))]
theorem ok_X4_read_29 : zOK cX4_read 4 false 2 k_X4_read_29 29 = true := zOK_by (by decide +kernel)
def k_X4_read_43 : List ZI := [(.aload_n 0, 1, (0, [0], [])), (.invokevirtual 40, 3, (0, [36, 1, 0, 4], []))]
theorem ok_X4_read_43 : zOK cX4_read 4 false 2 k_X4_read_43 43 = true := zOK_by (by decide +kernel)
def k_X4_read_47 : List ZI := [(.aload_n 0, 1, (0, [0], [])), (.getfield 30, 3, (0, [4, 4], [])), (.ireturn, 1, (0, [], []))]
theorem ok_X4_read_47 : zOK cX4_read 4 false 2 k_X4_read_47 47 = true := zOK_by (by decide +kernel)
theorem rt_X4_read {g : Nat} {post : Option ZV → ZH → Prop} {h : ZH} {b : ZB2} {z : Int} : zRt mX4_read g post (some (.inl z)) h b = (post (some (.inl z)) h ∧ h.1.length = g) := by show (_ ∧ _ ∧ True) = _; simp
def bk_X4_read_0 (E : ZE) (CT : Nat → ZC) (X : ZK) (Rt : ZR) (ls : ZL) (st : List ZV) (h : ZH) (b : ZB2) : Prop := zB E CT k_X4_read_0 0 ls st h b (fun t ls st h b => X t ls st h b) Rt
theorem bs_X4_read_0 {E : ZE} {CT : Nat → ZC} {X : ZK} {Rt : ZR} {ls : ZL} {st : List ZV} {h : ZH} {b : ZB2} (hX : zCl E mX4_read 4 false CT Rt X) (q : bk_X4_read_0 E CT X Rt ls st h b) : X 0 ls st h b := by
  refine hX k_X4_read_0 0 ok_X4_read_0 _ ?_ ls st h b q
  exact fun t ls st h b q => q
def bk_X4_read_29 (E : ZE) (CT : Nat → ZC) (X : ZK) (Rt : ZR) (ls : ZL) (st : List ZV) (h : ZH) (b : ZB2) : Prop := zB E CT k_X4_read_29 29 ls st h b (fun t ls st h b => X t ls st h b) Rt
theorem bs_X4_read_29 {E : ZE} {CT : Nat → ZC} {X : ZK} {Rt : ZR} {ls : ZL} {st : List ZV} {h : ZH} {b : ZB2} (hX : zCl E mX4_read 4 false CT Rt X) (q : bk_X4_read_29 E CT X Rt ls st h b) : X 29 ls st h b := by
  refine hX k_X4_read_29 29 ok_X4_read_29 _ ?_ ls st h b q
  exact fun t ls st h b q => q
def bk_X4_read_43 (E : ZE) (CT : Nat → ZC) (X : ZK) (Rt : ZR) (ls : ZL) (st : List ZV) (h : ZH) (b : ZB2) : Prop := zB E CT k_X4_read_43 43 ls st h b (fun t ls st h b => X t ls st h b) Rt
theorem bs_X4_read_43 {E : ZE} {CT : Nat → ZC} {X : ZK} {Rt : ZR} {ls : ZL} {st : List ZV} {h : ZH} {b : ZB2} (hX : zCl E mX4_read 4 false CT Rt X) (q : bk_X4_read_43 E CT X Rt ls st h b) : X 43 ls st h b := by
  refine hX k_X4_read_43 43 ok_X4_read_43 _ ?_ ls st h b q
  exact fun t ls st h b q => q
def bk_X4_read_47 (E : ZE) (CT : Nat → ZC) (X : ZK) (Rt : ZR) (ls : ZL) (st : List ZV) (h : ZH) (b : ZB2) : Prop := zB E CT k_X4_read_47 47 ls st h b (fun t ls st h b => X t ls st h b) Rt
theorem bs_X4_read_47 {E : ZE} {CT : Nat → ZC} {X : ZK} {Rt : ZR} {ls : ZL} {st : List ZV} {h : ZH} {b : ZB2} (hX : zCl E mX4_read 4 false CT Rt X) (q : bk_X4_read_47 E CT X Rt ls st h b) : X 47 ls st h b := by
  refine hX k_X4_read_47 47 ok_X4_read_47 _ ?_ ls st h b q
  exact fun t ls st h b q => q
-- X4_read: cuts [29, 43, 47]
theorem c_uni0 {E : ZE} {d : Nat} : zMet E d mX4_readUnit (C_uni 0) := by
  intro as h post hC
  match as, hC with
  | [.inr (.inr (.inl 67)), .inl q], hC =>
    obtain ⟨_, r9, ⟨_, _, hi⟩, _⟩ := hC
    omega
theorem c_lev0 {E : ZE} {d : Nat} : zMet E d mX4_readLevel (C_lev 0) := by
  intro as h post hC
  match as, hC with
  | [.inr (.inr (.inl 67)), .inl l, .inl q], hC =>
    obtain ⟨_, r9, j, ⟨_, _, _, _, hi⟩, _⟩ := hC
    omega
theorem c_ulA {E : ZE} : ∀ (r d : Nat), 4 + r ≤ d → zMet E d mX4_readUnit (C_uni r) ∧ zMet E d mX4_readLevel (C_lev r)
  | 0, d, _ => ⟨c_uni0, c_lev0⟩
  | r + 1, d, h => ⟨c_uniS (by omega) ⟨d - 1, by omega, (c_ulA r (d - 1) (by omega)).1⟩ ⟨d - 1, by omega, (c_ulA r (d - 1) (by omega)).2⟩, c_levS (by omega) ⟨d - 1, by omega, (c_ulA r (d - 1) (by omega)).1⟩ ⟨d - 1, by omega, (c_ulA r (d - 1) (by omega)).2⟩⟩
def B_red (r : Nat) (u : Int) (M : Nat → Nat → Int) (post : Option ZV → (Nat → Nat → Int) → Prop) : Prop := (u = 0 ∨ u = 1) ∧ ∃ (T : Nat → Int) (n : Nat), n ≤ 50 ∧ M 22 1 = n ∧ (∀ k, k < n → M 23 k = T k ∧ rg (T k)) ∧ ∀ M2 : ZMm, Rd T n u M2 (prd T n u) → Fdq M M2 → post (some (.inl (prd T n u).2.1)) M2
def C_red (r : Nat) : ZC := fun as h post => match as with
  | [.inr (.inr (.inl 67)), .inl u] => h.1 = zG ∧ B_red r u h.2 (fun v M => post v (zG, M))
  | _ => False
theorem r_red {r : Nat} {u : Int} {M : Nat → Nat → Int} {post : Option ZV → ZH → Prop} : C_red r [.inr (.inr (.inl 67)), .inl u] (zG, M) post = B_red r u M (fun v M => post v (zG, M)) := by show (zG = zG ∧ _) = _; simp
def ct_red (r : Nat) : Nat → ZC := fun n => if n = 36 then C_rfh else if n = 31 then C_lev (42) else fun _ _ _ => False
theorem ct_red_rfh {r : Nat} {as : List ZV} {h : ZH} {post : Option ZV → ZH → Prop} : ct_red r 36 as h post = C_rfh as h post := rfl
theorem ct_red_lev {r : Nat} {as : List ZV} {h : ZH} {post : Option ZV → ZH → Prop} : ct_red r 31 as h post = C_lev (42) as h post := rfl
theorem c_red {E : ZE} {d : Nat} {r : Nat} (hd : 2 ≤ d) (i_lev : ∃ d', d' < d ∧ zMet E d' mX4_readLevel (C_lev (42))) : zMet E d mX4_read (C_red (r)) := by
  refine zmet_of (o := 4) (ini := false) (CT := ct_red r) gd_X4_read rfl (fun h => by cases h) (by omega) ?_ ?_
  · intro n as h post hh
    unfold ct_red at hh
    by_cases c : n = 36
    · subst c; exact ⟨gd_X4_failHere, 1, by omega, c_rfh (by omega)⟩
    rw [if_neg c] at hh
    by_cases c : n = 31
    · subst c; exact ⟨gd_X4_readLevel, i_lev⟩
    rw [if_neg c] at hh
    exact hh.elim
  intro as h post hC
  match as, hC with
  | [.inr (.inr (.inl 67)), .inl u], hC =>
    refine ⟨Nat.le_of_ble_eq_true rfl, fun X hX => bs_X4_read_0 hX ?_⟩
    obtain ⟨G, M⟩ := h
    obtain ⟨hG, hC⟩ := hC
    dsimp only at hG
    subst hG
    simp only [B_red] at hC
    show bk_X4_read_0 E (ct_red r) X _ [some (.inr (.inr (.inl 67))), some (.inl u)] [] (zG, M) (0, 0)
    obtain ⟨hu, T, n, hn, e1, e2, hC⟩ := hC
    obtain ⟨x, hx⟩ : ∃ x, pvT T n (pnt T n u 5) (0, -1, []) = x := ⟨_, rfl⟩
    have ep : prd T n u = if x.2.1 < 0 ∧ x.1 < n then wrg x else x := by unfold prd; rw [hx]
    have J47 : ∀ M2 : ZMm, Rd T n u M2 (prd T n u) → Fdq M M2 → X 47 [some (.inr (.inr (.inl 67))), some (.inl u)] [] (zG, M2) (0, 0) := by
      intro M2 a b
      have e4 := a.2.2.1
      refine bs_X4_read_47 hX ?_
      simp only [bk_X4_read_0, k_X4_read_0, bk_X4_read_29, k_X4_read_29, bk_X4_read_43, k_X4_read_43, bk_X4_read_47, k_X4_read_47, ↓e_rk1, ↓e_rk0, ↓e_sk0, ↓e_sks, ↓e_ldi0, ↓e_ldis, ↓e_ldl0, ↓e_ldls, ↓e_lda0, ↓e_ldas, ↓e_ok0, ↓e_okss, ↓e_ok1i, ↓e_ok1r, ↓e_ok1n, ↓e_sti, ↓e_sta, ↓e_1, ↓e_2, ↓e_l1, ↓e_l2, ↓e_li, ↓e_sw0, ↓e_sws, ↓e_ceq, ↓e_cne, ↓e_clt, ↓e_cge, ↓e_cgt, ↓e_cle, ↓e_nil, ↓e_cons, ↓e_iconst, ↓e_bipush, ↓e_sipush, ↓e_ldc, ↓e_ldcw, ↓e_ldc2, ↓e_lconst, ↓e_iloadn, ↓e_iload, ↓e_lloadn, ↓e_lload, ↓e_aloadn, ↓e_aload, ↓e_istoren, ↓e_istore, ↓e_astoren, ↓e_astore, ↓e_add, ↓e_iinc, ↓e_iadd, ↓e_isub, ↓e_imul, ↓e_iand, ↓e_ior, ↓e_ixor, ↓e_ishl, ↓e_iushr, ↓e_idiv, ↓e_irem, ↓e_ineg, ↓e_i2l, ↓e_i2b, ↓e_i2s, ↓e_l2i, ↓e_land, ↓e_lor, ↓e_lshl, ↓e_lshr, ↓e_lushr, ↓e_lcmp, ↓e_dupi, ↓e_dupr, ↓e_popi, ↓e_dup2, ↓e_goto, ↓e_if, ↓e_icmp, ↓e_tsw, ↓e_lsw, ↓e_getf, ↓e_putf, ↓e_gets, ↓e_iald, ↓e_cald, ↓e_iast, ↓e_aald, ↓e_aast, ↓e_len, ↓e_copy, ↓e_abs, ↓e_max, ↓e_min, ↓e_iret, ↓e_aret, ↓e_vret, ↓e_is0, ↓e_is1, ↓e_is2, ↓e_is3, ↓e_is4, ↓e_iv1, ↓e_iv2, ↓e_iv3, ↓e_iv4, ↓e_iv5, ↓e_iv6, ↓rt_X4_read, ↓reduceIte, Nat.reduceAdd, Nat.reduceEqDiff, ↓zcl0, ↓zclv, List.map_nil, List.sum_nil, List.map_cons, List.sum_cons, zcat, true_and, and_true, Nat.reduceLeDiff, Nat.reduceAdd, eq_self, forall_const, e_ok0, e_okss, e_ok1i, e_ok1r, e_ok1n, zl_m1, zl_0, Int.reduceToNat, Int.reduceAdd, Int.reduceMul, Int.reduceSub, Int.reduceNeg, Int.reduceLT, Int.reduceLE, Int.reduceEq, not_false_eq_true, not_true_eq_false, false_implies, true_implies, implies_true, Int.reduceDiv, Int.reduceMod, zr8_zr, zr_zbo, z01_zbo, z01_0, z01_1, zbo_eq0, zup_eq, zup_o, zup_k, ne_eq, ↓ct_red_rfh, ↓r_rfh, ↓B_rfh, ↓ct_red_lev, ↓r_lev, ↓B_lev, ↓v_67, ↓g_67_0, ↓g_67_1, ↓g_67_2, ↓p_67_2, ↓g_67_3, ↓p_67_3, ↓g_67_4, ↓p_67_4, e4]
      exact hC M2 a b
    have J29 : ∀ M2 : ZMm, Rd T n u M2 x → Fdq M M2 → X 29 [some (.inr (.inr (.inl 67))), some (.inl u)] [] (zG, M2) (0, 0) := by
      intro M2 a b
      have e3 := a.2.1
      have e5 := a.1.1
      have o1 := a.2.2.2.1.1
      have zp : zr (x.1 : Int) = x.1 := zr_of (by omega) (by omega)
      have zn : zr (n : Int) = n := zr_of (by omega) (by omega)
      have J43 : x.1 < n → X 43 [some (.inr (.inr (.inl 67))), some (.inl u)] [] (zG, M2) (0, 0) := by
        intro l
        refine bs_X4_read_43 hX ?_
        simp only [bk_X4_read_0, k_X4_read_0, bk_X4_read_29, k_X4_read_29, bk_X4_read_43, k_X4_read_43, bk_X4_read_47, k_X4_read_47, ↓e_rk1, ↓e_rk0, ↓e_sk0, ↓e_sks, ↓e_ldi0, ↓e_ldis, ↓e_ldl0, ↓e_ldls, ↓e_lda0, ↓e_ldas, ↓e_ok0, ↓e_okss, ↓e_ok1i, ↓e_ok1r, ↓e_ok1n, ↓e_sti, ↓e_sta, ↓e_1, ↓e_2, ↓e_l1, ↓e_l2, ↓e_li, ↓e_sw0, ↓e_sws, ↓e_ceq, ↓e_cne, ↓e_clt, ↓e_cge, ↓e_cgt, ↓e_cle, ↓e_nil, ↓e_cons, ↓e_iconst, ↓e_bipush, ↓e_sipush, ↓e_ldc, ↓e_ldcw, ↓e_ldc2, ↓e_lconst, ↓e_iloadn, ↓e_iload, ↓e_lloadn, ↓e_lload, ↓e_aloadn, ↓e_aload, ↓e_istoren, ↓e_istore, ↓e_astoren, ↓e_astore, ↓e_add, ↓e_iinc, ↓e_iadd, ↓e_isub, ↓e_imul, ↓e_iand, ↓e_ior, ↓e_ixor, ↓e_ishl, ↓e_iushr, ↓e_idiv, ↓e_irem, ↓e_ineg, ↓e_i2l, ↓e_i2b, ↓e_i2s, ↓e_l2i, ↓e_land, ↓e_lor, ↓e_lshl, ↓e_lshr, ↓e_lushr, ↓e_lcmp, ↓e_dupi, ↓e_dupr, ↓e_popi, ↓e_dup2, ↓e_goto, ↓e_if, ↓e_icmp, ↓e_tsw, ↓e_lsw, ↓e_getf, ↓e_putf, ↓e_gets, ↓e_iald, ↓e_cald, ↓e_iast, ↓e_aald, ↓e_aast, ↓e_len, ↓e_copy, ↓e_abs, ↓e_max, ↓e_min, ↓e_iret, ↓e_aret, ↓e_vret, ↓e_is0, ↓e_is1, ↓e_is2, ↓e_is3, ↓e_is4, ↓e_iv1, ↓e_iv2, ↓e_iv3, ↓e_iv4, ↓e_iv5, ↓e_iv6, ↓rt_X4_read, ↓reduceIte, Nat.reduceAdd, Nat.reduceEqDiff, ↓zcl0, ↓zclv, List.map_nil, List.sum_nil, List.map_cons, List.sum_cons, zcat, true_and, and_true, Nat.reduceLeDiff, Nat.reduceAdd, eq_self, forall_const, e_ok0, e_okss, e_ok1i, e_ok1r, e_ok1n, zl_m1, zl_0, Int.reduceToNat, Int.reduceAdd, Int.reduceMul, Int.reduceSub, Int.reduceNeg, Int.reduceLT, Int.reduceLE, Int.reduceEq, not_false_eq_true, not_true_eq_false, false_implies, true_implies, implies_true, Int.reduceDiv, Int.reduceMod, zr8_zr, zr_zbo, z01_zbo, z01_0, z01_1, zbo_eq0, zup_eq, zup_o, zup_k, ne_eq, ↓ct_red_rfh, ↓r_rfh, ↓B_rfh, ↓ct_red_lev, ↓r_lev, ↓B_lev, ↓v_67, ↓g_67_0, ↓g_67_1, ↓g_67_2, ↓p_67_2, ↓g_67_3, ↓p_67_3, ↓g_67_4, ↓p_67_4, ↓rdQ]
        refine ⟨T, n, u, x, a, fun M3 a3 b3 _ => J47 M3 ?_ (b.trans b3)⟩
        rw [ep]
        by_cases q : x.2.1 < 0
        · rw [if_pos ⟨q, l⟩]; exact a3
        · rw [if_neg (fun h => q h.1)]
          have w9 : wrg x = x := by unfold wrg; rw [if_neg q]
          rw [w9] at a3
          exact a3
      have J47b : ¬ x.1 < n → X 47 [some (.inr (.inr (.inl 67))), some (.inl u)] [] (zG, M2) (0, 0) := fun l => J47 M2 (by rw [ep, if_neg (fun h => l h.2)]; exact a) b
      refine bs_X4_read_29 hX ?_
      simp only [bk_X4_read_0, k_X4_read_0, bk_X4_read_29, k_X4_read_29, bk_X4_read_43, k_X4_read_43, bk_X4_read_47, k_X4_read_47, ↓e_rk1, ↓e_rk0, ↓e_sk0, ↓e_sks, ↓e_ldi0, ↓e_ldis, ↓e_ldl0, ↓e_ldls, ↓e_lda0, ↓e_ldas, ↓e_ok0, ↓e_okss, ↓e_ok1i, ↓e_ok1r, ↓e_ok1n, ↓e_sti, ↓e_sta, ↓e_1, ↓e_2, ↓e_l1, ↓e_l2, ↓e_li, ↓e_sw0, ↓e_sws, ↓e_ceq, ↓e_cne, ↓e_clt, ↓e_cge, ↓e_cgt, ↓e_cle, ↓e_nil, ↓e_cons, ↓e_iconst, ↓e_bipush, ↓e_sipush, ↓e_ldc, ↓e_ldcw, ↓e_ldc2, ↓e_lconst, ↓e_iloadn, ↓e_iload, ↓e_lloadn, ↓e_lload, ↓e_aloadn, ↓e_aload, ↓e_istoren, ↓e_istore, ↓e_astoren, ↓e_astore, ↓e_add, ↓e_iinc, ↓e_iadd, ↓e_isub, ↓e_imul, ↓e_iand, ↓e_ior, ↓e_ixor, ↓e_ishl, ↓e_iushr, ↓e_idiv, ↓e_irem, ↓e_ineg, ↓e_i2l, ↓e_i2b, ↓e_i2s, ↓e_l2i, ↓e_land, ↓e_lor, ↓e_lshl, ↓e_lshr, ↓e_lushr, ↓e_lcmp, ↓e_dupi, ↓e_dupr, ↓e_popi, ↓e_dup2, ↓e_goto, ↓e_if, ↓e_icmp, ↓e_tsw, ↓e_lsw, ↓e_getf, ↓e_putf, ↓e_gets, ↓e_iald, ↓e_cald, ↓e_iast, ↓e_aald, ↓e_aast, ↓e_len, ↓e_copy, ↓e_abs, ↓e_max, ↓e_min, ↓e_iret, ↓e_aret, ↓e_vret, ↓e_is0, ↓e_is1, ↓e_is2, ↓e_is3, ↓e_is4, ↓e_iv1, ↓e_iv2, ↓e_iv3, ↓e_iv4, ↓e_iv5, ↓e_iv6, ↓rt_X4_read, ↓reduceIte, Nat.reduceAdd, Nat.reduceEqDiff, ↓zcl0, ↓zclv, List.map_nil, List.sum_nil, List.map_cons, List.sum_cons, zcat, true_and, and_true, Nat.reduceLeDiff, Nat.reduceAdd, eq_self, forall_const, e_ok0, e_okss, e_ok1i, e_ok1r, e_ok1n, zl_m1, zl_0, Int.reduceToNat, Int.reduceAdd, Int.reduceMul, Int.reduceSub, Int.reduceNeg, Int.reduceLT, Int.reduceLE, Int.reduceEq, not_false_eq_true, not_true_eq_false, false_implies, true_implies, implies_true, Int.reduceDiv, Int.reduceMod, zr8_zr, zr_zbo, z01_zbo, z01_0, z01_1, zbo_eq0, zup_eq, zup_o, zup_k, ne_eq, ↓ct_red_rfh, ↓r_rfh, ↓B_rfh, ↓ct_red_lev, ↓r_lev, ↓B_lev, ↓v_67, ↓g_67_0, ↓g_67_1, ↓g_67_2, ↓p_67_2, ↓g_67_3, ↓p_67_3, ↓g_67_4, ↓p_67_4, ↓v_22, ↓g_22_0, ↓l_23, ↓s_23, ↓n_23, ↓g_22_1, ↓p_22_1, e3, e5, zp, zn]
      refine ⟨fun c => ?_, fun c => ?_⟩
      · first | exact J43 (by omega) | exact J47b (by omega)
      · first | exact J43 (by omega) | exact J47b (by omega)
    obtain ⟨M1, hM1⟩ : ∃ M1, zup (zup (zup (zup M 67 2 u) 67 3 0) 67 4 (-1)) 68 1 0 = M1 := ⟨_, rfl⟩
    have f1 : Fdq M M1 := fun y q1 q2 q3 => by rw [← hM1, zup_ne _ q2, zup_ne _ q1, zup_ne _ q1, zup_ne _ q1]
    have r0 : Rd T n u M1 (0, -1, []) := by
      refine ⟨⟨by rw [f1 22 (by decide) (by decide) (by decide)]; exact e1, hn, by rw [f1 23 (by decide) (by decide) (by decide)]; exact e2, by rw [← hM1]; simp [zup], hu⟩, by rw [← hM1]; simp [zup], by rw [← hM1]; simp [zup], ⟨by simp, by simp, by simp, by show (-1 : Int) ≤ (n : Int); omega⟩, by rw [← hM1]; simp [zup], fun _ => by rw [← hM1]; simp [zup]⟩
    simp only [bk_X4_read_0, k_X4_read_0, bk_X4_read_29, k_X4_read_29, bk_X4_read_43, k_X4_read_43, bk_X4_read_47, k_X4_read_47, ↓e_rk1, ↓e_rk0, ↓e_sk0, ↓e_sks, ↓e_ldi0, ↓e_ldis, ↓e_ldl0, ↓e_ldls, ↓e_lda0, ↓e_ldas, ↓e_ok0, ↓e_okss, ↓e_ok1i, ↓e_ok1r, ↓e_ok1n, ↓e_sti, ↓e_sta, ↓e_1, ↓e_2, ↓e_l1, ↓e_l2, ↓e_li, ↓e_sw0, ↓e_sws, ↓e_ceq, ↓e_cne, ↓e_clt, ↓e_cge, ↓e_cgt, ↓e_cle, ↓e_nil, ↓e_cons, ↓e_iconst, ↓e_bipush, ↓e_sipush, ↓e_ldc, ↓e_ldcw, ↓e_ldc2, ↓e_lconst, ↓e_iloadn, ↓e_iload, ↓e_lloadn, ↓e_lload, ↓e_aloadn, ↓e_aload, ↓e_istoren, ↓e_istore, ↓e_astoren, ↓e_astore, ↓e_add, ↓e_iinc, ↓e_iadd, ↓e_isub, ↓e_imul, ↓e_iand, ↓e_ior, ↓e_ixor, ↓e_ishl, ↓e_iushr, ↓e_idiv, ↓e_irem, ↓e_ineg, ↓e_i2l, ↓e_i2b, ↓e_i2s, ↓e_l2i, ↓e_land, ↓e_lor, ↓e_lshl, ↓e_lshr, ↓e_lushr, ↓e_lcmp, ↓e_dupi, ↓e_dupr, ↓e_popi, ↓e_dup2, ↓e_goto, ↓e_if, ↓e_icmp, ↓e_tsw, ↓e_lsw, ↓e_getf, ↓e_putf, ↓e_gets, ↓e_iald, ↓e_cald, ↓e_iast, ↓e_aald, ↓e_aast, ↓e_len, ↓e_copy, ↓e_abs, ↓e_max, ↓e_min, ↓e_iret, ↓e_aret, ↓e_vret, ↓e_is0, ↓e_is1, ↓e_is2, ↓e_is3, ↓e_is4, ↓e_iv1, ↓e_iv2, ↓e_iv3, ↓e_iv4, ↓e_iv5, ↓e_iv6, ↓rt_X4_read, ↓reduceIte, Nat.reduceAdd, Nat.reduceEqDiff, ↓zcl0, ↓zclv, List.map_nil, List.sum_nil, List.map_cons, List.sum_cons, zcat, true_and, and_true, Nat.reduceLeDiff, Nat.reduceAdd, eq_self, forall_const, e_ok0, e_okss, e_ok1i, e_ok1r, e_ok1n, zl_m1, zl_0, Int.reduceToNat, Int.reduceAdd, Int.reduceMul, Int.reduceSub, Int.reduceNeg, Int.reduceLT, Int.reduceLE, Int.reduceEq, not_false_eq_true, not_true_eq_false, false_implies, true_implies, implies_true, Int.reduceDiv, Int.reduceMod, zr8_zr, zr_zbo, z01_zbo, z01_0, z01_1, zbo_eq0, zup_eq, zup_o, zup_k, ne_eq, ↓ct_red_rfh, ↓r_rfh, ↓B_rfh, ↓ct_red_lev, ↓r_lev, ↓B_lev, ↓v_67, ↓g_67_0, ↓g_67_1, ↓g_67_2, ↓p_67_2, ↓g_67_3, ↓p_67_3, ↓g_67_4, ↓p_67_4, ↓v_68, ↓g_68_0, ↓l_69, ↓s_69, ↓n_69, ↓g_68_1, ↓p_68_1, ↓rdQ]
    rw [hM1]
    refine ⟨5, 5, ⟨by omega, by omega, by omega, by omega, by omega⟩, T, n, u, (0, -1, []), r0, fun M2 a b c => J29 M2 ?_ (f1.trans b)⟩
    rw [pll_5, hx] at a
    exact a
theorem c_redA {E : ZE} {d : Nat} (h : 47 ≤ d) : zMet E d mX4_read (C_red 0) := c_red (r := 0) (by omega) ⟨46, by omega, (c_ulA 42 46 (by omega)).2⟩
