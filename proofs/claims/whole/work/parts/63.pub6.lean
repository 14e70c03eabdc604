/-! THE CLASS: check, feed -/
def k_X10_feed_0 : List ZI := [(.iload_n 3, 1, (0, [3], [])), (.iconst 1, 1, (0, [], [])), (.if_icmp .lt 9, 3, (0, [11], [])), (.iload_n 3, 1, (0, [3], [])), (.bipush 8, 2, (0, [], [])), (.if_icmp .le 10, 3, (0, [18], []))]
theorem ok_X10_feed_0 : zOK cX10_feed 10 false 5 k_X10_feed_0 0 = true := zOK_by (by decide +kernel)
def k_X10_feed_11 : List ZI := [(.aload_n 0, 1, (0, [0], [])), (.ldc 96, 2, ((-1000000001), [], [])), (.invokevirtual 97, 3, (0, [110, 2, 0, 10], [])), (.ireturn, 1, (0, [], []))]
theorem ok_X10_feed_11 : zOK cX10_feed 10 false 5 k_X10_feed_11 11 = true := zOK_by (by decide +kernel)
def k_X10_feed_18 : List ZI := [(.aload_n 0, 1, (0, [0], [])), (.getfield 12, 3, (0, [10, 0], [])), (.getfield 54, 3, (0, [6, 4], [])), (.getfield 171, 3, (0, [5, 1], [])), (.iload_n 3, 1, (0, [3], [])), (.iadd, 1, (0, [], [])), (.bipush 50, 2, (0, [], [])), (.if_icmp .le 10, 3, (0, [42], []))]
theorem ok_X10_feed_18 : zOK cX10_feed 10 false 5 k_X10_feed_18 18 = true := zOK_by (by decide +kernel)
def k_X10_feed_35 : List ZI := [(.aload_n 0, 1, (0, [0], [])), (.ldc 143, 2, ((-1000000004), [], [])), (.invokevirtual 97, 3, (0, [110, 2, 0, 10], [])), (.ireturn, 1, (0, [], []))]
theorem ok_X10_feed_35 : zOK cX10_feed 10 false 5 k_X10_feed_35 35 = true := zOK_by (by decide +kernel)
def k_X10_feed_42 : List ZI := [(.iconst 0, 1, (0, [], [])), (.istore 4, 2, (0, [4], []))]
theorem ok_X10_feed_42 : zOK cX10_feed 10 false 5 k_X10_feed_42 42 = true := zOK_by (by decide +kernel)
def k_X10_feed_45 : List ZI := [(.iload 4, 2, (0, [4], [])), (.iload_n 3, 1, (0, [3], [])), (.if_icmp .ge 32, 3, (0, [80], [])), (.aload_n 0, 1, (0, [0], [])), (.getfield 12, 3, (0, [10, 0], [])), (.getfield 54, 3, (0, [6, 4], [])), (.lload_n 1, 1, (0, [1], [])), (.bipush 8, 2, (0, [], [])), (.iload 4, 2, (0, [4], [])), (.imul, 1, (0, [], [])), (.lushr, 1, (0, [], [])), (.l2i, 1, (0, [], [])), (.sipush 255, 3, (0, [], [])), (.iand, 1, (0, [], [])), (.invokevirtual 174, 3, (0, [41, 2, 0, 5], [])), (.pop, 1, (0, [], [])), (.iinc 4 1, 3, (0, [4], [])), (.goto (-32), 3, (0, [45], []))]
theorem ok_X10_feed_45 : zOK cX10_feed 10 false 5 k_X10_feed_45 45 = true := zOK_by (by decide +kernel)
def k_X10_feed_80 : List ZI := [(.aload_n 0, 1, (0, [0], [])), (.getfield 12, 3, (0, [10, 0], [])), (.getfield 54, 3, (0, [6, 4], [])), (.getfield 171, 3, (0, [5, 1], [])), (.ireturn, 1, (0, [], []))]
theorem ok_X10_feed_80 : zOK cX10_feed 10 false 5 k_X10_feed_80 80 = true := zOK_by (by decide +kernel)
theorem rt_X10_feed {g : Nat} {post : Option ZV → ZH → Prop} {h : ZH} {b : ZB2} {z : Int} : zRt mX10_feed g post (some (.inl z)) h b = (post (some (.inl z)) h ∧ h.1.length = g) := by show (_ ∧ _ ∧ True) = _; simp
def bk_X10_feed_0 (E : ZE) (CT : Nat → ZC) (X : ZK) (Rt : ZR) (ls : ZL) (st : List ZV) (h : ZH) (b : ZB2) : Prop := zB E CT k_X10_feed_0 0 ls st h b (fun t ls st h b => X t ls st h b) Rt
theorem bs_X10_feed_0 {E : ZE} {CT : Nat → ZC} {X : ZK} {Rt : ZR} {ls : ZL} {st : List ZV} {h : ZH} {b : ZB2} (hX : zCl E mX10_feed 10 false CT Rt X) (q : bk_X10_feed_0 E CT X Rt ls st h b) : X 0 ls st h b := by
  refine hX k_X10_feed_0 0 ok_X10_feed_0 _ ?_ ls st h b q
  exact fun t ls st h b q => q
def bk_X10_feed_11 (E : ZE) (CT : Nat → ZC) (X : ZK) (Rt : ZR) (ls : ZL) (st : List ZV) (h : ZH) (b : ZB2) : Prop := zB E CT k_X10_feed_11 11 ls st h b (fun t ls st h b => X t ls st h b) Rt
theorem bs_X10_feed_11 {E : ZE} {CT : Nat → ZC} {X : ZK} {Rt : ZR} {ls : ZL} {st : List ZV} {h : ZH} {b : ZB2} (hX : zCl E mX10_feed 10 false CT Rt X) (q : bk_X10_feed_11 E CT X Rt ls st h b) : X 11 ls st h b := by
  refine hX k_X10_feed_11 11 ok_X10_feed_11 _ ?_ ls st h b q
  exact fun t ls st h b q => q
def bk_X10_feed_18 (E : ZE) (CT : Nat → ZC) (X : ZK) (Rt : ZR) (ls : ZL) (st : List ZV) (h : ZH) (b : ZB2) : Prop := zB E CT k_X10_feed_18 18 ls st h b (fun t ls st h b => X t ls st h b) Rt
theorem bs_X10_feed_18 {E : ZE} {CT : Nat → ZC} {X : ZK} {Rt : ZR} {ls : ZL} {st : List ZV} {h : ZH} {b : ZB2} (hX : zCl E mX10_feed 10 false CT Rt X) (q : bk_X10_feed_18 E CT X Rt ls st h b) : X 18 ls st h b := by
  refine hX k_X10_feed_18 18 ok_X10_feed_18 _ ?_ ls st h b q
  exact fun t ls st h b q => q
def bk_X10_feed_35 (E : ZE) (CT : Nat → ZC) (X : ZK) (Rt : ZR) (ls : ZL) (st : List ZV) (h : ZH) (b : ZB2) : Prop := zB E CT k_X10_feed_35 35 ls st h b (fun t ls st h b => X t ls st h b) Rt
theorem bs_X10_feed_35 {E : ZE} {CT : Nat → ZC} {X : ZK} {Rt : ZR} {ls : ZL} {st : List ZV} {h : ZH} {b : ZB2} (hX : zCl E mX10_feed 10 false CT Rt X) (q : bk_X10_feed_35 E CT X Rt ls st h b) : X 35 ls st h b := by
  refine hX k_X10_feed_35 35 ok_X10_feed_35 _ ?_ ls st h b q
  exact fun t ls st h b q => q
def bk_X10_feed_42 (E : ZE) (CT : Nat → ZC) (X : ZK) (Rt : ZR) (ls : ZL) (st : List ZV) (h : ZH) (b : ZB2) : Prop := zB E CT k_X10_feed_42 42 ls st h b (fun t ls st h b => X t ls st h b) Rt
theorem bs_X10_feed_42 {E : ZE} {CT : Nat → ZC} {X : ZK} {Rt : ZR} {ls : ZL} {st : List ZV} {h : ZH} {b : ZB2} (hX : zCl E mX10_feed 10 false CT Rt X) (q : bk_X10_feed_42 E CT X Rt ls st h b) : X 42 ls st h b := by
  refine hX k_X10_feed_42 42 ok_X10_feed_42 _ ?_ ls st h b q
  exact fun t ls st h b q => q
def bk_X10_feed_45 (E : ZE) (CT : Nat → ZC) (X : ZK) (Rt : ZR) (ls : ZL) (st : List ZV) (h : ZH) (b : ZB2) : Prop := zB E CT k_X10_feed_45 45 ls st h b (fun t ls st h b => X t ls st h b) Rt
theorem bs_X10_feed_45 {E : ZE} {CT : Nat → ZC} {X : ZK} {Rt : ZR} {ls : ZL} {st : List ZV} {h : ZH} {b : ZB2} (hX : zCl E mX10_feed 10 false CT Rt X) (q : bk_X10_feed_45 E CT X Rt ls st h b) : X 45 ls st h b := by
  refine hX k_X10_feed_45 45 ok_X10_feed_45 _ ?_ ls st h b q
  exact fun t ls st h b q => q
def bk_X10_feed_80 (E : ZE) (CT : Nat → ZC) (X : ZK) (Rt : ZR) (ls : ZL) (st : List ZV) (h : ZH) (b : ZB2) : Prop := zB E CT k_X10_feed_80 80 ls st h b (fun t ls st h b => X t ls st h b) Rt
theorem bs_X10_feed_80 {E : ZE} {CT : Nat → ZC} {X : ZK} {Rt : ZR} {ls : ZL} {st : List ZV} {h : ZH} {b : ZB2} (hX : zCl E mX10_feed 10 false CT Rt X) (q : bk_X10_feed_80 E CT X Rt ls st h b) : X 80 ls st h b := by
  refine hX k_X10_feed_80 80 ok_X10_feed_80 _ ?_ ls st h b q
  exact fun t ls st h b q => q
-- X10_feed: cuts [11, 18, 35, 42, 45, 80]
theorem TR_0 {t s f : Nat} {M : ZMm} {d : Nat → Int} : TR t (zup M t 1 0) (up1 d s 0) s f := by
  refine ⟨by rw [zup_eq, up1_eq], fun k hk => ?_⟩
  rw [up1_eq] at hk
  omega
def B_x_check (M : Nat → Nat → Int) (post : Option ZV → (Nat → Nat → Int) → Prop) : Prop := ∃ S : ZMm, Vs S ∧ Rc S M ∧ cp M (R_check S) post
def C_x_check : ZC := fun as h post => match as with
  | [.inr (.inr (.inl 0))] => h.1 = zG ∧ B_x_check h.2 (fun v M => post v (zG, M))
  | _ => False
theorem r_x_check {M : Nat → Nat → Int} {post : Option ZV → ZH → Prop} : C_x_check [.inr (.inr (.inl 0))] (zG, M) post = B_x_check M (fun v M => post v (zG, M)) := by show (zG = zG ∧ _) = _; simp
def ct_x_check : Nat → ZC := fun n => if n = 113 then C_cthink else if n = 4 then C_dyear else if n = 18 then C_hgap else fun _ _ _ => False
theorem ct_x_check_cthink {as : List ZV} {h : ZH} {post : Option ZV → ZH → Prop} : ct_x_check 113 as h post = C_cthink as h post := rfl
theorem ct_x_check_dyear {as : List ZV} {h : ZH} {post : Option ZV → ZH → Prop} : ct_x_check 4 as h post = C_dyear as h post := rfl
theorem ct_x_check_hgap {as : List ZV} {h : ZH} {post : Option ZV → ZH → Prop} : ct_x_check 18 as h post = C_hgap as h post := rfl
theorem c_x_check {E : ZE} {d : Nat} (hd : 6 ≤ d) : zMet E d mX10_check C_x_check := by
  refine zmet_of (o := 10) (ini := false) (CT := ct_x_check) gd_X10_check rfl (fun h => by cases h) (by omega) ?_ ?_
  · intro n as h post hh
    unfold ct_x_check at hh
    by_cases c : n = 113
    · subst c; exact ⟨gd_X10_think, 2, by omega, c_cthink (by omega)⟩
    rw [if_neg c] at hh
    by_cases c : n = 4
    · subst c; exact ⟨gd_X1_goYear, 5, by omega, c_dyear (by omega)⟩
    rw [if_neg c] at hh
    by_cases c : n = 18
    · subst c; exact ⟨gd_X2_gap, 2, by omega, c_hgap (by omega)⟩
    rw [if_neg c] at hh
    exact hh.elim
  intro as h post hC
  match as, hC with
  | [.inr (.inr (.inl 0))], hC =>
    refine ⟨Nat.le_of_ble_eq_true rfl, fun X hX => bs_X10_check_0 hX ?_⟩
    obtain ⟨G, M⟩ := h
    obtain ⟨hG, hC⟩ := hC
    dsimp only at hG
    subst hG
    simp only [B_x_check] at hC
    show bk_X10_check_0 E ct_x_check X _ [some (.inr (.inr (.inl 0))), none, none] [] (zG, M) (0, 0)
    obtain ⟨S, vs9, H, hC⟩ := hC
    have vd : Vd (S 88) := vs9.1
    have n9 := H.1
    have y1 := vs9.2.1
    have v1 := vd.2.1
    have v5 := vd.2.2.2.2.1
    have wr : ∀ k, 188 ≤ k → k < 208 → rg (S 88 k) := vs9.2.2.2.2.2.2.2.1
    have w9 := n9.2.2.2.2.2.1
    have e1 : M 24 1 = S 88 5 := w9.1
    obtain ⟨d0, hd0⟩ : ∃ d0 : Nat → Int, up1 (S 88) 5 0 = d0 := ⟨_, rfl⟩
    have vd0 : Vd d0 := by
      rw [← hd0]
      exact Vd_up vd (by omega) (Or.inr ⟨by omega, by decide⟩)
    have e10 : d0 1 = S 88 1 := by rw [← hd0]; exact up1_ne (by omega)
    obtain ⟨n, hn⟩ : ∃ n : Nat, S 88 5 = n := ⟨(S 88 5).toNat, by omega⟩
    have zn : zr (n : Int) = n := zr_of (by omega) (by omega)
    obtain ⟨M0, hM0⟩ : ∃ M0, zup M 24 1 0 = M0 := ⟨_, rfl⟩
    have f0 : ∀ x, ¬ x = 24 → M0 x = M x := fun x p => by rw [← hM0, zup_ne _ p]
    have n0 : SRn M0 d0 := by
      obtain ⟨hh, c, l1, l2, t, w, z⟩ := n9
      have v9 := Vd_l vd
      have u9 : ∀ k, ¬ k = 5 → d0 k = S 88 k := fun k p => by rw [← hd0, up1_ne p]
      refine ⟨HR_cg hh (fun x p q => f0 x (by omega)) (fun k hk => u9 k (by omega)), CR_cg c (fun x p q => f0 x (by omega)) (fun k hk => u9 k (by omega)), LR_cg l1 v9.1.1 (by omega) (fun x p q => f0 x (by omega)) (fun k hk => u9 k (by omega)), LR_cg l2 v9.1.2 (by omega) (fun x p q => f0 x (by omega)) (fun k hk => u9 k (by omega)), TR_cg t (fun x p => f0 x (by omega)) (u9 4 (by omega)) (fun k _ => u9 _ (by omega)), ?_, ?_⟩
      · rw [← hM0, ← hd0]; exact TR_0
      · rw [f0 1 (by omega), u9 3 (by omega)]; exact z
    have H0 : Rc (r88 S d0) M0 := Rc_now H n0 (fun x p => f0 x (by omega))
    have r0 : (r88 S d0) 88 = d0 := rfl
    have vd9 : Vd ((r88 S d0) 88) := vd0
    have fin : ∀ (M2 : ZMm) (a : Int), Tf M0 M2 → a = ckw d0 (fun k => S 88 (188 + k)) n → post (some (.inl a)) (zG, M2) := by
      intro M2 a t ha
      refine cp_mk hC (S' := r88 S d0) ?_ (t.rc H0 vd9) (fun x p => by rw [t x (by omega) (by omega) (by omega), f0 x (by omega)])
      unfold R_check
      rw [hd0, hn, ha]
      rfl
    have e25 : ∀ k : Nat, k < n → M 25 k = S 88 (188 + k) := fun k hk => w9.2 k (by omega)
    have lp : ∀ (j k : Nat) (M' : ZMm), j + k = n → ckw d0 (fun k => S 88 (188 + k)) k = 0 → HR 54 M' (yrs d0 (-1) k) → CR 62 M' d0 (-1) → Tf M0 M' → X 28 [some (.inr (.inr (.inl 0))), some (.inl ((n : Int))), some (.inl ((k : Int)))] [] (zG, M') (0, 0) := by
      intro j
      induction j with
      | zero =>
        intro k M' hk hz h c t
        refine bs_X10_check_28 hX ?_
        have zk : zr (k : Int) = k := zr_of (by omega) (by omega)
        have lk : ((k : Int) < n) = False := eq_false (by omega)
        simp only [bk_X10_check_0, k_X10_check_0, bk_X10_check_26, k_X10_check_26, bk_X10_check_28, k_X10_check_28, bk_X10_check_33, k_X10_check_33, bk_X10_check_40, k_X10_check_40, bk_X10_check_69, k_X10_check_69, bk_X10_check_75, k_X10_check_75, ↓e_rk1, ↓e_rk0, ↓e_sk0, ↓e_sks, ↓e_ldi0, ↓e_ldis, ↓e_ldl0, ↓e_ldls, ↓e_lda0, ↓e_ldas, ↓e_ok0, ↓e_okss, ↓e_ok1i, ↓e_ok1r, ↓e_ok1n, ↓e_sti, ↓e_sta, ↓e_1, ↓e_2, ↓e_l1, ↓e_l2, ↓e_li, ↓e_sw0, ↓e_sws, ↓e_ceq, ↓e_cne, ↓e_clt, ↓e_cge, ↓e_cgt, ↓e_cle, ↓e_nil, ↓e_cons, ↓e_iconst, ↓e_bipush, ↓e_sipush, ↓e_ldc, ↓e_ldcw, ↓e_ldc2, ↓e_lconst, ↓e_iloadn, ↓e_iload, ↓e_lloadn, ↓e_lload, ↓e_aloadn, ↓e_aload, ↓e_istoren, ↓e_istore, ↓e_astoren, ↓e_astore, ↓e_add, ↓e_iinc, ↓e_iadd, ↓e_isub, ↓e_imul, ↓e_iand, ↓e_ior, ↓e_ixor, ↓e_ishl, ↓e_iushr, ↓e_idiv, ↓e_irem, ↓e_ineg, ↓e_i2l, ↓e_i2b, ↓e_i2s, ↓e_l2i, ↓e_land, ↓e_lor, ↓e_lshl, ↓e_lshr, ↓e_lushr, ↓e_lcmp, ↓e_dupi, ↓e_dupr, ↓e_popi, ↓e_dup2, ↓e_goto, ↓e_if, ↓e_icmp, ↓e_tsw, ↓e_lsw, ↓e_getf, ↓e_putf, ↓e_gets, ↓e_iald, ↓e_cald, ↓e_iast, ↓e_aald, ↓e_aast, ↓e_len, ↓e_copy, ↓e_abs, ↓e_max, ↓e_min, ↓e_iret, ↓e_aret, ↓e_vret, ↓e_is0, ↓e_is1, ↓e_is2, ↓e_is3, ↓e_is4, ↓e_iv1, ↓e_iv2, ↓e_iv3, ↓e_iv4, ↓e_iv5, ↓e_iv6, ↓rt_X10_check, ↓reduceIte, Nat.reduceAdd, Nat.reduceEqDiff, ↓zcl0, ↓zclv, List.map_nil, List.sum_nil, List.map_cons, List.sum_cons, zcat, true_and, and_true, Nat.reduceLeDiff, Nat.reduceAdd, eq_self, forall_const, e_ok0, e_okss, e_ok1i, e_ok1r, e_ok1n, zl_0, zl_1, Int.reduceToNat, Int.reduceAdd, Int.reduceMul, Int.reduceSub, Int.reduceNeg, Int.reduceLT, Int.reduceLE, Int.reduceEq, not_false_eq_true, not_true_eq_false, false_implies, true_implies, implies_true, Int.reduceDiv, Int.reduceMod, zr8_zr, zr_zbo, z01_zbo, z01_0, z01_1, zbo_eq0, zup_eq, zup_o, zup_k, ne_eq, ↓ct_x_check_cthink, ↓r_cthink, ↓B_cthink, ↓ct_x_check_dyear, ↓r_dyear, ↓B_dyear, ↓ct_x_check_hgap, ↓r_hgap, ↓B_hgap, ↓v_0, ↓g_0_0, ↓g_0_1, ↓g_0_2, ↓g_0_3, ↓g_0_4, ↓g_0_5, ↓g_0_6, ↓g_0_7, ↓g_0_8, ↓l_78, ↓s_78, ↓n_78, ↓g_0_9, ↓p_0_9, zk, zn, lk]
        refine bs_X10_check_75 hX ?_
        simp only [bk_X10_check_0, k_X10_check_0, bk_X10_check_26, k_X10_check_26, bk_X10_check_28, k_X10_check_28, bk_X10_check_33, k_X10_check_33, bk_X10_check_40, k_X10_check_40, bk_X10_check_69, k_X10_check_69, bk_X10_check_75, k_X10_check_75, ↓e_rk1, ↓e_rk0, ↓e_sk0, ↓e_sks, ↓e_ldi0, ↓e_ldis, ↓e_ldl0, ↓e_ldls, ↓e_lda0, ↓e_ldas, ↓e_ok0, ↓e_okss, ↓e_ok1i, ↓e_ok1r, ↓e_ok1n, ↓e_sti, ↓e_sta, ↓e_1, ↓e_2, ↓e_l1, ↓e_l2, ↓e_li, ↓e_sw0, ↓e_sws, ↓e_ceq, ↓e_cne, ↓e_clt, ↓e_cge, ↓e_cgt, ↓e_cle, ↓e_nil, ↓e_cons, ↓e_iconst, ↓e_bipush, ↓e_sipush, ↓e_ldc, ↓e_ldcw, ↓e_ldc2, ↓e_lconst, ↓e_iloadn, ↓e_iload, ↓e_lloadn, ↓e_lload, ↓e_aloadn, ↓e_aload, ↓e_istoren, ↓e_istore, ↓e_astoren, ↓e_astore, ↓e_add, ↓e_iinc, ↓e_iadd, ↓e_isub, ↓e_imul, ↓e_iand, ↓e_ior, ↓e_ixor, ↓e_ishl, ↓e_iushr, ↓e_idiv, ↓e_irem, ↓e_ineg, ↓e_i2l, ↓e_i2b, ↓e_i2s, ↓e_l2i, ↓e_land, ↓e_lor, ↓e_lshl, ↓e_lshr, ↓e_lushr, ↓e_lcmp, ↓e_dupi, ↓e_dupr, ↓e_popi, ↓e_dup2, ↓e_goto, ↓e_if, ↓e_icmp, ↓e_tsw, ↓e_lsw, ↓e_getf, ↓e_putf, ↓e_gets, ↓e_iald, ↓e_cald, ↓e_iast, ↓e_aald, ↓e_aast, ↓e_len, ↓e_copy, ↓e_abs, ↓e_max, ↓e_min, ↓e_iret, ↓e_aret, ↓e_vret, ↓e_is0, ↓e_is1, ↓e_is2, ↓e_is3, ↓e_is4, ↓e_iv1, ↓e_iv2, ↓e_iv3, ↓e_iv4, ↓e_iv5, ↓e_iv6, ↓rt_X10_check, ↓reduceIte, Nat.reduceAdd, Nat.reduceEqDiff, ↓zcl0, ↓zclv, List.map_nil, List.sum_nil, List.map_cons, List.sum_cons, zcat, true_and, and_true, Nat.reduceLeDiff, Nat.reduceAdd, eq_self, forall_const, e_ok0, e_okss, e_ok1i, e_ok1r, e_ok1n, zl_0, zl_1, Int.reduceToNat, Int.reduceAdd, Int.reduceMul, Int.reduceSub, Int.reduceNeg, Int.reduceLT, Int.reduceLE, Int.reduceEq, not_false_eq_true, not_true_eq_false, false_implies, true_implies, implies_true, Int.reduceDiv, Int.reduceMod, zr8_zr, zr_zbo, z01_zbo, z01_0, z01_1, zbo_eq0, zup_eq, zup_o, zup_k, ne_eq, ↓ct_x_check_cthink, ↓r_cthink, ↓B_cthink, ↓ct_x_check_dyear, ↓r_dyear, ↓B_dyear, ↓ct_x_check_hgap, ↓r_hgap, ↓B_hgap, ↓v_0, ↓g_0_0, ↓g_0_1, ↓g_0_2, ↓g_0_3, ↓g_0_4, ↓g_0_5, ↓g_0_6, ↓g_0_7, ↓g_0_8, ↓l_78, ↓s_78, ↓n_78, ↓g_0_9, ↓p_0_9]
        exact fin M' 0 t (by rw [show n = k by omega, hz])
      | succ j ih =>
        intro k M' hk hz h c t
        refine bs_X10_check_28 hX ?_
        have zk : zr (k : Int) = k := zr_of (by omega) (by omega)
        have lk : ((k : Int) < n) = True := eq_true (by omega)
        have ok := yrs_ok vd0 (-1) k (by omega)
        have ok1 := yrs_ok vd0 (-1) (k + 1) (by omega)
        have gr := gap_rng ok1.1
        have es : ckw d0 (fun k => S 88 (188 + k)) (k + 1) = if S 88 (188 + k) = gap (yrs d0 (-1) (k + 1)) then 0 else 1 + (k : Int) := by
          show (if _ = 0 then _ else _) = _
          rw [if_pos hz]
        simp only [bk_X10_check_0, k_X10_check_0, bk_X10_check_26, k_X10_check_26, bk_X10_check_28, k_X10_check_28, bk_X10_check_33, k_X10_check_33, bk_X10_check_40, k_X10_check_40, bk_X10_check_69, k_X10_check_69, bk_X10_check_75, k_X10_check_75, ↓e_rk1, ↓e_rk0, ↓e_sk0, ↓e_sks, ↓e_ldi0, ↓e_ldis, ↓e_ldl0, ↓e_ldls, ↓e_lda0, ↓e_ldas, ↓e_ok0, ↓e_okss, ↓e_ok1i, ↓e_ok1r, ↓e_ok1n, ↓e_sti, ↓e_sta, ↓e_1, ↓e_2, ↓e_l1, ↓e_l2, ↓e_li, ↓e_sw0, ↓e_sws, ↓e_ceq, ↓e_cne, ↓e_clt, ↓e_cge, ↓e_cgt, ↓e_cle, ↓e_nil, ↓e_cons, ↓e_iconst, ↓e_bipush, ↓e_sipush, ↓e_ldc, ↓e_ldcw, ↓e_ldc2, ↓e_lconst, ↓e_iloadn, ↓e_iload, ↓e_lloadn, ↓e_lload, ↓e_aloadn, ↓e_aload, ↓e_istoren, ↓e_istore, ↓e_astoren, ↓e_astore, ↓e_add, ↓e_iinc, ↓e_iadd, ↓e_isub, ↓e_imul, ↓e_iand, ↓e_ior, ↓e_ixor, ↓e_ishl, ↓e_iushr, ↓e_idiv, ↓e_irem, ↓e_ineg, ↓e_i2l, ↓e_i2b, ↓e_i2s, ↓e_l2i, ↓e_land, ↓e_lor, ↓e_lshl, ↓e_lshr, ↓e_lushr, ↓e_lcmp, ↓e_dupi, ↓e_dupr, ↓e_popi, ↓e_dup2, ↓e_goto, ↓e_if, ↓e_icmp, ↓e_tsw, ↓e_lsw, ↓e_getf, ↓e_putf, ↓e_gets, ↓e_iald, ↓e_cald, ↓e_iast, ↓e_aald, ↓e_aast, ↓e_len, ↓e_copy, ↓e_abs, ↓e_max, ↓e_min, ↓e_iret, ↓e_aret, ↓e_vret, ↓e_is0, ↓e_is1, ↓e_is2, ↓e_is3, ↓e_is4, ↓e_iv1, ↓e_iv2, ↓e_iv3, ↓e_iv4, ↓e_iv5, ↓e_iv6, ↓rt_X10_check, ↓reduceIte, Nat.reduceAdd, Nat.reduceEqDiff, ↓zcl0, ↓zclv, List.map_nil, List.sum_nil, List.map_cons, List.sum_cons, zcat, true_and, and_true, Nat.reduceLeDiff, Nat.reduceAdd, eq_self, forall_const, e_ok0, e_okss, e_ok1i, e_ok1r, e_ok1n, zl_0, zl_1, Int.reduceToNat, Int.reduceAdd, Int.reduceMul, Int.reduceSub, Int.reduceNeg, Int.reduceLT, Int.reduceLE, Int.reduceEq, not_false_eq_true, not_true_eq_false, false_implies, true_implies, implies_true, Int.reduceDiv, Int.reduceMod, zr8_zr, zr_zbo, z01_zbo, z01_0, z01_1, zbo_eq0, zup_eq, zup_o, zup_k, ne_eq, ↓ct_x_check_cthink, ↓r_cthink, ↓B_cthink, ↓ct_x_check_dyear, ↓r_dyear, ↓B_dyear, ↓ct_x_check_hgap, ↓r_hgap, ↓B_hgap, ↓v_0, ↓g_0_0, ↓g_0_1, ↓g_0_2, ↓g_0_3, ↓g_0_4, ↓g_0_5, ↓g_0_6, ↓g_0_7, ↓g_0_8, ↓l_78, ↓s_78, ↓n_78, ↓g_0_9, ↓p_0_9, zk, zn, lk]
        refine bs_X10_check_33 hX ?_
        simp only [bk_X10_check_0, k_X10_check_0, bk_X10_check_26, k_X10_check_26, bk_X10_check_28, k_X10_check_28, bk_X10_check_33, k_X10_check_33, bk_X10_check_40, k_X10_check_40, bk_X10_check_69, k_X10_check_69, bk_X10_check_75, k_X10_check_75, ↓e_rk1, ↓e_rk0, ↓e_sk0, ↓e_sks, ↓e_ldi0, ↓e_ldis, ↓e_ldl0, ↓e_ldls, ↓e_lda0, ↓e_ldas, ↓e_ok0, ↓e_okss, ↓e_ok1i, ↓e_ok1r, ↓e_ok1n, ↓e_sti, ↓e_sta, ↓e_1, ↓e_2, ↓e_l1, ↓e_l2, ↓e_li, ↓e_sw0, ↓e_sws, ↓e_ceq, ↓e_cne, ↓e_clt, ↓e_cge, ↓e_cgt, ↓e_cle, ↓e_nil, ↓e_cons, ↓e_iconst, ↓e_bipush, ↓e_sipush, ↓e_ldc, ↓e_ldcw, ↓e_ldc2, ↓e_lconst, ↓e_iloadn, ↓e_iload, ↓e_lloadn, ↓e_lload, ↓e_aloadn, ↓e_aload, ↓e_istoren, ↓e_istore, ↓e_astoren, ↓e_astore, ↓e_add, ↓e_iinc, ↓e_iadd, ↓e_isub, ↓e_imul, ↓e_iand, ↓e_ior, ↓e_ixor, ↓e_ishl, ↓e_iushr, ↓e_idiv, ↓e_irem, ↓e_ineg, ↓e_i2l, ↓e_i2b, ↓e_i2s, ↓e_l2i, ↓e_land, ↓e_lor, ↓e_lshl, ↓e_lshr, ↓e_lushr, ↓e_lcmp, ↓e_dupi, ↓e_dupr, ↓e_popi, ↓e_dup2, ↓e_goto, ↓e_if, ↓e_icmp, ↓e_tsw, ↓e_lsw, ↓e_getf, ↓e_putf, ↓e_gets, ↓e_iald, ↓e_cald, ↓e_iast, ↓e_aald, ↓e_aast, ↓e_len, ↓e_copy, ↓e_abs, ↓e_max, ↓e_min, ↓e_iret, ↓e_aret, ↓e_vret, ↓e_is0, ↓e_is1, ↓e_is2, ↓e_is3, ↓e_is4, ↓e_iv1, ↓e_iv2, ↓e_iv3, ↓e_iv4, ↓e_iv5, ↓e_iv6, ↓rt_X10_check, ↓reduceIte, Nat.reduceAdd, Nat.reduceEqDiff, ↓zcl0, ↓zclv, List.map_nil, List.sum_nil, List.map_cons, List.sum_cons, zcat, true_and, and_true, Nat.reduceLeDiff, Nat.reduceAdd, eq_self, forall_const, e_ok0, e_okss, e_ok1i, e_ok1r, e_ok1n, zl_0, zl_1, Int.reduceToNat, Int.reduceAdd, Int.reduceMul, Int.reduceSub, Int.reduceNeg, Int.reduceLT, Int.reduceLE, Int.reduceEq, not_false_eq_true, not_true_eq_false, false_implies, true_implies, implies_true, Int.reduceDiv, Int.reduceMod, zr8_zr, zr_zbo, z01_zbo, z01_0, z01_1, zbo_eq0, zup_eq, zup_o, zup_k, ne_eq, ↓ct_x_check_cthink, ↓r_cthink, ↓B_cthink, ↓ct_x_check_dyear, ↓r_dyear, ↓B_dyear, ↓ct_x_check_hgap, ↓r_hgap, ↓B_hgap, ↓v_0, ↓g_0_0, ↓g_0_1, ↓g_0_2, ↓g_0_3, ↓g_0_4, ↓g_0_5, ↓g_0_6, ↓g_0_7, ↓g_0_8, ↓l_78, ↓s_78, ↓n_78, ↓g_0_9, ↓p_0_9, ↓v_53, ↓g_53_0, ↓g_53_1, ↓g_53_2, ↓g_53_3, ↓g_53_4, ↓l_66, ↓s_66, ↓n_66, ↓g_53_5, ↓p_53_5, ↓g_53_6, ↓p_53_6, ↓g_53_7, ↓p_53_7, ↓g_53_8, ↓p_53_8, ↓g_53_9, ↓p_53_9]
        refine ⟨54, 62, 66, _, -1, DGt H0 vd9 t h (CR_cg c (fun _ _ _ => rfl) (fun i p => yrs_hi vd0 (-1) (by omega) k (by omega))) ok.1 (fun i p => yrs_hi vd0 (-1) (by omega) k (by omega)), fun M2 h2 f2 => ?_⟩
        have t2 : Tf M0 M2 := t.trans (fun x a b c => f2 x (by omega) (by omega) (by omega) a b)
        have wk := wr (188 + k) (by omega) (by omega)
        have ew : M2 25 k = S 88 (188 + k) := by rw [t2 25 (by omega) (by omega) (by omega), f0 25 (by omega)]; exact e25 k (by omega)
        have c2 : CR 62 M2 d0 (-1) := CR_cg c (fun x p q => f2 x (by omega) (by omega) (by omega) (by omega) (by omega)) (fun _ _ => rfl)
        have zg : zr (gap (yrs d0 (-1) (k + 1))) = gap (yrs d0 (-1) (k + 1)) := zr_of (by omega) (by omega)
        have h2' : HR 54 M2 (yrs d0 (-1) (k + 1)) := h2
        refine bs_X10_check_40 hX ?_
        simp only [bk_X10_check_0, k_X10_check_0, bk_X10_check_26, k_X10_check_26, bk_X10_check_28, k_X10_check_28, bk_X10_check_33, k_X10_check_33, bk_X10_check_40, k_X10_check_40, bk_X10_check_69, k_X10_check_69, bk_X10_check_75, k_X10_check_75, ↓e_rk1, ↓e_rk0, ↓e_sk0, ↓e_sks, ↓e_ldi0, ↓e_ldis, ↓e_ldl0, ↓e_ldls, ↓e_lda0, ↓e_ldas, ↓e_ok0, ↓e_okss, ↓e_ok1i, ↓e_ok1r, ↓e_ok1n, ↓e_sti, ↓e_sta, ↓e_1, ↓e_2, ↓e_l1, ↓e_l2, ↓e_li, ↓e_sw0, ↓e_sws, ↓e_ceq, ↓e_cne, ↓e_clt, ↓e_cge, ↓e_cgt, ↓e_cle, ↓e_nil, ↓e_cons, ↓e_iconst, ↓e_bipush, ↓e_sipush, ↓e_ldc, ↓e_ldcw, ↓e_ldc2, ↓e_lconst, ↓e_iloadn, ↓e_iload, ↓e_lloadn, ↓e_lload, ↓e_aloadn, ↓e_aload, ↓e_istoren, ↓e_istore, ↓e_astoren, ↓e_astore, ↓e_add, ↓e_iinc, ↓e_iadd, ↓e_isub, ↓e_imul, ↓e_iand, ↓e_ior, ↓e_ixor, ↓e_ishl, ↓e_iushr, ↓e_idiv, ↓e_irem, ↓e_ineg, ↓e_i2l, ↓e_i2b, ↓e_i2s, ↓e_l2i, ↓e_land, ↓e_lor, ↓e_lshl, ↓e_lshr, ↓e_lushr, ↓e_lcmp, ↓e_dupi, ↓e_dupr, ↓e_popi, ↓e_dup2, ↓e_goto, ↓e_if, ↓e_icmp, ↓e_tsw, ↓e_lsw, ↓e_getf, ↓e_putf, ↓e_gets, ↓e_iald, ↓e_cald, ↓e_iast, ↓e_aald, ↓e_aast, ↓e_len, ↓e_copy, ↓e_abs, ↓e_max, ↓e_min, ↓e_iret, ↓e_aret, ↓e_vret, ↓e_is0, ↓e_is1, ↓e_is2, ↓e_is3, ↓e_is4, ↓e_iv1, ↓e_iv2, ↓e_iv3, ↓e_iv4, ↓e_iv5, ↓e_iv6, ↓rt_X10_check, ↓reduceIte, Nat.reduceAdd, Nat.reduceEqDiff, ↓zcl0, ↓zclv, List.map_nil, List.sum_nil, List.map_cons, List.sum_cons, zcat, true_and, and_true, Nat.reduceLeDiff, Nat.reduceAdd, eq_self, forall_const, e_ok0, e_okss, e_ok1i, e_ok1r, e_ok1n, zl_0, zl_1, Int.reduceToNat, Int.reduceAdd, Int.reduceMul, Int.reduceSub, Int.reduceNeg, Int.reduceLT, Int.reduceLE, Int.reduceEq, not_false_eq_true, not_true_eq_false, false_implies, true_implies, implies_true, Int.reduceDiv, Int.reduceMod, zr8_zr, zr_zbo, z01_zbo, z01_0, z01_1, zbo_eq0, zup_eq, zup_o, zup_k, ne_eq, ↓ct_x_check_cthink, ↓r_cthink, ↓B_cthink, ↓ct_x_check_dyear, ↓r_dyear, ↓B_dyear, ↓ct_x_check_hgap, ↓r_hgap, ↓B_hgap, ↓v_0, ↓g_0_0, ↓g_0_1, ↓g_0_2, ↓g_0_3, ↓g_0_4, ↓g_0_5, ↓g_0_6, ↓g_0_7, ↓g_0_8, ↓l_78, ↓s_78, ↓n_78, ↓g_0_9, ↓p_0_9, ↓v_1, ↓g_1_0, ↓g_1_1, ↓g_1_2, ↓g_1_3, ↓g_1_4, ↓g_1_5, ↓g_1_6, ↓p_1_6, ↓v_24, ↓g_24_0, ↓l_25, ↓s_25, ↓n_25, ↓g_24_1, ↓p_24_1, ↓v_53, ↓g_53_0, ↓g_53_1, ↓g_53_2, ↓g_53_3, ↓g_53_4, ↓l_66, ↓s_66, ↓n_66, ↓g_53_5, ↓p_53_5, ↓g_53_6, ↓p_53_6, ↓g_53_7, ↓p_53_7, ↓g_53_8, ↓p_53_8, ↓g_53_9, ↓p_53_9, ↓v_54, ↓g_54_0, ↓l_55, ↓s_55, ↓n_55, ↓g_54_1, ↓l_56, ↓s_56, ↓n_56, ↓g_54_2, ↓l_57, ↓s_57, ↓n_57, ↓g_54_3, ↓l_58, ↓s_58, ↓n_58, ↓g_54_4, ↓l_59, ↓s_59, ↓n_59, ↓g_54_5, ↓l_60, ↓s_60, ↓n_60, ↓g_54_6, ↓l_61, ↓s_61, ↓n_61, ↓g_54_7, ↓p_54_7, ↓g_54_8, ↓p_54_8, ↓g_54_9, ↓p_54_9, zk, Int.toNat_natCast, ew, zr_rg, wk]
        refine ⟨by omega, by omega, Or.inr (Or.inr rfl), _, h2', ok1.1, ?_⟩
        rw [zg]
        have bad : ¬ S 88 (188 + k) = gap (yrs d0 (-1) (k + 1)) → post (some (.inl (1 + (k : Int)))) (zG, M2) := by
          intro c9
          refine fin M2 _ t2 ?_
          have nz : ¬ ckw d0 (fun k => S 88 (188 + k)) (k + 1) = 0 := by rw [es, if_neg c9]; omega
          have := ckw_no nz j
          rw [show k + 1 + j = n by omega, es, if_neg c9] at this
          exact this.symm
        have good : S 88 (188 + k) = gap (yrs d0 (-1) (k + 1)) → X 69 [some (.inr (.inr (.inl 0))), some (.inl ((n : Int))), some (.inl ((k : Int)))] [] (zG, M2) (0, 0) := by
          intro c9
          refine bs_X10_check_69 hX ?_
          simp only [bk_X10_check_0, k_X10_check_0, bk_X10_check_26, k_X10_check_26, bk_X10_check_28, k_X10_check_28, bk_X10_check_33, k_X10_check_33, bk_X10_check_40, k_X10_check_40, bk_X10_check_69, k_X10_check_69, bk_X10_check_75, k_X10_check_75, ↓e_rk1, ↓e_rk0, ↓e_sk0, ↓e_sks, ↓e_ldi0, ↓e_ldis, ↓e_ldl0, ↓e_ldls, ↓e_lda0, ↓e_ldas, ↓e_ok0, ↓e_okss, ↓e_ok1i, ↓e_ok1r, ↓e_ok1n, ↓e_sti, ↓e_sta, ↓e_1, ↓e_2, ↓e_l1, ↓e_l2, ↓e_li, ↓e_sw0, ↓e_sws, ↓e_ceq, ↓e_cne, ↓e_clt, ↓e_cge, ↓e_cgt, ↓e_cle, ↓e_nil, ↓e_cons, ↓e_iconst, ↓e_bipush, ↓e_sipush, ↓e_ldc, ↓e_ldcw, ↓e_ldc2, ↓e_lconst, ↓e_iloadn, ↓e_iload, ↓e_lloadn, ↓e_lload, ↓e_aloadn, ↓e_aload, ↓e_istoren, ↓e_istore, ↓e_astoren, ↓e_astore, ↓e_add, ↓e_iinc, ↓e_iadd, ↓e_isub, ↓e_imul, ↓e_iand, ↓e_ior, ↓e_ixor, ↓e_ishl, ↓e_iushr, ↓e_idiv, ↓e_irem, ↓e_ineg, ↓e_i2l, ↓e_i2b, ↓e_i2s, ↓e_l2i, ↓e_land, ↓e_lor, ↓e_lshl, ↓e_lshr, ↓e_lushr, ↓e_lcmp, ↓e_dupi, ↓e_dupr, ↓e_popi, ↓e_dup2, ↓e_goto, ↓e_if, ↓e_icmp, ↓e_tsw, ↓e_lsw, ↓e_getf, ↓e_putf, ↓e_gets, ↓e_iald, ↓e_cald, ↓e_iast, ↓e_aald, ↓e_aast, ↓e_len, ↓e_copy, ↓e_abs, ↓e_max, ↓e_min, ↓e_iret, ↓e_aret, ↓e_vret, ↓e_is0, ↓e_is1, ↓e_is2, ↓e_is3, ↓e_is4, ↓e_iv1, ↓e_iv2, ↓e_iv3, ↓e_iv4, ↓e_iv5, ↓e_iv6, ↓rt_X10_check, ↓reduceIte, Nat.reduceAdd, Nat.reduceEqDiff, ↓zcl0, ↓zclv, List.map_nil, List.sum_nil, List.map_cons, List.sum_cons, zcat, true_and, and_true, Nat.reduceLeDiff, Nat.reduceAdd, eq_self, forall_const, e_ok0, e_okss, e_ok1i, e_ok1r, e_ok1n, zl_0, zl_1, Int.reduceToNat, Int.reduceAdd, Int.reduceMul, Int.reduceSub, Int.reduceNeg, Int.reduceLT, Int.reduceLE, Int.reduceEq, not_false_eq_true, not_true_eq_false, false_implies, true_implies, implies_true, Int.reduceDiv, Int.reduceMod, zr8_zr, zr_zbo, z01_zbo, z01_0, z01_1, zbo_eq0, zup_eq, zup_o, zup_k, ne_eq, ↓ct_x_check_cthink, ↓r_cthink, ↓B_cthink, ↓ct_x_check_dyear, ↓r_dyear, ↓B_dyear, ↓ct_x_check_hgap, ↓r_hgap, ↓B_hgap, ↓v_0, ↓g_0_0, ↓g_0_1, ↓g_0_2, ↓g_0_3, ↓g_0_4, ↓g_0_5, ↓g_0_6, ↓g_0_7, ↓g_0_8, ↓l_78, ↓s_78, ↓n_78, ↓g_0_9, ↓p_0_9]
          exact ih (k + 1) M2 (by omega) (by rw [es, if_pos c9]) h2' c2 t2
        refine ⟨fun c9 => ?_, fun c9 => ?_⟩
        · first | exact good c9 | exact bad c9
        · first | exact good c9 | exact bad c9
    simp only [bk_X10_check_0, k_X10_check_0, bk_X10_check_26, k_X10_check_26, bk_X10_check_28, k_X10_check_28, bk_X10_check_33, k_X10_check_33, bk_X10_check_40, k_X10_check_40, bk_X10_check_69, k_X10_check_69, bk_X10_check_75, k_X10_check_75, ↓e_rk1, ↓e_rk0, ↓e_sk0, ↓e_sks, ↓e_ldi0, ↓e_ldis, ↓e_ldl0, ↓e_ldls, ↓e_lda0, ↓e_ldas, ↓e_ok0, ↓e_okss, ↓e_ok1i, ↓e_ok1r, ↓e_ok1n, ↓e_sti, ↓e_sta, ↓e_1, ↓e_2, ↓e_l1, ↓e_l2, ↓e_li, ↓e_sw0, ↓e_sws, ↓e_ceq, ↓e_cne, ↓e_clt, ↓e_cge, ↓e_cgt, ↓e_cle, ↓e_nil, ↓e_cons, ↓e_iconst, ↓e_bipush, ↓e_sipush, ↓e_ldc, ↓e_ldcw, ↓e_ldc2, ↓e_lconst, ↓e_iloadn, ↓e_iload, ↓e_lloadn, ↓e_lload, ↓e_aloadn, ↓e_aload, ↓e_istoren, ↓e_istore, ↓e_astoren, ↓e_astore, ↓e_add, ↓e_iinc, ↓e_iadd, ↓e_isub, ↓e_imul, ↓e_iand, ↓e_ior, ↓e_ixor, ↓e_ishl, ↓e_iushr, ↓e_idiv, ↓e_irem, ↓e_ineg, ↓e_i2l, ↓e_i2b, ↓e_i2s, ↓e_l2i, ↓e_land, ↓e_lor, ↓e_lshl, ↓e_lshr, ↓e_lushr, ↓e_lcmp, ↓e_dupi, ↓e_dupr, ↓e_popi, ↓e_dup2, ↓e_goto, ↓e_if, ↓e_icmp, ↓e_tsw, ↓e_lsw, ↓e_getf, ↓e_putf, ↓e_gets, ↓e_iald, ↓e_cald, ↓e_iast, ↓e_aald, ↓e_aast, ↓e_len, ↓e_copy, ↓e_abs, ↓e_max, ↓e_min, ↓e_iret, ↓e_aret, ↓e_vret, ↓e_is0, ↓e_is1, ↓e_is2, ↓e_is3, ↓e_is4, ↓e_iv1, ↓e_iv2, ↓e_iv3, ↓e_iv4, ↓e_iv5, ↓e_iv6, ↓rt_X10_check, ↓reduceIte, Nat.reduceAdd, Nat.reduceEqDiff, ↓zcl0, ↓zclv, List.map_nil, List.sum_nil, List.map_cons, List.sum_cons, zcat, true_and, and_true, Nat.reduceLeDiff, Nat.reduceAdd, eq_self, forall_const, e_ok0, e_okss, e_ok1i, e_ok1r, e_ok1n, zl_0, zl_1, Int.reduceToNat, Int.reduceAdd, Int.reduceMul, Int.reduceSub, Int.reduceNeg, Int.reduceLT, Int.reduceLE, Int.reduceEq, not_false_eq_true, not_true_eq_false, false_implies, true_implies, implies_true, Int.reduceDiv, Int.reduceMod, zr8_zr, zr_zbo, z01_zbo, z01_0, z01_1, zbo_eq0, zup_eq, zup_o, zup_k, ne_eq, ↓ct_x_check_cthink, ↓r_cthink, ↓B_cthink, ↓ct_x_check_dyear, ↓r_dyear, ↓B_dyear, ↓ct_x_check_hgap, ↓r_hgap, ↓B_hgap, ↓v_0, ↓g_0_0, ↓g_0_1, ↓g_0_2, ↓g_0_3, ↓g_0_4, ↓g_0_5, ↓g_0_6, ↓g_0_7, ↓g_0_8, ↓l_78, ↓s_78, ↓n_78, ↓g_0_9, ↓p_0_9, ↓v_1, ↓g_1_0, ↓g_1_1, ↓g_1_2, ↓g_1_3, ↓g_1_4, ↓g_1_5, ↓g_1_6, ↓p_1_6, ↓v_24, ↓g_24_0, ↓l_25, ↓s_25, ↓n_25, ↓g_24_1, ↓p_24_1, e1, hn, hM0]
    refine ⟨d0, n0, fun M1 h1 c1 t1 => ?_⟩
    refine bs_X10_check_26 hX ?_
    simp only [bk_X10_check_0, k_X10_check_0, bk_X10_check_26, k_X10_check_26, bk_X10_check_28, k_X10_check_28, bk_X10_check_33, k_X10_check_33, bk_X10_check_40, k_X10_check_40, bk_X10_check_69, k_X10_check_69, bk_X10_check_75, k_X10_check_75, ↓e_rk1, ↓e_rk0, ↓e_sk0, ↓e_sks, ↓e_ldi0, ↓e_ldis, ↓e_ldl0, ↓e_ldls, ↓e_lda0, ↓e_ldas, ↓e_ok0, ↓e_okss, ↓e_ok1i, ↓e_ok1r, ↓e_ok1n, ↓e_sti, ↓e_sta, ↓e_1, ↓e_2, ↓e_l1, ↓e_l2, ↓e_li, ↓e_sw0, ↓e_sws, ↓e_ceq, ↓e_cne, ↓e_clt, ↓e_cge, ↓e_cgt, ↓e_cle, ↓e_nil, ↓e_cons, ↓e_iconst, ↓e_bipush, ↓e_sipush, ↓e_ldc, ↓e_ldcw, ↓e_ldc2, ↓e_lconst, ↓e_iloadn, ↓e_iload, ↓e_lloadn, ↓e_lload, ↓e_aloadn, ↓e_aload, ↓e_istoren, ↓e_istore, ↓e_astoren, ↓e_astore, ↓e_add, ↓e_iinc, ↓e_iadd, ↓e_isub, ↓e_imul, ↓e_iand, ↓e_ior, ↓e_ixor, ↓e_ishl, ↓e_iushr, ↓e_idiv, ↓e_irem, ↓e_ineg, ↓e_i2l, ↓e_i2b, ↓e_i2s, ↓e_l2i, ↓e_land, ↓e_lor, ↓e_lshl, ↓e_lshr, ↓e_lushr, ↓e_lcmp, ↓e_dupi, ↓e_dupr, ↓e_popi, ↓e_dup2, ↓e_goto, ↓e_if, ↓e_icmp, ↓e_tsw, ↓e_lsw, ↓e_getf, ↓e_putf, ↓e_gets, ↓e_iald, ↓e_cald, ↓e_iast, ↓e_aald, ↓e_aast, ↓e_len, ↓e_copy, ↓e_abs, ↓e_max, ↓e_min, ↓e_iret, ↓e_aret, ↓e_vret, ↓e_is0, ↓e_is1, ↓e_is2, ↓e_is3, ↓e_is4, ↓e_iv1, ↓e_iv2, ↓e_iv3, ↓e_iv4, ↓e_iv5, ↓e_iv6, ↓rt_X10_check, ↓reduceIte, Nat.reduceAdd, Nat.reduceEqDiff, ↓zcl0, ↓zclv, List.map_nil, List.sum_nil, List.map_cons, List.sum_cons, zcat, true_and, and_true, Nat.reduceLeDiff, Nat.reduceAdd, eq_self, forall_const, e_ok0, e_okss, e_ok1i, e_ok1r, e_ok1n, zl_0, zl_1, Int.reduceToNat, Int.reduceAdd, Int.reduceMul, Int.reduceSub, Int.reduceNeg, Int.reduceLT, Int.reduceLE, Int.reduceEq, not_false_eq_true, not_true_eq_false, false_implies, true_implies, implies_true, Int.reduceDiv, Int.reduceMod, zr8_zr, zr_zbo, z01_zbo, z01_0, z01_1, zbo_eq0, zup_eq, zup_o, zup_k, ne_eq, ↓ct_x_check_cthink, ↓r_cthink, ↓B_cthink, ↓ct_x_check_dyear, ↓r_dyear, ↓B_dyear, ↓ct_x_check_hgap, ↓r_hgap, ↓B_hgap, ↓v_0, ↓g_0_0, ↓g_0_1, ↓g_0_2, ↓g_0_3, ↓g_0_4, ↓g_0_5, ↓g_0_6, ↓g_0_7, ↓g_0_8, ↓l_78, ↓s_78, ↓n_78, ↓g_0_9, ↓p_0_9]
    exact lp n 0 M1 (by omega) rfl h1 c1 t1
theorem byt_s (x : Int64) (cu : UInt64) (ci : Int64) (s : Nat) (hs : s ≤ 56) (h1 : (cu.toBitVec % 64).toNat = s) (h2 : (ci.toBitVec.smod 64).toNat = s) : (x.toUInt64 >>> cu).toInt64.toInt32 &&& Int32.ofInt 255 = ((x >>> ci) &&& Int64.ofInt 255).toInt32 := by
  apply Int32.toBitVec_inj.mp
  have e1 : ((x.toUInt64 >>> cu).toInt64.toInt32 &&& Int32.ofInt 255).toBitVec = ((x.toBitVec >>> (cu.toBitVec % 64)).signExtend 32 &&& 255#32) := rfl
  have e2 : (((x >>> ci) &&& Int64.ofInt 255).toInt32).toBitVec = ((x.toBitVec.sshiftRight' (ci.toBitVec.smod 64)) &&& 255#64).signExtend 32 := rfl
  rw [e1, e2, BitVec.ushiftRight_eq', BitVec.sshiftRight_eq', h1, h2]
  generalize x.toBitVec = y
  apply BitVec.eq_of_getLsbD_eq
  intro i hi
  rw [BitVec.getLsbD_and, BitVec.getLsbD_signExtend, BitVec.getLsbD_signExtend, BitVec.getLsbD_and, BitVec.getLsbD_ushiftRight, BitVec.getLsbD_sshiftRight]
  have i64 : i < 64 := by omega
  simp only [hi, i64, decide_true, Bool.true_and, if_true]
  by_cases q : i < 8
  · have a : s + i < 64 := by omega
    have b : (255#32).getLsbD i = (255#64).getLsbD i := by
      have : i = 0 ∨ i = 1 ∨ i = 2 ∨ i = 3 ∨ i = 4 ∨ i = 5 ∨ i = 6 ∨ i = 7 := by omega
      rcases this with e | e | e | e | e | e | e | e <;> subst e <;> rfl
    rw [b, if_pos a, decide_eq_false (show ¬ 64 ≤ i by omega)]
    simp
  · have b1 : (255#32).getLsbD i = false := by
      have : 255#32 = (BitVec.ofNat 32 255) := rfl
      rw [BitVec.getLsbD_ofNat]
      have : Nat.testBit 255 i = false := Nat.testBit_lt_two_pow (Nat.lt_of_lt_of_le (by decide : 255 < 2 ^ 8) (Nat.pow_le_pow_right (by decide) (by omega)))
      rw [this]
      simp
    have b2 : (255#64).getLsbD i = false := by
      rw [BitVec.getLsbD_ofNat]
      have : Nat.testBit 255 i = false := Nat.testBit_lt_two_pow (Nat.lt_of_lt_of_le (by decide : 255 < 2 ^ 8) (Nat.pow_le_pow_right (by decide) (by omega)))
      rw [this]
      simp
    rw [b1, b2]
    simp
theorem byt_cls (w : Int) (k : Nat) (h : k < 8) : zand (zl2i (zlushr w (8 * (k : Int)))) 255 = byt w k := by
  unfold zand byt zl2i zlandL zlushr zlshr
  rw [Int32.ofInt_toInt, Int64.ofInt_toInt, Int64.ofInt_toInt, Int64.ofInt_toInt]
  congr 1
  generalize Int64.ofInt w = x
  have : k = 0 ∨ k = 1 ∨ k = 2 ∨ k = 3 ∨ k = 4 ∨ k = 5 ∨ k = 6 ∨ k = 7 := by omega
  rcases this with e | e | e | e | e | e | e | e <;> subst e
  · exact byt_s x _ _ 0 (by omega) (by decide) (by decide)
  · exact byt_s x _ _ 8 (by omega) (by decide) (by decide)
  · exact byt_s x _ _ 16 (by omega) (by decide) (by decide)
  · exact byt_s x _ _ 24 (by omega) (by decide) (by decide)
  · exact byt_s x _ _ 32 (by omega) (by decide) (by decide)
  · exact byt_s x _ _ 40 (by omega) (by decide) (by decide)
  · exact byt_s x _ _ 48 (by omega) (by decide) (by decide)
  · exact byt_s x _ _ 56 (by omega) (by decide) (by decide)
theorem SRn_tape {M : ZMm} {d : Nat → Int} (n9 : SRn M d) (hl : d 186 ≤ 50 ∧ d 187 ≤ 50) (h5 : d 5 ≤ 20) (h4 : 0 ≤ d 4) {v : Int} : SRn (zup (zup M 23 (d 4).toNat v) 22 1 (d 4 + 1)) (up1 (up1 d (308 + (d 4).toNat) v) 4 (d 4 + 1)) := by
  obtain ⟨hh, c, l1, l2, t, w, z⟩ := n9
  have f9 : ∀ x, ¬ x = 22 → ¬ x = 23 → zup (zup M 23 (d 4).toNat v) 22 1 (d 4 + 1) x = M x := fun x p p2 => by rw [zup_ne _ p, zup_ne _ p2]
  have u9 : ∀ k, ¬ k = 4 → k < 308 → up1 (up1 d (308 + (d 4).toNat) v) 4 (d 4 + 1) k = d k := fun k p p2 => by rw [up1_ne p, up1_ne (by omega)]
  refine ⟨HR_cg hh (fun x p q => f9 x (by omega) (by omega)) (fun k hk => u9 k (by omega) (by omega)), CR_cg c (fun x p q => f9 x (by omega) (by omega)) (fun k hk => u9 k (by omega) (by omega)), LR_cg l1 hl.1 (by omega) (fun x p q => f9 x (by omega) (by omega)) (fun k hk => u9 k (by omega) (by omega)), LR_cg l2 hl.2 (by omega) (fun x p q => f9 x (by omega) (by omega)) (fun k hk => u9 k (by omega) (by omega)), ⟨?_, fun k hk => ?_⟩, ⟨?_, fun k hk => ?_⟩, ?_⟩
  · rw [zup_eq, up1_eq]
  · rw [up1_eq] at hk
    rw [zup_o (by omega), up1_ne (by omega)]
    by_cases qk : k = (d 4).toNat
    · subst qk
      rw [zup_eq, up1_eq]
    · rw [zup_k qk, up1_ne (by omega)]
      exact t.2 k (by omega)
  · rw [f9 24 (by omega) (by omega), u9 5 (by omega) (by omega)]; exact w.1
  · rw [u9 5 (by omega) (by omega)] at hk
    rw [f9 _ (by omega) (by omega)]
    rw [u9 _ (by omega) (by omega)]; exact w.2 k hk
  · rw [f9 1 (by omega) (by omega), u9 3 (by omega) (by omega)]; exact z
theorem fdd_s {d : Nat → Int} {w : Int} {k : Nat} (h4 : 0 ≤ d 4) : fdd d w (k + 1) = up1 (up1 (fdd d w k) (308 + (fdd d w k 4).toNat) (byt w k)) 4 (fdd d w k 4 + 1) := by
  have e4 : fdd d w k 4 = d 4 + k := rfl
  rw [e4]
  funext y
  unfold up1 fdd
  by_cases q4 : y = 4
  · rw [if_pos q4, if_pos q4]; omega
  · rw [if_neg q4, if_neg q4, if_neg q4]
    by_cases q7 : y = 308 + (d 4 + (k : Int)).toNat
    · rw [if_pos q7, if_pos (by omega), show y - (308 + (d 4).toNat) = k by omega]
    · rw [if_neg q7]
      by_cases q8 : 308 + (d 4).toNat ≤ y ∧ y < 308 + (d 4).toNat + k
      · rw [if_pos q8, if_pos (by omega)]
      · rw [if_neg q8, if_neg (by omega)]
def B_x_feed (w : Int) (n : Int) (M : Nat → Nat → Int) (post : Option ZV → (Nat → Nat → Int) → Prop) : Prop := rg n ∧ ∃ S : ZMm, Vs S ∧ Rc S M ∧ cp M (R_feed S w n) post
def C_x_feed : ZC := fun as h post => match as with
  | [.inr (.inr (.inl 0)), .inr (.inl w), .inl n] => h.1 = zG ∧ B_x_feed w n h.2 (fun v M => post v (zG, M))
  | _ => False
theorem r_x_feed {w : Int} {n : Int} {M : Nat → Nat → Int} {post : Option ZV → ZH → Prop} : C_x_feed [.inr (.inr (.inl 0)), .inr (.inl w), .inl n] (zG, M) post = B_x_feed w n M (fun v M => post v (zG, M)) := by show (zG = zG ∧ _) = _; simp
def ct_x_feed : Nat → ZC := fun n => if n = 110 then C_cfail else if n = 41 then C_radd else fun _ _ _ => False
theorem ct_x_feed_cfail {as : List ZV} {h : ZH} {post : Option ZV → ZH → Prop} : ct_x_feed 110 as h post = C_cfail as h post := rfl
theorem ct_x_feed_radd {as : List ZV} {h : ZH} {post : Option ZV → ZH → Prop} : ct_x_feed 41 as h post = C_radd as h post := rfl
theorem c_x_feed {E : ZE} {d : Nat} (hd : 2 ≤ d) : zMet E d mX10_feed C_x_feed := by
  refine zmet_of (o := 10) (ini := false) (CT := ct_x_feed) gd_X10_feed rfl (fun h => by cases h) (by omega) ?_ ?_
  · intro n as h post hh
    unfold ct_x_feed at hh
    by_cases c : n = 110
    · subst c; exact ⟨gd_X10_failed, 1, by omega, c_cfail (by omega)⟩
    rw [if_neg c] at hh
    by_cases c : n = 41
    · subst c; exact ⟨gd_X5_add, 1, by omega, c_radd (by omega)⟩
    rw [if_neg c] at hh
    exact hh.elim
  intro as h post hC
  match as, hC with
  | [.inr (.inr (.inl 0)), .inr (.inl w), .inl n], hC =>
    refine ⟨Nat.le_of_ble_eq_true rfl, fun X hX => bs_X10_feed_0 hX ?_⟩
    obtain ⟨G, M⟩ := h
    obtain ⟨hG, hC⟩ := hC
    dsimp only at hG
    subst hG
    simp only [B_x_feed] at hC
    show bk_X10_feed_0 E ct_x_feed X _ [some (.inr (.inr (.inl 0))), some (.inr (.inl w)), none, some (.inl n), none] [] (zG, M) (0, 0)
    obtain ⟨h1, S, vs9, H, hC⟩ := hC
    have vd : Vd (S 88) := vs9.1
    have n9 := H.1
    have v4 := vd.2.2.2.1
    have v9 := Vd_l vd
    have zn : zr n = n := zr_rg h1
    have e1 : M 22 1 = S 88 4 := n9.2.2.2.2.1.1
    have J11 : ¬ (1 ≤ n ∧ n ≤ 8) → X 11 [some (.inr (.inr (.inl 0))), some (.inr (.inl w)), none, some (.inl n), none] [] (zG, M) (0, 0) := by
      intro q
      refine bs_X10_feed_11 hX ?_
      simp only [bk_X10_feed_0, k_X10_feed_0, bk_X10_feed_11, k_X10_feed_11, bk_X10_feed_18, k_X10_feed_18, bk_X10_feed_35, k_X10_feed_35, bk_X10_feed_42, k_X10_feed_42, bk_X10_feed_45, k_X10_feed_45, bk_X10_feed_80, k_X10_feed_80, ↓e_rk1, ↓e_rk0, ↓e_sk0, ↓e_sks, ↓e_ldi0, ↓e_ldis, ↓e_ldl0, ↓e_ldls, ↓e_lda0, ↓e_ldas, ↓e_ok0, ↓e_okss, ↓e_ok1i, ↓e_ok1r, ↓e_ok1n, ↓e_sti, ↓e_sta, ↓e_1, ↓e_2, ↓e_l1, ↓e_l2, ↓e_li, ↓e_sw0, ↓e_sws, ↓e_ceq, ↓e_cne, ↓e_clt, ↓e_cge, ↓e_cgt, ↓e_cle, ↓e_nil, ↓e_cons, ↓e_iconst, ↓e_bipush, ↓e_sipush, ↓e_ldc, ↓e_ldcw, ↓e_ldc2, ↓e_lconst, ↓e_iloadn, ↓e_iload, ↓e_lloadn, ↓e_lload, ↓e_aloadn, ↓e_aload, ↓e_istoren, ↓e_istore, ↓e_astoren, ↓e_astore, ↓e_add, ↓e_iinc, ↓e_iadd, ↓e_isub, ↓e_imul, ↓e_iand, ↓e_ior, ↓e_ixor, ↓e_ishl, ↓e_iushr, ↓e_idiv, ↓e_irem, ↓e_ineg, ↓e_i2l, ↓e_i2b, ↓e_i2s, ↓e_l2i, ↓e_land, ↓e_lor, ↓e_lshl, ↓e_lshr, ↓e_lushr, ↓e_lcmp, ↓e_dupi, ↓e_dupr, ↓e_popi, ↓e_dup2, ↓e_goto, ↓e_if, ↓e_icmp, ↓e_tsw, ↓e_lsw, ↓e_getf, ↓e_putf, ↓e_gets, ↓e_iald, ↓e_cald, ↓e_iast, ↓e_aald, ↓e_aast, ↓e_len, ↓e_copy, ↓e_abs, ↓e_max, ↓e_min, ↓e_iret, ↓e_aret, ↓e_vret, ↓e_is0, ↓e_is1, ↓e_is2, ↓e_is3, ↓e_is4, ↓e_iv1, ↓e_iv2, ↓e_iv3, ↓e_iv4, ↓e_iv5, ↓e_iv6, ↓rt_X10_feed, ↓reduceIte, Nat.reduceAdd, Nat.reduceEqDiff, ↓zcl0, ↓zclv, List.map_nil, List.sum_nil, List.map_cons, List.sum_cons, zcat, true_and, and_true, Nat.reduceLeDiff, Nat.reduceAdd, eq_self, forall_const, e_ok0, e_okss, e_ok1i, e_ok1r, e_ok1n, zl_m1000000004, zl_m1000000001, zl_0, zl_1, zl_8, zl_50, zl_255, Int.reduceToNat, Int.reduceAdd, Int.reduceMul, Int.reduceSub, Int.reduceNeg, Int.reduceLT, Int.reduceLE, Int.reduceEq, not_false_eq_true, not_true_eq_false, false_implies, true_implies, implies_true, Int.reduceDiv, Int.reduceMod, zr8_zr, zr_zbo, z01_zbo, z01_0, z01_1, zbo_eq0, zup_eq, zup_o, zup_k, ne_eq, ↓ct_x_feed_cfail, ↓r_cfail, ↓B_cfail, ↓ct_x_feed_radd, ↓r_radd, ↓B_radd, ↓v_0, ↓g_0_0, ↓g_0_1, ↓g_0_2, ↓g_0_3, ↓g_0_4, ↓g_0_5, ↓g_0_6, ↓g_0_7, ↓g_0_8, ↓l_78, ↓s_78, ↓n_78, ↓g_0_9, ↓p_0_9]
      exact ⟨1, by omega, by omega, cp_no hC H vd (by omega) (by unfold R_feed; rw [if_neg q]) rfl⟩
    have J35 : (1 ≤ n ∧ n ≤ 8) → 50 < S 88 4 + n → X 35 [some (.inr (.inr (.inl 0))), some (.inr (.inl w)), none, some (.inl n), none] [] (zG, M) (0, 0) := by
      intro q q2
      refine bs_X10_feed_35 hX ?_
      simp only [bk_X10_feed_0, k_X10_feed_0, bk_X10_feed_11, k_X10_feed_11, bk_X10_feed_18, k_X10_feed_18, bk_X10_feed_35, k_X10_feed_35, bk_X10_feed_42, k_X10_feed_42, bk_X10_feed_45, k_X10_feed_45, bk_X10_feed_80, k_X10_feed_80, ↓e_rk1, ↓e_rk0, ↓e_sk0, ↓e_sks, ↓e_ldi0, ↓e_ldis, ↓e_ldl0, ↓e_ldls, ↓e_lda0, ↓e_ldas, ↓e_ok0, ↓e_okss, ↓e_ok1i, ↓e_ok1r, ↓e_ok1n, ↓e_sti, ↓e_sta, ↓e_1, ↓e_2, ↓e_l1, ↓e_l2, ↓e_li, ↓e_sw0, ↓e_sws, ↓e_ceq, ↓e_cne, ↓e_clt, ↓e_cge, ↓e_cgt, ↓e_cle, ↓e_nil, ↓e_cons, ↓e_iconst, ↓e_bipush, ↓e_sipush, ↓e_ldc, ↓e_ldcw, ↓e_ldc2, ↓e_lconst, ↓e_iloadn, ↓e_iload, ↓e_lloadn, ↓e_lload, ↓e_aloadn, ↓e_aload, ↓e_istoren, ↓e_istore, ↓e_astoren, ↓e_astore, ↓e_add, ↓e_iinc, ↓e_iadd, ↓e_isub, ↓e_imul, ↓e_iand, ↓e_ior, ↓e_ixor, ↓e_ishl, ↓e_iushr, ↓e_idiv, ↓e_irem, ↓e_ineg, ↓e_i2l, ↓e_i2b, ↓e_i2s, ↓e_l2i, ↓e_land, ↓e_lor, ↓e_lshl, ↓e_lshr, ↓e_lushr, ↓e_lcmp, ↓e_dupi, ↓e_dupr, ↓e_popi, ↓e_dup2, ↓e_goto, ↓e_if, ↓e_icmp, ↓e_tsw, ↓e_lsw, ↓e_getf, ↓e_putf, ↓e_gets, ↓e_iald, ↓e_cald, ↓e_iast, ↓e_aald, ↓e_aast, ↓e_len, ↓e_copy, ↓e_abs, ↓e_max, ↓e_min, ↓e_iret, ↓e_aret, ↓e_vret, ↓e_is0, ↓e_is1, ↓e_is2, ↓e_is3, ↓e_is4, ↓e_iv1, ↓e_iv2, ↓e_iv3, ↓e_iv4, ↓e_iv5, ↓e_iv6, ↓rt_X10_feed, ↓reduceIte, Nat.reduceAdd, Nat.reduceEqDiff, ↓zcl0, ↓zclv, List.map_nil, List.sum_nil, List.map_cons, List.sum_cons, zcat, true_and, and_true, Nat.reduceLeDiff, Nat.reduceAdd, eq_self, forall_const, e_ok0, e_okss, e_ok1i, e_ok1r, e_ok1n, zl_m1000000004, zl_m1000000001, zl_0, zl_1, zl_8, zl_50, zl_255, Int.reduceToNat, Int.reduceAdd, Int.reduceMul, Int.reduceSub, Int.reduceNeg, Int.reduceLT, Int.reduceLE, Int.reduceEq, not_false_eq_true, not_true_eq_false, false_implies, true_implies, implies_true, Int.reduceDiv, Int.reduceMod, zr8_zr, zr_zbo, z01_zbo, z01_0, z01_1, zbo_eq0, zup_eq, zup_o, zup_k, ne_eq, ↓ct_x_feed_cfail, ↓r_cfail, ↓B_cfail, ↓ct_x_feed_radd, ↓r_radd, ↓B_radd, ↓v_0, ↓g_0_0, ↓g_0_1, ↓g_0_2, ↓g_0_3, ↓g_0_4, ↓g_0_5, ↓g_0_6, ↓g_0_7, ↓g_0_8, ↓l_78, ↓s_78, ↓n_78, ↓g_0_9, ↓p_0_9]
      exact ⟨4, by omega, by omega, cp_no hC H vd (by omega) (by unfold R_feed; rw [if_pos q, if_pos q2]) rfl⟩
    have J42 : (1 ≤ n ∧ n ≤ 8) → ¬ 50 < S 88 4 + n → X 42 [some (.inr (.inr (.inl 0))), some (.inr (.inl w)), none, some (.inl n), none] [] (zG, M) (0, 0) := by
      intro q q2
      have er : R_feed S w n = (S 88 4 + n, r88 S (fdd (S 88) w n.toNat)) := by
        unfold R_feed
        rw [if_pos q, if_neg q2]
      have lp : ∀ (j k : Nat) (M' : ZMm), j + k = n.toNat → SRn M' (fdd (S 88) w k) → (∀ x, ¬ x = 22 → ¬ x = 23 → M' x = M x) → X 45 [some (.inr (.inr (.inl 0))), some (.inr (.inl w)), none, some (.inl n), some (.inl (k : Int))] [] (zG, M') (0, 0) := by
        intro j
        induction j with
        | zero =>
          intro k M' hk hs f
          refine bs_X10_feed_45 hX ?_
          have zk : zr (k : Int) = k := zr_of (by omega) (by omega)
          have lk : ((k : Int) < n) = False := eq_false (by omega)
          simp only [bk_X10_feed_0, k_X10_feed_0, bk_X10_feed_11, k_X10_feed_11, bk_X10_feed_18, k_X10_feed_18, bk_X10_feed_35, k_X10_feed_35, bk_X10_feed_42, k_X10_feed_42, bk_X10_feed_45, k_X10_feed_45, bk_X10_feed_80, k_X10_feed_80, ↓e_rk1, ↓e_rk0, ↓e_sk0, ↓e_sks, ↓e_ldi0, ↓e_ldis, ↓e_ldl0, ↓e_ldls, ↓e_lda0, ↓e_ldas, ↓e_ok0, ↓e_okss, ↓e_ok1i, ↓e_ok1r, ↓e_ok1n, ↓e_sti, ↓e_sta, ↓e_1, ↓e_2, ↓e_l1, ↓e_l2, ↓e_li, ↓e_sw0, ↓e_sws, ↓e_ceq, ↓e_cne, ↓e_clt, ↓e_cge, ↓e_cgt, ↓e_cle, ↓e_nil, ↓e_cons, ↓e_iconst, ↓e_bipush, ↓e_sipush, ↓e_ldc, ↓e_ldcw, ↓e_ldc2, ↓e_lconst, ↓e_iloadn, ↓e_iload, ↓e_lloadn, ↓e_lload, ↓e_aloadn, ↓e_aload, ↓e_istoren, ↓e_istore, ↓e_astoren, ↓e_astore, ↓e_add, ↓e_iinc, ↓e_iadd, ↓e_isub, ↓e_imul, ↓e_iand, ↓e_ior, ↓e_ixor, ↓e_ishl, ↓e_iushr, ↓e_idiv, ↓e_irem, ↓e_ineg, ↓e_i2l, ↓e_i2b, ↓e_i2s, ↓e_l2i, ↓e_land, ↓e_lor, ↓e_lshl, ↓e_lshr, ↓e_lushr, ↓e_lcmp, ↓e_dupi, ↓e_dupr, ↓e_popi, ↓e_dup2, ↓e_goto, ↓e_if, ↓e_icmp, ↓e_tsw, ↓e_lsw, ↓e_getf, ↓e_putf, ↓e_gets, ↓e_iald, ↓e_cald, ↓e_iast, ↓e_aald, ↓e_aast, ↓e_len, ↓e_copy, ↓e_abs, ↓e_max, ↓e_min, ↓e_iret, ↓e_aret, ↓e_vret, ↓e_is0, ↓e_is1, ↓e_is2, ↓e_is3, ↓e_is4, ↓e_iv1, ↓e_iv2, ↓e_iv3, ↓e_iv4, ↓e_iv5, ↓e_iv6, ↓rt_X10_feed, ↓reduceIte, Nat.reduceAdd, Nat.reduceEqDiff, ↓zcl0, ↓zclv, List.map_nil, List.sum_nil, List.map_cons, List.sum_cons, zcat, true_and, and_true, Nat.reduceLeDiff, Nat.reduceAdd, eq_self, forall_const, e_ok0, e_okss, e_ok1i, e_ok1r, e_ok1n, zl_m1000000004, zl_m1000000001, zl_0, zl_1, zl_8, zl_50, zl_255, Int.reduceToNat, Int.reduceAdd, Int.reduceMul, Int.reduceSub, Int.reduceNeg, Int.reduceLT, Int.reduceLE, Int.reduceEq, not_false_eq_true, not_true_eq_false, false_implies, true_implies, implies_true, Int.reduceDiv, Int.reduceMod, zr8_zr, zr_zbo, z01_zbo, z01_0, z01_1, zbo_eq0, zup_eq, zup_o, zup_k, ne_eq, ↓ct_x_feed_cfail, ↓r_cfail, ↓B_cfail, ↓ct_x_feed_radd, ↓r_radd, ↓B_radd, ↓v_0, ↓g_0_0, ↓g_0_1, ↓g_0_2, ↓g_0_3, ↓g_0_4, ↓g_0_5, ↓g_0_6, ↓g_0_7, ↓g_0_8, ↓l_78, ↓s_78, ↓n_78, ↓g_0_9, ↓p_0_9, zk, zn, lk]
          refine bs_X10_feed_80 hX ?_
          have ek : k = n.toNat := by omega
          subst ek
          have e22 : M' 22 1 = S 88 4 + n := by
            rw [hs.2.2.2.2.1.1]
            show S 88 4 + ((n.toNat : Nat) : Int) = _
            omega
          simp only [bk_X10_feed_0, k_X10_feed_0, bk_X10_feed_11, k_X10_feed_11, bk_X10_feed_18, k_X10_feed_18, bk_X10_feed_35, k_X10_feed_35, bk_X10_feed_42, k_X10_feed_42, bk_X10_feed_45, k_X10_feed_45, bk_X10_feed_80, k_X10_feed_80, ↓e_rk1, ↓e_rk0, ↓e_sk0, ↓e_sks, ↓e_ldi0, ↓e_ldis, ↓e_ldl0, ↓e_ldls, ↓e_lda0, ↓e_ldas, ↓e_ok0, ↓e_okss, ↓e_ok1i, ↓e_ok1r, ↓e_ok1n, ↓e_sti, ↓e_sta, ↓e_1, ↓e_2, ↓e_l1, ↓e_l2, ↓e_li, ↓e_sw0, ↓e_sws, ↓e_ceq, ↓e_cne, ↓e_clt, ↓e_cge, ↓e_cgt, ↓e_cle, ↓e_nil, ↓e_cons, ↓e_iconst, ↓e_bipush, ↓e_sipush, ↓e_ldc, ↓e_ldcw, ↓e_ldc2, ↓e_lconst, ↓e_iloadn, ↓e_iload, ↓e_lloadn, ↓e_lload, ↓e_aloadn, ↓e_aload, ↓e_istoren, ↓e_istore, ↓e_astoren, ↓e_astore, ↓e_add, ↓e_iinc, ↓e_iadd, ↓e_isub, ↓e_imul, ↓e_iand, ↓e_ior, ↓e_ixor, ↓e_ishl, ↓e_iushr, ↓e_idiv, ↓e_irem, ↓e_ineg, ↓e_i2l, ↓e_i2b, ↓e_i2s, ↓e_l2i, ↓e_land, ↓e_lor, ↓e_lshl, ↓e_lshr, ↓e_lushr, ↓e_lcmp, ↓e_dupi, ↓e_dupr, ↓e_popi, ↓e_dup2, ↓e_goto, ↓e_if, ↓e_icmp, ↓e_tsw, ↓e_lsw, ↓e_getf, ↓e_putf, ↓e_gets, ↓e_iald, ↓e_cald, ↓e_iast, ↓e_aald, ↓e_aast, ↓e_len, ↓e_copy, ↓e_abs, ↓e_max, ↓e_min, ↓e_iret, ↓e_aret, ↓e_vret, ↓e_is0, ↓e_is1, ↓e_is2, ↓e_is3, ↓e_is4, ↓e_iv1, ↓e_iv2, ↓e_iv3, ↓e_iv4, ↓e_iv5, ↓e_iv6, ↓rt_X10_feed, ↓reduceIte, Nat.reduceAdd, Nat.reduceEqDiff, ↓zcl0, ↓zclv, List.map_nil, List.sum_nil, List.map_cons, List.sum_cons, zcat, true_and, and_true, Nat.reduceLeDiff, Nat.reduceAdd, eq_self, forall_const, e_ok0, e_okss, e_ok1i, e_ok1r, e_ok1n, zl_m1000000004, zl_m1000000001, zl_0, zl_1, zl_8, zl_50, zl_255, Int.reduceToNat, Int.reduceAdd, Int.reduceMul, Int.reduceSub, Int.reduceNeg, Int.reduceLT, Int.reduceLE, Int.reduceEq, not_false_eq_true, not_true_eq_false, false_implies, true_implies, implies_true, Int.reduceDiv, Int.reduceMod, zr8_zr, zr_zbo, z01_zbo, z01_0, z01_1, zbo_eq0, zup_eq, zup_o, zup_k, ne_eq, ↓ct_x_feed_cfail, ↓r_cfail, ↓B_cfail, ↓ct_x_feed_radd, ↓r_radd, ↓B_radd, ↓v_0, ↓g_0_0, ↓g_0_1, ↓g_0_2, ↓g_0_3, ↓g_0_4, ↓g_0_5, ↓g_0_6, ↓g_0_7, ↓g_0_8, ↓l_78, ↓s_78, ↓n_78, ↓g_0_9, ↓p_0_9, ↓v_1, ↓g_1_0, ↓g_1_1, ↓g_1_2, ↓g_1_3, ↓g_1_4, ↓g_1_5, ↓g_1_6, ↓p_1_6, ↓v_22, ↓g_22_0, ↓l_23, ↓s_23, ↓n_23, ↓g_22_1, ↓p_22_1, e22]
          exact cp_now hC H er hs (fun x p => f x (by omega) (by omega))
        | succ j ih =>
          intro k M' hk hs f
          refine bs_X10_feed_45 hX ?_
          have zk : zr (k : Int) = k := zr_of (by omega) (by omega)
          have lk : ((k : Int) < n) = True := eq_true (by omega)
          have e4 : fdd (S 88) w k 4 = S 88 4 + k := rfl
          have e22 : M' 22 1 = fdd (S 88) w k 4 := hs.2.2.2.2.1.1
          have bc := byt_cls w k (by omega)
          have hh : ∀ i, ¬ i = 4 → i < 308 → fdd (S 88) w k i = S 88 i := fun i p p2 => by
            unfold fdd
            rw [if_neg p, if_neg (by omega)]
          have nx := SRn_tape hs (by rw [hh 186 (by omega) (by omega), hh 187 (by omega) (by omega)]; exact v9.1) (by rw [hh 5 (by omega) (by omega)]; exact v9.2.2) (by omega) (v := byt w k)
          rw [← fdd_s v4.1] at nx
          simp only [bk_X10_feed_0, k_X10_feed_0, bk_X10_feed_11, k_X10_feed_11, bk_X10_feed_18, k_X10_feed_18, bk_X10_feed_35, k_X10_feed_35, bk_X10_feed_42, k_X10_feed_42, bk_X10_feed_45, k_X10_feed_45, bk_X10_feed_80, k_X10_feed_80, ↓e_rk1, ↓e_rk0, ↓e_sk0, ↓e_sks, ↓e_ldi0, ↓e_ldis, ↓e_ldl0, ↓e_ldls, ↓e_lda0, ↓e_ldas, ↓e_ok0, ↓e_okss, ↓e_ok1i, ↓e_ok1r, ↓e_ok1n, ↓e_sti, ↓e_sta, ↓e_1, ↓e_2, ↓e_l1, ↓e_l2, ↓e_li, ↓e_sw0, ↓e_sws, ↓e_ceq, ↓e_cne, ↓e_clt, ↓e_cge, ↓e_cgt, ↓e_cle, ↓e_nil, ↓e_cons, ↓e_iconst, ↓e_bipush, ↓e_sipush, ↓e_ldc, ↓e_ldcw, ↓e_ldc2, ↓e_lconst, ↓e_iloadn, ↓e_iload, ↓e_lloadn, ↓e_lload, ↓e_aloadn, ↓e_aload, ↓e_istoren, ↓e_istore, ↓e_astoren, ↓e_astore, ↓e_add, ↓e_iinc, ↓e_iadd, ↓e_isub, ↓e_imul, ↓e_iand, ↓e_ior, ↓e_ixor, ↓e_ishl, ↓e_iushr, ↓e_idiv, ↓e_irem, ↓e_ineg, ↓e_i2l, ↓e_i2b, ↓e_i2s, ↓e_l2i, ↓e_land, ↓e_lor, ↓e_lshl, ↓e_lshr, ↓e_lushr, ↓e_lcmp, ↓e_dupi, ↓e_dupr, ↓e_popi, ↓e_dup2, ↓e_goto, ↓e_if, ↓e_icmp, ↓e_tsw, ↓e_lsw, ↓e_getf, ↓e_putf, ↓e_gets, ↓e_iald, ↓e_cald, ↓e_iast, ↓e_aald, ↓e_aast, ↓e_len, ↓e_copy, ↓e_abs, ↓e_max, ↓e_min, ↓e_iret, ↓e_aret, ↓e_vret, ↓e_is0, ↓e_is1, ↓e_is2, ↓e_is3, ↓e_is4, ↓e_iv1, ↓e_iv2, ↓e_iv3, ↓e_iv4, ↓e_iv5, ↓e_iv6, ↓rt_X10_feed, ↓reduceIte, Nat.reduceAdd, Nat.reduceEqDiff, ↓zcl0, ↓zclv, List.map_nil, List.sum_nil, List.map_cons, List.sum_cons, zcat, true_and, and_true, Nat.reduceLeDiff, Nat.reduceAdd, eq_self, forall_const, e_ok0, e_okss, e_ok1i, e_ok1r, e_ok1n, zl_m1000000004, zl_m1000000001, zl_0, zl_1, zl_8, zl_50, zl_255, Int.reduceToNat, Int.reduceAdd, Int.reduceMul, Int.reduceSub, Int.reduceNeg, Int.reduceLT, Int.reduceLE, Int.reduceEq, not_false_eq_true, not_true_eq_false, false_implies, true_implies, implies_true, Int.reduceDiv, Int.reduceMod, zr8_zr, zr_zbo, z01_zbo, z01_0, z01_1, zbo_eq0, zup_eq, zup_o, zup_k, ne_eq, ↓ct_x_feed_cfail, ↓r_cfail, ↓B_cfail, ↓ct_x_feed_radd, ↓r_radd, ↓B_radd, ↓v_0, ↓g_0_0, ↓g_0_1, ↓g_0_2, ↓g_0_3, ↓g_0_4, ↓g_0_5, ↓g_0_6, ↓g_0_7, ↓g_0_8, ↓l_78, ↓s_78, ↓n_78, ↓g_0_9, ↓p_0_9, ↓v_1, ↓g_1_0, ↓g_1_1, ↓g_1_2, ↓g_1_3, ↓g_1_4, ↓g_1_5, ↓g_1_6, ↓p_1_6, ↓v_22, ↓g_22_0, ↓l_23, ↓s_23, ↓n_23, ↓g_22_1, ↓p_22_1, zk, zn, lk, bc, e22]
          refine ⟨50, show rowb 22 50 from Or.inr (Or.inr (Or.inl ⟨rfl, rfl⟩)), by omega, by omega, fun q9 => ih (k + 1) _ (by omega) nx (fun x p p2 => by rw [zup_ne _ p, zup_ne _ p2, f x p p2]), fun q9 => by omega⟩
      refine bs_X10_feed_42 hX ?_
      simp only [bk_X10_feed_0, k_X10_feed_0, bk_X10_feed_11, k_X10_feed_11, bk_X10_feed_18, k_X10_feed_18, bk_X10_feed_35, k_X10_feed_35, bk_X10_feed_42, k_X10_feed_42, bk_X10_feed_45, k_X10_feed_45, bk_X10_feed_80, k_X10_feed_80, ↓e_rk1, ↓e_rk0, ↓e_sk0, ↓e_sks, ↓e_ldi0, ↓e_ldis, ↓e_ldl0, ↓e_ldls, ↓e_lda0, ↓e_ldas, ↓e_ok0, ↓e_okss, ↓e_ok1i, ↓e_ok1r, ↓e_ok1n, ↓e_sti, ↓e_sta, ↓e_1, ↓e_2, ↓e_l1, ↓e_l2, ↓e_li, ↓e_sw0, ↓e_sws, ↓e_ceq, ↓e_cne, ↓e_clt, ↓e_cge, ↓e_cgt, ↓e_cle, ↓e_nil, ↓e_cons, ↓e_iconst, ↓e_bipush, ↓e_sipush, ↓e_ldc, ↓e_ldcw, ↓e_ldc2, ↓e_lconst, ↓e_iloadn, ↓e_iload, ↓e_lloadn, ↓e_lload, ↓e_aloadn, ↓e_aload, ↓e_istoren, ↓e_istore, ↓e_astoren, ↓e_astore, ↓e_add, ↓e_iinc, ↓e_iadd, ↓e_isub, ↓e_imul, ↓e_iand, ↓e_ior, ↓e_ixor, ↓e_ishl, ↓e_iushr, ↓e_idiv, ↓e_irem, ↓e_ineg, ↓e_i2l, ↓e_i2b, ↓e_i2s, ↓e_l2i, ↓e_land, ↓e_lor, ↓e_lshl, ↓e_lshr, ↓e_lushr, ↓e_lcmp, ↓e_dupi, ↓e_dupr, ↓e_popi, ↓e_dup2, ↓e_goto, ↓e_if, ↓e_icmp, ↓e_tsw, ↓e_lsw, ↓e_getf, ↓e_putf, ↓e_gets, ↓e_iald, ↓e_cald, ↓e_iast, ↓e_aald, ↓e_aast, ↓e_len, ↓e_copy, ↓e_abs, ↓e_max, ↓e_min, ↓e_iret, ↓e_aret, ↓e_vret, ↓e_is0, ↓e_is1, ↓e_is2, ↓e_is3, ↓e_is4, ↓e_iv1, ↓e_iv2, ↓e_iv3, ↓e_iv4, ↓e_iv5, ↓e_iv6, ↓rt_X10_feed, ↓reduceIte, Nat.reduceAdd, Nat.reduceEqDiff, ↓zcl0, ↓zclv, List.map_nil, List.sum_nil, List.map_cons, List.sum_cons, zcat, true_and, and_true, Nat.reduceLeDiff, Nat.reduceAdd, eq_self, forall_const, e_ok0, e_okss, e_ok1i, e_ok1r, e_ok1n, zl_m1000000004, zl_m1000000001, zl_0, zl_1, zl_8, zl_50, zl_255, Int.reduceToNat, Int.reduceAdd, Int.reduceMul, Int.reduceSub, Int.reduceNeg, Int.reduceLT, Int.reduceLE, Int.reduceEq, not_false_eq_true, not_true_eq_false, false_implies, true_implies, implies_true, Int.reduceDiv, Int.reduceMod, zr8_zr, zr_zbo, z01_zbo, z01_0, z01_1, zbo_eq0, zup_eq, zup_o, zup_k, ne_eq, ↓ct_x_feed_cfail, ↓r_cfail, ↓B_cfail, ↓ct_x_feed_radd, ↓r_radd, ↓B_radd, ↓v_0, ↓g_0_0, ↓g_0_1, ↓g_0_2, ↓g_0_3, ↓g_0_4, ↓g_0_5, ↓g_0_6, ↓g_0_7, ↓g_0_8, ↓l_78, ↓s_78, ↓n_78, ↓g_0_9, ↓p_0_9]
      refine lp n.toNat 0 M (by omega) ?_ (fun _ _ _ => rfl)
      have : fdd (S 88) w 0 = S 88 := by
        funext y
        unfold fdd
        by_cases q4 : y = 4
        · rw [if_pos q4, q4]; omega
        · rw [if_neg q4, if_neg (by omega)]
      rw [this]
      exact n9
    have J18 : (1 ≤ n ∧ n ≤ 8) → X 18 [some (.inr (.inr (.inl 0))), some (.inr (.inl w)), none, some (.inl n), none] [] (zG, M) (0, 0) := by
      intro q
      refine bs_X10_feed_18 hX ?_
      have z4 : zr (S 88 4 + n) = S 88 4 + n := zr_of (by omega) (by omega)
      simp only [bk_X10_feed_0, k_X10_feed_0, bk_X10_feed_11, k_X10_feed_11, bk_X10_feed_18, k_X10_feed_18, bk_X10_feed_35, k_X10_feed_35, bk_X10_feed_42, k_X10_feed_42, bk_X10_feed_45, k_X10_feed_45, bk_X10_feed_80, k_X10_feed_80, ↓e_rk1, ↓e_rk0, ↓e_sk0, ↓e_sks, ↓e_ldi0, ↓e_ldis, ↓e_ldl0, ↓e_ldls, ↓e_lda0, ↓e_ldas, ↓e_ok0, ↓e_okss, ↓e_ok1i, ↓e_ok1r, ↓e_ok1n, ↓e_sti, ↓e_sta, ↓e_1, ↓e_2, ↓e_l1, ↓e_l2, ↓e_li, ↓e_sw0, ↓e_sws, ↓e_ceq, ↓e_cne, ↓e_clt, ↓e_cge, ↓e_cgt, ↓e_cle, ↓e_nil, ↓e_cons, ↓e_iconst, ↓e_bipush, ↓e_sipush, ↓e_ldc, ↓e_ldcw, ↓e_ldc2, ↓e_lconst, ↓e_iloadn, ↓e_iload, ↓e_lloadn, ↓e_lload, ↓e_aloadn, ↓e_aload, ↓e_istoren, ↓e_istore, ↓e_astoren, ↓e_astore, ↓e_add, ↓e_iinc, ↓e_iadd, ↓e_isub, ↓e_imul, ↓e_iand, ↓e_ior, ↓e_ixor, ↓e_ishl, ↓e_iushr, ↓e_idiv, ↓e_irem, ↓e_ineg, ↓e_i2l, ↓e_i2b, ↓e_i2s, ↓e_l2i, ↓e_land, ↓e_lor, ↓e_lshl, ↓e_lshr, ↓e_lushr, ↓e_lcmp, ↓e_dupi, ↓e_dupr, ↓e_popi, ↓e_dup2, ↓e_goto, ↓e_if, ↓e_icmp, ↓e_tsw, ↓e_lsw, ↓e_getf, ↓e_putf, ↓e_gets, ↓e_iald, ↓e_cald, ↓e_iast, ↓e_aald, ↓e_aast, ↓e_len, ↓e_copy, ↓e_abs, ↓e_max, ↓e_min, ↓e_iret, ↓e_aret, ↓e_vret, ↓e_is0, ↓e_is1, ↓e_is2, ↓e_is3, ↓e_is4, ↓e_iv1, ↓e_iv2, ↓e_iv3, ↓e_iv4, ↓e_iv5, ↓e_iv6, ↓rt_X10_feed, ↓reduceIte, Nat.reduceAdd, Nat.reduceEqDiff, ↓zcl0, ↓zclv, List.map_nil, List.sum_nil, List.map_cons, List.sum_cons, zcat, true_and, and_true, Nat.reduceLeDiff, Nat.reduceAdd, eq_self, forall_const, e_ok0, e_okss, e_ok1i, e_ok1r, e_ok1n, zl_m1000000004, zl_m1000000001, zl_0, zl_1, zl_8, zl_50, zl_255, Int.reduceToNat, Int.reduceAdd, Int.reduceMul, Int.reduceSub, Int.reduceNeg, Int.reduceLT, Int.reduceLE, Int.reduceEq, not_false_eq_true, not_true_eq_false, false_implies, true_implies, implies_true, Int.reduceDiv, Int.reduceMod, zr8_zr, zr_zbo, z01_zbo, z01_0, z01_1, zbo_eq0, zup_eq, zup_o, zup_k, ne_eq, ↓ct_x_feed_cfail, ↓r_cfail, ↓B_cfail, ↓ct_x_feed_radd, ↓r_radd, ↓B_radd, ↓v_0, ↓g_0_0, ↓g_0_1, ↓g_0_2, ↓g_0_3, ↓g_0_4, ↓g_0_5, ↓g_0_6, ↓g_0_7, ↓g_0_8, ↓l_78, ↓s_78, ↓n_78, ↓g_0_9, ↓p_0_9, ↓v_1, ↓g_1_0, ↓g_1_1, ↓g_1_2, ↓g_1_3, ↓g_1_4, ↓g_1_5, ↓g_1_6, ↓p_1_6, ↓v_22, ↓g_22_0, ↓l_23, ↓s_23, ↓n_23, ↓g_22_1, ↓p_22_1, e1, z4]
      repeat' (first | assumption | apply And.intro | intro _)
      all_goals first | (apply J42 q; omega) | (apply J35 q; omega)
    simp only [bk_X10_feed_0, k_X10_feed_0, bk_X10_feed_11, k_X10_feed_11, bk_X10_feed_18, k_X10_feed_18, bk_X10_feed_35, k_X10_feed_35, bk_X10_feed_42, k_X10_feed_42, bk_X10_feed_45, k_X10_feed_45, bk_X10_feed_80, k_X10_feed_80, ↓e_rk1, ↓e_rk0, ↓e_sk0, ↓e_sks, ↓e_ldi0, ↓e_ldis, ↓e_ldl0, ↓e_ldls, ↓e_lda0, ↓e_ldas, ↓e_ok0, ↓e_okss, ↓e_ok1i, ↓e_ok1r, ↓e_ok1n, ↓e_sti, ↓e_sta, ↓e_1, ↓e_2, ↓e_l1, ↓e_l2, ↓e_li, ↓e_sw0, ↓e_sws, ↓e_ceq, ↓e_cne, ↓e_clt, ↓e_cge, ↓e_cgt, ↓e_cle, ↓e_nil, ↓e_cons, ↓e_iconst, ↓e_bipush, ↓e_sipush, ↓e_ldc, ↓e_ldcw, ↓e_ldc2, ↓e_lconst, ↓e_iloadn, ↓e_iload, ↓e_lloadn, ↓e_lload, ↓e_aloadn, ↓e_aload, ↓e_istoren, ↓e_istore, ↓e_astoren, ↓e_astore, ↓e_add, ↓e_iinc, ↓e_iadd, ↓e_isub, ↓e_imul, ↓e_iand, ↓e_ior, ↓e_ixor, ↓e_ishl, ↓e_iushr, ↓e_idiv, ↓e_irem, ↓e_ineg, ↓e_i2l, ↓e_i2b, ↓e_i2s, ↓e_l2i, ↓e_land, ↓e_lor, ↓e_lshl, ↓e_lshr, ↓e_lushr, ↓e_lcmp, ↓e_dupi, ↓e_dupr, ↓e_popi, ↓e_dup2, ↓e_goto, ↓e_if, ↓e_icmp, ↓e_tsw, ↓e_lsw, ↓e_getf, ↓e_putf, ↓e_gets, ↓e_iald, ↓e_cald, ↓e_iast, ↓e_aald, ↓e_aast, ↓e_len, ↓e_copy, ↓e_abs, ↓e_max, ↓e_min, ↓e_iret, ↓e_aret, ↓e_vret, ↓e_is0, ↓e_is1, ↓e_is2, ↓e_is3, ↓e_is4, ↓e_iv1, ↓e_iv2, ↓e_iv3, ↓e_iv4, ↓e_iv5, ↓e_iv6, ↓rt_X10_feed, ↓reduceIte, Nat.reduceAdd, Nat.reduceEqDiff, ↓zcl0, ↓zclv, List.map_nil, List.sum_nil, List.map_cons, List.sum_cons, zcat, true_and, and_true, Nat.reduceLeDiff, Nat.reduceAdd, eq_self, forall_const, e_ok0, e_okss, e_ok1i, e_ok1r, e_ok1n, zl_m1000000004, zl_m1000000001, zl_0, zl_1, zl_8, zl_50, zl_255, Int.reduceToNat, Int.reduceAdd, Int.reduceMul, Int.reduceSub, Int.reduceNeg, Int.reduceLT, Int.reduceLE, Int.reduceEq, not_false_eq_true, not_true_eq_false, false_implies, true_implies, implies_true, Int.reduceDiv, Int.reduceMod, zr8_zr, zr_zbo, z01_zbo, z01_0, z01_1, zbo_eq0, zup_eq, zup_o, zup_k, ne_eq, ↓ct_x_feed_cfail, ↓r_cfail, ↓B_cfail, ↓ct_x_feed_radd, ↓r_radd, ↓B_radd, ↓v_0, ↓g_0_0, ↓g_0_1, ↓g_0_2, ↓g_0_3, ↓g_0_4, ↓g_0_5, ↓g_0_6, ↓g_0_7, ↓g_0_8, ↓l_78, ↓s_78, ↓n_78, ↓g_0_9, ↓p_0_9, zn]
    repeat' (first | assumption | apply And.intro | intro _)
    all_goals first | (apply J11; omega) | (apply J18; omega)
