/-! THE REFERENCE: common -/
def k_X11_common_0 : List ZI := [(.iload_n 0, 1, (0, [0], [])), (.istore_n 2, 1, (0, [2], [])), (.iload_n 1, 1, (0, [1], [])), (.istore_n 3, 1, (0, [3], []))]
theorem ok_X11_common_0 : zOK cX11_common 11 false 5 k_X11_common_0 0 = true := zOK_by (by decide +kernel)
def k_X11_common_4 : List ZI := [(.iload_n 3, 1, (0, [3], [])), (.ifCond .eq 16, 3, (0, [21], [])), (.iload_n 2, 1, (0, [2], [])), (.iload_n 3, 1, (0, [3], [])), (.irem, 1, (0, [], [])), (.istore 4, 2, (0, [4], [])), (.iload_n 3, 1, (0, [3], [])), (.istore_n 2, 1, (0, [2], [])), (.iload 4, 2, (0, [4], [])), (.istore_n 3, 1, (0, [3], [])), (.goto (-14), 3, (0, [4], []))]
theorem ok_X11_common_4 : zOK cX11_common 11 false 5 k_X11_common_4 4 = true := zOK_by (by decide +kernel)
def k_X11_common_21 : List ZI := [(.iload_n 2, 1, (0, [2], [])), (.ireturn, 1, (0, [], []))]
theorem ok_X11_common_21 : zOK cX11_common 11 false 5 k_X11_common_21 21 = true := zOK_by (by decide +kernel)
theorem rt_X11_common {g : Nat} {post : Option ZV → ZH → Prop} {h : ZH} {b : ZB2} {z : Int} : zRt mX11_common g post (some (.inl z)) h b = (post (some (.inl z)) h ∧ h.1.length = g) := by show (_ ∧ _ ∧ True) = _; simp
def bk_X11_common_0 (E : ZE) (CT : Nat → ZC) (X : ZK) (Rt : ZR) (ls : ZL) (st : List ZV) (h : ZH) (b : ZB2) : Prop := zB E CT k_X11_common_0 0 ls st h b (fun t ls st h b => X t ls st h b) Rt
theorem bs_X11_common_0 {E : ZE} {CT : Nat → ZC} {X : ZK} {Rt : ZR} {ls : ZL} {st : List ZV} {h : ZH} {b : ZB2} (hX : zCl E mX11_common 11 false CT Rt X) (q : bk_X11_common_0 E CT X Rt ls st h b) : X 0 ls st h b := by
  refine hX k_X11_common_0 0 ok_X11_common_0 _ ?_ ls st h b q
  exact fun t ls st h b q => q
def bk_X11_common_21 (E : ZE) (CT : Nat → ZC) (X : ZK) (Rt : ZR) (ls : ZL) (st : List ZV) (h : ZH) (b : ZB2) : Prop := zB E CT k_X11_common_21 21 ls st h b (fun t ls st h b => X t ls st h b) Rt
theorem bs_X11_common_21 {E : ZE} {CT : Nat → ZC} {X : ZK} {Rt : ZR} {ls : ZL} {st : List ZV} {h : ZH} {b : ZB2} (hX : zCl E mX11_common 11 false CT Rt X) (q : bk_X11_common_21 E CT X Rt ls st h b) : X 21 ls st h b := by
  refine hX k_X11_common_21 21 ok_X11_common_21 _ ?_ ls st h b q
  exact fun t ls st h b q => q
def bk_X11_common_4 (E : ZE) (CT : Nat → ZC) (X : ZK) (Rt : ZR) (ls : ZL) (st : List ZV) (h : ZH) (b : ZB2) : Prop := zB E CT k_X11_common_4 4 ls st h b (fun t ls st h b => if t = 21 then bk_X11_common_21 E CT X Rt ls st h b else X t ls st h b) Rt
theorem bs_X11_common_4 {E : ZE} {CT : Nat → ZC} {X : ZK} {Rt : ZR} {ls : ZL} {st : List ZV} {h : ZH} {b : ZB2} (hX : zCl E mX11_common 11 false CT Rt X) (q : bk_X11_common_4 E CT X Rt ls st h b) : X 4 ls st h b := by
  refine hX k_X11_common_4 4 ok_X11_common_4 _ ?_ ls st h b q
  exact by
    intro t ls st h b q
    by_cases c : t = 21
    · subst c; rw [if_pos rfl] at q; exact bs_X11_common_21 hX q
    rw [if_neg c] at q
    exact q
-- X11_common: cuts [4]
def gcf (a b : Int) : Int := ((Nat.gcd a.toNat b.toNat : Nat) : Int)
def B_common (a : Int) (b : Int) (post : Option ZV → Prop) : Prop := 0 ≤ a ∧ a ≤ 1000 ∧ 0 ≤ b ∧ b ≤ 1000 ∧ post (some (.inl (gcf a b)))
def C_common : ZC := fun as h post => match as with
  | [.inl a, .inl b] => B_common a b (fun v => post v h)
  | _ => False
theorem r_common {a : Int} {b : Int} {h : ZH} {post : Option ZV → ZH → Prop} : C_common [.inl a, .inl b] h post = B_common a b (fun v => post v h) := rfl
def ct_common : Nat → ZC := fun n => fun _ _ _ => False
theorem c_common {E : ZE} {d : Nat} (hd : 1 ≤ d) : zMet E d mX11_common C_common := by
  refine zmet_of (o := 11) (ini := false) (CT := ct_common) gd_X11_common rfl (fun h => by cases h) (by omega) ?_ ?_
  · intro n as h post hh
    unfold ct_common at hh
    exact hh.elim
  intro as h post hC
  match as, hC with
  | [.inl a, .inl b], hC =>
    refine ⟨Nat.le_of_ble_eq_true rfl, fun X hX => bs_X11_common_0 hX ?_⟩
    have hC : B_common a b (fun v => post v h) := hC
    simp only [B_common] at hC
    show bk_X11_common_0 E ct_common X _ [some (.inl a), some (.inl b), none, none, none] [] h (0, 0)
    obtain ⟨h1, h2, h3, h4, hC⟩ := hC
    unfold gcf at hC
    simp only [bk_X11_common_0, k_X11_common_0, bk_X11_common_4, k_X11_common_4, bk_X11_common_21, k_X11_common_21, ↓e_rk1, ↓e_rk0, ↓e_sk0, ↓e_sks, ↓e_ldi0, ↓e_ldis, ↓e_ldl0, ↓e_ldls, ↓e_lda0, ↓e_ldas, ↓e_ok0, ↓e_okss, ↓e_ok1i, ↓e_ok1r, ↓e_ok1n, ↓e_sti, ↓e_sta, ↓e_1, ↓e_2, ↓e_l1, ↓e_l2, ↓e_li, ↓e_sw0, ↓e_sws, ↓e_ceq, ↓e_cne, ↓e_clt, ↓e_cge, ↓e_cgt, ↓e_cle, ↓e_nil, ↓e_cons, ↓e_iconst, ↓e_bipush, ↓e_sipush, ↓e_ldc, ↓e_ldcw, ↓e_ldc2, ↓e_lconst, ↓e_iloadn, ↓e_iload, ↓e_lloadn, ↓e_lload, ↓e_aloadn, ↓e_aload, ↓e_istoren, ↓e_istore, ↓e_astoren, ↓e_astore, ↓e_add, ↓e_iinc, ↓e_iadd, ↓e_isub, ↓e_imul, ↓e_iand, ↓e_ior, ↓e_ixor, ↓e_ishl, ↓e_iushr, ↓e_idiv, ↓e_irem, ↓e_ineg, ↓e_i2l, ↓e_i2b, ↓e_i2s, ↓e_l2i, ↓e_land, ↓e_lor, ↓e_lshl, ↓e_lshr, ↓e_lushr, ↓e_lcmp, ↓e_dupi, ↓e_dupr, ↓e_popi, ↓e_dup2, ↓e_goto, ↓e_if, ↓e_icmp, ↓e_tsw, ↓e_lsw, ↓e_getf, ↓e_putf, ↓e_gets, ↓e_iald, ↓e_cald, ↓e_iast, ↓e_aald, ↓e_aast, ↓e_len, ↓e_copy, ↓e_abs, ↓e_max, ↓e_min, ↓e_iret, ↓e_aret, ↓e_vret, ↓e_is0, ↓e_is1, ↓e_is2, ↓e_is3, ↓e_is4, ↓e_iv1, ↓e_iv2, ↓e_iv3, ↓e_iv4, ↓e_iv5, ↓e_iv6, ↓rt_X11_common, ↓reduceIte, Nat.reduceAdd, Nat.reduceEqDiff, ↓zcl0, ↓zclv, List.map_nil, List.sum_nil, List.map_cons, List.sum_cons, zcat, true_and, and_true, Nat.reduceLeDiff, Nat.reduceAdd, eq_self, forall_const, e_ok0, e_okss, e_ok1i, e_ok1r, e_ok1n, Int.reduceToNat, Int.reduceAdd, Int.reduceMul, Int.reduceSub, Int.reduceNeg, Int.reduceLT, Int.reduceLE, Int.reduceEq, not_false_eq_true, not_true_eq_false, false_implies, true_implies, implies_true, Int.reduceDiv, Int.reduceMod, zr8_zr, zr_zbo, z01_zbo, z01_0, z01_1, zbo_eq0, zup_eq, zup_o, zup_k, ne_eq]
    have lp : ∀ (j y x : Nat) (l : Option ZV), y < j → y ≤ 1000 → x ≤ 1000 → Nat.gcd x y = Nat.gcd a.toNat b.toNat → X 4 [some (.inl a), some (.inl b), some (.inl (x : Int)), some (.inl (y : Int)), l] [] h (0, 0) := by
      intro j
      induction j with
      | zero => intro y x l hj; omega
      | succ j ih =>
        intro y x l hj hy hx hg
        refine bs_X11_common_4 hX ?_
        have zy : zr (y : Int) = y := zr_of (by omega) (by omega)
        have zx : zr (x : Int) = x := zr_of (by omega) (by omega)
        simp only [bk_X11_common_0, k_X11_common_0, bk_X11_common_4, k_X11_common_4, bk_X11_common_21, k_X11_common_21, ↓e_rk1, ↓e_rk0, ↓e_sk0, ↓e_sks, ↓e_ldi0, ↓e_ldis, ↓e_ldl0, ↓e_ldls, ↓e_lda0, ↓e_ldas, ↓e_ok0, ↓e_okss, ↓e_ok1i, ↓e_ok1r, ↓e_ok1n, ↓e_sti, ↓e_sta, ↓e_1, ↓e_2, ↓e_l1, ↓e_l2, ↓e_li, ↓e_sw0, ↓e_sws, ↓e_ceq, ↓e_cne, ↓e_clt, ↓e_cge, ↓e_cgt, ↓e_cle, ↓e_nil, ↓e_cons, ↓e_iconst, ↓e_bipush, ↓e_sipush, ↓e_ldc, ↓e_ldcw, ↓e_ldc2, ↓e_lconst, ↓e_iloadn, ↓e_iload, ↓e_lloadn, ↓e_lload, ↓e_aloadn, ↓e_aload, ↓e_istoren, ↓e_istore, ↓e_astoren, ↓e_astore, ↓e_add, ↓e_iinc, ↓e_iadd, ↓e_isub, ↓e_imul, ↓e_iand, ↓e_ior, ↓e_ixor, ↓e_ishl, ↓e_iushr, ↓e_idiv, ↓e_irem, ↓e_ineg, ↓e_i2l, ↓e_i2b, ↓e_i2s, ↓e_l2i, ↓e_land, ↓e_lor, ↓e_lshl, ↓e_lshr, ↓e_lushr, ↓e_lcmp, ↓e_dupi, ↓e_dupr, ↓e_popi, ↓e_dup2, ↓e_goto, ↓e_if, ↓e_icmp, ↓e_tsw, ↓e_lsw, ↓e_getf, ↓e_putf, ↓e_gets, ↓e_iald, ↓e_cald, ↓e_iast, ↓e_aald, ↓e_aast, ↓e_len, ↓e_copy, ↓e_abs, ↓e_max, ↓e_min, ↓e_iret, ↓e_aret, ↓e_vret, ↓e_is0, ↓e_is1, ↓e_is2, ↓e_is3, ↓e_is4, ↓e_iv1, ↓e_iv2, ↓e_iv3, ↓e_iv4, ↓e_iv5, ↓e_iv6, ↓rt_X11_common, ↓reduceIte, Nat.reduceAdd, Nat.reduceEqDiff, ↓zcl0, ↓zclv, List.map_nil, List.sum_nil, List.map_cons, List.sum_cons, zcat, true_and, and_true, Nat.reduceLeDiff, Nat.reduceAdd, eq_self, forall_const, e_ok0, e_okss, e_ok1i, e_ok1r, e_ok1n, Int.reduceToNat, Int.reduceAdd, Int.reduceMul, Int.reduceSub, Int.reduceNeg, Int.reduceLT, Int.reduceLE, Int.reduceEq, not_false_eq_true, not_true_eq_false, false_implies, true_implies, implies_true, Int.reduceDiv, Int.reduceMod, zr8_zr, zr_zbo, z01_zbo, z01_0, z01_1, zbo_eq0, zup_eq, zup_o, zup_k, ne_eq, zy, zx]
        refine ⟨fun c => ?_, fun c => ⟨c, ?_⟩⟩
        · have y0 : y = 0 := by omega
          rw [y0, Nat.gcd_zero_right] at hg
          rw [hg]
          exact hC
        · have e : (x : Int).tmod (y : Int) = ((x % y : Nat) : Int) := by
            rw [tm_of (by omega)]
            omega
          have l1 : x % y < y := Nat.mod_lt _ (by omega)
          rw [e]
          refine ih (x % y) y _ (by omega) (by omega) hy ?_
          rw [← hg, Nat.gcd_comm, ← Nat.gcd_rec, Nat.gcd_comm]
    have := lp 1001 b.toNat a.toNat none (by omega) (by omega) (by omega) rfl
    rw [Int.toNat_of_nonneg h1, Int.toNat_of_nonneg h3] at this
    exact this
