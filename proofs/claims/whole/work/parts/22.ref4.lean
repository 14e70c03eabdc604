/-! THE REFERENCE: which way a head hearkens to -/
theorem ptk_rng {kd m yr r dw fa la : Int} (h1 : 0 ≤ la) (h2 : la ≤ 4) : 0 ≤ ptk kd m yr r dw fa la ∧ ptk kd m yr r dw fa la ≤ 4 := by
  have a1 := srv_rng r dw
  have a2 := plain_rng r dw
  have a3 : 0 ≤ drm m yr r dw ∧ drm m yr r dw ≤ 4 := trn_rng a2.1
  have a4 : 0 ≤ fwd m yr r dw ∧ fwd m yr r dw ≤ 4 := trn_rng a2.1
  have a5 := trn_rng (q := 2) a3.1
  unfold ptk
  repeat' split
  all_goals omega
theorem Vd_pts {d : Nat → Int} (h : Vd d) {e : Int} (h1 : 0 ≤ e) (h2 : e < 8) : 0 ≤ pts d e ∧ pts d e ≤ 4 := by
  have h3 := (Vd_ei h h1 h2).2.2
  have h4 := (Vd_hi h (e := ei d e 2) h3.1 (by omega)).2.2.2
  exact ptk_rng h4.1 h4.2
def k_X11_hearkens_0 : List ZI := [(.iconst 4, 1, (0, [], [])), (.istore_n 2, 1, (0, [2], [])), (.iconst 0, 1, (0, [], [])), (.istore_n 3, 1, (0, [3], [])), (.iconst 0, 1, (0, [], [])), (.istore 4, 2, (0, [4], []))]
theorem ok_X11_hearkens_0 : zOK cX11_hearkens 11 false 7 k_X11_hearkens_0 0 = true := zOK_by (by decide +kernel)
def k_X11_hearkens_7 : List ZI := [(.iload 4, 2, (0, [4], [])), (.iconst 4, 1, (0, [], [])), (.if_icmp .ge 90, 3, (0, [100], [])), (.iconst 0, 1, (0, [], [])), (.istore 5, 2, (0, [5], [])), (.iconst 0, 1, (0, [], [])), (.istore 6, 2, (0, [6], []))]
theorem ok_X11_hearkens_7 : zOK cX11_hearkens 11 false 7 k_X11_hearkens_7 7 = true := zOK_by (by decide +kernel)
def k_X11_hearkens_19 : List ZI := [(.iload 6, 2, (0, [6], [])), (.aload_n 0, 1, (0, [0], [])), (.getfield 7, 3, (0, [11, 0], [])), (.iconst 0, 1, (0, [], [])), (.iaload, 1, (0, [], [])), (.if_icmp .ge 55, 3, (0, [82], [])), (.iload 5, 2, (0, [5], [])), (.iload 6, 2, (0, [6], [])), (.aload_n 0, 1, (0, [0], [])), (.getfield 31, 3, (0, [11, 15], [])), (.if_icmp .eq 34, 3, (0, [72], [])), (.aload_n 0, 1, (0, [0], [])), (.iload 6, 2, (0, [6], [])), (.iconst 2, 1, (0, [], [])), (.invokevirtual 167, 3, (0, [126, 3, 0, 11], [])), (.iload_n 1, 1, (0, [1], [])), (.if_icmp .ne 23, 3, (0, [72], [])), (.aload_n 0, 1, (0, [0], [])), (.iload 6, 2, (0, [6], [])), (.invokevirtual 182, 3, (0, [158, 2, 0, 11], [])), (.iload 4, 2, (0, [4], [])), (.if_icmp .ne 12, 3, (0, [72], [])), (.aload_n 0, 1, (0, [0], [])), (.iload 6, 2, (0, [6], [])), (.invokevirtual 185, 3, (0, [160, 2, 0, 11], [])), (.goto 4, 3, (0, [73], []))]
theorem ok_X11_hearkens_19 : zOK cX11_hearkens 11 false 7 k_X11_hearkens_19 19 = true := zOK_by (by decide +kernel)
def k_X11_hearkens_72 : List ZI := [(.iconst 0, 1, (0, [], []))]
theorem ok_X11_hearkens_72 : zOK cX11_hearkens 11 false 7 k_X11_hearkens_72 72 = true := zOK_by (by decide +kernel)
def k_X11_hearkens_73 : List ZI := [(.iadd, 1, (0, [], [])), (.istore 5, 2, (0, [5], [])), (.iinc 6 1, 3, (0, [6], [])), (.goto (-60), 3, (0, [19], []))]
theorem ok_X11_hearkens_73 : zOK cX11_hearkens 11 false 7 k_X11_hearkens_73 73 = true := zOK_by (by decide +kernel)
def k_X11_hearkens_82 : List ZI := [(.iload 5, 2, (0, [5], [])), (.iload_n 3, 1, (0, [3], [])), (.if_icmp .le 9, 3, (0, [94], [])), (.iload 4, 2, (0, [4], [])), (.istore_n 2, 1, (0, [2], [])), (.iload 5, 2, (0, [5], [])), (.istore_n 3, 1, (0, [3], []))]
theorem ok_X11_hearkens_82 : zOK cX11_hearkens 11 false 7 k_X11_hearkens_82 82 = true := zOK_by (by decide +kernel)
def k_X11_hearkens_94 : List ZI := [(.iinc 4 1, 3, (0, [4], [])), (.goto (-90), 3, (0, [7], []))]
theorem ok_X11_hearkens_94 : zOK cX11_hearkens 11 false 7 k_X11_hearkens_94 94 = true := zOK_by (by decide +kernel)
def k_X11_hearkens_100 : List ZI := [(.iload_n 2, 1, (0, [2], [])), (.ireturn, 1, (0, [], []))]
theorem ok_X11_hearkens_100 : zOK cX11_hearkens 11 false 7 k_X11_hearkens_100 100 = true := zOK_by (by decide +kernel)
theorem rt_X11_hearkens {g : Nat} {post : Option ZV → ZH → Prop} {h : ZH} {b : ZB2} {z : Int} : zRt mX11_hearkens g post (some (.inl z)) h b = (post (some (.inl z)) h ∧ h.1.length = g) := by show (_ ∧ _ ∧ True) = _; simp
def bk_X11_hearkens_0 (E : ZE) (CT : Nat → ZC) (X : ZK) (Rt : ZR) (ls : ZL) (st : List ZV) (h : ZH) (b : ZB2) : Prop := zB E CT k_X11_hearkens_0 0 ls st h b (fun t ls st h b => X t ls st h b) Rt
theorem bs_X11_hearkens_0 {E : ZE} {CT : Nat → ZC} {X : ZK} {Rt : ZR} {ls : ZL} {st : List ZV} {h : ZH} {b : ZB2} (hX : zCl E mX11_hearkens 11 false CT Rt X) (q : bk_X11_hearkens_0 E CT X Rt ls st h b) : X 0 ls st h b := by
  refine hX k_X11_hearkens_0 0 ok_X11_hearkens_0 _ ?_ ls st h b q
  exact fun t ls st h b q => q
def bk_X11_hearkens_100 (E : ZE) (CT : Nat → ZC) (X : ZK) (Rt : ZR) (ls : ZL) (st : List ZV) (h : ZH) (b : ZB2) : Prop := zB E CT k_X11_hearkens_100 100 ls st h b (fun t ls st h b => X t ls st h b) Rt
theorem bs_X11_hearkens_100 {E : ZE} {CT : Nat → ZC} {X : ZK} {Rt : ZR} {ls : ZL} {st : List ZV} {h : ZH} {b : ZB2} (hX : zCl E mX11_hearkens 11 false CT Rt X) (q : bk_X11_hearkens_100 E CT X Rt ls st h b) : X 100 ls st h b := by
  refine hX k_X11_hearkens_100 100 ok_X11_hearkens_100 _ ?_ ls st h b q
  exact fun t ls st h b q => q
def bk_X11_hearkens_7 (E : ZE) (CT : Nat → ZC) (X : ZK) (Rt : ZR) (ls : ZL) (st : List ZV) (h : ZH) (b : ZB2) : Prop := zB E CT k_X11_hearkens_7 7 ls st h b (fun t ls st h b => if t = 100 then bk_X11_hearkens_100 E CT X Rt ls st h b else X t ls st h b) Rt
theorem bs_X11_hearkens_7 {E : ZE} {CT : Nat → ZC} {X : ZK} {Rt : ZR} {ls : ZL} {st : List ZV} {h : ZH} {b : ZB2} (hX : zCl E mX11_hearkens 11 false CT Rt X) (q : bk_X11_hearkens_7 E CT X Rt ls st h b) : X 7 ls st h b := by
  refine hX k_X11_hearkens_7 7 ok_X11_hearkens_7 _ ?_ ls st h b q
  exact by
    intro t ls st h b q
    by_cases c : t = 100
    · subst c; rw [if_pos rfl] at q; exact bs_X11_hearkens_100 hX q
    rw [if_neg c] at q
    exact q
def bk_X11_hearkens_73 (E : ZE) (CT : Nat → ZC) (X : ZK) (Rt : ZR) (ls : ZL) (st : List ZV) (h : ZH) (b : ZB2) : Prop := zB E CT k_X11_hearkens_73 73 ls st h b (fun t ls st h b => X t ls st h b) Rt
theorem bs_X11_hearkens_73 {E : ZE} {CT : Nat → ZC} {X : ZK} {Rt : ZR} {ls : ZL} {st : List ZV} {h : ZH} {b : ZB2} (hX : zCl E mX11_hearkens 11 false CT Rt X) (q : bk_X11_hearkens_73 E CT X Rt ls st h b) : X 73 ls st h b := by
  refine hX k_X11_hearkens_73 73 ok_X11_hearkens_73 _ ?_ ls st h b q
  exact fun t ls st h b q => q
def bk_X11_hearkens_72 (E : ZE) (CT : Nat → ZC) (X : ZK) (Rt : ZR) (ls : ZL) (st : List ZV) (h : ZH) (b : ZB2) : Prop := zB E CT k_X11_hearkens_72 72 ls st h b (fun t ls st h b => if t = 73 then bk_X11_hearkens_73 E CT X Rt ls st h b else X t ls st h b) Rt
theorem bs_X11_hearkens_72 {E : ZE} {CT : Nat → ZC} {X : ZK} {Rt : ZR} {ls : ZL} {st : List ZV} {h : ZH} {b : ZB2} (hX : zCl E mX11_hearkens 11 false CT Rt X) (q : bk_X11_hearkens_72 E CT X Rt ls st h b) : X 72 ls st h b := by
  refine hX k_X11_hearkens_72 72 ok_X11_hearkens_72 _ ?_ ls st h b q
  exact by
    intro t ls st h b q
    by_cases c : t = 73
    · subst c; rw [if_pos rfl] at q; exact bs_X11_hearkens_73 hX q
    rw [if_neg c] at q
    exact q
def bk_X11_hearkens_94 (E : ZE) (CT : Nat → ZC) (X : ZK) (Rt : ZR) (ls : ZL) (st : List ZV) (h : ZH) (b : ZB2) : Prop := zB E CT k_X11_hearkens_94 94 ls st h b (fun t ls st h b => X t ls st h b) Rt
theorem bs_X11_hearkens_94 {E : ZE} {CT : Nat → ZC} {X : ZK} {Rt : ZR} {ls : ZL} {st : List ZV} {h : ZH} {b : ZB2} (hX : zCl E mX11_hearkens 11 false CT Rt X) (q : bk_X11_hearkens_94 E CT X Rt ls st h b) : X 94 ls st h b := by
  refine hX k_X11_hearkens_94 94 ok_X11_hearkens_94 _ ?_ ls st h b q
  exact fun t ls st h b q => q
def bk_X11_hearkens_82 (E : ZE) (CT : Nat → ZC) (X : ZK) (Rt : ZR) (ls : ZL) (st : List ZV) (h : ZH) (b : ZB2) : Prop := zB E CT k_X11_hearkens_82 82 ls st h b (fun t ls st h b => if t = 94 then bk_X11_hearkens_94 E CT X Rt ls st h b else X t ls st h b) Rt
theorem bs_X11_hearkens_82 {E : ZE} {CT : Nat → ZC} {X : ZK} {Rt : ZR} {ls : ZL} {st : List ZV} {h : ZH} {b : ZB2} (hX : zCl E mX11_hearkens 11 false CT Rt X) (q : bk_X11_hearkens_82 E CT X Rt ls st h b) : X 82 ls st h b := by
  refine hX k_X11_hearkens_82 82 ok_X11_hearkens_82 _ ?_ ls st h b q
  exact by
    intro t ls st h b q
    by_cases c : t = 94
    · subst c; rw [if_pos rfl] at q; exact bs_X11_hearkens_94 hX q
    rw [if_neg c] at q
    exact q
def bk_X11_hearkens_19 (E : ZE) (CT : Nat → ZC) (X : ZK) (Rt : ZR) (ls : ZL) (st : List ZV) (h : ZH) (b : ZB2) : Prop := zB E CT k_X11_hearkens_19 19 ls st h b (fun t ls st h b => if t = 72 then bk_X11_hearkens_72 E CT X Rt ls st h b else if t = 73 then bk_X11_hearkens_73 E CT X Rt ls st h b else if t = 82 then bk_X11_hearkens_82 E CT X Rt ls st h b else X t ls st h b) Rt
theorem bs_X11_hearkens_19 {E : ZE} {CT : Nat → ZC} {X : ZK} {Rt : ZR} {ls : ZL} {st : List ZV} {h : ZH} {b : ZB2} (hX : zCl E mX11_hearkens 11 false CT Rt X) (q : bk_X11_hearkens_19 E CT X Rt ls st h b) : X 19 ls st h b := by
  refine hX k_X11_hearkens_19 19 ok_X11_hearkens_19 _ ?_ ls st h b q
  exact by
    intro t ls st h b q
    by_cases c : t = 72
    · subst c; rw [if_pos rfl] at q; exact bs_X11_hearkens_72 hX q
    rw [if_neg c] at q
    by_cases c : t = 73
    · subst c; rw [if_pos rfl] at q; exact bs_X11_hearkens_73 hX q
    rw [if_neg c] at q
    by_cases c : t = 82
    · subst c; rw [if_pos rfl] at q; exact bs_X11_hearkens_82 hX q
    rw [if_neg c] at q
    exact q
-- X11_hearkens: cuts [7, 19]
def B_hearkens (g : Int) (M : Nat → Nat → Int) (post : Option ZV → (Nat → Nat → Int) → Prop) : Prop := 0 ≤ g ∧ g < 2 ∧ rg (M 87 15) ∧ Vd (M 88) ∧ ∀ M' : ZMm, (∀ x, ¬ x = 92 → ¬ x = 94 → M' x = M x) → post (some (.inl (hk (M 88) (M 87 15) g))) M'
def C_hearkens : ZC := fun as h post => match as with
  | [.inr (.inr (.inl 87)), .inl g] => h.1 = zG ∧ B_hearkens g h.2 (fun v M => post v (zG, M))
  | _ => False
theorem r_hearkens {g : Int} {M : Nat → Nat → Int} {post : Option ZV → ZH → Prop} : C_hearkens [.inr (.inr (.inl 87)), .inl g] (zG, M) post = B_hearkens g M (fun v M => post v (zG, M)) := by show (zG = zG ∧ _) = _; simp
def ct_hearkens : Nat → ZC := fun n => if n = 126 then C_of else if n = 158 then C_points else if n = 160 then C_gives else fun _ _ _ => False
theorem ct_hearkens_of {as : List ZV} {h : ZH} {post : Option ZV → ZH → Prop} : ct_hearkens 126 as h post = C_of as h post := rfl
theorem ct_hearkens_points {as : List ZV} {h : ZH} {post : Option ZV → ZH → Prop} : ct_hearkens 158 as h post = C_points as h post := rfl
theorem ct_hearkens_gives {as : List ZV} {h : ZH} {post : Option ZV → ZH → Prop} : ct_hearkens 160 as h post = C_gives as h post := rfl
theorem c_hearkens {E : ZE} {d : Nat} (hd : 6 ≤ d) : zMet E d mX11_hearkens C_hearkens := by
  refine zmet_of (o := 11) (ini := false) (CT := ct_hearkens) gd_X11_hearkens rfl (fun h => by cases h) (by omega) ?_ ?_
  · intro n as h post hh
    unfold ct_hearkens at hh
    by_cases c : n = 126
    · subst c; exact ⟨gd_X11_of, 1, by omega, c_of (by omega)⟩
    rw [if_neg c] at hh
    by_cases c : n = 158
    · subst c; exact ⟨gd_X11_points, 4, by omega, c_points (by omega)⟩
    rw [if_neg c] at hh
    by_cases c : n = 160
    · subst c; exact ⟨gd_X11_gives, 5, by omega, c_gives (by omega)⟩
    rw [if_neg c] at hh
    exact hh.elim
  intro as h post hC
  match as, hC with
  | [.inr (.inr (.inl 87)), .inl g], hC =>
    refine ⟨Nat.le_of_ble_eq_true rfl, fun X hX => bs_X11_hearkens_0 hX ?_⟩
    obtain ⟨G, M⟩ := h
    obtain ⟨hG, hC⟩ := hC
    dsimp only at hG
    subst hG
    simp only [B_hearkens] at hC
    show bk_X11_hearkens_0 E ct_hearkens X _ [some (.inr (.inr (.inl 87))), some (.inl g), none, none, none, none, none] [] (zG, M) (0, 0)
    obtain ⟨h1, h2, h3, h4, hC⟩ := hC
    have hN := h4.1
    have zg : zr g = g := zr_of (by omega) (by omega)
    have zN : zr (M 88 0) = M 88 0 := zr_of (by omega) (by omega)
    have zwo : zr (M 87 15) = M 87 15 := zr_rg h3
    simp only [bk_X11_hearkens_0, k_X11_hearkens_0, bk_X11_hearkens_7, k_X11_hearkens_7, bk_X11_hearkens_19, k_X11_hearkens_19, bk_X11_hearkens_72, k_X11_hearkens_72, bk_X11_hearkens_73, k_X11_hearkens_73, bk_X11_hearkens_82, k_X11_hearkens_82, bk_X11_hearkens_94, k_X11_hearkens_94, bk_X11_hearkens_100, k_X11_hearkens_100, ↓e_rk1, ↓e_rk0, ↓e_sk0, ↓e_sks, ↓e_ldi0, ↓e_ldis, ↓e_ldl0, ↓e_ldls, ↓e_lda0, ↓e_ldas, ↓e_ok0, ↓e_okss, ↓e_ok1i, ↓e_ok1r, ↓e_ok1n, ↓e_sti, ↓e_sta, ↓e_1, ↓e_2, ↓e_l1, ↓e_l2, ↓e_li, ↓e_sw0, ↓e_sws, ↓e_ceq, ↓e_cne, ↓e_clt, ↓e_cge, ↓e_cgt, ↓e_cle, ↓e_nil, ↓e_cons, ↓e_iconst, ↓e_bipush, ↓e_sipush, ↓e_ldc, ↓e_ldcw, ↓e_ldc2, ↓e_lconst, ↓e_iloadn, ↓e_iload, ↓e_lloadn, ↓e_lload, ↓e_aloadn, ↓e_aload, ↓e_istoren, ↓e_istore, ↓e_astoren, ↓e_astore, ↓e_add, ↓e_iinc, ↓e_iadd, ↓e_isub, ↓e_imul, ↓e_iand, ↓e_ior, ↓e_ixor, ↓e_ishl, ↓e_iushr, ↓e_idiv, ↓e_irem, ↓e_ineg, ↓e_i2l, ↓e_i2b, ↓e_i2s, ↓e_l2i, ↓e_land, ↓e_lor, ↓e_lshl, ↓e_lshr, ↓e_lushr, ↓e_lcmp, ↓e_dupi, ↓e_dupr, ↓e_popi, ↓e_dup2, ↓e_goto, ↓e_if, ↓e_icmp, ↓e_tsw, ↓e_lsw, ↓e_getf, ↓e_putf, ↓e_gets, ↓e_iald, ↓e_cald, ↓e_iast, ↓e_aald, ↓e_aast, ↓e_len, ↓e_copy, ↓e_abs, ↓e_max, ↓e_min, ↓e_iret, ↓e_aret, ↓e_vret, ↓e_is0, ↓e_is1, ↓e_is2, ↓e_is3, ↓e_is4, ↓e_iv1, ↓e_iv2, ↓e_iv3, ↓e_iv4, ↓e_iv5, ↓e_iv6, ↓rt_X11_hearkens, ↓reduceIte, Nat.reduceAdd, Nat.reduceEqDiff, ↓zcl0, ↓zclv, List.map_nil, List.sum_nil, List.map_cons, List.sum_cons, zcat, true_and, and_true, Nat.reduceLeDiff, Nat.reduceAdd, eq_self, forall_const, e_ok0, e_okss, e_ok1i, e_ok1r, e_ok1n, zl_0, zl_2, zl_4, Int.reduceToNat, Int.reduceAdd, Int.reduceMul, Int.reduceSub, Int.reduceNeg, Int.reduceLT, Int.reduceLE, Int.reduceEq, not_false_eq_true, not_true_eq_false, false_implies, true_implies, implies_true, Int.reduceDiv, Int.reduceMod, zr8_zr, zr_zbo, z01_zbo, z01_0, z01_1, zbo_eq0, zup_eq, zup_o, zup_k, ne_eq, ↓ct_hearkens_of, ↓r_of, ↓B_of, ↓ct_hearkens_points, ↓r_points, ↓B_points, ↓ct_hearkens_gives, ↓r_gives, ↓B_gives, ↓v_87, ↓g_87_0, ↓l_88, ↓s_88, ↓n_88, ↓g_87_1, ↓l_89, ↓s_89, ↓n_89, ↓g_87_2, ↓l_90, ↓s_90, ↓n_90, ↓g_87_3, ↓p_87_3, ↓g_87_4, ↓l_91, ↓s_91, ↓n_91, ↓g_87_5, ↓p_87_5, ↓g_87_6, ↓p_87_6, ↓g_87_7, ↓p_87_7, ↓g_87_8, ↓p_87_8, ↓g_87_9, ↓p_87_9, ↓g_87_10, ↓p_87_10, ↓g_87_11, ↓l_92, ↓s_92, ↓n_92, ↓g_87_12, ↓l_93, ↓s_93, ↓n_93, ↓g_87_13, ↓p_87_13, ↓g_87_14, ↓l_94, ↓s_94, ↓n_94, ↓g_87_15, ↓p_87_15, ↓g_87_16, ↓l_95, ↓s_95, ↓n_95, ↓g_87_17, ↓l_96, ↓s_96, ↓n_96, ↓g_87_18, ↓l_97, ↓s_97, ↓n_97, ↓g_87_19, ↓p_87_19, ↓g_87_20, ↓p_87_20, ↓g_87_21, ↓l_98, ↓s_98, ↓n_98, ↓g_87_22, ↓l_99, ↓s_99, ↓n_99, ↓g_87_23, ↓l_100, ↓s_100, ↓n_100, ↓g_87_24, ↓l_101, ↓s_101, ↓n_101]
    obtain ⟨wo, hwo⟩ : ∃ x, M 87 15 = x := ⟨_, rfl⟩
    obtain ⟨dd, hdd⟩ : ∃ x, M 88 = x := ⟨_, rfl⟩
    rw [hwo] at hC zwo
    rw [hdd] at hC zN hN h4
    have outer : ∀ (j w : Nat) (M' : ZMm) (x5 x6 : Option ZV), j + w = 4 → (∀ x, ¬ x = 92 → ¬ x = 94 → M' x = M x) → X 7 [some (.inr (.inr (.inl 87))), some (.inl g), some (.inl (hkw dd wo g w).1), some (.inl (hkw dd wo g w).2), some (.inl (w : Int)), x5, x6] [] (zG, M') (0, 0) := by
      intro j
      induction j with
      | zero =>
        intro w M' x5 x6 hw hM
        have ew : w = 4 := by omega
        subst ew
        refine bs_X11_hearkens_7 hX ?_
        have z4 : zr ((4 : Nat) : Int) = 4 := rfl
        simp only [bk_X11_hearkens_0, k_X11_hearkens_0, bk_X11_hearkens_7, k_X11_hearkens_7, bk_X11_hearkens_19, k_X11_hearkens_19, bk_X11_hearkens_72, k_X11_hearkens_72, bk_X11_hearkens_73, k_X11_hearkens_73, bk_X11_hearkens_82, k_X11_hearkens_82, bk_X11_hearkens_94, k_X11_hearkens_94, bk_X11_hearkens_100, k_X11_hearkens_100, ↓e_rk1, ↓e_rk0, ↓e_sk0, ↓e_sks, ↓e_ldi0, ↓e_ldis, ↓e_ldl0, ↓e_ldls, ↓e_lda0, ↓e_ldas, ↓e_ok0, ↓e_okss, ↓e_ok1i, ↓e_ok1r, ↓e_ok1n, ↓e_sti, ↓e_sta, ↓e_1, ↓e_2, ↓e_l1, ↓e_l2, ↓e_li, ↓e_sw0, ↓e_sws, ↓e_ceq, ↓e_cne, ↓e_clt, ↓e_cge, ↓e_cgt, ↓e_cle, ↓e_nil, ↓e_cons, ↓e_iconst, ↓e_bipush, ↓e_sipush, ↓e_ldc, ↓e_ldcw, ↓e_ldc2, ↓e_lconst, ↓e_iloadn, ↓e_iload, ↓e_lloadn, ↓e_lload, ↓e_aloadn, ↓e_aload, ↓e_istoren, ↓e_istore, ↓e_astoren, ↓e_astore, ↓e_add, ↓e_iinc, ↓e_iadd, ↓e_isub, ↓e_imul, ↓e_iand, ↓e_ior, ↓e_ixor, ↓e_ishl, ↓e_iushr, ↓e_idiv, ↓e_irem, ↓e_ineg, ↓e_i2l, ↓e_i2b, ↓e_i2s, ↓e_l2i, ↓e_land, ↓e_lor, ↓e_lshl, ↓e_lshr, ↓e_lushr, ↓e_lcmp, ↓e_dupi, ↓e_dupr, ↓e_popi, ↓e_dup2, ↓e_goto, ↓e_if, ↓e_icmp, ↓e_tsw, ↓e_lsw, ↓e_getf, ↓e_putf, ↓e_gets, ↓e_iald, ↓e_cald, ↓e_iast, ↓e_aald, ↓e_aast, ↓e_len, ↓e_copy, ↓e_abs, ↓e_max, ↓e_min, ↓e_iret, ↓e_aret, ↓e_vret, ↓e_is0, ↓e_is1, ↓e_is2, ↓e_is3, ↓e_is4, ↓e_iv1, ↓e_iv2, ↓e_iv3, ↓e_iv4, ↓e_iv5, ↓e_iv6, ↓rt_X11_hearkens, ↓reduceIte, Nat.reduceAdd, Nat.reduceEqDiff, ↓zcl0, ↓zclv, List.map_nil, List.sum_nil, List.map_cons, List.sum_cons, zcat, true_and, and_true, Nat.reduceLeDiff, Nat.reduceAdd, eq_self, forall_const, e_ok0, e_okss, e_ok1i, e_ok1r, e_ok1n, zl_0, zl_2, zl_4, Int.reduceToNat, Int.reduceAdd, Int.reduceMul, Int.reduceSub, Int.reduceNeg, Int.reduceLT, Int.reduceLE, Int.reduceEq, not_false_eq_true, not_true_eq_false, false_implies, true_implies, implies_true, Int.reduceDiv, Int.reduceMod, zr8_zr, zr_zbo, z01_zbo, z01_0, z01_1, zbo_eq0, zup_eq, zup_o, zup_k, ne_eq, ↓ct_hearkens_of, ↓r_of, ↓B_of, ↓ct_hearkens_points, ↓r_points, ↓B_points, ↓ct_hearkens_gives, ↓r_gives, ↓B_gives, ↓v_87, ↓g_87_0, ↓l_88, ↓s_88, ↓n_88, ↓g_87_1, ↓l_89, ↓s_89, ↓n_89, ↓g_87_2, ↓l_90, ↓s_90, ↓n_90, ↓g_87_3, ↓p_87_3, ↓g_87_4, ↓l_91, ↓s_91, ↓n_91, ↓g_87_5, ↓p_87_5, ↓g_87_6, ↓p_87_6, ↓g_87_7, ↓p_87_7, ↓g_87_8, ↓p_87_8, ↓g_87_9, ↓p_87_9, ↓g_87_10, ↓p_87_10, ↓g_87_11, ↓l_92, ↓s_92, ↓n_92, ↓g_87_12, ↓l_93, ↓s_93, ↓n_93, ↓g_87_13, ↓p_87_13, ↓g_87_14, ↓l_94, ↓s_94, ↓n_94, ↓g_87_15, ↓p_87_15, ↓g_87_16, ↓l_95, ↓s_95, ↓n_95, ↓g_87_17, ↓l_96, ↓s_96, ↓n_96, ↓g_87_18, ↓l_97, ↓s_97, ↓n_97, ↓g_87_19, ↓p_87_19, ↓g_87_20, ↓p_87_20, ↓g_87_21, ↓l_98, ↓s_98, ↓n_98, ↓g_87_22, ↓l_99, ↓s_99, ↓n_99, ↓g_87_23, ↓l_100, ↓s_100, ↓n_100, ↓g_87_24, ↓l_101, ↓s_101, ↓n_101, z4]
        exact hC M' hM
      | succ j ih =>
        intro w M' x5 x6 hw hM
        refine bs_X11_hearkens_7 hX ?_
        have zw : zr (w : Int) = w := zr_of (by omega) (by omega)
        have lw : ((w : Int) < 4) = True := eq_true (by omega)
        simp only [bk_X11_hearkens_0, k_X11_hearkens_0, bk_X11_hearkens_7, k_X11_hearkens_7, bk_X11_hearkens_19, k_X11_hearkens_19, bk_X11_hearkens_72, k_X11_hearkens_72, bk_X11_hearkens_73, k_X11_hearkens_73, bk_X11_hearkens_82, k_X11_hearkens_82, bk_X11_hearkens_94, k_X11_hearkens_94, bk_X11_hearkens_100, k_X11_hearkens_100, ↓e_rk1, ↓e_rk0, ↓e_sk0, ↓e_sks, ↓e_ldi0, ↓e_ldis, ↓e_ldl0, ↓e_ldls, ↓e_lda0, ↓e_ldas, ↓e_ok0, ↓e_okss, ↓e_ok1i, ↓e_ok1r, ↓e_ok1n, ↓e_sti, ↓e_sta, ↓e_1, ↓e_2, ↓e_l1, ↓e_l2, ↓e_li, ↓e_sw0, ↓e_sws, ↓e_ceq, ↓e_cne, ↓e_clt, ↓e_cge, ↓e_cgt, ↓e_cle, ↓e_nil, ↓e_cons, ↓e_iconst, ↓e_bipush, ↓e_sipush, ↓e_ldc, ↓e_ldcw, ↓e_ldc2, ↓e_lconst, ↓e_iloadn, ↓e_iload, ↓e_lloadn, ↓e_lload, ↓e_aloadn, ↓e_aload, ↓e_istoren, ↓e_istore, ↓e_astoren, ↓e_astore, ↓e_add, ↓e_iinc, ↓e_iadd, ↓e_isub, ↓e_imul, ↓e_iand, ↓e_ior, ↓e_ixor, ↓e_ishl, ↓e_iushr, ↓e_idiv, ↓e_irem, ↓e_ineg, ↓e_i2l, ↓e_i2b, ↓e_i2s, ↓e_l2i, ↓e_land, ↓e_lor, ↓e_lshl, ↓e_lshr, ↓e_lushr, ↓e_lcmp, ↓e_dupi, ↓e_dupr, ↓e_popi, ↓e_dup2, ↓e_goto, ↓e_if, ↓e_icmp, ↓e_tsw, ↓e_lsw, ↓e_getf, ↓e_putf, ↓e_gets, ↓e_iald, ↓e_cald, ↓e_iast, ↓e_aald, ↓e_aast, ↓e_len, ↓e_copy, ↓e_abs, ↓e_max, ↓e_min, ↓e_iret, ↓e_aret, ↓e_vret, ↓e_is0, ↓e_is1, ↓e_is2, ↓e_is3, ↓e_is4, ↓e_iv1, ↓e_iv2, ↓e_iv3, ↓e_iv4, ↓e_iv5, ↓e_iv6, ↓rt_X11_hearkens, ↓reduceIte, Nat.reduceAdd, Nat.reduceEqDiff, ↓zcl0, ↓zclv, List.map_nil, List.sum_nil, List.map_cons, List.sum_cons, zcat, true_and, and_true, Nat.reduceLeDiff, Nat.reduceAdd, eq_self, forall_const, e_ok0, e_okss, e_ok1i, e_ok1r, e_ok1n, zl_0, zl_2, zl_4, Int.reduceToNat, Int.reduceAdd, Int.reduceMul, Int.reduceSub, Int.reduceNeg, Int.reduceLT, Int.reduceLE, Int.reduceEq, not_false_eq_true, not_true_eq_false, false_implies, true_implies, implies_true, Int.reduceDiv, Int.reduceMod, zr8_zr, zr_zbo, z01_zbo, z01_0, z01_1, zbo_eq0, zup_eq, zup_o, zup_k, ne_eq, ↓ct_hearkens_of, ↓r_of, ↓B_of, ↓ct_hearkens_points, ↓r_points, ↓B_points, ↓ct_hearkens_gives, ↓r_gives, ↓B_gives, ↓v_87, ↓g_87_0, ↓l_88, ↓s_88, ↓n_88, ↓g_87_1, ↓l_89, ↓s_89, ↓n_89, ↓g_87_2, ↓l_90, ↓s_90, ↓n_90, ↓g_87_3, ↓p_87_3, ↓g_87_4, ↓l_91, ↓s_91, ↓n_91, ↓g_87_5, ↓p_87_5, ↓g_87_6, ↓p_87_6, ↓g_87_7, ↓p_87_7, ↓g_87_8, ↓p_87_8, ↓g_87_9, ↓p_87_9, ↓g_87_10, ↓p_87_10, ↓g_87_11, ↓l_92, ↓s_92, ↓n_92, ↓g_87_12, ↓l_93, ↓s_93, ↓n_93, ↓g_87_13, ↓p_87_13, ↓g_87_14, ↓l_94, ↓s_94, ↓n_94, ↓g_87_15, ↓p_87_15, ↓g_87_16, ↓l_95, ↓s_95, ↓n_95, ↓g_87_17, ↓l_96, ↓s_96, ↓n_96, ↓g_87_18, ↓l_97, ↓s_97, ↓n_97, ↓g_87_19, ↓p_87_19, ↓g_87_20, ↓p_87_20, ↓g_87_21, ↓l_98, ↓s_98, ↓n_98, ↓g_87_22, ↓l_99, ↓s_99, ↓n_99, ↓g_87_23, ↓l_100, ↓s_100, ↓n_100, ↓g_87_24, ↓l_101, ↓s_101, ↓n_101, zw, lw]
        have inner : ∀ (i k : Nat) (M' : ZMm), i + k = (dd 0).toNat → (∀ x, ¬ x = 92 → ¬ x = 94 → M' x = M x) → X 19 [some (.inr (.inr (.inl 87))), some (.inl g), some (.inl (hkw dd wo g w).1), some (.inl (hkw dd wo g w).2), some (.inl (w : Int)), some (.inl (vs dd wo g w k)), some (.inl (k : Int))] [] (zG, M') (0, 0) := by
          have hr := hkw_rng (wo := wo) (h := g) hN w (by omega)
          intro i
          induction i with
          | zero =>
            intro k M' hk hM
            refine bs_X11_hearkens_19 hX ?_
            have m88 : M' 88 = dd := (hM 88 (by decide) (by decide)).trans hdd
            have zk : zr (k : Int) = k := zr_of (by omega) (by omega)
            have lk : ((k : Int) < dd 0) = False := eq_false (by omega)
            have hv := vs_rng (d := dd) (wo := wo) (h := g) (w := w) k
            have zv : zr (vs dd wo g w k) = vs dd wo g w k := zr_of (by omega) (by omega)
            have zm : zr (hkw dd wo g w).2 = (hkw dd wo g w).2 := zr_of (by omega) (by omega)
            simp only [bk_X11_hearkens_0, k_X11_hearkens_0, bk_X11_hearkens_7, k_X11_hearkens_7, bk_X11_hearkens_19, k_X11_hearkens_19, bk_X11_hearkens_72, k_X11_hearkens_72, bk_X11_hearkens_73, k_X11_hearkens_73, bk_X11_hearkens_82, k_X11_hearkens_82, bk_X11_hearkens_94, k_X11_hearkens_94, bk_X11_hearkens_100, k_X11_hearkens_100, ↓e_rk1, ↓e_rk0, ↓e_sk0, ↓e_sks, ↓e_ldi0, ↓e_ldis, ↓e_ldl0, ↓e_ldls, ↓e_lda0, ↓e_ldas, ↓e_ok0, ↓e_okss, ↓e_ok1i, ↓e_ok1r, ↓e_ok1n, ↓e_sti, ↓e_sta, ↓e_1, ↓e_2, ↓e_l1, ↓e_l2, ↓e_li, ↓e_sw0, ↓e_sws, ↓e_ceq, ↓e_cne, ↓e_clt, ↓e_cge, ↓e_cgt, ↓e_cle, ↓e_nil, ↓e_cons, ↓e_iconst, ↓e_bipush, ↓e_sipush, ↓e_ldc, ↓e_ldcw, ↓e_ldc2, ↓e_lconst, ↓e_iloadn, ↓e_iload, ↓e_lloadn, ↓e_lload, ↓e_aloadn, ↓e_aload, ↓e_istoren, ↓e_istore, ↓e_astoren, ↓e_astore, ↓e_add, ↓e_iinc, ↓e_iadd, ↓e_isub, ↓e_imul, ↓e_iand, ↓e_ior, ↓e_ixor, ↓e_ishl, ↓e_iushr, ↓e_idiv, ↓e_irem, ↓e_ineg, ↓e_i2l, ↓e_i2b, ↓e_i2s, ↓e_l2i, ↓e_land, ↓e_lor, ↓e_lshl, ↓e_lshr, ↓e_lushr, ↓e_lcmp, ↓e_dupi, ↓e_dupr, ↓e_popi, ↓e_dup2, ↓e_goto, ↓e_if, ↓e_icmp, ↓e_tsw, ↓e_lsw, ↓e_getf, ↓e_putf, ↓e_gets, ↓e_iald, ↓e_cald, ↓e_iast, ↓e_aald, ↓e_aast, ↓e_len, ↓e_copy, ↓e_abs, ↓e_max, ↓e_min, ↓e_iret, ↓e_aret, ↓e_vret, ↓e_is0, ↓e_is1, ↓e_is2, ↓e_is3, ↓e_is4, ↓e_iv1, ↓e_iv2, ↓e_iv3, ↓e_iv4, ↓e_iv5, ↓e_iv6, ↓rt_X11_hearkens, ↓reduceIte, Nat.reduceAdd, Nat.reduceEqDiff, ↓zcl0, ↓zclv, List.map_nil, List.sum_nil, List.map_cons, List.sum_cons, zcat, true_and, and_true, Nat.reduceLeDiff, Nat.reduceAdd, eq_self, forall_const, e_ok0, e_okss, e_ok1i, e_ok1r, e_ok1n, zl_0, zl_2, zl_4, Int.reduceToNat, Int.reduceAdd, Int.reduceMul, Int.reduceSub, Int.reduceNeg, Int.reduceLT, Int.reduceLE, Int.reduceEq, not_false_eq_true, not_true_eq_false, false_implies, true_implies, implies_true, Int.reduceDiv, Int.reduceMod, zr8_zr, zr_zbo, z01_zbo, z01_0, z01_1, zbo_eq0, zup_eq, zup_o, zup_k, ne_eq, ↓ct_hearkens_of, ↓r_of, ↓B_of, ↓ct_hearkens_points, ↓r_points, ↓B_points, ↓ct_hearkens_gives, ↓r_gives, ↓B_gives, ↓v_87, ↓g_87_0, ↓l_88, ↓s_88, ↓n_88, ↓g_87_1, ↓l_89, ↓s_89, ↓n_89, ↓g_87_2, ↓l_90, ↓s_90, ↓n_90, ↓g_87_3, ↓p_87_3, ↓g_87_4, ↓l_91, ↓s_91, ↓n_91, ↓g_87_5, ↓p_87_5, ↓g_87_6, ↓p_87_6, ↓g_87_7, ↓p_87_7, ↓g_87_8, ↓p_87_8, ↓g_87_9, ↓p_87_9, ↓g_87_10, ↓p_87_10, ↓g_87_11, ↓l_92, ↓s_92, ↓n_92, ↓g_87_12, ↓l_93, ↓s_93, ↓n_93, ↓g_87_13, ↓p_87_13, ↓g_87_14, ↓l_94, ↓s_94, ↓n_94, ↓g_87_15, ↓p_87_15, ↓g_87_16, ↓l_95, ↓s_95, ↓n_95, ↓g_87_17, ↓l_96, ↓s_96, ↓n_96, ↓g_87_18, ↓l_97, ↓s_97, ↓n_97, ↓g_87_19, ↓p_87_19, ↓g_87_20, ↓p_87_20, ↓g_87_21, ↓l_98, ↓s_98, ↓n_98, ↓g_87_22, ↓l_99, ↓s_99, ↓n_99, ↓g_87_23, ↓l_100, ↓s_100, ↓n_100, ↓g_87_24, ↓l_101, ↓s_101, ↓n_101, m88, zN, zk, lk, zv, zm, zw]
            have ek : k = (dd 0).toNat := by omega
            have nx := ih (w + 1) M' (some (.inl (vs dd wo g w k))) (some (.inl (k : Int))) (by omega) hM
            simp only [hkw, ← ek] at nx
            refine ⟨fun c => ?_, fun c => ?_⟩
            · rw [if_pos c] at nx; exact nx
            · rw [if_neg c] at nx; exact nx
          | succ i ih2 =>
            intro k M' hk hM
            refine bs_X11_hearkens_19 hX ?_
            have m88 : M' 88 = dd := (hM 88 (by decide) (by decide)).trans hdd
            have m87 : M' 87 15 = wo := (congrFun (hM 87 (by decide) (by decide)) 15).trans hwo
            have zk : zr (k : Int) = k := zr_of (by omega) (by omega)
            have lk : ((k : Int) < dd 0) = True := eq_true (by omega)
            have pk := Vd_pts h4 (e := k) (by omega) (by omega)
            have ek2 := (Vd_ei h4 (e := k) (by omega) (by omega)).2.2
            have zp : zr (pts dd k) = pts dd k := zr_of (by omega) (by omega)
            have e2 : dd (162 + 3 * (k : Int) + 2).toNat = ei dd k 2 := rfl
            have z2 : zr (ei dd k 2) = ei dd k 2 := zr_of (by omega) (by omega)
            have go : ∀ (v : Int) (M2 : ZMm), v = vt dd wo g w k → (∀ x, ¬ x = 92 → ¬ x = 94 → M2 x = M x) → X 19 [some (.inr (.inr (.inl 87))), some (.inl g), some (.inl (hkw dd wo g w).1), some (.inl (hkw dd wo g w).2), some (.inl (w : Int)), some (.inl (vs dd wo g w k + v)), some (.inl ((k : Int) + 1))] [] (zG, M2) (0, 0) := by
              intro v M2 hv hM2
              have := ih2 (k + 1) M2 (by omega) hM2
              simp only [vs] at this
              rw [hv]
              exact this
            simp only [bk_X11_hearkens_0, k_X11_hearkens_0, bk_X11_hearkens_7, k_X11_hearkens_7, bk_X11_hearkens_19, k_X11_hearkens_19, bk_X11_hearkens_72, k_X11_hearkens_72, bk_X11_hearkens_73, k_X11_hearkens_73, bk_X11_hearkens_82, k_X11_hearkens_82, bk_X11_hearkens_94, k_X11_hearkens_94, bk_X11_hearkens_100, k_X11_hearkens_100, ↓e_rk1, ↓e_rk0, ↓e_sk0, ↓e_sks, ↓e_ldi0, ↓e_ldis, ↓e_ldl0, ↓e_ldls, ↓e_lda0, ↓e_ldas, ↓e_ok0, ↓e_okss, ↓e_ok1i, ↓e_ok1r, ↓e_ok1n, ↓e_sti, ↓e_sta, ↓e_1, ↓e_2, ↓e_l1, ↓e_l2, ↓e_li, ↓e_sw0, ↓e_sws, ↓e_ceq, ↓e_cne, ↓e_clt, ↓e_cge, ↓e_cgt, ↓e_cle, ↓e_nil, ↓e_cons, ↓e_iconst, ↓e_bipush, ↓e_sipush, ↓e_ldc, ↓e_ldcw, ↓e_ldc2, ↓e_lconst, ↓e_iloadn, ↓e_iload, ↓e_lloadn, ↓e_lload, ↓e_aloadn, ↓e_aload, ↓e_istoren, ↓e_istore, ↓e_astoren, ↓e_astore, ↓e_add, ↓e_iinc, ↓e_iadd, ↓e_isub, ↓e_imul, ↓e_iand, ↓e_ior, ↓e_ixor, ↓e_ishl, ↓e_iushr, ↓e_idiv, ↓e_irem, ↓e_ineg, ↓e_i2l, ↓e_i2b, ↓e_i2s, ↓e_l2i, ↓e_land, ↓e_lor, ↓e_lshl, ↓e_lshr, ↓e_lushr, ↓e_lcmp, ↓e_dupi, ↓e_dupr, ↓e_popi, ↓e_dup2, ↓e_goto, ↓e_if, ↓e_icmp, ↓e_tsw, ↓e_lsw, ↓e_getf, ↓e_putf, ↓e_gets, ↓e_iald, ↓e_cald, ↓e_iast, ↓e_aald, ↓e_aast, ↓e_len, ↓e_copy, ↓e_abs, ↓e_max, ↓e_min, ↓e_iret, ↓e_aret, ↓e_vret, ↓e_is0, ↓e_is1, ↓e_is2, ↓e_is3, ↓e_is4, ↓e_iv1, ↓e_iv2, ↓e_iv3, ↓e_iv4, ↓e_iv5, ↓e_iv6, ↓rt_X11_hearkens, ↓reduceIte, Nat.reduceAdd, Nat.reduceEqDiff, ↓zcl0, ↓zclv, List.map_nil, List.sum_nil, List.map_cons, List.sum_cons, zcat, true_and, and_true, Nat.reduceLeDiff, Nat.reduceAdd, eq_self, forall_const, e_ok0, e_okss, e_ok1i, e_ok1r, e_ok1n, zl_0, zl_2, zl_4, Int.reduceToNat, Int.reduceAdd, Int.reduceMul, Int.reduceSub, Int.reduceNeg, Int.reduceLT, Int.reduceLE, Int.reduceEq, not_false_eq_true, not_true_eq_false, false_implies, true_implies, implies_true, Int.reduceDiv, Int.reduceMod, zr8_zr, zr_zbo, z01_zbo, z01_0, z01_1, zbo_eq0, zup_eq, zup_o, zup_k, ne_eq, ↓ct_hearkens_of, ↓r_of, ↓B_of, ↓ct_hearkens_points, ↓r_points, ↓B_points, ↓ct_hearkens_gives, ↓r_gives, ↓B_gives, ↓v_87, ↓g_87_0, ↓l_88, ↓s_88, ↓n_88, ↓g_87_1, ↓l_89, ↓s_89, ↓n_89, ↓g_87_2, ↓l_90, ↓s_90, ↓n_90, ↓g_87_3, ↓p_87_3, ↓g_87_4, ↓l_91, ↓s_91, ↓n_91, ↓g_87_5, ↓p_87_5, ↓g_87_6, ↓p_87_6, ↓g_87_7, ↓p_87_7, ↓g_87_8, ↓p_87_8, ↓g_87_9, ↓p_87_9, ↓g_87_10, ↓p_87_10, ↓g_87_11, ↓l_92, ↓s_92, ↓n_92, ↓g_87_12, ↓l_93, ↓s_93, ↓n_93, ↓g_87_13, ↓p_87_13, ↓g_87_14, ↓l_94, ↓s_94, ↓n_94, ↓g_87_15, ↓p_87_15, ↓g_87_16, ↓l_95, ↓s_95, ↓n_95, ↓g_87_17, ↓l_96, ↓s_96, ↓n_96, ↓g_87_18, ↓l_97, ↓s_97, ↓n_97, ↓g_87_19, ↓p_87_19, ↓g_87_20, ↓p_87_20, ↓g_87_21, ↓l_98, ↓s_98, ↓n_98, ↓g_87_22, ↓l_99, ↓s_99, ↓n_99, ↓g_87_23, ↓l_100, ↓s_100, ↓n_100, ↓g_87_24, ↓l_101, ↓s_101, ↓n_101, m88, m87, zN, zk, lk, zwo, e2, z2, zg, zp, zw]
            refine ⟨fun c => ?_, fun c => ⟨by omega, by omega, fun c2 => ⟨by omega, by omega, h4, fun c3 => ⟨by omega, by omega, h4, fun M2 hM2 => ?_⟩, fun c3 => ?_⟩, fun c2 => ?_⟩⟩
            · exact go 0 M' (by unfold vt; rw [if_neg (by omega)]) hM
            · exact go _ M2 (by unfold vt; rw [if_pos ⟨c, c2, c3⟩]) (fun x q1 q2 => (hM2 x q1 q2).trans (hM x q1 q2))
            · exact go 0 M' (by unfold vt; rw [if_neg (by omega)]) hM
            · exact go 0 M' (by unfold vt; rw [if_neg (by omega)]) hM
        exact inner (dd 0).toNat 0 M' (by omega) hM
    exact outer 4 0 M none none (by omega) (fun _ _ _ => rfl)
