/-! THE REFERENCE: a year -/
def up1 (d : Nat → Int) (k : Nat) (v : Int) : Nat → Int := fun j => if j = k then v else d j
theorem up1_eq {d : Nat → Int} {k : Nat} {v : Int} : up1 d k v k = v := if_pos rfl
theorem up1_ne {d : Nat → Int} {k j : Nat} {v : Int} (h : j ≠ k) : up1 d k v j = d j := if_neg h
theorem zup_up (M : ZMm) (a k : Nat) (v : Int) : zup M a k v a = up1 (M a) k v := zup_row M a k v
def gfin (d : Nat → Int) (g c w : Int) : Nat → Int := up1 (up1 (up1 (up1 d (70 + c).toNat 1) (134 + 4 * g).toNat c) (136 + 4 * g).toNat 0) (137 + 4 * g).toNat w
def gwk (d : Nat → Int) (g c : Int) : Int := hd3 (hi4 d g 2 + tgv d 1 (hi4 d g 1) (d (6 + c).toNat) (hi4 d g 2)) 0 99
def gos (d : Nat → Int) (g w : Int) : Nat → Int :=
  if bsd (hi4 d g 0) w < 0 then d
  else if d (70 + bsd (hi4 d g 0) w).toNat = 0 ∧ gwk d g (bsd (hi4 d g 0) w) < d (6 + bsd (hi4 d g 0) w).toNat then up1 d (136 + 4 * g).toNat (gwk d g (bsd (hi4 d g 0) w))
  else gfin d g (bsd (hi4 d g 0) w) w
def k_X11_goes_0 : List ZI := [(.aload_n 0, 1, (0, [0], [])), (.iload_n 1, 1, (0, [1], [])), (.iconst 0, 1, (0, [], [])), (.invokevirtual 161, 3, (0, [127, 3, 0, 11], [])), (.iload_n 2, 1, (0, [2], [])), (.invokestatic 188, 3, (0, [152, 2, 0, 11], [])), (.istore_n 3, 1, (0, [3], [])), (.iload_n 3, 1, (0, [3], [])), (.ifCond .ge 4, 3, (0, [16], [])), (.return_, 1, (0, [], []))]
theorem ok_X11_goes_0 : zOK cX11_goes 11 false 5 k_X11_goes_0 0 = true := zOK_by (by decide +kernel)
def k_X11_goes_16 : List ZI := [(.sipush 134, 3, (0, [], [])), (.iconst 4, 1, (0, [], [])), (.iload_n 1, 1, (0, [1], [])), (.imul, 1, (0, [], [])), (.iadd, 1, (0, [], [])), (.istore 4, 2, (0, [4], [])), (.aload_n 0, 1, (0, [0], [])), (.getfield 7, 3, (0, [11, 0], [])), (.bipush 70, 2, (0, [], [])), (.iload_n 3, 1, (0, [3], [])), (.iadd, 1, (0, [], [])), (.iaload, 1, (0, [], [])), (.ifCond .ne 82, 3, (0, [116], []))]
theorem ok_X11_goes_16 : zOK cX11_goes 11 false 5 k_X11_goes_16 16 = true := zOK_by (by decide +kernel)
def k_X11_goes_37 : List ZI := [(.aload_n 0, 1, (0, [0], [])), (.getfield 7, 3, (0, [11, 0], [])), (.iload 4, 2, (0, [4], [])), (.iconst 2, 1, (0, [], [])), (.iadd, 1, (0, [], [])), (.aload_n 0, 1, (0, [0], [])), (.getfield 7, 3, (0, [11, 0], [])), (.iload 4, 2, (0, [4], [])), (.iconst 2, 1, (0, [], [])), (.iadd, 1, (0, [], [])), (.iaload, 1, (0, [], [])), (.aload_n 0, 1, (0, [0], [])), (.iconst 1, 1, (0, [], [])), (.aload_n 0, 1, (0, [0], [])), (.getfield 7, 3, (0, [11, 0], [])), (.iload 4, 2, (0, [4], [])), (.iconst 1, 1, (0, [], [])), (.iadd, 1, (0, [], [])), (.iaload, 1, (0, [], [])), (.aload_n 0, 1, (0, [0], [])), (.getfield 7, 3, (0, [11, 0], [])), (.bipush 6, 2, (0, [], [])), (.iload_n 3, 1, (0, [3], [])), (.iadd, 1, (0, [], [])), (.iaload, 1, (0, [], [])), (.aload_n 0, 1, (0, [0], [])), (.getfield 7, 3, (0, [11, 0], [])), (.iload 4, 2, (0, [4], [])), (.iconst 2, 1, (0, [], [])), (.iadd, 1, (0, [], [])), (.iaload, 1, (0, [], [])), (.invokevirtual 155, 3, (0, [149, 5, 0, 11], [])), (.iadd, 1, (0, [], [])), (.iconst 0, 1, (0, [], [])), (.bipush 99, 2, (0, [], [])), (.invokestatic 152, 3, (0, [121, 3, 0, 11], [])), (.iastore, 1, (0, [], []))]
theorem ok_X11_goes_37 : zOK cX11_goes 11 false 5 k_X11_goes_37 37 = true := zOK_by (by decide +kernel)
def k_X11_goes_94 : List ZI := [(.aload_n 0, 1, (0, [0], [])), (.getfield 7, 3, (0, [11, 0], [])), (.iload 4, 2, (0, [4], [])), (.iconst 2, 1, (0, [], [])), (.iadd, 1, (0, [], [])), (.iaload, 1, (0, [], [])), (.aload_n 0, 1, (0, [0], [])), (.getfield 7, 3, (0, [11, 0], [])), (.bipush 6, 2, (0, [], [])), (.iload_n 3, 1, (0, [3], [])), (.iadd, 1, (0, [], [])), (.iaload, 1, (0, [], [])), (.if_icmp .ge 4, 3, (0, [116], [])), (.return_, 1, (0, [], []))]
theorem ok_X11_goes_94 : zOK cX11_goes 11 false 5 k_X11_goes_94 94 = true := zOK_by (by decide +kernel)
def k_X11_goes_116 : List ZI := [(.aload_n 0, 1, (0, [0], [])), (.getfield 7, 3, (0, [11, 0], [])), (.bipush 70, 2, (0, [], [])), (.iload_n 3, 1, (0, [3], [])), (.iadd, 1, (0, [], [])), (.iconst 1, 1, (0, [], [])), (.iastore, 1, (0, [], [])), (.aload_n 0, 1, (0, [0], [])), (.getfield 7, 3, (0, [11, 0], [])), (.iload 4, 2, (0, [4], [])), (.iconst 0, 1, (0, [], [])), (.iadd, 1, (0, [], [])), (.iload_n 3, 1, (0, [3], [])), (.iastore, 1, (0, [], [])), (.aload_n 0, 1, (0, [0], [])), (.getfield 7, 3, (0, [11, 0], [])), (.iload 4, 2, (0, [4], [])), (.iconst 2, 1, (0, [], [])), (.iadd, 1, (0, [], [])), (.iconst 0, 1, (0, [], [])), (.iastore, 1, (0, [], [])), (.aload_n 0, 1, (0, [0], [])), (.getfield 7, 3, (0, [11, 0], [])), (.iload 4, 2, (0, [4], [])), (.iconst 3, 1, (0, [], [])), (.iadd, 1, (0, [], [])), (.iload_n 2, 1, (0, [2], [])), (.iastore, 1, (0, [], [])), (.return_, 1, (0, [], []))]
theorem ok_X11_goes_116 : zOK cX11_goes 11 false 5 k_X11_goes_116 116 = true := zOK_by (by decide +kernel)
theorem rt_X11_goes {g : Nat} {post : Option ZV → ZH → Prop} {h : ZH} {b : ZB2} : zRt mX11_goes g post none h b = (post none h ∧ h.1.length = g) := by show (_ ∧ _ ∧ True) = _; simp
def bk_X11_goes_0 (E : ZE) (CT : Nat → ZC) (X : ZK) (Rt : ZR) (ls : ZL) (st : List ZV) (h : ZH) (b : ZB2) : Prop := zB E CT k_X11_goes_0 0 ls st h b (fun t ls st h b => X t ls st h b) Rt
theorem bs_X11_goes_0 {E : ZE} {CT : Nat → ZC} {X : ZK} {Rt : ZR} {ls : ZL} {st : List ZV} {h : ZH} {b : ZB2} (hX : zCl E mX11_goes 11 false CT Rt X) (q : bk_X11_goes_0 E CT X Rt ls st h b) : X 0 ls st h b := by
  refine hX k_X11_goes_0 0 ok_X11_goes_0 _ ?_ ls st h b q
  exact fun t ls st h b q => q
def bk_X11_goes_16 (E : ZE) (CT : Nat → ZC) (X : ZK) (Rt : ZR) (ls : ZL) (st : List ZV) (h : ZH) (b : ZB2) : Prop := zB E CT k_X11_goes_16 16 ls st h b (fun t ls st h b => X t ls st h b) Rt
theorem bs_X11_goes_16 {E : ZE} {CT : Nat → ZC} {X : ZK} {Rt : ZR} {ls : ZL} {st : List ZV} {h : ZH} {b : ZB2} (hX : zCl E mX11_goes 11 false CT Rt X) (q : bk_X11_goes_16 E CT X Rt ls st h b) : X 16 ls st h b := by
  refine hX k_X11_goes_16 16 ok_X11_goes_16 _ ?_ ls st h b q
  exact fun t ls st h b q => q
def bk_X11_goes_37 (E : ZE) (CT : Nat → ZC) (X : ZK) (Rt : ZR) (ls : ZL) (st : List ZV) (h : ZH) (b : ZB2) : Prop := zB E CT k_X11_goes_37 37 ls st h b (fun t ls st h b => X t ls st h b) Rt
theorem bs_X11_goes_37 {E : ZE} {CT : Nat → ZC} {X : ZK} {Rt : ZR} {ls : ZL} {st : List ZV} {h : ZH} {b : ZB2} (hX : zCl E mX11_goes 11 false CT Rt X) (q : bk_X11_goes_37 E CT X Rt ls st h b) : X 37 ls st h b := by
  refine hX k_X11_goes_37 37 ok_X11_goes_37 _ ?_ ls st h b q
  exact fun t ls st h b q => q
def bk_X11_goes_94 (E : ZE) (CT : Nat → ZC) (X : ZK) (Rt : ZR) (ls : ZL) (st : List ZV) (h : ZH) (b : ZB2) : Prop := zB E CT k_X11_goes_94 94 ls st h b (fun t ls st h b => X t ls st h b) Rt
theorem bs_X11_goes_94 {E : ZE} {CT : Nat → ZC} {X : ZK} {Rt : ZR} {ls : ZL} {st : List ZV} {h : ZH} {b : ZB2} (hX : zCl E mX11_goes 11 false CT Rt X) (q : bk_X11_goes_94 E CT X Rt ls st h b) : X 94 ls st h b := by
  refine hX k_X11_goes_94 94 ok_X11_goes_94 _ ?_ ls st h b q
  exact fun t ls st h b q => q
def bk_X11_goes_116 (E : ZE) (CT : Nat → ZC) (X : ZK) (Rt : ZR) (ls : ZL) (st : List ZV) (h : ZH) (b : ZB2) : Prop := zB E CT k_X11_goes_116 116 ls st h b (fun t ls st h b => X t ls st h b) Rt
theorem bs_X11_goes_116 {E : ZE} {CT : Nat → ZC} {X : ZK} {Rt : ZR} {ls : ZL} {st : List ZV} {h : ZH} {b : ZB2} (hX : zCl E mX11_goes 11 false CT Rt X) (q : bk_X11_goes_116 E CT X Rt ls st h b) : X 116 ls st h b := by
  refine hX k_X11_goes_116 116 ok_X11_goes_116 _ ?_ ls st h b q
  exact fun t ls st h b q => q
-- X11_goes: cuts [16, 37, 94, 116]
def B_goes (g : Int) (w : Int) (M : Nat → Nat → Int) (post : Option ZV → (Nat → Nat → Int) → Prop) : Prop := 0 ≤ g ∧ g < 2 ∧ 0 ≤ w ∧ w ≤ 4 ∧ Vd (M 88) ∧ ∀ M' : ZMm, M' 88 = gos (M 88) g w → (∀ x, ¬ x = 88 → ¬ x = 92 → ¬ x = 94 → M' x = M x) → post none M'
def C_goes : ZC := fun as h post => match as with
  | [.inr (.inr (.inl 87)), .inl g, .inl w] => h.1 = zG ∧ B_goes g w h.2 (fun v M => post v (zG, M))
  | _ => False
theorem r_goes {g : Int} {w : Int} {M : Nat → Nat → Int} {post : Option ZV → ZH → Prop} : C_goes [.inr (.inr (.inl 87)), .inl g, .inl w] (zG, M) post = B_goes g w M (fun v M => post v (zG, M)) := by show (zG = zG ∧ _) = _; simp
def ct_goes : Nat → ZC := fun n => if n = 127 then C_its else if n = 152 then C_beside else if n = 149 then C_textGives else if n = 121 then C_held else fun _ _ _ => False
theorem ct_goes_its {as : List ZV} {h : ZH} {post : Option ZV → ZH → Prop} : ct_goes 127 as h post = C_its as h post := rfl
theorem ct_goes_beside {as : List ZV} {h : ZH} {post : Option ZV → ZH → Prop} : ct_goes 152 as h post = C_beside as h post := rfl
theorem ct_goes_textGives {as : List ZV} {h : ZH} {post : Option ZV → ZH → Prop} : ct_goes 149 as h post = C_textGives as h post := rfl
theorem ct_goes_held {as : List ZV} {h : ZH} {post : Option ZV → ZH → Prop} : ct_goes 121 as h post = C_held as h post := rfl
theorem c_goes {E : ZE} {d : Nat} (hd : 4 ≤ d) : zMet E d mX11_goes C_goes := by
  refine zmet_of (o := 11) (ini := false) (CT := ct_goes) gd_X11_goes rfl (fun h => by cases h) (by omega) ?_ ?_
  · intro n as h post hh
    unfold ct_goes at hh
    by_cases c : n = 127
    · subst c; exact ⟨gd_X11_its, 1, by omega, c_its (by omega)⟩
    rw [if_neg c] at hh
    by_cases c : n = 152
    · subst c; exact ⟨gd_X11_beside, 1, by omega, c_beside (by omega)⟩
    rw [if_neg c] at hh
    by_cases c : n = 149
    · subst c; exact ⟨gd_X11_textGives, 3, by omega, c_textGives (by omega)⟩
    rw [if_neg c] at hh
    by_cases c : n = 121
    · subst c; exact ⟨gd_X11_held, 1, by omega, c_held (by omega)⟩
    rw [if_neg c] at hh
    exact hh.elim
  intro as h post hC
  match as, hC with
  | [.inr (.inr (.inl 87)), .inl g, .inl w], hC =>
    refine ⟨Nat.le_of_ble_eq_true rfl, fun X hX => bs_X11_goes_0 hX ?_⟩
    obtain ⟨G, M⟩ := h
    obtain ⟨hG, hC⟩ := hC
    dsimp only at hG
    subst hG
    simp only [B_goes] at hC
    show bk_X11_goes_0 E ct_goes X _ [some (.inr (.inr (.inl 87))), some (.inl g), some (.inl w), none, none] [] (zG, M) (0, 0)
    obtain ⟨h1, h2, h3, h4, h5, hC⟩ := hC
    obtain ⟨p0, p1, p2, p3⟩ := Vd_hi h5 (e := g) h1 h2
    have e0 : M 88 (134 + 4 * g + 0).toNat = hi4 (M 88) g 0 := rfl
    have e1 : M 88 (134 + 4 * g + 1).toNat = hi4 (M 88) g 1 := rfl
    have e2 : M 88 (134 + 4 * g + 2).toNat = hi4 (M 88) g 2 := rfl
    have cr := bsd_rng (w := w) p0.1 p0.2
    unfold gos gwk at hC
    obtain ⟨c, hc⟩ : ∃ c, bsd (hi4 (M 88) g 0) w = c := ⟨_, rfl⟩
    rw [hc] at hC cr
    have zcc : zr c = c := zr_of (by omega) (by omega)
    have z70 : zr (70 + c) = 70 + c := zr_of (by omega) (by omega)
    have z6 : zr (6 + c) = 6 + c := zr_of (by omega) (by omega)
    have z0 : zr (134 + 4 * g + 0) = 134 + 4 * g + 0 := zr_of (by omega) (by omega)
    have z1 : zr (134 + 4 * g + 1) = 134 + 4 * g + 1 := zr_of (by omega) (by omega)
    have z2 : zr (134 + 4 * g + 2) = 134 + 4 * g + 2 := zr_of (by omega) (by omega)
    have z3 : zr (134 + 4 * g + 3) = 134 + 4 * g + 3 := zr_of (by omega) (by omega)
    have J116 : ∀ M' : ZMm, (∀ j, ¬ j = (136 + 4 * g).toNat → M' 88 j = M 88 j) → (∀ x, ¬ x = 88 → ¬ x = 92 → ¬ x = 94 → M' x = M x) → ¬ c < 0 → ¬ (M 88 (70 + c).toNat = 0 ∧ hd3 (hi4 (M 88) g 2 + tgv (M 88) 1 (hi4 (M 88) g 1) (M 88 (6 + c).toNat) (hi4 (M 88) g 2)) 0 99 < M 88 (6 + c).toNat) → X 116 [some (.inr (.inr (.inl 87))), some (.inl g), some (.inl w), some (.inl c), some (.inl (134 + 4 * g))] [] (zG, M') (0, 0) := by
      intro M' hd hM c1 c2
      refine bs_X11_goes_116 hX ?_
      simp only [bk_X11_goes_0, k_X11_goes_0, bk_X11_goes_16, k_X11_goes_16, bk_X11_goes_37, k_X11_goes_37, bk_X11_goes_94, k_X11_goes_94, bk_X11_goes_116, k_X11_goes_116, ↓e_rk1, ↓e_rk0, ↓e_sk0, ↓e_sks, ↓e_ldi0, ↓e_ldis, ↓e_ldl0, ↓e_ldls, ↓e_lda0, ↓e_ldas, ↓e_ok0, ↓e_okss, ↓e_ok1i, ↓e_ok1r, ↓e_ok1n, ↓e_sti, ↓e_sta, ↓e_1, ↓e_2, ↓e_l1, ↓e_l2, ↓e_li, ↓e_sw0, ↓e_sws, ↓e_ceq, ↓e_cne, ↓e_clt, ↓e_cge, ↓e_cgt, ↓e_cle, ↓e_nil, ↓e_cons, ↓e_iconst, ↓e_bipush, ↓e_sipush, ↓e_ldc, ↓e_ldcw, ↓e_ldc2, ↓e_lconst, ↓e_iloadn, ↓e_iload, ↓e_lloadn, ↓e_lload, ↓e_aloadn, ↓e_aload, ↓e_istoren, ↓e_istore, ↓e_astoren, ↓e_astore, ↓e_add, ↓e_iinc, ↓e_iadd, ↓e_isub, ↓e_imul, ↓e_iand, ↓e_ior, ↓e_ixor, ↓e_ishl, ↓e_iushr, ↓e_idiv, ↓e_irem, ↓e_ineg, ↓e_i2l, ↓e_i2b, ↓e_i2s, ↓e_l2i, ↓e_land, ↓e_lor, ↓e_lshl, ↓e_lshr, ↓e_lushr, ↓e_lcmp, ↓e_dupi, ↓e_dupr, ↓e_popi, ↓e_dup2, ↓e_goto, ↓e_if, ↓e_icmp, ↓e_tsw, ↓e_lsw, ↓e_getf, ↓e_putf, ↓e_gets, ↓e_iald, ↓e_cald, ↓e_iast, ↓e_aald, ↓e_aast, ↓e_len, ↓e_copy, ↓e_abs, ↓e_max, ↓e_min, ↓e_iret, ↓e_aret, ↓e_vret, ↓e_is0, ↓e_is1, ↓e_is2, ↓e_is3, ↓e_is4, ↓e_iv1, ↓e_iv2, ↓e_iv3, ↓e_iv4, ↓e_iv5, ↓e_iv6, ↓rt_X11_goes, ↓reduceIte, Nat.reduceAdd, Nat.reduceEqDiff, ↓zcl0, ↓zclv, List.map_nil, List.sum_nil, List.map_cons, List.sum_cons, zcat, true_and, and_true, Nat.reduceLeDiff, Nat.reduceAdd, eq_self, forall_const, e_ok0, e_okss, e_ok1i, e_ok1r, e_ok1n, zl_0, zl_1, zl_2, zl_3, zl_4, zl_6, zl_70, zl_99, zl_134, Int.reduceToNat, Int.reduceAdd, Int.reduceMul, Int.reduceSub, Int.reduceNeg, Int.reduceLT, Int.reduceLE, Int.reduceEq, not_false_eq_true, not_true_eq_false, false_implies, true_implies, implies_true, Int.reduceDiv, Int.reduceMod, zr8_zr, zr_zbo, z01_zbo, z01_0, z01_1, zbo_eq0, zup_eq, zup_o, zup_k, ne_eq, ↓ct_goes_its, ↓r_its, ↓B_its, ↓ct_goes_beside, ↓r_beside, ↓B_beside, ↓ct_goes_textGives, ↓r_textGives, ↓B_textGives, ↓ct_goes_held, ↓r_held, ↓B_held, ↓v_87, ↓g_87_0, ↓l_88, ↓s_88, ↓n_88, ↓g_87_1, ↓l_89, ↓s_89, ↓n_89, ↓g_87_2, ↓l_90, ↓s_90, ↓n_90, ↓g_87_3, ↓p_87_3, ↓g_87_4, ↓l_91, ↓s_91, ↓n_91, ↓g_87_5, ↓p_87_5, ↓g_87_6, ↓p_87_6, ↓g_87_7, ↓p_87_7, ↓g_87_8, ↓p_87_8, ↓g_87_9, ↓p_87_9, ↓g_87_10, ↓p_87_10, ↓g_87_11, ↓l_92, ↓s_92, ↓n_92, ↓g_87_12, ↓l_93, ↓s_93, ↓n_93, ↓g_87_13, ↓p_87_13, ↓g_87_14, ↓l_94, ↓s_94, ↓n_94, ↓g_87_15, ↓p_87_15, ↓g_87_16, ↓l_95, ↓s_95, ↓n_95, ↓g_87_17, ↓l_96, ↓s_96, ↓n_96, ↓g_87_18, ↓l_97, ↓s_97, ↓n_97, ↓g_87_19, ↓p_87_19, ↓g_87_20, ↓p_87_20, ↓g_87_21, ↓l_98, ↓s_98, ↓n_98, ↓g_87_22, ↓l_99, ↓s_99, ↓n_99, ↓g_87_23, ↓l_100, ↓s_100, ↓n_100, ↓g_87_24, ↓l_101, ↓s_101, ↓n_101, z70, z0, z2, z3]
      repeat (refine And.intro (by omega) ?_)
      refine hC _ ?_ (fun x q1 q2 q3 => ?_)
      · rw [if_neg c1, if_neg c2]
        funext j
        simp only [zup_up, gfin, up1]
        repeat' split
        all_goals first | rfl | omega | exact hd j (by omega)
      · rw [zup_ne _ q1, zup_ne _ q1, zup_ne _ q1, zup_ne _ q1]; exact hM x q1 q2 q3
    have hrk : 0 ≤ c → 0 ≤ M 88 (6 + c).toNat ∧ M 88 (6 + c).toNat ≤ 9 := fun q => h5.2.2.2.2.2.1 _ (by omega) (by omega)
    have hdg : 0 ≤ c → 0 ≤ M 88 (70 + c).toNat ∧ M 88 (70 + c).toNat ≤ 1 := fun q => h5.2.2.2.2.2.2.1 _ (by omega) (by omega)
    obtain ⟨wk, hwk⟩ : ∃ x, hd3 (hi4 (M 88) g 2 + tgv (M 88) 1 (hi4 (M 88) g 1) (M 88 (6 + c).toNat) (hi4 (M 88) g 2)) 0 99 = x := ⟨_, rfl⟩
    rw [hwk] at J116 hC
    have wkr : 0 ≤ wk ∧ wk ≤ 99 := by rw [← hwk]; unfold hd3; split; omega; split <;> omega
    have J94 : ∀ M' : ZMm, M' 88 = up1 (M 88) (136 + 4 * g).toNat wk → (∀ x, ¬ x = 88 → ¬ x = 92 → ¬ x = 94 → M' x = M x) → ¬ c < 0 → M 88 (70 + c).toNat = 0 → X 94 [some (.inr (.inr (.inl 87))), some (.inl g), some (.inl w), some (.inl c), some (.inl (134 + 4 * g))] [] (zG, M') (0, 0) := by
      intro M' hd hM c1 c2
      have r1 := hrk (by omega)
      refine bs_X11_goes_94 hX ?_
      have a1 : M' 88 (134 + 4 * g + 2).toNat = wk := by rw [hd, show (134 + 4 * g + 2).toNat = (136 + 4 * g).toNat by omega]; exact up1_eq
      have a2 : M' 88 (6 + c).toNat = M 88 (6 + c).toNat := by rw [hd]; exact up1_ne (by omega)
      have b1 : zr wk = wk := zr_of (by omega) (by omega)
      have b2 : zr (M 88 (6 + c).toNat) = M 88 (6 + c).toNat := zr_of (by omega) (by omega)
      simp only [bk_X11_goes_0, k_X11_goes_0, bk_X11_goes_16, k_X11_goes_16, bk_X11_goes_37, k_X11_goes_37, bk_X11_goes_94, k_X11_goes_94, bk_X11_goes_116, k_X11_goes_116, ↓e_rk1, ↓e_rk0, ↓e_sk0, ↓e_sks, ↓e_ldi0, ↓e_ldis, ↓e_ldl0, ↓e_ldls, ↓e_lda0, ↓e_ldas, ↓e_ok0, ↓e_okss, ↓e_ok1i, ↓e_ok1r, ↓e_ok1n, ↓e_sti, ↓e_sta, ↓e_1, ↓e_2, ↓e_l1, ↓e_l2, ↓e_li, ↓e_sw0, ↓e_sws, ↓e_ceq, ↓e_cne, ↓e_clt, ↓e_cge, ↓e_cgt, ↓e_cle, ↓e_nil, ↓e_cons, ↓e_iconst, ↓e_bipush, ↓e_sipush, ↓e_ldc, ↓e_ldcw, ↓e_ldc2, ↓e_lconst, ↓e_iloadn, ↓e_iload, ↓e_lloadn, ↓e_lload, ↓e_aloadn, ↓e_aload, ↓e_istoren, ↓e_istore, ↓e_astoren, ↓e_astore, ↓e_add, ↓e_iinc, ↓e_iadd, ↓e_isub, ↓e_imul, ↓e_iand, ↓e_ior, ↓e_ixor, ↓e_ishl, ↓e_iushr, ↓e_idiv, ↓e_irem, ↓e_ineg, ↓e_i2l, ↓e_i2b, ↓e_i2s, ↓e_l2i, ↓e_land, ↓e_lor, ↓e_lshl, ↓e_lshr, ↓e_lushr, ↓e_lcmp, ↓e_dupi, ↓e_dupr, ↓e_popi, ↓e_dup2, ↓e_goto, ↓e_if, ↓e_icmp, ↓e_tsw, ↓e_lsw, ↓e_getf, ↓e_putf, ↓e_gets, ↓e_iald, ↓e_cald, ↓e_iast, ↓e_aald, ↓e_aast, ↓e_len, ↓e_copy, ↓e_abs, ↓e_max, ↓e_min, ↓e_iret, ↓e_aret, ↓e_vret, ↓e_is0, ↓e_is1, ↓e_is2, ↓e_is3, ↓e_is4, ↓e_iv1, ↓e_iv2, ↓e_iv3, ↓e_iv4, ↓e_iv5, ↓e_iv6, ↓rt_X11_goes, ↓reduceIte, Nat.reduceAdd, Nat.reduceEqDiff, ↓zcl0, ↓zclv, List.map_nil, List.sum_nil, List.map_cons, List.sum_cons, zcat, true_and, and_true, Nat.reduceLeDiff, Nat.reduceAdd, eq_self, forall_const, e_ok0, e_okss, e_ok1i, e_ok1r, e_ok1n, zl_0, zl_1, zl_2, zl_3, zl_4, zl_6, zl_70, zl_99, zl_134, Int.reduceToNat, Int.reduceAdd, Int.reduceMul, Int.reduceSub, Int.reduceNeg, Int.reduceLT, Int.reduceLE, Int.reduceEq, not_false_eq_true, not_true_eq_false, false_implies, true_implies, implies_true, Int.reduceDiv, Int.reduceMod, zr8_zr, zr_zbo, z01_zbo, z01_0, z01_1, zbo_eq0, zup_eq, zup_o, zup_k, ne_eq, ↓ct_goes_its, ↓r_its, ↓B_its, ↓ct_goes_beside, ↓r_beside, ↓B_beside, ↓ct_goes_textGives, ↓r_textGives, ↓B_textGives, ↓ct_goes_held, ↓r_held, ↓B_held, ↓v_87, ↓g_87_0, ↓l_88, ↓s_88, ↓n_88, ↓g_87_1, ↓l_89, ↓s_89, ↓n_89, ↓g_87_2, ↓l_90, ↓s_90, ↓n_90, ↓g_87_3, ↓p_87_3, ↓g_87_4, ↓l_91, ↓s_91, ↓n_91, ↓g_87_5, ↓p_87_5, ↓g_87_6, ↓p_87_6, ↓g_87_7, ↓p_87_7, ↓g_87_8, ↓p_87_8, ↓g_87_9, ↓p_87_9, ↓g_87_10, ↓p_87_10, ↓g_87_11, ↓l_92, ↓s_92, ↓n_92, ↓g_87_12, ↓l_93, ↓s_93, ↓n_93, ↓g_87_13, ↓p_87_13, ↓g_87_14, ↓l_94, ↓s_94, ↓n_94, ↓g_87_15, ↓p_87_15, ↓g_87_16, ↓l_95, ↓s_95, ↓n_95, ↓g_87_17, ↓l_96, ↓s_96, ↓n_96, ↓g_87_18, ↓l_97, ↓s_97, ↓n_97, ↓g_87_19, ↓p_87_19, ↓g_87_20, ↓p_87_20, ↓g_87_21, ↓l_98, ↓s_98, ↓n_98, ↓g_87_22, ↓l_99, ↓s_99, ↓n_99, ↓g_87_23, ↓l_100, ↓s_100, ↓n_100, ↓g_87_24, ↓l_101, ↓s_101, ↓n_101, z6, z2, a1, a2, b1, b2]
      repeat (refine And.intro (by omega) ?_)
      refine ⟨fun q => hC M' ?_ hM, fun q => J116 M' (fun j hj => ?_) hM c1 (fun z => q z.2)⟩
      · rw [if_neg c1, if_pos ⟨c2, q⟩]; exact hd
      · rw [hd]; exact up1_ne hj
    have J37 : ¬ c < 0 → M 88 (70 + c).toNat = 0 → X 37 [some (.inr (.inr (.inl 87))), some (.inl g), some (.inl w), some (.inl c), some (.inl (134 + 4 * g))] [] (zG, M) (0, 0) := by
      intro c1 c2
      refine bs_X11_goes_37 hX ?_
      have tr := tgv_rng (d := M 88) (u := 1) (a := hi4 (M 88) g 1) (b := M 88 (6 + c).toNat) (c := hi4 (M 88) g 2)
      have b1 : zr (hi4 (M 88) g 2 + tgv (M 88) 1 (hi4 (M 88) g 1) (M 88 (6 + c).toNat) (hi4 (M 88) g 2)) = hi4 (M 88) g 2 + tgv (M 88) 1 (hi4 (M 88) g 1) (M 88 (6 + c).toNat) (hi4 (M 88) g 2) := zr_of (by omega) (by omega)
      simp only [bk_X11_goes_0, k_X11_goes_0, bk_X11_goes_16, k_X11_goes_16, bk_X11_goes_37, k_X11_goes_37, bk_X11_goes_94, k_X11_goes_94, bk_X11_goes_116, k_X11_goes_116, ↓e_rk1, ↓e_rk0, ↓e_sk0, ↓e_sks, ↓e_ldi0, ↓e_ldis, ↓e_ldl0, ↓e_ldls, ↓e_lda0, ↓e_ldas, ↓e_ok0, ↓e_okss, ↓e_ok1i, ↓e_ok1r, ↓e_ok1n, ↓e_sti, ↓e_sta, ↓e_1, ↓e_2, ↓e_l1, ↓e_l2, ↓e_li, ↓e_sw0, ↓e_sws, ↓e_ceq, ↓e_cne, ↓e_clt, ↓e_cge, ↓e_cgt, ↓e_cle, ↓e_nil, ↓e_cons, ↓e_iconst, ↓e_bipush, ↓e_sipush, ↓e_ldc, ↓e_ldcw, ↓e_ldc2, ↓e_lconst, ↓e_iloadn, ↓e_iload, ↓e_lloadn, ↓e_lload, ↓e_aloadn, ↓e_aload, ↓e_istoren, ↓e_istore, ↓e_astoren, ↓e_astore, ↓e_add, ↓e_iinc, ↓e_iadd, ↓e_isub, ↓e_imul, ↓e_iand, ↓e_ior, ↓e_ixor, ↓e_ishl, ↓e_iushr, ↓e_idiv, ↓e_irem, ↓e_ineg, ↓e_i2l, ↓e_i2b, ↓e_i2s, ↓e_l2i, ↓e_land, ↓e_lor, ↓e_lshl, ↓e_lshr, ↓e_lushr, ↓e_lcmp, ↓e_dupi, ↓e_dupr, ↓e_popi, ↓e_dup2, ↓e_goto, ↓e_if, ↓e_icmp, ↓e_tsw, ↓e_lsw, ↓e_getf, ↓e_putf, ↓e_gets, ↓e_iald, ↓e_cald, ↓e_iast, ↓e_aald, ↓e_aast, ↓e_len, ↓e_copy, ↓e_abs, ↓e_max, ↓e_min, ↓e_iret, ↓e_aret, ↓e_vret, ↓e_is0, ↓e_is1, ↓e_is2, ↓e_is3, ↓e_is4, ↓e_iv1, ↓e_iv2, ↓e_iv3, ↓e_iv4, ↓e_iv5, ↓e_iv6, ↓rt_X11_goes, ↓reduceIte, Nat.reduceAdd, Nat.reduceEqDiff, ↓zcl0, ↓zclv, List.map_nil, List.sum_nil, List.map_cons, List.sum_cons, zcat, true_and, and_true, Nat.reduceLeDiff, Nat.reduceAdd, eq_self, forall_const, e_ok0, e_okss, e_ok1i, e_ok1r, e_ok1n, zl_0, zl_1, zl_2, zl_3, zl_4, zl_6, zl_70, zl_99, zl_134, Int.reduceToNat, Int.reduceAdd, Int.reduceMul, Int.reduceSub, Int.reduceNeg, Int.reduceLT, Int.reduceLE, Int.reduceEq, not_false_eq_true, not_true_eq_false, false_implies, true_implies, implies_true, Int.reduceDiv, Int.reduceMod, zr8_zr, zr_zbo, z01_zbo, z01_0, z01_1, zbo_eq0, zup_eq, zup_o, zup_k, ne_eq, ↓ct_goes_its, ↓r_its, ↓B_its, ↓ct_goes_beside, ↓r_beside, ↓B_beside, ↓ct_goes_textGives, ↓r_textGives, ↓B_textGives, ↓ct_goes_held, ↓r_held, ↓B_held, ↓v_87, ↓g_87_0, ↓l_88, ↓s_88, ↓n_88, ↓g_87_1, ↓l_89, ↓s_89, ↓n_89, ↓g_87_2, ↓l_90, ↓s_90, ↓n_90, ↓g_87_3, ↓p_87_3, ↓g_87_4, ↓l_91, ↓s_91, ↓n_91, ↓g_87_5, ↓p_87_5, ↓g_87_6, ↓p_87_6, ↓g_87_7, ↓p_87_7, ↓g_87_8, ↓p_87_8, ↓g_87_9, ↓p_87_9, ↓g_87_10, ↓p_87_10, ↓g_87_11, ↓l_92, ↓s_92, ↓n_92, ↓g_87_12, ↓l_93, ↓s_93, ↓n_93, ↓g_87_13, ↓p_87_13, ↓g_87_14, ↓l_94, ↓s_94, ↓n_94, ↓g_87_15, ↓p_87_15, ↓g_87_16, ↓l_95, ↓s_95, ↓n_95, ↓g_87_17, ↓l_96, ↓s_96, ↓n_96, ↓g_87_18, ↓l_97, ↓s_97, ↓n_97, ↓g_87_19, ↓p_87_19, ↓g_87_20, ↓p_87_20, ↓g_87_21, ↓l_98, ↓s_98, ↓n_98, ↓g_87_22, ↓l_99, ↓s_99, ↓n_99, ↓g_87_23, ↓l_100, ↓s_100, ↓n_100, ↓g_87_24, ↓l_101, ↓s_101, ↓n_101, z6, z1, z2, e1, e2, b1, hwk]
      repeat (refine And.intro (by omega) ?_)
      refine ⟨h5.2.2.2.2.2.2.2.2.2.2.2, fun M' hM => ⟨⟨by decide, by decide⟩, ⟨by decide, by decide⟩, by omega, by omega, J94 _ ?_ (fun x q1 q2 q3 => ?_) c1 c2⟩⟩
      · rw [zup_up, hM 88 (by decide) (by decide), show (134 + 4 * g + 2).toNat = (136 + 4 * g).toNat by omega]
      · rw [zup_ne _ q1]; exact hM x q2 q3
    have J16 : ¬ c < 0 → X 16 [some (.inr (.inr (.inl 87))), some (.inl g), some (.inl w), some (.inl c), none] [] (zG, M) (0, 0) := by
      intro c1
      have r1 := hdg (by omega)
      have b1 : zr (M 88 (70 + c).toNat) = M 88 (70 + c).toNat := zr_of (by omega) (by omega)
      refine bs_X11_goes_16 hX ?_
      simp only [bk_X11_goes_0, k_X11_goes_0, bk_X11_goes_16, k_X11_goes_16, bk_X11_goes_37, k_X11_goes_37, bk_X11_goes_94, k_X11_goes_94, bk_X11_goes_116, k_X11_goes_116, ↓e_rk1, ↓e_rk0, ↓e_sk0, ↓e_sks, ↓e_ldi0, ↓e_ldis, ↓e_ldl0, ↓e_ldls, ↓e_lda0, ↓e_ldas, ↓e_ok0, ↓e_okss, ↓e_ok1i, ↓e_ok1r, ↓e_ok1n, ↓e_sti, ↓e_sta, ↓e_1, ↓e_2, ↓e_l1, ↓e_l2, ↓e_li, ↓e_sw0, ↓e_sws, ↓e_ceq, ↓e_cne, ↓e_clt, ↓e_cge, ↓e_cgt, ↓e_cle, ↓e_nil, ↓e_cons, ↓e_iconst, ↓e_bipush, ↓e_sipush, ↓e_ldc, ↓e_ldcw, ↓e_ldc2, ↓e_lconst, ↓e_iloadn, ↓e_iload, ↓e_lloadn, ↓e_lload, ↓e_aloadn, ↓e_aload, ↓e_istoren, ↓e_istore, ↓e_astoren, ↓e_astore, ↓e_add, ↓e_iinc, ↓e_iadd, ↓e_isub, ↓e_imul, ↓e_iand, ↓e_ior, ↓e_ixor, ↓e_ishl, ↓e_iushr, ↓e_idiv, ↓e_irem, ↓e_ineg, ↓e_i2l, ↓e_i2b, ↓e_i2s, ↓e_l2i, ↓e_land, ↓e_lor, ↓e_lshl, ↓e_lshr, ↓e_lushr, ↓e_lcmp, ↓e_dupi, ↓e_dupr, ↓e_popi, ↓e_dup2, ↓e_goto, ↓e_if, ↓e_icmp, ↓e_tsw, ↓e_lsw, ↓e_getf, ↓e_putf, ↓e_gets, ↓e_iald, ↓e_cald, ↓e_iast, ↓e_aald, ↓e_aast, ↓e_len, ↓e_copy, ↓e_abs, ↓e_max, ↓e_min, ↓e_iret, ↓e_aret, ↓e_vret, ↓e_is0, ↓e_is1, ↓e_is2, ↓e_is3, ↓e_is4, ↓e_iv1, ↓e_iv2, ↓e_iv3, ↓e_iv4, ↓e_iv5, ↓e_iv6, ↓rt_X11_goes, ↓reduceIte, Nat.reduceAdd, Nat.reduceEqDiff, ↓zcl0, ↓zclv, List.map_nil, List.sum_nil, List.map_cons, List.sum_cons, zcat, true_and, and_true, Nat.reduceLeDiff, Nat.reduceAdd, eq_self, forall_const, e_ok0, e_okss, e_ok1i, e_ok1r, e_ok1n, zl_0, zl_1, zl_2, zl_3, zl_4, zl_6, zl_70, zl_99, zl_134, Int.reduceToNat, Int.reduceAdd, Int.reduceMul, Int.reduceSub, Int.reduceNeg, Int.reduceLT, Int.reduceLE, Int.reduceEq, not_false_eq_true, not_true_eq_false, false_implies, true_implies, implies_true, Int.reduceDiv, Int.reduceMod, zr8_zr, zr_zbo, z01_zbo, z01_0, z01_1, zbo_eq0, zup_eq, zup_o, zup_k, ne_eq, ↓ct_goes_its, ↓r_its, ↓B_its, ↓ct_goes_beside, ↓r_beside, ↓B_beside, ↓ct_goes_textGives, ↓r_textGives, ↓B_textGives, ↓ct_goes_held, ↓r_held, ↓B_held, ↓v_87, ↓g_87_0, ↓l_88, ↓s_88, ↓n_88, ↓g_87_1, ↓l_89, ↓s_89, ↓n_89, ↓g_87_2, ↓l_90, ↓s_90, ↓n_90, ↓g_87_3, ↓p_87_3, ↓g_87_4, ↓l_91, ↓s_91, ↓n_91, ↓g_87_5, ↓p_87_5, ↓g_87_6, ↓p_87_6, ↓g_87_7, ↓p_87_7, ↓g_87_8, ↓p_87_8, ↓g_87_9, ↓p_87_9, ↓g_87_10, ↓p_87_10, ↓g_87_11, ↓l_92, ↓s_92, ↓n_92, ↓g_87_12, ↓l_93, ↓s_93, ↓n_93, ↓g_87_13, ↓p_87_13, ↓g_87_14, ↓l_94, ↓s_94, ↓n_94, ↓g_87_15, ↓p_87_15, ↓g_87_16, ↓l_95, ↓s_95, ↓n_95, ↓g_87_17, ↓l_96, ↓s_96, ↓n_96, ↓g_87_18, ↓l_97, ↓s_97, ↓n_97, ↓g_87_19, ↓p_87_19, ↓g_87_20, ↓p_87_20, ↓g_87_21, ↓l_98, ↓s_98, ↓n_98, ↓g_87_22, ↓l_99, ↓s_99, ↓n_99, ↓g_87_23, ↓l_100, ↓s_100, ↓n_100, ↓g_87_24, ↓l_101, ↓s_101, ↓n_101, z70, b1]
      repeat (refine And.intro (by omega) ?_)
      refine ⟨fun q => J37 c1 q, fun q => J116 M (fun _ _ => rfl) (fun _ _ _ _ => rfl) c1 (fun z => q z.1)⟩
    simp only [bk_X11_goes_0, k_X11_goes_0, bk_X11_goes_16, k_X11_goes_16, bk_X11_goes_37, k_X11_goes_37, bk_X11_goes_94, k_X11_goes_94, bk_X11_goes_116, k_X11_goes_116, ↓e_rk1, ↓e_rk0, ↓e_sk0, ↓e_sks, ↓e_ldi0, ↓e_ldis, ↓e_ldl0, ↓e_ldls, ↓e_lda0, ↓e_ldas, ↓e_ok0, ↓e_okss, ↓e_ok1i, ↓e_ok1r, ↓e_ok1n, ↓e_sti, ↓e_sta, ↓e_1, ↓e_2, ↓e_l1, ↓e_l2, ↓e_li, ↓e_sw0, ↓e_sws, ↓e_ceq, ↓e_cne, ↓e_clt, ↓e_cge, ↓e_cgt, ↓e_cle, ↓e_nil, ↓e_cons, ↓e_iconst, ↓e_bipush, ↓e_sipush, ↓e_ldc, ↓e_ldcw, ↓e_ldc2, ↓e_lconst, ↓e_iloadn, ↓e_iload, ↓e_lloadn, ↓e_lload, ↓e_aloadn, ↓e_aload, ↓e_istoren, ↓e_istore, ↓e_astoren, ↓e_astore, ↓e_add, ↓e_iinc, ↓e_iadd, ↓e_isub, ↓e_imul, ↓e_iand, ↓e_ior, ↓e_ixor, ↓e_ishl, ↓e_iushr, ↓e_idiv, ↓e_irem, ↓e_ineg, ↓e_i2l, ↓e_i2b, ↓e_i2s, ↓e_l2i, ↓e_land, ↓e_lor, ↓e_lshl, ↓e_lshr, ↓e_lushr, ↓e_lcmp, ↓e_dupi, ↓e_dupr, ↓e_popi, ↓e_dup2, ↓e_goto, ↓e_if, ↓e_icmp, ↓e_tsw, ↓e_lsw, ↓e_getf, ↓e_putf, ↓e_gets, ↓e_iald, ↓e_cald, ↓e_iast, ↓e_aald, ↓e_aast, ↓e_len, ↓e_copy, ↓e_abs, ↓e_max, ↓e_min, ↓e_iret, ↓e_aret, ↓e_vret, ↓e_is0, ↓e_is1, ↓e_is2, ↓e_is3, ↓e_is4, ↓e_iv1, ↓e_iv2, ↓e_iv3, ↓e_iv4, ↓e_iv5, ↓e_iv6, ↓rt_X11_goes, ↓reduceIte, Nat.reduceAdd, Nat.reduceEqDiff, ↓zcl0, ↓zclv, List.map_nil, List.sum_nil, List.map_cons, List.sum_cons, zcat, true_and, and_true, Nat.reduceLeDiff, Nat.reduceAdd, eq_self, forall_const, e_ok0, e_okss, e_ok1i, e_ok1r, e_ok1n, zl_0, zl_1, zl_2, zl_3, zl_4, zl_6, zl_70, zl_99, zl_134, Int.reduceToNat, Int.reduceAdd, Int.reduceMul, Int.reduceSub, Int.reduceNeg, Int.reduceLT, Int.reduceLE, Int.reduceEq, not_false_eq_true, not_true_eq_false, false_implies, true_implies, implies_true, Int.reduceDiv, Int.reduceMod, zr8_zr, zr_zbo, z01_zbo, z01_0, z01_1, zbo_eq0, zup_eq, zup_o, zup_k, ne_eq, ↓ct_goes_its, ↓r_its, ↓B_its, ↓ct_goes_beside, ↓r_beside, ↓B_beside, ↓ct_goes_textGives, ↓r_textGives, ↓B_textGives, ↓ct_goes_held, ↓r_held, ↓B_held, ↓v_87, ↓g_87_0, ↓l_88, ↓s_88, ↓n_88, ↓g_87_1, ↓l_89, ↓s_89, ↓n_89, ↓g_87_2, ↓l_90, ↓s_90, ↓n_90, ↓g_87_3, ↓p_87_3, ↓g_87_4, ↓l_91, ↓s_91, ↓n_91, ↓g_87_5, ↓p_87_5, ↓g_87_6, ↓p_87_6, ↓g_87_7, ↓p_87_7, ↓g_87_8, ↓p_87_8, ↓g_87_9, ↓p_87_9, ↓g_87_10, ↓p_87_10, ↓g_87_11, ↓l_92, ↓s_92, ↓n_92, ↓g_87_12, ↓l_93, ↓s_93, ↓n_93, ↓g_87_13, ↓p_87_13, ↓g_87_14, ↓l_94, ↓s_94, ↓n_94, ↓g_87_15, ↓p_87_15, ↓g_87_16, ↓l_95, ↓s_95, ↓n_95, ↓g_87_17, ↓l_96, ↓s_96, ↓n_96, ↓g_87_18, ↓l_97, ↓s_97, ↓n_97, ↓g_87_19, ↓p_87_19, ↓g_87_20, ↓p_87_20, ↓g_87_21, ↓l_98, ↓s_98, ↓n_98, ↓g_87_22, ↓l_99, ↓s_99, ↓n_99, ↓g_87_23, ↓l_100, ↓s_100, ↓n_100, ↓g_87_24, ↓l_101, ↓s_101, ↓n_101, e0, hc, zcc]
    repeat (refine And.intro (by omega) ?_)
    refine ⟨⟨by omega, by omega⟩, fun q => hC M ?_ (fun _ _ _ _ => rfl), fun q => J16 q⟩
    rw [if_pos q]
