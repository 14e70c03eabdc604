/-! THE REFERENCE: powers and engineers tried out -/
def pwn (d : Nat → Int) (s : Nat) (n v : Int) : Nat → Nat → Int
  | 0, _ => -1
  | j + 1, k => if gpw d s k n ≤ v then (k : Int) else pwn d s n v j (k + 1)
theorem st_sm {M M' : ZMm} (hM : ∀ x, ¬ x = 88 → ¬ x = 90 → ¬ x = 92 → ¬ x = 94 → M' x = M x) (hd : M' 88 = M 88) : st M' = st M := by
  rw [st_r88 hM, hd, ← st88 M, r88_id]
theorem pub_nb {M : ZMm} {R : Int × ZMm} {post : Option ZV → ZMm → Prop} (h : pub M R post) {M' : ZMm} (hM : ∀ x, ¬ x = 88 → ¬ x = 90 → ¬ x = 92 → ¬ x = 94 → M' x = M x) (hd : M' 88 = M 88) {k : Nat} {a : Int} (e : R = no (st M) k) (ea : a = -1000000000 - (k : Int)) : post (some (.inl a)) (zup M' 91 k (M' 91 k + 1)) := by
  subst ea
  refine pub_of h ?_ (by rw [zup_ne _ (by decide), hM 87 (by decide) (by decide) (by decide) (by decide)]) (fun x q => by rw [zup_ne _ (by omega), hM x (by omega) (by omega) (by omega) (by omega)])
  rw [e, st_up rfl, st_sm hM hd, hM 91 (by decide) (by decide) (by decide) (by decide)]
  rfl
def R_powerFor (S : ZMm) (g n v : Int) : Int × ZMm := if (0 ≤ g ∧ g ≤ 1) ∧ (0 ≤ n ∧ n ≤ 60) ∧ 0 ≤ v ∧ v ≤ 14 then (if pwn (S 88) (134 + 4 * g + 1).toNat n v 21 0 < 0 then no S 2 else (pwn (S 88) (134 + 4 * g + 1).toNat n v 21 0, S)) else no S 1
def B_powerFor (g : Int) (n : Int) (v : Int) (M : Nat → Nat → Int) (post : Option ZV → (Nat → Nat → Int) → Prop) : Prop := rg g ∧ rg n ∧ rg v ∧ pub M (R_powerFor (st M) g n v) post
def C_powerFor : ZC := fun as h post => match as with
  | [.inr (.inr (.inl 87)), .inl g, .inl n, .inl v] => h.1 = zG ∧ B_powerFor g n v h.2 (fun v M => post v (zG, M))
  | _ => False
theorem r_powerFor {g : Int} {n : Int} {v : Int} {M : Nat → Nat → Int} {post : Option ZV → ZH → Prop} : C_powerFor [.inr (.inr (.inl 87)), .inl g, .inl n, .inl v] (zG, M) post = B_powerFor g n v M (fun v M => post v (zG, M)) := by show (zG = zG ∧ _) = _; simp
def ct_powerFor : Nat → ZC := fun n => if n = 125 then C_isHead else if n = 183 then C_isAhead else if n = 120 then C_in else if n = 130 then C_keepAside else if n = 186 then C_apartBehind else if n = 119 then C_finds else fun _ _ _ => False
theorem ct_powerFor_isHead {as : List ZV} {h : ZH} {post : Option ZV → ZH → Prop} : ct_powerFor 125 as h post = C_isHead as h post := rfl
theorem ct_powerFor_isAhead {as : List ZV} {h : ZH} {post : Option ZV → ZH → Prop} : ct_powerFor 183 as h post = C_isAhead as h post := rfl
theorem ct_powerFor_in {as : List ZV} {h : ZH} {post : Option ZV → ZH → Prop} : ct_powerFor 120 as h post = C_in as h post := rfl
theorem ct_powerFor_keepAside {as : List ZV} {h : ZH} {post : Option ZV → ZH → Prop} : ct_powerFor 130 as h post = C_keepAside as h post := rfl
theorem ct_powerFor_apartBehind {as : List ZV} {h : ZH} {post : Option ZV → ZH → Prop} : ct_powerFor 186 as h post = C_apartBehind as h post := rfl
theorem ct_powerFor_finds {as : List ZV} {h : ZH} {post : Option ZV → ZH → Prop} : ct_powerFor 119 as h post = C_finds as h post := rfl
theorem c_powerFor {E : ZE} {d : Nat} (hd : 10 ≤ d) : zMet E d mX11_powerFor C_powerFor := by
  refine zmet_of (o := 11) (ini := false) (CT := ct_powerFor) gd_X11_powerFor rfl (fun h => by cases h) (by omega) ?_ ?_
  · intro n as h post hh
    unfold ct_powerFor at hh
    by_cases c : n = 125
    · subst c; exact ⟨gd_X11_isHead, 2, by omega, c_isHead (by omega)⟩
    rw [if_neg c] at hh
    by_cases c : n = 183
    · subst c; exact ⟨gd_X11_isAhead, 2, by omega, c_isAhead (by omega)⟩
    rw [if_neg c] at hh
    by_cases c : n = 120
    · subst c; exact ⟨gd_X11_in, 1, by omega, c_in (by omega)⟩
    rw [if_neg c] at hh
    by_cases c : n = 130
    · subst c; exact ⟨gd_X11_keepAside, 1, by omega, c_keepAside (by omega)⟩
    rw [if_neg c] at hh
    by_cases c : n = 186
    · subst c; exact ⟨gd_X11_apartBehind, 9, by omega, c_apartBehind (by omega)⟩
    rw [if_neg c] at hh
    by_cases c : n = 119
    · subst c; exact ⟨gd_X11_finds, 1, by omega, c_finds (by omega)⟩
    rw [if_neg c] at hh
    exact hh.elim
  intro as h post hC
  match as, hC with
  | [.inr (.inr (.inl 87)), .inl g, .inl n, .inl v], hC =>
    refine ⟨Nat.le_of_ble_eq_true rfl, fun X hX => bs_X11_powerFor_0 hX ?_⟩
    obtain ⟨G, M⟩ := h
    obtain ⟨hG, hC⟩ := hC
    dsimp only at hG
    subst hG
    simp only [B_powerFor] at hC
    show bk_X11_powerFor_0 E ct_powerFor X _ [some (.inr (.inr (.inl 87))), some (.inl g), some (.inl n), some (.inl v), none] [] (zG, M) (0, 0)
    obtain ⟨h1, h2, h3, hC⟩ := hC
    have vd : Vd (M 88) := hC.1.1
    have v1 := vd.2.1
    have y1 : st M 88 1 ≤ 9999 := hC.1.2.1
    have m15 : M 87 15 = -1 := hC.2.1
    have s1 : st M 88 1 = M 88 1 := rfl
    have s88 : st M 88 = M 88 := rfl
    have rm : rg (-1) := ⟨by omega, by omega⟩
    have lp : ((0 ≤ g ∧ g ≤ 1) ∧ (0 ≤ n ∧ n ≤ 60) ∧ 0 ≤ v ∧ v ≤ 14) → ∀ (j k : Nat) (M' : ZMm), j + k = 21 → pwn (M 88) (134 + 4 * g + 1).toNat n v 21 0 = pwn (M 88) (134 + 4 * g + 1).toNat n v j k → M' 88 = M 88 → (∀ i, i < 186 → M' 90 i = M 88 i) → (∀ x, ¬ x = 88 → ¬ x = 90 → ¬ x = 92 → ¬ x = 94 → M' x = M x) → X 39 [some (.inr (.inr (.inl 87))), some (.inl g), some (.inl n), some (.inl v), some (.inl (k : Int))] [] (zG, M') (0, 0) := by
      intro hn j
      have zs : zr (134 + 4 * g + 1) = 134 + 4 * g + 1 := zr_of (by omega) (by omega)
      have zv : zr v = v := zr_of (by omega) (by omega)
      induction j with
      | zero =>
        intro k M' hk hp hd ha hM
        refine bs_X11_powerFor_39 hX ?_
        have zk : zr (k : Int) = k := zr_of (by omega) (by omega)
        have lk : ((20 : Int) < k) = True := eq_true (by omega)
        have lk2 : ((k : Int) ≤ 20) = False := eq_false (by omega)
        simp only [bk_X11_powerFor_0, k_X11_powerFor_0, bk_X11_powerFor_26, k_X11_powerFor_26, bk_X11_powerFor_32, k_X11_powerFor_32, bk_X11_powerFor_39, k_X11_powerFor_39, bk_X11_powerFor_74, k_X11_powerFor_74, bk_X11_powerFor_80, k_X11_powerFor_80, ↓e_rk1, ↓e_rk0, ↓e_sk0, ↓e_sks, ↓e_ldi0, ↓e_ldis, ↓e_ldl0, ↓e_ldls, ↓e_lda0, ↓e_ldas, ↓e_ok0, ↓e_okss, ↓e_ok1i, ↓e_ok1r, ↓e_ok1n, ↓e_sti, ↓e_sta, ↓e_1, ↓e_2, ↓e_l1, ↓e_l2, ↓e_li, ↓e_sw0, ↓e_sws, ↓e_ceq, ↓e_cne, ↓e_clt, ↓e_cge, ↓e_cgt, ↓e_cle, ↓e_nil, ↓e_cons, ↓e_iconst, ↓e_bipush, ↓e_sipush, ↓e_ldc, ↓e_ldcw, ↓e_ldc2, ↓e_lconst, ↓e_iloadn, ↓e_iload, ↓e_lloadn, ↓e_lload, ↓e_aloadn, ↓e_aload, ↓e_istoren, ↓e_istore, ↓e_astoren, ↓e_astore, ↓e_add, ↓e_iinc, ↓e_iadd, ↓e_isub, ↓e_imul, ↓e_iand, ↓e_ior, ↓e_ixor, ↓e_ishl, ↓e_iushr, ↓e_idiv, ↓e_irem, ↓e_ineg, ↓e_i2l, ↓e_i2b, ↓e_i2s, ↓e_l2i, ↓e_land, ↓e_lor, ↓e_lshl, ↓e_lshr, ↓e_lushr, ↓e_lcmp, ↓e_dupi, ↓e_dupr, ↓e_popi, ↓e_dup2, ↓e_goto, ↓e_if, ↓e_icmp, ↓e_tsw, ↓e_lsw, ↓e_getf, ↓e_putf, ↓e_gets, ↓e_iald, ↓e_cald, ↓e_iast, ↓e_aald, ↓e_aast, ↓e_len, ↓e_copy, ↓e_abs, ↓e_max, ↓e_min, ↓e_iret, ↓e_aret, ↓e_vret, ↓e_is0, ↓e_is1, ↓e_is2, ↓e_is3, ↓e_is4, ↓e_iv1, ↓e_iv2, ↓e_iv3, ↓e_iv4, ↓e_iv5, ↓e_iv6, ↓rt_X11_powerFor, ↓reduceIte, Nat.reduceAdd, Nat.reduceEqDiff, ↓zcl0, ↓zclv, List.map_nil, List.sum_nil, List.map_cons, List.sum_cons, zcat, true_and, and_true, Nat.reduceLeDiff, Nat.reduceAdd, eq_self, forall_const, e_ok0, e_okss, e_ok1i, e_ok1r, e_ok1n, zl_0, zl_1, zl_2, zl_4, zl_20, zl_134, zq_0, zq_14, Int.reduceToNat, Int.reduceAdd, Int.reduceMul, Int.reduceSub, Int.reduceNeg, Int.reduceLT, Int.reduceLE, Int.reduceEq, not_false_eq_true, not_true_eq_false, false_implies, true_implies, implies_true, Int.reduceDiv, Int.reduceMod, zr8_zr, zr_zbo, z01_zbo, z01_0, z01_1, zbo_eq0, zup_eq, zup_o, zup_k, ne_eq, ↓ct_powerFor_isHead, ↓r_isHead, ↓B_isHead, ↓ct_powerFor_isAhead, ↓r_isAhead, ↓B_isAhead, ↓ct_powerFor_in, ↓r_in, ↓B_in, ↓ct_powerFor_keepAside, ↓r_keepAside, ↓B_keepAside, ↓ct_powerFor_apartBehind, ↓r_apartBehind, ↓B_apartBehind, ↓ct_powerFor_finds, ↓r_finds, ↓B_finds, ↓v_87, ↓g_87_0, ↓l_88, ↓s_88, ↓n_88, ↓g_87_1, ↓l_89, ↓s_89, ↓n_89, ↓g_87_2, ↓l_90, ↓s_90, ↓n_90, ↓g_87_3, ↓p_87_3, ↓g_87_4, ↓l_91, ↓s_91, ↓n_91, ↓g_87_5, ↓p_87_5, ↓g_87_6, ↓p_87_6, ↓g_87_7, ↓p_87_7, ↓g_87_8, ↓p_87_8, ↓g_87_9, ↓p_87_9, ↓g_87_10, ↓p_87_10, ↓g_87_11, ↓l_92, ↓s_92, ↓n_92, ↓g_87_12, ↓l_93, ↓s_93, ↓n_93, ↓g_87_13, ↓p_87_13, ↓g_87_14, ↓l_94, ↓s_94, ↓n_94, ↓g_87_15, ↓p_87_15, ↓g_87_16, ↓l_95, ↓s_95, ↓n_95, ↓g_87_17, ↓l_96, ↓s_96, ↓n_96, ↓g_87_18, ↓l_97, ↓s_97, ↓n_97, ↓g_87_19, ↓p_87_19, ↓g_87_20, ↓p_87_20, ↓g_87_21, ↓l_98, ↓s_98, ↓n_98, ↓g_87_22, ↓l_99, ↓s_99, ↓n_99, ↓g_87_23, ↓l_100, ↓s_100, ↓n_100, ↓g_87_24, ↓l_101, ↓s_101, ↓n_101, zk, lk, lk2]
        refine pub_nb hC hM hd ?_ rfl
        have np : pwn (M 88) (134 + 4 * g + 1).toNat n v 21 0 = -1 := hp
        unfold R_powerFor
        rw [if_pos hn, s88, np, if_pos (by omega)]
      | succ j ih =>
        intro k M' hk hp hd ha hM
        refine bs_X11_powerFor_39 hX ?_
        have zk : zr (k : Int) = k := zr_of (by omega) (by omega)
        have lk : ((20 : Int) < k) = False := eq_false (by omega)
        have lk2 : ((k : Int) ≤ 20) = True := eq_true (by omega)
        have m87 : M' 87 15 = -1 := by rw [hM 87 (by decide) (by decide) (by decide) (by decide)]; exact m15
        simp only [bk_X11_powerFor_0, k_X11_powerFor_0, bk_X11_powerFor_26, k_X11_powerFor_26, bk_X11_powerFor_32, k_X11_powerFor_32, bk_X11_powerFor_39, k_X11_powerFor_39, bk_X11_powerFor_74, k_X11_powerFor_74, bk_X11_powerFor_80, k_X11_powerFor_80, ↓e_rk1, ↓e_rk0, ↓e_sk0, ↓e_sks, ↓e_ldi0, ↓e_ldis, ↓e_ldl0, ↓e_ldls, ↓e_lda0, ↓e_ldas, ↓e_ok0, ↓e_okss, ↓e_ok1i, ↓e_ok1r, ↓e_ok1n, ↓e_sti, ↓e_sta, ↓e_1, ↓e_2, ↓e_l1, ↓e_l2, ↓e_li, ↓e_sw0, ↓e_sws, ↓e_ceq, ↓e_cne, ↓e_clt, ↓e_cge, ↓e_cgt, ↓e_cle, ↓e_nil, ↓e_cons, ↓e_iconst, ↓e_bipush, ↓e_sipush, ↓e_ldc, ↓e_ldcw, ↓e_ldc2, ↓e_lconst, ↓e_iloadn, ↓e_iload, ↓e_lloadn, ↓e_lload, ↓e_aloadn, ↓e_aload, ↓e_istoren, ↓e_istore, ↓e_astoren, ↓e_astore, ↓e_add, ↓e_iinc, ↓e_iadd, ↓e_isub, ↓e_imul, ↓e_iand, ↓e_ior, ↓e_ixor, ↓e_ishl, ↓e_iushr, ↓e_idiv, ↓e_irem, ↓e_ineg, ↓e_i2l, ↓e_i2b, ↓e_i2s, ↓e_l2i, ↓e_land, ↓e_lor, ↓e_lshl, ↓e_lshr, ↓e_lushr, ↓e_lcmp, ↓e_dupi, ↓e_dupr, ↓e_popi, ↓e_dup2, ↓e_goto, ↓e_if, ↓e_icmp, ↓e_tsw, ↓e_lsw, ↓e_getf, ↓e_putf, ↓e_gets, ↓e_iald, ↓e_cald, ↓e_iast, ↓e_aald, ↓e_aast, ↓e_len, ↓e_copy, ↓e_abs, ↓e_max, ↓e_min, ↓e_iret, ↓e_aret, ↓e_vret, ↓e_is0, ↓e_is1, ↓e_is2, ↓e_is3, ↓e_is4, ↓e_iv1, ↓e_iv2, ↓e_iv3, ↓e_iv4, ↓e_iv5, ↓e_iv6, ↓rt_X11_powerFor, ↓reduceIte, Nat.reduceAdd, Nat.reduceEqDiff, ↓zcl0, ↓zclv, List.map_nil, List.sum_nil, List.map_cons, List.sum_cons, zcat, true_and, and_true, Nat.reduceLeDiff, Nat.reduceAdd, eq_self, forall_const, e_ok0, e_okss, e_ok1i, e_ok1r, e_ok1n, zl_0, zl_1, zl_2, zl_4, zl_20, zl_134, zq_0, zq_14, Int.reduceToNat, Int.reduceAdd, Int.reduceMul, Int.reduceSub, Int.reduceNeg, Int.reduceLT, Int.reduceLE, Int.reduceEq, not_false_eq_true, not_true_eq_false, false_implies, true_implies, implies_true, Int.reduceDiv, Int.reduceMod, zr8_zr, zr_zbo, z01_zbo, z01_0, z01_1, zbo_eq0, zup_eq, zup_o, zup_k, ne_eq, ↓ct_powerFor_isHead, ↓r_isHead, ↓B_isHead, ↓ct_powerFor_isAhead, ↓r_isAhead, ↓B_isAhead, ↓ct_powerFor_in, ↓r_in, ↓B_in, ↓ct_powerFor_keepAside, ↓r_keepAside, ↓B_keepAside, ↓ct_powerFor_apartBehind, ↓r_apartBehind, ↓B_apartBehind, ↓ct_powerFor_finds, ↓r_finds, ↓B_finds, ↓v_87, ↓g_87_0, ↓l_88, ↓s_88, ↓n_88, ↓g_87_1, ↓l_89, ↓s_89, ↓n_89, ↓g_87_2, ↓l_90, ↓s_90, ↓n_90, ↓g_87_3, ↓p_87_3, ↓g_87_4, ↓l_91, ↓s_91, ↓n_91, ↓g_87_5, ↓p_87_5, ↓g_87_6, ↓p_87_6, ↓g_87_7, ↓p_87_7, ↓g_87_8, ↓p_87_8, ↓g_87_9, ↓p_87_9, ↓g_87_10, ↓p_87_10, ↓g_87_11, ↓l_92, ↓s_92, ↓n_92, ↓g_87_12, ↓l_93, ↓s_93, ↓n_93, ↓g_87_13, ↓p_87_13, ↓g_87_14, ↓l_94, ↓s_94, ↓n_94, ↓g_87_15, ↓p_87_15, ↓g_87_16, ↓l_95, ↓s_95, ↓n_95, ↓g_87_17, ↓l_96, ↓s_96, ↓n_96, ↓g_87_18, ↓l_97, ↓s_97, ↓n_97, ↓g_87_19, ↓p_87_19, ↓g_87_20, ↓p_87_20, ↓g_87_21, ↓l_98, ↓s_98, ↓n_98, ↓g_87_22, ↓l_99, ↓s_99, ↓n_99, ↓g_87_23, ↓l_100, ↓s_100, ↓n_100, ↓g_87_24, ↓l_101, ↓s_101, ↓n_101, zk, lk, lk2, zs, zv, m87]
        rw [zup_up, hd]
        have u1 : up1 (M 88) (134 + 4 * g + 1).toNat (k : Int) 1 = M 88 1 := up1_ne (by omega)
        have ubs : ub (134 + 4 * g + 1).toNat = 20 := by
          rcases (show g = 0 ∨ g = 1 by omega) with q | q <;> (subst q; rfl)
        have bd : (134 + 4 * g + 1).toNat = 3 ∨ (0 ≤ (k : Int) ∧ (k : Int) ≤ ub (134 + 4 * g + 1).toNat) := Or.inr ⟨by omega, by rw [ubs]; omega⟩
        have gr := gpw_rng vd (k := (134 + 4 * g + 1).toNat) (v := k) (n := n) (by omega) (by omega) bd (by omega) (by omega)
        have zg : zr (gap (yrs (up1 (M 88) (134 + 4 * g + 1).toNat (k : Int)) (-1) n.toNat)) = gpw (M 88) (134 + 4 * g + 1).toNat k n := zr_of (by unfold gpw at gr; omega) (by unfold gpw at gr; omega)
        refine ⟨by omega, by omega, by omega, by omega, rm, Vd_up vd (by omega) bd, by omega, fun M2 h2 hM2 => ?_⟩
        obtain ⟨b1, b2, b3⟩ := bk_step (by omega) hd ha hM h2 hM2
        rw [zg]
        have hs : pwn (M 88) (134 + 4 * g + 1).toNat n v (j + 1) k = if gpw (M 88) (134 + 4 * g + 1).toNat k n ≤ v then (k : Int) else pwn (M 88) (134 + 4 * g + 1).toNat n v j (k + 1) := rfl
        rw [hs] at hp
        refine ⟨fun c => ?_, fun c => ?_⟩
        · rw [if_neg (by omega)] at hp
          exact ih (k + 1) M2 (by omega) hp b1 b2 b3
        · rw [if_pos (by omega)] at hp
          refine pub_sm hC b3 b1 ?_
          have np : pwn (M 88) (134 + 4 * g + 1).toNat n v 21 0 = k := hp
          unfold R_powerFor
          rw [if_pos hn, s88, np, if_neg (by omega)]
    simp only [bk_X11_powerFor_0, k_X11_powerFor_0, bk_X11_powerFor_26, k_X11_powerFor_26, bk_X11_powerFor_32, k_X11_powerFor_32, bk_X11_powerFor_39, k_X11_powerFor_39, bk_X11_powerFor_74, k_X11_powerFor_74, bk_X11_powerFor_80, k_X11_powerFor_80, ↓e_rk1, ↓e_rk0, ↓e_sk0, ↓e_sks, ↓e_ldi0, ↓e_ldis, ↓e_ldl0, ↓e_ldls, ↓e_lda0, ↓e_ldas, ↓e_ok0, ↓e_okss, ↓e_ok1i, ↓e_ok1r, ↓e_ok1n, ↓e_sti, ↓e_sta, ↓e_1, ↓e_2, ↓e_l1, ↓e_l2, ↓e_li, ↓e_sw0, ↓e_sws, ↓e_ceq, ↓e_cne, ↓e_clt, ↓e_cge, ↓e_cgt, ↓e_cle, ↓e_nil, ↓e_cons, ↓e_iconst, ↓e_bipush, ↓e_sipush, ↓e_ldc, ↓e_ldcw, ↓e_ldc2, ↓e_lconst, ↓e_iloadn, ↓e_iload, ↓e_lloadn, ↓e_lload, ↓e_aloadn, ↓e_aload, ↓e_istoren, ↓e_istore, ↓e_astoren, ↓e_astore, ↓e_add, ↓e_iinc, ↓e_iadd, ↓e_isub, ↓e_imul, ↓e_iand, ↓e_ior, ↓e_ixor, ↓e_ishl, ↓e_iushr, ↓e_idiv, ↓e_irem, ↓e_ineg, ↓e_i2l, ↓e_i2b, ↓e_i2s, ↓e_l2i, ↓e_land, ↓e_lor, ↓e_lshl, ↓e_lshr, ↓e_lushr, ↓e_lcmp, ↓e_dupi, ↓e_dupr, ↓e_popi, ↓e_dup2, ↓e_goto, ↓e_if, ↓e_icmp, ↓e_tsw, ↓e_lsw, ↓e_getf, ↓e_putf, ↓e_gets, ↓e_iald, ↓e_cald, ↓e_iast, ↓e_aald, ↓e_aast, ↓e_len, ↓e_copy, ↓e_abs, ↓e_max, ↓e_min, ↓e_iret, ↓e_aret, ↓e_vret, ↓e_is0, ↓e_is1, ↓e_is2, ↓e_is3, ↓e_is4, ↓e_iv1, ↓e_iv2, ↓e_iv3, ↓e_iv4, ↓e_iv5, ↓e_iv6, ↓rt_X11_powerFor, ↓reduceIte, Nat.reduceAdd, Nat.reduceEqDiff, ↓zcl0, ↓zclv, List.map_nil, List.sum_nil, List.map_cons, List.sum_cons, zcat, true_and, and_true, Nat.reduceLeDiff, Nat.reduceAdd, eq_self, forall_const, e_ok0, e_okss, e_ok1i, e_ok1r, e_ok1n, zl_0, zl_1, zl_2, zl_4, zl_20, zl_134, zq_0, zq_14, Int.reduceToNat, Int.reduceAdd, Int.reduceMul, Int.reduceSub, Int.reduceNeg, Int.reduceLT, Int.reduceLE, Int.reduceEq, not_false_eq_true, not_true_eq_false, false_implies, true_implies, implies_true, Int.reduceDiv, Int.reduceMod, zr8_zr, zr_zbo, z01_zbo, z01_0, z01_1, zbo_eq0, zup_eq, zup_o, zup_k, ne_eq, ↓ct_powerFor_isHead, ↓r_isHead, ↓B_isHead, ↓ct_powerFor_isAhead, ↓r_isAhead, ↓B_isAhead, ↓ct_powerFor_in, ↓r_in, ↓B_in, ↓ct_powerFor_keepAside, ↓r_keepAside, ↓B_keepAside, ↓ct_powerFor_apartBehind, ↓r_apartBehind, ↓B_apartBehind, ↓ct_powerFor_finds, ↓r_finds, ↓B_finds, ↓v_87, ↓g_87_0, ↓l_88, ↓s_88, ↓n_88, ↓g_87_1, ↓l_89, ↓s_89, ↓n_89, ↓g_87_2, ↓l_90, ↓s_90, ↓n_90, ↓g_87_3, ↓p_87_3, ↓g_87_4, ↓l_91, ↓s_91, ↓n_91, ↓g_87_5, ↓p_87_5, ↓g_87_6, ↓p_87_6, ↓g_87_7, ↓p_87_7, ↓g_87_8, ↓p_87_8, ↓g_87_9, ↓p_87_9, ↓g_87_10, ↓p_87_10, ↓g_87_11, ↓l_92, ↓s_92, ↓n_92, ↓g_87_12, ↓l_93, ↓s_93, ↓n_93, ↓g_87_13, ↓p_87_13, ↓g_87_14, ↓l_94, ↓s_94, ↓n_94, ↓g_87_15, ↓p_87_15, ↓g_87_16, ↓l_95, ↓s_95, ↓n_95, ↓g_87_17, ↓l_96, ↓s_96, ↓n_96, ↓g_87_18, ↓l_97, ↓s_97, ↓n_97, ↓g_87_19, ↓p_87_19, ↓g_87_20, ↓p_87_20, ↓g_87_21, ↓l_98, ↓s_98, ↓n_98, ↓g_87_22, ↓l_99, ↓s_99, ↓n_99, ↓g_87_23, ↓l_100, ↓s_100, ↓n_100, ↓g_87_24, ↓l_101, ↓s_101, ↓n_101, m15, zr_rg, h1, zr8_rg, h1, zr_rg, h2, zr8_rg, h2, zr_rg, h3, zr8_rg, h3, zr8_zr, zr_zbo, zbo_01, zbo_eq0, zbo_eq1]
    refine ⟨fun c1 => ?_, fun c1 => ⟨fun c2 => ?_, fun c2 => ⟨fun c3 => ?_, fun c3 M1 hk1 hM1 => lp (by omega) 21 0 M1 (by omega) rfl (hM1 88 (by decide)) hk1 (fun x _ q _ _ => hM1 x q)⟩⟩⟩
    · exact pub_no hC (by unfold R_powerFor; rw [if_neg (by omega)]) rfl
    · exact pub_no hC (by unfold R_powerFor; rw [if_neg (by omega)]) rfl
    · exact pub_no hC (by unfold R_powerFor; rw [if_neg (by omega)]) rfl
