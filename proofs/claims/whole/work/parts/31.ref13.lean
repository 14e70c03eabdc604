/-! THE REFERENCE: delays and powers tried out -/
/-- the gap behind n years with one slot changed -/
def gpw (d : Nat → Int) (k : Nat) (v n : Int) : Int := gap (yrs (up1 d k v) (-1) n.toNat)
theorem gpw_rng {d : Nat → Int} (h : Vd d) {k : Nat} {v n : Int} (hk : k < 186) (h1 : ¬ k = 1) (hv : k = 3 ∨ (0 ≤ v ∧ v ≤ ub k)) (hn : 0 ≤ n) (hy : d 1 + n ≤ 20000) : 0 ≤ gpw d k v n ∧ gpw d k v n ≤ 14 := by
  have e : up1 d k v 1 = d 1 := up1_ne (by omega)
  exact gap_rng (yrs_ok (Vd_up h hk hv) (-1) n.toNat (by rw [e]; omega)).1
theorem bk_step {M M' M2 : ZMm} {s : Nat} {v : Int} (hs : s < 186) (hd : M' 88 = M 88) (ha : ∀ i, i < 186 → M' 90 i = M 88 i) (hM : ∀ x, ¬ x = 88 → ¬ x = 90 → ¬ x = 92 → ¬ x = 94 → M' x = M x) (h2 : M2 88 = fun k => if k < 186 then M' 90 k else up1 (M 88) s v k) (hM2 : ∀ x, ¬ x = 88 → ¬ x = 92 → ¬ x = 94 → M2 x = zup M' 88 s v x) : M2 88 = M 88 ∧ (∀ i, i < 186 → M2 90 i = M 88 i) ∧ ∀ x, ¬ x = 88 → ¬ x = 90 → ¬ x = 92 → ¬ x = 94 → M2 x = M x := by
  refine ⟨?_, fun i hi => ?_, fun x q q0 q1 q2 => ?_⟩
  · rw [h2]
    funext k
    by_cases q : k < 186
    · rw [if_pos q, ha k q]
    · rw [if_neg q, up1_ne (by omega)]
  · rw [hM2 90 (by decide) (by decide) (by decide), zup_ne _ (by decide), ha i hi]
  · rw [hM2 x q q1 q2, zup_ne _ q, hM x q q0 q1 q2]
def dlw (d : Nat → Int) (n : Int) : Nat → Int × Int
  | 0 => (0, 100000)
  | v + 1 => if gpw d 2 v n < (dlw d n v).2 then ((v : Int), gpw d 2 v n) else dlw d n v
theorem dlw_rng {d : Nat → Int} (h : Vd d) {n : Int} (hn : 0 ≤ n) (hy : d 1 + n ≤ 20000) : ∀ v : Nat, v ≤ 10 → (0 ≤ (dlw d n v).1 ∧ (dlw d n v).1 ≤ 10) ∧ 0 ≤ (dlw d n v).2 ∧ (dlw d n v).2 ≤ 100000
  | 0, _ => by simp [dlw]
  | v + 1, hv => by
    have h1 := dlw_rng h hn hy v (by omega)
    have h2 := gpw_rng h (k := 2) (v := v) (by omega) (by omega) (Or.inr ⟨by omega, show (v : Int) ≤ 9 by omega⟩) hn hy
    simp only [dlw]
    split
    · dsimp only; omega
    · exact h1
def R_delayFor (S : ZMm) (n : Int) : Int × ZMm := if 0 ≤ n ∧ n ≤ 60 then ((dlw (S 88) n 10).1, S) else no S 1
def B_delayFor (n : Int) (M : Nat → Nat → Int) (post : Option ZV → (Nat → Nat → Int) → Prop) : Prop := rg n ∧ pub M (R_delayFor (st M) n) post
def C_delayFor : ZC := fun as h post => match as with
  | [.inr (.inr (.inl 87)), .inl n] => h.1 = zG ∧ B_delayFor n h.2 (fun v M => post v (zG, M))
  | _ => False
theorem r_delayFor {n : Int} {M : Nat → Nat → Int} {post : Option ZV → ZH → Prop} : C_delayFor [.inr (.inr (.inl 87)), .inl n] (zG, M) post = B_delayFor n M (fun v M => post v (zG, M)) := by show (zG = zG ∧ _) = _; simp
def ct_delayFor : Nat → ZC := fun n => if n = 183 then C_isAhead else if n = 130 then C_keepAside else if n = 186 then C_apartBehind else if n = 119 then C_finds else fun _ _ _ => False
theorem ct_delayFor_isAhead {as : List ZV} {h : ZH} {post : Option ZV → ZH → Prop} : ct_delayFor 183 as h post = C_isAhead as h post := rfl
theorem ct_delayFor_keepAside {as : List ZV} {h : ZH} {post : Option ZV → ZH → Prop} : ct_delayFor 130 as h post = C_keepAside as h post := rfl
theorem ct_delayFor_apartBehind {as : List ZV} {h : ZH} {post : Option ZV → ZH → Prop} : ct_delayFor 186 as h post = C_apartBehind as h post := rfl
theorem ct_delayFor_finds {as : List ZV} {h : ZH} {post : Option ZV → ZH → Prop} : ct_delayFor 119 as h post = C_finds as h post := rfl
theorem c_delayFor {E : ZE} {d : Nat} (hd : 10 ≤ d) : zMet E d mX11_delayFor C_delayFor := by
  refine zmet_of (o := 11) (ini := false) (CT := ct_delayFor) gd_X11_delayFor rfl (fun h => by cases h) (by omega) ?_ ?_
  · intro n as h post hh
    unfold ct_delayFor at hh
    by_cases c : n = 183
    · subst c; exact ⟨gd_X11_isAhead, 2, by omega, c_isAhead (by omega)⟩
    rw [if_neg c] at hh
    by_cases c : n = 130
    · subst c; exact ⟨gd_X11_keepAside, 1, by omega, c_keepAside (by omega)⟩
    rw [if_neg c] at hh
    by_cases c : n = 186
    · subst c; exact ⟨gd_X11_apartBehind, 9, by omega, c_apartBehind (by omega)⟩
    rw [if_neg c] at hh
    by_cases c : n = 119
    · subst c; exact ⟨gd_X11_finds, 1, by omega, c_finds (by omega)⟩
    rw [if_neg c] at hh
    exact hh.elim
  intro as h post hC
  match as, hC with
  | [.inr (.inr (.inl 87)), .inl n], hC =>
    refine ⟨Nat.le_of_ble_eq_true rfl, fun X hX => bs_X11_delayFor_0 hX ?_⟩
    obtain ⟨G, M⟩ := h
    obtain ⟨hG, hC⟩ := hC
    dsimp only at hG
    subst hG
    simp only [B_delayFor] at hC
    show bk_X11_delayFor_0 E ct_delayFor X _ [some (.inr (.inr (.inl 87))), some (.inl n), none, none, none, none] [] (zG, M) (0, 0)
    obtain ⟨h1, hC⟩ := hC
    have vd : Vd (M 88) := hC.1.1
    have v1 := vd.2.1
    have y1 : st M 88 1 ≤ 9999 := hC.1.2.1
    have m15 : M 87 15 = -1 := hC.2.1
    have s1 : st M 88 1 = M 88 1 := rfl
    have rm : rg (-1) := ⟨by omega, by omega⟩
    have lp : (0 ≤ n ∧ n ≤ 60) → ∀ (j k : Nat) (l : Option ZV) (M' : ZMm), j + k = 10 → M' 88 = M 88 → (∀ i, i < 186 → M' 90 i = M 88 i) → (∀ x, ¬ x = 88 → ¬ x = 90 → ¬ x = 92 → ¬ x = 94 → M' x = M x) → X 26 [some (.inr (.inr (.inl 87))), some (.inl n), some (.inl (dlw (M 88) n k).1), some (.inl (dlw (M 88) n k).2), some (.inl (k : Int)), l] [] (zG, M') (0, 0) := by
      intro hn j
      induction j with
      | zero =>
        intro k l M' hk hd ha hM
        refine bs_X11_delayFor_26 hX ?_
        have zk : zr (k : Int) = k := zr_of (by omega) (by omega)
        have lk : ((k : Int) < 10) = False := eq_false (by omega)
        simp only [bk_X11_delayFor_0, k_X11_delayFor_0, bk_X11_delayFor_13, k_X11_delayFor_13, bk_X11_delayFor_26, k_X11_delayFor_26, bk_X11_delayFor_60, k_X11_delayFor_60, bk_X11_delayFor_66, k_X11_delayFor_66, ↓e_rk1, ↓e_rk0, ↓e_sk0, ↓e_sks, ↓e_ldi0, ↓e_ldis, ↓e_ldl0, ↓e_ldls, ↓e_lda0, ↓e_ldas, ↓e_ok0, ↓e_okss, ↓e_ok1i, ↓e_ok1r, ↓e_ok1n, ↓e_sti, ↓e_sta, ↓e_1, ↓e_2, ↓e_l1, ↓e_l2, ↓e_li, ↓e_sw0, ↓e_sws, ↓e_ceq, ↓e_cne, ↓e_clt, ↓e_cge, ↓e_cgt, ↓e_cle, ↓e_nil, ↓e_cons, ↓e_iconst, ↓e_bipush, ↓e_sipush, ↓e_ldc, ↓e_ldcw, ↓e_ldc2, ↓e_lconst, ↓e_iloadn, ↓e_iload, ↓e_lloadn, ↓e_lload, ↓e_aloadn, ↓e_aload, ↓e_istoren, ↓e_istore, ↓e_astoren, ↓e_astore, ↓e_add, ↓e_iinc, ↓e_iadd, ↓e_isub, ↓e_imul, ↓e_iand, ↓e_ior, ↓e_ixor, ↓e_ishl, ↓e_iushr, ↓e_idiv, ↓e_irem, ↓e_ineg, ↓e_i2l, ↓e_i2b, ↓e_i2s, ↓e_l2i, ↓e_land, ↓e_lor, ↓e_lshl, ↓e_lshr, ↓e_lushr, ↓e_lcmp, ↓e_dupi, ↓e_dupr, ↓e_popi, ↓e_dup2, ↓e_goto, ↓e_if, ↓e_icmp, ↓e_tsw, ↓e_lsw, ↓e_getf, ↓e_putf, ↓e_gets, ↓e_iald, ↓e_cald, ↓e_iast, ↓e_aald, ↓e_aast, ↓e_len, ↓e_copy, ↓e_abs, ↓e_max, ↓e_min, ↓e_iret, ↓e_aret, ↓e_vret, ↓e_is0, ↓e_is1, ↓e_is2, ↓e_is3, ↓e_is4, ↓e_iv1, ↓e_iv2, ↓e_iv3, ↓e_iv4, ↓e_iv5, ↓e_iv6, ↓rt_X11_delayFor, ↓reduceIte, Nat.reduceAdd, Nat.reduceEqDiff, ↓zcl0, ↓zclv, List.map_nil, List.sum_nil, List.map_cons, List.sum_cons, zcat, true_and, and_true, Nat.reduceLeDiff, Nat.reduceAdd, eq_self, forall_const, e_ok0, e_okss, e_ok1i, e_ok1r, e_ok1n, zl_0, zl_1, zl_2, zl_10, zl_100000, Int.reduceToNat, Int.reduceAdd, Int.reduceMul, Int.reduceSub, Int.reduceNeg, Int.reduceLT, Int.reduceLE, Int.reduceEq, not_false_eq_true, not_true_eq_false, false_implies, true_implies, implies_true, Int.reduceDiv, Int.reduceMod, zr8_zr, zr_zbo, z01_zbo, z01_0, z01_1, zbo_eq0, zup_eq, zup_o, zup_k, ne_eq, ↓ct_delayFor_isAhead, ↓r_isAhead, ↓B_isAhead, ↓ct_delayFor_keepAside, ↓r_keepAside, ↓B_keepAside, ↓ct_delayFor_apartBehind, ↓r_apartBehind, ↓B_apartBehind, ↓ct_delayFor_finds, ↓r_finds, ↓B_finds, ↓v_87, ↓g_87_0, ↓l_88, ↓s_88, ↓n_88, ↓g_87_1, ↓l_89, ↓s_89, ↓n_89, ↓g_87_2, ↓l_90, ↓s_90, ↓n_90, ↓g_87_3, ↓p_87_3, ↓g_87_4, ↓l_91, ↓s_91, ↓n_91, ↓g_87_5, ↓p_87_5, ↓g_87_6, ↓p_87_6, ↓g_87_7, ↓p_87_7, ↓g_87_8, ↓p_87_8, ↓g_87_9, ↓p_87_9, ↓g_87_10, ↓p_87_10, ↓g_87_11, ↓l_92, ↓s_92, ↓n_92, ↓g_87_12, ↓l_93, ↓s_93, ↓n_93, ↓g_87_13, ↓p_87_13, ↓g_87_14, ↓l_94, ↓s_94, ↓n_94, ↓g_87_15, ↓p_87_15, ↓g_87_16, ↓l_95, ↓s_95, ↓n_95, ↓g_87_17, ↓l_96, ↓s_96, ↓n_96, ↓g_87_18, ↓l_97, ↓s_97, ↓n_97, ↓g_87_19, ↓p_87_19, ↓g_87_20, ↓p_87_20, ↓g_87_21, ↓l_98, ↓s_98, ↓n_98, ↓g_87_22, ↓l_99, ↓s_99, ↓n_99, ↓g_87_23, ↓l_100, ↓s_100, ↓n_100, ↓g_87_24, ↓l_101, ↓s_101, ↓n_101, zk, lk]
        refine pub_sm hC hM hd ?_
        unfold R_delayFor
        rw [if_pos hn, show k = 10 by omega]
        rfl
      | succ j ih =>
        intro k l M' hk hd ha hM
        refine bs_X11_delayFor_26 hX ?_
        have zk : zr (k : Int) = k := zr_of (by omega) (by omega)
        have lk : ((k : Int) < 10) = True := eq_true (by omega)
        have dr := dlw_rng vd (n := n) (by omega) (by omega) k (by omega)
        have zl : zr (dlw (M 88) n k).2 = (dlw (M 88) n k).2 := zr_of (by omega) (by omega)
        have m87 : M' 87 15 = -1 := by rw [hM 87 (by decide) (by decide) (by decide) (by decide)]; exact m15
        simp only [bk_X11_delayFor_0, k_X11_delayFor_0, bk_X11_delayFor_13, k_X11_delayFor_13, bk_X11_delayFor_26, k_X11_delayFor_26, bk_X11_delayFor_60, k_X11_delayFor_60, bk_X11_delayFor_66, k_X11_delayFor_66, ↓e_rk1, ↓e_rk0, ↓e_sk0, ↓e_sks, ↓e_ldi0, ↓e_ldis, ↓e_ldl0, ↓e_ldls, ↓e_lda0, ↓e_ldas, ↓e_ok0, ↓e_okss, ↓e_ok1i, ↓e_ok1r, ↓e_ok1n, ↓e_sti, ↓e_sta, ↓e_1, ↓e_2, ↓e_l1, ↓e_l2, ↓e_li, ↓e_sw0, ↓e_sws, ↓e_ceq, ↓e_cne, ↓e_clt, ↓e_cge, ↓e_cgt, ↓e_cle, ↓e_nil, ↓e_cons, ↓e_iconst, ↓e_bipush, ↓e_sipush, ↓e_ldc, ↓e_ldcw, ↓e_ldc2, ↓e_lconst, ↓e_iloadn, ↓e_iload, ↓e_lloadn, ↓e_lload, ↓e_aloadn, ↓e_aload, ↓e_istoren, ↓e_istore, ↓e_astoren, ↓e_astore, ↓e_add, ↓e_iinc, ↓e_iadd, ↓e_isub, ↓e_imul, ↓e_iand, ↓e_ior, ↓e_ixor, ↓e_ishl, ↓e_iushr, ↓e_idiv, ↓e_irem, ↓e_ineg, ↓e_i2l, ↓e_i2b, ↓e_i2s, ↓e_l2i, ↓e_land, ↓e_lor, ↓e_lshl, ↓e_lshr, ↓e_lushr, ↓e_lcmp, ↓e_dupi, ↓e_dupr, ↓e_popi, ↓e_dup2, ↓e_goto, ↓e_if, ↓e_icmp, ↓e_tsw, ↓e_lsw, ↓e_getf, ↓e_putf, ↓e_gets, ↓e_iald, ↓e_cald, ↓e_iast, ↓e_aald, ↓e_aast, ↓e_len, ↓e_copy, ↓e_abs, ↓e_max, ↓e_min, ↓e_iret, ↓e_aret, ↓e_vret, ↓e_is0, ↓e_is1, ↓e_is2, ↓e_is3, ↓e_is4, ↓e_iv1, ↓e_iv2, ↓e_iv3, ↓e_iv4, ↓e_iv5, ↓e_iv6, ↓rt_X11_delayFor, ↓reduceIte, Nat.reduceAdd, Nat.reduceEqDiff, ↓zcl0, ↓zclv, List.map_nil, List.sum_nil, List.map_cons, List.sum_cons, zcat, true_and, and_true, Nat.reduceLeDiff, Nat.reduceAdd, eq_self, forall_const, e_ok0, e_okss, e_ok1i, e_ok1r, e_ok1n, zl_0, zl_1, zl_2, zl_10, zl_100000, Int.reduceToNat, Int.reduceAdd, Int.reduceMul, Int.reduceSub, Int.reduceNeg, Int.reduceLT, Int.reduceLE, Int.reduceEq, not_false_eq_true, not_true_eq_false, false_implies, true_implies, implies_true, Int.reduceDiv, Int.reduceMod, zr8_zr, zr_zbo, z01_zbo, z01_0, z01_1, zbo_eq0, zup_eq, zup_o, zup_k, ne_eq, ↓ct_delayFor_isAhead, ↓r_isAhead, ↓B_isAhead, ↓ct_delayFor_keepAside, ↓r_keepAside, ↓B_keepAside, ↓ct_delayFor_apartBehind, ↓r_apartBehind, ↓B_apartBehind, ↓ct_delayFor_finds, ↓r_finds, ↓B_finds, ↓v_87, ↓g_87_0, ↓l_88, ↓s_88, ↓n_88, ↓g_87_1, ↓l_89, ↓s_89, ↓n_89, ↓g_87_2, ↓l_90, ↓s_90, ↓n_90, ↓g_87_3, ↓p_87_3, ↓g_87_4, ↓l_91, ↓s_91, ↓n_91, ↓g_87_5, ↓p_87_5, ↓g_87_6, ↓p_87_6, ↓g_87_7, ↓p_87_7, ↓g_87_8, ↓p_87_8, ↓g_87_9, ↓p_87_9, ↓g_87_10, ↓p_87_10, ↓g_87_11, ↓l_92, ↓s_92, ↓n_92, ↓g_87_12, ↓l_93, ↓s_93, ↓n_93, ↓g_87_13, ↓p_87_13, ↓g_87_14, ↓l_94, ↓s_94, ↓n_94, ↓g_87_15, ↓p_87_15, ↓g_87_16, ↓l_95, ↓s_95, ↓n_95, ↓g_87_17, ↓l_96, ↓s_96, ↓n_96, ↓g_87_18, ↓l_97, ↓s_97, ↓n_97, ↓g_87_19, ↓p_87_19, ↓g_87_20, ↓p_87_20, ↓g_87_21, ↓l_98, ↓s_98, ↓n_98, ↓g_87_22, ↓l_99, ↓s_99, ↓n_99, ↓g_87_23, ↓l_100, ↓s_100, ↓n_100, ↓g_87_24, ↓l_101, ↓s_101, ↓n_101, zk, lk, zl, m87]
        rw [zup_up, hd]
        have u1 : up1 (M 88) 2 (k : Int) 1 = M 88 1 := up1_ne (by omega)
        have bd : (2 : Nat) = 3 ∨ (0 ≤ (k : Int) ∧ (k : Int) ≤ ub 2) := Or.inr ⟨by omega, show (k : Int) ≤ 9 by omega⟩
        have gr := gpw_rng vd (k := 2) (v := k) (n := n) (by omega) (by omega) bd (by omega) (by omega)
        have zg : zr (gap (yrs (up1 (M 88) 2 (k : Int)) (-1) n.toNat)) = gpw (M 88) 2 k n := zr_of (by unfold gpw at gr; omega) (by unfold gpw at gr; omega)
        refine ⟨by omega, by omega, rm, Vd_up vd (by omega) bd, by omega, fun M2 h2 hM2 => ?_⟩
        obtain ⟨b1, b2, b3⟩ := bk_step (by omega) hd ha hM h2 hM2
        have nx := ih (k + 1) (some (.inl (gap (yrs (up1 (M 88) 2 (k : Int)) (-1) n.toNat)))) M2 (by omega) b1 b2 b3
        simp only [dlw] at nx
        rw [zg]
        refine ⟨fun c => ?_, fun c => ?_⟩
        · rw [if_pos c] at nx; exact nx
        · rw [if_neg c] at nx; exact nx
    simp only [bk_X11_delayFor_0, k_X11_delayFor_0, bk_X11_delayFor_13, k_X11_delayFor_13, bk_X11_delayFor_26, k_X11_delayFor_26, bk_X11_delayFor_60, k_X11_delayFor_60, bk_X11_delayFor_66, k_X11_delayFor_66, ↓e_rk1, ↓e_rk0, ↓e_sk0, ↓e_sks, ↓e_ldi0, ↓e_ldis, ↓e_ldl0, ↓e_ldls, ↓e_lda0, ↓e_ldas, ↓e_ok0, ↓e_okss, ↓e_ok1i, ↓e_ok1r, ↓e_ok1n, ↓e_sti, ↓e_sta, ↓e_1, ↓e_2, ↓e_l1, ↓e_l2, ↓e_li, ↓e_sw0, ↓e_sws, ↓e_ceq, ↓e_cne, ↓e_clt, ↓e_cge, ↓e_cgt, ↓e_cle, ↓e_nil, ↓e_cons, ↓e_iconst, ↓e_bipush, ↓e_sipush, ↓e_ldc, ↓e_ldcw, ↓e_ldc2, ↓e_lconst, ↓e_iloadn, ↓e_iload, ↓e_lloadn, ↓e_lload, ↓e_aloadn, ↓e_aload, ↓e_istoren, ↓e_istore, ↓e_astoren, ↓e_astore, ↓e_add, ↓e_iinc, ↓e_iadd, ↓e_isub, ↓e_imul, ↓e_iand, ↓e_ior, ↓e_ixor, ↓e_ishl, ↓e_iushr, ↓e_idiv, ↓e_irem, ↓e_ineg, ↓e_i2l, ↓e_i2b, ↓e_i2s, ↓e_l2i, ↓e_land, ↓e_lor, ↓e_lshl, ↓e_lshr, ↓e_lushr, ↓e_lcmp, ↓e_dupi, ↓e_dupr, ↓e_popi, ↓e_dup2, ↓e_goto, ↓e_if, ↓e_icmp, ↓e_tsw, ↓e_lsw, ↓e_getf, ↓e_putf, ↓e_gets, ↓e_iald, ↓e_cald, ↓e_iast, ↓e_aald, ↓e_aast, ↓e_len, ↓e_copy, ↓e_abs, ↓e_max, ↓e_min, ↓e_iret, ↓e_aret, ↓e_vret, ↓e_is0, ↓e_is1, ↓e_is2, ↓e_is3, ↓e_is4, ↓e_iv1, ↓e_iv2, ↓e_iv3, ↓e_iv4, ↓e_iv5, ↓e_iv6, ↓rt_X11_delayFor, ↓reduceIte, Nat.reduceAdd, Nat.reduceEqDiff, ↓zcl0, ↓zclv, List.map_nil, List.sum_nil, List.map_cons, List.sum_cons, zcat, true_and, and_true, Nat.reduceLeDiff, Nat.reduceAdd, eq_self, forall_const, e_ok0, e_okss, e_ok1i, e_ok1r, e_ok1n, zl_0, zl_1, zl_2, zl_10, zl_100000, Int.reduceToNat, Int.reduceAdd, Int.reduceMul, Int.reduceSub, Int.reduceNeg, Int.reduceLT, Int.reduceLE, Int.reduceEq, not_false_eq_true, not_true_eq_false, false_implies, true_implies, implies_true, Int.reduceDiv, Int.reduceMod, zr8_zr, zr_zbo, z01_zbo, z01_0, z01_1, zbo_eq0, zup_eq, zup_o, zup_k, ne_eq, ↓ct_delayFor_isAhead, ↓r_isAhead, ↓B_isAhead, ↓ct_delayFor_keepAside, ↓r_keepAside, ↓B_keepAside, ↓ct_delayFor_apartBehind, ↓r_apartBehind, ↓B_apartBehind, ↓ct_delayFor_finds, ↓r_finds, ↓B_finds, ↓v_87, ↓g_87_0, ↓l_88, ↓s_88, ↓n_88, ↓g_87_1, ↓l_89, ↓s_89, ↓n_89, ↓g_87_2, ↓l_90, ↓s_90, ↓n_90, ↓g_87_3, ↓p_87_3, ↓g_87_4, ↓l_91, ↓s_91, ↓n_91, ↓g_87_5, ↓p_87_5, ↓g_87_6, ↓p_87_6, ↓g_87_7, ↓p_87_7, ↓g_87_8, ↓p_87_8, ↓g_87_9, ↓p_87_9, ↓g_87_10, ↓p_87_10, ↓g_87_11, ↓l_92, ↓s_92, ↓n_92, ↓g_87_12, ↓l_93, ↓s_93, ↓n_93, ↓g_87_13, ↓p_87_13, ↓g_87_14, ↓l_94, ↓s_94, ↓n_94, ↓g_87_15, ↓p_87_15, ↓g_87_16, ↓l_95, ↓s_95, ↓n_95, ↓g_87_17, ↓l_96, ↓s_96, ↓n_96, ↓g_87_18, ↓l_97, ↓s_97, ↓n_97, ↓g_87_19, ↓p_87_19, ↓g_87_20, ↓p_87_20, ↓g_87_21, ↓l_98, ↓s_98, ↓n_98, ↓g_87_22, ↓l_99, ↓s_99, ↓n_99, ↓g_87_23, ↓l_100, ↓s_100, ↓n_100, ↓g_87_24, ↓l_101, ↓s_101, ↓n_101, m15, zr_rg, h1, zr8_rg, h1, zr8_zr, zr_zbo, zbo_01, zbo_eq0, zbo_eq1]
    refine ⟨fun c1 => ?_, fun c1 M1 hk1 hM1 => lp (by omega) 10 0 none M1 (by omega) (hM1 88 (by decide)) hk1 (fun x _ q _ _ => hM1 x q)⟩
    exact pub_no hC (by unfold R_delayFor; rw [if_neg (by omega)]) rfl
