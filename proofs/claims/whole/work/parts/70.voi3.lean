/-! THE CLASS: voice -/
def teq (t u : T2) : Prop := t.2 = u.2 ∧ 0 ≤ t.2 ∧ ∀ k : Nat, (k : Int) < t.2 → t.1 k = u.1 k
theorem rn1_c {t u : T2} (h : teq t u) (b : Int) : teq (rn1 t b) (rn1 u b) := by
  obtain ⟨h1, h2, h3⟩ := h
  unfold rn1
  rw [← h1]
  by_cases q : t.2 < 40
  · rw [if_pos q, if_pos q]
    refine ⟨rfl, by dsimp only; omega, fun k hk => ?_⟩
    dsimp only at hk ⊢
    unfold up1
    by_cases e : k = t.2.toNat
    · rw [if_pos e, if_pos e]
    · rw [if_neg e, if_neg e]
      exact h3 k (by omega)
  · rw [if_neg q, if_neg q]
    exact ⟨h1, h2, h3⟩
def veq (V W : Int × T2) : Prop := V.1 = W.1 ∧ teq V.2 W.2
theorem vkn_c {t u : T2} (h : teq t u) (n k x : Int) : veq (vkn n k x t) (vkn n k x u) := by
  unfold vkn
  split
  · exact ⟨rfl, rn1_c (rn1_c h _) _⟩
  · exact ⟨rfl, rn1_c h _⟩
theorem vdg_c {t u : T2} (h : teq t u) (n m k x : Int) : veq (vdg n m k x t) (vdg n m k x u) := by
  unfold vdg
  split
  · exact ⟨rfl, rn1_c (rn1_c h _) _⟩
  · split
    · exact ⟨rfl, rn1_c (rn1_c (rn1_c h _) _) _⟩
    · exact ⟨rfl, rn1_c h _⟩
theorem vh0_c {t u : T2} (h : teq t u) (n o x : Int) : veq (vh0 n o x t) (vh0 n o x u) := by
  have := vkn_c (rn1_c h 11) n o x
  exact ⟨by unfold vh0; dsimp only; rw [this.1], this.2⟩
theorem vh2_c {t u : T2} (h : teq t u) (n m o x : Int) : veq (vh2 n m o x t) (vh2 n m o x u) := by
  have a := vh0_c (rn1_c h 30) n o x
  have b := vdg_c a.2 n m o 1
  exact ⟨by unfold vh2; dsimp only; rw [a.1, b.1], b.2⟩
theorem vhe_c {t u : T2} (h : teq t u) (n m o k x : Int) : veq (vhe n m o k x t) (vhe n m o k x u) := by
  unfold vhe
  split
  · exact vh2_c h _ _ _ _
  · split
    · exact vh2_c (rn1_c h _) _ _ _ _
    · exact vh0_c h _ _ _
theorem vt0_c {t u : T2} (h : teq t u) (n m o x : Int) : veq (vt0 n m o x t) (vt0 n m o x u) := by
  have a := vhe_c (rn1_c h 13) n m o o x
  have b := vdg_c a.2 n m o x
  exact ⟨by unfold vt0; dsimp only; rw [a.1, b.1], b.2⟩
theorem vte_c {t u : T2} (h : teq t u) (n m o k x : Int) : veq (vte n m o k x t) (vte n m o k x u) := by
  unfold vte
  split
  · have a := vt0_c (rn1_c h 50) n m o x
    have b := vkn_c a.2 n o 2
    exact ⟨by unfold vt4; dsimp only; rw [a.1, b.1], b.2⟩
  · split
    · have a := vhe_c (rn1_c h 71) n m o o x
      have b := vt0_c a.2 n m o x
      exact ⟨by unfold vt6; dsimp only; rw [a.1, b.1], b.2⟩
    · exact vt0_c h _ _ _ _
theorem vspf_c {t u : T2} (h : teq t u) (n m o f a x : Int) : veq (vspf n m o f a x t) (vspf n m o f a x u) := by
  unfold vspf
  split
  · exact vkn_c h _ _ _
  · split
    · exact vhe_c h _ _ _ _ _
    · split
      · exact vdg_c h _ _ _ _
      · exact vte_c h _ _ _ _ _
theorem srk_7 (f a : Int) : srk f a ≤ 7 := by
  unfold srk
  (repeat' split) <;> omega
def B_vspk (r : Nat) (c : Nat) (e : Int) (a : Int) (x : Int) (M : Nat → Nat → Int) (post : Option ZV → (Nat → Nat → Int) → Prop) : Prop := c = 10 ∧ (0 ≤ e ∧ e < 8) ∧ (0 ≤ a ∧ a ≤ 3) ∧ (0 ≤ M 11 e.toNat ∧ M 11 e.toNat ≤ 6) ∧ ∀ M2 : ZMm, tV M2 = (vspf e (M 12 e.toNat) (M 11 e.toNat) (M 11 e.toNat) a x (M 76, 0)).2 → (∀ x i, ¬ x = 74 → ¬ x = 76 → ¬ (x = 75 ∧ i = 1) → M2 x i = M x i) → post (some (.inl (vspf e (M 12 e.toNat) (M 11 e.toNat) (M 11 e.toNat) a x (M 76, 0)).1)) M2
def C_vspk (r : Nat) : ZC := fun as h post => match as with
  | [.inr (.inr (.inl 74)), .inr (.inr (.inl c)), .inl e, .inl a, .inl x] => h.1 = zG ∧ B_vspk r c e a x h.2 (fun v M => post v (zG, M))
  | _ => False
theorem r_vspk {r : Nat} {c : Nat} {e : Int} {a : Int} {x : Int} {M : Nat → Nat → Int} {post : Option ZV → ZH → Prop} : C_vspk r [.inr (.inr (.inl 74)), .inr (.inr (.inl c)), .inl e, .inl a, .inl x] (zG, M) post = B_vspk r c e a x M (fun v M => post v (zG, M)) := by show (zG = zG ∧ _) = _; simp
def ct_vspk (r : Nat) : Nat → ZC := fun n => if n = 53 then C_vsy (7) else fun _ _ _ => False
theorem ct_vspk_vsy {r : Nat} {as : List ZV} {h : ZH} {post : Option ZV → ZH → Prop} : ct_vspk r 53 as h post = C_vsy (7) as h post := rfl
theorem c_vspk {E : ZE} {d : Nat} {r : Nat} (hd : 1 ≤ d) (i_vsy : ∃ d', d' < d ∧ zMet E d' mX8_say (C_vsy (7))) : zMet E d mX8_speak (C_vspk (r)) := by
  refine zmet_of (o := 8) (ini := false) (CT := ct_vspk r) gd_X8_speak rfl (fun h => by cases h) (by omega) ?_ ?_
  · intro n as h post hh
    unfold ct_vspk at hh
    by_cases c : n = 53
    · subst c; exact ⟨gd_X8_say, i_vsy⟩
    rw [if_neg c] at hh
    exact hh.elim
  intro as h post hC
  match as, hC with
  | [.inr (.inr (.inl 74)), .inr (.inr (.inl c)), .inl e, .inl a, .inl x], hC =>
    refine ⟨Nat.le_of_ble_eq_true rfl, fun X hX => bs_X8_speak_0 hX ?_⟩
    obtain ⟨G, M⟩ := h
    obtain ⟨hG, hC⟩ := hC
    dsimp only at hG
    subst hG
    simp only [B_vspk] at hC
    show bk_X8_speak_0 E (ct_vspk r) X _ [some (.inr (.inr (.inl 74))), some (.inr (.inr (.inl c))), some (.inl e), some (.inl a), some (.inl x)] [] (zG, M) (0, 0)
    obtain ⟨hc, he, ha, hk, hC⟩ := hC
    subst hc
    have ze : zr e = e := zr_of (by omega) (by omega)
    have sk := srk_7 (M 11 e.toNat) a
    have J33 : ∀ M1 : ZMm, M1 74 1 = M 11 e.toNat → M1 74 2 = e → M1 74 3 = M 12 e.toNat → M1 75 1 = 0 → M1 76 = M 76 → (∀ x i, ¬ x = 74 → ¬ (x = 75 ∧ i = 1) → M1 x i = M x i) → X 33 [some (.inr (.inr (.inl 74))), some (.inr (.inr (.inl 10))), some (.inl e), some (.inl a), some (.inl x)] [] (zG, M1) (0, 0) := by
      intro M1 e1 e2 e3 e4 e5 f1
      refine bs_X8_speak_33 hX ?_
      have tv : tV M1 = (M 76, 0) := by unfold tV; rw [e4, e5]
      simp only [bk_X8_speak_0, k_X8_speak_0, bk_X8_speak_33, k_X8_speak_33, ↓e_rk1, ↓e_rk0, ↓e_sk0, ↓e_sks, ↓e_ldi0, ↓e_ldis, ↓e_ldl0, ↓e_ldls, ↓e_lda0, ↓e_ldas, ↓e_ok0, ↓e_okss, ↓e_ok1i, ↓e_ok1r, ↓e_ok1n, ↓e_sti, ↓e_sta, ↓e_1, ↓e_2, ↓e_l1, ↓e_l2, ↓e_li, ↓e_sw0, ↓e_sws, ↓e_ceq, ↓e_cne, ↓e_clt, ↓e_cge, ↓e_cgt, ↓e_cle, ↓e_nil, ↓e_cons, ↓e_iconst, ↓e_bipush, ↓e_sipush, ↓e_ldc, ↓e_ldcw, ↓e_ldc2, ↓e_lconst, ↓e_iloadn, ↓e_iload, ↓e_lloadn, ↓e_lload, ↓e_aloadn, ↓e_aload, ↓e_istoren, ↓e_istore, ↓e_astoren, ↓e_astore, ↓e_add, ↓e_iinc, ↓e_iadd, ↓e_isub, ↓e_imul, ↓e_iand, ↓e_ior, ↓e_ixor, ↓e_ishl, ↓e_iushr, ↓e_idiv, ↓e_irem, ↓e_ineg, ↓e_i2l, ↓e_i2b, ↓e_i2s, ↓e_l2i, ↓e_land, ↓e_lor, ↓e_lshl, ↓e_lshr, ↓e_lushr, ↓e_lcmp, ↓e_dupi, ↓e_dupr, ↓e_popi, ↓e_dup2, ↓e_goto, ↓e_if, ↓e_icmp, ↓e_tsw, ↓e_lsw, ↓e_getf, ↓e_putf, ↓e_gets, ↓e_iald, ↓e_cald, ↓e_iast, ↓e_aald, ↓e_aast, ↓e_len, ↓e_copy, ↓e_abs, ↓e_max, ↓e_min, ↓e_iret, ↓e_aret, ↓e_vret, ↓e_is0, ↓e_is1, ↓e_is2, ↓e_is3, ↓e_is4, ↓e_iv1, ↓e_iv2, ↓e_iv3, ↓e_iv4, ↓e_iv5, ↓e_iv6, ↓rt_X8_speak, ↓reduceIte, Nat.reduceAdd, Nat.reduceEqDiff, ↓zcl0, ↓zclv, List.map_nil, List.sum_nil, List.map_cons, List.sum_cons, zcat, true_and, and_true, Nat.reduceLeDiff, Nat.reduceAdd, eq_self, forall_const, e_ok0, e_okss, e_ok1i, e_ok1r, e_ok1n, zl_0, Int.reduceToNat, Int.reduceAdd, Int.reduceMul, Int.reduceSub, Int.reduceNeg, Int.reduceLT, Int.reduceLE, Int.reduceEq, not_false_eq_true, not_true_eq_false, false_implies, true_implies, implies_true, Int.reduceDiv, Int.reduceMod, zr8_zr, zr_zbo, z01_zbo, z01_0, z01_1, zbo_eq0, zup_eq, zup_o, zup_k, ne_eq, ↓ct_vspk_vsy, ↓r_vsy, ↓B_vsy, ↓v_74, ↓g_74_0, ↓g_74_1, ↓p_74_1, ↓g_74_2, ↓p_74_2, ↓g_74_3, ↓p_74_3, e1]
      refine ⟨hk, ha, sk, by omega, ⟨by rw [e1]; exact hk, by omega⟩, fun M2 n2 => ?_⟩
      simp only [vSp, e1, e2, e3, tv] at n2 ⊢
      exact hC M2 n2.1 (fun x i p1 p2 p3 => by rw [n2.2 x i p2 p3, f1 x i p1 p3])
    simp only [bk_X8_speak_0, k_X8_speak_0, bk_X8_speak_33, k_X8_speak_33, ↓e_rk1, ↓e_rk0, ↓e_sk0, ↓e_sks, ↓e_ldi0, ↓e_ldis, ↓e_ldl0, ↓e_ldls, ↓e_lda0, ↓e_ldas, ↓e_ok0, ↓e_okss, ↓e_ok1i, ↓e_ok1r, ↓e_ok1n, ↓e_sti, ↓e_sta, ↓e_1, ↓e_2, ↓e_l1, ↓e_l2, ↓e_li, ↓e_sw0, ↓e_sws, ↓e_ceq, ↓e_cne, ↓e_clt, ↓e_cge, ↓e_cgt, ↓e_cle, ↓e_nil, ↓e_cons, ↓e_iconst, ↓e_bipush, ↓e_sipush, ↓e_ldc, ↓e_ldcw, ↓e_ldc2, ↓e_lconst, ↓e_iloadn, ↓e_iload, ↓e_lloadn, ↓e_lload, ↓e_aloadn, ↓e_aload, ↓e_istoren, ↓e_istore, ↓e_astoren, ↓e_astore, ↓e_add, ↓e_iinc, ↓e_iadd, ↓e_isub, ↓e_imul, ↓e_iand, ↓e_ior, ↓e_ixor, ↓e_ishl, ↓e_iushr, ↓e_idiv, ↓e_irem, ↓e_ineg, ↓e_i2l, ↓e_i2b, ↓e_i2s, ↓e_l2i, ↓e_land, ↓e_lor, ↓e_lshl, ↓e_lshr, ↓e_lushr, ↓e_lcmp, ↓e_dupi, ↓e_dupr, ↓e_popi, ↓e_dup2, ↓e_goto, ↓e_if, ↓e_icmp, ↓e_tsw, ↓e_lsw, ↓e_getf, ↓e_putf, ↓e_gets, ↓e_iald, ↓e_cald, ↓e_iast, ↓e_aald, ↓e_aast, ↓e_len, ↓e_copy, ↓e_abs, ↓e_max, ↓e_min, ↓e_iret, ↓e_aret, ↓e_vret, ↓e_is0, ↓e_is1, ↓e_is2, ↓e_is3, ↓e_is4, ↓e_iv1, ↓e_iv2, ↓e_iv3, ↓e_iv4, ↓e_iv5, ↓e_iv6, ↓rt_X8_speak, ↓reduceIte, Nat.reduceAdd, Nat.reduceEqDiff, ↓zcl0, ↓zclv, List.map_nil, List.sum_nil, List.map_cons, List.sum_cons, zcat, true_and, and_true, Nat.reduceLeDiff, Nat.reduceAdd, eq_self, forall_const, e_ok0, e_okss, e_ok1i, e_ok1r, e_ok1n, zl_0, Int.reduceToNat, Int.reduceAdd, Int.reduceMul, Int.reduceSub, Int.reduceNeg, Int.reduceLT, Int.reduceLE, Int.reduceEq, not_false_eq_true, not_true_eq_false, false_implies, true_implies, implies_true, Int.reduceDiv, Int.reduceMod, zr8_zr, zr_zbo, z01_zbo, z01_0, z01_1, zbo_eq0, zup_eq, zup_o, zup_k, ne_eq, ↓ct_vspk_vsy, ↓r_vsy, ↓B_vsy, ↓v_74, ↓g_74_0, ↓g_74_1, ↓p_74_1, ↓g_74_2, ↓p_74_2, ↓g_74_3, ↓p_74_3, ↓v_75, ↓g_75_0, ↓l_76, ↓s_76, ↓n_76, ↓g_75_1, ↓p_75_1, ↓v_10, ↓g_10_0, ↓l_11, ↓s_11, ↓n_11, ↓g_10_1, ↓l_12, ↓s_12, ↓n_12, ↓g_10_2, ↓l_13, ↓s_13, ↓n_13, ↓g_10_3, ↓p_10_3, ze]
    repeat (refine And.intro (by omega) ?_)
    refine J33 _ ?_ ?_ ?_ ?_ ?_ (fun x i p1 p2 => ?_)
    · simp [zup]
    · simp [zup]
    · simp [zup]
    · simp [zup]
    · rw [zup_ne _ (by decide), zup_ne _ (by decide), zup_ne _ (by decide), zup_ne _ (by decide)]
    · rw [zup_o p1, zup_o p1, zup_o p1]
      simp only [zup]
      rw [if_neg p2]
def B_xvoice9 (r : Nat) (e : Int) (a : Int) (x : Int) (M : Nat → Nat → Int) (post : Option ZV → (Nat → Nat → Int) → Prop) : Prop := rg e ∧ rg a ∧ rg x ∧ ∃ S : ZMm, Vs S ∧ Rc S M ∧ cp M (R_voice S e a x) post
def C_xvoice9 (r : Nat) : ZC := fun as h post => match as with
  | [.inr (.inr (.inl 0)), .inl e, .inl a, .inl x] => h.1 = zG ∧ B_xvoice9 r e a x h.2 (fun v M => post v (zG, M))
  | _ => False
theorem r_xvoice9 {r : Nat} {e : Int} {a : Int} {x : Int} {M : Nat → Nat → Int} {post : Option ZV → ZH → Prop} : C_xvoice9 r [.inr (.inr (.inl 0)), .inl e, .inl a, .inl x] (zG, M) post = B_xvoice9 r e a x M (fun v M => post v (zG, M)) := by show (zG = zG ∧ _) = _; simp
def ct_xvoice9 (r : Nat) : Nat → ZC := fun n => if n = 112 then C_cnob else if n = 111 then C_cbey else if n = 110 then C_cfail else if n = 52 then C_vspk (0) else fun _ _ _ => False
theorem ct_xvoice9_cnob {r : Nat} {as : List ZV} {h : ZH} {post : Option ZV → ZH → Prop} : ct_xvoice9 r 112 as h post = C_cnob as h post := rfl
theorem ct_xvoice9_cbey {r : Nat} {as : List ZV} {h : ZH} {post : Option ZV → ZH → Prop} : ct_xvoice9 r 111 as h post = C_cbey as h post := rfl
theorem ct_xvoice9_cfail {r : Nat} {as : List ZV} {h : ZH} {post : Option ZV → ZH → Prop} : ct_xvoice9 r 110 as h post = C_cfail as h post := rfl
theorem ct_xvoice9_vspk {r : Nat} {as : List ZV} {h : ZH} {post : Option ZV → ZH → Prop} : ct_xvoice9 r 52 as h post = C_vspk (0) as h post := rfl
theorem c_xvoice9 {E : ZE} {d : Nat} {r : Nat} (hd : 3 ≤ d) (i_vspk : ∃ d', d' < d ∧ zMet E d' mX8_speak (C_vspk (0))) : zMet E d mX10_voice (C_xvoice9 (r)) := by
  refine zmet_of (o := 10) (ini := false) (CT := ct_xvoice9 r) gd_X10_voice rfl (fun h => by cases h) (by omega) ?_ ?_
  · intro n as h post hh
    unfold ct_xvoice9 at hh
    by_cases c : n = 112
    · subst c; exact ⟨gd_X10_isNobody, 2, by omega, c_cnob (by omega)⟩
    rw [if_neg c] at hh
    by_cases c : n = 111
    · subst c; exact ⟨gd_X10_isBeyond, 1, by omega, c_cbey (by omega)⟩
    rw [if_neg c] at hh
    by_cases c : n = 110
    · subst c; exact ⟨gd_X10_failed, 1, by omega, c_cfail (by omega)⟩
    rw [if_neg c] at hh
    by_cases c : n = 52
    · subst c; exact ⟨gd_X8_speak, i_vspk⟩
    rw [if_neg c] at hh
    exact hh.elim
  intro as h post hC
  match as, hC with
  | [.inr (.inr (.inl 0)), .inl e, .inl a, .inl x], hC =>
    refine ⟨Nat.le_of_ble_eq_true rfl, fun X hX => bs_X10_voice_0 hX ?_⟩
    obtain ⟨G, M⟩ := h
    obtain ⟨hG, hC⟩ := hC
    dsimp only at hG
    subst hG
    simp only [B_xvoice9] at hC
    show bk_X10_voice_0 E (ct_xvoice9 r) X _ [some (.inr (.inr (.inl 0))), some (.inl e), some (.inl a), some (.inl x)] [] (zG, M) (0, 0)
    obtain ⟨h1, h2, h3, S, vs9, H, hC⟩ := hC
    have vd : Vd (S 88) := vs9.1
    have n9 := H.1
    have v0 := vd.1
    have e3 : M 10 3 = S 88 0 := n9.2.1.1
    have J16 : ¬ ((0 ≤ e ∧ e < S 88 0) ∧ 0 ≤ a ∧ a ≤ 3) → X 16 [some (.inr (.inr (.inl 0))), some (.inl e), some (.inl a), some (.inl x)] [] (zG, M) (0, 0) := by
      intro q
      refine bs_X10_voice_16 hX ?_
      simp only [bk_X10_voice_0, k_X10_voice_0, bk_X10_voice_8, k_X10_voice_8, bk_X10_voice_16, k_X10_voice_16, bk_X10_voice_23, k_X10_voice_23, ↓e_rk1, ↓e_rk0, ↓e_sk0, ↓e_sks, ↓e_ldi0, ↓e_ldis, ↓e_ldl0, ↓e_ldls, ↓e_lda0, ↓e_ldas, ↓e_ok0, ↓e_okss, ↓e_ok1i, ↓e_ok1r, ↓e_ok1n, ↓e_sti, ↓e_sta, ↓e_1, ↓e_2, ↓e_l1, ↓e_l2, ↓e_li, ↓e_sw0, ↓e_sws, ↓e_ceq, ↓e_cne, ↓e_clt, ↓e_cge, ↓e_cgt, ↓e_cle, ↓e_nil, ↓e_cons, ↓e_iconst, ↓e_bipush, ↓e_sipush, ↓e_ldc, ↓e_ldcw, ↓e_ldc2, ↓e_lconst, ↓e_iloadn, ↓e_iload, ↓e_lloadn, ↓e_lload, ↓e_aloadn, ↓e_aload, ↓e_istoren, ↓e_istore, ↓e_astoren, ↓e_astore, ↓e_add, ↓e_iinc, ↓e_iadd, ↓e_isub, ↓e_imul, ↓e_iand, ↓e_ior, ↓e_ixor, ↓e_ishl, ↓e_iushr, ↓e_idiv, ↓e_irem, ↓e_ineg, ↓e_i2l, ↓e_i2b, ↓e_i2s, ↓e_l2i, ↓e_land, ↓e_lor, ↓e_lshl, ↓e_lshr, ↓e_lushr, ↓e_lcmp, ↓e_dupi, ↓e_dupr, ↓e_popi, ↓e_dup2, ↓e_goto, ↓e_if, ↓e_icmp, ↓e_tsw, ↓e_lsw, ↓e_getf, ↓e_putf, ↓e_gets, ↓e_iald, ↓e_cald, ↓e_iast, ↓e_aald, ↓e_aast, ↓e_len, ↓e_copy, ↓e_abs, ↓e_max, ↓e_min, ↓e_iret, ↓e_aret, ↓e_vret, ↓e_is0, ↓e_is1, ↓e_is2, ↓e_is3, ↓e_is4, ↓e_iv1, ↓e_iv2, ↓e_iv3, ↓e_iv4, ↓e_iv5, ↓e_iv6, ↓rt_X10_voice, ↓reduceIte, Nat.reduceAdd, Nat.reduceEqDiff, ↓zcl0, ↓zclv, List.map_nil, List.sum_nil, List.map_cons, List.sum_cons, zcat, true_and, and_true, Nat.reduceLeDiff, Nat.reduceAdd, eq_self, forall_const, e_ok0, e_okss, e_ok1i, e_ok1r, e_ok1n, zl_m1000000001, zl_3, Int.reduceToNat, Int.reduceAdd, Int.reduceMul, Int.reduceSub, Int.reduceNeg, Int.reduceLT, Int.reduceLE, Int.reduceEq, not_false_eq_true, not_true_eq_false, false_implies, true_implies, implies_true, Int.reduceDiv, Int.reduceMod, zr8_zr, zr_zbo, z01_zbo, z01_0, z01_1, zbo_eq0, zup_eq, zup_o, zup_k, ne_eq, ↓ct_xvoice9_cnob, ↓r_cnob, ↓B_cnob, ↓ct_xvoice9_cbey, ↓r_cbey, ↓B_cbey, ↓ct_xvoice9_cfail, ↓r_cfail, ↓B_cfail, ↓ct_xvoice9_vspk, ↓r_vspk, ↓B_vspk, ↓v_0, ↓g_0_0, ↓g_0_1, ↓g_0_2, ↓g_0_3, ↓g_0_4, ↓g_0_5, ↓g_0_6, ↓g_0_7, ↓g_0_8, ↓l_78, ↓s_78, ↓n_78, ↓g_0_9, ↓p_0_9]
      exact ⟨1, by omega, by omega, cp_no hC H vd (by omega) (by unfold R_voice; rw [if_neg q]) rfl⟩
    have J23 : ((0 ≤ e ∧ e < S 88 0) ∧ 0 ≤ a ∧ a ≤ 3) → X 23 [some (.inr (.inr (.inl 0))), some (.inl e), some (.inl a), some (.inl x)] [] (zG, M) (0, 0) := by
      intro q
      have cc := n9.2.1.e (e := e) (by omega) (by omega)
      have c0 : M 11 e.toNat = ei (S 88) e 0 := cc.1
      have c1 : M 12 e.toNat = ei (S 88) e 1 := cc.2.1
      have eb := Vd_ei vd (e := e) (by omega) (by omega)
      refine bs_X10_voice_23 hX ?_
      simp only [bk_X10_voice_0, k_X10_voice_0, bk_X10_voice_8, k_X10_voice_8, bk_X10_voice_16, k_X10_voice_16, bk_X10_voice_23, k_X10_voice_23, ↓e_rk1, ↓e_rk0, ↓e_sk0, ↓e_sks, ↓e_ldi0, ↓e_ldis, ↓e_ldl0, ↓e_ldls, ↓e_lda0, ↓e_ldas, ↓e_ok0, ↓e_okss, ↓e_ok1i, ↓e_ok1r, ↓e_ok1n, ↓e_sti, ↓e_sta, ↓e_1, ↓e_2, ↓e_l1, ↓e_l2, ↓e_li, ↓e_sw0, ↓e_sws, ↓e_ceq, ↓e_cne, ↓e_clt, ↓e_cge, ↓e_cgt, ↓e_cle, ↓e_nil, ↓e_cons, ↓e_iconst, ↓e_bipush, ↓e_sipush, ↓e_ldc, ↓e_ldcw, ↓e_ldc2, ↓e_lconst, ↓e_iloadn, ↓e_iload, ↓e_lloadn, ↓e_lload, ↓e_aloadn, ↓e_aload, ↓e_istoren, ↓e_istore, ↓e_astoren, ↓e_astore, ↓e_add, ↓e_iinc, ↓e_iadd, ↓e_isub, ↓e_imul, ↓e_iand, ↓e_ior, ↓e_ixor, ↓e_ishl, ↓e_iushr, ↓e_idiv, ↓e_irem, ↓e_ineg, ↓e_i2l, ↓e_i2b, ↓e_i2s, ↓e_l2i, ↓e_land, ↓e_lor, ↓e_lshl, ↓e_lshr, ↓e_lushr, ↓e_lcmp, ↓e_dupi, ↓e_dupr, ↓e_popi, ↓e_dup2, ↓e_goto, ↓e_if, ↓e_icmp, ↓e_tsw, ↓e_lsw, ↓e_getf, ↓e_putf, ↓e_gets, ↓e_iald, ↓e_cald, ↓e_iast, ↓e_aald, ↓e_aast, ↓e_len, ↓e_copy, ↓e_abs, ↓e_max, ↓e_min, ↓e_iret, ↓e_aret, ↓e_vret, ↓e_is0, ↓e_is1, ↓e_is2, ↓e_is3, ↓e_is4, ↓e_iv1, ↓e_iv2, ↓e_iv3, ↓e_iv4, ↓e_iv5, ↓e_iv6, ↓rt_X10_voice, ↓reduceIte, Nat.reduceAdd, Nat.reduceEqDiff, ↓zcl0, ↓zclv, List.map_nil, List.sum_nil, List.map_cons, List.sum_cons, zcat, true_and, and_true, Nat.reduceLeDiff, Nat.reduceAdd, eq_self, forall_const, e_ok0, e_okss, e_ok1i, e_ok1r, e_ok1n, zl_m1000000001, zl_3, Int.reduceToNat, Int.reduceAdd, Int.reduceMul, Int.reduceSub, Int.reduceNeg, Int.reduceLT, Int.reduceLE, Int.reduceEq, not_false_eq_true, not_true_eq_false, false_implies, true_implies, implies_true, Int.reduceDiv, Int.reduceMod, zr8_zr, zr_zbo, z01_zbo, z01_0, z01_1, zbo_eq0, zup_eq, zup_o, zup_k, ne_eq, ↓ct_xvoice9_cnob, ↓r_cnob, ↓B_cnob, ↓ct_xvoice9_cbey, ↓r_cbey, ↓B_cbey, ↓ct_xvoice9_cfail, ↓r_cfail, ↓B_cfail, ↓ct_xvoice9_vspk, ↓r_vspk, ↓B_vspk, ↓v_0, ↓g_0_0, ↓g_0_1, ↓g_0_2, ↓g_0_3, ↓g_0_4, ↓g_0_5, ↓g_0_6, ↓g_0_7, ↓g_0_8, ↓l_78, ↓s_78, ↓n_78, ↓g_0_9, ↓p_0_9, ↓v_1, ↓g_1_0, ↓g_1_1, ↓g_1_2, ↓g_1_3, ↓g_1_4, ↓g_1_5, ↓g_1_6, ↓p_1_6, ↓v_74, ↓g_74_0, ↓g_74_1, ↓p_74_1, ↓g_74_2, ↓p_74_2, ↓g_74_3, ↓p_74_3, c0, c1]
      refine ⟨by omega, by omega, eb.1, fun M2 t2 f2 => ?_⟩
      have ev : vce S e a x = vspf e (ei (S 88) e 1) (ei (S 88) e 0) (ei (S 88) e 0) a x (S 97, 0) := rfl
      have vc := vspf_c (t := (M 76, 0)) (u := (S 97, 0)) ⟨rfl, Int.le_refl 0, fun k hk => by dsimp only at hk; omega⟩ e (ei (S 88) e 1) (ei (S 88) e 0) (ei (S 88) e 0) a x
      rw [← ev] at vc
      obtain ⟨v1, v2⟩ := vc
      have er : R_voice S e a x = ((vce S e a x).1, stT S e (vce S e a x).2) := by
        unfold R_voice
        rw [if_pos q]
      rw [v1]
      have g : ∀ x, ¬ x = 74 → ¬ x = 75 → ¬ x = 76 → M2 x = M x := fun x p1 p2 p3 => funext fun i => f2 x i p1 p3 (by omega)
      refine cp_mk hC er ?_ (fun x p => g x (by omega) (by omega) (by omega))
      rw [← t2] at v2
      obtain ⟨n, kp, i, er9, v, s⟩ := H
      have sx : ∀ y : Nat, ¬ y = 97 → ¬ y = 87 → stT S e (vce S e a x).2 y = S y := by
        intro y p1 p2
        funext k
        unfold stT
        rw [if_neg p1, if_neg (by omega), if_neg (by omega)]
      have s3 : stT S e (vce S e a x).2 87 3 = S 87 3 := by
        unfold stT
        rw [if_neg (by decide), if_neg (by decide), if_neg (by decide)]
      have s19 : stT S e (vce S e a x).2 87 19 = (vce S e a x).2.2 := by
        unfold stT
        rw [if_neg (by decide), if_pos ⟨rfl, rfl⟩]
      have s97 : stT S e (vce S e a x).2 97 = (vce S e a x).2.1 := by
        funext k
        unfold stT
        rw [if_pos rfl]
      refine ⟨?_, fun q9 => ?_, ?_, fun j hj => ?_, ⟨?_, fun j hj => ?_⟩, fun j hj => ?_⟩
      · rw [sx 88 (by decide) (by decide)]
        exact SRn_cg n vd (fun x p _ _ => g x (by omega) (by omega) (by omega))
      · rw [s3] at q9
        rw [sx 89 (by decide) (by decide)]
        exact SRk_cg (kp q9) (fun x p => g x (by omega) (by omega) (by omega))
      · rw [g 0 (by omega) (by omega) (by omega), s3]; exact i
      · rw [g 78 (by omega) (by omega) (by omega), sx 91 (by decide) (by decide)]; exact er9 j hj
      · rw [s19]; exact v2.1
      · rw [s19] at hj
        rw [s97]
        exact v2.2.2 j (by rw [v2.1]; exact hj)
      · rw [g _ (by omega) (by omega) (by omega), g _ (by omega) (by omega) (by omega), sx 98 (by decide) (by decide), sx 99 (by decide) (by decide), sx 100 (by decide) (by decide)]; exact s j hj
    have J8 : (0 ≤ e ∧ e < S 88 0) → X 8 [some (.inr (.inr (.inl 0))), some (.inl e), some (.inl a), some (.inl x)] [] (zG, M) (0, 0) := by
      intro q
      refine bs_X10_voice_8 hX ?_
      simp only [bk_X10_voice_0, k_X10_voice_0, bk_X10_voice_8, k_X10_voice_8, bk_X10_voice_16, k_X10_voice_16, bk_X10_voice_23, k_X10_voice_23, ↓e_rk1, ↓e_rk0, ↓e_sk0, ↓e_sks, ↓e_ldi0, ↓e_ldis, ↓e_ldl0, ↓e_ldls, ↓e_lda0, ↓e_ldas, ↓e_ok0, ↓e_okss, ↓e_ok1i, ↓e_ok1r, ↓e_ok1n, ↓e_sti, ↓e_sta, ↓e_1, ↓e_2, ↓e_l1, ↓e_l2, ↓e_li, ↓e_sw0, ↓e_sws, ↓e_ceq, ↓e_cne, ↓e_clt, ↓e_cge, ↓e_cgt, ↓e_cle, ↓e_nil, ↓e_cons, ↓e_iconst, ↓e_bipush, ↓e_sipush, ↓e_ldc, ↓e_ldcw, ↓e_ldc2, ↓e_lconst, ↓e_iloadn, ↓e_iload, ↓e_lloadn, ↓e_lload, ↓e_aloadn, ↓e_aload, ↓e_istoren, ↓e_istore, ↓e_astoren, ↓e_astore, ↓e_add, ↓e_iinc, ↓e_iadd, ↓e_isub, ↓e_imul, ↓e_iand, ↓e_ior, ↓e_ixor, ↓e_ishl, ↓e_iushr, ↓e_idiv, ↓e_irem, ↓e_ineg, ↓e_i2l, ↓e_i2b, ↓e_i2s, ↓e_l2i, ↓e_land, ↓e_lor, ↓e_lshl, ↓e_lshr, ↓e_lushr, ↓e_lcmp, ↓e_dupi, ↓e_dupr, ↓e_popi, ↓e_dup2, ↓e_goto, ↓e_if, ↓e_icmp, ↓e_tsw, ↓e_lsw, ↓e_getf, ↓e_putf, ↓e_gets, ↓e_iald, ↓e_cald, ↓e_iast, ↓e_aald, ↓e_aast, ↓e_len, ↓e_copy, ↓e_abs, ↓e_max, ↓e_min, ↓e_iret, ↓e_aret, ↓e_vret, ↓e_is0, ↓e_is1, ↓e_is2, ↓e_is3, ↓e_is4, ↓e_iv1, ↓e_iv2, ↓e_iv3, ↓e_iv4, ↓e_iv5, ↓e_iv6, ↓rt_X10_voice, ↓reduceIte, Nat.reduceAdd, Nat.reduceEqDiff, ↓zcl0, ↓zclv, List.map_nil, List.sum_nil, List.map_cons, List.sum_cons, zcat, true_and, and_true, Nat.reduceLeDiff, Nat.reduceAdd, eq_self, forall_const, e_ok0, e_okss, e_ok1i, e_ok1r, e_ok1n, zl_m1000000001, zl_3, Int.reduceToNat, Int.reduceAdd, Int.reduceMul, Int.reduceSub, Int.reduceNeg, Int.reduceLT, Int.reduceLE, Int.reduceEq, not_false_eq_true, not_true_eq_false, false_implies, true_implies, implies_true, Int.reduceDiv, Int.reduceMod, zr8_zr, zr_zbo, z01_zbo, z01_0, z01_1, zbo_eq0, zup_eq, zup_o, zup_k, ne_eq, ↓ct_xvoice9_cnob, ↓r_cnob, ↓B_cnob, ↓ct_xvoice9_cbey, ↓r_cbey, ↓B_cbey, ↓ct_xvoice9_cfail, ↓r_cfail, ↓B_cfail, ↓ct_xvoice9_vspk, ↓r_vspk, ↓B_vspk, ↓v_0, ↓g_0_0, ↓g_0_1, ↓g_0_2, ↓g_0_3, ↓g_0_4, ↓g_0_5, ↓g_0_6, ↓g_0_7, ↓g_0_8, ↓l_78, ↓s_78, ↓n_78, ↓g_0_9, ↓p_0_9, zr_zbo, zbo_eq0]
      repeat' (first | assumption | apply And.intro | intro _)
      all_goals first | omega | (apply J16; omega) | (apply J23; omega)
    simp only [bk_X10_voice_0, k_X10_voice_0, bk_X10_voice_8, k_X10_voice_8, bk_X10_voice_16, k_X10_voice_16, bk_X10_voice_23, k_X10_voice_23, ↓e_rk1, ↓e_rk0, ↓e_sk0, ↓e_sks, ↓e_ldi0, ↓e_ldis, ↓e_ldl0, ↓e_ldls, ↓e_lda0, ↓e_ldas, ↓e_ok0, ↓e_okss, ↓e_ok1i, ↓e_ok1r, ↓e_ok1n, ↓e_sti, ↓e_sta, ↓e_1, ↓e_2, ↓e_l1, ↓e_l2, ↓e_li, ↓e_sw0, ↓e_sws, ↓e_ceq, ↓e_cne, ↓e_clt, ↓e_cge, ↓e_cgt, ↓e_cle, ↓e_nil, ↓e_cons, ↓e_iconst, ↓e_bipush, ↓e_sipush, ↓e_ldc, ↓e_ldcw, ↓e_ldc2, ↓e_lconst, ↓e_iloadn, ↓e_iload, ↓e_lloadn, ↓e_lload, ↓e_aloadn, ↓e_aload, ↓e_istoren, ↓e_istore, ↓e_astoren, ↓e_astore, ↓e_add, ↓e_iinc, ↓e_iadd, ↓e_isub, ↓e_imul, ↓e_iand, ↓e_ior, ↓e_ixor, ↓e_ishl, ↓e_iushr, ↓e_idiv, ↓e_irem, ↓e_ineg, ↓e_i2l, ↓e_i2b, ↓e_i2s, ↓e_l2i, ↓e_land, ↓e_lor, ↓e_lshl, ↓e_lshr, ↓e_lushr, ↓e_lcmp, ↓e_dupi, ↓e_dupr, ↓e_popi, ↓e_dup2, ↓e_goto, ↓e_if, ↓e_icmp, ↓e_tsw, ↓e_lsw, ↓e_getf, ↓e_putf, ↓e_gets, ↓e_iald, ↓e_cald, ↓e_iast, ↓e_aald, ↓e_aast, ↓e_len, ↓e_copy, ↓e_abs, ↓e_max, ↓e_min, ↓e_iret, ↓e_aret, ↓e_vret, ↓e_is0, ↓e_is1, ↓e_is2, ↓e_is3, ↓e_is4, ↓e_iv1, ↓e_iv2, ↓e_iv3, ↓e_iv4, ↓e_iv5, ↓e_iv6, ↓rt_X10_voice, ↓reduceIte, Nat.reduceAdd, Nat.reduceEqDiff, ↓zcl0, ↓zclv, List.map_nil, List.sum_nil, List.map_cons, List.sum_cons, zcat, true_and, and_true, Nat.reduceLeDiff, Nat.reduceAdd, eq_self, forall_const, e_ok0, e_okss, e_ok1i, e_ok1r, e_ok1n, zl_m1000000001, zl_3, Int.reduceToNat, Int.reduceAdd, Int.reduceMul, Int.reduceSub, Int.reduceNeg, Int.reduceLT, Int.reduceLE, Int.reduceEq, not_false_eq_true, not_true_eq_false, false_implies, true_implies, implies_true, Int.reduceDiv, Int.reduceMod, zr8_zr, zr_zbo, z01_zbo, z01_0, z01_1, zbo_eq0, zup_eq, zup_o, zup_k, ne_eq, ↓ct_xvoice9_cnob, ↓r_cnob, ↓B_cnob, ↓ct_xvoice9_cbey, ↓r_cbey, ↓B_cbey, ↓ct_xvoice9_cfail, ↓r_cfail, ↓B_cfail, ↓ct_xvoice9_vspk, ↓r_vspk, ↓B_vspk, ↓v_0, ↓g_0_0, ↓g_0_1, ↓g_0_2, ↓g_0_3, ↓g_0_4, ↓g_0_5, ↓g_0_6, ↓g_0_7, ↓g_0_8, ↓l_78, ↓s_78, ↓n_78, ↓g_0_9, ↓p_0_9, e3, zr_zbo, zbo_eq0]
    refine ⟨h1, v0, fun q => ?_, fun q => ?_⟩
    · first | exact J8 (by omega) | exact J16 (by omega)
    · first | exact J8 (by omega) | exact J16 (by omega)
def C_x_voice : ZC := C_xvoice9 0
def B_x_voice (e a x : Int) (M : Nat → Nat → Int) (post : Option ZV → (Nat → Nat → Int) → Prop) : Prop := B_xvoice9 0 e a x M post
theorem r_x_voice {e a x : Int} {M : Nat → Nat → Int} {post : Option ZV → ZH → Prop} : C_x_voice [.inr (.inr (.inl 0)), .inl e, .inl a, .inl x] (zG, M) post = B_x_voice e a x M (fun v M => post v (zG, M)) := r_xvoice9
theorem c_x_voice {E : ZE} {d : Nat} (h : 20 ≤ d) : zMet E d mX10_voice C_x_voice := c_xvoice9 (r := 0) (by omega) ⟨19, by omega, c_vspk (r := 0) (by omega) ⟨18, by omega, c_vsyA 7 18 (by omega)⟩⟩
-- known: x_voice X10_voice 20 r:0 i:e i:a i:x
