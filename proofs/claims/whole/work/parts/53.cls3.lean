/-! THE CLASS: a head goes -/
theorem up1_self {d : Nat → Int} {k : Nat} {v : Int} (h : d k = v) : up1 d k v = d := by
  funext j
  unfold up1
  split
  · rename_i e; rw [e, h]
  · rfl
def B_hgo (o : Nat) (g : Int) (w : Int) (l : Nat) (M : Nat → Nat → Int) (post : Option ZV → (Nat → Nat → Int) → Prop) : Prop := hillb o ∧ (0 ≤ g ∧ g < 2) ∧ (0 ≤ w ∧ w ≤ 4) ∧ l = 18 ∧ ∃ d : Nat → Int, HR o M d ∧ Vd d ∧ LR 18 M d 1 ∧ ∀ M2 : ZMm, HR o M2 (gos d g w) → (∀ x, (x < o ∨ o + 7 < x) → ¬ x = 21 → M2 x = M x) → post none M2
def C_hgo : ZC := fun as h post => match as with
  | [.inr (.inr (.inl o)), .inl g, .inl w, .inr (.inr (.inl l))] => h.1 = zG ∧ B_hgo o g w l h.2 (fun v M => post v (zG, M))
  | _ => False
theorem r_hgo {o : Nat} {g : Int} {w : Int} {l : Nat} {M : Nat → Nat → Int} {post : Option ZV → ZH → Prop} : C_hgo [.inr (.inr (.inl o)), .inl g, .inl w, .inr (.inr (.inl l))] (zG, M) post = B_hgo o g w l M (fun v M => post v (zG, M)) := by show (zG = zG ∧ _) = _; simp
def ct_hgo : Nat → ZC := fun n => if n = 16 then C_hbeside else if n = 26 then C_lgives else fun _ _ _ => False
theorem ct_hgo_hbeside {as : List ZV} {h : ZH} {post : Option ZV → ZH → Prop} : ct_hgo 16 as h post = C_hbeside as h post := rfl
theorem ct_hgo_lgives {as : List ZV} {h : ZH} {post : Option ZV → ZH → Prop} : ct_hgo 26 as h post = C_lgives as h post := rfl
theorem c_hgo {E : ZE} {d : Nat} (hd : 3 ≤ d) : zMet E d mX2_go C_hgo := by
  refine zmet_of (o := 2) (ini := false) (CT := ct_hgo) gd_X2_go rfl (fun h => by cases h) (by omega) ?_ ?_
  · intro n as h post hh
    unfold ct_hgo at hh
    by_cases c : n = 16
    · subst c; exact ⟨gd_X2_beside, 1, by omega, c_hbeside (by omega)⟩
    rw [if_neg c] at hh
    by_cases c : n = 26
    · subst c; exact ⟨gd_X3_gives, 2, by omega, c_lgives (by omega)⟩
    rw [if_neg c] at hh
    exact hh.elim
  intro as h post hC
  match as, hC with
  | [.inr (.inr (.inl o)), .inl g, .inl w, .inr (.inr (.inl l))], hC =>
    refine ⟨Nat.le_of_ble_eq_true rfl, fun X hX => bs_X2_go_0 hX ?_⟩
    obtain ⟨G, M⟩ := h
    obtain ⟨hG, hC⟩ := hC
    dsimp only at hG
    subst hG
    simp only [B_hgo] at hC
    show bk_X2_go_0 E ct_hgo X _ [some (.inr (.inr (.inl o))), some (.inl g), some (.inl w), some (.inr (.inr (.inl l))), none, none] [] (zG, M) (0, 0)
    obtain ⟨hb, hg, hw, hl, d9, H, vd, L, hC⟩ := hC
    subst hl
    have sep : o + 7 < 18 ∨ 21 < o := by
      rcases hb with e | e | e <;> omega
    have ah := H.at hg.1 hg.2
    have vh := Vd_hi vd hg.1 hg.2
    have br := bsd_rng (w := w) vh.1.1 vh.1.2
    have zg : zr g = g := zr_of (by omega) (by omega)
    have rw9 : rg w := ⟨by omega, by omega⟩
    unfold gos at hC
    obtain ⟨c, hc⟩ : ∃ c, bsd (hi4 d9 g 0) w = c := ⟨_, rfl⟩
    rw [hc] at br hC
    have zc9 : zr c = c := zr_of (by omega) (by omega)
    obtain ⟨gn, hgn⟩ : ∃ n : Nat, g = n := ⟨g.toNat, by omega⟩
    have gt : g.toNat = gn := by omega
    have J19 : 0 ≤ c → X 19 [some (.inr (.inr (.inl o))), some (.inl g), some (.inl w), some (.inr (.inr (.inl 18))), some (.inl c), none] [] (zG, M) (0, 0) := by
      intro c0
      rw [if_neg (by omega)] at hC
      obtain ⟨cn, hcn⟩ : ∃ n : Nat, c = n := ⟨c.toNat, by omega⟩
      have ct : c.toNat = cn := by omega
      have dug9 : M (o + 2) cn = d9 (70 + c).toNat := by rw [H.2.1 cn (by omega), show (70 + c).toNat = 70 + cn by omega]
      have rock9 : M (o + 1) cn = d9 (6 + c).toNat := by rw [H.1 cn (by omega), show (6 + c).toNat = 6 + cn by omega]
      have bd := vd.2.2.2.2.2.2.1 (70 + c).toNat (by omega) (by omega)
      have br9 := vd.2.2.2.2.2.1 (6 + c).toNat (by omega) (by omega)
      have zd : zr (d9 (70 + c).toNat) = d9 (70 + c).toNat := zr_of (by omega) (by omega)
      have zro : zr (d9 (6 + c).toNat) = d9 (6 + c).toNat := zr_of (by omega) (by omega)
      have J99 : ∀ (M1 : ZMm) (d1 : Nat → Int) (x5 : Option ZV), HR o M1 d1 → (∀ x, (x < o ∨ o + 7 < x) → ¬ x = 21 → M1 x = M x) → gfin d1 g c w = gfin d9 g c w → d1 (70 + c).toNat = 1 → ¬ (d9 (70 + c).toNat = 0 ∧ gwk d9 g c < d9 (6 + c).toNat) → X 99 [some (.inr (.inr (.inl o))), some (.inl g), some (.inl w), some (.inr (.inr (.inl 18))), some (.inl c), x5] [] (zG, M1) (0, 0) := by
        intro M1 d1 x5 H1 f1 eg ed nn
        rw [if_neg nn] at hC
        refine bs_X2_go_99 hX ?_
        simp only [bk_X2_go_0, k_X2_go_0, bk_X2_go_19, k_X2_go_19, bk_X2_go_29, k_X2_go_29, bk_X2_go_54, k_X2_go_54, bk_X2_go_91, k_X2_go_91, bk_X2_go_99, k_X2_go_99, ↓e_rk1, ↓e_rk0, ↓e_sk0, ↓e_sks, ↓e_ldi0, ↓e_ldis, ↓e_ldl0, ↓e_ldls, ↓e_lda0, ↓e_ldas, ↓e_ok0, ↓e_okss, ↓e_ok1i, ↓e_ok1r, ↓e_ok1n, ↓e_sti, ↓e_sta, ↓e_1, ↓e_2, ↓e_l1, ↓e_l2, ↓e_li, ↓e_sw0, ↓e_sws, ↓e_ceq, ↓e_cne, ↓e_clt, ↓e_cge, ↓e_cgt, ↓e_cle, ↓e_nil, ↓e_cons, ↓e_iconst, ↓e_bipush, ↓e_sipush, ↓e_ldc, ↓e_ldcw, ↓e_ldc2, ↓e_lconst, ↓e_iloadn, ↓e_iload, ↓e_lloadn, ↓e_lload, ↓e_aloadn, ↓e_aload, ↓e_istoren, ↓e_istore, ↓e_astoren, ↓e_astore, ↓e_add, ↓e_iinc, ↓e_iadd, ↓e_isub, ↓e_imul, ↓e_iand, ↓e_ior, ↓e_ixor, ↓e_ishl, ↓e_iushr, ↓e_idiv, ↓e_irem, ↓e_ineg, ↓e_i2l, ↓e_i2b, ↓e_i2s, ↓e_l2i, ↓e_land, ↓e_lor, ↓e_lshl, ↓e_lshr, ↓e_lushr, ↓e_lcmp, ↓e_dupi, ↓e_dupr, ↓e_popi, ↓e_dup2, ↓e_goto, ↓e_if, ↓e_icmp, ↓e_tsw, ↓e_lsw, ↓e_getf, ↓e_putf, ↓e_gets, ↓e_iald, ↓e_cald, ↓e_iast, ↓e_aald, ↓e_aast, ↓e_len, ↓e_copy, ↓e_abs, ↓e_max, ↓e_min, ↓e_iret, ↓e_aret, ↓e_vret, ↓e_is0, ↓e_is1, ↓e_is2, ↓e_is3, ↓e_is4, ↓e_iv1, ↓e_iv2, ↓e_iv3, ↓e_iv4, ↓e_iv5, ↓e_iv6, ↓rt_X2_go, ↓reduceIte, Nat.reduceAdd, Nat.reduceEqDiff, ↓zcl0, ↓zclv, List.map_nil, List.sum_nil, List.map_cons, List.sum_cons, zcat, true_and, and_true, Nat.reduceLeDiff, Nat.reduceAdd, eq_self, forall_const, e_ok0, e_okss, e_ok1i, e_ok1r, e_ok1n, zl_m1, zl_0, zl_1, zl_99, Int.reduceToNat, Int.reduceAdd, Int.reduceMul, Int.reduceSub, Int.reduceNeg, Int.reduceLT, Int.reduceLE, Int.reduceEq, not_false_eq_true, not_true_eq_false, false_implies, true_implies, implies_true, Int.reduceDiv, Int.reduceMod, zr8_zr, zr_zbo, z01_zbo, z01_0, z01_1, zbo_eq0, zup_eq, zup_o, zup_k, ne_eq, ↓ct_hgo_hbeside, ↓r_hbeside, ↓B_hbeside, ↓ct_hgo_lgives, ↓r_lgives, ↓B_lgives, ↓vH hb, ↓gH_0 hb, ↓gH_1 hb, ↓gH_2 hb, ↓gH_3 hb, ↓gH_4 hb, ↓gH_5 hb, ↓gH_6 hb, ↓gH_7 hb, ↓gH_8 hb, ↓gH_9 hb, ↓pH_7 hb, ↓pH_8 hb, ↓pH_9 hb, ↓lH_1 hb, ↓sH_1 hb, ↓lH_2 hb, ↓sH_2 hb, ↓lH_3 hb, ↓sH_3 hb, ↓lH_4 hb, ↓sH_4 hb, ↓lH_5 hb, ↓sH_5 hb, ↓lH_6 hb, ↓sH_6 hb, ↓lH_7 hb, ↓sH_7 hb, zg]
        repeat (refine And.intro (by omega) ?_)
        refine hC _ ?_ (fun x q1 q2 => by rw [zup_ne _ (by omega), zup_ne _ (by omega), zup_ne _ (by omega), f1 x q1 q2])
        rw [← eg]
        have h3 := HR_hd (HR_hd (HR_hd H1 (q := gn) (w9 := 0) (v := c) (by omega) (by omega)) (q := gn) (w9 := 2) (v := 0) (by omega) (by omega)) (q := gn) (w9 := 3) (v := w) (by omega) (by omega)
        rw [gt]
        unfold gfin
        rw [up1_self ed, show (134 + 4 * g).toNat = 134 + 4 * gn + 0 by omega, show (136 + 4 * g).toNat = 134 + 4 * gn + 2 by omega, show (137 + 4 * g).toNat = 134 + 4 * gn + 3 by omega]
        exact h3
      have J54 : d9 (70 + c).toNat = 0 → ∀ (M1 : ZMm), HR o M1 d9 → (∀ x, (x < o ∨ o + 7 < x) → ¬ x = 21 → M1 x = M x) → X 54 [some (.inr (.inr (.inl o))), some (.inl g), some (.inl w), some (.inr (.inr (.inl 18))), some (.inl c), some (.inl (tgv d9 1 (hi4 d9 g 1) (d9 (6 + c).toNat) (hi4 d9 g 2)))] [] (zG, M1) (0, 0) := by
        intro q0 M1 H1 f1
        have tr := tgv_rng (d := d9) (u := 1) (a := hi4 d9 g 1) (b := d9 (6 + c).toNat) (c := hi4 d9 g 2)
        obtain ⟨tv, htv⟩ : ∃ tv, tgv d9 1 (hi4 d9 g 1) (d9 (6 + c).toNat) (hi4 d9 g 2) = tv := ⟨_, rfl⟩
        have ew : gwk d9 g c = hd3 (hi4 d9 g 2 + tv) 0 99 := by unfold gwk; rw [htv]
        rw [htv] at tr ⊢
        have a2 : M1 (o + 5) g.toNat = hi4 d9 g 2 := (H1.at hg.1 hg.2).2.2.1
        have r1 : M1 (o + 1) c.toNat = d9 (6 + c).toNat := by rw [ct, H1.1 cn (by omega), show (6 + c).toNat = 6 + cn by omega]
        have zs : zr (hi4 d9 g 2 + tv) = hi4 d9 g 2 + tv := zr_of (by omega) (by omega)
        have em : (if hi4 d9 g 2 + tv < 99 then hi4 d9 g 2 + tv else 99) = gwk d9 g c := by
          rw [ew]
          unfold hd3
          (repeat' split) <;> omega
        obtain ⟨wk, hwk⟩ : ∃ wk, gwk d9 g c = wk := ⟨_, rfl⟩
        have wr : 0 ≤ wk ∧ wk ≤ 99 := by
          rw [← hwk, ew]
          unfold hd3
          (repeat' split) <;> omega
        rw [hwk] at em
        have zw : zr wk = wk := zr_of (by omega) (by omega)
        have H2 : HR o (zup M1 (o + 5) g.toNat wk) (up1 d9 (134 + 4 * gn + 2) wk) := by
          rw [gt]
          exact HR_hd H1 (q := gn) (w9 := 2) (v := wk) (by omega) (by omega)
        have r2 : zup M1 (o + 5) g.toNat wk (o + 1) c.toNat = d9 (6 + c).toNat := by rw [zup_o (by omega), r1]
        refine bs_X2_go_54 hX ?_
        simp only [bk_X2_go_0, k_X2_go_0, bk_X2_go_19, k_X2_go_19, bk_X2_go_29, k_X2_go_29, bk_X2_go_54, k_X2_go_54, bk_X2_go_91, k_X2_go_91, bk_X2_go_99, k_X2_go_99, ↓e_rk1, ↓e_rk0, ↓e_sk0, ↓e_sks, ↓e_ldi0, ↓e_ldis, ↓e_ldl0, ↓e_ldls, ↓e_lda0, ↓e_ldas, ↓e_ok0, ↓e_okss, ↓e_ok1i, ↓e_ok1r, ↓e_ok1n, ↓e_sti, ↓e_sta, ↓e_1, ↓e_2, ↓e_l1, ↓e_l2, ↓e_li, ↓e_sw0, ↓e_sws, ↓e_ceq, ↓e_cne, ↓e_clt, ↓e_cge, ↓e_cgt, ↓e_cle, ↓e_nil, ↓e_cons, ↓e_iconst, ↓e_bipush, ↓e_sipush, ↓e_ldc, ↓e_ldcw, ↓e_ldc2, ↓e_lconst, ↓e_iloadn, ↓e_iload, ↓e_lloadn, ↓e_lload, ↓e_aloadn, ↓e_aload, ↓e_istoren, ↓e_istore, ↓e_astoren, ↓e_astore, ↓e_add, ↓e_iinc, ↓e_iadd, ↓e_isub, ↓e_imul, ↓e_iand, ↓e_ior, ↓e_ixor, ↓e_ishl, ↓e_iushr, ↓e_idiv, ↓e_irem, ↓e_ineg, ↓e_i2l, ↓e_i2b, ↓e_i2s, ↓e_l2i, ↓e_land, ↓e_lor, ↓e_lshl, ↓e_lshr, ↓e_lushr, ↓e_lcmp, ↓e_dupi, ↓e_dupr, ↓e_popi, ↓e_dup2, ↓e_goto, ↓e_if, ↓e_icmp, ↓e_tsw, ↓e_lsw, ↓e_getf, ↓e_putf, ↓e_gets, ↓e_iald, ↓e_cald, ↓e_iast, ↓e_aald, ↓e_aast, ↓e_len, ↓e_copy, ↓e_abs, ↓e_max, ↓e_min, ↓e_iret, ↓e_aret, ↓e_vret, ↓e_is0, ↓e_is1, ↓e_is2, ↓e_is3, ↓e_is4, ↓e_iv1, ↓e_iv2, ↓e_iv3, ↓e_iv4, ↓e_iv5, ↓e_iv6, ↓rt_X2_go, ↓reduceIte, Nat.reduceAdd, Nat.reduceEqDiff, ↓zcl0, ↓zclv, List.map_nil, List.sum_nil, List.map_cons, List.sum_cons, zcat, true_and, and_true, Nat.reduceLeDiff, Nat.reduceAdd, eq_self, forall_const, e_ok0, e_okss, e_ok1i, e_ok1r, e_ok1n, zl_m1, zl_0, zl_1, zl_99, Int.reduceToNat, Int.reduceAdd, Int.reduceMul, Int.reduceSub, Int.reduceNeg, Int.reduceLT, Int.reduceLE, Int.reduceEq, not_false_eq_true, not_true_eq_false, false_implies, true_implies, implies_true, Int.reduceDiv, Int.reduceMod, zr8_zr, zr_zbo, z01_zbo, z01_0, z01_1, zbo_eq0, zup_eq, zup_o, zup_k, ne_eq, ↓ct_hgo_hbeside, ↓r_hbeside, ↓B_hbeside, ↓ct_hgo_lgives, ↓r_lgives, ↓B_lgives, ↓vH hb, ↓gH_0 hb, ↓gH_1 hb, ↓gH_2 hb, ↓gH_3 hb, ↓gH_4 hb, ↓gH_5 hb, ↓gH_6 hb, ↓gH_7 hb, ↓gH_8 hb, ↓gH_9 hb, ↓pH_7 hb, ↓pH_8 hb, ↓pH_9 hb, ↓lH_1 hb, ↓sH_1 hb, ↓lH_2 hb, ↓sH_2 hb, ↓lH_3 hb, ↓sH_3 hb, ↓lH_4 hb, ↓sH_4 hb, ↓lH_5 hb, ↓sH_5 hb, ↓lH_6 hb, ↓sH_6 hb, ↓lH_7 hb, ↓sH_7 hb, zg, zc9, a2, r1, r2, zs, em, zw, zro]
        have lo : wk < d9 (6 + c).toNat → post none (zG, zup M1 (o + 5) g.toNat wk) := by
          intro lt
          rw [hwk, if_pos ⟨q0, lt⟩] at hC
          refine hC _ ?_ (fun x q1 q2 => by rw [zup_ne _ (by omega), f1 x q1 q2])
          rw [show (136 + 4 * g).toNat = 134 + 4 * gn + 2 by omega]
          exact H2
        have hi : ¬ wk < d9 (6 + c).toNat → X 91 [some (.inr (.inr (.inl o))), some (.inl g), some (.inl w), some (.inr (.inr (.inl 18))), some (.inl c), some (.inl tv)] [] (zG, (zup M1 (o + 5) g.toNat wk)) (0, 0) := by
          intro lt
          refine bs_X2_go_91 hX ?_
          simp only [bk_X2_go_0, k_X2_go_0, bk_X2_go_19, k_X2_go_19, bk_X2_go_29, k_X2_go_29, bk_X2_go_54, k_X2_go_54, bk_X2_go_91, k_X2_go_91, bk_X2_go_99, k_X2_go_99, ↓e_rk1, ↓e_rk0, ↓e_sk0, ↓e_sks, ↓e_ldi0, ↓e_ldis, ↓e_ldl0, ↓e_ldls, ↓e_lda0, ↓e_ldas, ↓e_ok0, ↓e_okss, ↓e_ok1i, ↓e_ok1r, ↓e_ok1n, ↓e_sti, ↓e_sta, ↓e_1, ↓e_2, ↓e_l1, ↓e_l2, ↓e_li, ↓e_sw0, ↓e_sws, ↓e_ceq, ↓e_cne, ↓e_clt, ↓e_cge, ↓e_cgt, ↓e_cle, ↓e_nil, ↓e_cons, ↓e_iconst, ↓e_bipush, ↓e_sipush, ↓e_ldc, ↓e_ldcw, ↓e_ldc2, ↓e_lconst, ↓e_iloadn, ↓e_iload, ↓e_lloadn, ↓e_lload, ↓e_aloadn, ↓e_aload, ↓e_istoren, ↓e_istore, ↓e_astoren, ↓e_astore, ↓e_add, ↓e_iinc, ↓e_iadd, ↓e_isub, ↓e_imul, ↓e_iand, ↓e_ior, ↓e_ixor, ↓e_ishl, ↓e_iushr, ↓e_idiv, ↓e_irem, ↓e_ineg, ↓e_i2l, ↓e_i2b, ↓e_i2s, ↓e_l2i, ↓e_land, ↓e_lor, ↓e_lshl, ↓e_lshr, ↓e_lushr, ↓e_lcmp, ↓e_dupi, ↓e_dupr, ↓e_popi, ↓e_dup2, ↓e_goto, ↓e_if, ↓e_icmp, ↓e_tsw, ↓e_lsw, ↓e_getf, ↓e_putf, ↓e_gets, ↓e_iald, ↓e_cald, ↓e_iast, ↓e_aald, ↓e_aast, ↓e_len, ↓e_copy, ↓e_abs, ↓e_max, ↓e_min, ↓e_iret, ↓e_aret, ↓e_vret, ↓e_is0, ↓e_is1, ↓e_is2, ↓e_is3, ↓e_is4, ↓e_iv1, ↓e_iv2, ↓e_iv3, ↓e_iv4, ↓e_iv5, ↓e_iv6, ↓rt_X2_go, ↓reduceIte, Nat.reduceAdd, Nat.reduceEqDiff, ↓zcl0, ↓zclv, List.map_nil, List.sum_nil, List.map_cons, List.sum_cons, zcat, true_and, and_true, Nat.reduceLeDiff, Nat.reduceAdd, eq_self, forall_const, e_ok0, e_okss, e_ok1i, e_ok1r, e_ok1n, zl_m1, zl_0, zl_1, zl_99, Int.reduceToNat, Int.reduceAdd, Int.reduceMul, Int.reduceSub, Int.reduceNeg, Int.reduceLT, Int.reduceLE, Int.reduceEq, not_false_eq_true, not_true_eq_false, false_implies, true_implies, implies_true, Int.reduceDiv, Int.reduceMod, zr8_zr, zr_zbo, z01_zbo, z01_0, z01_1, zbo_eq0, zup_eq, zup_o, zup_k, ne_eq, ↓ct_hgo_hbeside, ↓r_hbeside, ↓B_hbeside, ↓ct_hgo_lgives, ↓r_lgives, ↓B_lgives, ↓vH hb, ↓gH_0 hb, ↓gH_1 hb, ↓gH_2 hb, ↓gH_3 hb, ↓gH_4 hb, ↓gH_5 hb, ↓gH_6 hb, ↓gH_7 hb, ↓gH_8 hb, ↓gH_9 hb, ↓pH_7 hb, ↓pH_8 hb, ↓pH_9 hb, ↓lH_1 hb, ↓sH_1 hb, ↓lH_2 hb, ↓sH_2 hb, ↓lH_3 hb, ↓sH_3 hb, ↓lH_4 hb, ↓sH_4 hb, ↓lH_5 hb, ↓sH_5 hb, ↓lH_6 hb, ↓sH_6 hb, ↓lH_7 hb, ↓sH_7 hb, zc9]
          repeat (refine And.intro (by omega) ?_)
          refine J99 _ (up1 (up1 d9 (134 + 4 * gn + 2) wk) (70 + cn) 1) _ ?_ (fun x q1 q2 => by rw [zup_ne _ (by omega), zup_ne _ (by omega), f1 x q1 q2]) ?_ ?_ (by rw [hwk]; omega)
          · rw [ct]
            exact HR_dug H2 (by omega)
          · unfold gfin
            rw [show (70 + c).toNat = 70 + cn by omega, show (134 + 4 * g).toNat = 134 + 4 * gn by omega, show (136 + 4 * g).toNat = 134 + 4 * gn + 2 by omega, show (137 + 4 * g).toNat = 134 + 4 * gn + 3 by omega]
            funext j
            unfold up1
            (repeat' split) <;> first | rfl | omega
          · rw [show (70 + c).toNat = 70 + cn by omega, up1_eq]
        repeat' (first | assumption | apply And.intro | intro _)
        all_goals first | omega | (apply lo; assumption) | (apply hi; assumption)
      have J29 : d9 (70 + c).toNat = 0 → X 29 [some (.inr (.inr (.inl o))), some (.inl g), some (.inl w), some (.inr (.inr (.inl 18))), some (.inl c), none] [] (zG, M) (0, 0) := by
        intro q0
        refine bs_X2_go_29 hX ?_
        have a1 : M (o + 4) g.toNat = hi4 d9 g 1 := ah.2.1
        have a2 : M (o + 5) g.toNat = hi4 d9 g 2 := ah.2.2.1
        have r1 : M (o + 1) c.toNat = d9 (6 + c).toNat := by rw [ct]; exact rock9
        simp only [bk_X2_go_0, k_X2_go_0, bk_X2_go_19, k_X2_go_19, bk_X2_go_29, k_X2_go_29, bk_X2_go_54, k_X2_go_54, bk_X2_go_91, k_X2_go_91, bk_X2_go_99, k_X2_go_99, ↓e_rk1, ↓e_rk0, ↓e_sk0, ↓e_sks, ↓e_ldi0, ↓e_ldis, ↓e_ldl0, ↓e_ldls, ↓e_lda0, ↓e_ldas, ↓e_ok0, ↓e_okss, ↓e_ok1i, ↓e_ok1r, ↓e_ok1n, ↓e_sti, ↓e_sta, ↓e_1, ↓e_2, ↓e_l1, ↓e_l2, ↓e_li, ↓e_sw0, ↓e_sws, ↓e_ceq, ↓e_cne, ↓e_clt, ↓e_cge, ↓e_cgt, ↓e_cle, ↓e_nil, ↓e_cons, ↓e_iconst, ↓e_bipush, ↓e_sipush, ↓e_ldc, ↓e_ldcw, ↓e_ldc2, ↓e_lconst, ↓e_iloadn, ↓e_iload, ↓e_lloadn, ↓e_lload, ↓e_aloadn, ↓e_aload, ↓e_istoren, ↓e_istore, ↓e_astoren, ↓e_astore, ↓e_add, ↓e_iinc, ↓e_iadd, ↓e_isub, ↓e_imul, ↓e_iand, ↓e_ior, ↓e_ixor, ↓e_ishl, ↓e_iushr, ↓e_idiv, ↓e_irem, ↓e_ineg, ↓e_i2l, ↓e_i2b, ↓e_i2s, ↓e_l2i, ↓e_land, ↓e_lor, ↓e_lshl, ↓e_lshr, ↓e_lushr, ↓e_lcmp, ↓e_dupi, ↓e_dupr, ↓e_popi, ↓e_dup2, ↓e_goto, ↓e_if, ↓e_icmp, ↓e_tsw, ↓e_lsw, ↓e_getf, ↓e_putf, ↓e_gets, ↓e_iald, ↓e_cald, ↓e_iast, ↓e_aald, ↓e_aast, ↓e_len, ↓e_copy, ↓e_abs, ↓e_max, ↓e_min, ↓e_iret, ↓e_aret, ↓e_vret, ↓e_is0, ↓e_is1, ↓e_is2, ↓e_is3, ↓e_is4, ↓e_iv1, ↓e_iv2, ↓e_iv3, ↓e_iv4, ↓e_iv5, ↓e_iv6, ↓rt_X2_go, ↓reduceIte, Nat.reduceAdd, Nat.reduceEqDiff, ↓zcl0, ↓zclv, List.map_nil, List.sum_nil, List.map_cons, List.sum_cons, zcat, true_and, and_true, Nat.reduceLeDiff, Nat.reduceAdd, eq_self, forall_const, e_ok0, e_okss, e_ok1i, e_ok1r, e_ok1n, zl_m1, zl_0, zl_1, zl_99, Int.reduceToNat, Int.reduceAdd, Int.reduceMul, Int.reduceSub, Int.reduceNeg, Int.reduceLT, Int.reduceLE, Int.reduceEq, not_false_eq_true, not_true_eq_false, false_implies, true_implies, implies_true, Int.reduceDiv, Int.reduceMod, zr8_zr, zr_zbo, z01_zbo, z01_0, z01_1, zbo_eq0, zup_eq, zup_o, zup_k, ne_eq, ↓ct_hgo_hbeside, ↓r_hbeside, ↓B_hbeside, ↓ct_hgo_lgives, ↓r_lgives, ↓B_lgives, ↓vH hb, ↓gH_0 hb, ↓gH_1 hb, ↓gH_2 hb, ↓gH_3 hb, ↓gH_4 hb, ↓gH_5 hb, ↓gH_6 hb, ↓gH_7 hb, ↓gH_8 hb, ↓gH_9 hb, ↓pH_7 hb, ↓pH_8 hb, ↓pH_9 hb, ↓lH_1 hb, ↓sH_1 hb, ↓lH_2 hb, ↓sH_2 hb, ↓lH_3 hb, ↓sH_3 hb, ↓lH_4 hb, ↓sH_4 hb, ↓lH_5 hb, ↓sH_5 hb, ↓lH_6 hb, ↓sH_6 hb, ↓lH_7 hb, ↓sH_7 hb, ↓v_18, zg, zc9, a1, a2, r1]
        repeat (refine And.intro (by omega) ?_)
        refine ⟨d9, 1, Or.inr ⟨rfl, rfl⟩, L, vd.2.2.2.2.2.2.2.2.2.2.2, fun M1 hM1 => ?_⟩
        refine J54 q0 M1 (HR_cg H (fun x q1 q2 => hM1 x (by omega)) (fun k _ => rfl)) (fun x q1 q2 => hM1 x q2)
      refine bs_X2_go_19 hX ?_
      have d1 : M (o + 2) c.toNat = d9 (70 + c).toNat := by rw [ct]; exact dug9
      simp only [bk_X2_go_0, k_X2_go_0, bk_X2_go_19, k_X2_go_19, bk_X2_go_29, k_X2_go_29, bk_X2_go_54, k_X2_go_54, bk_X2_go_91, k_X2_go_91, bk_X2_go_99, k_X2_go_99, ↓e_rk1, ↓e_rk0, ↓e_sk0, ↓e_sks, ↓e_ldi0, ↓e_ldis, ↓e_ldl0, ↓e_ldls, ↓e_lda0, ↓e_ldas, ↓e_ok0, ↓e_okss, ↓e_ok1i, ↓e_ok1r, ↓e_ok1n, ↓e_sti, ↓e_sta, ↓e_1, ↓e_2, ↓e_l1, ↓e_l2, ↓e_li, ↓e_sw0, ↓e_sws, ↓e_ceq, ↓e_cne, ↓e_clt, ↓e_cge, ↓e_cgt, ↓e_cle, ↓e_nil, ↓e_cons, ↓e_iconst, ↓e_bipush, ↓e_sipush, ↓e_ldc, ↓e_ldcw, ↓e_ldc2, ↓e_lconst, ↓e_iloadn, ↓e_iload, ↓e_lloadn, ↓e_lload, ↓e_aloadn, ↓e_aload, ↓e_istoren, ↓e_istore, ↓e_astoren, ↓e_astore, ↓e_add, ↓e_iinc, ↓e_iadd, ↓e_isub, ↓e_imul, ↓e_iand, ↓e_ior, ↓e_ixor, ↓e_ishl, ↓e_iushr, ↓e_idiv, ↓e_irem, ↓e_ineg, ↓e_i2l, ↓e_i2b, ↓e_i2s, ↓e_l2i, ↓e_land, ↓e_lor, ↓e_lshl, ↓e_lshr, ↓e_lushr, ↓e_lcmp, ↓e_dupi, ↓e_dupr, ↓e_popi, ↓e_dup2, ↓e_goto, ↓e_if, ↓e_icmp, ↓e_tsw, ↓e_lsw, ↓e_getf, ↓e_putf, ↓e_gets, ↓e_iald, ↓e_cald, ↓e_iast, ↓e_aald, ↓e_aast, ↓e_len, ↓e_copy, ↓e_abs, ↓e_max, ↓e_min, ↓e_iret, ↓e_aret, ↓e_vret, ↓e_is0, ↓e_is1, ↓e_is2, ↓e_is3, ↓e_is4, ↓e_iv1, ↓e_iv2, ↓e_iv3, ↓e_iv4, ↓e_iv5, ↓e_iv6, ↓rt_X2_go, ↓reduceIte, Nat.reduceAdd, Nat.reduceEqDiff, ↓zcl0, ↓zclv, List.map_nil, List.sum_nil, List.map_cons, List.sum_cons, zcat, true_and, and_true, Nat.reduceLeDiff, Nat.reduceAdd, eq_self, forall_const, e_ok0, e_okss, e_ok1i, e_ok1r, e_ok1n, zl_m1, zl_0, zl_1, zl_99, Int.reduceToNat, Int.reduceAdd, Int.reduceMul, Int.reduceSub, Int.reduceNeg, Int.reduceLT, Int.reduceLE, Int.reduceEq, not_false_eq_true, not_true_eq_false, false_implies, true_implies, implies_true, Int.reduceDiv, Int.reduceMod, zr8_zr, zr_zbo, z01_zbo, z01_0, z01_1, zbo_eq0, zup_eq, zup_o, zup_k, ne_eq, ↓ct_hgo_hbeside, ↓r_hbeside, ↓B_hbeside, ↓ct_hgo_lgives, ↓r_lgives, ↓B_lgives, ↓vH hb, ↓gH_0 hb, ↓gH_1 hb, ↓gH_2 hb, ↓gH_3 hb, ↓gH_4 hb, ↓gH_5 hb, ↓gH_6 hb, ↓gH_7 hb, ↓gH_8 hb, ↓gH_9 hb, ↓pH_7 hb, ↓pH_8 hb, ↓pH_9 hb, ↓lH_1 hb, ↓sH_1 hb, ↓lH_2 hb, ↓sH_2 hb, ↓lH_3 hb, ↓sH_3 hb, ↓lH_4 hb, ↓sH_4 hb, ↓lH_5 hb, ↓sH_5 hb, ↓lH_6 hb, ↓sH_6 hb, ↓lH_7 hb, ↓sH_7 hb, zc9, d1, zd]
      refine ⟨by omega, by omega, fun q => ?_, fun q => ?_⟩
      · first | exact J29 q | exact J99 M d9 _ H (fun x q1 q2 => rfl) rfl (by omega) (by omega)
      · first | exact J29 q | exact J99 M d9 _ H (fun x q1 q2 => rfl) rfl (by omega) (by omega)
    have a0 : M (o + 3) g.toNat = hi4 d9 g 0 := ah.1
    simp only [bk_X2_go_0, k_X2_go_0, bk_X2_go_19, k_X2_go_19, bk_X2_go_29, k_X2_go_29, bk_X2_go_54, k_X2_go_54, bk_X2_go_91, k_X2_go_91, bk_X2_go_99, k_X2_go_99, ↓e_rk1, ↓e_rk0, ↓e_sk0, ↓e_sks, ↓e_ldi0, ↓e_ldis, ↓e_ldl0, ↓e_ldls, ↓e_lda0, ↓e_ldas, ↓e_ok0, ↓e_okss, ↓e_ok1i, ↓e_ok1r, ↓e_ok1n, ↓e_sti, ↓e_sta, ↓e_1, ↓e_2, ↓e_l1, ↓e_l2, ↓e_li, ↓e_sw0, ↓e_sws, ↓e_ceq, ↓e_cne, ↓e_clt, ↓e_cge, ↓e_cgt, ↓e_cle, ↓e_nil, ↓e_cons, ↓e_iconst, ↓e_bipush, ↓e_sipush, ↓e_ldc, ↓e_ldcw, ↓e_ldc2, ↓e_lconst, ↓e_iloadn, ↓e_iload, ↓e_lloadn, ↓e_lload, ↓e_aloadn, ↓e_aload, ↓e_istoren, ↓e_istore, ↓e_astoren, ↓e_astore, ↓e_add, ↓e_iinc, ↓e_iadd, ↓e_isub, ↓e_imul, ↓e_iand, ↓e_ior, ↓e_ixor, ↓e_ishl, ↓e_iushr, ↓e_idiv, ↓e_irem, ↓e_ineg, ↓e_i2l, ↓e_i2b, ↓e_i2s, ↓e_l2i, ↓e_land, ↓e_lor, ↓e_lshl, ↓e_lshr, ↓e_lushr, ↓e_lcmp, ↓e_dupi, ↓e_dupr, ↓e_popi, ↓e_dup2, ↓e_goto, ↓e_if, ↓e_icmp, ↓e_tsw, ↓e_lsw, ↓e_getf, ↓e_putf, ↓e_gets, ↓e_iald, ↓e_cald, ↓e_iast, ↓e_aald, ↓e_aast, ↓e_len, ↓e_copy, ↓e_abs, ↓e_max, ↓e_min, ↓e_iret, ↓e_aret, ↓e_vret, ↓e_is0, ↓e_is1, ↓e_is2, ↓e_is3, ↓e_is4, ↓e_iv1, ↓e_iv2, ↓e_iv3, ↓e_iv4, ↓e_iv5, ↓e_iv6, ↓rt_X2_go, ↓reduceIte, Nat.reduceAdd, Nat.reduceEqDiff, ↓zcl0, ↓zclv, List.map_nil, List.sum_nil, List.map_cons, List.sum_cons, zcat, true_and, and_true, Nat.reduceLeDiff, Nat.reduceAdd, eq_self, forall_const, e_ok0, e_okss, e_ok1i, e_ok1r, e_ok1n, zl_m1, zl_0, zl_1, zl_99, Int.reduceToNat, Int.reduceAdd, Int.reduceMul, Int.reduceSub, Int.reduceNeg, Int.reduceLT, Int.reduceLE, Int.reduceEq, not_false_eq_true, not_true_eq_false, false_implies, true_implies, implies_true, Int.reduceDiv, Int.reduceMod, zr8_zr, zr_zbo, z01_zbo, z01_0, z01_1, zbo_eq0, zup_eq, zup_o, zup_k, ne_eq, ↓ct_hgo_hbeside, ↓r_hbeside, ↓B_hbeside, ↓ct_hgo_lgives, ↓r_lgives, ↓B_lgives, ↓vH hb, ↓gH_0 hb, ↓gH_1 hb, ↓gH_2 hb, ↓gH_3 hb, ↓gH_4 hb, ↓gH_5 hb, ↓gH_6 hb, ↓gH_7 hb, ↓gH_8 hb, ↓gH_9 hb, ↓pH_7 hb, ↓pH_8 hb, ↓pH_9 hb, ↓lH_1 hb, ↓sH_1 hb, ↓lH_2 hb, ↓sH_2 hb, ↓lH_3 hb, ↓sH_3 hb, ↓lH_4 hb, ↓sH_4 hb, ↓lH_5 hb, ↓sH_5 hb, ↓lH_6 hb, ↓sH_6 hb, ↓lH_7 hb, ↓sH_7 hb, zg, a0, hc, zc9]
    refine ⟨by omega, by omega, vh.1.1, vh.1.2, rw9, fun q => ?_, fun q => ?_⟩
    · first | exact J19 (by omega) | exact hC M (by rw [if_pos (by omega)]; exact H) (fun x _ _ => rfl)
    · first | exact J19 (by omega) | exact hC M (by rw [if_pos (by omega)]; exact H) (fun x _ _ => rfl)
