/-! CONSTRUCTORS: Hill, Scene -/
def LfX2 (o : Nat) : List ZG := [.inl (2, [some (some (o + 1)), some (some (o + 2)), some (some (o + 3)), some (some (o + 4)), some (some (o + 5)), some (some (o + 6)), some (some (o + 7)), none, none, none]), .inr (.inl 64), .inr (.inl 64), .inr (.inl 2), .inr (.inl 2), .inr (.inl 2), .inr (.inl 2), .inr (.inl 20)]
def vH1 (i j k : Nat) : Int := if j = 0 then (if k = 8 then 2 else 0) else if j = 1 then (if k < i then ((k % 10 : Nat) : Int) else 0) else 0
def vH2 (i i2 j k : Nat) : Int := if j = 4 ∧ k < i then 5 else if j = 6 ∧ k < i2 then 4 else vH1 64 j k
def vH3 (j k : Nat) : Int := if j = 3 ∧ k = 0 then 24 else if j = 2 ∧ k = 24 then 1 else if j = 7 ∧ 0 ≤ k ∧ k < 10 then 24 else vH2 2 2 j k
def vHl (j k : Nat) : Int := if j = 3 ∧ k = 1 then 31 else if j = 2 ∧ k = 31 then 1 else if j = 7 ∧ 10 ≤ k ∧ k < 20 then 31 else vH3 j k
def Stq (o : Nat) (a p : Int) (w : Nat) (M M2 : ZMm) : Prop := ∀ x k, M2 x k = if x = o + 3 ∧ k = a.toNat then p else if x = o + 2 ∧ k = p.toNat then 1 else if x = o + 7 ∧ 10 * a.toNat ≤ k ∧ k < 10 * a.toNat + w then p else M x k
def C_stl : ZC := fun as h post => match as with
  | [.inr (.inr (.inl o)), .inl a, .inl p] => ∃ G0 : List ZG, h.1 = G0 ++ LfX2 o ∧ o = G0.length ∧ (0 ≤ a ∧ a < 2) ∧ (0 ≤ p ∧ p < 64) ∧ ∀ M2 : ZMm, Stq o a p 10 h.2 M2 → post none (h.1, M2)
  | _ => False
theorem u_stl {a p : Int} {G0 : List ZG} {M : ZMm} {post : Option ZV → ZH → Prop} (ha : 0 ≤ a ∧ a < 2) (hp : 0 ≤ p ∧ p < 64) (h : ∀ M2 : ZMm, Stq G0.length a p 10 M M2 → post none (G0 ++ LfX2 G0.length, M2)) : C_stl [.inr (.inr (.inl (G0.length + 0))), .inl a, .inl p] (G0 ++ LfX2 G0.length, M) post := ⟨G0, rfl, rfl, ha, hp, h⟩
section
variable {G0 : List ZG} {M : ZMm} {r : List ZV} {kk : List ZV → Prop} {kh : List ZV → ZH → Prop} {z i : Int}
theorem vq2 : zrecv (G0 ++ LfX2 G0.length, M) (.inr (.inr (.inl (G0.length + 0))) :: r) 2 = True := q_rv rfl
theorem gq2_0 : zgf (G0 ++ LfX2 G0.length, M) 2 0 (.inr (.inr (.inl (G0.length + 0))) :: r) kk = kk (.inr (.inr (.inl (G0.length + 1))) :: r) := q_gf rfl rfl
theorem gq2_1 : zgf (G0 ++ LfX2 G0.length, M) 2 1 (.inr (.inr (.inl (G0.length + 0))) :: r) kk = kk (.inr (.inr (.inl (G0.length + 2))) :: r) := q_gf rfl rfl
theorem gq2_2 : zgf (G0 ++ LfX2 G0.length, M) 2 2 (.inr (.inr (.inl (G0.length + 0))) :: r) kk = kk (.inr (.inr (.inl (G0.length + 3))) :: r) := q_gf rfl rfl
theorem gq2_3 : zgf (G0 ++ LfX2 G0.length, M) 2 3 (.inr (.inr (.inl (G0.length + 0))) :: r) kk = kk (.inr (.inr (.inl (G0.length + 4))) :: r) := q_gf rfl rfl
theorem gq2_4 : zgf (G0 ++ LfX2 G0.length, M) 2 4 (.inr (.inr (.inl (G0.length + 0))) :: r) kk = kk (.inr (.inr (.inl (G0.length + 5))) :: r) := q_gf rfl rfl
theorem gq2_5 : zgf (G0 ++ LfX2 G0.length, M) 2 5 (.inr (.inr (.inl (G0.length + 0))) :: r) kk = kk (.inr (.inr (.inl (G0.length + 6))) :: r) := q_gf rfl rfl
theorem gq2_6 : zgf (G0 ++ LfX2 G0.length, M) 2 6 (.inr (.inr (.inl (G0.length + 0))) :: r) kk = kk (.inr (.inr (.inl (G0.length + 7))) :: r) := q_gf rfl rfl
theorem sq2_1 : zas (G0 ++ LfX2 G0.length, M) (.inl z :: .inl i :: .inr (.inr (.inl (G0.length + 1))) :: r) kh = (0 ≤ zr i ∧ zr i < 64 ∧ kh r (G0 ++ LfX2 G0.length, zup M (G0.length + 1) (zr i).toNat z)) := q_as rfl
theorem sq2_2 : zas (G0 ++ LfX2 G0.length, M) (.inl z :: .inl i :: .inr (.inr (.inl (G0.length + 2))) :: r) kh = (0 ≤ zr i ∧ zr i < 64 ∧ kh r (G0 ++ LfX2 G0.length, zup M (G0.length + 2) (zr i).toNat z)) := q_as rfl
theorem sq2_3 : zas (G0 ++ LfX2 G0.length, M) (.inl z :: .inl i :: .inr (.inr (.inl (G0.length + 3))) :: r) kh = (0 ≤ zr i ∧ zr i < 2 ∧ kh r (G0 ++ LfX2 G0.length, zup M (G0.length + 3) (zr i).toNat z)) := q_as rfl
theorem sq2_4 : zas (G0 ++ LfX2 G0.length, M) (.inl z :: .inl i :: .inr (.inr (.inl (G0.length + 4))) :: r) kh = (0 ≤ zr i ∧ zr i < 2 ∧ kh r (G0 ++ LfX2 G0.length, zup M (G0.length + 4) (zr i).toNat z)) := q_as rfl
theorem sq2_5 : zas (G0 ++ LfX2 G0.length, M) (.inl z :: .inl i :: .inr (.inr (.inl (G0.length + 5))) :: r) kh = (0 ≤ zr i ∧ zr i < 2 ∧ kh r (G0 ++ LfX2 G0.length, zup M (G0.length + 5) (zr i).toNat z)) := q_as rfl
theorem sq2_6 : zas (G0 ++ LfX2 G0.length, M) (.inl z :: .inl i :: .inr (.inr (.inl (G0.length + 6))) :: r) kh = (0 ≤ zr i ∧ zr i < 2 ∧ kh r (G0 ++ LfX2 G0.length, zup M (G0.length + 6) (zr i).toNat z)) := q_as rfl
theorem sq2_7 : zas (G0 ++ LfX2 G0.length, M) (.inl z :: .inl i :: .inr (.inr (.inl (G0.length + 7))) :: r) kh = (0 ≤ zr i ∧ zr i < 20 ∧ kh r (G0 ++ LfX2 G0.length, zup M (G0.length + 7) (zr i).toNat z)) := q_as rfl
end
-- known: stl X2_settle 1 r:o
def ct_stl : Nat → ZC := fun n => fun _ _ _ => False
theorem c_stl {E : ZE} {d : Nat} (hd : 1 ≤ d) : zMet E d mX2_settle C_stl := by
  refine zmet_of (o := 2) (ini := false) (CT := ct_stl) gd_X2_settle rfl (fun h => by cases h) (by omega) ?_ ?_
  · intro n as h post hh
    unfold ct_stl at hh
    exact hh.elim
  intro as h post hC
  match as, hC with
  | [.inr (.inr (.inl o)), .inl a, .inl p], hC =>
    refine ⟨Nat.le_of_ble_eq_true rfl, fun X hX => bs_X2_settle_0 hX ?_⟩
    obtain ⟨G, M⟩ := h
    obtain ⟨G0, hG, ho, ha, hp, hD⟩ := hC
    dsimp only at hG hD
    subst hG
    subst ho
    have za : zr a = a := zr_of (by omega) (by omega)
    have zp : zr p = p := zr_of (by omega) (by omega)
    have lp : ∀ (j k : Nat) (M' : ZMm), j + k = 10 → Stq G0.length a p k M M' → X 16 [some (.inr (.inr (.inl (G0.length + 0)))), some (.inl a), some (.inl p), some (.inl (k : Int))] [] (G0 ++ LfX2 G0.length, M') (0, 0) := by
      intro j
      induction j with
      | zero =>
        intro k M' hk hM
        refine bs_X2_settle_16 hX ?_
        have ek : k = 10 := by omega
        subst ek
        have zk : zr ((10 : Nat) : Int) = 10 := rfl
        simp only [bk_X2_settle_0, k_X2_settle_0, bk_X2_settle_16, k_X2_settle_16, bk_X2_settle_40, k_X2_settle_40, ↓e_rk1, ↓e_rk0, ↓e_sk0, ↓e_sks, ↓e_ldi0, ↓e_ldis, ↓e_ldl0, ↓e_ldls, ↓e_lda0, ↓e_ldas, ↓e_ok0, ↓e_okss, ↓e_ok1i, ↓e_ok1r, ↓e_ok1n, ↓e_sti, ↓e_sta, ↓e_1, ↓e_2, ↓e_l1, ↓e_l2, ↓e_li, ↓e_sw0, ↓e_sws, ↓e_ceq, ↓e_cne, ↓e_clt, ↓e_cge, ↓e_cgt, ↓e_cle, ↓e_nil, ↓e_cons, ↓e_iconst, ↓e_bipush, ↓e_sipush, ↓e_ldc, ↓e_ldcw, ↓e_ldc2, ↓e_lconst, ↓e_iloadn, ↓e_iload, ↓e_lloadn, ↓e_lload, ↓e_aloadn, ↓e_aload, ↓e_istoren, ↓e_istore, ↓e_astoren, ↓e_astore, ↓e_add, ↓e_iinc, ↓e_iadd, ↓e_isub, ↓e_imul, ↓e_iand, ↓e_ior, ↓e_ixor, ↓e_ishl, ↓e_iushr, ↓e_idiv, ↓e_irem, ↓e_ineg, ↓e_i2l, ↓e_i2b, ↓e_i2s, ↓e_l2i, ↓e_land, ↓e_lor, ↓e_lshl, ↓e_lshr, ↓e_lushr, ↓e_lcmp, ↓e_dupi, ↓e_dupr, ↓e_popi, ↓e_dup2, ↓e_goto, ↓e_if, ↓e_icmp, ↓e_tsw, ↓e_lsw, ↓e_getf, ↓e_putf, ↓e_gets, ↓e_iald, ↓e_cald, ↓e_iast, ↓e_aald, ↓e_aast, ↓e_len, ↓e_copy, ↓e_abs, ↓e_max, ↓e_min, ↓e_iret, ↓e_aret, ↓e_vret, ↓e_is0, ↓e_is1, ↓e_is2, ↓e_is3, ↓e_is4, ↓e_iv1, ↓e_iv2, ↓e_iv3, ↓e_iv4, ↓e_iv5, ↓e_iv6, ↓rt_X2_settle, ↓reduceIte, Nat.reduceAdd, Nat.reduceEqDiff, ↓zcl0, ↓zclv, List.map_nil, List.sum_nil, List.map_cons, List.sum_cons, zcat, true_and, and_true, Nat.reduceLeDiff, Nat.reduceAdd, eq_self, forall_const, e_ok0, e_okss, e_ok1i, e_ok1r, e_ok1n, zl_0, zl_1, zl_10, Int.reduceToNat, Int.reduceAdd, Int.reduceMul, Int.reduceSub, Int.reduceNeg, Int.reduceLT, Int.reduceLE, Int.reduceEq, not_false_eq_true, not_true_eq_false, false_implies, true_implies, implies_true, Int.reduceDiv, Int.reduceMod, zr8_zr, zr_zbo, z01_zbo, z01_0, z01_1, zbo_eq0, zup_eq, zup_o, zup_k, ne_eq, ↓vq2, ↓gq2_0, ↓gq2_1, ↓gq2_2, ↓gq2_3, ↓gq2_4, ↓gq2_5, ↓gq2_6, ↓sq2_1, ↓sq2_2, ↓sq2_3, ↓sq2_4, ↓sq2_5, ↓sq2_6, ↓sq2_7, zk]
        exact hD M' hM
      | succ j ih =>
        intro k M' hk hM
        refine bs_X2_settle_16 hX ?_
        have zk : zr (k : Int) = k := zr_of (by omega) (by omega)
        have lk : ((k : Int) < 10) = True := eq_true (by omega)
        have zi9 : zr (a * 10 + (k : Int)) = a * 10 + k := zr_of (by omega) (by omega)
        simp only [bk_X2_settle_0, k_X2_settle_0, bk_X2_settle_16, k_X2_settle_16, bk_X2_settle_40, k_X2_settle_40, ↓e_rk1, ↓e_rk0, ↓e_sk0, ↓e_sks, ↓e_ldi0, ↓e_ldis, ↓e_ldl0, ↓e_ldls, ↓e_lda0, ↓e_ldas, ↓e_ok0, ↓e_okss, ↓e_ok1i, ↓e_ok1r, ↓e_ok1n, ↓e_sti, ↓e_sta, ↓e_1, ↓e_2, ↓e_l1, ↓e_l2, ↓e_li, ↓e_sw0, ↓e_sws, ↓e_ceq, ↓e_cne, ↓e_clt, ↓e_cge, ↓e_cgt, ↓e_cle, ↓e_nil, ↓e_cons, ↓e_iconst, ↓e_bipush, ↓e_sipush, ↓e_ldc, ↓e_ldcw, ↓e_ldc2, ↓e_lconst, ↓e_iloadn, ↓e_iload, ↓e_lloadn, ↓e_lload, ↓e_aloadn, ↓e_aload, ↓e_istoren, ↓e_istore, ↓e_astoren, ↓e_astore, ↓e_add, ↓e_iinc, ↓e_iadd, ↓e_isub, ↓e_imul, ↓e_iand, ↓e_ior, ↓e_ixor, ↓e_ishl, ↓e_iushr, ↓e_idiv, ↓e_irem, ↓e_ineg, ↓e_i2l, ↓e_i2b, ↓e_i2s, ↓e_l2i, ↓e_land, ↓e_lor, ↓e_lshl, ↓e_lshr, ↓e_lushr, ↓e_lcmp, ↓e_dupi, ↓e_dupr, ↓e_popi, ↓e_dup2, ↓e_goto, ↓e_if, ↓e_icmp, ↓e_tsw, ↓e_lsw, ↓e_getf, ↓e_putf, ↓e_gets, ↓e_iald, ↓e_cald, ↓e_iast, ↓e_aald, ↓e_aast, ↓e_len, ↓e_copy, ↓e_abs, ↓e_max, ↓e_min, ↓e_iret, ↓e_aret, ↓e_vret, ↓e_is0, ↓e_is1, ↓e_is2, ↓e_is3, ↓e_is4, ↓e_iv1, ↓e_iv2, ↓e_iv3, ↓e_iv4, ↓e_iv5, ↓e_iv6, ↓rt_X2_settle, ↓reduceIte, Nat.reduceAdd, Nat.reduceEqDiff, ↓zcl0, ↓zclv, List.map_nil, List.sum_nil, List.map_cons, List.sum_cons, zcat, true_and, and_true, Nat.reduceLeDiff, Nat.reduceAdd, eq_self, forall_const, e_ok0, e_okss, e_ok1i, e_ok1r, e_ok1n, zl_0, zl_1, zl_10, Int.reduceToNat, Int.reduceAdd, Int.reduceMul, Int.reduceSub, Int.reduceNeg, Int.reduceLT, Int.reduceLE, Int.reduceEq, not_false_eq_true, not_true_eq_false, false_implies, true_implies, implies_true, Int.reduceDiv, Int.reduceMod, zr8_zr, zr_zbo, z01_zbo, z01_0, z01_1, zbo_eq0, zup_eq, zup_o, zup_k, ne_eq, ↓vq2, ↓gq2_0, ↓gq2_1, ↓gq2_2, ↓gq2_3, ↓gq2_4, ↓gq2_5, ↓gq2_6, ↓sq2_1, ↓sq2_2, ↓sq2_3, ↓sq2_4, ↓sq2_5, ↓sq2_6, ↓sq2_7, zk, lk, zi9]
        repeat (refine And.intro (by omega) ?_)
        refine ih (k + 1) _ (by omega) (fun x q => ?_)
        have := hM x q
        unfold zup
        by_cases e : x = G0.length + 7 ∧ q = (a * 10 + (k : Int)).toNat
        · rw [if_pos e, if_neg (by omega), if_neg (by omega), if_pos (by omega)]
        · rw [if_neg e, this]
          by_cases e1 : x = G0.length + 3 ∧ q = a.toNat
          · rw [if_pos e1, if_pos e1]
          · rw [if_neg e1, if_neg e1]
            by_cases e2 : x = G0.length + 2 ∧ q = p.toNat
            · rw [if_pos e2, if_pos e2]
            · rw [if_neg e2, if_neg e2]
              by_cases e3 : x = G0.length + 7 ∧ 10 * a.toNat ≤ q ∧ q < 10 * a.toNat + k
              · rw [if_pos e3, if_pos (by omega)]
              · rw [if_neg e3, if_neg (by omega)]
    show bk_X2_settle_0 E ct_stl X _ [some (.inr (.inr (.inl (G0.length + 0)))), some (.inl a), some (.inl p), none] [] (G0 ++ LfX2 G0.length, M) (0, 0)
    simp only [bk_X2_settle_0, k_X2_settle_0, bk_X2_settle_16, k_X2_settle_16, bk_X2_settle_40, k_X2_settle_40, ↓e_rk1, ↓e_rk0, ↓e_sk0, ↓e_sks, ↓e_ldi0, ↓e_ldis, ↓e_ldl0, ↓e_ldls, ↓e_lda0, ↓e_ldas, ↓e_ok0, ↓e_okss, ↓e_ok1i, ↓e_ok1r, ↓e_ok1n, ↓e_sti, ↓e_sta, ↓e_1, ↓e_2, ↓e_l1, ↓e_l2, ↓e_li, ↓e_sw0, ↓e_sws, ↓e_ceq, ↓e_cne, ↓e_clt, ↓e_cge, ↓e_cgt, ↓e_cle, ↓e_nil, ↓e_cons, ↓e_iconst, ↓e_bipush, ↓e_sipush, ↓e_ldc, ↓e_ldcw, ↓e_ldc2, ↓e_lconst, ↓e_iloadn, ↓e_iload, ↓e_lloadn, ↓e_lload, ↓e_aloadn, ↓e_aload, ↓e_istoren, ↓e_istore, ↓e_astoren, ↓e_astore, ↓e_add, ↓e_iinc, ↓e_iadd, ↓e_isub, ↓e_imul, ↓e_iand, ↓e_ior, ↓e_ixor, ↓e_ishl, ↓e_iushr, ↓e_idiv, ↓e_irem, ↓e_ineg, ↓e_i2l, ↓e_i2b, ↓e_i2s, ↓e_l2i, ↓e_land, ↓e_lor, ↓e_lshl, ↓e_lshr, ↓e_lushr, ↓e_lcmp, ↓e_dupi, ↓e_dupr, ↓e_popi, ↓e_dup2, ↓e_goto, ↓e_if, ↓e_icmp, ↓e_tsw, ↓e_lsw, ↓e_getf, ↓e_putf, ↓e_gets, ↓e_iald, ↓e_cald, ↓e_iast, ↓e_aald, ↓e_aast, ↓e_len, ↓e_copy, ↓e_abs, ↓e_max, ↓e_min, ↓e_iret, ↓e_aret, ↓e_vret, ↓e_is0, ↓e_is1, ↓e_is2, ↓e_is3, ↓e_is4, ↓e_iv1, ↓e_iv2, ↓e_iv3, ↓e_iv4, ↓e_iv5, ↓e_iv6, ↓rt_X2_settle, ↓reduceIte, Nat.reduceAdd, Nat.reduceEqDiff, ↓zcl0, ↓zclv, List.map_nil, List.sum_nil, List.map_cons, List.sum_cons, zcat, true_and, and_true, Nat.reduceLeDiff, Nat.reduceAdd, eq_self, forall_const, e_ok0, e_okss, e_ok1i, e_ok1r, e_ok1n, zl_0, zl_1, zl_10, Int.reduceToNat, Int.reduceAdd, Int.reduceMul, Int.reduceSub, Int.reduceNeg, Int.reduceLT, Int.reduceLE, Int.reduceEq, not_false_eq_true, not_true_eq_false, false_implies, true_implies, implies_true, Int.reduceDiv, Int.reduceMod, zr8_zr, zr_zbo, z01_zbo, z01_0, z01_1, zbo_eq0, zup_eq, zup_o, zup_k, ne_eq, ↓vq2, ↓gq2_0, ↓gq2_1, ↓gq2_2, ↓gq2_3, ↓gq2_4, ↓gq2_5, ↓gq2_6, ↓sq2_1, ↓sq2_2, ↓sq2_3, ↓sq2_4, ↓sq2_5, ↓sq2_6, ↓sq2_7, za, zp]
    repeat (refine And.intro (by omega) ?_)
    refine lp 10 0 _ (by omega) (fun x q => ?_)
    unfold zup
    by_cases e1 : x = G0.length + 3 ∧ q = a.toNat
    · rw [if_neg (by omega), if_pos e1, if_pos e1]
    · rw [if_neg e1, if_neg e1]
      by_cases e2 : x = G0.length + 2 ∧ q = p.toNat
      · rw [if_pos e2, if_pos e2]
      · rw [if_neg e2, if_neg e2, if_neg (by omega)]
def k_X2_init_0 : List ZI := [(.aload_n 0, 1, (0, [0], [])), (.invokespecial 3, 3, (0, [], [])), (.aload_n 0, 1, (0, [0], [])), (.bipush 64, 2, (0, [], [])), (.newarray .int, 2, (0, [], [])), (.putfield 9, 3, (2, [2, 0], [])), (.aload_n 0, 1, (0, [0], [])), (.bipush 64, 2, (0, [], [])), (.newarray .int, 2, (0, [], [])), (.putfield 15, 3, (2, [2, 1], [])), (.aload_n 0, 1, (0, [0], [])), (.iconst 2, 1, (0, [], [])), (.newarray .int, 2, (0, [], [])), (.putfield 18, 3, (2, [2, 2], [])), (.aload_n 0, 1, (0, [0], [])), (.iconst 2, 1, (0, [], [])), (.newarray .int, 2, (0, [], [])), (.putfield 21, 3, (2, [2, 3], []))]
theorem ok_X2_init_0 : zOK cX2_init 2 true 2 k_X2_init_0 0 = true := zOK_by (by decide +kernel)
def k_X2_init_34 : List ZI := [(.aload_n 0, 1, (0, [0], [])), (.iconst 2, 1, (0, [], [])), (.newarray .int, 2, (0, [], [])), (.putfield 24, 3, (2, [2, 4], [])), (.aload_n 0, 1, (0, [0], [])), (.iconst 2, 1, (0, [], [])), (.newarray .int, 2, (0, [], [])), (.putfield 27, 3, (2, [2, 5], [])), (.aload_n 0, 1, (0, [0], [])), (.bipush 20, 2, (0, [], [])), (.newarray .int, 2, (0, [], [])), (.putfield 30, 3, (2, [2, 6], []))]
theorem ok_X2_init_34 : zOK cX2_init 2 true 2 k_X2_init_34 34 = true := zOK_by (by decide +kernel)
def k_X2_init_56 : List ZI := [(.aload_n 0, 1, (0, [0], [])), (.iconst 2, 1, (0, [], [])), (.putfield 33, 3, (0, [2, 8], [])), (.iconst 0, 1, (0, [], [])), (.istore_n 1, 1, (0, [1], []))]
theorem ok_X2_init_56 : zOK cX2_init 2 true 2 k_X2_init_56 56 = true := zOK_by (by decide +kernel)
def k_X2_init_63 : List ZI := [(.iload_n 1, 1, (0, [1], [])), (.bipush 64, 2, (0, [], [])), (.if_icmp .ge 19, 3, (0, [85], [])), (.aload_n 0, 1, (0, [0], [])), (.getfield 9, 3, (0, [2, 0], [])), (.iload_n 1, 1, (0, [1], [])), (.iload_n 1, 1, (0, [1], [])), (.bipush 10, 2, (0, [], [])), (.irem, 1, (0, [], [])), (.iastore, 1, (0, [], [])), (.iinc 1 1, 3, (0, [1], [])), (.goto (-19), 3, (0, [63], []))]
theorem ok_X2_init_63 : zOK cX2_init 2 true 2 k_X2_init_63 63 = true := zOK_by (by decide +kernel)
def k_X2_init_85 : List ZI := [(.iconst 0, 1, (0, [], [])), (.istore_n 1, 1, (0, [1], []))]
theorem ok_X2_init_85 : zOK cX2_init 2 true 2 k_X2_init_85 85 = true := zOK_by (by decide +kernel)
def k_X2_init_87 : List ZI := [(.iload_n 1, 1, (0, [1], [])), (.iconst 2, 1, (0, [], [])), (.if_icmp .ge 23, 3, (0, [112], [])), (.aload_n 0, 1, (0, [0], [])), (.getfield 21, 3, (0, [2, 3], [])), (.iload_n 1, 1, (0, [1], [])), (.iconst 5, 1, (0, [], [])), (.iastore, 1, (0, [], [])), (.aload_n 0, 1, (0, [0], [])), (.getfield 27, 3, (0, [2, 5], [])), (.iload_n 1, 1, (0, [1], [])), (.iconst 4, 1, (0, [], [])), (.iastore, 1, (0, [], [])), (.iinc 1 1, 3, (0, [1], [])), (.goto (-22), 3, (0, [87], []))]
theorem ok_X2_init_87 : zOK cX2_init 2 true 2 k_X2_init_87 87 = true := zOK_by (by decide +kernel)
def k_X2_init_112 : List ZI := [(.aload_n 0, 1, (0, [0], [])), (.iconst 0, 1, (0, [], [])), (.bipush 24, 2, (0, [], [])), (.invokevirtual 37, 3, (0, [20, 3, 0, 2], []))]
theorem ok_X2_init_112 : zOK cX2_init 2 true 2 k_X2_init_112 112 = true := zOK_by (by decide +kernel)
def k_X2_init_119 : List ZI := [(.aload_n 0, 1, (0, [0], [])), (.iconst 1, 1, (0, [], [])), (.bipush 31, 2, (0, [], [])), (.invokevirtual 37, 3, (0, [20, 3, 0, 2], [])), (.return_, 1, (0, [], []))]
theorem ok_X2_init_119 : zOK cX2_init 2 true 2 k_X2_init_119 119 = true := zOK_by (by decide +kernel)
def bk_X2_init_0 (E : ZE) (CT : Nat → ZC) (X : ZK) (Rt : ZR) (ls : ZL) (st : List ZV) (h : ZH) (b : ZB2) : Prop := zB E CT k_X2_init_0 0 ls st h b (fun t ls st h b => X t ls st h b) Rt
theorem bs_X2_init_0 {E : ZE} {CT : Nat → ZC} {X : ZK} {Rt : ZR} {ls : ZL} {st : List ZV} {h : ZH} {b : ZB2} (hX : zCl E mX2_init 2 true CT Rt X) (q : bk_X2_init_0 E CT X Rt ls st h b) : X 0 ls st h b := by
  refine hX k_X2_init_0 0 ok_X2_init_0 _ ?_ ls st h b q
  exact fun t ls st h b q => q
def bk_X2_init_34 (E : ZE) (CT : Nat → ZC) (X : ZK) (Rt : ZR) (ls : ZL) (st : List ZV) (h : ZH) (b : ZB2) : Prop := zB E CT k_X2_init_34 34 ls st h b (fun t ls st h b => X t ls st h b) Rt
theorem bs_X2_init_34 {E : ZE} {CT : Nat → ZC} {X : ZK} {Rt : ZR} {ls : ZL} {st : List ZV} {h : ZH} {b : ZB2} (hX : zCl E mX2_init 2 true CT Rt X) (q : bk_X2_init_34 E CT X Rt ls st h b) : X 34 ls st h b := by
  refine hX k_X2_init_34 34 ok_X2_init_34 _ ?_ ls st h b q
  exact fun t ls st h b q => q
def bk_X2_init_56 (E : ZE) (CT : Nat → ZC) (X : ZK) (Rt : ZR) (ls : ZL) (st : List ZV) (h : ZH) (b : ZB2) : Prop := zB E CT k_X2_init_56 56 ls st h b (fun t ls st h b => X t ls st h b) Rt
theorem bs_X2_init_56 {E : ZE} {CT : Nat → ZC} {X : ZK} {Rt : ZR} {ls : ZL} {st : List ZV} {h : ZH} {b : ZB2} (hX : zCl E mX2_init 2 true CT Rt X) (q : bk_X2_init_56 E CT X Rt ls st h b) : X 56 ls st h b := by
  refine hX k_X2_init_56 56 ok_X2_init_56 _ ?_ ls st h b q
  exact fun t ls st h b q => q
def bk_X2_init_85 (E : ZE) (CT : Nat → ZC) (X : ZK) (Rt : ZR) (ls : ZL) (st : List ZV) (h : ZH) (b : ZB2) : Prop := zB E CT k_X2_init_85 85 ls st h b (fun t ls st h b => X t ls st h b) Rt
theorem bs_X2_init_85 {E : ZE} {CT : Nat → ZC} {X : ZK} {Rt : ZR} {ls : ZL} {st : List ZV} {h : ZH} {b : ZB2} (hX : zCl E mX2_init 2 true CT Rt X) (q : bk_X2_init_85 E CT X Rt ls st h b) : X 85 ls st h b := by
  refine hX k_X2_init_85 85 ok_X2_init_85 _ ?_ ls st h b q
  exact fun t ls st h b q => q
def bk_X2_init_63 (E : ZE) (CT : Nat → ZC) (X : ZK) (Rt : ZR) (ls : ZL) (st : List ZV) (h : ZH) (b : ZB2) : Prop := zB E CT k_X2_init_63 63 ls st h b (fun t ls st h b => if t = 85 then bk_X2_init_85 E CT X Rt ls st h b else X t ls st h b) Rt
theorem bs_X2_init_63 {E : ZE} {CT : Nat → ZC} {X : ZK} {Rt : ZR} {ls : ZL} {st : List ZV} {h : ZH} {b : ZB2} (hX : zCl E mX2_init 2 true CT Rt X) (q : bk_X2_init_63 E CT X Rt ls st h b) : X 63 ls st h b := by
  refine hX k_X2_init_63 63 ok_X2_init_63 _ ?_ ls st h b q
  exact by
    intro t ls st h b q
    by_cases c : t = 85
    · subst c; rw [if_pos rfl] at q; exact bs_X2_init_85 hX q
    rw [if_neg c] at q
    exact q
def bk_X2_init_87 (E : ZE) (CT : Nat → ZC) (X : ZK) (Rt : ZR) (ls : ZL) (st : List ZV) (h : ZH) (b : ZB2) : Prop := zB E CT k_X2_init_87 87 ls st h b (fun t ls st h b => X t ls st h b) Rt
theorem bs_X2_init_87 {E : ZE} {CT : Nat → ZC} {X : ZK} {Rt : ZR} {ls : ZL} {st : List ZV} {h : ZH} {b : ZB2} (hX : zCl E mX2_init 2 true CT Rt X) (q : bk_X2_init_87 E CT X Rt ls st h b) : X 87 ls st h b := by
  refine hX k_X2_init_87 87 ok_X2_init_87 _ ?_ ls st h b q
  exact fun t ls st h b q => q
def bk_X2_init_112 (E : ZE) (CT : Nat → ZC) (X : ZK) (Rt : ZR) (ls : ZL) (st : List ZV) (h : ZH) (b : ZB2) : Prop := zB E CT k_X2_init_112 112 ls st h b (fun t ls st h b => X t ls st h b) Rt
theorem bs_X2_init_112 {E : ZE} {CT : Nat → ZC} {X : ZK} {Rt : ZR} {ls : ZL} {st : List ZV} {h : ZH} {b : ZB2} (hX : zCl E mX2_init 2 true CT Rt X) (q : bk_X2_init_112 E CT X Rt ls st h b) : X 112 ls st h b := by
  refine hX k_X2_init_112 112 ok_X2_init_112 _ ?_ ls st h b q
  exact fun t ls st h b q => q
def bk_X2_init_119 (E : ZE) (CT : Nat → ZC) (X : ZK) (Rt : ZR) (ls : ZL) (st : List ZV) (h : ZH) (b : ZB2) : Prop := zB E CT k_X2_init_119 119 ls st h b (fun t ls st h b => X t ls st h b) Rt
theorem bs_X2_init_119 {E : ZE} {CT : Nat → ZC} {X : ZK} {Rt : ZR} {ls : ZL} {st : List ZV} {h : ZH} {b : ZB2} (hX : zCl E mX2_init 2 true CT Rt X) (q : bk_X2_init_119 E CT X Rt ls st h b) : X 119 ls st h b := by
  refine hX k_X2_init_119 119 ok_X2_init_119 _ ?_ ls st h b q
  exact fun t ls st h b q => q
-- X2_init: cuts [34, 56, 63, 87, 112, 119]
theorem rt_X2_init {g : Nat} {post : Option ZV → ZH → Prop} {h : ZH} {b : ZB2} : zRt mX2_init g post none h b = (post none h ∧ h.1.length = g + 7) := by show (_ ∧ _ ∧ True) = _; simp
def C_i2 : ZC := fun as h post => match as with
  | [.inr (.inr (.inl o))] => ∃ G0 : List ZG, h.1 = G0 ++ [.inl (2, zfl 2)] ∧ o = G0.length ∧ (∀ k, h.2 o k = 0) ∧ ∀ M2 : ZMm, Zvq o 8 vHl h.2 M2 → post none (G0 ++ LfX2 o, M2)
  | _ => False
theorem u_i2 {G0 L : List ZG} {M : ZMm} {post : Option ZV → ZH → Prop} (h0 : ∀ k, M (G0.length + L.length) k = 0) (h : ∀ M2 : ZMm, Zvq (G0.length + L.length) 8 vHl M M2 → post none (G0 ++ (L ++ LfX2 (G0.length + L.length)), M2)) : C_i2 [.inr (.inr (.inl (G0.length + L.length)))] (G0 ++ (L ++ [.inl (2, zfl 2)]), M) post := by
  refine ⟨G0 ++ L, (List.append_assoc ..).symm, (List.length_append ..).symm, h0, fun M2 z => ?_⟩
  rw [List.append_assoc]
  exact h M2 z
def LqX2_init_34 (o : Nat) : List ZG := [.inl (2, [some (some (o + 1)), some (some (o + 2)), some (some (o + 3)), some (some (o + 4)), some none, some none, some none, none, none, none]), .inr (.inl 64), .inr (.inl 64), .inr (.inl 2), .inr (.inl 2)]
-- known: i2 X2_init 2 r:o
def ct_i2 : Nat → ZC := fun n => if n = 20 then C_stl else fun _ _ _ => False
theorem ct_i2_stl {as : List ZV} {h : ZH} {post : Option ZV → ZH → Prop} : ct_i2 20 as h post = C_stl as h post := rfl
theorem c_i2 {E : ZE} {d : Nat} (hd : 2 ≤ d) : zMet E d mX2_init C_i2 := by
  refine zmet_of (o := 2) (ini := true) (CT := ct_i2) gd_X2_init rfl (fun _ => rfl) (by omega) ?_ ?_
  · intro n as h post hh
    unfold ct_i2 at hh
    by_cases c : n = 20
    · subst c; exact ⟨gd_X2_settle, 1, by omega, c_stl (by omega)⟩
    rw [if_neg c] at hh
    exact hh.elim
  intro as h post hC
  match as, hC with
  | [.inr (.inr (.inl o))], hC =>
    refine ⟨Nat.le_of_ble_eq_true rfl, fun X hX => bs_X2_init_0 hX ?_⟩
    obtain ⟨G, M⟩ := h
    obtain ⟨G0, hG, ho, h0, hC⟩ := hC
    dsimp only at hG h0 hC
    subst hG
    subst ho
    have J119 : ∀ M1 : ZMm, Zvq G0.length 8 vH3 M M1 → ∀ i : Int, X 119 [some (.inr (.inr (.inl (G0.length + 0)))), some (.inl i)] [] (G0 ++ LfX2 G0.length, M1) (0, 0) := by
      intro M1 z1 i
      refine bs_X2_init_119 hX ?_
      simp only [bk_X2_init_0, k_X2_init_0, bk_X2_init_34, k_X2_init_34, bk_X2_init_56, k_X2_init_56, bk_X2_init_63, k_X2_init_63, bk_X2_init_85, k_X2_init_85, bk_X2_init_87, k_X2_init_87, bk_X2_init_112, k_X2_init_112, bk_X2_init_119, k_X2_init_119, ↓e_rk1, ↓e_rk0, ↓e_sk0, ↓e_sks, ↓e_ldi0, ↓e_ldis, ↓e_ldl0, ↓e_ldls, ↓e_lda0, ↓e_ldas, ↓e_ok0, ↓e_okss, ↓e_ok1i, ↓e_ok1r, ↓e_ok1n, ↓e_sti, ↓e_sta, ↓e_1, ↓e_2, ↓e_l1, ↓e_l2, ↓e_li, ↓e_sw0, ↓e_sws, ↓e_ceq, ↓e_cne, ↓e_clt, ↓e_cge, ↓e_cgt, ↓e_cle, ↓e_nil, ↓e_cons, ↓e_iconst, ↓e_bipush, ↓e_sipush, ↓e_ldc, ↓e_ldcw, ↓e_ldc2, ↓e_lconst, ↓e_iloadn, ↓e_iload, ↓e_lloadn, ↓e_lload, ↓e_aloadn, ↓e_aload, ↓e_istoren, ↓e_istore, ↓e_astoren, ↓e_astore, ↓e_add, ↓e_iinc, ↓e_iadd, ↓e_isub, ↓e_imul, ↓e_iand, ↓e_ior, ↓e_ixor, ↓e_ishl, ↓e_iushr, ↓e_idiv, ↓e_irem, ↓e_ineg, ↓e_i2l, ↓e_i2b, ↓e_i2s, ↓e_l2i, ↓e_land, ↓e_lor, ↓e_lshl, ↓e_lshr, ↓e_lushr, ↓e_lcmp, ↓e_dupi, ↓e_dupr, ↓e_popi, ↓e_dup2, ↓e_goto, ↓e_if, ↓e_icmp, ↓e_tsw, ↓e_lsw, ↓e_getf, ↓e_putf, ↓e_gets, ↓e_iald, ↓e_cald, ↓e_iast, ↓e_aald, ↓e_aast, ↓e_len, ↓e_copy, ↓e_abs, ↓e_max, ↓e_min, ↓e_iret, ↓e_aret, ↓e_vret, ↓e_is0, ↓e_is1, ↓e_is2, ↓e_is3, ↓e_is4, ↓e_iv1, ↓e_iv2, ↓e_iv3, ↓e_iv4, ↓e_iv5, ↓e_iv6, ↓rt_X2_init, ↓reduceIte, Nat.reduceAdd, Nat.reduceEqDiff, ↓zcl0, ↓zclv, List.map_nil, List.sum_nil, List.map_cons, List.sum_cons, zcat, true_and, and_true, Nat.reduceLeDiff, Nat.reduceAdd, eq_self, forall_const, e_ok0, e_okss, e_ok1i, e_ok1r, e_ok1n, zl_0, zl_1, zl_2, zl_4, zl_5, zl_10, zl_20, zl_24, zl_31, zl_64, Int.reduceToNat, Int.reduceAdd, Int.reduceMul, Int.reduceSub, Int.reduceNeg, Int.reduceLT, Int.reduceLE, Int.reduceEq, not_false_eq_true, not_true_eq_false, false_implies, true_implies, implies_true, Int.reduceDiv, Int.reduceMod, zr8_zr, zr_zbo, z01_zbo, z01_0, z01_1, zbo_eq0, zup_eq, zup_o, zup_k, ne_eq, ↓q_new, ↓q_ob, ↓q_i1, ↓q_i2, ↓q_i5, ↓q_pf, ↓q_pi, Nat.reduceSub, ↓vq2, ↓gq2_0, ↓gq2_1, ↓gq2_2, ↓gq2_3, ↓gq2_4, ↓gq2_5, ↓gq2_6, ↓sq2_1, ↓sq2_2, ↓sq2_3, ↓sq2_4, ↓sq2_5, ↓sq2_6, ↓sq2_7, ↓ct_i2_stl]
      repeat (refine And.intro (by first | rfl | decide | omega) ?_)
      refine u_stl (by decide) (by decide) (fun M2 s2 => ⟨hC M2 ⟨fun x hx => ?_, fun j k hj => ?_⟩, ?_⟩)
      · rw [← z1.1 x hx]
        funext k
        rw [s2 x k, if_neg (by omega), if_neg (by omega), if_neg (by omega)]
      · rw [s2, z1.2 j k hj]
        unfold vHl
        simp only [Nat.add_left_cancel_iff]
        rfl
      · refine ⟨?_, trivial⟩
        simp only [List.length_append]
        rfl
    have J112 : ∀ M1 : ZMm, Zvq G0.length 8 (vH2 2 2) M M1 → ∀ i : Int, X 112 [some (.inr (.inr (.inl (G0.length + 0)))), some (.inl i)] [] (G0 ++ LfX2 G0.length, M1) (0, 0) := by
      intro M1 z1 i
      refine bs_X2_init_112 hX ?_
      simp only [bk_X2_init_0, k_X2_init_0, bk_X2_init_34, k_X2_init_34, bk_X2_init_56, k_X2_init_56, bk_X2_init_63, k_X2_init_63, bk_X2_init_85, k_X2_init_85, bk_X2_init_87, k_X2_init_87, bk_X2_init_112, k_X2_init_112, bk_X2_init_119, k_X2_init_119, ↓e_rk1, ↓e_rk0, ↓e_sk0, ↓e_sks, ↓e_ldi0, ↓e_ldis, ↓e_ldl0, ↓e_ldls, ↓e_lda0, ↓e_ldas, ↓e_ok0, ↓e_okss, ↓e_ok1i, ↓e_ok1r, ↓e_ok1n, ↓e_sti, ↓e_sta, ↓e_1, ↓e_2, ↓e_l1, ↓e_l2, ↓e_li, ↓e_sw0, ↓e_sws, ↓e_ceq, ↓e_cne, ↓e_clt, ↓e_cge, ↓e_cgt, ↓e_cle, ↓e_nil, ↓e_cons, ↓e_iconst, ↓e_bipush, ↓e_sipush, ↓e_ldc, ↓e_ldcw, ↓e_ldc2, ↓e_lconst, ↓e_iloadn, ↓e_iload, ↓e_lloadn, ↓e_lload, ↓e_aloadn, ↓e_aload, ↓e_istoren, ↓e_istore, ↓e_astoren, ↓e_astore, ↓e_add, ↓e_iinc, ↓e_iadd, ↓e_isub, ↓e_imul, ↓e_iand, ↓e_ior, ↓e_ixor, ↓e_ishl, ↓e_iushr, ↓e_idiv, ↓e_irem, ↓e_ineg, ↓e_i2l, ↓e_i2b, ↓e_i2s, ↓e_l2i, ↓e_land, ↓e_lor, ↓e_lshl, ↓e_lshr, ↓e_lushr, ↓e_lcmp, ↓e_dupi, ↓e_dupr, ↓e_popi, ↓e_dup2, ↓e_goto, ↓e_if, ↓e_icmp, ↓e_tsw, ↓e_lsw, ↓e_getf, ↓e_putf, ↓e_gets, ↓e_iald, ↓e_cald, ↓e_iast, ↓e_aald, ↓e_aast, ↓e_len, ↓e_copy, ↓e_abs, ↓e_max, ↓e_min, ↓e_iret, ↓e_aret, ↓e_vret, ↓e_is0, ↓e_is1, ↓e_is2, ↓e_is3, ↓e_is4, ↓e_iv1, ↓e_iv2, ↓e_iv3, ↓e_iv4, ↓e_iv5, ↓e_iv6, ↓rt_X2_init, ↓reduceIte, Nat.reduceAdd, Nat.reduceEqDiff, ↓zcl0, ↓zclv, List.map_nil, List.sum_nil, List.map_cons, List.sum_cons, zcat, true_and, and_true, Nat.reduceLeDiff, Nat.reduceAdd, eq_self, forall_const, e_ok0, e_okss, e_ok1i, e_ok1r, e_ok1n, zl_0, zl_1, zl_2, zl_4, zl_5, zl_10, zl_20, zl_24, zl_31, zl_64, Int.reduceToNat, Int.reduceAdd, Int.reduceMul, Int.reduceSub, Int.reduceNeg, Int.reduceLT, Int.reduceLE, Int.reduceEq, not_false_eq_true, not_true_eq_false, false_implies, true_implies, implies_true, Int.reduceDiv, Int.reduceMod, zr8_zr, zr_zbo, z01_zbo, z01_0, z01_1, zbo_eq0, zup_eq, zup_o, zup_k, ne_eq, ↓q_new, ↓q_ob, ↓q_i1, ↓q_i2, ↓q_i5, ↓q_pf, ↓q_pi, Nat.reduceSub, ↓vq2, ↓gq2_0, ↓gq2_1, ↓gq2_2, ↓gq2_3, ↓gq2_4, ↓gq2_5, ↓gq2_6, ↓sq2_1, ↓sq2_2, ↓sq2_3, ↓sq2_4, ↓sq2_5, ↓sq2_6, ↓sq2_7, ↓ct_i2_stl]
      repeat (refine And.intro (by first | rfl | decide | omega) ?_)
      refine u_stl (by decide) (by decide) (fun M2 s2 => J119 M2 ⟨fun x hx => ?_, fun j k hj => ?_⟩ i)
      · rw [← z1.1 x hx]
        funext k
        rw [s2 x k, if_neg (by omega), if_neg (by omega), if_neg (by omega)]
      · rw [s2, z1.2 j k hj]
        unfold vH3
        simp only [Nat.add_left_cancel_iff]
        rfl
    have lp2 : ∀ (j i : Nat) (M1 : ZMm), j + i = 2 → Zvq G0.length 8 (vH2 i i) M M1 → X 87 [some (.inr (.inr (.inl (G0.length + 0)))), some (.inl (i : Int))] [] (G0 ++ LfX2 G0.length, M1) (0, 0) := by
      intro j
      induction j with
      | zero =>
        intro i M1 hi z1
        refine bs_X2_init_87 hX ?_
        have ei : i = 2 := by omega
        subst ei
        have zk : zr ((2 : Nat) : Int) = 2 := rfl
        simp only [bk_X2_init_0, k_X2_init_0, bk_X2_init_34, k_X2_init_34, bk_X2_init_56, k_X2_init_56, bk_X2_init_63, k_X2_init_63, bk_X2_init_85, k_X2_init_85, bk_X2_init_87, k_X2_init_87, bk_X2_init_112, k_X2_init_112, bk_X2_init_119, k_X2_init_119, ↓e_rk1, ↓e_rk0, ↓e_sk0, ↓e_sks, ↓e_ldi0, ↓e_ldis, ↓e_ldl0, ↓e_ldls, ↓e_lda0, ↓e_ldas, ↓e_ok0, ↓e_okss, ↓e_ok1i, ↓e_ok1r, ↓e_ok1n, ↓e_sti, ↓e_sta, ↓e_1, ↓e_2, ↓e_l1, ↓e_l2, ↓e_li, ↓e_sw0, ↓e_sws, ↓e_ceq, ↓e_cne, ↓e_clt, ↓e_cge, ↓e_cgt, ↓e_cle, ↓e_nil, ↓e_cons, ↓e_iconst, ↓e_bipush, ↓e_sipush, ↓e_ldc, ↓e_ldcw, ↓e_ldc2, ↓e_lconst, ↓e_iloadn, ↓e_iload, ↓e_lloadn, ↓e_lload, ↓e_aloadn, ↓e_aload, ↓e_istoren, ↓e_istore, ↓e_astoren, ↓e_astore, ↓e_add, ↓e_iinc, ↓e_iadd, ↓e_isub, ↓e_imul, ↓e_iand, ↓e_ior, ↓e_ixor, ↓e_ishl, ↓e_iushr, ↓e_idiv, ↓e_irem, ↓e_ineg, ↓e_i2l, ↓e_i2b, ↓e_i2s, ↓e_l2i, ↓e_land, ↓e_lor, ↓e_lshl, ↓e_lshr, ↓e_lushr, ↓e_lcmp, ↓e_dupi, ↓e_dupr, ↓e_popi, ↓e_dup2, ↓e_goto, ↓e_if, ↓e_icmp, ↓e_tsw, ↓e_lsw, ↓e_getf, ↓e_putf, ↓e_gets, ↓e_iald, ↓e_cald, ↓e_iast, ↓e_aald, ↓e_aast, ↓e_len, ↓e_copy, ↓e_abs, ↓e_max, ↓e_min, ↓e_iret, ↓e_aret, ↓e_vret, ↓e_is0, ↓e_is1, ↓e_is2, ↓e_is3, ↓e_is4, ↓e_iv1, ↓e_iv2, ↓e_iv3, ↓e_iv4, ↓e_iv5, ↓e_iv6, ↓rt_X2_init, ↓reduceIte, Nat.reduceAdd, Nat.reduceEqDiff, ↓zcl0, ↓zclv, List.map_nil, List.sum_nil, List.map_cons, List.sum_cons, zcat, true_and, and_true, Nat.reduceLeDiff, Nat.reduceAdd, eq_self, forall_const, e_ok0, e_okss, e_ok1i, e_ok1r, e_ok1n, zl_0, zl_1, zl_2, zl_4, zl_5, zl_10, zl_20, zl_24, zl_31, zl_64, Int.reduceToNat, Int.reduceAdd, Int.reduceMul, Int.reduceSub, Int.reduceNeg, Int.reduceLT, Int.reduceLE, Int.reduceEq, not_false_eq_true, not_true_eq_false, false_implies, true_implies, implies_true, Int.reduceDiv, Int.reduceMod, zr8_zr, zr_zbo, z01_zbo, z01_0, z01_1, zbo_eq0, zup_eq, zup_o, zup_k, ne_eq, ↓q_new, ↓q_ob, ↓q_i1, ↓q_i2, ↓q_i5, ↓q_pf, ↓q_pi, Nat.reduceSub, ↓vq2, ↓gq2_0, ↓gq2_1, ↓gq2_2, ↓gq2_3, ↓gq2_4, ↓gq2_5, ↓gq2_6, ↓sq2_1, ↓sq2_2, ↓sq2_3, ↓sq2_4, ↓sq2_5, ↓sq2_6, ↓sq2_7, zk]
        exact J112 M1 z1 _
      | succ j ih =>
        intro i M1 hi z1
        refine bs_X2_init_87 hX ?_
        have zk : zr (i : Int) = i := zr_of (by omega) (by omega)
        have lk : ((i : Int) < 2) = True := eq_true (by omega)
        simp only [bk_X2_init_0, k_X2_init_0, bk_X2_init_34, k_X2_init_34, bk_X2_init_56, k_X2_init_56, bk_X2_init_63, k_X2_init_63, bk_X2_init_85, k_X2_init_85, bk_X2_init_87, k_X2_init_87, bk_X2_init_112, k_X2_init_112, bk_X2_init_119, k_X2_init_119, ↓e_rk1, ↓e_rk0, ↓e_sk0, ↓e_sks, ↓e_ldi0, ↓e_ldis, ↓e_ldl0, ↓e_ldls, ↓e_lda0, ↓e_ldas, ↓e_ok0, ↓e_okss, ↓e_ok1i, ↓e_ok1r, ↓e_ok1n, ↓e_sti, ↓e_sta, ↓e_1, ↓e_2, ↓e_l1, ↓e_l2, ↓e_li, ↓e_sw0, ↓e_sws, ↓e_ceq, ↓e_cne, ↓e_clt, ↓e_cge, ↓e_cgt, ↓e_cle, ↓e_nil, ↓e_cons, ↓e_iconst, ↓e_bipush, ↓e_sipush, ↓e_ldc, ↓e_ldcw, ↓e_ldc2, ↓e_lconst, ↓e_iloadn, ↓e_iload, ↓e_lloadn, ↓e_lload, ↓e_aloadn, ↓e_aload, ↓e_istoren, ↓e_istore, ↓e_astoren, ↓e_astore, ↓e_add, ↓e_iinc, ↓e_iadd, ↓e_isub, ↓e_imul, ↓e_iand, ↓e_ior, ↓e_ixor, ↓e_ishl, ↓e_iushr, ↓e_idiv, ↓e_irem, ↓e_ineg, ↓e_i2l, ↓e_i2b, ↓e_i2s, ↓e_l2i, ↓e_land, ↓e_lor, ↓e_lshl, ↓e_lshr, ↓e_lushr, ↓e_lcmp, ↓e_dupi, ↓e_dupr, ↓e_popi, ↓e_dup2, ↓e_goto, ↓e_if, ↓e_icmp, ↓e_tsw, ↓e_lsw, ↓e_getf, ↓e_putf, ↓e_gets, ↓e_iald, ↓e_cald, ↓e_iast, ↓e_aald, ↓e_aast, ↓e_len, ↓e_copy, ↓e_abs, ↓e_max, ↓e_min, ↓e_iret, ↓e_aret, ↓e_vret, ↓e_is0, ↓e_is1, ↓e_is2, ↓e_is3, ↓e_is4, ↓e_iv1, ↓e_iv2, ↓e_iv3, ↓e_iv4, ↓e_iv5, ↓e_iv6, ↓rt_X2_init, ↓reduceIte, Nat.reduceAdd, Nat.reduceEqDiff, ↓zcl0, ↓zclv, List.map_nil, List.sum_nil, List.map_cons, List.sum_cons, zcat, true_and, and_true, Nat.reduceLeDiff, Nat.reduceAdd, eq_self, forall_const, e_ok0, e_okss, e_ok1i, e_ok1r, e_ok1n, zl_0, zl_1, zl_2, zl_4, zl_5, zl_10, zl_20, zl_24, zl_31, zl_64, Int.reduceToNat, Int.reduceAdd, Int.reduceMul, Int.reduceSub, Int.reduceNeg, Int.reduceLT, Int.reduceLE, Int.reduceEq, not_false_eq_true, not_true_eq_false, false_implies, true_implies, implies_true, Int.reduceDiv, Int.reduceMod, zr8_zr, zr_zbo, z01_zbo, z01_0, z01_1, zbo_eq0, zup_eq, zup_o, zup_k, ne_eq, ↓q_new, ↓q_ob, ↓q_i1, ↓q_i2, ↓q_i5, ↓q_pf, ↓q_pi, Nat.reduceSub, ↓vq2, ↓gq2_0, ↓gq2_1, ↓gq2_2, ↓gq2_3, ↓gq2_4, ↓gq2_5, ↓gq2_6, ↓sq2_1, ↓sq2_2, ↓sq2_3, ↓sq2_4, ↓sq2_5, ↓sq2_6, ↓sq2_7, zk, lk, Int.toNat_natCast]
        repeat (refine And.intro (by omega) ?_)
        refine ih (i + 1) _ (by omega) (Zvq.put (v := vH2 (i + 1) i) (Zvq.put (v := vH2 i i) z1 (fun a b => ?_)) (fun a b => ?_))
        · unfold vH2
          by_cases e : a = 4 ∧ b = i
          · rw [if_pos e, if_pos (by omega)]
          · rw [if_neg e]
            by_cases e2 : a = 4 ∧ b < i
            · rw [if_pos e2, if_pos (by omega)]
            · rw [if_neg e2, if_neg (by omega)]
        · unfold vH2
          by_cases e4 : a = 4 ∧ b < i + 1
          · rw [if_pos e4, if_neg (by omega), if_pos e4]
          · rw [if_neg e4, if_neg e4]
            by_cases e : a = 6 ∧ b = i
            · rw [if_pos e, if_pos (by omega)]
            · rw [if_neg e]
              by_cases e2 : a = 6 ∧ b < i
              · rw [if_pos e2, if_pos (by omega)]
              · rw [if_neg e2, if_neg (by omega)]
    have lp1 : ∀ (j i : Nat) (M1 : ZMm), j + i = 64 → Zvq G0.length 8 (vH1 i) M M1 → X 63 [some (.inr (.inr (.inl (G0.length + 0)))), some (.inl (i : Int))] [] (G0 ++ LfX2 G0.length, M1) (0, 0) := by
      intro j
      induction j with
      | zero =>
        intro i M1 hi z1
        refine bs_X2_init_63 hX ?_
        have ei : i = 64 := by omega
        subst ei
        have zk : zr ((64 : Nat) : Int) = 64 := rfl
        simp only [bk_X2_init_0, k_X2_init_0, bk_X2_init_34, k_X2_init_34, bk_X2_init_56, k_X2_init_56, bk_X2_init_63, k_X2_init_63, bk_X2_init_85, k_X2_init_85, bk_X2_init_87, k_X2_init_87, bk_X2_init_112, k_X2_init_112, bk_X2_init_119, k_X2_init_119, ↓e_rk1, ↓e_rk0, ↓e_sk0, ↓e_sks, ↓e_ldi0, ↓e_ldis, ↓e_ldl0, ↓e_ldls, ↓e_lda0, ↓e_ldas, ↓e_ok0, ↓e_okss, ↓e_ok1i, ↓e_ok1r, ↓e_ok1n, ↓e_sti, ↓e_sta, ↓e_1, ↓e_2, ↓e_l1, ↓e_l2, ↓e_li, ↓e_sw0, ↓e_sws, ↓e_ceq, ↓e_cne, ↓e_clt, ↓e_cge, ↓e_cgt, ↓e_cle, ↓e_nil, ↓e_cons, ↓e_iconst, ↓e_bipush, ↓e_sipush, ↓e_ldc, ↓e_ldcw, ↓e_ldc2, ↓e_lconst, ↓e_iloadn, ↓e_iload, ↓e_lloadn, ↓e_lload, ↓e_aloadn, ↓e_aload, ↓e_istoren, ↓e_istore, ↓e_astoren, ↓e_astore, ↓e_add, ↓e_iinc, ↓e_iadd, ↓e_isub, ↓e_imul, ↓e_iand, ↓e_ior, ↓e_ixor, ↓e_ishl, ↓e_iushr, ↓e_idiv, ↓e_irem, ↓e_ineg, ↓e_i2l, ↓e_i2b, ↓e_i2s, ↓e_l2i, ↓e_land, ↓e_lor, ↓e_lshl, ↓e_lshr, ↓e_lushr, ↓e_lcmp, ↓e_dupi, ↓e_dupr, ↓e_popi, ↓e_dup2, ↓e_goto, ↓e_if, ↓e_icmp, ↓e_tsw, ↓e_lsw, ↓e_getf, ↓e_putf, ↓e_gets, ↓e_iald, ↓e_cald, ↓e_iast, ↓e_aald, ↓e_aast, ↓e_len, ↓e_copy, ↓e_abs, ↓e_max, ↓e_min, ↓e_iret, ↓e_aret, ↓e_vret, ↓e_is0, ↓e_is1, ↓e_is2, ↓e_is3, ↓e_is4, ↓e_iv1, ↓e_iv2, ↓e_iv3, ↓e_iv4, ↓e_iv5, ↓e_iv6, ↓rt_X2_init, ↓reduceIte, Nat.reduceAdd, Nat.reduceEqDiff, ↓zcl0, ↓zclv, List.map_nil, List.sum_nil, List.map_cons, List.sum_cons, zcat, true_and, and_true, Nat.reduceLeDiff, Nat.reduceAdd, eq_self, forall_const, e_ok0, e_okss, e_ok1i, e_ok1r, e_ok1n, zl_0, zl_1, zl_2, zl_4, zl_5, zl_10, zl_20, zl_24, zl_31, zl_64, Int.reduceToNat, Int.reduceAdd, Int.reduceMul, Int.reduceSub, Int.reduceNeg, Int.reduceLT, Int.reduceLE, Int.reduceEq, not_false_eq_true, not_true_eq_false, false_implies, true_implies, implies_true, Int.reduceDiv, Int.reduceMod, zr8_zr, zr_zbo, z01_zbo, z01_0, z01_1, zbo_eq0, zup_eq, zup_o, zup_k, ne_eq, ↓q_new, ↓q_ob, ↓q_i1, ↓q_i2, ↓q_i5, ↓q_pf, ↓q_pi, Nat.reduceSub, ↓vq2, ↓gq2_0, ↓gq2_1, ↓gq2_2, ↓gq2_3, ↓gq2_4, ↓gq2_5, ↓gq2_6, ↓sq2_1, ↓sq2_2, ↓sq2_3, ↓sq2_4, ↓sq2_5, ↓sq2_6, ↓sq2_7, zk]
        refine lp2 2 0 M1 (by omega) (z1.cg (fun a b _ => ?_))
        unfold vH2
        rw [if_neg (by omega), if_neg (by omega)]
      | succ j ih =>
        intro i M1 hi z1
        refine bs_X2_init_63 hX ?_
        have zk : zr (i : Int) = i := zr_of (by omega) (by omega)
        have lk : ((i : Int) < 64) = True := eq_true (by omega)
        have tm : (i : Int).tmod 10 = ((i % 10 : Nat) : Int) := by rw [Int.tmod_eq_emod_of_nonneg (by omega)]; omega
        simp only [bk_X2_init_0, k_X2_init_0, bk_X2_init_34, k_X2_init_34, bk_X2_init_56, k_X2_init_56, bk_X2_init_63, k_X2_init_63, bk_X2_init_85, k_X2_init_85, bk_X2_init_87, k_X2_init_87, bk_X2_init_112, k_X2_init_112, bk_X2_init_119, k_X2_init_119, ↓e_rk1, ↓e_rk0, ↓e_sk0, ↓e_sks, ↓e_ldi0, ↓e_ldis, ↓e_ldl0, ↓e_ldls, ↓e_lda0, ↓e_ldas, ↓e_ok0, ↓e_okss, ↓e_ok1i, ↓e_ok1r, ↓e_ok1n, ↓e_sti, ↓e_sta, ↓e_1, ↓e_2, ↓e_l1, ↓e_l2, ↓e_li, ↓e_sw0, ↓e_sws, ↓e_ceq, ↓e_cne, ↓e_clt, ↓e_cge, ↓e_cgt, ↓e_cle, ↓e_nil, ↓e_cons, ↓e_iconst, ↓e_bipush, ↓e_sipush, ↓e_ldc, ↓e_ldcw, ↓e_ldc2, ↓e_lconst, ↓e_iloadn, ↓e_iload, ↓e_lloadn, ↓e_lload, ↓e_aloadn, ↓e_aload, ↓e_istoren, ↓e_istore, ↓e_astoren, ↓e_astore, ↓e_add, ↓e_iinc, ↓e_iadd, ↓e_isub, ↓e_imul, ↓e_iand, ↓e_ior, ↓e_ixor, ↓e_ishl, ↓e_iushr, ↓e_idiv, ↓e_irem, ↓e_ineg, ↓e_i2l, ↓e_i2b, ↓e_i2s, ↓e_l2i, ↓e_land, ↓e_lor, ↓e_lshl, ↓e_lshr, ↓e_lushr, ↓e_lcmp, ↓e_dupi, ↓e_dupr, ↓e_popi, ↓e_dup2, ↓e_goto, ↓e_if, ↓e_icmp, ↓e_tsw, ↓e_lsw, ↓e_getf, ↓e_putf, ↓e_gets, ↓e_iald, ↓e_cald, ↓e_iast, ↓e_aald, ↓e_aast, ↓e_len, ↓e_copy, ↓e_abs, ↓e_max, ↓e_min, ↓e_iret, ↓e_aret, ↓e_vret, ↓e_is0, ↓e_is1, ↓e_is2, ↓e_is3, ↓e_is4, ↓e_iv1, ↓e_iv2, ↓e_iv3, ↓e_iv4, ↓e_iv5, ↓e_iv6, ↓rt_X2_init, ↓reduceIte, Nat.reduceAdd, Nat.reduceEqDiff, ↓zcl0, ↓zclv, List.map_nil, List.sum_nil, List.map_cons, List.sum_cons, zcat, true_and, and_true, Nat.reduceLeDiff, Nat.reduceAdd, eq_self, forall_const, e_ok0, e_okss, e_ok1i, e_ok1r, e_ok1n, zl_0, zl_1, zl_2, zl_4, zl_5, zl_10, zl_20, zl_24, zl_31, zl_64, Int.reduceToNat, Int.reduceAdd, Int.reduceMul, Int.reduceSub, Int.reduceNeg, Int.reduceLT, Int.reduceLE, Int.reduceEq, not_false_eq_true, not_true_eq_false, false_implies, true_implies, implies_true, Int.reduceDiv, Int.reduceMod, zr8_zr, zr_zbo, z01_zbo, z01_0, z01_1, zbo_eq0, zup_eq, zup_o, zup_k, ne_eq, ↓q_new, ↓q_ob, ↓q_i1, ↓q_i2, ↓q_i5, ↓q_pf, ↓q_pi, Nat.reduceSub, ↓vq2, ↓gq2_0, ↓gq2_1, ↓gq2_2, ↓gq2_3, ↓gq2_4, ↓gq2_5, ↓gq2_6, ↓sq2_1, ↓sq2_2, ↓sq2_3, ↓sq2_4, ↓sq2_5, ↓sq2_6, ↓sq2_7, zk, lk, tm, Int.toNat_natCast]
        repeat (refine And.intro (by omega) ?_)
        refine ih (i + 1) _ (by omega) (Zvq.put (v := vH1 i) z1 (fun a b => ?_))
        unfold vH1
        (repeat' split) <;> omega
    have J56 : ∀ M1 : ZMm, Zvq G0.length 8 z00 M M1 → X 56 [some (.inr (.inr (.inl (G0.length + 0)))), none] [] (G0 ++ LfX2 G0.length, M1) (0, 0) := by
      intro M1 z1
      refine bs_X2_init_56 hX ?_
      simp only [bk_X2_init_0, k_X2_init_0, bk_X2_init_34, k_X2_init_34, bk_X2_init_56, k_X2_init_56, bk_X2_init_63, k_X2_init_63, bk_X2_init_85, k_X2_init_85, bk_X2_init_87, k_X2_init_87, bk_X2_init_112, k_X2_init_112, bk_X2_init_119, k_X2_init_119, ↓e_rk1, ↓e_rk0, ↓e_sk0, ↓e_sks, ↓e_ldi0, ↓e_ldis, ↓e_ldl0, ↓e_ldls, ↓e_lda0, ↓e_ldas, ↓e_ok0, ↓e_okss, ↓e_ok1i, ↓e_ok1r, ↓e_ok1n, ↓e_sti, ↓e_sta, ↓e_1, ↓e_2, ↓e_l1, ↓e_l2, ↓e_li, ↓e_sw0, ↓e_sws, ↓e_ceq, ↓e_cne, ↓e_clt, ↓e_cge, ↓e_cgt, ↓e_cle, ↓e_nil, ↓e_cons, ↓e_iconst, ↓e_bipush, ↓e_sipush, ↓e_ldc, ↓e_ldcw, ↓e_ldc2, ↓e_lconst, ↓e_iloadn, ↓e_iload, ↓e_lloadn, ↓e_lload, ↓e_aloadn, ↓e_aload, ↓e_istoren, ↓e_istore, ↓e_astoren, ↓e_astore, ↓e_add, ↓e_iinc, ↓e_iadd, ↓e_isub, ↓e_imul, ↓e_iand, ↓e_ior, ↓e_ixor, ↓e_ishl, ↓e_iushr, ↓e_idiv, ↓e_irem, ↓e_ineg, ↓e_i2l, ↓e_i2b, ↓e_i2s, ↓e_l2i, ↓e_land, ↓e_lor, ↓e_lshl, ↓e_lshr, ↓e_lushr, ↓e_lcmp, ↓e_dupi, ↓e_dupr, ↓e_popi, ↓e_dup2, ↓e_goto, ↓e_if, ↓e_icmp, ↓e_tsw, ↓e_lsw, ↓e_getf, ↓e_putf, ↓e_gets, ↓e_iald, ↓e_cald, ↓e_iast, ↓e_aald, ↓e_aast, ↓e_len, ↓e_copy, ↓e_abs, ↓e_max, ↓e_min, ↓e_iret, ↓e_aret, ↓e_vret, ↓e_is0, ↓e_is1, ↓e_is2, ↓e_is3, ↓e_is4, ↓e_iv1, ↓e_iv2, ↓e_iv3, ↓e_iv4, ↓e_iv5, ↓e_iv6, ↓rt_X2_init, ↓reduceIte, Nat.reduceAdd, Nat.reduceEqDiff, ↓zcl0, ↓zclv, List.map_nil, List.sum_nil, List.map_cons, List.sum_cons, zcat, true_and, and_true, Nat.reduceLeDiff, Nat.reduceAdd, eq_self, forall_const, e_ok0, e_okss, e_ok1i, e_ok1r, e_ok1n, zl_0, zl_1, zl_2, zl_4, zl_5, zl_10, zl_20, zl_24, zl_31, zl_64, Int.reduceToNat, Int.reduceAdd, Int.reduceMul, Int.reduceSub, Int.reduceNeg, Int.reduceLT, Int.reduceLE, Int.reduceEq, not_false_eq_true, not_true_eq_false, false_implies, true_implies, implies_true, Int.reduceDiv, Int.reduceMod, zr8_zr, zr_zbo, z01_zbo, z01_0, z01_1, zbo_eq0, zup_eq, zup_o, zup_k, ne_eq, ↓q_new, ↓q_ob, ↓q_i1, ↓q_i2, ↓q_i5, ↓q_pf, ↓q_pi, Nat.reduceSub, ↓vq2, ↓gq2_0, ↓gq2_1, ↓gq2_2, ↓gq2_3, ↓gq2_4, ↓gq2_5, ↓gq2_6, ↓sq2_1, ↓sq2_2, ↓sq2_3, ↓sq2_4, ↓sq2_5, ↓sq2_6, ↓sq2_7]
      repeat (refine And.intro (by first | rfl | decide | omega) ?_)
      refine lp1 64 0 _ (by omega) (Zvq.put (v := z00) z1 (fun a b => ?_))
      unfold vH1 z00
      (repeat' split) <;> omega
    have J34 : ∀ M1 : ZMm, Zvq G0.length 5 z00 M M1 → X 34 [some (.inr (.inr (.inl (G0.length + 0)))), none] [] (G0 ++ LqX2_init_34 G0.length, M1) (3, 24) := by
      intro M1 z1
      refine bs_X2_init_34 hX ?_
      simp only [bk_X2_init_0, k_X2_init_0, bk_X2_init_34, k_X2_init_34, bk_X2_init_56, k_X2_init_56, bk_X2_init_63, k_X2_init_63, bk_X2_init_85, k_X2_init_85, bk_X2_init_87, k_X2_init_87, bk_X2_init_112, k_X2_init_112, bk_X2_init_119, k_X2_init_119, ↓e_rk1, ↓e_rk0, ↓e_sk0, ↓e_sks, ↓e_ldi0, ↓e_ldis, ↓e_ldl0, ↓e_ldls, ↓e_lda0, ↓e_ldas, ↓e_ok0, ↓e_okss, ↓e_ok1i, ↓e_ok1r, ↓e_ok1n, ↓e_sti, ↓e_sta, ↓e_1, ↓e_2, ↓e_l1, ↓e_l2, ↓e_li, ↓e_sw0, ↓e_sws, ↓e_ceq, ↓e_cne, ↓e_clt, ↓e_cge, ↓e_cgt, ↓e_cle, ↓e_nil, ↓e_cons, ↓e_iconst, ↓e_bipush, ↓e_sipush, ↓e_ldc, ↓e_ldcw, ↓e_ldc2, ↓e_lconst, ↓e_iloadn, ↓e_iload, ↓e_lloadn, ↓e_lload, ↓e_aloadn, ↓e_aload, ↓e_istoren, ↓e_istore, ↓e_astoren, ↓e_astore, ↓e_add, ↓e_iinc, ↓e_iadd, ↓e_isub, ↓e_imul, ↓e_iand, ↓e_ior, ↓e_ixor, ↓e_ishl, ↓e_iushr, ↓e_idiv, ↓e_irem, ↓e_ineg, ↓e_i2l, ↓e_i2b, ↓e_i2s, ↓e_l2i, ↓e_land, ↓e_lor, ↓e_lshl, ↓e_lshr, ↓e_lushr, ↓e_lcmp, ↓e_dupi, ↓e_dupr, ↓e_popi, ↓e_dup2, ↓e_goto, ↓e_if, ↓e_icmp, ↓e_tsw, ↓e_lsw, ↓e_getf, ↓e_putf, ↓e_gets, ↓e_iald, ↓e_cald, ↓e_iast, ↓e_aald, ↓e_aast, ↓e_len, ↓e_copy, ↓e_abs, ↓e_max, ↓e_min, ↓e_iret, ↓e_aret, ↓e_vret, ↓e_is0, ↓e_is1, ↓e_is2, ↓e_is3, ↓e_is4, ↓e_iv1, ↓e_iv2, ↓e_iv3, ↓e_iv4, ↓e_iv5, ↓e_iv6, ↓rt_X2_init, ↓reduceIte, Nat.reduceAdd, Nat.reduceEqDiff, ↓zcl0, ↓zclv, List.map_nil, List.sum_nil, List.map_cons, List.sum_cons, zcat, true_and, and_true, Nat.reduceLeDiff, Nat.reduceAdd, eq_self, forall_const, e_ok0, e_okss, e_ok1i, e_ok1r, e_ok1n, zl_0, zl_1, zl_2, zl_4, zl_5, zl_10, zl_20, zl_24, zl_31, zl_64, Int.reduceToNat, Int.reduceAdd, Int.reduceMul, Int.reduceSub, Int.reduceNeg, Int.reduceLT, Int.reduceLE, Int.reduceEq, not_false_eq_true, not_true_eq_false, false_implies, true_implies, implies_true, Int.reduceDiv, Int.reduceMod, zr8_zr, zr_zbo, z01_zbo, z01_0, z01_1, zbo_eq0, zup_eq, zup_o, zup_k, ne_eq, ↓q_new, ↓q_ob, ↓q_i1, ↓q_i2, ↓q_i5, ↓q_pf, ↓q_pi, Nat.reduceSub, ↓q_na nn_2 (by decide), ↓q_na nn_20 (by decide), ↓ct_i2_stl, zl_1, zl_2, zl_3]
      repeat (refine And.intro (by first | rfl | decide | omega) ?_)
      exact J56 _ ((((z1).new (n := 5) (fun k => rfl)).new (n := 6) (fun k => rfl)).new (n := 7) (fun k => rfl))
    show bk_X2_init_0 E ct_i2 X _ [some (.inr (.inr (.inl (G0.length + 0)))), none] [] (G0 ++ [.inl (2, zfl 2)], M) (7, 156)
    simp only [bk_X2_init_0, k_X2_init_0, bk_X2_init_34, k_X2_init_34, bk_X2_init_56, k_X2_init_56, bk_X2_init_63, k_X2_init_63, bk_X2_init_85, k_X2_init_85, bk_X2_init_87, k_X2_init_87, bk_X2_init_112, k_X2_init_112, bk_X2_init_119, k_X2_init_119, ↓e_rk1, ↓e_rk0, ↓e_sk0, ↓e_sks, ↓e_ldi0, ↓e_ldis, ↓e_ldl0, ↓e_ldls, ↓e_lda0, ↓e_ldas, ↓e_ok0, ↓e_okss, ↓e_ok1i, ↓e_ok1r, ↓e_ok1n, ↓e_sti, ↓e_sta, ↓e_1, ↓e_2, ↓e_l1, ↓e_l2, ↓e_li, ↓e_sw0, ↓e_sws, ↓e_ceq, ↓e_cne, ↓e_clt, ↓e_cge, ↓e_cgt, ↓e_cle, ↓e_nil, ↓e_cons, ↓e_iconst, ↓e_bipush, ↓e_sipush, ↓e_ldc, ↓e_ldcw, ↓e_ldc2, ↓e_lconst, ↓e_iloadn, ↓e_iload, ↓e_lloadn, ↓e_lload, ↓e_aloadn, ↓e_aload, ↓e_istoren, ↓e_istore, ↓e_astoren, ↓e_astore, ↓e_add, ↓e_iinc, ↓e_iadd, ↓e_isub, ↓e_imul, ↓e_iand, ↓e_ior, ↓e_ixor, ↓e_ishl, ↓e_iushr, ↓e_idiv, ↓e_irem, ↓e_ineg, ↓e_i2l, ↓e_i2b, ↓e_i2s, ↓e_l2i, ↓e_land, ↓e_lor, ↓e_lshl, ↓e_lshr, ↓e_lushr, ↓e_lcmp, ↓e_dupi, ↓e_dupr, ↓e_popi, ↓e_dup2, ↓e_goto, ↓e_if, ↓e_icmp, ↓e_tsw, ↓e_lsw, ↓e_getf, ↓e_putf, ↓e_gets, ↓e_iald, ↓e_cald, ↓e_iast, ↓e_aald, ↓e_aast, ↓e_len, ↓e_copy, ↓e_abs, ↓e_max, ↓e_min, ↓e_iret, ↓e_aret, ↓e_vret, ↓e_is0, ↓e_is1, ↓e_is2, ↓e_is3, ↓e_is4, ↓e_iv1, ↓e_iv2, ↓e_iv3, ↓e_iv4, ↓e_iv5, ↓e_iv6, ↓rt_X2_init, ↓reduceIte, Nat.reduceAdd, Nat.reduceEqDiff, ↓zcl0, ↓zclv, List.map_nil, List.sum_nil, List.map_cons, List.sum_cons, zcat, true_and, and_true, Nat.reduceLeDiff, Nat.reduceAdd, eq_self, forall_const, e_ok0, e_okss, e_ok1i, e_ok1r, e_ok1n, zl_0, zl_1, zl_2, zl_4, zl_5, zl_10, zl_20, zl_24, zl_31, zl_64, Int.reduceToNat, Int.reduceAdd, Int.reduceMul, Int.reduceSub, Int.reduceNeg, Int.reduceLT, Int.reduceLE, Int.reduceEq, not_false_eq_true, not_true_eq_false, false_implies, true_implies, implies_true, Int.reduceDiv, Int.reduceMod, zr8_zr, zr_zbo, z01_zbo, z01_0, z01_1, zbo_eq0, zup_eq, zup_o, zup_k, ne_eq, ↓q_new, ↓q_ob, ↓q_i1, ↓q_i2, ↓q_i5, ↓q_pf, ↓q_pi, Nat.reduceSub, ↓q_na nn_2 (by decide), ↓q_na nn_64 (by decide), ↓ct_i2_stl, zl_1, zl_2, zl_3]
    repeat (refine And.intro (by first | rfl | decide | omega) ?_)
    exact J34 _ ((((((Zvq.one (v := z00) (fun _ => rfl) h0)).new (n := 1) (fun k => rfl)).new (n := 2) (fun k => rfl)).new (n := 3) (fun k => rfl)).new (n := 4) (fun k => rfl))
def vS0 (j k : Nat) : Int := if j = 0 then 0 else if j < 9 then vHl (j - 1) k else 0
def vSc (j k : Nat) : Int := if j = 0 ∧ k = 6 then 1 else vS0 j k
def k_X6_init_0 : List ZI := [(.aload_n 0, 1, (0, [0], [])), (.invokespecial 3, 3, (0, [], [])), (.aload_n 0, 1, (0, [0], [])), (.new 9, 3, (0, [2], [])), (.dup, 1, (0, [], [])), (.invokespecial 11, 3, (156, [15, 1, 7, 2], []))]
theorem ok_X6_init_0 : zOK cX6_init 6 true 1 k_X6_init_0 0 = true := zOK_by (by decide +kernel)
def k_X6_init_12 : List ZI := [(.putfield 12, 3, (2, [6, 0], [])), (.aload_n 0, 1, (0, [0], [])), (.new 18, 3, (0, [0], [])), (.dup, 1, (0, [], [])), (.invokespecial 20, 3, (24, [0, 1, 3, 0], []))]
theorem ok_X6_init_12 : zOK cX6_init 6 true 1 k_X6_init_12 12 = true := zOK_by (by decide +kernel)
def k_X6_init_23 : List ZI := [(.putfield 21, 3, (2, [6, 1], [])), (.aload_n 0, 1, (0, [0], [])), (.new 25, 3, (0, [3], [])), (.dup, 1, (0, [], [])), (.invokespecial 27, 3, (102, [25, 1, 3, 3], []))]
theorem ok_X6_init_23 : zOK cX6_init 6 true 1 k_X6_init_23 23 = true := zOK_by (by decide +kernel)
def k_X6_init_34 : List ZI := [(.putfield 28, 3, (2, [6, 2], [])), (.aload_n 0, 1, (0, [0], [])), (.new 25, 3, (0, [3], [])), (.dup, 1, (0, [], [])), (.invokespecial 27, 3, (102, [25, 1, 3, 3], []))]
theorem ok_X6_init_34 : zOK cX6_init 6 true 1 k_X6_init_34 34 = true := zOK_by (by decide +kernel)
def k_X6_init_45 : List ZI := [(.putfield 32, 3, (2, [6, 3], [])), (.aload_n 0, 1, (0, [0], [])), (.new 35, 3, (0, [5], [])), (.dup, 1, (0, [], [])), (.bipush 50, 2, (0, [], [])), (.invokespecial 37, 3, (50, [40, 2, 1, 5], []))]
theorem ok_X6_init_45 : zOK cX6_init 6 true 1 k_X6_init_45 45 = true := zOK_by (by decide +kernel)
def k_X6_init_58 : List ZI := [(.putfield 40, 3, (2, [6, 4], [])), (.aload_n 0, 1, (0, [0], [])), (.new 35, 3, (0, [5], [])), (.dup, 1, (0, [], [])), (.bipush 20, 2, (0, [], [])), (.invokespecial 37, 3, (50, [40, 2, 1, 5], []))]
theorem ok_X6_init_58 : zOK cX6_init 6 true 1 k_X6_init_58 58 = true := zOK_by (by decide +kernel)
def k_X6_init_71 : List ZI := [(.putfield 44, 3, (2, [6, 5], [])), (.aload_n 0, 1, (0, [0], [])), (.iconst 1, 1, (0, [], [])), (.putfield 47, 3, (0, [6, 6], [])), (.return_, 1, (0, [], []))]
theorem ok_X6_init_71 : zOK cX6_init 6 true 1 k_X6_init_71 71 = true := zOK_by (by decide +kernel)
def bk_X6_init_0 (E : ZE) (CT : Nat → ZC) (X : ZK) (Rt : ZR) (ls : ZL) (st : List ZV) (h : ZH) (b : ZB2) : Prop := zB E CT k_X6_init_0 0 ls st h b (fun t ls st h b => X t ls st h b) Rt
theorem bs_X6_init_0 {E : ZE} {CT : Nat → ZC} {X : ZK} {Rt : ZR} {ls : ZL} {st : List ZV} {h : ZH} {b : ZB2} (hX : zCl E mX6_init 6 true CT Rt X) (q : bk_X6_init_0 E CT X Rt ls st h b) : X 0 ls st h b := by
  refine hX k_X6_init_0 0 ok_X6_init_0 _ ?_ ls st h b q
  exact fun t ls st h b q => q
def bk_X6_init_12 (E : ZE) (CT : Nat → ZC) (X : ZK) (Rt : ZR) (ls : ZL) (st : List ZV) (h : ZH) (b : ZB2) : Prop := zB E CT k_X6_init_12 12 ls st h b (fun t ls st h b => X t ls st h b) Rt
theorem bs_X6_init_12 {E : ZE} {CT : Nat → ZC} {X : ZK} {Rt : ZR} {ls : ZL} {st : List ZV} {h : ZH} {b : ZB2} (hX : zCl E mX6_init 6 true CT Rt X) (q : bk_X6_init_12 E CT X Rt ls st h b) : X 12 ls st h b := by
  refine hX k_X6_init_12 12 ok_X6_init_12 _ ?_ ls st h b q
  exact fun t ls st h b q => q
def bk_X6_init_23 (E : ZE) (CT : Nat → ZC) (X : ZK) (Rt : ZR) (ls : ZL) (st : List ZV) (h : ZH) (b : ZB2) : Prop := zB E CT k_X6_init_23 23 ls st h b (fun t ls st h b => X t ls st h b) Rt
theorem bs_X6_init_23 {E : ZE} {CT : Nat → ZC} {X : ZK} {Rt : ZR} {ls : ZL} {st : List ZV} {h : ZH} {b : ZB2} (hX : zCl E mX6_init 6 true CT Rt X) (q : bk_X6_init_23 E CT X Rt ls st h b) : X 23 ls st h b := by
  refine hX k_X6_init_23 23 ok_X6_init_23 _ ?_ ls st h b q
  exact fun t ls st h b q => q
def bk_X6_init_34 (E : ZE) (CT : Nat → ZC) (X : ZK) (Rt : ZR) (ls : ZL) (st : List ZV) (h : ZH) (b : ZB2) : Prop := zB E CT k_X6_init_34 34 ls st h b (fun t ls st h b => X t ls st h b) Rt
theorem bs_X6_init_34 {E : ZE} {CT : Nat → ZC} {X : ZK} {Rt : ZR} {ls : ZL} {st : List ZV} {h : ZH} {b : ZB2} (hX : zCl E mX6_init 6 true CT Rt X) (q : bk_X6_init_34 E CT X Rt ls st h b) : X 34 ls st h b := by
  refine hX k_X6_init_34 34 ok_X6_init_34 _ ?_ ls st h b q
  exact fun t ls st h b q => q
def bk_X6_init_45 (E : ZE) (CT : Nat → ZC) (X : ZK) (Rt : ZR) (ls : ZL) (st : List ZV) (h : ZH) (b : ZB2) : Prop := zB E CT k_X6_init_45 45 ls st h b (fun t ls st h b => X t ls st h b) Rt
theorem bs_X6_init_45 {E : ZE} {CT : Nat → ZC} {X : ZK} {Rt : ZR} {ls : ZL} {st : List ZV} {h : ZH} {b : ZB2} (hX : zCl E mX6_init 6 true CT Rt X) (q : bk_X6_init_45 E CT X Rt ls st h b) : X 45 ls st h b := by
  refine hX k_X6_init_45 45 ok_X6_init_45 _ ?_ ls st h b q
  exact fun t ls st h b q => q
def bk_X6_init_58 (E : ZE) (CT : Nat → ZC) (X : ZK) (Rt : ZR) (ls : ZL) (st : List ZV) (h : ZH) (b : ZB2) : Prop := zB E CT k_X6_init_58 58 ls st h b (fun t ls st h b => X t ls st h b) Rt
theorem bs_X6_init_58 {E : ZE} {CT : Nat → ZC} {X : ZK} {Rt : ZR} {ls : ZL} {st : List ZV} {h : ZH} {b : ZB2} (hX : zCl E mX6_init 6 true CT Rt X) (q : bk_X6_init_58 E CT X Rt ls st h b) : X 58 ls st h b := by
  refine hX k_X6_init_58 58 ok_X6_init_58 _ ?_ ls st h b q
  exact fun t ls st h b q => q
def bk_X6_init_71 (E : ZE) (CT : Nat → ZC) (X : ZK) (Rt : ZR) (ls : ZL) (st : List ZV) (h : ZH) (b : ZB2) : Prop := zB E CT k_X6_init_71 71 ls st h b (fun t ls st h b => X t ls st h b) Rt
theorem bs_X6_init_71 {E : ZE} {CT : Nat → ZC} {X : ZK} {Rt : ZR} {ls : ZL} {st : List ZV} {h : ZH} {b : ZB2} (hX : zCl E mX6_init 6 true CT Rt X) (q : bk_X6_init_71 E CT X Rt ls st h b) : X 71 ls st h b := by
  refine hX k_X6_init_71 71 ok_X6_init_71 _ ?_ ls st h b q
  exact fun t ls st h b q => q
-- X6_init: cuts [12, 23, 34, 45, 58, 71]
theorem rt_X6_init {g : Nat} {post : Option ZV → ZH → Prop} {h : ZH} {b : ZB2} : zRt mX6_init g post none h b = (post none h ∧ h.1.length = g + 24) := by show (_ ∧ _ ∧ True) = _; simp
def LfX6 (o : Nat) : List ZG := [.inl (6, [some (some (o + 1)), some (some (o + 9)), some (some (o + 13)), some (some (o + 17)), some (some (o + 21)), some (some (o + 23)), none]), .inl (2, [some (some (o + 2)), some (some (o + 3)), some (some (o + 4)), some (some (o + 5)), some (some (o + 6)), some (some (o + 7)), some (some (o + 8)), none, none, none]), .inr (.inl 64), .inr (.inl 64), .inr (.inl 2), .inr (.inl 2), .inr (.inl 2), .inr (.inl 2), .inr (.inl 20), .inl (0, [some (some (o + 10)), some (some (o + 11)), some (some (o + 12)), none]), .inr (.inl 8), .inr (.inl 8), .inr (.inl 8), .inl (3, [some (some (o + 14)), some (some (o + 16))]), .inl (5, [some (some (o + 15)), none]), .inr (.inl 50), .inr (.inl 50), .inl (3, [some (some (o + 18)), some (some (o + 20))]), .inl (5, [some (some (o + 19)), none]), .inr (.inl 50), .inr (.inl 50), .inl (5, [some (some (o + 22)), none]), .inr (.inl 50), .inl (5, [some (some (o + 24)), none]), .inr (.inl 20)]
def C_i6 : ZC := fun as h post => match as with
  | [.inr (.inr (.inl o))] => ∃ G0 : List ZG, h.1 = G0 ++ [.inl (6, zfl 6)] ∧ o = G0.length ∧ (∀ k, h.2 o k = 0) ∧ ∀ M2 : ZMm, Zvq o 25 vSc h.2 M2 → post none (G0 ++ LfX6 o, M2)
  | _ => False
theorem u_i6 {G0 L : List ZG} {M : ZMm} {post : Option ZV → ZH → Prop} (h0 : ∀ k, M (G0.length + L.length) k = 0) (h : ∀ M2 : ZMm, Zvq (G0.length + L.length) 25 vSc M M2 → post none (G0 ++ (L ++ LfX6 (G0.length + L.length)), M2)) : C_i6 [.inr (.inr (.inl (G0.length + L.length)))] (G0 ++ (L ++ [.inl (6, zfl 6)]), M) post := by
  refine ⟨G0 ++ L, (List.append_assoc ..).symm, (List.length_append ..).symm, h0, fun M2 z => ?_⟩
  rw [List.append_assoc]
  exact h M2 z
def LqX6_init_12 (o : Nat) : List ZG := [.inl (6, [some none, some none, some none, some none, some none, some none, none]), .inl (2, [some (some (o + 2)), some (some (o + 3)), some (some (o + 4)), some (some (o + 5)), some (some (o + 6)), some (some (o + 7)), some (some (o + 8)), none, none, none]), .inr (.inl 64), .inr (.inl 64), .inr (.inl 2), .inr (.inl 2), .inr (.inl 2), .inr (.inl 2), .inr (.inl 20)]
def LqX6_init_23 (o : Nat) : List ZG := [.inl (6, [some (some (o + 1)), some none, some none, some none, some none, some none, none]), .inl (2, [some (some (o + 2)), some (some (o + 3)), some (some (o + 4)), some (some (o + 5)), some (some (o + 6)), some (some (o + 7)), some (some (o + 8)), none, none, none]), .inr (.inl 64), .inr (.inl 64), .inr (.inl 2), .inr (.inl 2), .inr (.inl 2), .inr (.inl 2), .inr (.inl 20), .inl (0, [some (some (o + 10)), some (some (o + 11)), some (some (o + 12)), none]), .inr (.inl 8), .inr (.inl 8), .inr (.inl 8)]
def LqX6_init_34 (o : Nat) : List ZG := [.inl (6, [some (some (o + 1)), some (some (o + 9)), some none, some none, some none, some none, none]), .inl (2, [some (some (o + 2)), some (some (o + 3)), some (some (o + 4)), some (some (o + 5)), some (some (o + 6)), some (some (o + 7)), some (some (o + 8)), none, none, none]), .inr (.inl 64), .inr (.inl 64), .inr (.inl 2), .inr (.inl 2), .inr (.inl 2), .inr (.inl 2), .inr (.inl 20), .inl (0, [some (some (o + 10)), some (some (o + 11)), some (some (o + 12)), none]), .inr (.inl 8), .inr (.inl 8), .inr (.inl 8), .inl (3, [some (some (o + 14)), some (some (o + 16))]), .inl (5, [some (some (o + 15)), none]), .inr (.inl 50), .inr (.inl 50)]
def LqX6_init_45 (o : Nat) : List ZG := [.inl (6, [some (some (o + 1)), some (some (o + 9)), some (some (o + 13)), some none, some none, some none, none]), .inl (2, [some (some (o + 2)), some (some (o + 3)), some (some (o + 4)), some (some (o + 5)), some (some (o + 6)), some (some (o + 7)), some (some (o + 8)), none, none, none]), .inr (.inl 64), .inr (.inl 64), .inr (.inl 2), .inr (.inl 2), .inr (.inl 2), .inr (.inl 2), .inr (.inl 20), .inl (0, [some (some (o + 10)), some (some (o + 11)), some (some (o + 12)), none]), .inr (.inl 8), .inr (.inl 8), .inr (.inl 8), .inl (3, [some (some (o + 14)), some (some (o + 16))]), .inl (5, [some (some (o + 15)), none]), .inr (.inl 50), .inr (.inl 50), .inl (3, [some (some (o + 18)), some (some (o + 20))]), .inl (5, [some (some (o + 19)), none]), .inr (.inl 50), .inr (.inl 50)]
def LqX6_init_58 (o : Nat) : List ZG := [.inl (6, [some (some (o + 1)), some (some (o + 9)), some (some (o + 13)), some (some (o + 17)), some none, some none, none]), .inl (2, [some (some (o + 2)), some (some (o + 3)), some (some (o + 4)), some (some (o + 5)), some (some (o + 6)), some (some (o + 7)), some (some (o + 8)), none, none, none]), .inr (.inl 64), .inr (.inl 64), .inr (.inl 2), .inr (.inl 2), .inr (.inl 2), .inr (.inl 2), .inr (.inl 20), .inl (0, [some (some (o + 10)), some (some (o + 11)), some (some (o + 12)), none]), .inr (.inl 8), .inr (.inl 8), .inr (.inl 8), .inl (3, [some (some (o + 14)), some (some (o + 16))]), .inl (5, [some (some (o + 15)), none]), .inr (.inl 50), .inr (.inl 50), .inl (3, [some (some (o + 18)), some (some (o + 20))]), .inl (5, [some (some (o + 19)), none]), .inr (.inl 50), .inr (.inl 50), .inl (5, [some (some (o + 22)), none]), .inr (.inl 50)]
def LqX6_init_71 (o : Nat) : List ZG := [.inl (6, [some (some (o + 1)), some (some (o + 9)), some (some (o + 13)), some (some (o + 17)), some (some (o + 21)), some none, none]), .inl (2, [some (some (o + 2)), some (some (o + 3)), some (some (o + 4)), some (some (o + 5)), some (some (o + 6)), some (some (o + 7)), some (some (o + 8)), none, none, none]), .inr (.inl 64), .inr (.inl 64), .inr (.inl 2), .inr (.inl 2), .inr (.inl 2), .inr (.inl 2), .inr (.inl 20), .inl (0, [some (some (o + 10)), some (some (o + 11)), some (some (o + 12)), none]), .inr (.inl 8), .inr (.inl 8), .inr (.inl 8), .inl (3, [some (some (o + 14)), some (some (o + 16))]), .inl (5, [some (some (o + 15)), none]), .inr (.inl 50), .inr (.inl 50), .inl (3, [some (some (o + 18)), some (some (o + 20))]), .inl (5, [some (some (o + 19)), none]), .inr (.inl 50), .inr (.inl 50), .inl (5, [some (some (o + 22)), none]), .inr (.inl 50), .inl (5, [some (some (o + 24)), none]), .inr (.inl 20)]
-- known: i6 X6_init 3 r:o
def ct_i6 : Nat → ZC := fun n => if n = 15 then C_i2 else if n = 0 then C_i0 else if n = 25 then C_i3 else if n = 40 then C_i5 else fun _ _ _ => False
theorem ct_i6_i2 {as : List ZV} {h : ZH} {post : Option ZV → ZH → Prop} : ct_i6 15 as h post = C_i2 as h post := rfl
theorem ct_i6_i0 {as : List ZV} {h : ZH} {post : Option ZV → ZH → Prop} : ct_i6 0 as h post = C_i0 as h post := rfl
theorem ct_i6_i3 {as : List ZV} {h : ZH} {post : Option ZV → ZH → Prop} : ct_i6 25 as h post = C_i3 as h post := rfl
theorem ct_i6_i5 {as : List ZV} {h : ZH} {post : Option ZV → ZH → Prop} : ct_i6 40 as h post = C_i5 as h post := rfl
theorem c_i6 {E : ZE} {d : Nat} (hd : 3 ≤ d) : zMet E d mX6_init C_i6 := by
  refine zmet_of (o := 6) (ini := true) (CT := ct_i6) gd_X6_init rfl (fun _ => rfl) (by omega) ?_ ?_
  · intro n as h post hh
    unfold ct_i6 at hh
    by_cases c : n = 15
    · subst c; exact ⟨gd_X2_init, 2, by omega, c_i2 (by omega)⟩
    rw [if_neg c] at hh
    by_cases c : n = 0
    · subst c; exact ⟨gd_X0_init, 1, by omega, c_i0 (by omega)⟩
    rw [if_neg c] at hh
    by_cases c : n = 25
    · subst c; exact ⟨gd_X3_init, 2, by omega, c_i3 (by omega)⟩
    rw [if_neg c] at hh
    by_cases c : n = 40
    · subst c; exact ⟨gd_X5_init, 1, by omega, c_i5 (by omega)⟩
    rw [if_neg c] at hh
    exact hh.elim
  intro as h post hC
  match as, hC with
  | [.inr (.inr (.inl o))], hC =>
    refine ⟨Nat.le_of_ble_eq_true rfl, fun X hX => bs_X6_init_0 hX ?_⟩
    obtain ⟨G, M⟩ := h
    obtain ⟨G0, hG, ho, h0, hC⟩ := hC
    dsimp only at hG h0 hC
    subst hG
    subst ho
    have J71 : ∀ M1 : ZMm, Zvq G0.length 25 vS0 M M1 → X 71 [some (.inr (.inr (.inl (G0.length + 0))))] [.inr (.inr (.inl (G0.length + 23))), .inr (.inr (.inl (G0.length + 0)))] (G0 ++ LqX6_init_71 G0.length, M1) (0, 0) := by
      intro M1 z1
      refine bs_X6_init_71 hX ?_
      simp only [bk_X6_init_0, k_X6_init_0, bk_X6_init_12, k_X6_init_12, bk_X6_init_23, k_X6_init_23, bk_X6_init_34, k_X6_init_34, bk_X6_init_45, k_X6_init_45, bk_X6_init_58, k_X6_init_58, bk_X6_init_71, k_X6_init_71, ↓e_rk1, ↓e_rk0, ↓e_sk0, ↓e_sks, ↓e_ldi0, ↓e_ldis, ↓e_ldl0, ↓e_ldls, ↓e_lda0, ↓e_ldas, ↓e_ok0, ↓e_okss, ↓e_ok1i, ↓e_ok1r, ↓e_ok1n, ↓e_sti, ↓e_sta, ↓e_1, ↓e_2, ↓e_l1, ↓e_l2, ↓e_li, ↓e_sw0, ↓e_sws, ↓e_ceq, ↓e_cne, ↓e_clt, ↓e_cge, ↓e_cgt, ↓e_cle, ↓e_nil, ↓e_cons, ↓e_iconst, ↓e_bipush, ↓e_sipush, ↓e_ldc, ↓e_ldcw, ↓e_ldc2, ↓e_lconst, ↓e_iloadn, ↓e_iload, ↓e_lloadn, ↓e_lload, ↓e_aloadn, ↓e_aload, ↓e_istoren, ↓e_istore, ↓e_astoren, ↓e_astore, ↓e_add, ↓e_iinc, ↓e_iadd, ↓e_isub, ↓e_imul, ↓e_iand, ↓e_ior, ↓e_ixor, ↓e_ishl, ↓e_iushr, ↓e_idiv, ↓e_irem, ↓e_ineg, ↓e_i2l, ↓e_i2b, ↓e_i2s, ↓e_l2i, ↓e_land, ↓e_lor, ↓e_lshl, ↓e_lshr, ↓e_lushr, ↓e_lcmp, ↓e_dupi, ↓e_dupr, ↓e_popi, ↓e_dup2, ↓e_goto, ↓e_if, ↓e_icmp, ↓e_tsw, ↓e_lsw, ↓e_getf, ↓e_putf, ↓e_gets, ↓e_iald, ↓e_cald, ↓e_iast, ↓e_aald, ↓e_aast, ↓e_len, ↓e_copy, ↓e_abs, ↓e_max, ↓e_min, ↓e_iret, ↓e_aret, ↓e_vret, ↓e_is0, ↓e_is1, ↓e_is2, ↓e_is3, ↓e_is4, ↓e_iv1, ↓e_iv2, ↓e_iv3, ↓e_iv4, ↓e_iv5, ↓e_iv6, ↓rt_X6_init, ↓reduceIte, Nat.reduceAdd, Nat.reduceEqDiff, ↓zcl0, ↓zclv, List.map_nil, List.sum_nil, List.map_cons, List.sum_cons, zcat, true_and, and_true, Nat.reduceLeDiff, Nat.reduceAdd, eq_self, forall_const, e_ok0, e_okss, e_ok1i, e_ok1r, e_ok1n, zl_1, zl_20, zl_50, Int.reduceToNat, Int.reduceAdd, Int.reduceMul, Int.reduceSub, Int.reduceNeg, Int.reduceLT, Int.reduceLE, Int.reduceEq, not_false_eq_true, not_true_eq_false, false_implies, true_implies, implies_true, Int.reduceDiv, Int.reduceMod, zr8_zr, zr_zbo, z01_zbo, z01_0, z01_1, zbo_eq0, zup_eq, zup_o, zup_k, ne_eq, ↓q_new, ↓q_ob, ↓q_i1, ↓q_i2, ↓q_i5, ↓q_pf, ↓q_pi, Nat.reduceSub, ↓ct_i6_i2, ↓ct_i6_i0, ↓ct_i6_i3, ↓ct_i6_i5, zl_1, zl_2, zl_3]
      repeat (refine And.intro (by first | rfl | decide | omega) ?_)
      refine ⟨hC _ ((z1).put (v' := vSc) (j := 0) (k := 6) (z := 1) (fun a b => by unfold vSc; rfl)), ?_⟩
      simp only [List.length_append]
      rfl
    have J58 : ∀ M1 : ZMm, Zvq G0.length 23 vS0 M M1 → X 58 [some (.inr (.inr (.inl (G0.length + 0))))] [.inr (.inr (.inl (G0.length + 21))), .inr (.inr (.inl (G0.length + 0)))] (G0 ++ LqX6_init_58 G0.length, M1) (2, 52) := by
      intro M1 z1
      refine bs_X6_init_58 hX ?_
      simp only [bk_X6_init_0, k_X6_init_0, bk_X6_init_12, k_X6_init_12, bk_X6_init_23, k_X6_init_23, bk_X6_init_34, k_X6_init_34, bk_X6_init_45, k_X6_init_45, bk_X6_init_58, k_X6_init_58, bk_X6_init_71, k_X6_init_71, ↓e_rk1, ↓e_rk0, ↓e_sk0, ↓e_sks, ↓e_ldi0, ↓e_ldis, ↓e_ldl0, ↓e_ldls, ↓e_lda0, ↓e_ldas, ↓e_ok0, ↓e_okss, ↓e_ok1i, ↓e_ok1r, ↓e_ok1n, ↓e_sti, ↓e_sta, ↓e_1, ↓e_2, ↓e_l1, ↓e_l2, ↓e_li, ↓e_sw0, ↓e_sws, ↓e_ceq, ↓e_cne, ↓e_clt, ↓e_cge, ↓e_cgt, ↓e_cle, ↓e_nil, ↓e_cons, ↓e_iconst, ↓e_bipush, ↓e_sipush, ↓e_ldc, ↓e_ldcw, ↓e_ldc2, ↓e_lconst, ↓e_iloadn, ↓e_iload, ↓e_lloadn, ↓e_lload, ↓e_aloadn, ↓e_aload, ↓e_istoren, ↓e_istore, ↓e_astoren, ↓e_astore, ↓e_add, ↓e_iinc, ↓e_iadd, ↓e_isub, ↓e_imul, ↓e_iand, ↓e_ior, ↓e_ixor, ↓e_ishl, ↓e_iushr, ↓e_idiv, ↓e_irem, ↓e_ineg, ↓e_i2l, ↓e_i2b, ↓e_i2s, ↓e_l2i, ↓e_land, ↓e_lor, ↓e_lshl, ↓e_lshr, ↓e_lushr, ↓e_lcmp, ↓e_dupi, ↓e_dupr, ↓e_popi, ↓e_dup2, ↓e_goto, ↓e_if, ↓e_icmp, ↓e_tsw, ↓e_lsw, ↓e_getf, ↓e_putf, ↓e_gets, ↓e_iald, ↓e_cald, ↓e_iast, ↓e_aald, ↓e_aast, ↓e_len, ↓e_copy, ↓e_abs, ↓e_max, ↓e_min, ↓e_iret, ↓e_aret, ↓e_vret, ↓e_is0, ↓e_is1, ↓e_is2, ↓e_is3, ↓e_is4, ↓e_iv1, ↓e_iv2, ↓e_iv3, ↓e_iv4, ↓e_iv5, ↓e_iv6, ↓rt_X6_init, ↓reduceIte, Nat.reduceAdd, Nat.reduceEqDiff, ↓zcl0, ↓zclv, List.map_nil, List.sum_nil, List.map_cons, List.sum_cons, zcat, true_and, and_true, Nat.reduceLeDiff, Nat.reduceAdd, eq_self, forall_const, e_ok0, e_okss, e_ok1i, e_ok1r, e_ok1n, zl_1, zl_20, zl_50, Int.reduceToNat, Int.reduceAdd, Int.reduceMul, Int.reduceSub, Int.reduceNeg, Int.reduceLT, Int.reduceLE, Int.reduceEq, not_false_eq_true, not_true_eq_false, false_implies, true_implies, implies_true, Int.reduceDiv, Int.reduceMod, zr8_zr, zr_zbo, z01_zbo, z01_0, z01_1, zbo_eq0, zup_eq, zup_o, zup_k, ne_eq, ↓q_new, ↓q_ob, ↓q_i1, ↓q_i2, ↓q_i5, ↓q_pf, ↓q_pi, Nat.reduceSub, ↓ct_i6_i2, ↓ct_i6_i0, ↓ct_i6_i3, ↓ct_i6_i5, zl_1, zl_2, zl_3]
      repeat (refine And.intro (by first | rfl | decide | omega) ?_)
      refine u_i5 (by decide) (fun _ => zro_self) (fun M2 z2 => J71 M2 ?_)
      exact Zvq.callN (n := 23) (m := 2) (v' := z00) (z1) z2 (fun j k hj => by unfold vS0; rw [if_neg (by omega), if_neg (by omega)]; rfl)
    have J45 : ∀ M1 : ZMm, Zvq G0.length 21 vS0 M M1 → X 45 [some (.inr (.inr (.inl (G0.length + 0))))] [.inr (.inr (.inl (G0.length + 17))), .inr (.inr (.inl (G0.length + 0)))] (G0 ++ LqX6_init_45 G0.length, M1) (4, 104) := by
      intro M1 z1
      refine bs_X6_init_45 hX ?_
      simp only [bk_X6_init_0, k_X6_init_0, bk_X6_init_12, k_X6_init_12, bk_X6_init_23, k_X6_init_23, bk_X6_init_34, k_X6_init_34, bk_X6_init_45, k_X6_init_45, bk_X6_init_58, k_X6_init_58, bk_X6_init_71, k_X6_init_71, ↓e_rk1, ↓e_rk0, ↓e_sk0, ↓e_sks, ↓e_ldi0, ↓e_ldis, ↓e_ldl0, ↓e_ldls, ↓e_lda0, ↓e_ldas, ↓e_ok0, ↓e_okss, ↓e_ok1i, ↓e_ok1r, ↓e_ok1n, ↓e_sti, ↓e_sta, ↓e_1, ↓e_2, ↓e_l1, ↓e_l2, ↓e_li, ↓e_sw0, ↓e_sws, ↓e_ceq, ↓e_cne, ↓e_clt, ↓e_cge, ↓e_cgt, ↓e_cle, ↓e_nil, ↓e_cons, ↓e_iconst, ↓e_bipush, ↓e_sipush, ↓e_ldc, ↓e_ldcw, ↓e_ldc2, ↓e_lconst, ↓e_iloadn, ↓e_iload, ↓e_lloadn, ↓e_lload, ↓e_aloadn, ↓e_aload, ↓e_istoren, ↓e_istore, ↓e_astoren, ↓e_astore, ↓e_add, ↓e_iinc, ↓e_iadd, ↓e_isub, ↓e_imul, ↓e_iand, ↓e_ior, ↓e_ixor, ↓e_ishl, ↓e_iushr, ↓e_idiv, ↓e_irem, ↓e_ineg, ↓e_i2l, ↓e_i2b, ↓e_i2s, ↓e_l2i, ↓e_land, ↓e_lor, ↓e_lshl, ↓e_lshr, ↓e_lushr, ↓e_lcmp, ↓e_dupi, ↓e_dupr, ↓e_popi, ↓e_dup2, ↓e_goto, ↓e_if, ↓e_icmp, ↓e_tsw, ↓e_lsw, ↓e_getf, ↓e_putf, ↓e_gets, ↓e_iald, ↓e_cald, ↓e_iast, ↓e_aald, ↓e_aast, ↓e_len, ↓e_copy, ↓e_abs, ↓e_max, ↓e_min, ↓e_iret, ↓e_aret, ↓e_vret, ↓e_is0, ↓e_is1, ↓e_is2, ↓e_is3, ↓e_is4, ↓e_iv1, ↓e_iv2, ↓e_iv3, ↓e_iv4, ↓e_iv5, ↓e_iv6, ↓rt_X6_init, ↓reduceIte, Nat.reduceAdd, Nat.reduceEqDiff, ↓zcl0, ↓zclv, List.map_nil, List.sum_nil, List.map_cons, List.sum_cons, zcat, true_and, and_true, Nat.reduceLeDiff, Nat.reduceAdd, eq_self, forall_const, e_ok0, e_okss, e_ok1i, e_ok1r, e_ok1n, zl_1, zl_20, zl_50, Int.reduceToNat, Int.reduceAdd, Int.reduceMul, Int.reduceSub, Int.reduceNeg, Int.reduceLT, Int.reduceLE, Int.reduceEq, not_false_eq_true, not_true_eq_false, false_implies, true_implies, implies_true, Int.reduceDiv, Int.reduceMod, zr8_zr, zr_zbo, z01_zbo, z01_0, z01_1, zbo_eq0, zup_eq, zup_o, zup_k, ne_eq, ↓q_new, ↓q_ob, ↓q_i1, ↓q_i2, ↓q_i5, ↓q_pf, ↓q_pi, Nat.reduceSub, ↓ct_i6_i2, ↓ct_i6_i0, ↓ct_i6_i3, ↓ct_i6_i5, zl_1, zl_2, zl_3]
      repeat (refine And.intro (by first | rfl | decide | omega) ?_)
      refine u_i5 (by decide) (fun _ => zro_self) (fun M2 z2 => J58 M2 ?_)
      exact Zvq.callN (n := 21) (m := 2) (v' := z00) (z1) z2 (fun j k hj => by unfold vS0; rw [if_neg (by omega), if_neg (by omega)]; rfl)
    have J34 : ∀ M1 : ZMm, Zvq G0.length 17 vS0 M M1 → X 34 [some (.inr (.inr (.inl (G0.length + 0))))] [.inr (.inr (.inl (G0.length + 13))), .inr (.inr (.inl (G0.length + 0)))] (G0 ++ LqX6_init_34 G0.length, M1) (8, 208) := by
      intro M1 z1
      refine bs_X6_init_34 hX ?_
      simp only [bk_X6_init_0, k_X6_init_0, bk_X6_init_12, k_X6_init_12, bk_X6_init_23, k_X6_init_23, bk_X6_init_34, k_X6_init_34, bk_X6_init_45, k_X6_init_45, bk_X6_init_58, k_X6_init_58, bk_X6_init_71, k_X6_init_71, ↓e_rk1, ↓e_rk0, ↓e_sk0, ↓e_sks, ↓e_ldi0, ↓e_ldis, ↓e_ldl0, ↓e_ldls, ↓e_lda0, ↓e_ldas, ↓e_ok0, ↓e_okss, ↓e_ok1i, ↓e_ok1r, ↓e_ok1n, ↓e_sti, ↓e_sta, ↓e_1, ↓e_2, ↓e_l1, ↓e_l2, ↓e_li, ↓e_sw0, ↓e_sws, ↓e_ceq, ↓e_cne, ↓e_clt, ↓e_cge, ↓e_cgt, ↓e_cle, ↓e_nil, ↓e_cons, ↓e_iconst, ↓e_bipush, ↓e_sipush, ↓e_ldc, ↓e_ldcw, ↓e_ldc2, ↓e_lconst, ↓e_iloadn, ↓e_iload, ↓e_lloadn, ↓e_lload, ↓e_aloadn, ↓e_aload, ↓e_istoren, ↓e_istore, ↓e_astoren, ↓e_astore, ↓e_add, ↓e_iinc, ↓e_iadd, ↓e_isub, ↓e_imul, ↓e_iand, ↓e_ior, ↓e_ixor, ↓e_ishl, ↓e_iushr, ↓e_idiv, ↓e_irem, ↓e_ineg, ↓e_i2l, ↓e_i2b, ↓e_i2s, ↓e_l2i, ↓e_land, ↓e_lor, ↓e_lshl, ↓e_lshr, ↓e_lushr, ↓e_lcmp, ↓e_dupi, ↓e_dupr, ↓e_popi, ↓e_dup2, ↓e_goto, ↓e_if, ↓e_icmp, ↓e_tsw, ↓e_lsw, ↓e_getf, ↓e_putf, ↓e_gets, ↓e_iald, ↓e_cald, ↓e_iast, ↓e_aald, ↓e_aast, ↓e_len, ↓e_copy, ↓e_abs, ↓e_max, ↓e_min, ↓e_iret, ↓e_aret, ↓e_vret, ↓e_is0, ↓e_is1, ↓e_is2, ↓e_is3, ↓e_is4, ↓e_iv1, ↓e_iv2, ↓e_iv3, ↓e_iv4, ↓e_iv5, ↓e_iv6, ↓rt_X6_init, ↓reduceIte, Nat.reduceAdd, Nat.reduceEqDiff, ↓zcl0, ↓zclv, List.map_nil, List.sum_nil, List.map_cons, List.sum_cons, zcat, true_and, and_true, Nat.reduceLeDiff, Nat.reduceAdd, eq_self, forall_const, e_ok0, e_okss, e_ok1i, e_ok1r, e_ok1n, zl_1, zl_20, zl_50, Int.reduceToNat, Int.reduceAdd, Int.reduceMul, Int.reduceSub, Int.reduceNeg, Int.reduceLT, Int.reduceLE, Int.reduceEq, not_false_eq_true, not_true_eq_false, false_implies, true_implies, implies_true, Int.reduceDiv, Int.reduceMod, zr8_zr, zr_zbo, z01_zbo, z01_0, z01_1, zbo_eq0, zup_eq, zup_o, zup_k, ne_eq, ↓q_new, ↓q_ob, ↓q_i1, ↓q_i2, ↓q_i5, ↓q_pf, ↓q_pi, Nat.reduceSub, ↓ct_i6_i2, ↓ct_i6_i0, ↓ct_i6_i3, ↓ct_i6_i5, zl_1, zl_2, zl_3]
      repeat (refine And.intro (by first | rfl | decide | omega) ?_)
      refine u_i3 (fun _ => zro_self) (fun M2 z2 => J45 M2 ?_)
      exact Zvq.callN (n := 17) (m := 4) (v' := z00) (z1) z2 (fun j k hj => by unfold vS0; rw [if_neg (by omega), if_neg (by omega)]; rfl)
    have J23 : ∀ M1 : ZMm, Zvq G0.length 13 vS0 M M1 → X 23 [some (.inr (.inr (.inl (G0.length + 0))))] [.inr (.inr (.inl (G0.length + 9))), .inr (.inr (.inl (G0.length + 0)))] (G0 ++ LqX6_init_23 G0.length, M1) (12, 312) := by
      intro M1 z1
      refine bs_X6_init_23 hX ?_
      simp only [bk_X6_init_0, k_X6_init_0, bk_X6_init_12, k_X6_init_12, bk_X6_init_23, k_X6_init_23, bk_X6_init_34, k_X6_init_34, bk_X6_init_45, k_X6_init_45, bk_X6_init_58, k_X6_init_58, bk_X6_init_71, k_X6_init_71, ↓e_rk1, ↓e_rk0, ↓e_sk0, ↓e_sks, ↓e_ldi0, ↓e_ldis, ↓e_ldl0, ↓e_ldls, ↓e_lda0, ↓e_ldas, ↓e_ok0, ↓e_okss, ↓e_ok1i, ↓e_ok1r, ↓e_ok1n, ↓e_sti, ↓e_sta, ↓e_1, ↓e_2, ↓e_l1, ↓e_l2, ↓e_li, ↓e_sw0, ↓e_sws, ↓e_ceq, ↓e_cne, ↓e_clt, ↓e_cge, ↓e_cgt, ↓e_cle, ↓e_nil, ↓e_cons, ↓e_iconst, ↓e_bipush, ↓e_sipush, ↓e_ldc, ↓e_ldcw, ↓e_ldc2, ↓e_lconst, ↓e_iloadn, ↓e_iload, ↓e_lloadn, ↓e_lload, ↓e_aloadn, ↓e_aload, ↓e_istoren, ↓e_istore, ↓e_astoren, ↓e_astore, ↓e_add, ↓e_iinc, ↓e_iadd, ↓e_isub, ↓e_imul, ↓e_iand, ↓e_ior, ↓e_ixor, ↓e_ishl, ↓e_iushr, ↓e_idiv, ↓e_irem, ↓e_ineg, ↓e_i2l, ↓e_i2b, ↓e_i2s, ↓e_l2i, ↓e_land, ↓e_lor, ↓e_lshl, ↓e_lshr, ↓e_lushr, ↓e_lcmp, ↓e_dupi, ↓e_dupr, ↓e_popi, ↓e_dup2, ↓e_goto, ↓e_if, ↓e_icmp, ↓e_tsw, ↓e_lsw, ↓e_getf, ↓e_putf, ↓e_gets, ↓e_iald, ↓e_cald, ↓e_iast, ↓e_aald, ↓e_aast, ↓e_len, ↓e_copy, ↓e_abs, ↓e_max, ↓e_min, ↓e_iret, ↓e_aret, ↓e_vret, ↓e_is0, ↓e_is1, ↓e_is2, ↓e_is3, ↓e_is4, ↓e_iv1, ↓e_iv2, ↓e_iv3, ↓e_iv4, ↓e_iv5, ↓e_iv6, ↓rt_X6_init, ↓reduceIte, Nat.reduceAdd, Nat.reduceEqDiff, ↓zcl0, ↓zclv, List.map_nil, List.sum_nil, List.map_cons, List.sum_cons, zcat, true_and, and_true, Nat.reduceLeDiff, Nat.reduceAdd, eq_self, forall_const, e_ok0, e_okss, e_ok1i, e_ok1r, e_ok1n, zl_1, zl_20, zl_50, Int.reduceToNat, Int.reduceAdd, Int.reduceMul, Int.reduceSub, Int.reduceNeg, Int.reduceLT, Int.reduceLE, Int.reduceEq, not_false_eq_true, not_true_eq_false, false_implies, true_implies, implies_true, Int.reduceDiv, Int.reduceMod, zr8_zr, zr_zbo, z01_zbo, z01_0, z01_1, zbo_eq0, zup_eq, zup_o, zup_k, ne_eq, ↓q_new, ↓q_ob, ↓q_i1, ↓q_i2, ↓q_i5, ↓q_pf, ↓q_pi, Nat.reduceSub, ↓ct_i6_i2, ↓ct_i6_i0, ↓ct_i6_i3, ↓ct_i6_i5, zl_1, zl_2, zl_3]
      repeat (refine And.intro (by first | rfl | decide | omega) ?_)
      refine u_i3 (fun _ => zro_self) (fun M2 z2 => J34 M2 ?_)
      exact Zvq.callN (n := 13) (m := 4) (v' := z00) (z1) z2 (fun j k hj => by unfold vS0; rw [if_neg (by omega), if_neg (by omega)]; rfl)
    have J12 : ∀ M1 : ZMm, Zvq G0.length 9 vS0 M M1 → X 12 [some (.inr (.inr (.inl (G0.length + 0))))] [.inr (.inr (.inl (G0.length + 1))), .inr (.inr (.inl (G0.length + 0)))] (G0 ++ LqX6_init_12 G0.length, M1) (16, 340) := by
      intro M1 z1
      refine bs_X6_init_12 hX ?_
      simp only [bk_X6_init_0, k_X6_init_0, bk_X6_init_12, k_X6_init_12, bk_X6_init_23, k_X6_init_23, bk_X6_init_34, k_X6_init_34, bk_X6_init_45, k_X6_init_45, bk_X6_init_58, k_X6_init_58, bk_X6_init_71, k_X6_init_71, ↓e_rk1, ↓e_rk0, ↓e_sk0, ↓e_sks, ↓e_ldi0, ↓e_ldis, ↓e_ldl0, ↓e_ldls, ↓e_lda0, ↓e_ldas, ↓e_ok0, ↓e_okss, ↓e_ok1i, ↓e_ok1r, ↓e_ok1n, ↓e_sti, ↓e_sta, ↓e_1, ↓e_2, ↓e_l1, ↓e_l2, ↓e_li, ↓e_sw0, ↓e_sws, ↓e_ceq, ↓e_cne, ↓e_clt, ↓e_cge, ↓e_cgt, ↓e_cle, ↓e_nil, ↓e_cons, ↓e_iconst, ↓e_bipush, ↓e_sipush, ↓e_ldc, ↓e_ldcw, ↓e_ldc2, ↓e_lconst, ↓e_iloadn, ↓e_iload, ↓e_lloadn, ↓e_lload, ↓e_aloadn, ↓e_aload, ↓e_istoren, ↓e_istore, ↓e_astoren, ↓e_astore, ↓e_add, ↓e_iinc, ↓e_iadd, ↓e_isub, ↓e_imul, ↓e_iand, ↓e_ior, ↓e_ixor, ↓e_ishl, ↓e_iushr, ↓e_idiv, ↓e_irem, ↓e_ineg, ↓e_i2l, ↓e_i2b, ↓e_i2s, ↓e_l2i, ↓e_land, ↓e_lor, ↓e_lshl, ↓e_lshr, ↓e_lushr, ↓e_lcmp, ↓e_dupi, ↓e_dupr, ↓e_popi, ↓e_dup2, ↓e_goto, ↓e_if, ↓e_icmp, ↓e_tsw, ↓e_lsw, ↓e_getf, ↓e_putf, ↓e_gets, ↓e_iald, ↓e_cald, ↓e_iast, ↓e_aald, ↓e_aast, ↓e_len, ↓e_copy, ↓e_abs, ↓e_max, ↓e_min, ↓e_iret, ↓e_aret, ↓e_vret, ↓e_is0, ↓e_is1, ↓e_is2, ↓e_is3, ↓e_is4, ↓e_iv1, ↓e_iv2, ↓e_iv3, ↓e_iv4, ↓e_iv5, ↓e_iv6, ↓rt_X6_init, ↓reduceIte, Nat.reduceAdd, Nat.reduceEqDiff, ↓zcl0, ↓zclv, List.map_nil, List.sum_nil, List.map_cons, List.sum_cons, zcat, true_and, and_true, Nat.reduceLeDiff, Nat.reduceAdd, eq_self, forall_const, e_ok0, e_okss, e_ok1i, e_ok1r, e_ok1n, zl_1, zl_20, zl_50, Int.reduceToNat, Int.reduceAdd, Int.reduceMul, Int.reduceSub, Int.reduceNeg, Int.reduceLT, Int.reduceLE, Int.reduceEq, not_false_eq_true, not_true_eq_false, false_implies, true_implies, implies_true, Int.reduceDiv, Int.reduceMod, zr8_zr, zr_zbo, z01_zbo, z01_0, z01_1, zbo_eq0, zup_eq, zup_o, zup_k, ne_eq, ↓q_new, ↓q_ob, ↓q_i1, ↓q_i2, ↓q_i5, ↓q_pf, ↓q_pi, Nat.reduceSub, ↓ct_i6_i2, ↓ct_i6_i0, ↓ct_i6_i3, ↓ct_i6_i5, zl_1, zl_2, zl_3]
      repeat (refine And.intro (by first | rfl | decide | omega) ?_)
      refine u_i0 (fun _ => zro_self) (fun M2 z2 => J23 M2 ?_)
      exact Zvq.callN (n := 9) (m := 4) (v' := z00) (z1) z2 (fun j k hj => by unfold vS0; rw [if_neg (by omega), if_neg (by omega)]; rfl)
    show bk_X6_init_0 E ct_i6 X _ [some (.inr (.inr (.inl (G0.length + 0))))] [] (G0 ++ [.inl (6, zfl 6)], M) (24, 506)
    simp only [bk_X6_init_0, k_X6_init_0, bk_X6_init_12, k_X6_init_12, bk_X6_init_23, k_X6_init_23, bk_X6_init_34, k_X6_init_34, bk_X6_init_45, k_X6_init_45, bk_X6_init_58, k_X6_init_58, bk_X6_init_71, k_X6_init_71, ↓e_rk1, ↓e_rk0, ↓e_sk0, ↓e_sks, ↓e_ldi0, ↓e_ldis, ↓e_ldl0, ↓e_ldls, ↓e_lda0, ↓e_ldas, ↓e_ok0, ↓e_okss, ↓e_ok1i, ↓e_ok1r, ↓e_ok1n, ↓e_sti, ↓e_sta, ↓e_1, ↓e_2, ↓e_l1, ↓e_l2, ↓e_li, ↓e_sw0, ↓e_sws, ↓e_ceq, ↓e_cne, ↓e_clt, ↓e_cge, ↓e_cgt, ↓e_cle, ↓e_nil, ↓e_cons, ↓e_iconst, ↓e_bipush, ↓e_sipush, ↓e_ldc, ↓e_ldcw, ↓e_ldc2, ↓e_lconst, ↓e_iloadn, ↓e_iload, ↓e_lloadn, ↓e_lload, ↓e_aloadn, ↓e_aload, ↓e_istoren, ↓e_istore, ↓e_astoren, ↓e_astore, ↓e_add, ↓e_iinc, ↓e_iadd, ↓e_isub, ↓e_imul, ↓e_iand, ↓e_ior, ↓e_ixor, ↓e_ishl, ↓e_iushr, ↓e_idiv, ↓e_irem, ↓e_ineg, ↓e_i2l, ↓e_i2b, ↓e_i2s, ↓e_l2i, ↓e_land, ↓e_lor, ↓e_lshl, ↓e_lshr, ↓e_lushr, ↓e_lcmp, ↓e_dupi, ↓e_dupr, ↓e_popi, ↓e_dup2, ↓e_goto, ↓e_if, ↓e_icmp, ↓e_tsw, ↓e_lsw, ↓e_getf, ↓e_putf, ↓e_gets, ↓e_iald, ↓e_cald, ↓e_iast, ↓e_aald, ↓e_aast, ↓e_len, ↓e_copy, ↓e_abs, ↓e_max, ↓e_min, ↓e_iret, ↓e_aret, ↓e_vret, ↓e_is0, ↓e_is1, ↓e_is2, ↓e_is3, ↓e_is4, ↓e_iv1, ↓e_iv2, ↓e_iv3, ↓e_iv4, ↓e_iv5, ↓e_iv6, ↓rt_X6_init, ↓reduceIte, Nat.reduceAdd, Nat.reduceEqDiff, ↓zcl0, ↓zclv, List.map_nil, List.sum_nil, List.map_cons, List.sum_cons, zcat, true_and, and_true, Nat.reduceLeDiff, Nat.reduceAdd, eq_self, forall_const, e_ok0, e_okss, e_ok1i, e_ok1r, e_ok1n, zl_1, zl_20, zl_50, Int.reduceToNat, Int.reduceAdd, Int.reduceMul, Int.reduceSub, Int.reduceNeg, Int.reduceLT, Int.reduceLE, Int.reduceEq, not_false_eq_true, not_true_eq_false, false_implies, true_implies, implies_true, Int.reduceDiv, Int.reduceMod, zr8_zr, zr_zbo, z01_zbo, z01_0, z01_1, zbo_eq0, zup_eq, zup_o, zup_k, ne_eq, ↓q_new, ↓q_ob, ↓q_i1, ↓q_i2, ↓q_i5, ↓q_pf, ↓q_pi, Nat.reduceSub, ↓ct_i6_i2, ↓ct_i6_i0, ↓ct_i6_i3, ↓ct_i6_i5, zl_1, zl_2, zl_3]
    repeat (refine And.intro (by first | rfl | decide | omega) ?_)
    refine u_i2 (fun _ => zro_self) (fun M2 z2 => J12 M2 ?_)
    exact Zvq.callN (n := 1) (m := 8) (v' := vHl) ((Zvq.one (v := vS0) (fun _ => rfl) h0)) z2 (fun j k hj => by unfold vS0; rw [if_neg (by omega), if_pos (by omega), show 1 + j - 1 = j by omega])
