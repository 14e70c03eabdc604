/-! THE CLASS: the least rock by which two cells are joined -/
theorem Grt_ex0 {d : Nat → Int} (vd : Vd d) {s a : Int} : ∀ (N : Nat) (f : Nat → Int), Uwy d s a f → (sm f 64).toNat < N → ∃ g, Grt d s a g
  | 0, _, _, h => by omega
  | N + 1, f, hU, h => by
    by_cases hall : ∀ c w : Nat, c < 64 → w < 4 → rlx d s f c w
    · exact ⟨f, hU, hall⟩
    · have : ∃ c w : Nat, c < 64 ∧ w < 4 ∧ ¬ rlx d s f c w := by
        apply Classical.byContradiction
        intro hn
        apply hall
        intro c w hc hw
        apply Classical.byContradiction
        intro hr
        exact hn ⟨c, w, hc, hw, hr⟩
      obtain ⟨c, w, hc, hw, hr⟩ := this
      have b0 : 0 ≤ bsd c w := Classical.byContradiction fun q => hr (fun q2 => absurd q2 q)
      have ho : opn d s (bsd c w) := Classical.byContradiction fun q => hr (fun _ q2 => absurd q2 q)
      have lt : f c + wgt d s (bsd c w) < f (bsd c w).toNat := by
        apply Classical.byContradiction
        intro q
        exact hr (fun _ _ => by omega)
      have br := bsd_rng (c := c) (w := w) (by omega) (by omega)
      have g0 := wgt_rng vd (s := s) b0 br.2
      have U2 := Uwy_up hU hc hw b0 ho g0.1 lt
      have sn := sm_nn (f := up1 f (bsd c w).toNat (f c + wgt d s (bsd c w))) 64 (fun k hk => (U2.1 k hk).1)
      refine Grt_ex0 vd N _ U2 ?_
      have e := sm_up (f := f) (k := (bsd c w).toNat) (v := f c + wgt d s (bsd c w)) 64
      rw [if_pos (by omega)] at e
      rw [e] at sn ⊢
      omega
theorem Grt_ex {d : Nat → Int} (vd : Vd d) {s a : Int} (ha : 0 ≤ a ∧ a ≤ 63) : ∃ g, Grt d s a g := by
  have tr := tk_rng vd ha.1 ha.2
  by_cases qo : opn d s a
  · refine Grt_ex0 vd _ (up1 (fun _ => 100000) a.toNat (if s = 0 then tk d a else 0)) ⟨fun k hk => ?_, fun _ => ?_, fun g hg k hk => ?_⟩ (Nat.lt_succ_self _)
    · unfold up1; split
      · split <;> omega
      · dsimp only; omega
    · rw [up1_eq]; exact Int.le_refl _
    · unfold up1; split
      · rename_i e; rw [e]; exact hg.2.1 qo
      · exact hg.1 k hk
  · refine Grt_ex0 vd _ (fun _ => 100000) ⟨fun k hk => by dsimp only; omega, fun o => absurd o qo, fun g hg k hk => hg.1 k hk⟩ (Nat.lt_succ_self _)
theorem gD_Grt {d : Nat → Int} (vd : Vd d) {s a : Int} (ha : 0 ≤ a ∧ a ≤ 63) : Grt d s a (gD d s a) := by
  have hx := Grt_ex vd (s := s) ha
  have e : gD d s a = Classical.choose hx := by
    unfold gD
    rw [dif_pos hx]
  rw [e]
  exact Classical.choose_spec hx
/-- rock lets one through everywhere -/
theorem D_step {d : Nat → Int} (vd : Vd d) {a : Int} {f : Nat → Int} (h : Grt d 0 a f) {c w : Nat} (hc : c < 64) (hw : w < 4) (hb : 0 ≤ bsd c w) : f (bsd c w).toNat ≤ f c + 9 := by
  have br := bsd_rng (c := c) (w := w) (by omega) (by omega)
  have := h.2 c w hc hw hb (Or.inl rfl)
  have := wgt_rng vd (s := 0) hb br.2
  omega
theorem D_to0 {d : Nat → Int} (vd : Vd d) {a : Int} {f : Nat → Int} (h : Grt d 0 a f) : ∀ n c : Nat, c < 64 → c / 8 + c % 8 = n → f 0 ≤ f c + 9 * n
  | 0, c, hc, e => by
    have : c = 0 := by omega
    subst this
    omega
  | n + 1, c, hc, e => by
    by_cases q : 8 ≤ c
    · have b : bsd c (0 : Nat) = (c : Int) - 8 := by unfold bsd; rw [if_pos (by omega), if_pos (by omega)]
      have s := D_step vd h (w := 0) hc (by omega) (by rw [b]; omega)
      rw [b] at s
      have i := D_to0 vd h n (c - 8) (by omega) (by omega)
      rw [show ((c : Int) - 8).toNat = c - 8 by omega] at s
      omega
    · have b : bsd c (3 : Nat) = (c : Int) - 1 := by
        unfold bsd
        rw [if_neg (by omega), if_neg (by omega), if_neg (by omega), if_pos (by omega), if_pos (by omega)]
      have s := D_step vd h (w := 3) hc (by omega) (by rw [b]; omega)
      rw [b] at s
      have i := D_to0 vd h n (c - 1) (by omega) (by omega)
      rw [show ((c : Int) - 1).toNat = c - 1 by omega] at s
      omega
theorem D_of0 {d : Nat → Int} (vd : Vd d) {a : Int} {f : Nat → Int} (h : Grt d 0 a f) : ∀ n c : Nat, c < 64 → c / 8 + c % 8 = n → f c ≤ f 0 + 9 * n
  | 0, c, hc, e => by
    have : c = 0 := by omega
    subst this
    omega
  | n + 1, c, hc, e => by
    by_cases q : 8 ≤ c
    · have b : bsd (c - 8 : Nat) (2 : Nat) = (c : Int) := by
        unfold bsd
        rw [if_neg (by omega), if_neg (by omega), if_pos (by omega), if_pos (by omega)]
        omega
      have s := D_step vd h (c := c - 8) (w := 2) (by omega) (by omega) (by rw [b]; omega)
      rw [b] at s
      have i := D_of0 vd h n (c - 8) (by omega) (by omega)
      rw [show ((c : Int)).toNat = c by omega] at s
      omega
    · have b : bsd (c - 1 : Nat) (1 : Nat) = (c : Int) := by
        unfold bsd
        rw [if_neg (by omega), if_pos (by omega), if_pos (by omega)]
        omega
      have s := D_step vd h (c := c - 1) (w := 1) (by omega) (by omega) (by rw [b]; omega)
      rw [b] at s
      have i := D_of0 vd h n (c - 1) (by omega) (by omega)
      rw [show ((c : Int)).toNat = c by omega] at s
      omega
theorem D_le {d : Nat → Int} (vd : Vd d) {a : Int} (ha : 0 ≤ a ∧ a ≤ 63) {f : Nat → Int} (h : Grt d 0 a f) {b : Nat} (hb : b < 64) : f b ≤ 300 := by
  have t := tk_rng vd ha.1 ha.2
  have b0 := h.1.2.1 (Or.inl rfl)
  rw [if_pos rfl] at b0
  have h1 := D_to0 vd h _ a.toNat (by omega) rfl
  have h2 := D_of0 vd h _ b hb rfl
  omega
def B_wtoll (c : Int) (M : Nat → Nat → Int) (post : Option ZV → (Nat → Nat → Int) → Prop) : Prop := (0 ≤ c ∧ c ≤ 63) ∧ ∃ d : Nat → Int, HR 2 M d ∧ Vd d ∧ post (some (.inl (tk d c))) M
def C_wtoll : ZC := fun as h post => match as with
  | [.inr (.inr (.inl 70)), .inl c] => h.1 = zG ∧ B_wtoll c h.2 (fun v M => post v (zG, M))
  | _ => False
theorem r_wtoll {c : Int} {M : Nat → Nat → Int} {post : Option ZV → ZH → Prop} : C_wtoll [.inr (.inr (.inl 70)), .inl c] (zG, M) post = B_wtoll c M (fun v M => post v (zG, M)) := by show (zG = zG ∧ _) = _; simp
def ct_wtoll : Nat → ZC := fun n => fun _ _ _ => False
theorem c_wtoll {E : ZE} {d : Nat} (hd : 1 ≤ d) : zMet E d mX9_toll C_wtoll := by
  refine zmet_of (o := 9) (ini := false) (CT := ct_wtoll) gd_X9_toll rfl (fun h => by cases h) (by omega) ?_ ?_
  · intro n as h post hh
    unfold ct_wtoll at hh
    exact hh.elim
  intro as h post hC
  match as, hC with
  | [.inr (.inr (.inl 70)), .inl c], hC =>
    refine ⟨Nat.le_of_ble_eq_true rfl, fun X hX => bs_X9_toll_0 hX ?_⟩
    obtain ⟨G, M⟩ := h
    obtain ⟨hG, hC⟩ := hC
    dsimp only at hG
    subst hG
    simp only [B_wtoll] at hC
    show bk_X9_toll_0 E ct_wtoll X _ [some (.inr (.inr (.inl 70))), some (.inl c)] [] (zG, M) (0, 0)
    obtain ⟨hc, d9, H, vd, hC⟩ := hC
    have zc9 : zr c = c := zr_of (by omega) (by omega)
    have e1 : M 4 c.toNat = d9 (70 + c).toNat := by rw [H.2.1 c.toNat (by omega), show (70 + c).toNat = 70 + c.toNat by omega]
    have e2 : M 3 c.toNat = d9 (6 + c).toNat := by rw [H.1 c.toNat (by omega), show (6 + c).toNat = 6 + c.toNat by omega]
    have bd := vd.2.2.2.2.2.2.1 (70 + c).toNat (by omega) (by omega)
    have zd : zr (d9 (70 + c).toNat) = d9 (70 + c).toNat := zr_of (by omega) (by omega)
    unfold tk at hC
    simp only [bk_X9_toll_0, k_X9_toll_0, bk_X9_toll_17, k_X9_toll_17, bk_X9_toll_26, k_X9_toll_26, ↓e_rk1, ↓e_rk0, ↓e_sk0, ↓e_sks, ↓e_ldi0, ↓e_ldis, ↓e_ldl0, ↓e_ldls, ↓e_lda0, ↓e_ldas, ↓e_ok0, ↓e_okss, ↓e_ok1i, ↓e_ok1r, ↓e_ok1n, ↓e_sti, ↓e_sta, ↓e_1, ↓e_2, ↓e_l1, ↓e_l2, ↓e_li, ↓e_sw0, ↓e_sws, ↓e_ceq, ↓e_cne, ↓e_clt, ↓e_cge, ↓e_cgt, ↓e_cle, ↓e_nil, ↓e_cons, ↓e_iconst, ↓e_bipush, ↓e_sipush, ↓e_ldc, ↓e_ldcw, ↓e_ldc2, ↓e_lconst, ↓e_iloadn, ↓e_iload, ↓e_lloadn, ↓e_lload, ↓e_aloadn, ↓e_aload, ↓e_istoren, ↓e_istore, ↓e_astoren, ↓e_astore, ↓e_add, ↓e_iinc, ↓e_iadd, ↓e_isub, ↓e_imul, ↓e_iand, ↓e_ior, ↓e_ixor, ↓e_ishl, ↓e_iushr, ↓e_idiv, ↓e_irem, ↓e_ineg, ↓e_i2l, ↓e_i2b, ↓e_i2s, ↓e_l2i, ↓e_land, ↓e_lor, ↓e_lshl, ↓e_lshr, ↓e_lushr, ↓e_lcmp, ↓e_dupi, ↓e_dupr, ↓e_popi, ↓e_dup2, ↓e_goto, ↓e_if, ↓e_icmp, ↓e_tsw, ↓e_lsw, ↓e_getf, ↓e_putf, ↓e_gets, ↓e_iald, ↓e_cald, ↓e_iast, ↓e_aald, ↓e_aast, ↓e_len, ↓e_copy, ↓e_abs, ↓e_max, ↓e_min, ↓e_iret, ↓e_aret, ↓e_vret, ↓e_is0, ↓e_is1, ↓e_is2, ↓e_is3, ↓e_is4, ↓e_iv1, ↓e_iv2, ↓e_iv3, ↓e_iv4, ↓e_iv5, ↓e_iv6, ↓rt_X9_toll, ↓reduceIte, Nat.reduceAdd, Nat.reduceEqDiff, ↓zcl0, ↓zclv, List.map_nil, List.sum_nil, List.map_cons, List.sum_cons, zcat, true_and, and_true, Nat.reduceLeDiff, Nat.reduceAdd, eq_self, forall_const, e_ok0, e_okss, e_ok1i, e_ok1r, e_ok1n, zl_0, zl_1, Int.reduceToNat, Int.reduceAdd, Int.reduceMul, Int.reduceSub, Int.reduceNeg, Int.reduceLT, Int.reduceLE, Int.reduceEq, not_false_eq_true, not_true_eq_false, false_implies, true_implies, implies_true, Int.reduceDiv, Int.reduceMod, zr8_zr, zr_zbo, z01_zbo, z01_0, z01_1, zbo_eq0, zup_eq, zup_o, zup_k, ne_eq, ↓v_70, ↓g_70_0, ↓g_70_1, ↓l_71, ↓s_71, ↓n_71, ↓g_70_2, ↓l_72, ↓s_72, ↓n_72, ↓g_70_3, ↓l_73, ↓s_73, ↓n_73, ↓v_2, ↓g_2_0, ↓l_3, ↓s_3, ↓n_3, ↓g_2_1, ↓l_4, ↓s_4, ↓n_4, ↓g_2_2, ↓l_5, ↓s_5, ↓n_5, ↓g_2_3, ↓l_6, ↓s_6, ↓n_6, ↓g_2_4, ↓l_7, ↓s_7, ↓n_7, ↓g_2_5, ↓l_8, ↓s_8, ↓n_8, ↓g_2_6, ↓l_9, ↓s_9, ↓n_9, ↓g_2_7, ↓p_2_7, ↓g_2_8, ↓p_2_8, ↓g_2_9, ↓p_2_9, zc9, e1, e2, zd]
    repeat' (first | assumption | apply And.intro | intro _)
    all_goals first | omega | (refine zpost hC ?_; split <;> first | rfl | contradiction)
def chp (f st : Nat → Int) (n : Nat) (b : Int) (l : Int) : Prop := (b = -1 ∧ l = 1000000 ∧ ∀ k, k < n → st k = 0 → ¬ f k < 1000000) ∨ (0 ≤ b ∧ b < n ∧ st b.toNat = 0 ∧ f b.toNat = l ∧ l < 1000000 ∧ ∀ k, k < n → st k = 0 → l ≤ f k)
def B_wcheap (M : Nat → Nat → Int) (post : Option ZV → (Nat → Nat → Int) → Prop) : Prop := (∀ k, k < 64 → (0 ≤ M 71 k ∧ M 71 k ≤ 1000000) ∧ (M 72 k = 0 ∨ M 72 k = 1)) ∧ ∀ b l : Int, chp (M 71) (M 72) 64 b l → post (some (.inl b)) M
def C_wcheap : ZC := fun as h post => match as with
  | [.inr (.inr (.inl 70))] => h.1 = zG ∧ B_wcheap h.2 (fun v M => post v (zG, M))
  | _ => False
theorem r_wcheap {M : Nat → Nat → Int} {post : Option ZV → ZH → Prop} : C_wcheap [.inr (.inr (.inl 70))] (zG, M) post = B_wcheap M (fun v M => post v (zG, M)) := by show (zG = zG ∧ _) = _; simp
def ct_wcheap : Nat → ZC := fun n => fun _ _ _ => False
theorem c_wcheap {E : ZE} {d : Nat} (hd : 1 ≤ d) : zMet E d mX9_cheapest C_wcheap := by
  refine zmet_of (o := 9) (ini := false) (CT := ct_wcheap) gd_X9_cheapest rfl (fun h => by cases h) (by omega) ?_ ?_
  · intro n as h post hh
    unfold ct_wcheap at hh
    exact hh.elim
  intro as h post hC
  match as, hC with
  | [.inr (.inr (.inl 70))], hC =>
    refine ⟨Nat.le_of_ble_eq_true rfl, fun X hX => bs_X9_cheapest_0 hX ?_⟩
    obtain ⟨G, M⟩ := h
    obtain ⟨hG, hC⟩ := hC
    dsimp only at hG
    subst hG
    simp only [B_wcheap] at hC
    show bk_X9_cheapest_0 E ct_wcheap X _ [some (.inr (.inr (.inl 70))), none, none, none] [] (zG, M) (0, 0)
    obtain ⟨hb, hC⟩ := hC
    have lp : ∀ (j k : Nat) (b l : Int), j + k = 64 → chp (M 71) (M 72) k b l → X 7 [some (.inr (.inr (.inl 70))), some (.inl b), some (.inl l), some (.inl ((k : Int)))] [] (zG, M) (0, 0) := by
      intro j
      induction j with
      | zero =>
        intro k b l hk h9
        have ek : k = 64 := by omega
        subst ek
        refine bs_X9_cheapest_7 hX ?_
        have zk : zr ((64 : Nat) : Int) = 64 := rfl
        simp only [bk_X9_cheapest_0, k_X9_cheapest_0, bk_X9_cheapest_7, k_X9_cheapest_7, bk_X9_cheapest_13, k_X9_cheapest_13, bk_X9_cheapest_22, k_X9_cheapest_22, bk_X9_cheapest_41, k_X9_cheapest_41, bk_X9_cheapest_47, k_X9_cheapest_47, ↓e_rk1, ↓e_rk0, ↓e_sk0, ↓e_sks, ↓e_ldi0, ↓e_ldis, ↓e_ldl0, ↓e_ldls, ↓e_lda0, ↓e_ldas, ↓e_ok0, ↓e_okss, ↓e_ok1i, ↓e_ok1r, ↓e_ok1n, ↓e_sti, ↓e_sta, ↓e_1, ↓e_2, ↓e_l1, ↓e_l2, ↓e_li, ↓e_sw0, ↓e_sws, ↓e_ceq, ↓e_cne, ↓e_clt, ↓e_cge, ↓e_cgt, ↓e_cle, ↓e_nil, ↓e_cons, ↓e_iconst, ↓e_bipush, ↓e_sipush, ↓e_ldc, ↓e_ldcw, ↓e_ldc2, ↓e_lconst, ↓e_iloadn, ↓e_iload, ↓e_lloadn, ↓e_lload, ↓e_aloadn, ↓e_aload, ↓e_istoren, ↓e_istore, ↓e_astoren, ↓e_astore, ↓e_add, ↓e_iinc, ↓e_iadd, ↓e_isub, ↓e_imul, ↓e_iand, ↓e_ior, ↓e_ixor, ↓e_ishl, ↓e_iushr, ↓e_idiv, ↓e_irem, ↓e_ineg, ↓e_i2l, ↓e_i2b, ↓e_i2s, ↓e_l2i, ↓e_land, ↓e_lor, ↓e_lshl, ↓e_lshr, ↓e_lushr, ↓e_lcmp, ↓e_dupi, ↓e_dupr, ↓e_popi, ↓e_dup2, ↓e_goto, ↓e_if, ↓e_icmp, ↓e_tsw, ↓e_lsw, ↓e_getf, ↓e_putf, ↓e_gets, ↓e_iald, ↓e_cald, ↓e_iast, ↓e_aald, ↓e_aast, ↓e_len, ↓e_copy, ↓e_abs, ↓e_max, ↓e_min, ↓e_iret, ↓e_aret, ↓e_vret, ↓e_is0, ↓e_is1, ↓e_is2, ↓e_is3, ↓e_is4, ↓e_iv1, ↓e_iv2, ↓e_iv3, ↓e_iv4, ↓e_iv5, ↓e_iv6, ↓rt_X9_cheapest, ↓reduceIte, Nat.reduceAdd, Nat.reduceEqDiff, ↓zcl0, ↓zclv, List.map_nil, List.sum_nil, List.map_cons, List.sum_cons, zcat, true_and, and_true, Nat.reduceLeDiff, Nat.reduceAdd, eq_self, forall_const, e_ok0, e_okss, e_ok1i, e_ok1r, e_ok1n, zl_m1, zl_0, zl_64, zl_1000000, Int.reduceToNat, Int.reduceAdd, Int.reduceMul, Int.reduceSub, Int.reduceNeg, Int.reduceLT, Int.reduceLE, Int.reduceEq, not_false_eq_true, not_true_eq_false, false_implies, true_implies, implies_true, Int.reduceDiv, Int.reduceMod, zr8_zr, zr_zbo, z01_zbo, z01_0, z01_1, zbo_eq0, zup_eq, zup_o, zup_k, ne_eq, ↓v_70, ↓g_70_0, ↓g_70_1, ↓l_71, ↓s_71, ↓n_71, ↓g_70_2, ↓l_72, ↓s_72, ↓n_72, ↓g_70_3, ↓l_73, ↓s_73, ↓n_73, zk]
        refine bs_X9_cheapest_47 hX ?_
        simp only [bk_X9_cheapest_0, k_X9_cheapest_0, bk_X9_cheapest_7, k_X9_cheapest_7, bk_X9_cheapest_13, k_X9_cheapest_13, bk_X9_cheapest_22, k_X9_cheapest_22, bk_X9_cheapest_41, k_X9_cheapest_41, bk_X9_cheapest_47, k_X9_cheapest_47, ↓e_rk1, ↓e_rk0, ↓e_sk0, ↓e_sks, ↓e_ldi0, ↓e_ldis, ↓e_ldl0, ↓e_ldls, ↓e_lda0, ↓e_ldas, ↓e_ok0, ↓e_okss, ↓e_ok1i, ↓e_ok1r, ↓e_ok1n, ↓e_sti, ↓e_sta, ↓e_1, ↓e_2, ↓e_l1, ↓e_l2, ↓e_li, ↓e_sw0, ↓e_sws, ↓e_ceq, ↓e_cne, ↓e_clt, ↓e_cge, ↓e_cgt, ↓e_cle, ↓e_nil, ↓e_cons, ↓e_iconst, ↓e_bipush, ↓e_sipush, ↓e_ldc, ↓e_ldcw, ↓e_ldc2, ↓e_lconst, ↓e_iloadn, ↓e_iload, ↓e_lloadn, ↓e_lload, ↓e_aloadn, ↓e_aload, ↓e_istoren, ↓e_istore, ↓e_astoren, ↓e_astore, ↓e_add, ↓e_iinc, ↓e_iadd, ↓e_isub, ↓e_imul, ↓e_iand, ↓e_ior, ↓e_ixor, ↓e_ishl, ↓e_iushr, ↓e_idiv, ↓e_irem, ↓e_ineg, ↓e_i2l, ↓e_i2b, ↓e_i2s, ↓e_l2i, ↓e_land, ↓e_lor, ↓e_lshl, ↓e_lshr, ↓e_lushr, ↓e_lcmp, ↓e_dupi, ↓e_dupr, ↓e_popi, ↓e_dup2, ↓e_goto, ↓e_if, ↓e_icmp, ↓e_tsw, ↓e_lsw, ↓e_getf, ↓e_putf, ↓e_gets, ↓e_iald, ↓e_cald, ↓e_iast, ↓e_aald, ↓e_aast, ↓e_len, ↓e_copy, ↓e_abs, ↓e_max, ↓e_min, ↓e_iret, ↓e_aret, ↓e_vret, ↓e_is0, ↓e_is1, ↓e_is2, ↓e_is3, ↓e_is4, ↓e_iv1, ↓e_iv2, ↓e_iv3, ↓e_iv4, ↓e_iv5, ↓e_iv6, ↓rt_X9_cheapest, ↓reduceIte, Nat.reduceAdd, Nat.reduceEqDiff, ↓zcl0, ↓zclv, List.map_nil, List.sum_nil, List.map_cons, List.sum_cons, zcat, true_and, and_true, Nat.reduceLeDiff, Nat.reduceAdd, eq_self, forall_const, e_ok0, e_okss, e_ok1i, e_ok1r, e_ok1n, zl_m1, zl_0, zl_64, zl_1000000, Int.reduceToNat, Int.reduceAdd, Int.reduceMul, Int.reduceSub, Int.reduceNeg, Int.reduceLT, Int.reduceLE, Int.reduceEq, not_false_eq_true, not_true_eq_false, false_implies, true_implies, implies_true, Int.reduceDiv, Int.reduceMod, zr8_zr, zr_zbo, z01_zbo, z01_0, z01_1, zbo_eq0, zup_eq, zup_o, zup_k, ne_eq, ↓v_70, ↓g_70_0, ↓g_70_1, ↓l_71, ↓s_71, ↓n_71, ↓g_70_2, ↓l_72, ↓s_72, ↓n_72, ↓g_70_3, ↓l_73, ↓s_73, ↓n_73]
        exact hC b l h9
      | succ j ih =>
        intro k b l hk h9
        have zk : zr (k : Int) = k := zr_of (by omega) (by omega)
        have lk : ((k : Int) < 64) = True := eq_true (by omega)
        obtain ⟨f1, f2⟩ := hb k (by omega)
        have lr : 0 ≤ l ∧ l ≤ 1000000 := by
          rcases h9 with ⟨_, e, _⟩ | ⟨a1, a2, _, e, _, _⟩
          · omega
          · have := hb b.toNat (by omega)
            omega
        have zf : zr (M 71 k) = M 71 k := zr_of (by omega) (by omega)
        have zs : zr (M 72 k) = M 72 k := zr_of (by omega) (by omega)
        have zl : zr l = l := zr_of (by omega) (by omega)
        have J41 : ∀ b9 l9 : Int, chp (M 71) (M 72) (k + 1) b9 l9 → X 41 [some (.inr (.inr (.inl 70))), some (.inl b9), some (.inl l9), some (.inl ((k : Int)))] [] (zG, M) (0, 0) := by
          intro b9 l9 h8
          refine bs_X9_cheapest_41 hX ?_
          simp only [bk_X9_cheapest_0, k_X9_cheapest_0, bk_X9_cheapest_7, k_X9_cheapest_7, bk_X9_cheapest_13, k_X9_cheapest_13, bk_X9_cheapest_22, k_X9_cheapest_22, bk_X9_cheapest_41, k_X9_cheapest_41, bk_X9_cheapest_47, k_X9_cheapest_47, ↓e_rk1, ↓e_rk0, ↓e_sk0, ↓e_sks, ↓e_ldi0, ↓e_ldis, ↓e_ldl0, ↓e_ldls, ↓e_lda0, ↓e_ldas, ↓e_ok0, ↓e_okss, ↓e_ok1i, ↓e_ok1r, ↓e_ok1n, ↓e_sti, ↓e_sta, ↓e_1, ↓e_2, ↓e_l1, ↓e_l2, ↓e_li, ↓e_sw0, ↓e_sws, ↓e_ceq, ↓e_cne, ↓e_clt, ↓e_cge, ↓e_cgt, ↓e_cle, ↓e_nil, ↓e_cons, ↓e_iconst, ↓e_bipush, ↓e_sipush, ↓e_ldc, ↓e_ldcw, ↓e_ldc2, ↓e_lconst, ↓e_iloadn, ↓e_iload, ↓e_lloadn, ↓e_lload, ↓e_aloadn, ↓e_aload, ↓e_istoren, ↓e_istore, ↓e_astoren, ↓e_astore, ↓e_add, ↓e_iinc, ↓e_iadd, ↓e_isub, ↓e_imul, ↓e_iand, ↓e_ior, ↓e_ixor, ↓e_ishl, ↓e_iushr, ↓e_idiv, ↓e_irem, ↓e_ineg, ↓e_i2l, ↓e_i2b, ↓e_i2s, ↓e_l2i, ↓e_land, ↓e_lor, ↓e_lshl, ↓e_lshr, ↓e_lushr, ↓e_lcmp, ↓e_dupi, ↓e_dupr, ↓e_popi, ↓e_dup2, ↓e_goto, ↓e_if, ↓e_icmp, ↓e_tsw, ↓e_lsw, ↓e_getf, ↓e_putf, ↓e_gets, ↓e_iald, ↓e_cald, ↓e_iast, ↓e_aald, ↓e_aast, ↓e_len, ↓e_copy, ↓e_abs, ↓e_max, ↓e_min, ↓e_iret, ↓e_aret, ↓e_vret, ↓e_is0, ↓e_is1, ↓e_is2, ↓e_is3, ↓e_is4, ↓e_iv1, ↓e_iv2, ↓e_iv3, ↓e_iv4, ↓e_iv5, ↓e_iv6, ↓rt_X9_cheapest, ↓reduceIte, Nat.reduceAdd, Nat.reduceEqDiff, ↓zcl0, ↓zclv, List.map_nil, List.sum_nil, List.map_cons, List.sum_cons, zcat, true_and, and_true, Nat.reduceLeDiff, Nat.reduceAdd, eq_self, forall_const, e_ok0, e_okss, e_ok1i, e_ok1r, e_ok1n, zl_m1, zl_0, zl_64, zl_1000000, Int.reduceToNat, Int.reduceAdd, Int.reduceMul, Int.reduceSub, Int.reduceNeg, Int.reduceLT, Int.reduceLE, Int.reduceEq, not_false_eq_true, not_true_eq_false, false_implies, true_implies, implies_true, Int.reduceDiv, Int.reduceMod, zr8_zr, zr_zbo, z01_zbo, z01_0, z01_1, zbo_eq0, zup_eq, zup_o, zup_k, ne_eq, ↓v_70, ↓g_70_0, ↓g_70_1, ↓l_71, ↓s_71, ↓n_71, ↓g_70_2, ↓l_72, ↓s_72, ↓n_72, ↓g_70_3, ↓l_73, ↓s_73, ↓n_73]
          exact ih (k + 1) b9 l9 (by omega) h8
        have keep : ¬ (M 72 k = 0 ∧ M 71 k < l) → chp (M 71) (M 72) (k + 1) b l := by
          intro q
          rcases h9 with ⟨e1, e2, e3⟩ | ⟨a1, a2, a3, a4, a5, a6⟩
          · refine Or.inl ⟨e1, e2, fun i hi hs => ?_⟩
            by_cases qi : i = k
            · subst qi; omega
            · exact e3 i (by omega) hs
          · refine Or.inr ⟨a1, by omega, a3, a4, a5, fun i hi hs => ?_⟩
            by_cases qi : i = k
            · subst qi; omega
            · exact a6 i (by omega) hs
        have take : M 72 k = 0 → M 71 k < l → chp (M 71) (M 72) (k + 1) k (M 71 k) := by
          intro q1 q2
          refine Or.inr ⟨by omega, by omega, q1, rfl, by omega, fun i hi hs => ?_⟩
          by_cases qi : i = k
          · subst qi; omega
          · rcases h9 with ⟨e1, e2, e3⟩ | ⟨a1, a2, a3, a4, a5, a6⟩
            · have := e3 i (by omega) hs
              omega
            · have := a6 i (by omega) hs
              omega
        refine bs_X9_cheapest_7 hX ?_
        simp only [bk_X9_cheapest_0, k_X9_cheapest_0, bk_X9_cheapest_7, k_X9_cheapest_7, bk_X9_cheapest_13, k_X9_cheapest_13, bk_X9_cheapest_22, k_X9_cheapest_22, bk_X9_cheapest_41, k_X9_cheapest_41, bk_X9_cheapest_47, k_X9_cheapest_47, ↓e_rk1, ↓e_rk0, ↓e_sk0, ↓e_sks, ↓e_ldi0, ↓e_ldis, ↓e_ldl0, ↓e_ldls, ↓e_lda0, ↓e_ldas, ↓e_ok0, ↓e_okss, ↓e_ok1i, ↓e_ok1r, ↓e_ok1n, ↓e_sti, ↓e_sta, ↓e_1, ↓e_2, ↓e_l1, ↓e_l2, ↓e_li, ↓e_sw0, ↓e_sws, ↓e_ceq, ↓e_cne, ↓e_clt, ↓e_cge, ↓e_cgt, ↓e_cle, ↓e_nil, ↓e_cons, ↓e_iconst, ↓e_bipush, ↓e_sipush, ↓e_ldc, ↓e_ldcw, ↓e_ldc2, ↓e_lconst, ↓e_iloadn, ↓e_iload, ↓e_lloadn, ↓e_lload, ↓e_aloadn, ↓e_aload, ↓e_istoren, ↓e_istore, ↓e_astoren, ↓e_astore, ↓e_add, ↓e_iinc, ↓e_iadd, ↓e_isub, ↓e_imul, ↓e_iand, ↓e_ior, ↓e_ixor, ↓e_ishl, ↓e_iushr, ↓e_idiv, ↓e_irem, ↓e_ineg, ↓e_i2l, ↓e_i2b, ↓e_i2s, ↓e_l2i, ↓e_land, ↓e_lor, ↓e_lshl, ↓e_lshr, ↓e_lushr, ↓e_lcmp, ↓e_dupi, ↓e_dupr, ↓e_popi, ↓e_dup2, ↓e_goto, ↓e_if, ↓e_icmp, ↓e_tsw, ↓e_lsw, ↓e_getf, ↓e_putf, ↓e_gets, ↓e_iald, ↓e_cald, ↓e_iast, ↓e_aald, ↓e_aast, ↓e_len, ↓e_copy, ↓e_abs, ↓e_max, ↓e_min, ↓e_iret, ↓e_aret, ↓e_vret, ↓e_is0, ↓e_is1, ↓e_is2, ↓e_is3, ↓e_is4, ↓e_iv1, ↓e_iv2, ↓e_iv3, ↓e_iv4, ↓e_iv5, ↓e_iv6, ↓rt_X9_cheapest, ↓reduceIte, Nat.reduceAdd, Nat.reduceEqDiff, ↓zcl0, ↓zclv, List.map_nil, List.sum_nil, List.map_cons, List.sum_cons, zcat, true_and, and_true, Nat.reduceLeDiff, Nat.reduceAdd, eq_self, forall_const, e_ok0, e_okss, e_ok1i, e_ok1r, e_ok1n, zl_m1, zl_0, zl_64, zl_1000000, Int.reduceToNat, Int.reduceAdd, Int.reduceMul, Int.reduceSub, Int.reduceNeg, Int.reduceLT, Int.reduceLE, Int.reduceEq, not_false_eq_true, not_true_eq_false, false_implies, true_implies, implies_true, Int.reduceDiv, Int.reduceMod, zr8_zr, zr_zbo, z01_zbo, z01_0, z01_1, zbo_eq0, zup_eq, zup_o, zup_k, ne_eq, ↓v_70, ↓g_70_0, ↓g_70_1, ↓l_71, ↓s_71, ↓n_71, ↓g_70_2, ↓l_72, ↓s_72, ↓n_72, ↓g_70_3, ↓l_73, ↓s_73, ↓n_73, zk, lk]
        refine bs_X9_cheapest_13 hX ?_
        simp only [bk_X9_cheapest_0, k_X9_cheapest_0, bk_X9_cheapest_7, k_X9_cheapest_7, bk_X9_cheapest_13, k_X9_cheapest_13, bk_X9_cheapest_22, k_X9_cheapest_22, bk_X9_cheapest_41, k_X9_cheapest_41, bk_X9_cheapest_47, k_X9_cheapest_47, ↓e_rk1, ↓e_rk0, ↓e_sk0, ↓e_sks, ↓e_ldi0, ↓e_ldis, ↓e_ldl0, ↓e_ldls, ↓e_lda0, ↓e_ldas, ↓e_ok0, ↓e_okss, ↓e_ok1i, ↓e_ok1r, ↓e_ok1n, ↓e_sti, ↓e_sta, ↓e_1, ↓e_2, ↓e_l1, ↓e_l2, ↓e_li, ↓e_sw0, ↓e_sws, ↓e_ceq, ↓e_cne, ↓e_clt, ↓e_cge, ↓e_cgt, ↓e_cle, ↓e_nil, ↓e_cons, ↓e_iconst, ↓e_bipush, ↓e_sipush, ↓e_ldc, ↓e_ldcw, ↓e_ldc2, ↓e_lconst, ↓e_iloadn, ↓e_iload, ↓e_lloadn, ↓e_lload, ↓e_aloadn, ↓e_aload, ↓e_istoren, ↓e_istore, ↓e_astoren, ↓e_astore, ↓e_add, ↓e_iinc, ↓e_iadd, ↓e_isub, ↓e_imul, ↓e_iand, ↓e_ior, ↓e_ixor, ↓e_ishl, ↓e_iushr, ↓e_idiv, ↓e_irem, ↓e_ineg, ↓e_i2l, ↓e_i2b, ↓e_i2s, ↓e_l2i, ↓e_land, ↓e_lor, ↓e_lshl, ↓e_lshr, ↓e_lushr, ↓e_lcmp, ↓e_dupi, ↓e_dupr, ↓e_popi, ↓e_dup2, ↓e_goto, ↓e_if, ↓e_icmp, ↓e_tsw, ↓e_lsw, ↓e_getf, ↓e_putf, ↓e_gets, ↓e_iald, ↓e_cald, ↓e_iast, ↓e_aald, ↓e_aast, ↓e_len, ↓e_copy, ↓e_abs, ↓e_max, ↓e_min, ↓e_iret, ↓e_aret, ↓e_vret, ↓e_is0, ↓e_is1, ↓e_is2, ↓e_is3, ↓e_is4, ↓e_iv1, ↓e_iv2, ↓e_iv3, ↓e_iv4, ↓e_iv5, ↓e_iv6, ↓rt_X9_cheapest, ↓reduceIte, Nat.reduceAdd, Nat.reduceEqDiff, ↓zcl0, ↓zclv, List.map_nil, List.sum_nil, List.map_cons, List.sum_cons, zcat, true_and, and_true, Nat.reduceLeDiff, Nat.reduceAdd, eq_self, forall_const, e_ok0, e_okss, e_ok1i, e_ok1r, e_ok1n, zl_m1, zl_0, zl_64, zl_1000000, Int.reduceToNat, Int.reduceAdd, Int.reduceMul, Int.reduceSub, Int.reduceNeg, Int.reduceLT, Int.reduceLE, Int.reduceEq, not_false_eq_true, not_true_eq_false, false_implies, true_implies, implies_true, Int.reduceDiv, Int.reduceMod, zr8_zr, zr_zbo, z01_zbo, z01_0, z01_1, zbo_eq0, zup_eq, zup_o, zup_k, ne_eq, ↓v_70, ↓g_70_0, ↓g_70_1, ↓l_71, ↓s_71, ↓n_71, ↓g_70_2, ↓l_72, ↓s_72, ↓n_72, ↓g_70_3, ↓l_73, ↓s_73, ↓n_73, zk, Int.toNat_natCast, zs]
        have J22 : M 72 k = 0 → X 22 [some (.inr (.inr (.inl 70))), some (.inl b), some (.inl l), some (.inl ((k : Int)))] [] (zG, M) (0, 0) := by
          intro q1
          refine bs_X9_cheapest_22 hX ?_
          simp only [bk_X9_cheapest_0, k_X9_cheapest_0, bk_X9_cheapest_7, k_X9_cheapest_7, bk_X9_cheapest_13, k_X9_cheapest_13, bk_X9_cheapest_22, k_X9_cheapest_22, bk_X9_cheapest_41, k_X9_cheapest_41, bk_X9_cheapest_47, k_X9_cheapest_47, ↓e_rk1, ↓e_rk0, ↓e_sk0, ↓e_sks, ↓e_ldi0, ↓e_ldis, ↓e_ldl0, ↓e_ldls, ↓e_lda0, ↓e_ldas, ↓e_ok0, ↓e_okss, ↓e_ok1i, ↓e_ok1r, ↓e_ok1n, ↓e_sti, ↓e_sta, ↓e_1, ↓e_2, ↓e_l1, ↓e_l2, ↓e_li, ↓e_sw0, ↓e_sws, ↓e_ceq, ↓e_cne, ↓e_clt, ↓e_cge, ↓e_cgt, ↓e_cle, ↓e_nil, ↓e_cons, ↓e_iconst, ↓e_bipush, ↓e_sipush, ↓e_ldc, ↓e_ldcw, ↓e_ldc2, ↓e_lconst, ↓e_iloadn, ↓e_iload, ↓e_lloadn, ↓e_lload, ↓e_aloadn, ↓e_aload, ↓e_istoren, ↓e_istore, ↓e_astoren, ↓e_astore, ↓e_add, ↓e_iinc, ↓e_iadd, ↓e_isub, ↓e_imul, ↓e_iand, ↓e_ior, ↓e_ixor, ↓e_ishl, ↓e_iushr, ↓e_idiv, ↓e_irem, ↓e_ineg, ↓e_i2l, ↓e_i2b, ↓e_i2s, ↓e_l2i, ↓e_land, ↓e_lor, ↓e_lshl, ↓e_lshr, ↓e_lushr, ↓e_lcmp, ↓e_dupi, ↓e_dupr, ↓e_popi, ↓e_dup2, ↓e_goto, ↓e_if, ↓e_icmp, ↓e_tsw, ↓e_lsw, ↓e_getf, ↓e_putf, ↓e_gets, ↓e_iald, ↓e_cald, ↓e_iast, ↓e_aald, ↓e_aast, ↓e_len, ↓e_copy, ↓e_abs, ↓e_max, ↓e_min, ↓e_iret, ↓e_aret, ↓e_vret, ↓e_is0, ↓e_is1, ↓e_is2, ↓e_is3, ↓e_is4, ↓e_iv1, ↓e_iv2, ↓e_iv3, ↓e_iv4, ↓e_iv5, ↓e_iv6, ↓rt_X9_cheapest, ↓reduceIte, Nat.reduceAdd, Nat.reduceEqDiff, ↓zcl0, ↓zclv, List.map_nil, List.sum_nil, List.map_cons, List.sum_cons, zcat, true_and, and_true, Nat.reduceLeDiff, Nat.reduceAdd, eq_self, forall_const, e_ok0, e_okss, e_ok1i, e_ok1r, e_ok1n, zl_m1, zl_0, zl_64, zl_1000000, Int.reduceToNat, Int.reduceAdd, Int.reduceMul, Int.reduceSub, Int.reduceNeg, Int.reduceLT, Int.reduceLE, Int.reduceEq, not_false_eq_true, not_true_eq_false, false_implies, true_implies, implies_true, Int.reduceDiv, Int.reduceMod, zr8_zr, zr_zbo, z01_zbo, z01_0, z01_1, zbo_eq0, zup_eq, zup_o, zup_k, ne_eq, ↓v_70, ↓g_70_0, ↓g_70_1, ↓l_71, ↓s_71, ↓n_71, ↓g_70_2, ↓l_72, ↓s_72, ↓n_72, ↓g_70_3, ↓l_73, ↓s_73, ↓n_73, zk, Int.toNat_natCast, zf, zl]
          repeat' (first | assumption | apply And.intro | intro _)
          all_goals first | omega | exact J41 _ _ (take q1 (by assumption)) | exact J41 _ _ (keep (by omega))
        repeat' (first | assumption | apply And.intro | intro _)
        all_goals first | omega | (apply J22; assumption) | exact J41 _ _ (keep (by omega))
    simp only [bk_X9_cheapest_0, k_X9_cheapest_0, bk_X9_cheapest_7, k_X9_cheapest_7, bk_X9_cheapest_13, k_X9_cheapest_13, bk_X9_cheapest_22, k_X9_cheapest_22, bk_X9_cheapest_41, k_X9_cheapest_41, bk_X9_cheapest_47, k_X9_cheapest_47, ↓e_rk1, ↓e_rk0, ↓e_sk0, ↓e_sks, ↓e_ldi0, ↓e_ldis, ↓e_ldl0, ↓e_ldls, ↓e_lda0, ↓e_ldas, ↓e_ok0, ↓e_okss, ↓e_ok1i, ↓e_ok1r, ↓e_ok1n, ↓e_sti, ↓e_sta, ↓e_1, ↓e_2, ↓e_l1, ↓e_l2, ↓e_li, ↓e_sw0, ↓e_sws, ↓e_ceq, ↓e_cne, ↓e_clt, ↓e_cge, ↓e_cgt, ↓e_cle, ↓e_nil, ↓e_cons, ↓e_iconst, ↓e_bipush, ↓e_sipush, ↓e_ldc, ↓e_ldcw, ↓e_ldc2, ↓e_lconst, ↓e_iloadn, ↓e_iload, ↓e_lloadn, ↓e_lload, ↓e_aloadn, ↓e_aload, ↓e_istoren, ↓e_istore, ↓e_astoren, ↓e_astore, ↓e_add, ↓e_iinc, ↓e_iadd, ↓e_isub, ↓e_imul, ↓e_iand, ↓e_ior, ↓e_ixor, ↓e_ishl, ↓e_iushr, ↓e_idiv, ↓e_irem, ↓e_ineg, ↓e_i2l, ↓e_i2b, ↓e_i2s, ↓e_l2i, ↓e_land, ↓e_lor, ↓e_lshl, ↓e_lshr, ↓e_lushr, ↓e_lcmp, ↓e_dupi, ↓e_dupr, ↓e_popi, ↓e_dup2, ↓e_goto, ↓e_if, ↓e_icmp, ↓e_tsw, ↓e_lsw, ↓e_getf, ↓e_putf, ↓e_gets, ↓e_iald, ↓e_cald, ↓e_iast, ↓e_aald, ↓e_aast, ↓e_len, ↓e_copy, ↓e_abs, ↓e_max, ↓e_min, ↓e_iret, ↓e_aret, ↓e_vret, ↓e_is0, ↓e_is1, ↓e_is2, ↓e_is3, ↓e_is4, ↓e_iv1, ↓e_iv2, ↓e_iv3, ↓e_iv4, ↓e_iv5, ↓e_iv6, ↓rt_X9_cheapest, ↓reduceIte, Nat.reduceAdd, Nat.reduceEqDiff, ↓zcl0, ↓zclv, List.map_nil, List.sum_nil, List.map_cons, List.sum_cons, zcat, true_and, and_true, Nat.reduceLeDiff, Nat.reduceAdd, eq_self, forall_const, e_ok0, e_okss, e_ok1i, e_ok1r, e_ok1n, zl_m1, zl_0, zl_64, zl_1000000, Int.reduceToNat, Int.reduceAdd, Int.reduceMul, Int.reduceSub, Int.reduceNeg, Int.reduceLT, Int.reduceLE, Int.reduceEq, not_false_eq_true, not_true_eq_false, false_implies, true_implies, implies_true, Int.reduceDiv, Int.reduceMod, zr8_zr, zr_zbo, z01_zbo, z01_0, z01_1, zbo_eq0, zup_eq, zup_o, zup_k, ne_eq, ↓v_70, ↓g_70_0, ↓g_70_1, ↓l_71, ↓s_71, ↓n_71, ↓g_70_2, ↓l_72, ↓s_72, ↓n_72, ↓g_70_3, ↓l_73, ↓s_73, ↓n_73]
    exact lp 64 0 (-1) 1000000 (by omega) (Or.inl ⟨rfl, rfl, fun k hk => by omega⟩)
