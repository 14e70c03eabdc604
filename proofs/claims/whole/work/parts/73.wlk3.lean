/-! THE CLASS: leastRock, join -/
def rl9 (d f : Nat → Int) (c v : Nat) : Prop := 0 ≤ bsd c v → f (bsd c v).toNat ≤ f c + tk d (bsd c v)
def DB (d : Nat → Int) (a : Int) (D f st : Nat → Int) : Prop := (∀ k, k < 64 → (0 ≤ f k ∧ f k ≤ 1000000) ∧ (st k = 0 ∨ st k = 1)) ∧ f a.toNat ≤ tk d a ∧ ∀ k, k < 64 → D k ≤ f k
def DO (d : Nat → Int) (a : Int) (D f st : Nat → Int) : Prop := DB d a D f st ∧ (∀ c u, c < 64 → u < 64 → st c = 1 → st u = 0 → f c ≤ f u) ∧ ∀ c v, c < 64 → v < 4 → st c = 1 → rl9 d f c v
def DJ (d : Nat → Int) (a : Int) (D f st : Nat → Int) (x w : Nat) : Prop := DB d a D f st ∧ st x = 1 ∧ (∀ c, c < 64 → st c = 1 → f c ≤ f x) ∧ (∀ u, u < 64 → st u = 0 → f x ≤ f u) ∧ ∀ c v, c < 64 → v < 4 → st c = 1 → (¬ c = x ∨ v < w) → rl9 d f c v
theorem DJ_no {d : Nat → Int} {a : Int} {D f st : Nat → Int} {x w : Nat} (h : DJ d a D f st x w) (hb : ¬ 0 ≤ bsd x w) : DJ d a D f st x (w + 1) := by
  obtain ⟨h1, h2, h3, h4, h5⟩ := h
  refine ⟨h1, h2, h3, h4, fun c v hc hv hs ho => ?_⟩
  by_cases q : ¬ c = x ∨ v < w
  · exact h5 c v hc hv hs q
  · have e1 : c = x := by omega
    have e2 : v = w := by omega
    subst e1; subst e2
    exact fun q0 => absurd q0 hb
theorem DJ_st {d : Nat → Int} (vd : Vd d) {a : Int} {D f st : Nat → Int} (hD : Grt d 0 a D) {x w : Nat} (hx : x < 64) (hw : w < 4) (h : DJ d a D f st x w) (hb : 0 ≤ bsd x w) {v9 : Int} (hv9 : v9 = if f x + tk d (bsd x w) < f (bsd x w).toNat then f x + tk d (bsd x w) else f (bsd x w).toNat) : DJ d a D (up1 f (bsd x w).toNat v9) st x (w + 1) := by
  obtain ⟨⟨b1, b2, b3⟩, h2, h3, h4, h5⟩ := h
  have br := bsd_rng (c := x) (w := w) (by omega) (by omega)
  have tr := tk_rng vd hb br.2
  obtain ⟨n, hn⟩ : ∃ n, (bsd x w).toNat = n := ⟨_, rfl⟩
  rw [hn] at hv9 ⊢
  have n64 : n < 64 := by omega
  have fx := b1 x hx
  have fn := b1 n n64
  have vle : v9 ≤ f n := by rw [hv9]; split <;> omega
  have vle2 : v9 ≤ f x + tk d (bsd x w) := by rw [hv9]; split <;> omega
  have v0 : 0 ≤ v9 := by rw [hv9]; split <;> omega
  have le : ∀ k, up1 f n v9 k ≤ f k := fun k => by
    unfold up1; split
    · rename_i e; rw [e]; exact vle
    · exact Int.le_refl _
  have same : ∀ c, c < 64 → st c = 1 → up1 f n v9 c = f c := fun c hc hs => by
    by_cases q : c = n
    · subst q
      rw [up1_eq, hv9]
      have := h3 c hc hs
      rw [if_neg (by omega)]
    · exact up1_ne q
  refine ⟨⟨fun k hk => ?_, Int.le_trans (le _) b2, fun k hk => ?_⟩, h2, fun c hc hs => ?_, fun u hu hs => ?_, fun c v hc hv hs ho => ?_⟩
  · by_cases q : k = n
    · subst q
      rw [up1_eq]
      exact ⟨⟨v0, by omega⟩, fn.2⟩
    · rw [up1_ne q]; exact b1 k hk
  · by_cases q : k = n
    · subst q
      rw [up1_eq, hv9]
      have l1 := b3 k hk
      have l2 := b3 x hx
      have cl := hD.2 x w hx hw hb (Or.inl rfl)
      rw [hn] at cl
      have e : wgt d 0 (bsd x w) = tk d (bsd x w) := if_pos rfl
      rw [e] at cl
      split <;> omega
    · rw [up1_ne q]; exact b3 k hk
  · rw [same c hc hs, same x hx h2]; exact h3 c hc hs
  · rw [same x hx h2]
    have := h4 u hu hs
    by_cases q : u = n
    · subst q
      rw [up1_eq, hv9]
      split <;> omega
    · rw [up1_ne q]; exact this
  · by_cases q : ¬ c = x ∨ v < w
    · intro q0
      have := h5 c v hc hv hs q q0
      rw [same c hc hs]
      exact Int.le_trans (le _) this
    · have e1 : c = x := by omega
      have e2 : v = w := by omega
      subst e1; subst e2
      intro q0
      rw [same c hc hs, hn, up1_eq]
      exact vle2
theorem DJ_end {d : Nat → Int} {a : Int} {D f st : Nat → Int} {x : Nat} (h : DJ d a D f st x 4) : DO d a D f st := by
  obtain ⟨h1, h2, h3, h4, h5⟩ := h
  refine ⟨h1, fun c u hc hu hs ht => Int.le_trans (h3 c hc hs) (h4 u hu ht), fun c v hc hv hs => h5 c v hc hv hs (Or.inr hv)⟩
theorem DJ_beg {d : Nat → Int} {a : Int} {D f st : Nat → Int} (h : DO d a D f st) {x : Nat} (hx : x < 64) (h0 : st x = 0) (hm : ∀ u, u < 64 → st u = 0 → f x ≤ f u) : DJ d a D f (up1 st x 1) x 0 := by
  obtain ⟨⟨b1, b2, b3⟩, h2, h3⟩ := h
  refine ⟨⟨fun k hk => ⟨(b1 k hk).1, ?_⟩, b2, b3⟩, up1_eq, fun c hc hs => ?_, fun u hu hs => ?_, fun c v hc hv hs ho => ?_⟩
  · by_cases q : k = x
    · subst q; rw [up1_eq]; exact Or.inr rfl
    · rw [up1_ne q]; exact (b1 k hk).2
  · by_cases q : c = x
    · subst q; exact Int.le_refl _
    · rw [up1_ne q] at hs; exact h2 c x hc hx hs h0
  · by_cases q : u = x
    · subst q; rw [up1_eq] at hs; omega
    · rw [up1_ne q] at hs; exact hm u hu hs
  · have q : ¬ c = x := by omega
    rw [up1_ne q] at hs
    exact h3 c v hc hv hs
theorem DO_end {d : Nat → Int} (vd : Vd d) {a : Int} (ha : 0 ≤ a ∧ a ≤ 63) {D f st : Nat → Int} (hD : Grt d 0 a D) (h : DO d a D f st) {b : Nat} (hb : b < 64) {p : Int} (hp : p = f b ∨ p = 1000000) (hu : ∀ u, u < 64 → st u = 0 → p ≤ f u) : f b = D b := by
  obtain ⟨⟨b1, b2, b3⟩, h2, h3⟩ := h
  have cl : Cld d 0 a (fun k => if f k < (if p < 100000 then p else 100000) then f k else (if p < 100000 then p else 100000)) := by
    refine ⟨fun k hk => ?_, fun _ => ?_, fun c w hc hw q0 _ => ?_⟩
    · dsimp only
      (repeat' split) <;> omega
    · dsimp only
      rw [if_pos (rfl : (0 : Int) = 0)]
      have t := tk_rng vd ha.1 ha.2
      (repeat' split) <;> omega
    · have br := bsd_rng (c := c) (w := w) (by omega) (by omega)
      have tr := tk_rng vd q0 br.2
      have e : wgt d 0 (bsd c w) = tk d (bsd c w) := if_pos rfl
      rw [e]
      dsimp only
      rcases (b1 c hc).2 with s0 | s1
      · have := hu c hc s0
        (repeat' split) <;> omega
      · have := h3 c w hc hw s1 q0
        (repeat' split) <;> omega
  have g := hD.1.2.2 _ cl b hb
  have l := D_le vd ha hD hb
  have m := b3 b hb
  have fb := b1 b hb
  (repeat' split at g) <;> omega
theorem sm_all {f : Nat → Int} : ∀ n : Nat, (∀ k, k < n → f k = 0 ∨ f k = 1) → sm f n ≤ n ∧ (sm f n = n → ∀ k, k < n → f k = 1)
  | 0, _ => ⟨by simp [sm], fun _ k hk => by omega⟩
  | n + 1, h => by
    obtain ⟨i1, i2⟩ := sm_all n (fun k hk => h k (by omega))
    have hn := h n (by omega)
    simp only [sm]
    refine ⟨by omega, fun e k hk => ?_⟩
    by_cases q : k = n
    · subst q; omega
    · exact i2 (by omega) k (by omega)
def B_wleast (a : Int) (b : Int) (M : Nat → Nat → Int) (post : Option ZV → (Nat → Nat → Int) → Prop) : Prop := (0 ≤ a ∧ a ≤ 63) ∧ (0 ≤ b ∧ b ≤ 63) ∧ ∃ d : Nat → Int, HR 2 M d ∧ Vd d ∧ ∀ M2 : ZMm, (∀ x, ¬ x = 71 → ¬ x = 72 → M2 x = M x) → post (some (.inl (gD d 0 a b.toNat))) M2
def C_wleast : ZC := fun as h post => match as with
  | [.inr (.inr (.inl 70)), .inl a, .inl b] => h.1 = zG ∧ B_wleast a b h.2 (fun v M => post v (zG, M))
  | _ => False
theorem r_wleast {a : Int} {b : Int} {M : Nat → Nat → Int} {post : Option ZV → ZH → Prop} : C_wleast [.inr (.inr (.inl 70)), .inl a, .inl b] (zG, M) post = B_wleast a b M (fun v M => post v (zG, M)) := by show (zG = zG ∧ _) = _; simp
def ct_wleast : Nat → ZC := fun n => if n = 223 then C_fill else if n = 57 then C_wtoll else if n = 58 then C_wcheap else if n = 16 then C_hbeside else fun _ _ _ => False
theorem ct_wleast_fill {as : List ZV} {h : ZH} {post : Option ZV → ZH → Prop} : ct_wleast 223 as h post = C_fill as h post := rfl
theorem ct_wleast_wtoll {as : List ZV} {h : ZH} {post : Option ZV → ZH → Prop} : ct_wleast 57 as h post = C_wtoll as h post := rfl
theorem ct_wleast_wcheap {as : List ZV} {h : ZH} {post : Option ZV → ZH → Prop} : ct_wleast 58 as h post = C_wcheap as h post := rfl
theorem ct_wleast_hbeside {as : List ZV} {h : ZH} {post : Option ZV → ZH → Prop} : ct_wleast 16 as h post = C_hbeside as h post := rfl
theorem c_wleast {E : ZE} {d : Nat} (hd : 2 ≤ d) : zMet E d mX9_leastRock C_wleast := by
  refine zmet_of (o := 9) (ini := false) (CT := ct_wleast) gd_X9_leastRock rfl (fun h => by cases h) (by omega) ?_ ?_
  · intro n as h post hh
    unfold ct_wleast at hh
    by_cases c : n = 223
    · subst c; exact ⟨gd_J7_fill_53178, 1, by omega, c_fill (by omega)⟩
    rw [if_neg c] at hh
    by_cases c : n = 57
    · subst c; exact ⟨gd_X9_toll, 1, by omega, c_wtoll (by omega)⟩
    rw [if_neg c] at hh
    by_cases c : n = 58
    · subst c; exact ⟨gd_X9_cheapest, 1, by omega, c_wcheap (by omega)⟩
    rw [if_neg c] at hh
    by_cases c : n = 16
    · subst c; exact ⟨gd_X2_beside, 1, by omega, c_hbeside (by omega)⟩
    rw [if_neg c] at hh
    exact hh.elim
  intro as h post hC
  match as, hC with
  | [.inr (.inr (.inl 70)), .inl a, .inl b], hC =>
    refine ⟨Nat.le_of_ble_eq_true rfl, fun X hX => bs_X9_leastRock_0 hX ?_⟩
    obtain ⟨G, M⟩ := h
    obtain ⟨hG, hC⟩ := hC
    dsimp only at hG
    subst hG
    simp only [B_wleast] at hC
    show bk_X9_leastRock_0 E ct_wleast X _ [some (.inr (.inr (.inl 70))), some (.inl a), some (.inl b), none, none, none, none] [] (zG, M) (0, 0)
    obtain ⟨ha, hb, d9, H, vd, hC⟩ := hC
    have hD := gD_Grt vd (s := 0) ha
    obtain ⟨D, eD⟩ : ∃ D, gD d9 0 a = D := ⟨_, rfl⟩
    rw [eD] at hC hD
    have za : zr a = a := zr_of (by omega) (by omega)
    have zb : zr b = b := zr_of (by omega) (by omega)
    have hr2 : ∀ M' : ZMm, (∀ x, ¬ x = 71 → ¬ x = 72 → M' x = M x) → HR 2 M' d9 := fun M' f => HR_cg H (fun x p q => f x (by omega) (by omega)) (fun _ _ => rfl)
    have J132 : ∀ (M' : ZMm) (x3 : Int) (x4 x5 x6 : Option ZV), M' 71 b.toNat = D b.toNat → (∀ x, ¬ x = 71 → ¬ x = 72 → M' x = M x) → X 132 [some (.inr (.inr (.inl 70))), some (.inl a), some (.inl b), some (.inl x3), x4, x5, x6] [] (zG, M') (0, 0) := by
      intro M' x3 x4 x5 x6 e f
      refine bs_X9_leastRock_132 hX ?_
      simp only [bk_X9_leastRock_0, k_X9_leastRock_0, bk_X9_leastRock_9, k_X9_leastRock_9, bk_X9_leastRock_17, k_X9_leastRock_17, bk_X9_leastRock_28, k_X9_leastRock_28, bk_X9_leastRock_30, k_X9_leastRock_30, bk_X9_leastRock_36, k_X9_leastRock_36, bk_X9_leastRock_42, k_X9_leastRock_42, bk_X9_leastRock_57, k_X9_leastRock_57, bk_X9_leastRock_65, k_X9_leastRock_65, bk_X9_leastRock_68, k_X9_leastRock_68, bk_X9_leastRock_74, k_X9_leastRock_74, bk_X9_leastRock_83, k_X9_leastRock_83, bk_X9_leastRock_89, k_X9_leastRock_89, bk_X9_leastRock_120, k_X9_leastRock_120, bk_X9_leastRock_126, k_X9_leastRock_126, bk_X9_leastRock_132, k_X9_leastRock_132, ↓e_rk1, ↓e_rk0, ↓e_sk0, ↓e_sks, ↓e_ldi0, ↓e_ldis, ↓e_ldl0, ↓e_ldls, ↓e_lda0, ↓e_ldas, ↓e_ok0, ↓e_okss, ↓e_ok1i, ↓e_ok1r, ↓e_ok1n, ↓e_sti, ↓e_sta, ↓e_1, ↓e_2, ↓e_l1, ↓e_l2, ↓e_li, ↓e_sw0, ↓e_sws, ↓e_ceq, ↓e_cne, ↓e_clt, ↓e_cge, ↓e_cgt, ↓e_cle, ↓e_nil, ↓e_cons, ↓e_iconst, ↓e_bipush, ↓e_sipush, ↓e_ldc, ↓e_ldcw, ↓e_ldc2, ↓e_lconst, ↓e_iloadn, ↓e_iload, ↓e_lloadn, ↓e_lload, ↓e_aloadn, ↓e_aload, ↓e_istoren, ↓e_istore, ↓e_astoren, ↓e_astore, ↓e_add, ↓e_iinc, ↓e_iadd, ↓e_isub, ↓e_imul, ↓e_iand, ↓e_ior, ↓e_ixor, ↓e_ishl, ↓e_iushr, ↓e_idiv, ↓e_irem, ↓e_ineg, ↓e_i2l, ↓e_i2b, ↓e_i2s, ↓e_l2i, ↓e_land, ↓e_lor, ↓e_lshl, ↓e_lshr, ↓e_lushr, ↓e_lcmp, ↓e_dupi, ↓e_dupr, ↓e_popi, ↓e_dup2, ↓e_goto, ↓e_if, ↓e_icmp, ↓e_tsw, ↓e_lsw, ↓e_getf, ↓e_putf, ↓e_gets, ↓e_iald, ↓e_cald, ↓e_iast, ↓e_aald, ↓e_aast, ↓e_len, ↓e_copy, ↓e_abs, ↓e_max, ↓e_min, ↓e_iret, ↓e_aret, ↓e_vret, ↓e_is0, ↓e_is1, ↓e_is2, ↓e_is3, ↓e_is4, ↓e_iv1, ↓e_iv2, ↓e_iv3, ↓e_iv4, ↓e_iv5, ↓e_iv6, ↓rt_X9_leastRock, ↓reduceIte, Nat.reduceAdd, Nat.reduceEqDiff, ↓zcl0, ↓zclv, List.map_nil, List.sum_nil, List.map_cons, List.sum_cons, zcat, true_and, and_true, Nat.reduceLeDiff, Nat.reduceAdd, eq_self, forall_const, e_ok0, e_okss, e_ok1i, e_ok1r, e_ok1n, zl_m1, zl_0, zl_1, zl_4, zl_64, zl_1000000, Int.reduceToNat, Int.reduceAdd, Int.reduceMul, Int.reduceSub, Int.reduceNeg, Int.reduceLT, Int.reduceLE, Int.reduceEq, not_false_eq_true, not_true_eq_false, false_implies, true_implies, implies_true, Int.reduceDiv, Int.reduceMod, zr8_zr, zr_zbo, z01_zbo, z01_0, z01_1, zbo_eq0, zup_eq, zup_o, zup_k, ne_eq, ↓ct_wleast_fill, ↓r_fill, ↓B_fill, ↓ct_wleast_wtoll, ↓r_wtoll, ↓B_wtoll, ↓ct_wleast_wcheap, ↓r_wcheap, ↓B_wcheap, ↓ct_wleast_hbeside, ↓r_hbeside, ↓B_hbeside, ↓v_70, ↓g_70_0, ↓g_70_1, ↓l_71, ↓s_71, ↓n_71, ↓g_70_2, ↓l_72, ↓s_72, ↓n_72, ↓g_70_3, ↓l_73, ↓s_73, ↓n_73, zb, e]
      exact ⟨by omega, by omega, hC M' f⟩
    have lp : ∀ (j i : Nat) (M' : ZMm) (x4 x5 x6 : Option ZV), j + i = 64 → DO d9 a D (M' 71) (M' 72) → sm (M' 72) 64 = i → (∀ x, ¬ x = 71 → ¬ x = 72 → M' x = M x) → X 30 [some (.inr (.inr (.inl 70))), some (.inl a), some (.inl b), some (.inl ((i : Int))), x4, x5, x6] [] (zG, M') (0, 0) := by
      intro j
      induction j with
      | zero =>
        intro i M' x4 x5 x6 hi h9 hs f
        refine bs_X9_leastRock_30 hX ?_
        have ei9 : i = 64 := by omega
        subst ei9
        have zi : zr ((64 : Nat) : Int) = 64 := rfl
        simp only [bk_X9_leastRock_0, k_X9_leastRock_0, bk_X9_leastRock_9, k_X9_leastRock_9, bk_X9_leastRock_17, k_X9_leastRock_17, bk_X9_leastRock_28, k_X9_leastRock_28, bk_X9_leastRock_30, k_X9_leastRock_30, bk_X9_leastRock_36, k_X9_leastRock_36, bk_X9_leastRock_42, k_X9_leastRock_42, bk_X9_leastRock_57, k_X9_leastRock_57, bk_X9_leastRock_65, k_X9_leastRock_65, bk_X9_leastRock_68, k_X9_leastRock_68, bk_X9_leastRock_74, k_X9_leastRock_74, bk_X9_leastRock_83, k_X9_leastRock_83, bk_X9_leastRock_89, k_X9_leastRock_89, bk_X9_leastRock_120, k_X9_leastRock_120, bk_X9_leastRock_126, k_X9_leastRock_126, bk_X9_leastRock_132, k_X9_leastRock_132, ↓e_rk1, ↓e_rk0, ↓e_sk0, ↓e_sks, ↓e_ldi0, ↓e_ldis, ↓e_ldl0, ↓e_ldls, ↓e_lda0, ↓e_ldas, ↓e_ok0, ↓e_okss, ↓e_ok1i, ↓e_ok1r, ↓e_ok1n, ↓e_sti, ↓e_sta, ↓e_1, ↓e_2, ↓e_l1, ↓e_l2, ↓e_li, ↓e_sw0, ↓e_sws, ↓e_ceq, ↓e_cne, ↓e_clt, ↓e_cge, ↓e_cgt, ↓e_cle, ↓e_nil, ↓e_cons, ↓e_iconst, ↓e_bipush, ↓e_sipush, ↓e_ldc, ↓e_ldcw, ↓e_ldc2, ↓e_lconst, ↓e_iloadn, ↓e_iload, ↓e_lloadn, ↓e_lload, ↓e_aloadn, ↓e_aload, ↓e_istoren, ↓e_istore, ↓e_astoren, ↓e_astore, ↓e_add, ↓e_iinc, ↓e_iadd, ↓e_isub, ↓e_imul, ↓e_iand, ↓e_ior, ↓e_ixor, ↓e_ishl, ↓e_iushr, ↓e_idiv, ↓e_irem, ↓e_ineg, ↓e_i2l, ↓e_i2b, ↓e_i2s, ↓e_l2i, ↓e_land, ↓e_lor, ↓e_lshl, ↓e_lshr, ↓e_lushr, ↓e_lcmp, ↓e_dupi, ↓e_dupr, ↓e_popi, ↓e_dup2, ↓e_goto, ↓e_if, ↓e_icmp, ↓e_tsw, ↓e_lsw, ↓e_getf, ↓e_putf, ↓e_gets, ↓e_iald, ↓e_cald, ↓e_iast, ↓e_aald, ↓e_aast, ↓e_len, ↓e_copy, ↓e_abs, ↓e_max, ↓e_min, ↓e_iret, ↓e_aret, ↓e_vret, ↓e_is0, ↓e_is1, ↓e_is2, ↓e_is3, ↓e_is4, ↓e_iv1, ↓e_iv2, ↓e_iv3, ↓e_iv4, ↓e_iv5, ↓e_iv6, ↓rt_X9_leastRock, ↓reduceIte, Nat.reduceAdd, Nat.reduceEqDiff, ↓zcl0, ↓zclv, List.map_nil, List.sum_nil, List.map_cons, List.sum_cons, zcat, true_and, and_true, Nat.reduceLeDiff, Nat.reduceAdd, eq_self, forall_const, e_ok0, e_okss, e_ok1i, e_ok1r, e_ok1n, zl_m1, zl_0, zl_1, zl_4, zl_64, zl_1000000, Int.reduceToNat, Int.reduceAdd, Int.reduceMul, Int.reduceSub, Int.reduceNeg, Int.reduceLT, Int.reduceLE, Int.reduceEq, not_false_eq_true, not_true_eq_false, false_implies, true_implies, implies_true, Int.reduceDiv, Int.reduceMod, zr8_zr, zr_zbo, z01_zbo, z01_0, z01_1, zbo_eq0, zup_eq, zup_o, zup_k, ne_eq, ↓ct_wleast_fill, ↓r_fill, ↓B_fill, ↓ct_wleast_wtoll, ↓r_wtoll, ↓B_wtoll, ↓ct_wleast_wcheap, ↓r_wcheap, ↓B_wcheap, ↓ct_wleast_hbeside, ↓r_hbeside, ↓B_hbeside, ↓v_70, ↓g_70_0, ↓g_70_1, ↓l_71, ↓s_71, ↓n_71, ↓g_70_2, ↓l_72, ↓s_72, ↓n_72, ↓g_70_3, ↓l_73, ↓s_73, ↓n_73, zi]
        refine J132 M' _ _ _ _ ?_ f
        have al := (sm_all 64 (fun k hk => (h9.1.1 k hk).2)).2 hs
        exact DO_end vd ha hD h9 (by omega) (p := 1000000) (Or.inr rfl) (fun u hu h0 => by have := al u hu; omega)
      | succ j ih =>
        intro i M' x4 x5 x6 hi h9 hs f
        refine bs_X9_leastRock_30 hX ?_
        have zi : zr (i : Int) = i := zr_of (by omega) (by omega)
        have li : ((i : Int) < 64) = True := eq_true (by omega)
        simp only [bk_X9_leastRock_0, k_X9_leastRock_0, bk_X9_leastRock_9, k_X9_leastRock_9, bk_X9_leastRock_17, k_X9_leastRock_17, bk_X9_leastRock_28, k_X9_leastRock_28, bk_X9_leastRock_30, k_X9_leastRock_30, bk_X9_leastRock_36, k_X9_leastRock_36, bk_X9_leastRock_42, k_X9_leastRock_42, bk_X9_leastRock_57, k_X9_leastRock_57, bk_X9_leastRock_65, k_X9_leastRock_65, bk_X9_leastRock_68, k_X9_leastRock_68, bk_X9_leastRock_74, k_X9_leastRock_74, bk_X9_leastRock_83, k_X9_leastRock_83, bk_X9_leastRock_89, k_X9_leastRock_89, bk_X9_leastRock_120, k_X9_leastRock_120, bk_X9_leastRock_126, k_X9_leastRock_126, bk_X9_leastRock_132, k_X9_leastRock_132, ↓e_rk1, ↓e_rk0, ↓e_sk0, ↓e_sks, ↓e_ldi0, ↓e_ldis, ↓e_ldl0, ↓e_ldls, ↓e_lda0, ↓e_ldas, ↓e_ok0, ↓e_okss, ↓e_ok1i, ↓e_ok1r, ↓e_ok1n, ↓e_sti, ↓e_sta, ↓e_1, ↓e_2, ↓e_l1, ↓e_l2, ↓e_li, ↓e_sw0, ↓e_sws, ↓e_ceq, ↓e_cne, ↓e_clt, ↓e_cge, ↓e_cgt, ↓e_cle, ↓e_nil, ↓e_cons, ↓e_iconst, ↓e_bipush, ↓e_sipush, ↓e_ldc, ↓e_ldcw, ↓e_ldc2, ↓e_lconst, ↓e_iloadn, ↓e_iload, ↓e_lloadn, ↓e_lload, ↓e_aloadn, ↓e_aload, ↓e_istoren, ↓e_istore, ↓e_astoren, ↓e_astore, ↓e_add, ↓e_iinc, ↓e_iadd, ↓e_isub, ↓e_imul, ↓e_iand, ↓e_ior, ↓e_ixor, ↓e_ishl, ↓e_iushr, ↓e_idiv, ↓e_irem, ↓e_ineg, ↓e_i2l, ↓e_i2b, ↓e_i2s, ↓e_l2i, ↓e_land, ↓e_lor, ↓e_lshl, ↓e_lshr, ↓e_lushr, ↓e_lcmp, ↓e_dupi, ↓e_dupr, ↓e_popi, ↓e_dup2, ↓e_goto, ↓e_if, ↓e_icmp, ↓e_tsw, ↓e_lsw, ↓e_getf, ↓e_putf, ↓e_gets, ↓e_iald, ↓e_cald, ↓e_iast, ↓e_aald, ↓e_aast, ↓e_len, ↓e_copy, ↓e_abs, ↓e_max, ↓e_min, ↓e_iret, ↓e_aret, ↓e_vret, ↓e_is0, ↓e_is1, ↓e_is2, ↓e_is3, ↓e_is4, ↓e_iv1, ↓e_iv2, ↓e_iv3, ↓e_iv4, ↓e_iv5, ↓e_iv6, ↓rt_X9_leastRock, ↓reduceIte, Nat.reduceAdd, Nat.reduceEqDiff, ↓zcl0, ↓zclv, List.map_nil, List.sum_nil, List.map_cons, List.sum_cons, zcat, true_and, and_true, Nat.reduceLeDiff, Nat.reduceAdd, eq_self, forall_const, e_ok0, e_okss, e_ok1i, e_ok1r, e_ok1n, zl_m1, zl_0, zl_1, zl_4, zl_64, zl_1000000, Int.reduceToNat, Int.reduceAdd, Int.reduceMul, Int.reduceSub, Int.reduceNeg, Int.reduceLT, Int.reduceLE, Int.reduceEq, not_false_eq_true, not_true_eq_false, false_implies, true_implies, implies_true, Int.reduceDiv, Int.reduceMod, zr8_zr, zr_zbo, z01_zbo, z01_0, z01_1, zbo_eq0, zup_eq, zup_o, zup_k, ne_eq, ↓ct_wleast_fill, ↓r_fill, ↓B_fill, ↓ct_wleast_wtoll, ↓r_wtoll, ↓B_wtoll, ↓ct_wleast_wcheap, ↓r_wcheap, ↓B_wcheap, ↓ct_wleast_hbeside, ↓r_hbeside, ↓B_hbeside, ↓v_70, ↓g_70_0, ↓g_70_1, ↓l_71, ↓s_71, ↓n_71, ↓g_70_2, ↓l_72, ↓s_72, ↓n_72, ↓g_70_3, ↓l_73, ↓s_73, ↓n_73, zi, li]
        refine bs_X9_leastRock_36 hX ?_
        simp only [bk_X9_leastRock_0, k_X9_leastRock_0, bk_X9_leastRock_9, k_X9_leastRock_9, bk_X9_leastRock_17, k_X9_leastRock_17, bk_X9_leastRock_28, k_X9_leastRock_28, bk_X9_leastRock_30, k_X9_leastRock_30, bk_X9_leastRock_36, k_X9_leastRock_36, bk_X9_leastRock_42, k_X9_leastRock_42, bk_X9_leastRock_57, k_X9_leastRock_57, bk_X9_leastRock_65, k_X9_leastRock_65, bk_X9_leastRock_68, k_X9_leastRock_68, bk_X9_leastRock_74, k_X9_leastRock_74, bk_X9_leastRock_83, k_X9_leastRock_83, bk_X9_leastRock_89, k_X9_leastRock_89, bk_X9_leastRock_120, k_X9_leastRock_120, bk_X9_leastRock_126, k_X9_leastRock_126, bk_X9_leastRock_132, k_X9_leastRock_132, ↓e_rk1, ↓e_rk0, ↓e_sk0, ↓e_sks, ↓e_ldi0, ↓e_ldis, ↓e_ldl0, ↓e_ldls, ↓e_lda0, ↓e_ldas, ↓e_ok0, ↓e_okss, ↓e_ok1i, ↓e_ok1r, ↓e_ok1n, ↓e_sti, ↓e_sta, ↓e_1, ↓e_2, ↓e_l1, ↓e_l2, ↓e_li, ↓e_sw0, ↓e_sws, ↓e_ceq, ↓e_cne, ↓e_clt, ↓e_cge, ↓e_cgt, ↓e_cle, ↓e_nil, ↓e_cons, ↓e_iconst, ↓e_bipush, ↓e_sipush, ↓e_ldc, ↓e_ldcw, ↓e_ldc2, ↓e_lconst, ↓e_iloadn, ↓e_iload, ↓e_lloadn, ↓e_lload, ↓e_aloadn, ↓e_aload, ↓e_istoren, ↓e_istore, ↓e_astoren, ↓e_astore, ↓e_add, ↓e_iinc, ↓e_iadd, ↓e_isub, ↓e_imul, ↓e_iand, ↓e_ior, ↓e_ixor, ↓e_ishl, ↓e_iushr, ↓e_idiv, ↓e_irem, ↓e_ineg, ↓e_i2l, ↓e_i2b, ↓e_i2s, ↓e_l2i, ↓e_land, ↓e_lor, ↓e_lshl, ↓e_lshr, ↓e_lushr, ↓e_lcmp, ↓e_dupi, ↓e_dupr, ↓e_popi, ↓e_dup2, ↓e_goto, ↓e_if, ↓e_icmp, ↓e_tsw, ↓e_lsw, ↓e_getf, ↓e_putf, ↓e_gets, ↓e_iald, ↓e_cald, ↓e_iast, ↓e_aald, ↓e_aast, ↓e_len, ↓e_copy, ↓e_abs, ↓e_max, ↓e_min, ↓e_iret, ↓e_aret, ↓e_vret, ↓e_is0, ↓e_is1, ↓e_is2, ↓e_is3, ↓e_is4, ↓e_iv1, ↓e_iv2, ↓e_iv3, ↓e_iv4, ↓e_iv5, ↓e_iv6, ↓rt_X9_leastRock, ↓reduceIte, Nat.reduceAdd, Nat.reduceEqDiff, ↓zcl0, ↓zclv, List.map_nil, List.sum_nil, List.map_cons, List.sum_cons, zcat, true_and, and_true, Nat.reduceLeDiff, Nat.reduceAdd, eq_self, forall_const, e_ok0, e_okss, e_ok1i, e_ok1r, e_ok1n, zl_m1, zl_0, zl_1, zl_4, zl_64, zl_1000000, Int.reduceToNat, Int.reduceAdd, Int.reduceMul, Int.reduceSub, Int.reduceNeg, Int.reduceLT, Int.reduceLE, Int.reduceEq, not_false_eq_true, not_true_eq_false, false_implies, true_implies, implies_true, Int.reduceDiv, Int.reduceMod, zr8_zr, zr_zbo, z01_zbo, z01_0, z01_1, zbo_eq0, zup_eq, zup_o, zup_k, ne_eq, ↓ct_wleast_fill, ↓r_fill, ↓B_fill, ↓ct_wleast_wtoll, ↓r_wtoll, ↓B_wtoll, ↓ct_wleast_wcheap, ↓r_wcheap, ↓B_wcheap, ↓ct_wleast_hbeside, ↓r_hbeside, ↓B_hbeside, ↓v_70, ↓g_70_0, ↓g_70_1, ↓l_71, ↓s_71, ↓n_71, ↓g_70_2, ↓l_72, ↓s_72, ↓n_72, ↓g_70_3, ↓l_73, ↓s_73, ↓n_73]
        refine ⟨h9.1.1, fun x9 l9 hx9 => ?_⟩
        have xr : -1 ≤ x9 ∧ x9 ≤ 63 := by
          rcases hx9 with ⟨e, _⟩ | ⟨e1, e2, _⟩ <;> omega
        have zx : zr x9 = x9 := zr_of (by omega) (by omega)
        refine bs_X9_leastRock_42 hX ?_
        have cN : x9 = -1 → M' 71 b.toNat = D b.toNat := by
          intro e
          rcases hx9 with ⟨_, _, e3⟩ | ⟨e1, _⟩
          · exact DO_end vd ha hD h9 (by omega) (p := 1000000) (Or.inr rfl) (fun u hu h0 => by have := e3 u hu h0; omega)
          · omega
        have cB : x9 = b → M' 71 b.toNat = D b.toNat := by
          intro e
          rcases hx9 with ⟨e1, _⟩ | ⟨e1, e2, e3, e4, e5, e6⟩
          · omega
          · subst e
            exact DO_end vd ha hD h9 (by omega) (p := l9) (Or.inl e4.symm) e6
        have J57 : ¬ x9 = -1 → X 57 [some (.inr (.inr (.inl 70))), some (.inl a), some (.inl b), some (.inl ((i : Int))), some (.inl x9), x5, x6] [] (zG, M') (0, 0) := by
          intro ne
          obtain ⟨e1, e2, e3, e4, e5, e6⟩ : 0 ≤ x9 ∧ x9 < 64 ∧ M' 72 x9.toNat = 0 ∧ M' 71 x9.toNat = l9 ∧ l9 < 1000000 ∧ ∀ k, k < 64 → M' 72 k = 0 → l9 ≤ M' 71 k := by
            rcases hx9 with ⟨e, _⟩ | h8
            · exact absurd e ne
            · exact h8
          obtain ⟨xn, hxn⟩ : ∃ n : Nat, x9 = n := ⟨x9.toNat, by omega⟩
          have xt : x9.toNat = xn := by omega
          rw [xt] at e3 e4
          have dj := DJ_beg h9 (x := xn) (by omega) e3 (fun u hu h0 => by rw [e4]; exact e6 u hu h0)
          have sn : sm (up1 (M' 72) xn 1) 64 = (i : Int) + 1 := by
            rw [sm_up, if_pos (by omega), e3, hs]
            omega
          have J126 : ∀ (M3 : ZMm) (x5 x6 : Option ZV), DJ d9 a D (M3 71) (M3 72) xn 4 → sm (M3 72) 64 = (i : Int) + 1 → (∀ x, ¬ x = 71 → ¬ x = 72 → M3 x = M x) → X 126 [some (.inr (.inr (.inl 70))), some (.inl a), some (.inl b), some (.inl ((i : Int))), some (.inl x9), x5, x6] [] (zG, M3) (0, 0) := by
            intro M3 x5 x6 h8 s8 f8
            refine bs_X9_leastRock_126 hX ?_
            simp only [bk_X9_leastRock_0, k_X9_leastRock_0, bk_X9_leastRock_9, k_X9_leastRock_9, bk_X9_leastRock_17, k_X9_leastRock_17, bk_X9_leastRock_28, k_X9_leastRock_28, bk_X9_leastRock_30, k_X9_leastRock_30, bk_X9_leastRock_36, k_X9_leastRock_36, bk_X9_leastRock_42, k_X9_leastRock_42, bk_X9_leastRock_57, k_X9_leastRock_57, bk_X9_leastRock_65, k_X9_leastRock_65, bk_X9_leastRock_68, k_X9_leastRock_68, bk_X9_leastRock_74, k_X9_leastRock_74, bk_X9_leastRock_83, k_X9_leastRock_83, bk_X9_leastRock_89, k_X9_leastRock_89, bk_X9_leastRock_120, k_X9_leastRock_120, bk_X9_leastRock_126, k_X9_leastRock_126, bk_X9_leastRock_132, k_X9_leastRock_132, ↓e_rk1, ↓e_rk0, ↓e_sk0, ↓e_sks, ↓e_ldi0, ↓e_ldis, ↓e_ldl0, ↓e_ldls, ↓e_lda0, ↓e_ldas, ↓e_ok0, ↓e_okss, ↓e_ok1i, ↓e_ok1r, ↓e_ok1n, ↓e_sti, ↓e_sta, ↓e_1, ↓e_2, ↓e_l1, ↓e_l2, ↓e_li, ↓e_sw0, ↓e_sws, ↓e_ceq, ↓e_cne, ↓e_clt, ↓e_cge, ↓e_cgt, ↓e_cle, ↓e_nil, ↓e_cons, ↓e_iconst, ↓e_bipush, ↓e_sipush, ↓e_ldc, ↓e_ldcw, ↓e_ldc2, ↓e_lconst, ↓e_iloadn, ↓e_iload, ↓e_lloadn, ↓e_lload, ↓e_aloadn, ↓e_aload, ↓e_istoren, ↓e_istore, ↓e_astoren, ↓e_astore, ↓e_add, ↓e_iinc, ↓e_iadd, ↓e_isub, ↓e_imul, ↓e_iand, ↓e_ior, ↓e_ixor, ↓e_ishl, ↓e_iushr, ↓e_idiv, ↓e_irem, ↓e_ineg, ↓e_i2l, ↓e_i2b, ↓e_i2s, ↓e_l2i, ↓e_land, ↓e_lor, ↓e_lshl, ↓e_lshr, ↓e_lushr, ↓e_lcmp, ↓e_dupi, ↓e_dupr, ↓e_popi, ↓e_dup2, ↓e_goto, ↓e_if, ↓e_icmp, ↓e_tsw, ↓e_lsw, ↓e_getf, ↓e_putf, ↓e_gets, ↓e_iald, ↓e_cald, ↓e_iast, ↓e_aald, ↓e_aast, ↓e_len, ↓e_copy, ↓e_abs, ↓e_max, ↓e_min, ↓e_iret, ↓e_aret, ↓e_vret, ↓e_is0, ↓e_is1, ↓e_is2, ↓e_is3, ↓e_is4, ↓e_iv1, ↓e_iv2, ↓e_iv3, ↓e_iv4, ↓e_iv5, ↓e_iv6, ↓rt_X9_leastRock, ↓reduceIte, Nat.reduceAdd, Nat.reduceEqDiff, ↓zcl0, ↓zclv, List.map_nil, List.sum_nil, List.map_cons, List.sum_cons, zcat, true_and, and_true, Nat.reduceLeDiff, Nat.reduceAdd, eq_self, forall_const, e_ok0, e_okss, e_ok1i, e_ok1r, e_ok1n, zl_m1, zl_0, zl_1, zl_4, zl_64, zl_1000000, Int.reduceToNat, Int.reduceAdd, Int.reduceMul, Int.reduceSub, Int.reduceNeg, Int.reduceLT, Int.reduceLE, Int.reduceEq, not_false_eq_true, not_true_eq_false, false_implies, true_implies, implies_true, Int.reduceDiv, Int.reduceMod, zr8_zr, zr_zbo, z01_zbo, z01_0, z01_1, zbo_eq0, zup_eq, zup_o, zup_k, ne_eq, ↓ct_wleast_fill, ↓r_fill, ↓B_fill, ↓ct_wleast_wtoll, ↓r_wtoll, ↓B_wtoll, ↓ct_wleast_wcheap, ↓r_wcheap, ↓B_wcheap, ↓ct_wleast_hbeside, ↓r_hbeside, ↓B_hbeside, ↓v_70, ↓g_70_0, ↓g_70_1, ↓l_71, ↓s_71, ↓n_71, ↓g_70_2, ↓l_72, ↓s_72, ↓n_72, ↓g_70_3, ↓l_73, ↓s_73, ↓n_73]
            exact ih (i + 1) M3 _ _ _ (by omega) (DJ_end h8) (by rw [s8]; omega) f8
          have lpw : ∀ (t w : Nat) (M3 : ZMm) (x6 : Option ZV), t + w = 4 → DJ d9 a D (M3 71) (M3 72) xn w → sm (M3 72) 64 = (i : Int) + 1 → (∀ x, ¬ x = 71 → ¬ x = 72 → M3 x = M x) → X 68 [some (.inr (.inr (.inl 70))), some (.inl a), some (.inl b), some (.inl ((i : Int))), some (.inl x9), some (.inl ((w : Int))), x6] [] (zG, M3) (0, 0) := by
            intro t
            induction t with
            | zero =>
              intro w M3 x6 ht h8 s8 f8
              have ew : w = 4 := by omega
              subst ew
              refine bs_X9_leastRock_68 hX ?_
              have zw : zr ((4 : Nat) : Int) = 4 := rfl
              simp only [bk_X9_leastRock_0, k_X9_leastRock_0, bk_X9_leastRock_9, k_X9_leastRock_9, bk_X9_leastRock_17, k_X9_leastRock_17, bk_X9_leastRock_28, k_X9_leastRock_28, bk_X9_leastRock_30, k_X9_leastRock_30, bk_X9_leastRock_36, k_X9_leastRock_36, bk_X9_leastRock_42, k_X9_leastRock_42, bk_X9_leastRock_57, k_X9_leastRock_57, bk_X9_leastRock_65, k_X9_leastRock_65, bk_X9_leastRock_68, k_X9_leastRock_68, bk_X9_leastRock_74, k_X9_leastRock_74, bk_X9_leastRock_83, k_X9_leastRock_83, bk_X9_leastRock_89, k_X9_leastRock_89, bk_X9_leastRock_120, k_X9_leastRock_120, bk_X9_leastRock_126, k_X9_leastRock_126, bk_X9_leastRock_132, k_X9_leastRock_132, ↓e_rk1, ↓e_rk0, ↓e_sk0, ↓e_sks, ↓e_ldi0, ↓e_ldis, ↓e_ldl0, ↓e_ldls, ↓e_lda0, ↓e_ldas, ↓e_ok0, ↓e_okss, ↓e_ok1i, ↓e_ok1r, ↓e_ok1n, ↓e_sti, ↓e_sta, ↓e_1, ↓e_2, ↓e_l1, ↓e_l2, ↓e_li, ↓e_sw0, ↓e_sws, ↓e_ceq, ↓e_cne, ↓e_clt, ↓e_cge, ↓e_cgt, ↓e_cle, ↓e_nil, ↓e_cons, ↓e_iconst, ↓e_bipush, ↓e_sipush, ↓e_ldc, ↓e_ldcw, ↓e_ldc2, ↓e_lconst, ↓e_iloadn, ↓e_iload, ↓e_lloadn, ↓e_lload, ↓e_aloadn, ↓e_aload, ↓e_istoren, ↓e_istore, ↓e_astoren, ↓e_astore, ↓e_add, ↓e_iinc, ↓e_iadd, ↓e_isub, ↓e_imul, ↓e_iand, ↓e_ior, ↓e_ixor, ↓e_ishl, ↓e_iushr, ↓e_idiv, ↓e_irem, ↓e_ineg, ↓e_i2l, ↓e_i2b, ↓e_i2s, ↓e_l2i, ↓e_land, ↓e_lor, ↓e_lshl, ↓e_lshr, ↓e_lushr, ↓e_lcmp, ↓e_dupi, ↓e_dupr, ↓e_popi, ↓e_dup2, ↓e_goto, ↓e_if, ↓e_icmp, ↓e_tsw, ↓e_lsw, ↓e_getf, ↓e_putf, ↓e_gets, ↓e_iald, ↓e_cald, ↓e_iast, ↓e_aald, ↓e_aast, ↓e_len, ↓e_copy, ↓e_abs, ↓e_max, ↓e_min, ↓e_iret, ↓e_aret, ↓e_vret, ↓e_is0, ↓e_is1, ↓e_is2, ↓e_is3, ↓e_is4, ↓e_iv1, ↓e_iv2, ↓e_iv3, ↓e_iv4, ↓e_iv5, ↓e_iv6, ↓rt_X9_leastRock, ↓reduceIte, Nat.reduceAdd, Nat.reduceEqDiff, ↓zcl0, ↓zclv, List.map_nil, List.sum_nil, List.map_cons, List.sum_cons, zcat, true_and, and_true, Nat.reduceLeDiff, Nat.reduceAdd, eq_self, forall_const, e_ok0, e_okss, e_ok1i, e_ok1r, e_ok1n, zl_m1, zl_0, zl_1, zl_4, zl_64, zl_1000000, Int.reduceToNat, Int.reduceAdd, Int.reduceMul, Int.reduceSub, Int.reduceNeg, Int.reduceLT, Int.reduceLE, Int.reduceEq, not_false_eq_true, not_true_eq_false, false_implies, true_implies, implies_true, Int.reduceDiv, Int.reduceMod, zr8_zr, zr_zbo, z01_zbo, z01_0, z01_1, zbo_eq0, zup_eq, zup_o, zup_k, ne_eq, ↓ct_wleast_fill, ↓r_fill, ↓B_fill, ↓ct_wleast_wtoll, ↓r_wtoll, ↓B_wtoll, ↓ct_wleast_wcheap, ↓r_wcheap, ↓B_wcheap, ↓ct_wleast_hbeside, ↓r_hbeside, ↓B_hbeside, ↓v_70, ↓g_70_0, ↓g_70_1, ↓l_71, ↓s_71, ↓n_71, ↓g_70_2, ↓l_72, ↓s_72, ↓n_72, ↓g_70_3, ↓l_73, ↓s_73, ↓n_73, zw]
              exact J126 M3 _ _ h8 s8 f8
            | succ t ihw =>
              intro w M3 x6 ht h8 s8 f8
              refine bs_X9_leastRock_68 hX ?_
              have zw : zr (w : Int) = w := zr_of (by omega) (by omega)
              have lw : ((w : Int) < 4) = True := eq_true (by omega)
              have br := bsd_rng (c := x9) (w := w) (by omega) (by omega)
              have zn : zr (bsd x9 w) = bsd x9 w := zr_of (by omega) (by omega)
              have J120 : ∀ (M4 : ZMm) (x6 : Option ZV), DJ d9 a D (M4 71) (M4 72) xn (w + 1) → sm (M4 72) 64 = (i : Int) + 1 → (∀ x, ¬ x = 71 → ¬ x = 72 → M4 x = M x) → X 120 [some (.inr (.inr (.inl 70))), some (.inl a), some (.inl b), some (.inl ((i : Int))), some (.inl x9), some (.inl ((w : Int))), x6] [] (zG, M4) (0, 0) := by
                intro M4 x6 h7 s7 f7
                refine bs_X9_leastRock_120 hX ?_
                simp only [bk_X9_leastRock_0, k_X9_leastRock_0, bk_X9_leastRock_9, k_X9_leastRock_9, bk_X9_leastRock_17, k_X9_leastRock_17, bk_X9_leastRock_28, k_X9_leastRock_28, bk_X9_leastRock_30, k_X9_leastRock_30, bk_X9_leastRock_36, k_X9_leastRock_36, bk_X9_leastRock_42, k_X9_leastRock_42, bk_X9_leastRock_57, k_X9_leastRock_57, bk_X9_leastRock_65, k_X9_leastRock_65, bk_X9_leastRock_68, k_X9_leastRock_68, bk_X9_leastRock_74, k_X9_leastRock_74, bk_X9_leastRock_83, k_X9_leastRock_83, bk_X9_leastRock_89, k_X9_leastRock_89, bk_X9_leastRock_120, k_X9_leastRock_120, bk_X9_leastRock_126, k_X9_leastRock_126, bk_X9_leastRock_132, k_X9_leastRock_132, ↓e_rk1, ↓e_rk0, ↓e_sk0, ↓e_sks, ↓e_ldi0, ↓e_ldis, ↓e_ldl0, ↓e_ldls, ↓e_lda0, ↓e_ldas, ↓e_ok0, ↓e_okss, ↓e_ok1i, ↓e_ok1r, ↓e_ok1n, ↓e_sti, ↓e_sta, ↓e_1, ↓e_2, ↓e_l1, ↓e_l2, ↓e_li, ↓e_sw0, ↓e_sws, ↓e_ceq, ↓e_cne, ↓e_clt, ↓e_cge, ↓e_cgt, ↓e_cle, ↓e_nil, ↓e_cons, ↓e_iconst, ↓e_bipush, ↓e_sipush, ↓e_ldc, ↓e_ldcw, ↓e_ldc2, ↓e_lconst, ↓e_iloadn, ↓e_iload, ↓e_lloadn, ↓e_lload, ↓e_aloadn, ↓e_aload, ↓e_istoren, ↓e_istore, ↓e_astoren, ↓e_astore, ↓e_add, ↓e_iinc, ↓e_iadd, ↓e_isub, ↓e_imul, ↓e_iand, ↓e_ior, ↓e_ixor, ↓e_ishl, ↓e_iushr, ↓e_idiv, ↓e_irem, ↓e_ineg, ↓e_i2l, ↓e_i2b, ↓e_i2s, ↓e_l2i, ↓e_land, ↓e_lor, ↓e_lshl, ↓e_lshr, ↓e_lushr, ↓e_lcmp, ↓e_dupi, ↓e_dupr, ↓e_popi, ↓e_dup2, ↓e_goto, ↓e_if, ↓e_icmp, ↓e_tsw, ↓e_lsw, ↓e_getf, ↓e_putf, ↓e_gets, ↓e_iald, ↓e_cald, ↓e_iast, ↓e_aald, ↓e_aast, ↓e_len, ↓e_copy, ↓e_abs, ↓e_max, ↓e_min, ↓e_iret, ↓e_aret, ↓e_vret, ↓e_is0, ↓e_is1, ↓e_is2, ↓e_is3, ↓e_is4, ↓e_iv1, ↓e_iv2, ↓e_iv3, ↓e_iv4, ↓e_iv5, ↓e_iv6, ↓rt_X9_leastRock, ↓reduceIte, Nat.reduceAdd, Nat.reduceEqDiff, ↓zcl0, ↓zclv, List.map_nil, List.sum_nil, List.map_cons, List.sum_cons, zcat, true_and, and_true, Nat.reduceLeDiff, Nat.reduceAdd, eq_self, forall_const, e_ok0, e_okss, e_ok1i, e_ok1r, e_ok1n, zl_m1, zl_0, zl_1, zl_4, zl_64, zl_1000000, Int.reduceToNat, Int.reduceAdd, Int.reduceMul, Int.reduceSub, Int.reduceNeg, Int.reduceLT, Int.reduceLE, Int.reduceEq, not_false_eq_true, not_true_eq_false, false_implies, true_implies, implies_true, Int.reduceDiv, Int.reduceMod, zr8_zr, zr_zbo, z01_zbo, z01_0, z01_1, zbo_eq0, zup_eq, zup_o, zup_k, ne_eq, ↓ct_wleast_fill, ↓r_fill, ↓B_fill, ↓ct_wleast_wtoll, ↓r_wtoll, ↓B_wtoll, ↓ct_wleast_wcheap, ↓r_wcheap, ↓B_wcheap, ↓ct_wleast_hbeside, ↓r_hbeside, ↓B_hbeside, ↓v_70, ↓g_70_0, ↓g_70_1, ↓l_71, ↓s_71, ↓n_71, ↓g_70_2, ↓l_72, ↓s_72, ↓n_72, ↓g_70_3, ↓l_73, ↓s_73, ↓n_73]
                exact ihw (w + 1) M4 _ (by omega) h7 s7 f7
              have J89 : 0 ≤ bsd x9 w → X 89 [some (.inr (.inr (.inl 70))), some (.inl a), some (.inl b), some (.inl ((i : Int))), some (.inl x9), some (.inl ((w : Int))), some (.inl (bsd x9 w))] [] (zG, M3) (0, 0) := by
                intro q0
                have tr := tk_rng vd q0 br.2
                have f1 := h8.1.1 (bsd x9 w).toNat (by omega)
                have f2 := h8.1.1 xn (by omega)
                have m1 : M3 71 x9.toNat = M3 71 xn := by rw [xt]
                have z1 : zr (M3 71 (bsd x9 w).toNat) = M3 71 (bsd x9 w).toNat := zr_of (by omega) (by omega)
                have z2 : zr (M3 71 xn + tk d9 (bsd x9 w)) = M3 71 xn + tk d9 (bsd x9 w) := zr_of (by omega) (by omega)
                refine bs_X9_leastRock_89 hX ?_
                simp only [bk_X9_leastRock_0, k_X9_leastRock_0, bk_X9_leastRock_9, k_X9_leastRock_9, bk_X9_leastRock_17, k_X9_leastRock_17, bk_X9_leastRock_28, k_X9_leastRock_28, bk_X9_leastRock_30, k_X9_leastRock_30, bk_X9_leastRock_36, k_X9_leastRock_36, bk_X9_leastRock_42, k_X9_leastRock_42, bk_X9_leastRock_57, k_X9_leastRock_57, bk_X9_leastRock_65, k_X9_leastRock_65, bk_X9_leastRock_68, k_X9_leastRock_68, bk_X9_leastRock_74, k_X9_leastRock_74, bk_X9_leastRock_83, k_X9_leastRock_83, bk_X9_leastRock_89, k_X9_leastRock_89, bk_X9_leastRock_120, k_X9_leastRock_120, bk_X9_leastRock_126, k_X9_leastRock_126, bk_X9_leastRock_132, k_X9_leastRock_132, ↓e_rk1, ↓e_rk0, ↓e_sk0, ↓e_sks, ↓e_ldi0, ↓e_ldis, ↓e_ldl0, ↓e_ldls, ↓e_lda0, ↓e_ldas, ↓e_ok0, ↓e_okss, ↓e_ok1i, ↓e_ok1r, ↓e_ok1n, ↓e_sti, ↓e_sta, ↓e_1, ↓e_2, ↓e_l1, ↓e_l2, ↓e_li, ↓e_sw0, ↓e_sws, ↓e_ceq, ↓e_cne, ↓e_clt, ↓e_cge, ↓e_cgt, ↓e_cle, ↓e_nil, ↓e_cons, ↓e_iconst, ↓e_bipush, ↓e_sipush, ↓e_ldc, ↓e_ldcw, ↓e_ldc2, ↓e_lconst, ↓e_iloadn, ↓e_iload, ↓e_lloadn, ↓e_lload, ↓e_aloadn, ↓e_aload, ↓e_istoren, ↓e_istore, ↓e_astoren, ↓e_astore, ↓e_add, ↓e_iinc, ↓e_iadd, ↓e_isub, ↓e_imul, ↓e_iand, ↓e_ior, ↓e_ixor, ↓e_ishl, ↓e_iushr, ↓e_idiv, ↓e_irem, ↓e_ineg, ↓e_i2l, ↓e_i2b, ↓e_i2s, ↓e_l2i, ↓e_land, ↓e_lor, ↓e_lshl, ↓e_lshr, ↓e_lushr, ↓e_lcmp, ↓e_dupi, ↓e_dupr, ↓e_popi, ↓e_dup2, ↓e_goto, ↓e_if, ↓e_icmp, ↓e_tsw, ↓e_lsw, ↓e_getf, ↓e_putf, ↓e_gets, ↓e_iald, ↓e_cald, ↓e_iast, ↓e_aald, ↓e_aast, ↓e_len, ↓e_copy, ↓e_abs, ↓e_max, ↓e_min, ↓e_iret, ↓e_aret, ↓e_vret, ↓e_is0, ↓e_is1, ↓e_is2, ↓e_is3, ↓e_is4, ↓e_iv1, ↓e_iv2, ↓e_iv3, ↓e_iv4, ↓e_iv5, ↓e_iv6, ↓rt_X9_leastRock, ↓reduceIte, Nat.reduceAdd, Nat.reduceEqDiff, ↓zcl0, ↓zclv, List.map_nil, List.sum_nil, List.map_cons, List.sum_cons, zcat, true_and, and_true, Nat.reduceLeDiff, Nat.reduceAdd, eq_self, forall_const, e_ok0, e_okss, e_ok1i, e_ok1r, e_ok1n, zl_m1, zl_0, zl_1, zl_4, zl_64, zl_1000000, Int.reduceToNat, Int.reduceAdd, Int.reduceMul, Int.reduceSub, Int.reduceNeg, Int.reduceLT, Int.reduceLE, Int.reduceEq, not_false_eq_true, not_true_eq_false, false_implies, true_implies, implies_true, Int.reduceDiv, Int.reduceMod, zr8_zr, zr_zbo, z01_zbo, z01_0, z01_1, zbo_eq0, zup_eq, zup_o, zup_k, ne_eq, ↓ct_wleast_fill, ↓r_fill, ↓B_fill, ↓ct_wleast_wtoll, ↓r_wtoll, ↓B_wtoll, ↓ct_wleast_wcheap, ↓r_wcheap, ↓B_wcheap, ↓ct_wleast_hbeside, ↓r_hbeside, ↓B_hbeside, ↓v_70, ↓g_70_0, ↓g_70_1, ↓l_71, ↓s_71, ↓n_71, ↓g_70_2, ↓l_72, ↓s_72, ↓n_72, ↓g_70_3, ↓l_73, ↓s_73, ↓n_73, zn, zx, m1]
                repeat (refine And.intro (by omega) ?_)
                refine ⟨d9, hr2 M3 f8, vd, ?_⟩
                rw [z1, z2]
                refine ⟨by omega, by omega, J120 _ _ ?_ (by rw [zup_ne _ (by decide)]; exact s8) (fun x p1 p2 => by rw [zup_ne _ p1, f8 x p1 p2])⟩
                rw [zup_up, zup_ne _ (by decide)]
                subst hxn
                exact DJ_st vd hD (by omega) (by omega) h8 q0 rfl
              simp only [bk_X9_leastRock_0, k_X9_leastRock_0, bk_X9_leastRock_9, k_X9_leastRock_9, bk_X9_leastRock_17, k_X9_leastRock_17, bk_X9_leastRock_28, k_X9_leastRock_28, bk_X9_leastRock_30, k_X9_leastRock_30, bk_X9_leastRock_36, k_X9_leastRock_36, bk_X9_leastRock_42, k_X9_leastRock_42, bk_X9_leastRock_57, k_X9_leastRock_57, bk_X9_leastRock_65, k_X9_leastRock_65, bk_X9_leastRock_68, k_X9_leastRock_68, bk_X9_leastRock_74, k_X9_leastRock_74, bk_X9_leastRock_83, k_X9_leastRock_83, bk_X9_leastRock_89, k_X9_leastRock_89, bk_X9_leastRock_120, k_X9_leastRock_120, bk_X9_leastRock_126, k_X9_leastRock_126, bk_X9_leastRock_132, k_X9_leastRock_132, ↓e_rk1, ↓e_rk0, ↓e_sk0, ↓e_sks, ↓e_ldi0, ↓e_ldis, ↓e_ldl0, ↓e_ldls, ↓e_lda0, ↓e_ldas, ↓e_ok0, ↓e_okss, ↓e_ok1i, ↓e_ok1r, ↓e_ok1n, ↓e_sti, ↓e_sta, ↓e_1, ↓e_2, ↓e_l1, ↓e_l2, ↓e_li, ↓e_sw0, ↓e_sws, ↓e_ceq, ↓e_cne, ↓e_clt, ↓e_cge, ↓e_cgt, ↓e_cle, ↓e_nil, ↓e_cons, ↓e_iconst, ↓e_bipush, ↓e_sipush, ↓e_ldc, ↓e_ldcw, ↓e_ldc2, ↓e_lconst, ↓e_iloadn, ↓e_iload, ↓e_lloadn, ↓e_lload, ↓e_aloadn, ↓e_aload, ↓e_istoren, ↓e_istore, ↓e_astoren, ↓e_astore, ↓e_add, ↓e_iinc, ↓e_iadd, ↓e_isub, ↓e_imul, ↓e_iand, ↓e_ior, ↓e_ixor, ↓e_ishl, ↓e_iushr, ↓e_idiv, ↓e_irem, ↓e_ineg, ↓e_i2l, ↓e_i2b, ↓e_i2s, ↓e_l2i, ↓e_land, ↓e_lor, ↓e_lshl, ↓e_lshr, ↓e_lushr, ↓e_lcmp, ↓e_dupi, ↓e_dupr, ↓e_popi, ↓e_dup2, ↓e_goto, ↓e_if, ↓e_icmp, ↓e_tsw, ↓e_lsw, ↓e_getf, ↓e_putf, ↓e_gets, ↓e_iald, ↓e_cald, ↓e_iast, ↓e_aald, ↓e_aast, ↓e_len, ↓e_copy, ↓e_abs, ↓e_max, ↓e_min, ↓e_iret, ↓e_aret, ↓e_vret, ↓e_is0, ↓e_is1, ↓e_is2, ↓e_is3, ↓e_is4, ↓e_iv1, ↓e_iv2, ↓e_iv3, ↓e_iv4, ↓e_iv5, ↓e_iv6, ↓rt_X9_leastRock, ↓reduceIte, Nat.reduceAdd, Nat.reduceEqDiff, ↓zcl0, ↓zclv, List.map_nil, List.sum_nil, List.map_cons, List.sum_cons, zcat, true_and, and_true, Nat.reduceLeDiff, Nat.reduceAdd, eq_self, forall_const, e_ok0, e_okss, e_ok1i, e_ok1r, e_ok1n, zl_m1, zl_0, zl_1, zl_4, zl_64, zl_1000000, Int.reduceToNat, Int.reduceAdd, Int.reduceMul, Int.reduceSub, Int.reduceNeg, Int.reduceLT, Int.reduceLE, Int.reduceEq, not_false_eq_true, not_true_eq_false, false_implies, true_implies, implies_true, Int.reduceDiv, Int.reduceMod, zr8_zr, zr_zbo, z01_zbo, z01_0, z01_1, zbo_eq0, zup_eq, zup_o, zup_k, ne_eq, ↓ct_wleast_fill, ↓r_fill, ↓B_fill, ↓ct_wleast_wtoll, ↓r_wtoll, ↓B_wtoll, ↓ct_wleast_wcheap, ↓r_wcheap, ↓B_wcheap, ↓ct_wleast_hbeside, ↓r_hbeside, ↓B_hbeside, ↓v_70, ↓g_70_0, ↓g_70_1, ↓l_71, ↓s_71, ↓n_71, ↓g_70_2, ↓l_72, ↓s_72, ↓n_72, ↓g_70_3, ↓l_73, ↓s_73, ↓n_73, zw, lw]
              refine bs_X9_leastRock_74 hX ?_
              simp only [bk_X9_leastRock_0, k_X9_leastRock_0, bk_X9_leastRock_9, k_X9_leastRock_9, bk_X9_leastRock_17, k_X9_leastRock_17, bk_X9_leastRock_28, k_X9_leastRock_28, bk_X9_leastRock_30, k_X9_leastRock_30, bk_X9_leastRock_36, k_X9_leastRock_36, bk_X9_leastRock_42, k_X9_leastRock_42, bk_X9_leastRock_57, k_X9_leastRock_57, bk_X9_leastRock_65, k_X9_leastRock_65, bk_X9_leastRock_68, k_X9_leastRock_68, bk_X9_leastRock_74, k_X9_leastRock_74, bk_X9_leastRock_83, k_X9_leastRock_83, bk_X9_leastRock_89, k_X9_leastRock_89, bk_X9_leastRock_120, k_X9_leastRock_120, bk_X9_leastRock_126, k_X9_leastRock_126, bk_X9_leastRock_132, k_X9_leastRock_132, ↓e_rk1, ↓e_rk0, ↓e_sk0, ↓e_sks, ↓e_ldi0, ↓e_ldis, ↓e_ldl0, ↓e_ldls, ↓e_lda0, ↓e_ldas, ↓e_ok0, ↓e_okss, ↓e_ok1i, ↓e_ok1r, ↓e_ok1n, ↓e_sti, ↓e_sta, ↓e_1, ↓e_2, ↓e_l1, ↓e_l2, ↓e_li, ↓e_sw0, ↓e_sws, ↓e_ceq, ↓e_cne, ↓e_clt, ↓e_cge, ↓e_cgt, ↓e_cle, ↓e_nil, ↓e_cons, ↓e_iconst, ↓e_bipush, ↓e_sipush, ↓e_ldc, ↓e_ldcw, ↓e_ldc2, ↓e_lconst, ↓e_iloadn, ↓e_iload, ↓e_lloadn, ↓e_lload, ↓e_aloadn, ↓e_aload, ↓e_istoren, ↓e_istore, ↓e_astoren, ↓e_astore, ↓e_add, ↓e_iinc, ↓e_iadd, ↓e_isub, ↓e_imul, ↓e_iand, ↓e_ior, ↓e_ixor, ↓e_ishl, ↓e_iushr, ↓e_idiv, ↓e_irem, ↓e_ineg, ↓e_i2l, ↓e_i2b, ↓e_i2s, ↓e_l2i, ↓e_land, ↓e_lor, ↓e_lshl, ↓e_lshr, ↓e_lushr, ↓e_lcmp, ↓e_dupi, ↓e_dupr, ↓e_popi, ↓e_dup2, ↓e_goto, ↓e_if, ↓e_icmp, ↓e_tsw, ↓e_lsw, ↓e_getf, ↓e_putf, ↓e_gets, ↓e_iald, ↓e_cald, ↓e_iast, ↓e_aald, ↓e_aast, ↓e_len, ↓e_copy, ↓e_abs, ↓e_max, ↓e_min, ↓e_iret, ↓e_aret, ↓e_vret, ↓e_is0, ↓e_is1, ↓e_is2, ↓e_is3, ↓e_is4, ↓e_iv1, ↓e_iv2, ↓e_iv3, ↓e_iv4, ↓e_iv5, ↓e_iv6, ↓rt_X9_leastRock, ↓reduceIte, Nat.reduceAdd, Nat.reduceEqDiff, ↓zcl0, ↓zclv, List.map_nil, List.sum_nil, List.map_cons, List.sum_cons, zcat, true_and, and_true, Nat.reduceLeDiff, Nat.reduceAdd, eq_self, forall_const, e_ok0, e_okss, e_ok1i, e_ok1r, e_ok1n, zl_m1, zl_0, zl_1, zl_4, zl_64, zl_1000000, Int.reduceToNat, Int.reduceAdd, Int.reduceMul, Int.reduceSub, Int.reduceNeg, Int.reduceLT, Int.reduceLE, Int.reduceEq, not_false_eq_true, not_true_eq_false, false_implies, true_implies, implies_true, Int.reduceDiv, Int.reduceMod, zr8_zr, zr_zbo, z01_zbo, z01_0, z01_1, zbo_eq0, zup_eq, zup_o, zup_k, ne_eq, ↓ct_wleast_fill, ↓r_fill, ↓B_fill, ↓ct_wleast_wtoll, ↓r_wtoll, ↓B_wtoll, ↓ct_wleast_wcheap, ↓r_wcheap, ↓B_wcheap, ↓ct_wleast_hbeside, ↓r_hbeside, ↓B_hbeside, ↓v_70, ↓g_70_0, ↓g_70_1, ↓l_71, ↓s_71, ↓n_71, ↓g_70_2, ↓l_72, ↓s_72, ↓n_72, ↓g_70_3, ↓l_73, ↓s_73, ↓n_73]
              refine ⟨by omega, by omega, ⟨by omega, by omega⟩, ?_⟩
              refine bs_X9_leastRock_83 hX ?_
              simp only [bk_X9_leastRock_0, k_X9_leastRock_0, bk_X9_leastRock_9, k_X9_leastRock_9, bk_X9_leastRock_17, k_X9_leastRock_17, bk_X9_leastRock_28, k_X9_leastRock_28, bk_X9_leastRock_30, k_X9_leastRock_30, bk_X9_leastRock_36, k_X9_leastRock_36, bk_X9_leastRock_42, k_X9_leastRock_42, bk_X9_leastRock_57, k_X9_leastRock_57, bk_X9_leastRock_65, k_X9_leastRock_65, bk_X9_leastRock_68, k_X9_leastRock_68, bk_X9_leastRock_74, k_X9_leastRock_74, bk_X9_leastRock_83, k_X9_leastRock_83, bk_X9_leastRock_89, k_X9_leastRock_89, bk_X9_leastRock_120, k_X9_leastRock_120, bk_X9_leastRock_126, k_X9_leastRock_126, bk_X9_leastRock_132, k_X9_leastRock_132, ↓e_rk1, ↓e_rk0, ↓e_sk0, ↓e_sks, ↓e_ldi0, ↓e_ldis, ↓e_ldl0, ↓e_ldls, ↓e_lda0, ↓e_ldas, ↓e_ok0, ↓e_okss, ↓e_ok1i, ↓e_ok1r, ↓e_ok1n, ↓e_sti, ↓e_sta, ↓e_1, ↓e_2, ↓e_l1, ↓e_l2, ↓e_li, ↓e_sw0, ↓e_sws, ↓e_ceq, ↓e_cne, ↓e_clt, ↓e_cge, ↓e_cgt, ↓e_cle, ↓e_nil, ↓e_cons, ↓e_iconst, ↓e_bipush, ↓e_sipush, ↓e_ldc, ↓e_ldcw, ↓e_ldc2, ↓e_lconst, ↓e_iloadn, ↓e_iload, ↓e_lloadn, ↓e_lload, ↓e_aloadn, ↓e_aload, ↓e_istoren, ↓e_istore, ↓e_astoren, ↓e_astore, ↓e_add, ↓e_iinc, ↓e_iadd, ↓e_isub, ↓e_imul, ↓e_iand, ↓e_ior, ↓e_ixor, ↓e_ishl, ↓e_iushr, ↓e_idiv, ↓e_irem, ↓e_ineg, ↓e_i2l, ↓e_i2b, ↓e_i2s, ↓e_l2i, ↓e_land, ↓e_lor, ↓e_lshl, ↓e_lshr, ↓e_lushr, ↓e_lcmp, ↓e_dupi, ↓e_dupr, ↓e_popi, ↓e_dup2, ↓e_goto, ↓e_if, ↓e_icmp, ↓e_tsw, ↓e_lsw, ↓e_getf, ↓e_putf, ↓e_gets, ↓e_iald, ↓e_cald, ↓e_iast, ↓e_aald, ↓e_aast, ↓e_len, ↓e_copy, ↓e_abs, ↓e_max, ↓e_min, ↓e_iret, ↓e_aret, ↓e_vret, ↓e_is0, ↓e_is1, ↓e_is2, ↓e_is3, ↓e_is4, ↓e_iv1, ↓e_iv2, ↓e_iv3, ↓e_iv4, ↓e_iv5, ↓e_iv6, ↓rt_X9_leastRock, ↓reduceIte, Nat.reduceAdd, Nat.reduceEqDiff, ↓zcl0, ↓zclv, List.map_nil, List.sum_nil, List.map_cons, List.sum_cons, zcat, true_and, and_true, Nat.reduceLeDiff, Nat.reduceAdd, eq_self, forall_const, e_ok0, e_okss, e_ok1i, e_ok1r, e_ok1n, zl_m1, zl_0, zl_1, zl_4, zl_64, zl_1000000, Int.reduceToNat, Int.reduceAdd, Int.reduceMul, Int.reduceSub, Int.reduceNeg, Int.reduceLT, Int.reduceLE, Int.reduceEq, not_false_eq_true, not_true_eq_false, false_implies, true_implies, implies_true, Int.reduceDiv, Int.reduceMod, zr8_zr, zr_zbo, z01_zbo, z01_0, z01_1, zbo_eq0, zup_eq, zup_o, zup_k, ne_eq, ↓ct_wleast_fill, ↓r_fill, ↓B_fill, ↓ct_wleast_wtoll, ↓r_wtoll, ↓B_wtoll, ↓ct_wleast_wcheap, ↓r_wcheap, ↓B_wcheap, ↓ct_wleast_hbeside, ↓r_hbeside, ↓B_hbeside, ↓v_70, ↓g_70_0, ↓g_70_1, ↓l_71, ↓s_71, ↓n_71, ↓g_70_2, ↓l_72, ↓s_72, ↓n_72, ↓g_70_3, ↓l_73, ↓s_73, ↓n_73, zn]
              have no9 : ¬ 0 ≤ bsd x9 w → X 120 [some (.inr (.inr (.inl 70))), some (.inl a), some (.inl b), some (.inl ((i : Int))), some (.inl x9), some (.inl ((w : Int))), some (.inl (bsd x9 w))] [] (zG, M3) (0, 0) := by
                intro q0
                refine J120 M3 _ (DJ_no h8 ?_) s8 f8
                rw [← hxn]; exact q0
              refine ⟨fun e => ?_, fun e => ?_⟩
              · first | exact J89 (by omega) | exact no9 (by omega)
              · first | exact J89 (by omega) | exact no9 (by omega)
          refine bs_X9_leastRock_57 hX ?_
          simp only [bk_X9_leastRock_0, k_X9_leastRock_0, bk_X9_leastRock_9, k_X9_leastRock_9, bk_X9_leastRock_17, k_X9_leastRock_17, bk_X9_leastRock_28, k_X9_leastRock_28, bk_X9_leastRock_30, k_X9_leastRock_30, bk_X9_leastRock_36, k_X9_leastRock_36, bk_X9_leastRock_42, k_X9_leastRock_42, bk_X9_leastRock_57, k_X9_leastRock_57, bk_X9_leastRock_65, k_X9_leastRock_65, bk_X9_leastRock_68, k_X9_leastRock_68, bk_X9_leastRock_74, k_X9_leastRock_74, bk_X9_leastRock_83, k_X9_leastRock_83, bk_X9_leastRock_89, k_X9_leastRock_89, bk_X9_leastRock_120, k_X9_leastRock_120, bk_X9_leastRock_126, k_X9_leastRock_126, bk_X9_leastRock_132, k_X9_leastRock_132, ↓e_rk1, ↓e_rk0, ↓e_sk0, ↓e_sks, ↓e_ldi0, ↓e_ldis, ↓e_ldl0, ↓e_ldls, ↓e_lda0, ↓e_ldas, ↓e_ok0, ↓e_okss, ↓e_ok1i, ↓e_ok1r, ↓e_ok1n, ↓e_sti, ↓e_sta, ↓e_1, ↓e_2, ↓e_l1, ↓e_l2, ↓e_li, ↓e_sw0, ↓e_sws, ↓e_ceq, ↓e_cne, ↓e_clt, ↓e_cge, ↓e_cgt, ↓e_cle, ↓e_nil, ↓e_cons, ↓e_iconst, ↓e_bipush, ↓e_sipush, ↓e_ldc, ↓e_ldcw, ↓e_ldc2, ↓e_lconst, ↓e_iloadn, ↓e_iload, ↓e_lloadn, ↓e_lload, ↓e_aloadn, ↓e_aload, ↓e_istoren, ↓e_istore, ↓e_astoren, ↓e_astore, ↓e_add, ↓e_iinc, ↓e_iadd, ↓e_isub, ↓e_imul, ↓e_iand, ↓e_ior, ↓e_ixor, ↓e_ishl, ↓e_iushr, ↓e_idiv, ↓e_irem, ↓e_ineg, ↓e_i2l, ↓e_i2b, ↓e_i2s, ↓e_l2i, ↓e_land, ↓e_lor, ↓e_lshl, ↓e_lshr, ↓e_lushr, ↓e_lcmp, ↓e_dupi, ↓e_dupr, ↓e_popi, ↓e_dup2, ↓e_goto, ↓e_if, ↓e_icmp, ↓e_tsw, ↓e_lsw, ↓e_getf, ↓e_putf, ↓e_gets, ↓e_iald, ↓e_cald, ↓e_iast, ↓e_aald, ↓e_aast, ↓e_len, ↓e_copy, ↓e_abs, ↓e_max, ↓e_min, ↓e_iret, ↓e_aret, ↓e_vret, ↓e_is0, ↓e_is1, ↓e_is2, ↓e_is3, ↓e_is4, ↓e_iv1, ↓e_iv2, ↓e_iv3, ↓e_iv4, ↓e_iv5, ↓e_iv6, ↓rt_X9_leastRock, ↓reduceIte, Nat.reduceAdd, Nat.reduceEqDiff, ↓zcl0, ↓zclv, List.map_nil, List.sum_nil, List.map_cons, List.sum_cons, zcat, true_and, and_true, Nat.reduceLeDiff, Nat.reduceAdd, eq_self, forall_const, e_ok0, e_okss, e_ok1i, e_ok1r, e_ok1n, zl_m1, zl_0, zl_1, zl_4, zl_64, zl_1000000, Int.reduceToNat, Int.reduceAdd, Int.reduceMul, Int.reduceSub, Int.reduceNeg, Int.reduceLT, Int.reduceLE, Int.reduceEq, not_false_eq_true, not_true_eq_false, false_implies, true_implies, implies_true, Int.reduceDiv, Int.reduceMod, zr8_zr, zr_zbo, z01_zbo, z01_0, z01_1, zbo_eq0, zup_eq, zup_o, zup_k, ne_eq, ↓ct_wleast_fill, ↓r_fill, ↓B_fill, ↓ct_wleast_wtoll, ↓r_wtoll, ↓B_wtoll, ↓ct_wleast_wcheap, ↓r_wcheap, ↓B_wcheap, ↓ct_wleast_hbeside, ↓r_hbeside, ↓B_hbeside, ↓v_70, ↓g_70_0, ↓g_70_1, ↓l_71, ↓s_71, ↓n_71, ↓g_70_2, ↓l_72, ↓s_72, ↓n_72, ↓g_70_3, ↓l_73, ↓s_73, ↓n_73, zx, xt]
          repeat (refine And.intro (by omega) ?_)
          refine bs_X9_leastRock_65 hX ?_
          simp only [bk_X9_leastRock_0, k_X9_leastRock_0, bk_X9_leastRock_9, k_X9_leastRock_9, bk_X9_leastRock_17, k_X9_leastRock_17, bk_X9_leastRock_28, k_X9_leastRock_28, bk_X9_leastRock_30, k_X9_leastRock_30, bk_X9_leastRock_36, k_X9_leastRock_36, bk_X9_leastRock_42, k_X9_leastRock_42, bk_X9_leastRock_57, k_X9_leastRock_57, bk_X9_leastRock_65, k_X9_leastRock_65, bk_X9_leastRock_68, k_X9_leastRock_68, bk_X9_leastRock_74, k_X9_leastRock_74, bk_X9_leastRock_83, k_X9_leastRock_83, bk_X9_leastRock_89, k_X9_leastRock_89, bk_X9_leastRock_120, k_X9_leastRock_120, bk_X9_leastRock_126, k_X9_leastRock_126, bk_X9_leastRock_132, k_X9_leastRock_132, ↓e_rk1, ↓e_rk0, ↓e_sk0, ↓e_sks, ↓e_ldi0, ↓e_ldis, ↓e_ldl0, ↓e_ldls, ↓e_lda0, ↓e_ldas, ↓e_ok0, ↓e_okss, ↓e_ok1i, ↓e_ok1r, ↓e_ok1n, ↓e_sti, ↓e_sta, ↓e_1, ↓e_2, ↓e_l1, ↓e_l2, ↓e_li, ↓e_sw0, ↓e_sws, ↓e_ceq, ↓e_cne, ↓e_clt, ↓e_cge, ↓e_cgt, ↓e_cle, ↓e_nil, ↓e_cons, ↓e_iconst, ↓e_bipush, ↓e_sipush, ↓e_ldc, ↓e_ldcw, ↓e_ldc2, ↓e_lconst, ↓e_iloadn, ↓e_iload, ↓e_lloadn, ↓e_lload, ↓e_aloadn, ↓e_aload, ↓e_istoren, ↓e_istore, ↓e_astoren, ↓e_astore, ↓e_add, ↓e_iinc, ↓e_iadd, ↓e_isub, ↓e_imul, ↓e_iand, ↓e_ior, ↓e_ixor, ↓e_ishl, ↓e_iushr, ↓e_idiv, ↓e_irem, ↓e_ineg, ↓e_i2l, ↓e_i2b, ↓e_i2s, ↓e_l2i, ↓e_land, ↓e_lor, ↓e_lshl, ↓e_lshr, ↓e_lushr, ↓e_lcmp, ↓e_dupi, ↓e_dupr, ↓e_popi, ↓e_dup2, ↓e_goto, ↓e_if, ↓e_icmp, ↓e_tsw, ↓e_lsw, ↓e_getf, ↓e_putf, ↓e_gets, ↓e_iald, ↓e_cald, ↓e_iast, ↓e_aald, ↓e_aast, ↓e_len, ↓e_copy, ↓e_abs, ↓e_max, ↓e_min, ↓e_iret, ↓e_aret, ↓e_vret, ↓e_is0, ↓e_is1, ↓e_is2, ↓e_is3, ↓e_is4, ↓e_iv1, ↓e_iv2, ↓e_iv3, ↓e_iv4, ↓e_iv5, ↓e_iv6, ↓rt_X9_leastRock, ↓reduceIte, Nat.reduceAdd, Nat.reduceEqDiff, ↓zcl0, ↓zclv, List.map_nil, List.sum_nil, List.map_cons, List.sum_cons, zcat, true_and, and_true, Nat.reduceLeDiff, Nat.reduceAdd, eq_self, forall_const, e_ok0, e_okss, e_ok1i, e_ok1r, e_ok1n, zl_m1, zl_0, zl_1, zl_4, zl_64, zl_1000000, Int.reduceToNat, Int.reduceAdd, Int.reduceMul, Int.reduceSub, Int.reduceNeg, Int.reduceLT, Int.reduceLE, Int.reduceEq, not_false_eq_true, not_true_eq_false, false_implies, true_implies, implies_true, Int.reduceDiv, Int.reduceMod, zr8_zr, zr_zbo, z01_zbo, z01_0, z01_1, zbo_eq0, zup_eq, zup_o, zup_k, ne_eq, ↓ct_wleast_fill, ↓r_fill, ↓B_fill, ↓ct_wleast_wtoll, ↓r_wtoll, ↓B_wtoll, ↓ct_wleast_wcheap, ↓r_wcheap, ↓B_wcheap, ↓ct_wleast_hbeside, ↓r_hbeside, ↓B_hbeside, ↓v_70, ↓g_70_0, ↓g_70_1, ↓l_71, ↓s_71, ↓n_71, ↓g_70_2, ↓l_72, ↓s_72, ↓n_72, ↓g_70_3, ↓l_73, ↓s_73, ↓n_73]
          refine lpw 4 0 _ _ (by omega) ?_ ?_ (fun x p1 p2 => by rw [zup_ne _ p2, f x p1 p2])
          · rw [zup_up, zup_ne _ (by decide)]; exact dj
          · rw [zup_up]; exact sn
        simp only [bk_X9_leastRock_0, k_X9_leastRock_0, bk_X9_leastRock_9, k_X9_leastRock_9, bk_X9_leastRock_17, k_X9_leastRock_17, bk_X9_leastRock_28, k_X9_leastRock_28, bk_X9_leastRock_30, k_X9_leastRock_30, bk_X9_leastRock_36, k_X9_leastRock_36, bk_X9_leastRock_42, k_X9_leastRock_42, bk_X9_leastRock_57, k_X9_leastRock_57, bk_X9_leastRock_65, k_X9_leastRock_65, bk_X9_leastRock_68, k_X9_leastRock_68, bk_X9_leastRock_74, k_X9_leastRock_74, bk_X9_leastRock_83, k_X9_leastRock_83, bk_X9_leastRock_89, k_X9_leastRock_89, bk_X9_leastRock_120, k_X9_leastRock_120, bk_X9_leastRock_126, k_X9_leastRock_126, bk_X9_leastRock_132, k_X9_leastRock_132, ↓e_rk1, ↓e_rk0, ↓e_sk0, ↓e_sks, ↓e_ldi0, ↓e_ldis, ↓e_ldl0, ↓e_ldls, ↓e_lda0, ↓e_ldas, ↓e_ok0, ↓e_okss, ↓e_ok1i, ↓e_ok1r, ↓e_ok1n, ↓e_sti, ↓e_sta, ↓e_1, ↓e_2, ↓e_l1, ↓e_l2, ↓e_li, ↓e_sw0, ↓e_sws, ↓e_ceq, ↓e_cne, ↓e_clt, ↓e_cge, ↓e_cgt, ↓e_cle, ↓e_nil, ↓e_cons, ↓e_iconst, ↓e_bipush, ↓e_sipush, ↓e_ldc, ↓e_ldcw, ↓e_ldc2, ↓e_lconst, ↓e_iloadn, ↓e_iload, ↓e_lloadn, ↓e_lload, ↓e_aloadn, ↓e_aload, ↓e_istoren, ↓e_istore, ↓e_astoren, ↓e_astore, ↓e_add, ↓e_iinc, ↓e_iadd, ↓e_isub, ↓e_imul, ↓e_iand, ↓e_ior, ↓e_ixor, ↓e_ishl, ↓e_iushr, ↓e_idiv, ↓e_irem, ↓e_ineg, ↓e_i2l, ↓e_i2b, ↓e_i2s, ↓e_l2i, ↓e_land, ↓e_lor, ↓e_lshl, ↓e_lshr, ↓e_lushr, ↓e_lcmp, ↓e_dupi, ↓e_dupr, ↓e_popi, ↓e_dup2, ↓e_goto, ↓e_if, ↓e_icmp, ↓e_tsw, ↓e_lsw, ↓e_getf, ↓e_putf, ↓e_gets, ↓e_iald, ↓e_cald, ↓e_iast, ↓e_aald, ↓e_aast, ↓e_len, ↓e_copy, ↓e_abs, ↓e_max, ↓e_min, ↓e_iret, ↓e_aret, ↓e_vret, ↓e_is0, ↓e_is1, ↓e_is2, ↓e_is3, ↓e_is4, ↓e_iv1, ↓e_iv2, ↓e_iv3, ↓e_iv4, ↓e_iv5, ↓e_iv6, ↓rt_X9_leastRock, ↓reduceIte, Nat.reduceAdd, Nat.reduceEqDiff, ↓zcl0, ↓zclv, List.map_nil, List.sum_nil, List.map_cons, List.sum_cons, zcat, true_and, and_true, Nat.reduceLeDiff, Nat.reduceAdd, eq_self, forall_const, e_ok0, e_okss, e_ok1i, e_ok1r, e_ok1n, zl_m1, zl_0, zl_1, zl_4, zl_64, zl_1000000, Int.reduceToNat, Int.reduceAdd, Int.reduceMul, Int.reduceSub, Int.reduceNeg, Int.reduceLT, Int.reduceLE, Int.reduceEq, not_false_eq_true, not_true_eq_false, false_implies, true_implies, implies_true, Int.reduceDiv, Int.reduceMod, zr8_zr, zr_zbo, z01_zbo, z01_0, z01_1, zbo_eq0, zup_eq, zup_o, zup_k, ne_eq, ↓ct_wleast_fill, ↓r_fill, ↓B_fill, ↓ct_wleast_wtoll, ↓r_wtoll, ↓B_wtoll, ↓ct_wleast_wcheap, ↓r_wcheap, ↓B_wcheap, ↓ct_wleast_hbeside, ↓r_hbeside, ↓B_hbeside, ↓v_70, ↓g_70_0, ↓g_70_1, ↓l_71, ↓s_71, ↓n_71, ↓g_70_2, ↓l_72, ↓s_72, ↓n_72, ↓g_70_3, ↓l_73, ↓s_73, ↓n_73, zx, zb]
        repeat' (first | assumption | apply And.intro | intro _)
        all_goals first | (exact J132 M' _ _ _ _ (cN (by assumption)) f) | (exact J132 M' _ _ _ _ (cB (by assumption)) f) | (apply J57; assumption)
    simp only [bk_X9_leastRock_0, k_X9_leastRock_0, bk_X9_leastRock_9, k_X9_leastRock_9, bk_X9_leastRock_17, k_X9_leastRock_17, bk_X9_leastRock_28, k_X9_leastRock_28, bk_X9_leastRock_30, k_X9_leastRock_30, bk_X9_leastRock_36, k_X9_leastRock_36, bk_X9_leastRock_42, k_X9_leastRock_42, bk_X9_leastRock_57, k_X9_leastRock_57, bk_X9_leastRock_65, k_X9_leastRock_65, bk_X9_leastRock_68, k_X9_leastRock_68, bk_X9_leastRock_74, k_X9_leastRock_74, bk_X9_leastRock_83, k_X9_leastRock_83, bk_X9_leastRock_89, k_X9_leastRock_89, bk_X9_leastRock_120, k_X9_leastRock_120, bk_X9_leastRock_126, k_X9_leastRock_126, bk_X9_leastRock_132, k_X9_leastRock_132, ↓e_rk1, ↓e_rk0, ↓e_sk0, ↓e_sks, ↓e_ldi0, ↓e_ldis, ↓e_ldl0, ↓e_ldls, ↓e_lda0, ↓e_ldas, ↓e_ok0, ↓e_okss, ↓e_ok1i, ↓e_ok1r, ↓e_ok1n, ↓e_sti, ↓e_sta, ↓e_1, ↓e_2, ↓e_l1, ↓e_l2, ↓e_li, ↓e_sw0, ↓e_sws, ↓e_ceq, ↓e_cne, ↓e_clt, ↓e_cge, ↓e_cgt, ↓e_cle, ↓e_nil, ↓e_cons, ↓e_iconst, ↓e_bipush, ↓e_sipush, ↓e_ldc, ↓e_ldcw, ↓e_ldc2, ↓e_lconst, ↓e_iloadn, ↓e_iload, ↓e_lloadn, ↓e_lload, ↓e_aloadn, ↓e_aload, ↓e_istoren, ↓e_istore, ↓e_astoren, ↓e_astore, ↓e_add, ↓e_iinc, ↓e_iadd, ↓e_isub, ↓e_imul, ↓e_iand, ↓e_ior, ↓e_ixor, ↓e_ishl, ↓e_iushr, ↓e_idiv, ↓e_irem, ↓e_ineg, ↓e_i2l, ↓e_i2b, ↓e_i2s, ↓e_l2i, ↓e_land, ↓e_lor, ↓e_lshl, ↓e_lshr, ↓e_lushr, ↓e_lcmp, ↓e_dupi, ↓e_dupr, ↓e_popi, ↓e_dup2, ↓e_goto, ↓e_if, ↓e_icmp, ↓e_tsw, ↓e_lsw, ↓e_getf, ↓e_putf, ↓e_gets, ↓e_iald, ↓e_cald, ↓e_iast, ↓e_aald, ↓e_aast, ↓e_len, ↓e_copy, ↓e_abs, ↓e_max, ↓e_min, ↓e_iret, ↓e_aret, ↓e_vret, ↓e_is0, ↓e_is1, ↓e_is2, ↓e_is3, ↓e_is4, ↓e_iv1, ↓e_iv2, ↓e_iv3, ↓e_iv4, ↓e_iv5, ↓e_iv6, ↓rt_X9_leastRock, ↓reduceIte, Nat.reduceAdd, Nat.reduceEqDiff, ↓zcl0, ↓zclv, List.map_nil, List.sum_nil, List.map_cons, List.sum_cons, zcat, true_and, and_true, Nat.reduceLeDiff, Nat.reduceAdd, eq_self, forall_const, e_ok0, e_okss, e_ok1i, e_ok1r, e_ok1n, zl_m1, zl_0, zl_1, zl_4, zl_64, zl_1000000, Int.reduceToNat, Int.reduceAdd, Int.reduceMul, Int.reduceSub, Int.reduceNeg, Int.reduceLT, Int.reduceLE, Int.reduceEq, not_false_eq_true, not_true_eq_false, false_implies, true_implies, implies_true, Int.reduceDiv, Int.reduceMod, zr8_zr, zr_zbo, z01_zbo, z01_0, z01_1, zbo_eq0, zup_eq, zup_o, zup_k, ne_eq, ↓ct_wleast_fill, ↓r_fill, ↓B_fill, ↓ct_wleast_wtoll, ↓r_wtoll, ↓B_wtoll, ↓ct_wleast_wcheap, ↓r_wcheap, ↓B_wcheap, ↓ct_wleast_hbeside, ↓r_hbeside, ↓B_hbeside, ↓v_70, ↓g_70_0, ↓g_70_1, ↓l_71, ↓s_71, ↓n_71, ↓g_70_2, ↓l_72, ↓s_72, ↓n_72, ↓g_70_3, ↓l_73, ↓s_73, ↓n_73]
    refine ⟨64, rfl, by omega, fun M1 e1 f1 => ?_⟩
    refine bs_X9_leastRock_9 hX ?_
    simp only [bk_X9_leastRock_0, k_X9_leastRock_0, bk_X9_leastRock_9, k_X9_leastRock_9, bk_X9_leastRock_17, k_X9_leastRock_17, bk_X9_leastRock_28, k_X9_leastRock_28, bk_X9_leastRock_30, k_X9_leastRock_30, bk_X9_leastRock_36, k_X9_leastRock_36, bk_X9_leastRock_42, k_X9_leastRock_42, bk_X9_leastRock_57, k_X9_leastRock_57, bk_X9_leastRock_65, k_X9_leastRock_65, bk_X9_leastRock_68, k_X9_leastRock_68, bk_X9_leastRock_74, k_X9_leastRock_74, bk_X9_leastRock_83, k_X9_leastRock_83, bk_X9_leastRock_89, k_X9_leastRock_89, bk_X9_leastRock_120, k_X9_leastRock_120, bk_X9_leastRock_126, k_X9_leastRock_126, bk_X9_leastRock_132, k_X9_leastRock_132, ↓e_rk1, ↓e_rk0, ↓e_sk0, ↓e_sks, ↓e_ldi0, ↓e_ldis, ↓e_ldl0, ↓e_ldls, ↓e_lda0, ↓e_ldas, ↓e_ok0, ↓e_okss, ↓e_ok1i, ↓e_ok1r, ↓e_ok1n, ↓e_sti, ↓e_sta, ↓e_1, ↓e_2, ↓e_l1, ↓e_l2, ↓e_li, ↓e_sw0, ↓e_sws, ↓e_ceq, ↓e_cne, ↓e_clt, ↓e_cge, ↓e_cgt, ↓e_cle, ↓e_nil, ↓e_cons, ↓e_iconst, ↓e_bipush, ↓e_sipush, ↓e_ldc, ↓e_ldcw, ↓e_ldc2, ↓e_lconst, ↓e_iloadn, ↓e_iload, ↓e_lloadn, ↓e_lload, ↓e_aloadn, ↓e_aload, ↓e_istoren, ↓e_istore, ↓e_astoren, ↓e_astore, ↓e_add, ↓e_iinc, ↓e_iadd, ↓e_isub, ↓e_imul, ↓e_iand, ↓e_ior, ↓e_ixor, ↓e_ishl, ↓e_iushr, ↓e_idiv, ↓e_irem, ↓e_ineg, ↓e_i2l, ↓e_i2b, ↓e_i2s, ↓e_l2i, ↓e_land, ↓e_lor, ↓e_lshl, ↓e_lshr, ↓e_lushr, ↓e_lcmp, ↓e_dupi, ↓e_dupr, ↓e_popi, ↓e_dup2, ↓e_goto, ↓e_if, ↓e_icmp, ↓e_tsw, ↓e_lsw, ↓e_getf, ↓e_putf, ↓e_gets, ↓e_iald, ↓e_cald, ↓e_iast, ↓e_aald, ↓e_aast, ↓e_len, ↓e_copy, ↓e_abs, ↓e_max, ↓e_min, ↓e_iret, ↓e_aret, ↓e_vret, ↓e_is0, ↓e_is1, ↓e_is2, ↓e_is3, ↓e_is4, ↓e_iv1, ↓e_iv2, ↓e_iv3, ↓e_iv4, ↓e_iv5, ↓e_iv6, ↓rt_X9_leastRock, ↓reduceIte, Nat.reduceAdd, Nat.reduceEqDiff, ↓zcl0, ↓zclv, List.map_nil, List.sum_nil, List.map_cons, List.sum_cons, zcat, true_and, and_true, Nat.reduceLeDiff, Nat.reduceAdd, eq_self, forall_const, e_ok0, e_okss, e_ok1i, e_ok1r, e_ok1n, zl_m1, zl_0, zl_1, zl_4, zl_64, zl_1000000, Int.reduceToNat, Int.reduceAdd, Int.reduceMul, Int.reduceSub, Int.reduceNeg, Int.reduceLT, Int.reduceLE, Int.reduceEq, not_false_eq_true, not_true_eq_false, false_implies, true_implies, implies_true, Int.reduceDiv, Int.reduceMod, zr8_zr, zr_zbo, z01_zbo, z01_0, z01_1, zbo_eq0, zup_eq, zup_o, zup_k, ne_eq, ↓ct_wleast_fill, ↓r_fill, ↓B_fill, ↓ct_wleast_wtoll, ↓r_wtoll, ↓B_wtoll, ↓ct_wleast_wcheap, ↓r_wcheap, ↓B_wcheap, ↓ct_wleast_hbeside, ↓r_hbeside, ↓B_hbeside, ↓v_70, ↓g_70_0, ↓g_70_1, ↓l_71, ↓s_71, ↓n_71, ↓g_70_2, ↓l_72, ↓s_72, ↓n_72, ↓g_70_3, ↓l_73, ↓s_73, ↓n_73]
    refine ⟨64, rfl, by omega, fun M2 e2 f2 => ?_⟩
    have g2 : ∀ x, ¬ x = 71 → ¬ x = 72 → M2 x = M x := fun x p1 p2 => by rw [f2 x p2, f1 x p1]
    have tr := tk_rng vd ha.1 ha.2
    have p71 : ∀ k, k < 64 → M2 71 k = 1000000 := fun k hk => by
      rw [f2 71 (by decide), e1]
      dsimp only
      rw [if_pos hk]
    have p72 : ∀ k, k < 64 → M2 72 k = 0 := fun k hk => by
      rw [e2]
      dsimp only
      rw [if_pos hk]
    refine bs_X9_leastRock_17 hX ?_
    simp only [bk_X9_leastRock_0, k_X9_leastRock_0, bk_X9_leastRock_9, k_X9_leastRock_9, bk_X9_leastRock_17, k_X9_leastRock_17, bk_X9_leastRock_28, k_X9_leastRock_28, bk_X9_leastRock_30, k_X9_leastRock_30, bk_X9_leastRock_36, k_X9_leastRock_36, bk_X9_leastRock_42, k_X9_leastRock_42, bk_X9_leastRock_57, k_X9_leastRock_57, bk_X9_leastRock_65, k_X9_leastRock_65, bk_X9_leastRock_68, k_X9_leastRock_68, bk_X9_leastRock_74, k_X9_leastRock_74, bk_X9_leastRock_83, k_X9_leastRock_83, bk_X9_leastRock_89, k_X9_leastRock_89, bk_X9_leastRock_120, k_X9_leastRock_120, bk_X9_leastRock_126, k_X9_leastRock_126, bk_X9_leastRock_132, k_X9_leastRock_132, ↓e_rk1, ↓e_rk0, ↓e_sk0, ↓e_sks, ↓e_ldi0, ↓e_ldis, ↓e_ldl0, ↓e_ldls, ↓e_lda0, ↓e_ldas, ↓e_ok0, ↓e_okss, ↓e_ok1i, ↓e_ok1r, ↓e_ok1n, ↓e_sti, ↓e_sta, ↓e_1, ↓e_2, ↓e_l1, ↓e_l2, ↓e_li, ↓e_sw0, ↓e_sws, ↓e_ceq, ↓e_cne, ↓e_clt, ↓e_cge, ↓e_cgt, ↓e_cle, ↓e_nil, ↓e_cons, ↓e_iconst, ↓e_bipush, ↓e_sipush, ↓e_ldc, ↓e_ldcw, ↓e_ldc2, ↓e_lconst, ↓e_iloadn, ↓e_iload, ↓e_lloadn, ↓e_lload, ↓e_aloadn, ↓e_aload, ↓e_istoren, ↓e_istore, ↓e_astoren, ↓e_astore, ↓e_add, ↓e_iinc, ↓e_iadd, ↓e_isub, ↓e_imul, ↓e_iand, ↓e_ior, ↓e_ixor, ↓e_ishl, ↓e_iushr, ↓e_idiv, ↓e_irem, ↓e_ineg, ↓e_i2l, ↓e_i2b, ↓e_i2s, ↓e_l2i, ↓e_land, ↓e_lor, ↓e_lshl, ↓e_lshr, ↓e_lushr, ↓e_lcmp, ↓e_dupi, ↓e_dupr, ↓e_popi, ↓e_dup2, ↓e_goto, ↓e_if, ↓e_icmp, ↓e_tsw, ↓e_lsw, ↓e_getf, ↓e_putf, ↓e_gets, ↓e_iald, ↓e_cald, ↓e_iast, ↓e_aald, ↓e_aast, ↓e_len, ↓e_copy, ↓e_abs, ↓e_max, ↓e_min, ↓e_iret, ↓e_aret, ↓e_vret, ↓e_is0, ↓e_is1, ↓e_is2, ↓e_is3, ↓e_is4, ↓e_iv1, ↓e_iv2, ↓e_iv3, ↓e_iv4, ↓e_iv5, ↓e_iv6, ↓rt_X9_leastRock, ↓reduceIte, Nat.reduceAdd, Nat.reduceEqDiff, ↓zcl0, ↓zclv, List.map_nil, List.sum_nil, List.map_cons, List.sum_cons, zcat, true_and, and_true, Nat.reduceLeDiff, Nat.reduceAdd, eq_self, forall_const, e_ok0, e_okss, e_ok1i, e_ok1r, e_ok1n, zl_m1, zl_0, zl_1, zl_4, zl_64, zl_1000000, Int.reduceToNat, Int.reduceAdd, Int.reduceMul, Int.reduceSub, Int.reduceNeg, Int.reduceLT, Int.reduceLE, Int.reduceEq, not_false_eq_true, not_true_eq_false, false_implies, true_implies, implies_true, Int.reduceDiv, Int.reduceMod, zr8_zr, zr_zbo, z01_zbo, z01_0, z01_1, zbo_eq0, zup_eq, zup_o, zup_k, ne_eq, ↓ct_wleast_fill, ↓r_fill, ↓B_fill, ↓ct_wleast_wtoll, ↓r_wtoll, ↓B_wtoll, ↓ct_wleast_wcheap, ↓r_wcheap, ↓B_wcheap, ↓ct_wleast_hbeside, ↓r_hbeside, ↓B_hbeside, ↓v_70, ↓g_70_0, ↓g_70_1, ↓l_71, ↓s_71, ↓n_71, ↓g_70_2, ↓l_72, ↓s_72, ↓n_72, ↓g_70_3, ↓l_73, ↓s_73, ↓n_73, za]
    repeat (refine And.intro (by omega) ?_)
    refine ⟨d9, hr2 M2 g2, vd, by omega, by omega, ?_⟩
    refine bs_X9_leastRock_28 hX ?_
    simp only [bk_X9_leastRock_0, k_X9_leastRock_0, bk_X9_leastRock_9, k_X9_leastRock_9, bk_X9_leastRock_17, k_X9_leastRock_17, bk_X9_leastRock_28, k_X9_leastRock_28, bk_X9_leastRock_30, k_X9_leastRock_30, bk_X9_leastRock_36, k_X9_leastRock_36, bk_X9_leastRock_42, k_X9_leastRock_42, bk_X9_leastRock_57, k_X9_leastRock_57, bk_X9_leastRock_65, k_X9_leastRock_65, bk_X9_leastRock_68, k_X9_leastRock_68, bk_X9_leastRock_74, k_X9_leastRock_74, bk_X9_leastRock_83, k_X9_leastRock_83, bk_X9_leastRock_89, k_X9_leastRock_89, bk_X9_leastRock_120, k_X9_leastRock_120, bk_X9_leastRock_126, k_X9_leastRock_126, bk_X9_leastRock_132, k_X9_leastRock_132, ↓e_rk1, ↓e_rk0, ↓e_sk0, ↓e_sks, ↓e_ldi0, ↓e_ldis, ↓e_ldl0, ↓e_ldls, ↓e_lda0, ↓e_ldas, ↓e_ok0, ↓e_okss, ↓e_ok1i, ↓e_ok1r, ↓e_ok1n, ↓e_sti, ↓e_sta, ↓e_1, ↓e_2, ↓e_l1, ↓e_l2, ↓e_li, ↓e_sw0, ↓e_sws, ↓e_ceq, ↓e_cne, ↓e_clt, ↓e_cge, ↓e_cgt, ↓e_cle, ↓e_nil, ↓e_cons, ↓e_iconst, ↓e_bipush, ↓e_sipush, ↓e_ldc, ↓e_ldcw, ↓e_ldc2, ↓e_lconst, ↓e_iloadn, ↓e_iload, ↓e_lloadn, ↓e_lload, ↓e_aloadn, ↓e_aload, ↓e_istoren, ↓e_istore, ↓e_astoren, ↓e_astore, ↓e_add, ↓e_iinc, ↓e_iadd, ↓e_isub, ↓e_imul, ↓e_iand, ↓e_ior, ↓e_ixor, ↓e_ishl, ↓e_iushr, ↓e_idiv, ↓e_irem, ↓e_ineg, ↓e_i2l, ↓e_i2b, ↓e_i2s, ↓e_l2i, ↓e_land, ↓e_lor, ↓e_lshl, ↓e_lshr, ↓e_lushr, ↓e_lcmp, ↓e_dupi, ↓e_dupr, ↓e_popi, ↓e_dup2, ↓e_goto, ↓e_if, ↓e_icmp, ↓e_tsw, ↓e_lsw, ↓e_getf, ↓e_putf, ↓e_gets, ↓e_iald, ↓e_cald, ↓e_iast, ↓e_aald, ↓e_aast, ↓e_len, ↓e_copy, ↓e_abs, ↓e_max, ↓e_min, ↓e_iret, ↓e_aret, ↓e_vret, ↓e_is0, ↓e_is1, ↓e_is2, ↓e_is3, ↓e_is4, ↓e_iv1, ↓e_iv2, ↓e_iv3, ↓e_iv4, ↓e_iv5, ↓e_iv6, ↓rt_X9_leastRock, ↓reduceIte, Nat.reduceAdd, Nat.reduceEqDiff, ↓zcl0, ↓zclv, List.map_nil, List.sum_nil, List.map_cons, List.sum_cons, zcat, true_and, and_true, Nat.reduceLeDiff, Nat.reduceAdd, eq_self, forall_const, e_ok0, e_okss, e_ok1i, e_ok1r, e_ok1n, zl_m1, zl_0, zl_1, zl_4, zl_64, zl_1000000, Int.reduceToNat, Int.reduceAdd, Int.reduceMul, Int.reduceSub, Int.reduceNeg, Int.reduceLT, Int.reduceLE, Int.reduceEq, not_false_eq_true, not_true_eq_false, false_implies, true_implies, implies_true, Int.reduceDiv, Int.reduceMod, zr8_zr, zr_zbo, z01_zbo, z01_0, z01_1, zbo_eq0, zup_eq, zup_o, zup_k, ne_eq, ↓ct_wleast_fill, ↓r_fill, ↓B_fill, ↓ct_wleast_wtoll, ↓r_wtoll, ↓B_wtoll, ↓ct_wleast_wcheap, ↓r_wcheap, ↓B_wcheap, ↓ct_wleast_hbeside, ↓r_hbeside, ↓B_hbeside, ↓v_70, ↓g_70_0, ↓g_70_1, ↓l_71, ↓s_71, ↓n_71, ↓g_70_2, ↓l_72, ↓s_72, ↓n_72, ↓g_70_3, ↓l_73, ↓s_73, ↓n_73]
    refine lp 64 0 _ _ _ _ (by omega) ?_ ?_ (fun x p1 p2 => by rw [zup_ne _ p1, g2 x p1 p2])
    · rw [zup_up, zup_ne _ (by decide)]
      refine ⟨⟨fun k hk => ⟨?_, Or.inl (p72 k hk)⟩, by rw [up1_eq]; exact Int.le_refl _, fun k hk => ?_⟩, fun c u hc hu hs _ => ?_, fun c v hc hv hs => ?_⟩
      · unfold up1; split
        · omega
        · rw [p71 k hk]; omega
      · by_cases q : k = a.toNat
        · subst q
          rw [up1_eq]
          have := hD.1.2.1 (Or.inl rfl)
          rw [if_pos rfl] at this
          exact this
        · rw [up1_ne q, p71 k hk]
          have := (hD.1.1 k hk).2
          omega
      · rw [p72 c hc] at hs; omega
      · rw [p72 c hc] at hs; omega
    · rw [zup_ne _ (by decide)]
      have : ∀ n : Nat, n ≤ 64 → sm (M2 72) n = 0 := by
        intro n
        induction n with
        | zero => intro _; rfl
        | succ n ihn =>
          intro hn
          show sm (M2 72) n + M2 72 n = 0
          rw [ihn (by omega), p72 n (by omega)]
          rfl
      exact this 64 (by omega)
def B_x_join (a : Int) (b : Int) (M : Nat → Nat → Int) (post : Option ZV → (Nat → Nat → Int) → Prop) : Prop := rg a ∧ rg b ∧ ∃ S : ZMm, Vs S ∧ Rc S M ∧ cp M (R_join S a b) post
def C_x_join : ZC := fun as h post => match as with
  | [.inr (.inr (.inl 0)), .inl a, .inl b] => h.1 = zG ∧ B_x_join a b h.2 (fun v M => post v (zG, M))
  | _ => False
theorem r_x_join {a : Int} {b : Int} {M : Nat → Nat → Int} {post : Option ZV → ZH → Prop} : C_x_join [.inr (.inr (.inl 0)), .inl a, .inl b] (zG, M) post = B_x_join a b M (fun v M => post v (zG, M)) := by show (zG = zG ∧ _) = _; simp
def ct_x_join : Nat → ZC := fun n => if n = 111 then C_cbey else if n = 110 then C_cfail else if n = 56 then C_wleast else fun _ _ _ => False
theorem ct_x_join_cbey {as : List ZV} {h : ZH} {post : Option ZV → ZH → Prop} : ct_x_join 111 as h post = C_cbey as h post := rfl
theorem ct_x_join_cfail {as : List ZV} {h : ZH} {post : Option ZV → ZH → Prop} : ct_x_join 110 as h post = C_cfail as h post := rfl
theorem ct_x_join_wleast {as : List ZV} {h : ZH} {post : Option ZV → ZH → Prop} : ct_x_join 56 as h post = C_wleast as h post := rfl
theorem c_x_join {E : ZE} {d : Nat} (hd : 3 ≤ d) : zMet E d mX10_join C_x_join := by
  refine zmet_of (o := 10) (ini := false) (CT := ct_x_join) gd_X10_join rfl (fun h => by cases h) (by omega) ?_ ?_
  · intro n as h post hh
    unfold ct_x_join at hh
    by_cases c : n = 111
    · subst c; exact ⟨gd_X10_isBeyond, 1, by omega, c_cbey (by omega)⟩
    rw [if_neg c] at hh
    by_cases c : n = 110
    · subst c; exact ⟨gd_X10_failed, 1, by omega, c_cfail (by omega)⟩
    rw [if_neg c] at hh
    by_cases c : n = 56
    · subst c; exact ⟨gd_X9_leastRock, 2, by omega, c_wleast (by omega)⟩
    rw [if_neg c] at hh
    exact hh.elim
  intro as h post hC
  match as, hC with
  | [.inr (.inr (.inl 0)), .inl a, .inl b], hC =>
    refine ⟨Nat.le_of_ble_eq_true rfl, fun X hX => bs_X10_join_0 hX ?_⟩
    obtain ⟨G, M⟩ := h
    obtain ⟨hG, hC⟩ := hC
    dsimp only at hG
    subst hG
    simp only [B_x_join] at hC
    show bk_X10_join_0 E ct_x_join X _ [some (.inr (.inr (.inl 0))), some (.inl a), some (.inl b)] [] (zG, M) (0, 0)
    obtain ⟨h1, h2, S, vs9, H, hC⟩ := hC
    have vd : Vd (S 88) := vs9.1
    have n9 := H.1
    have J18 : ¬ ((0 ≤ a ∧ a ≤ 63) ∧ 0 ≤ b ∧ b ≤ 63) → X 18 [some (.inr (.inr (.inl 0))), some (.inl a), some (.inl b)] [] (zG, M) (0, 0) := by
      intro q
      refine bs_X10_join_18 hX ?_
      simp only [bk_X10_join_0, k_X10_join_0, bk_X10_join_9, k_X10_join_9, bk_X10_join_18, k_X10_join_18, bk_X10_join_25, k_X10_join_25, ↓e_rk1, ↓e_rk0, ↓e_sk0, ↓e_sks, ↓e_ldi0, ↓e_ldis, ↓e_ldl0, ↓e_ldls, ↓e_lda0, ↓e_ldas, ↓e_ok0, ↓e_okss, ↓e_ok1i, ↓e_ok1r, ↓e_ok1n, ↓e_sti, ↓e_sta, ↓e_1, ↓e_2, ↓e_l1, ↓e_l2, ↓e_li, ↓e_sw0, ↓e_sws, ↓e_ceq, ↓e_cne, ↓e_clt, ↓e_cge, ↓e_cgt, ↓e_cle, ↓e_nil, ↓e_cons, ↓e_iconst, ↓e_bipush, ↓e_sipush, ↓e_ldc, ↓e_ldcw, ↓e_ldc2, ↓e_lconst, ↓e_iloadn, ↓e_iload, ↓e_lloadn, ↓e_lload, ↓e_aloadn, ↓e_aload, ↓e_istoren, ↓e_istore, ↓e_astoren, ↓e_astore, ↓e_add, ↓e_iinc, ↓e_iadd, ↓e_isub, ↓e_imul, ↓e_iand, ↓e_ior, ↓e_ixor, ↓e_ishl, ↓e_iushr, ↓e_idiv, ↓e_irem, ↓e_ineg, ↓e_i2l, ↓e_i2b, ↓e_i2s, ↓e_l2i, ↓e_land, ↓e_lor, ↓e_lshl, ↓e_lshr, ↓e_lushr, ↓e_lcmp, ↓e_dupi, ↓e_dupr, ↓e_popi, ↓e_dup2, ↓e_goto, ↓e_if, ↓e_icmp, ↓e_tsw, ↓e_lsw, ↓e_getf, ↓e_putf, ↓e_gets, ↓e_iald, ↓e_cald, ↓e_iast, ↓e_aald, ↓e_aast, ↓e_len, ↓e_copy, ↓e_abs, ↓e_max, ↓e_min, ↓e_iret, ↓e_aret, ↓e_vret, ↓e_is0, ↓e_is1, ↓e_is2, ↓e_is3, ↓e_is4, ↓e_iv1, ↓e_iv2, ↓e_iv3, ↓e_iv4, ↓e_iv5, ↓e_iv6, ↓rt_X10_join, ↓reduceIte, Nat.reduceAdd, Nat.reduceEqDiff, ↓zcl0, ↓zclv, List.map_nil, List.sum_nil, List.map_cons, List.sum_cons, zcat, true_and, and_true, Nat.reduceLeDiff, Nat.reduceAdd, eq_self, forall_const, e_ok0, e_okss, e_ok1i, e_ok1r, e_ok1n, zl_m1000000001, zl_63, Int.reduceToNat, Int.reduceAdd, Int.reduceMul, Int.reduceSub, Int.reduceNeg, Int.reduceLT, Int.reduceLE, Int.reduceEq, not_false_eq_true, not_true_eq_false, false_implies, true_implies, implies_true, Int.reduceDiv, Int.reduceMod, zr8_zr, zr_zbo, z01_zbo, z01_0, z01_1, zbo_eq0, zup_eq, zup_o, zup_k, ne_eq, ↓ct_x_join_cbey, ↓r_cbey, ↓B_cbey, ↓ct_x_join_cfail, ↓r_cfail, ↓B_cfail, ↓ct_x_join_wleast, ↓r_wleast, ↓B_wleast, ↓v_0, ↓g_0_0, ↓g_0_1, ↓g_0_2, ↓g_0_3, ↓g_0_4, ↓g_0_5, ↓g_0_6, ↓g_0_7, ↓g_0_8, ↓l_78, ↓s_78, ↓n_78, ↓g_0_9, ↓p_0_9]
      exact ⟨1, by omega, by omega, cp_no hC H vd (by omega) (by unfold R_join; rw [if_neg (by omega)]) rfl⟩
    have J25 : ((0 ≤ a ∧ a ≤ 63) ∧ 0 ≤ b ∧ b ≤ 63) → X 25 [some (.inr (.inr (.inl 0))), some (.inl a), some (.inl b)] [] (zG, M) (0, 0) := by
      intro q
      refine bs_X10_join_25 hX ?_
      simp only [bk_X10_join_0, k_X10_join_0, bk_X10_join_9, k_X10_join_9, bk_X10_join_18, k_X10_join_18, bk_X10_join_25, k_X10_join_25, ↓e_rk1, ↓e_rk0, ↓e_sk0, ↓e_sks, ↓e_ldi0, ↓e_ldis, ↓e_ldl0, ↓e_ldls, ↓e_lda0, ↓e_ldas, ↓e_ok0, ↓e_okss, ↓e_ok1i, ↓e_ok1r, ↓e_ok1n, ↓e_sti, ↓e_sta, ↓e_1, ↓e_2, ↓e_l1, ↓e_l2, ↓e_li, ↓e_sw0, ↓e_sws, ↓e_ceq, ↓e_cne, ↓e_clt, ↓e_cge, ↓e_cgt, ↓e_cle, ↓e_nil, ↓e_cons, ↓e_iconst, ↓e_bipush, ↓e_sipush, ↓e_ldc, ↓e_ldcw, ↓e_ldc2, ↓e_lconst, ↓e_iloadn, ↓e_iload, ↓e_lloadn, ↓e_lload, ↓e_aloadn, ↓e_aload, ↓e_istoren, ↓e_istore, ↓e_astoren, ↓e_astore, ↓e_add, ↓e_iinc, ↓e_iadd, ↓e_isub, ↓e_imul, ↓e_iand, ↓e_ior, ↓e_ixor, ↓e_ishl, ↓e_iushr, ↓e_idiv, ↓e_irem, ↓e_ineg, ↓e_i2l, ↓e_i2b, ↓e_i2s, ↓e_l2i, ↓e_land, ↓e_lor, ↓e_lshl, ↓e_lshr, ↓e_lushr, ↓e_lcmp, ↓e_dupi, ↓e_dupr, ↓e_popi, ↓e_dup2, ↓e_goto, ↓e_if, ↓e_icmp, ↓e_tsw, ↓e_lsw, ↓e_getf, ↓e_putf, ↓e_gets, ↓e_iald, ↓e_cald, ↓e_iast, ↓e_aald, ↓e_aast, ↓e_len, ↓e_copy, ↓e_abs, ↓e_max, ↓e_min, ↓e_iret, ↓e_aret, ↓e_vret, ↓e_is0, ↓e_is1, ↓e_is2, ↓e_is3, ↓e_is4, ↓e_iv1, ↓e_iv2, ↓e_iv3, ↓e_iv4, ↓e_iv5, ↓e_iv6, ↓rt_X10_join, ↓reduceIte, Nat.reduceAdd, Nat.reduceEqDiff, ↓zcl0, ↓zclv, List.map_nil, List.sum_nil, List.map_cons, List.sum_cons, zcat, true_and, and_true, Nat.reduceLeDiff, Nat.reduceAdd, eq_self, forall_const, e_ok0, e_okss, e_ok1i, e_ok1r, e_ok1n, zl_m1000000001, zl_63, Int.reduceToNat, Int.reduceAdd, Int.reduceMul, Int.reduceSub, Int.reduceNeg, Int.reduceLT, Int.reduceLE, Int.reduceEq, not_false_eq_true, not_true_eq_false, false_implies, true_implies, implies_true, Int.reduceDiv, Int.reduceMod, zr8_zr, zr_zbo, z01_zbo, z01_0, z01_1, zbo_eq0, zup_eq, zup_o, zup_k, ne_eq, ↓ct_x_join_cbey, ↓r_cbey, ↓B_cbey, ↓ct_x_join_cfail, ↓r_cfail, ↓B_cfail, ↓ct_x_join_wleast, ↓r_wleast, ↓B_wleast, ↓v_0, ↓g_0_0, ↓g_0_1, ↓g_0_2, ↓g_0_3, ↓g_0_4, ↓g_0_5, ↓g_0_6, ↓g_0_7, ↓g_0_8, ↓l_78, ↓s_78, ↓n_78, ↓g_0_9, ↓p_0_9, ↓v_70, ↓g_70_0, ↓g_70_1, ↓l_71, ↓s_71, ↓n_71, ↓g_70_2, ↓l_72, ↓s_72, ↓n_72, ↓g_70_3, ↓l_73, ↓s_73, ↓n_73]
      refine ⟨by omega, by omega, S 88, n9.1, vd, fun M2 f2 => cp_G hC H vd (fun x p1 p2 p3 => f2 x (by omega) (by omega)) ?_⟩
      unfold R_join
      rw [if_pos q]
    have J9 : (0 ≤ a ∧ a ≤ 63) → X 9 [some (.inr (.inr (.inl 0))), some (.inl a), some (.inl b)] [] (zG, M) (0, 0) := by
      intro q
      refine bs_X10_join_9 hX ?_
      simp only [bk_X10_join_0, k_X10_join_0, bk_X10_join_9, k_X10_join_9, bk_X10_join_18, k_X10_join_18, bk_X10_join_25, k_X10_join_25, ↓e_rk1, ↓e_rk0, ↓e_sk0, ↓e_sks, ↓e_ldi0, ↓e_ldis, ↓e_ldl0, ↓e_ldls, ↓e_lda0, ↓e_ldas, ↓e_ok0, ↓e_okss, ↓e_ok1i, ↓e_ok1r, ↓e_ok1n, ↓e_sti, ↓e_sta, ↓e_1, ↓e_2, ↓e_l1, ↓e_l2, ↓e_li, ↓e_sw0, ↓e_sws, ↓e_ceq, ↓e_cne, ↓e_clt, ↓e_cge, ↓e_cgt, ↓e_cle, ↓e_nil, ↓e_cons, ↓e_iconst, ↓e_bipush, ↓e_sipush, ↓e_ldc, ↓e_ldcw, ↓e_ldc2, ↓e_lconst, ↓e_iloadn, ↓e_iload, ↓e_lloadn, ↓e_lload, ↓e_aloadn, ↓e_aload, ↓e_istoren, ↓e_istore, ↓e_astoren, ↓e_astore, ↓e_add, ↓e_iinc, ↓e_iadd, ↓e_isub, ↓e_imul, ↓e_iand, ↓e_ior, ↓e_ixor, ↓e_ishl, ↓e_iushr, ↓e_idiv, ↓e_irem, ↓e_ineg, ↓e_i2l, ↓e_i2b, ↓e_i2s, ↓e_l2i, ↓e_land, ↓e_lor, ↓e_lshl, ↓e_lshr, ↓e_lushr, ↓e_lcmp, ↓e_dupi, ↓e_dupr, ↓e_popi, ↓e_dup2, ↓e_goto, ↓e_if, ↓e_icmp, ↓e_tsw, ↓e_lsw, ↓e_getf, ↓e_putf, ↓e_gets, ↓e_iald, ↓e_cald, ↓e_iast, ↓e_aald, ↓e_aast, ↓e_len, ↓e_copy, ↓e_abs, ↓e_max, ↓e_min, ↓e_iret, ↓e_aret, ↓e_vret, ↓e_is0, ↓e_is1, ↓e_is2, ↓e_is3, ↓e_is4, ↓e_iv1, ↓e_iv2, ↓e_iv3, ↓e_iv4, ↓e_iv5, ↓e_iv6, ↓rt_X10_join, ↓reduceIte, Nat.reduceAdd, Nat.reduceEqDiff, ↓zcl0, ↓zclv, List.map_nil, List.sum_nil, List.map_cons, List.sum_cons, zcat, true_and, and_true, Nat.reduceLeDiff, Nat.reduceAdd, eq_self, forall_const, e_ok0, e_okss, e_ok1i, e_ok1r, e_ok1n, zl_m1000000001, zl_63, Int.reduceToNat, Int.reduceAdd, Int.reduceMul, Int.reduceSub, Int.reduceNeg, Int.reduceLT, Int.reduceLE, Int.reduceEq, not_false_eq_true, not_true_eq_false, false_implies, true_implies, implies_true, Int.reduceDiv, Int.reduceMod, zr8_zr, zr_zbo, z01_zbo, z01_0, z01_1, zbo_eq0, zup_eq, zup_o, zup_k, ne_eq, ↓ct_x_join_cbey, ↓r_cbey, ↓B_cbey, ↓ct_x_join_cfail, ↓r_cfail, ↓B_cfail, ↓ct_x_join_wleast, ↓r_wleast, ↓B_wleast, ↓v_0, ↓g_0_0, ↓g_0_1, ↓g_0_2, ↓g_0_3, ↓g_0_4, ↓g_0_5, ↓g_0_6, ↓g_0_7, ↓g_0_8, ↓l_78, ↓s_78, ↓n_78, ↓g_0_9, ↓p_0_9, zr_zbo, zbo_eq0]
      repeat' (first | assumption | apply And.intro | intro _)
      all_goals first | omega | (apply J18; omega) | (apply J25; omega)
    simp only [bk_X10_join_0, k_X10_join_0, bk_X10_join_9, k_X10_join_9, bk_X10_join_18, k_X10_join_18, bk_X10_join_25, k_X10_join_25, ↓e_rk1, ↓e_rk0, ↓e_sk0, ↓e_sks, ↓e_ldi0, ↓e_ldis, ↓e_ldl0, ↓e_ldls, ↓e_lda0, ↓e_ldas, ↓e_ok0, ↓e_okss, ↓e_ok1i, ↓e_ok1r, ↓e_ok1n, ↓e_sti, ↓e_sta, ↓e_1, ↓e_2, ↓e_l1, ↓e_l2, ↓e_li, ↓e_sw0, ↓e_sws, ↓e_ceq, ↓e_cne, ↓e_clt, ↓e_cge, ↓e_cgt, ↓e_cle, ↓e_nil, ↓e_cons, ↓e_iconst, ↓e_bipush, ↓e_sipush, ↓e_ldc, ↓e_ldcw, ↓e_ldc2, ↓e_lconst, ↓e_iloadn, ↓e_iload, ↓e_lloadn, ↓e_lload, ↓e_aloadn, ↓e_aload, ↓e_istoren, ↓e_istore, ↓e_astoren, ↓e_astore, ↓e_add, ↓e_iinc, ↓e_iadd, ↓e_isub, ↓e_imul, ↓e_iand, ↓e_ior, ↓e_ixor, ↓e_ishl, ↓e_iushr, ↓e_idiv, ↓e_irem, ↓e_ineg, ↓e_i2l, ↓e_i2b, ↓e_i2s, ↓e_l2i, ↓e_land, ↓e_lor, ↓e_lshl, ↓e_lshr, ↓e_lushr, ↓e_lcmp, ↓e_dupi, ↓e_dupr, ↓e_popi, ↓e_dup2, ↓e_goto, ↓e_if, ↓e_icmp, ↓e_tsw, ↓e_lsw, ↓e_getf, ↓e_putf, ↓e_gets, ↓e_iald, ↓e_cald, ↓e_iast, ↓e_aald, ↓e_aast, ↓e_len, ↓e_copy, ↓e_abs, ↓e_max, ↓e_min, ↓e_iret, ↓e_aret, ↓e_vret, ↓e_is0, ↓e_is1, ↓e_is2, ↓e_is3, ↓e_is4, ↓e_iv1, ↓e_iv2, ↓e_iv3, ↓e_iv4, ↓e_iv5, ↓e_iv6, ↓rt_X10_join, ↓reduceIte, Nat.reduceAdd, Nat.reduceEqDiff, ↓zcl0, ↓zclv, List.map_nil, List.sum_nil, List.map_cons, List.sum_cons, zcat, true_and, and_true, Nat.reduceLeDiff, Nat.reduceAdd, eq_self, forall_const, e_ok0, e_okss, e_ok1i, e_ok1r, e_ok1n, zl_m1000000001, zl_63, Int.reduceToNat, Int.reduceAdd, Int.reduceMul, Int.reduceSub, Int.reduceNeg, Int.reduceLT, Int.reduceLE, Int.reduceEq, not_false_eq_true, not_true_eq_false, false_implies, true_implies, implies_true, Int.reduceDiv, Int.reduceMod, zr8_zr, zr_zbo, z01_zbo, z01_0, z01_1, zbo_eq0, zup_eq, zup_o, zup_k, ne_eq, ↓ct_x_join_cbey, ↓r_cbey, ↓B_cbey, ↓ct_x_join_cfail, ↓r_cfail, ↓B_cfail, ↓ct_x_join_wleast, ↓r_wleast, ↓B_wleast, ↓v_0, ↓g_0_0, ↓g_0_1, ↓g_0_2, ↓g_0_3, ↓g_0_4, ↓g_0_5, ↓g_0_6, ↓g_0_7, ↓g_0_8, ↓l_78, ↓s_78, ↓n_78, ↓g_0_9, ↓p_0_9, zr_zbo, zbo_eq0]
    repeat' (first | assumption | apply And.intro | intro _)
    all_goals first | omega | (apply J18; omega) | (apply J9; omega)
