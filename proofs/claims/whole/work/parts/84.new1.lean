/-! CONSTRUCTORS: the heap is (G0 ++ L, M), L what was made since -/
def qck (L : List ZG) (j ci k : Nat) : Bool := match L[j]? with
  | some (.inl o) => o.1 == ci && (match o.2[k]? with
    | some (some _) => true
    | _ => false)
  | _ => false
def qsf (L : List ZG) (j k t : Nat) : List ZG := match L[j]? with
  | some (.inl o) => L.set j (.inl (o.1, o.2.set k (some (some t))))
  | _ => L
def qci (L : List ZG) (j ci k : Nat) : Bool := match L[j]? with
  | some (.inl o) => o.1 == ci && (match o.2[k]? with
    | some none => true
    | _ => false)
  | _ => false
theorem q_at {G0 L : List ZG} {j : Nat} : (G0 ++ L)[G0.length + j]? = L[j]? := by
  rw [List.getElem?_append_right (by omega), Nat.add_sub_cancel_left]
theorem q_set {G0 L : List ZG} {j : Nat} {c : ZG} : (G0 ++ L).set (G0.length + j) c = G0 ++ L.set j c := by
  rw [List.set_append_right _ _ (by omega), Nat.add_sub_cancel_left]
section
variable {E : ZE} {CT : Nat → ZC} {c : Int} {l : List Nat} {tb : List (Int × Nat)} {ls : ZL} {st r : List ZV} {h : ZH} {b : ZB2} {N : ZN} {K : ZK} {Rt : ZR} {G0 L : List ZG} {M : Nat → Nat → Int}
theorem q_new {x ci : Nat} : zi E CT (.new x) (c, ci :: l, tb) ls st (G0 ++ L, M) b N K Rt = (1 ≤ b.1 ∧ (zfl ci).length ≤ b.2 ∧ N ls (.inr (.inr (.inl (G0.length + L.length))) :: st) (G0 ++ (L ++ [.inl (ci, zfl ci)]), zro M (G0.length + L.length)) (b.1 - 1, b.2 - (zfl ci).length)) := by
  show (1 ≤ b.1 ∧ (zfl ci).length ≤ b.2 ∧ N ls (.inr (.inr (.inl (G0 ++ L).length)) :: st) ((G0 ++ L) ++ [.inl (ci, zfl ci)], zro M (G0 ++ L).length) (b.1 - 1, b.2 - (zfl ci).length)) = _
  rw [List.length_append, List.append_assoc]
theorem q_na {t : ArrayType} {n : Int} {a : ZX} {k : Nat} (hn : zr n = (k : Int)) (hk : k ≤ 1000) : zi E CT (.newarray t) a ls (.inl n :: r) (G0 ++ L, M) b N K Rt = (1 ≤ b.1 ∧ k ≤ b.2 ∧ N ls (.inr (.inr (.inl (G0.length + L.length))) :: r) (G0 ++ (L ++ [.inr (.inl k)]), zro M (G0.length + L.length)) (b.1 - 1, b.2 - k)) := by
  show (1 ≤ b.1 ∧ 0 ≤ zr n ∧ zr n ≤ 1000 ∧ (zr n).toNat ≤ b.2 ∧ N ls (.inr (.inr (.inl (G0 ++ L).length)) :: r) ((G0 ++ L) ++ [.inr (.inl (zr n).toNat)], zro M (G0 ++ L).length) (b.1 - 1, b.2 - (zr n).toNat)) = _
  rw [List.length_append, List.append_assoc, hn]
  have e1 : (0 : Int) ≤ (k : Int) := by omega
  have e2 : (k : Int) ≤ 1000 := by omega
  simp only [e1, e2, true_and, Int.toNat_natCast]
theorem q_ra {x : Nat} {n : Int} {a : ZX} {k : Nat} (hn : zr n = (k : Int)) (hk : k ≤ 1000) : zi E CT (.anewarray x) a ls (.inl n :: r) (G0 ++ L, M) b N K Rt = (1 ≤ b.1 ∧ k ≤ b.2 ∧ N ls (.inr (.inr (.inl (G0.length + L.length))) :: r) (G0 ++ (L ++ [.inr (.inr (k, fun _ => none))]), zro M (G0.length + L.length)) (b.1 - 1, b.2 - k)) := by
  show (1 ≤ b.1 ∧ 0 ≤ zr n ∧ zr n ≤ 1000 ∧ (zr n).toNat ≤ b.2 ∧ N ls (.inr (.inr (.inl (G0 ++ L).length)) :: r) ((G0 ++ L) ++ [.inr (.inr ((zr n).toNat, fun _ => none))], zro M (G0 ++ L).length) (b.1 - 1, b.2 - (zr n).toNat)) = _
  rw [List.length_append, List.append_assoc, hn]
  have e1 : (0 : Int) ≤ (k : Int) := by omega
  have e2 : (k : Int) ≤ 1000 := by omega
  simp only [e1, e2, true_and, Int.toNat_natCast]
theorem q_ob {x t : Nat} : zi E CT (.invokespecial x) (c, [], tb) ls (.inr (.inr (.inl t)) :: r) h b N K Rt = ((r.map zcat).sum ≤ 8 ∧ N ls r h b) := rfl
theorem q_i1 {x n mc ci t : Nat} : zi E CT (.invokespecial x) (c, n :: 1 :: mc :: ci :: l, tb) ls (.inr (.inr (.inl t)) :: r) h b N K Rt = ((r.map zcat).sum ≤ 8 ∧ mc ≤ b.1 ∧ c.toNat ≤ b.2 ∧ CT n [.inr (.inr (.inl t))] h (fun v h' => zrk v r (fun st => N ls st h' (b.1 - mc, b.2 - c.toNat)))) := by
  show zinv CT 2 (c, n :: 1 :: mc :: ci :: l, tb) ls (.inr (.inr (.inl t)) :: r) h b N = _
  unfold zinv zrk
  simp [zisr]
theorem q_i2 {x n mc ci t : Nat} {v1 : ZV} : zi E CT (.invokespecial x) (c, n :: 2 :: mc :: ci :: l, tb) ls (v1 :: .inr (.inr (.inl t)) :: r) h b N K Rt = ((r.map zcat).sum ≤ 8 ∧ mc ≤ b.1 ∧ c.toNat ≤ b.2 ∧ CT n [.inr (.inr (.inl t)), v1] h (fun v h' => zrk v r (fun st => N ls st h' (b.1 - mc, b.2 - c.toNat)))) := by
  show zinv CT 2 (c, n :: 2 :: mc :: ci :: l, tb) ls (v1 :: .inr (.inr (.inl t)) :: r) h b N = _
  unfold zinv zrk
  simp [zisr]
theorem q_i5 {x n mc ci t : Nat} {v1 v2 v3 v4 : ZV} : zi E CT (.invokespecial x) (c, n :: 5 :: mc :: ci :: l, tb) ls (v4 :: v3 :: v2 :: v1 :: .inr (.inr (.inl t)) :: r) h b N K Rt = ((r.map zcat).sum ≤ 8 ∧ mc ≤ b.1 ∧ c.toNat ≤ b.2 ∧ CT n [.inr (.inr (.inl t)), v1, v2, v3, v4] h (fun v h' => zrk v r (fun st => N ls st h' (b.1 - mc, b.2 - c.toNat)))) := by
  show zinv CT 2 (c, n :: 5 :: mc :: ci :: l, tb) ls (v4 :: v3 :: v2 :: v1 :: .inr (.inr (.inl t)) :: r) h b N = _
  unfold zinv zrk
  simp [zisr]
theorem q_pf {ci k t j : Nat} {kk : List ZV → ZH → Prop} : zpf (G0 ++ L, M) ci k 2 (.inr (.inr (.inl t)) :: .inr (.inr (.inl (G0.length + j))) :: r) kk = (qck L j ci k = true ∧ kk r (G0 ++ qsf L j k t, M)) := by
  unfold zpf qck qsf
  dsimp only
  rw [q_at]
  cases hL : L[j]? with
  | none => simp
  | some cl =>
    cases cl with
    | inr _ => simp
    | inl ob =>
      dsimp only
      cases hk : ob.2[k]? with
      | none => simp
      | some f =>
        cases f with
        | none => simp
        | some q => simp [q_set]
theorem q_pi {ci k j : Nat} {z : Int} {kk : List ZV → ZH → Prop} : zpf (G0 ++ L, M) ci k 0 (.inl z :: .inr (.inr (.inl (G0.length + j))) :: r) kk = (qci L j ci k = true ∧ kk r (G0 ++ L, zup M (G0.length + j) k z)) := by
  unfold zpf qci
  dsimp only
  rw [q_at]
  cases hL : L[j]? with
  | none => simp
  | some cl =>
    cases cl with
    | inr _ => simp
    | inl ob =>
      dsimp only
      cases hk : ob.2[k]? with
      | none => simp
      | some f =>
        cases f with
        | none => simp
        | some q => simp
theorem q_gf {ci k j t : Nat} {fs : List (Option (Option Nat))} {kk : List ZV → Prop} (hL : L[j]? = some (.inl (ci, fs))) (hk : fs[k]? = some (some (some t))) : zgf (G0 ++ L, M) ci k (.inr (.inr (.inl (G0.length + j))) :: r) kk = kk (.inr (.inr (.inl t)) :: r) := by
  unfold zgf
  dsimp only
  rw [q_at, hL]
  dsimp only
  rw [hk]
  simp
theorem q_as {j n : Nat} {z i : Int} {kk : List ZV → ZH → Prop} (hL : L[j]? = some (.inr (.inl n))) : zas (G0 ++ L, M) (.inl z :: .inl i :: .inr (.inr (.inl (G0.length + j))) :: r) kk = (0 ≤ zr i ∧ zr i < n ∧ kk r (G0 ++ L, zup M (G0.length + j) (zr i).toNat z)) := by
  unfold zas
  dsimp only
  rw [q_at, hL]
theorem q_aas {j t n : Nat} {f : Nat → Option Nat} {x : Nat × List (Option (Option Nat))} {i : Int} {kk : List ZV → ZH → Prop} (hL : L[j]? = some (.inr (.inr (n, f)))) (ht : L[t]? = some (.inl x)) (hx : x.1 = 7) : zaas (G0 ++ L, M) (.inr (.inr (.inl (G0.length + t))) :: .inl i :: .inr (.inr (.inl (G0.length + j))) :: r) kk = (0 ≤ zr i ∧ zr i < n ∧ kk r (G0 ++ L.set j (.inr (.inr (n, va_up f (zr i).toNat (some (G0.length + t))))), M)) := by
  unfold zaas
  dsimp only
  rw [q_at, q_at, hL, ht]
  dsimp only
  rw [q_set]
  simp [hx]
theorem q_rv {j ci : Nat} {fs : List (Option (Option Nat))} (hL : L[j]? = some (.inl (ci, fs))) : zrecv (G0 ++ L, M) (.inr (.inr (.inl (G0.length + j))) :: r) ci = True := by
  unfold zrecv
  dsimp only
  rw [q_at, hL]
  simp
end
/-- the rows of the n cells made since say v, those before are as they were -/
def Zvq (g n : Nat) (v : Nat → Nat → Int) (M0 M : ZMm) : Prop := (∀ x, x < g → M x = M0 x) ∧ ∀ j k, j < n → M (g + j) k = v j k
theorem Zvq.new {g n : Nat} {v : Nat → Nat → Int} {M0 M : ZMm} (h : Zvq g n v M0 M) (hv : ∀ k, v n k = 0) : Zvq g (n + 1) v M0 (zro M (g + n)) := by
  refine ⟨fun x hx => by rw [zro_ne _ (by omega)]; exact h.1 x hx, fun j k hj => ?_⟩
  by_cases e : j = n
  · subst e
    rw [hv]
    simp [zro]
  · rw [zro_ne _ (by omega)]
    exact h.2 j k (by omega)
theorem Zvq.call {g n m : Nat} {v v' : Nat → Nat → Int} {M0 M M' : ZMm} (h : Zvq g n v M0 M) (h1 : Zvq (g + n) m v' M M') (hv : ∀ j k, j < m → v (n + j) k = v' j k) : Zvq g (n + m) v M0 M' := by
  refine ⟨fun x hx => by rw [h1.1 x (by omega)]; exact h.1 x hx, fun j k hj => ?_⟩
  by_cases e : j < n
  · rw [h1.1 _ (by omega)]
    exact h.2 j k e
  · have := h1.2 (j - n) k (by omega)
    rw [show g + n + (j - n) = g + j by omega] at this
    rw [this, ← hv (j - n) k (by omega), show n + (j - n) = j by omega]
theorem Zvq.put {g n : Nat} {v v' : Nat → Nat → Int} {M0 M : ZMm} (h : Zvq g n v M0 M) {j k : Nat} {z : Int} (hv : ∀ a b, v' a b = if a = j ∧ b = k then z else v a b) : Zvq g n v' M0 (zup M (g + j) k z) := by
  refine ⟨fun x hx => by rw [zup_ne _ (by omega)]; exact h.1 x hx, fun a b ha => ?_⟩
  rw [hv]
  unfold zup
  by_cases e : a = j ∧ b = k
  · rw [if_pos e, if_pos (by omega)]
  · rw [if_neg e, if_neg (by omega)]
    exact h.2 a b ha
theorem Zvq.cg {g n : Nat} {v v' : Nat → Nat → Int} {M0 M : ZMm} (h : Zvq g n v M0 M) (hv : ∀ j k, j < n → v' j k = v j k) : Zvq g n v' M0 M := ⟨h.1, fun j k hj => by rw [hv j k hj]; exact h.2 j k hj⟩
def z00 : Nat → Nat → Int := fun _ _ => 0
theorem Zvq.one {g : Nat} {v : Nat → Nat → Int} {M : ZMm} (hv : ∀ k, v 0 k = 0) (h : ∀ k, M g k = 0) : Zvq g 1 v M M := ⟨fun _ _ => rfl, fun j k hj => by rw [show j = 0 by omega, hv]; exact h k⟩
theorem Zvq.wk {g n : Nat} {v : Nat → Nat → Int} {M0 M : ZMm} (h : Zvq g (n + 1) v M0 M) : Zvq g n v M0 M := ⟨h.1, fun j k hj => h.2 j k (by omega)⟩
theorem zro_self {M : ZMm} {a k : Nat} : zro M a a k = 0 := by simp [zro]
theorem Zvq.callN {g n m : Nat} {v v' : Nat → Nat → Int} {M0 M M' : ZMm} (h : Zvq g n v M0 M) (h1 : Zvq (g + n) m v' (zro M (g + n)) M') (hv : ∀ j k, j < m → v (n + j) k = v' j k) : Zvq g (n + m) v M0 M' := Zvq.call h ⟨fun x hx => (h1.1 x hx).trans (zro_ne _ (by omega)), h1.2⟩ hv

theorem nn_2 : zr 2 = ((2 : Nat) : Int) := rfl
theorem nn_3 : zr 3 = ((3 : Nat) : Int) := rfl
theorem nn_4 : zr 4 = ((4 : Nat) : Int) := rfl
theorem nn_6 : zr 6 = ((6 : Nat) : Int) := rfl
theorem nn_8 : zr 8 = ((8 : Nat) : Int) := rfl
theorem nn_20 : zr 20 = ((20 : Nat) : Int) := rfl
theorem nn_40 : zr 40 = ((40 : Nat) : Int) := rfl
theorem nn_50 : zr 50 = ((50 : Nat) : Int) := rfl
theorem nn_60 : zr 60 = ((60 : Nat) : Int) := rfl
theorem nn_64 : zr 64 = ((64 : Nat) : Int) := rfl
theorem nn_160 : zr 160 = ((160 : Nat) : Int) := rfl
theorem nn_186 : zr 186 = ((186 : Nat) : Int) := rfl
theorem nn_358 : zr 358 = ((358 : Nat) : Int) := rfl
def k_X5_init_0 : List ZI := [(.aload_n 0, 1, (0, [0], [])), (.invokespecial 1, 3, (0, [], [])), (.aload_n 0, 1, (0, [0], [])), (.iconst 0, 1, (0, [], [])), (.iload_n 1, 1, (0, [1], [])), (.invokestatic 7, 3, (0, [1], [])), (.newarray .int, 2, (0, [], [])), (.putfield 13, 3, (2, [5, 0], [])), (.return_, 1, (0, [], []))]
theorem ok_X5_init_0 : zOK cX5_init 5 true 2 k_X5_init_0 0 = true := zOK_by (by decide +kernel)
def bk_X5_init_0 (E : ZE) (CT : Nat → ZC) (X : ZK) (Rt : ZR) (ls : ZL) (st : List ZV) (h : ZH) (b : ZB2) : Prop := zB E CT k_X5_init_0 0 ls st h b (fun t ls st h b => X t ls st h b) Rt
theorem bs_X5_init_0 {E : ZE} {CT : Nat → ZC} {X : ZK} {Rt : ZR} {ls : ZL} {st : List ZV} {h : ZH} {b : ZB2} (hX : zCl E mX5_init 5 true CT Rt X) (q : bk_X5_init_0 E CT X Rt ls st h b) : X 0 ls st h b := by
  refine hX k_X5_init_0 0 ok_X5_init_0 _ ?_ ls st h b q
  exact fun t ls st h b q => q
-- X5_init: cuts []
theorem rt_X5_init {g : Nat} {post : Option ZV → ZH → Prop} {h : ZH} {b : ZB2} : zRt mX5_init g post none h b = (post none h ∧ h.1.length = g + 1) := by show (_ ∧ _ ∧ True) = _; simp
def LRow (o n : Nat) : List ZG := [.inl (5, [some (some (o + 1)), none]), .inr (.inl n)]
def C_i5 : ZC := fun as h post => match as with
  | [.inr (.inr (.inl o)), .inl z] => ∃ G0 : List ZG, h.1 = G0 ++ [.inl (5, zfl 5)] ∧ o = G0.length ∧ (0 ≤ z ∧ z ≤ 50) ∧ (∀ k, h.2 o k = 0) ∧ ∀ M2 : ZMm, Zvq o 2 z00 h.2 M2 → post none (G0 ++ LRow o z.toNat, M2)
  | _ => False
theorem u_i5 {z : Int} {G0 L : List ZG} {M : ZMm} {post : Option ZV → ZH → Prop} (hp : (0 ≤ z ∧ z ≤ 50)) (h0 : ∀ k, M (G0.length + L.length) k = 0) (h : ∀ M2 : ZMm, Zvq (G0.length + L.length) 2 z00 M M2 → post none (G0 ++ (L ++ LRow (G0.length + L.length) z.toNat), M2)) : C_i5 [.inr (.inr (.inl (G0.length + L.length))), .inl z] (G0 ++ (L ++ [.inl (5, zfl 5)]), M) post := by
  refine ⟨G0 ++ L, (List.append_assoc ..).symm, (List.length_append ..).symm, hp, h0, fun M2 z => ?_⟩
  rw [List.append_assoc]
  exact h M2 z
-- known: i5 X5_init 1 r:o
def ct_i5 : Nat → ZC := fun n => fun _ _ _ => False
theorem c_i5 {E : ZE} {d : Nat} (hd : 1 ≤ d) : zMet E d mX5_init C_i5 := by
  refine zmet_of (o := 5) (ini := true) (CT := ct_i5) gd_X5_init rfl (fun _ => rfl) (by omega) ?_ ?_
  · intro n as h post hh
    unfold ct_i5 at hh
    exact hh.elim
  intro as h post hC
  match as, hC with
  | [.inr (.inr (.inl o)), .inl z], hC =>
    refine ⟨Nat.le_of_ble_eq_true rfl, fun X hX => bs_X5_init_0 hX ?_⟩
    obtain ⟨G, M⟩ := h
    obtain ⟨G0, hG, ho, hz, h0, hC⟩ := hC
    dsimp only at hG h0 hC
    subst hG
    subst ho
    have zz : zr z = (z.toNat : Int) := by rw [zr_of (by omega) (by omega)]; omega
    have z0 : zr 0 = 0 := rfl
    have zm9 : zr (if zr 0 < zr z then z else 0) = (z.toNat : Int) := by rw [z0, zz]; split <;> omega
    have zk9 : z.toNat ≤ 1000 := by omega
    show bk_X5_init_0 E ct_i5 X _ [some (.inr (.inr (.inl (G0.length + 0)))), some (.inl z)] [] (G0 ++ [.inl (5, zfl 5)], M) (1, 50)
    simp only [bk_X5_init_0, k_X5_init_0, ↓e_rk1, ↓e_rk0, ↓e_sk0, ↓e_sks, ↓e_ldi0, ↓e_ldis, ↓e_ldl0, ↓e_ldls, ↓e_lda0, ↓e_ldas, ↓e_ok0, ↓e_okss, ↓e_ok1i, ↓e_ok1r, ↓e_ok1n, ↓e_sti, ↓e_sta, ↓e_1, ↓e_2, ↓e_l1, ↓e_l2, ↓e_li, ↓e_sw0, ↓e_sws, ↓e_ceq, ↓e_cne, ↓e_clt, ↓e_cge, ↓e_cgt, ↓e_cle, ↓e_nil, ↓e_cons, ↓e_iconst, ↓e_bipush, ↓e_sipush, ↓e_ldc, ↓e_ldcw, ↓e_ldc2, ↓e_lconst, ↓e_iloadn, ↓e_iload, ↓e_lloadn, ↓e_lload, ↓e_aloadn, ↓e_aload, ↓e_istoren, ↓e_istore, ↓e_astoren, ↓e_astore, ↓e_add, ↓e_iinc, ↓e_iadd, ↓e_isub, ↓e_imul, ↓e_iand, ↓e_ior, ↓e_ixor, ↓e_ishl, ↓e_iushr, ↓e_idiv, ↓e_irem, ↓e_ineg, ↓e_i2l, ↓e_i2b, ↓e_i2s, ↓e_l2i, ↓e_land, ↓e_lor, ↓e_lshl, ↓e_lshr, ↓e_lushr, ↓e_lcmp, ↓e_dupi, ↓e_dupr, ↓e_popi, ↓e_dup2, ↓e_goto, ↓e_if, ↓e_icmp, ↓e_tsw, ↓e_lsw, ↓e_getf, ↓e_putf, ↓e_gets, ↓e_iald, ↓e_cald, ↓e_iast, ↓e_aald, ↓e_aast, ↓e_len, ↓e_copy, ↓e_abs, ↓e_max, ↓e_min, ↓e_iret, ↓e_aret, ↓e_vret, ↓e_is0, ↓e_is1, ↓e_is2, ↓e_is3, ↓e_is4, ↓e_iv1, ↓e_iv2, ↓e_iv3, ↓e_iv4, ↓e_iv5, ↓e_iv6, ↓rt_X5_init, ↓reduceIte, Nat.reduceAdd, Nat.reduceEqDiff, ↓zcl0, ↓zclv, List.map_nil, List.sum_nil, List.map_cons, List.sum_cons, zcat, true_and, and_true, Nat.reduceLeDiff, Nat.reduceAdd, eq_self, forall_const, e_ok0, e_okss, e_ok1i, e_ok1r, e_ok1n, zl_0, Int.reduceToNat, Int.reduceAdd, Int.reduceMul, Int.reduceSub, Int.reduceNeg, Int.reduceLT, Int.reduceLE, Int.reduceEq, not_false_eq_true, not_true_eq_false, false_implies, true_implies, implies_true, Int.reduceDiv, Int.reduceMod, zr8_zr, zr_zbo, z01_zbo, z01_0, z01_1, zbo_eq0, zup_eq, zup_o, zup_k, ne_eq, ↓q_new, ↓q_ob, ↓q_i1, ↓q_i2, ↓q_i5, ↓q_pf, ↓q_pi, Nat.reduceSub, ↓q_na zm9 zk9]
    repeat (refine And.intro (by first | rfl | decide | omega) ?_)
    refine ⟨hC _ ?_, ?_⟩
    · exact (Zvq.one (v := z00) (fun _ => rfl) h0).new (n := 1) (fun _ => rfl)
    · simp only [List.length_append]; rfl
