/-! THE ENGINE IS SOUND: whole instructions, blocks, methods -/
section ZStep
variable {E : ZE} {p : Program} {e : Env} {R : Room} {s : State} {m : MethodId} {args : Array Value} {below : List Frame} {meth : Method} {c : Code} {Q : State → Prop}
variable {o nL d g0 mc ms : Nat} {cc : ByteArray} {ini : Bool} {CT : Nat → ZC} {K : ZK} {Rt : ZR}
def zRetOK (E : ZE) (p : Program) (e : Env) (R : Room) (s : State) (m : MethodId) (args : Array Value) (below : List Frame) (meth : Method) (c : Code) (Q : State → Prop) (nL g0 mc ms : Nat) (cc : ByteArray) (Rt : ZR) : Prop :=
  ∀ (pc : Nat) (ls : ZL) (h : ZH) (b : ZB2), (∀ z, Rt (some (.inl z)) h b → decode cc pc = .ok (.ireturn, 1) → zW E p e R s m args below meth c Q nL g0 mc ms pc ls [.inl z] h b) ∧ (∀ k, Rt (some (.inr (.inr (.inl k)))) h b → decode cc pc = .ok (.areturn, 1) → zW E p e R s m args below meth c Q nL g0 mc ms pc ls [.inr (.inr (.inl k))] h b) ∧ (Rt none h b → decode cc pc = .ok (.return_, 1) → zW E p e R s m args below meth c Q nL g0 mc ms pc ls [] h b)
theorem zldi_of {ls : ZL} {i : Nat} {k : ZV → Prop} (h : zldi ls i k) : ∃ z, ls[i]? = some (some (.inl z)) ∧ k (.inl z) := by
  unfold zldi at h
  split at h
  next z hz => exact ⟨z, hz, h⟩
  next => exact h.elim
theorem zldl_of {ls : ZL} {i : Nat} {k : ZV → Prop} (h : zldl ls i k) : ∃ z, ls[i]? = some (some (.inr (.inl z))) ∧ k (.inr (.inl z)) := by
  unfold zldl at h
  split at h
  next z hz => exact ⟨z, hz, h⟩
  next => exact h.elim
theorem zlda_of {ls : ZL} {i : Nat} {k : ZV → Prop} (h : zlda ls i k) : ∃ v, ls[i]? = some (some (.inr (.inr v))) ∧ k (.inr (.inr v)) := by
  unfold zlda at h
  split at h
  next z hz => exact ⟨z, hz, h⟩
  next => exact h.elim
theorem zsti_of {ls : ZL} {i : Nat} {st : List ZV} {k : ZL → List ZV → Prop} (h : zsti ls i st k) : ∃ z r, st = .inl z :: r ∧ zok ls i ∧ k (ls.set i (some (.inl z))) r := by
  match st, h with
  | .inl z :: r, h => exact ⟨z, r, rfl, h⟩
theorem zsta_of {ls : ZL} {i : Nat} {st : List ZV} {k : ZL → List ZV → Prop} (h : zsta ls i st k) : ∃ v r, st = .inr (.inr v) :: r ∧ zok ls i ∧ k (ls.set i (some (.inr (.inr v)))) r := by
  match st, h with
  | .inr (.inr v) :: r, h => exact ⟨v, r, rfl, h⟩
theorem z1_of {st : List ZV} {k : Int → List ZV → Prop} (h : z1 st k) : ∃ x r, st = .inl x :: r ∧ k x r := by
  match st, h with
  | .inl x :: r, h => exact ⟨x, r, rfl, h⟩
theorem z2_of {st : List ZV} {k : Int → Int → List ZV → Prop} (h : z2 st k) : ∃ x y r, st = .inl y :: .inl x :: r ∧ k x y r := by
  match st, h with
  | .inl y :: .inl x :: r, h => exact ⟨x, y, r, rfl, h⟩
theorem zl1_of {st : List ZV} {k : Int → List ZV → Prop} (h : zl1 st k) : ∃ x r, st = .inr (.inl x) :: r ∧ k x r := by
  match st, h with
  | .inr (.inl x) :: r, h => exact ⟨x, r, rfl, h⟩
theorem zl2_of {st : List ZV} {k : Int → Int → List ZV → Prop} (h : zl2 st k) : ∃ x y r, st = .inr (.inl y) :: .inr (.inl x) :: r ∧ k x y r := by
  match st, h with
  | .inr (.inl y) :: .inr (.inl x) :: r, h => exact ⟨x, y, r, rfl, h⟩
theorem zli_of {st : List ZV} {k : Int → Int → List ZV → Prop} (h : zli st k) : ∃ x y r, st = .inl y :: .inr (.inl x) :: r ∧ k x y r := by
  match st, h with
  | .inl y :: .inr (.inl x) :: r, h => exact ⟨x, y, r, rfl, h⟩
theorem zgf_of {h : ZH} {ci k : Nat} {st : List ZV} {kk : List ZV → Prop} {E : ZE} (hh : zgf h ci k st kk) : ∃ a r ob fk v, st = .inr (.inr (.inl a)) :: r ∧ h.1[a]? = some (.inl ob) ∧ ob.1 = ci ∧ ob.2[k]? = some fk ∧ zf E (h.2 a) k fk = zc E v ∧ kk (v :: r) := by
  unfold zgf at hh
  match st, hh with
  | .inr (.inr (.inl a)) :: r, hh =>
    dsimp only at hh
    split at hh
    next ob hob =>
      obtain ⟨e1, hh⟩ := hh
      split at hh
      next hk => exact ⟨a, r, ob, none, _, rfl, hob, e1, hk, rfl, hh⟩
      next t hk => exact ⟨a, r, ob, some (some t), _, rfl, hob, e1, hk, rfl, hh⟩
      next => exact hh.elim
    next => exact hh.elim
theorem zi_sound {pc len : Nat} {i : Instr} {a : ZX} {ls : ZL} {st : List ZV} {h : ZH} {b : ZB2} {N : ZN} (F : zF E p R s m args c (zon o) cc nL d g0 mc ms) (hini : ini = true → meth.name = "<init>") (hRet : zRetOK E p e R s m args below meth c Q nL g0 mc ms cc Rt) (hCT : ∀ n as h post, CT n as h post → zCall E d (zm n) (CT n))
    (hd : decode cc pc = .ok (i, len)) (hck : zck o ini nL pc i len a = true) (hN : ∀ ls st h b, N ls st h b → zW E p e R s m args below meth c Q nL g0 mc ms (pc + len) ls st h b) (hK : ∀ t ls st h b, K t ls st h b → zW E p e R s m args below meth c Q nL g0 mc ms t ls st h b)
    (hz : zi E CT i a ls st h b N K Rt) : zW E p e R s m args below meth c Q nL g0 mc ms pc ls st h b := by
  have FF := F
  obtain ⟨⟨hx, hb, hml, hown, hts⟩, -⟩ := F
  cases i
  case iconst n =>
    simp only [zck, beq_iff_eq] at hck; subst hck
    exact zpure (hN _ _ _ _ hz) (fun lc _ k => lv_iconst hx hb hd rfl k)
  case bipush n =>
    simp only [zck, beq_iff_eq, Bool.and_eq_true, decide_eq_true_eq] at hck; obtain ⟨rfl, hck⟩ := hck
    exact zpure (hN _ _ _ _ hz) (fun lc _ k => lv_bipush hx hb hd hck k)
  case sipush n =>
    simp only [zck, beq_iff_eq, Bool.and_eq_true, decide_eq_true_eq] at hck; obtain ⟨rfl, hck⟩ := hck
    exact zpure (hN _ _ _ _ hz) (fun lc _ k => lv_sipush hx hb hd hck k)
  case ldc x =>
    simp only [zck, beq_iff_eq, Bool.and_eq_true, decide_eq_true_eq] at hck; obtain ⟨rfl, hck⟩ := hck
    exact zpure (hN _ _ _ _ hz) (fun lc _ k => lv_ldc hx hb hown (hts _ (zKT_ok o _ hck)) hd k)
  case ldc_w x =>
    simp only [zck, beq_iff_eq, Bool.and_eq_true, decide_eq_true_eq] at hck; obtain ⟨rfl, hck⟩ := hck
    exact zpure (hN _ _ _ _ hz) (fun lc _ k => lv_ldcw hx hb hown (hts _ (zKT_ok o _ hck)) hd k)
  case ldc2_w x =>
    simp only [zck, beq_iff_eq, Bool.and_eq_true, decide_eq_true_eq] at hck; obtain ⟨rfl, hck⟩ := hck
    exact zpure (hN _ _ _ _ hz) (fun lc _ k => lv_ldc2 hx hb hown (hts _ (zLT_ok o _ hck)) hd k)
  case lconst n =>
    simp only [zck, beq_iff_eq, Bool.and_eq_true, decide_eq_true_eq] at hck; obtain ⟨rfl, hck⟩ := hck
    exact zpure (hN _ _ _ _ hz) (fun lc _ k => lv_lconst hx hb hd hck k)
  case iload_n n =>
    simp only [zck, beq_iff_eq, Bool.and_eq_true, decide_eq_true_eq] at hck; obtain ⟨rfl, hck⟩ := hck
    simp only [zi] at hz
    obtain ⟨z, hl, hz⟩ := zldi_of hz
    exact zpure (hN _ _ _ _ hz) (fun lc hh k => lv_iload_n hx hb hd hck.symm (zlv_get hh hl) k)
  case iload n =>
    simp only [zck, beq_iff_eq, Bool.and_eq_true, decide_eq_true_eq] at hck; obtain ⟨rfl, hck⟩ := hck
    simp only [zi] at hz
    obtain ⟨z, hl, hz⟩ := zldi_of hz
    rw [hck] at hl
    exact zpure (hN _ _ _ _ hz) (fun lc hh k => lv_iload hx hb hd (zlv_get hh hl) k)
  case lload_n n =>
    simp only [zck, beq_iff_eq, Bool.and_eq_true, decide_eq_true_eq] at hck; obtain ⟨rfl, hck⟩ := hck
    simp only [zi] at hz
    obtain ⟨z, hl, hz⟩ := zldl_of hz
    exact zpure (hN _ _ _ _ hz) (fun lc hh k => lv_lload_n hx hb hd hck.symm (zlv_get hh hl) k)
  case lload n =>
    simp only [zck, beq_iff_eq, Bool.and_eq_true, decide_eq_true_eq] at hck; obtain ⟨rfl, hck⟩ := hck
    simp only [zi] at hz
    obtain ⟨z, hl, hz⟩ := zldl_of hz
    rw [hck] at hl
    exact zpure (hN _ _ _ _ hz) (fun lc hh k => lv_lload hx hb hd (zlv_get hh hl) k)
  case aload_n n =>
    simp only [zck, beq_iff_eq, Bool.and_eq_true, decide_eq_true_eq] at hck; obtain ⟨rfl, hck⟩ := hck
    simp only [zi] at hz
    obtain ⟨v, hl, hz⟩ := zlda_of hz
    rcases v with v | v
    · exact zpure (hN _ _ _ _ hz) (fun lc hh k => lv_aload_n hx hb hd hck.symm (zlv_get hh hl) k)
    · exact zpure (hN _ _ _ _ hz) (fun lc hh k => lv_aload_n hx hb hd hck.symm (zlv_get hh hl) k)
  case aload n =>
    simp only [zck, beq_iff_eq, Bool.and_eq_true, decide_eq_true_eq] at hck; obtain ⟨rfl, hck⟩ := hck
    simp only [zi] at hz
    obtain ⟨v, hl, hz⟩ := zlda_of hz
    rw [hck] at hl
    rcases v with v | v
    · exact zpure (hN _ _ _ _ hz) (fun lc hh k => lv_aload hx hb hd (zlv_get hh hl) k)
    · exact zpure (hN _ _ _ _ hz) (fun lc hh k => lv_aload hx hb hd (zlv_get hh hl) k)
  case istore_n n =>
    simp only [zck, beq_iff_eq, Bool.and_eq_true, decide_eq_true_eq] at hck; obtain ⟨⟨rfl, hck⟩, hlt⟩ := hck
    simp only [zi] at hz
    obtain ⟨z, r, rfl, ho, hz⟩ := zsti_of hz
    exact zs_store FF (hN _ _ _ _ hz) ho (fun lc lv' hh e9 k => lv_istore_n hx hb hd hck.symm hh hlt e9 k)
  case istore n =>
    simp only [zck, beq_iff_eq, Bool.and_eq_true, decide_eq_true_eq] at hck; obtain ⟨⟨rfl, hck⟩, hlt⟩ := hck
    simp only [zi] at hz
    obtain ⟨z, r, rfl, ho, hz⟩ := zsti_of hz
    rw [hck] at ho hz hlt
    exact zs_store FF (hN _ _ _ _ hz) ho (fun lc lv' hh e9 k => lv_istore hx hb hd hh hlt e9 k)
  case astore_n n =>
    simp only [zck, beq_iff_eq, Bool.and_eq_true, decide_eq_true_eq] at hck; obtain ⟨⟨rfl, hck⟩, hlt⟩ := hck
    simp only [zi] at hz
    obtain ⟨v, r, rfl, ho, hz⟩ := zsta_of hz
    rcases v with v | v
    · exact zs_store FF (hN _ _ _ _ hz) ho (fun lc lv' hh e9 k => lv_astore_n hx hb hd hck.symm hh hlt e9 k)
    · exact zs_store FF (hN _ _ _ _ hz) ho (fun lc lv' hh e9 k => lv_astore_n hx hb hd hck.symm hh hlt e9 k)
  case astore n =>
    simp only [zck, beq_iff_eq, Bool.and_eq_true, decide_eq_true_eq] at hck; obtain ⟨⟨rfl, hck⟩, hlt⟩ := hck
    simp only [zi] at hz
    obtain ⟨v, r, rfl, ho, hz⟩ := zsta_of hz
    rw [hck] at ho hz hlt
    rcases v with v | v
    · exact zs_store FF (hN _ _ _ _ hz) ho (fun lc lv' hh e9 k => lv_astore hx hb hd hh hlt e9 k)
    · exact zs_store FF (hN _ _ _ _ hz) ho (fun lc lv' hh e9 k => lv_astore hx hb hd hh hlt e9 k)
  case iinc n f =>
    simp only [zck, beq_iff_eq, Bool.and_eq_true, decide_eq_true_eq] at hck; obtain ⟨⟨rfl, hck⟩, hlt⟩ := hck
    simp only [zi] at hz
    obtain ⟨z, hl, hz⟩ := zldi_of hz
    obtain ⟨z', r, e8, ho, hz⟩ := zsti_of hz
    cases e8
    rw [hck] at ho hz hlt hl
    refine zs_store FF (hN _ _ _ _ hz) ho (fun lc lv' hh e9 k => ?_)
    obtain ⟨kk, hkk⟩ := List.getElem?_of_mem (zlv_mem (q := (n, zc E (.inl z))).mpr ⟨_, hl, rfl⟩)
    exact lv_iinc hx hb hd hh hkk (show Int32.ofInt z + Int32.ofInt f = Int32.ofInt (z + f) from (Int32.ofInt_add _ _).symm) hlt e9 k
  case iadd =>
    simp only [zck, beq_iff_eq] at hck; subst hck
    obtain ⟨x, y, r, rfl, hz⟩ := z2_of hz
    exact zpure (hN _ _ _ _ hz) (fun lc _ k => lv_iadd hx hb hd (by rw [← Int32.ofInt_add]; exact k))
  case isub =>
    simp only [zck, beq_iff_eq] at hck; subst hck
    obtain ⟨x, y, r, rfl, hz⟩ := z2_of hz
    exact zpure (hN _ _ _ _ hz) (fun lc _ k => lv_isub hx hb hd (by rw [← Int32.ofInt_sub]; exact k))
  case imul =>
    simp only [zck, beq_iff_eq] at hck; subst hck
    obtain ⟨x, y, r, rfl, hz⟩ := z2_of hz
    exact zpure (hN _ _ _ _ hz) (fun lc _ k => lv_imul hx hb hd (by rw [← Int32.ofInt_mul]; exact k))
  case iand =>
    simp only [zck, beq_iff_eq] at hck; subst hck
    obtain ⟨x, y, r, rfl, hz⟩ := z2_of hz
    exact zpure (hN _ _ _ _ hz) (fun lc _ k => lv_iand hx hb hd (by simpa [zc] using k))
  case ior =>
    simp only [zck, beq_iff_eq] at hck; subst hck
    obtain ⟨x, y, r, rfl, hz⟩ := z2_of hz
    exact zpure (hN _ _ _ _ hz) (fun lc _ k => lv_ior hx hb hd (by simpa [zc] using k))
  case ixor =>
    simp only [zck, beq_iff_eq] at hck; subst hck
    obtain ⟨x, y, r, rfl, hz⟩ := z2_of hz
    exact zpure (hN _ _ _ _ hz) (fun lc _ k => lv_ixor hx hb hd (by simpa [zc] using k))
  case ishl =>
    simp only [zck, beq_iff_eq] at hck; subst hck
    obtain ⟨x, y, r, rfl, hz⟩ := z2_of hz
    exact zpure (hN _ _ _ _ hz) (fun lc _ k => lv_ishl hx hb hd (by simpa only [List.map_cons, zc, Int32.ofInt_toInt] using k))
  case iushr =>
    simp only [zck, beq_iff_eq] at hck; subst hck
    obtain ⟨x, y, r, rfl, hz⟩ := z2_of hz
    exact zpure (hN _ _ _ _ hz) (fun lc _ k => lv_iushr hx hb hd rfl (by simpa only [List.map_cons, zc, Int32.ofInt_toInt] using k))
  case idiv =>
    simp only [zck, beq_iff_eq] at hck; subst hck
    obtain ⟨x, y, r, rfl, hy, hz⟩ := z2_of hz
    exact zpure (hN _ _ _ _ hz) (fun lc _ k => lv_idiv hx hb hd (fun q => hy ((zo_eq y 0).mp q)) (by rw [← zo_idiv]; exact k))
  case irem =>
    simp only [zck, beq_iff_eq] at hck; subst hck
    obtain ⟨x, y, r, rfl, hy, hz⟩ := z2_of hz
    exact zpure (hN _ _ _ _ hz) (fun lc _ k => lv_irem hx hb hd (fun q => hy ((zo_eq y 0).mp q)) (by rw [← zo_irem]; exact k))
  case ineg =>
    simp only [zck, beq_iff_eq] at hck; subst hck
    obtain ⟨x, r, rfl, hz⟩ := z1_of hz
    exact zpure (hN _ _ _ _ hz) (fun lc _ k => lv_ineg hx hb hd (by rw [← Int32.ofInt_neg]; exact k))
  case i2l =>
    simp only [zck, beq_iff_eq] at hck; subst hck
    obtain ⟨x, r, rfl, hz⟩ := z1_of hz
    exact zpure (hN _ _ _ _ hz) (fun lc _ k => lv_i2l hx hb hd (show (Int32.ofInt x).toInt64 = Int64.ofInt (zr x) from by apply Int64.toInt_inj.mp; rw [Int32.toInt_toInt64, show (Int64.ofInt (zr x)).toInt = zr8 (zr x) from rfl, zr8_of (by have := zr_rng x; omega) (by have := zr_rng x; omega)]; rfl) k)
  case i2b =>
    simp only [zck, beq_iff_eq] at hck; subst hck
    obtain ⟨x, r, rfl, hz⟩ := z1_of hz
    exact zpure (hN _ _ _ _ hz) (fun lc _ k => lv_i2b hx hb hd rfl (by simpa only [List.map_cons, zc, Int32.ofInt_toInt] using k))
  case i2s =>
    simp only [zck, beq_iff_eq] at hck; subst hck
    obtain ⟨x, r, rfl, hz⟩ := z1_of hz
    exact zpure (hN _ _ _ _ hz) (fun lc _ k => lv_i2s hx hb hd rfl (by simpa only [List.map_cons, zc, Int32.ofInt_toInt] using k))
  case l2i =>
    simp only [zck, beq_iff_eq] at hck; subst hck
    obtain ⟨x, r, rfl, hz⟩ := zl1_of hz
    exact zpure (hN _ _ _ _ hz) (fun lc _ k => lv_l2i hx hb hd rfl (by simpa only [List.map_cons, zc, Int32.ofInt_toInt] using k))
  case land =>
    simp only [zck, beq_iff_eq] at hck; subst hck
    obtain ⟨x, y, r, rfl, hz⟩ := zl2_of hz
    exact zpure (hN _ _ _ _ hz) (fun lc _ k => lv_land hx hb hd (by simpa only [List.map_cons, zc, Int64.ofInt_toInt] using k))
  case lor =>
    simp only [zck, beq_iff_eq] at hck; subst hck
    obtain ⟨x, y, r, rfl, hz⟩ := zl2_of hz
    exact zpure (hN _ _ _ _ hz) (fun lc _ k => lv_lor hx hb hd (by simpa only [List.map_cons, zc, Int64.ofInt_toInt] using k))
  case lshl =>
    simp only [zck, beq_iff_eq] at hck; subst hck
    obtain ⟨x, y, r, rfl, hz⟩ := zli_of hz
    exact zpure (hN _ _ _ _ hz) (fun lc _ k => lv_lshl hx hb hd rfl (by simpa only [List.map_cons, zc, Int64.ofInt_toInt] using k))
  case lshr =>
    simp only [zck, beq_iff_eq] at hck; subst hck
    obtain ⟨x, y, r, rfl, hz⟩ := zli_of hz
    exact zpure (hN _ _ _ _ hz) (fun lc _ k => lv_lshr hx hb hd rfl (by simpa only [List.map_cons, zc, Int64.ofInt_toInt] using k))
  case lushr =>
    simp only [zck, beq_iff_eq] at hck; subst hck
    obtain ⟨x, y, r, rfl, hz⟩ := zli_of hz
    exact zpure (hN _ _ _ _ hz) (fun lc _ k => lv_lushr hx hb hd rfl (by simpa only [List.map_cons, zc, Int64.ofInt_toInt] using k))
  case lcmp =>
    simp only [zck, beq_iff_eq] at hck; subst hck
    obtain ⟨x, y, r, rfl, hz⟩ := zl2_of hz
    exact zpure (hN _ _ _ _ hz) (fun lc _ k => W.lcmp hx hb hd (by rw [zo_cmp]; exact k))
  case dup =>
    simp only [zck, beq_iff_eq] at hck; subst hck
    match st, hz with
    | v :: r, hz => exact zpure (hN _ _ _ _ hz.2) (fun lc _ k => lv_dup hx hb hd ((zc_cat E v).trans hz.1) k)
  case pop =>
    simp only [zck, beq_iff_eq] at hck; subst hck
    match st, hz with
    | v :: r, hz => exact zpure (hN _ _ _ _ hz.2) (fun lc _ k => lv_pop hx hb hd ((zc_cat E v).trans hz.1) k)
  case dup2 =>
    simp only [zck, beq_iff_eq] at hck; subst hck
    match st, hz with
    | v :: w :: r, hz => exact zpure (hN _ _ _ _ hz.2.2) (fun lc _ k => lv_dup2_11 hx hb hd ((zc_cat E v).trans hz.1) ((zc_cat E w).trans hz.2.1) k)
  case goto f =>
    simp only [zck, beq_iff_eq, Bool.and_eq_true, decide_eq_true_eq] at hck; obtain ⟨rfl, hck⟩ := hck
    exact zpure (hK _ _ _ _ _ hz) (fun lc _ k => lv_goto hx hb hd hck k)
  case ifCond cd f =>
    simp only [zck, beq_iff_eq, Bool.and_eq_true, decide_eq_true_eq] at hck; obtain ⟨rfl, hck⟩ := hck
    obtain ⟨x, r, rfl, hz⟩ := z1_of hz
    refine zs_cnd0 FF hd hck ?_
    cases cd <;> exact ⟨fun q => by first | exact hK _ _ _ _ _ (hz.1 q) | exact hN _ _ _ _ (hz.1 q), fun q => by first | exact hK _ _ _ _ _ (hz.2 q) | exact hN _ _ _ _ (hz.2 q)⟩
  case if_icmp cd f =>
    simp only [zck, beq_iff_eq, Bool.and_eq_true, decide_eq_true_eq] at hck; obtain ⟨rfl, hck⟩ := hck
    obtain ⟨x, y, r, rfl, hz⟩ := z2_of hz
    refine zs_cnd FF hd hck ?_
    cases cd <;> exact ⟨fun q => by first | exact hK _ _ _ _ _ (hz.1 q) | exact hN _ _ _ _ (hz.1 q), fun q => by first | exact hK _ _ _ _ _ (hz.2 q) | exact hN _ _ _ _ (hz.2 q)⟩
  case tableswitch df lo hi os =>
    simp only [zck, Bool.and_eq_true, decide_eq_true_eq] at hck; obtain ⟨⟨⟨c1, c2⟩, c3⟩, c4⟩ := hck
    obtain ⟨x, r, rfl, hz⟩ := z1_of hz
    have k := hK _ _ _ _ _ (zsw_tg hz)
    rw [c2] at k
    obtain ⟨t1, t2⟩ := ztb_tg (pc := pc) (x := zr x) (dn := zix a) os.toList lo c4
    by_cases q1 : zr x < lo
    · rw [t1 (Or.inl q1)] at k
      exact zpure k (fun lc _ k => lv_tableOut hx hb hd (Or.inl q1) c1 k)
    · by_cases q2 : hi < zr x
      · rw [t1 (Or.inr (by omega))] at k
        exact zpure k (fun lc _ k => lv_tableOut hx hb hd (Or.inr q2) c1 k)
      · have hlt : (zr x - lo).toNat < os.toList.length := by omega
        have hg : os.toList[(zr x - lo).toNat]? = some (os.toList[(zr x - lo).toNat]'hlt) := List.getElem?_eq_getElem hlt
        refine zpure k (fun lc _ k => lv_tableIn hx hb hd q1 q2 (show os[(zr x - lo).toNat]? = some _ by rw [← Array.getElem?_toList]; exact hg) (t2 _ (by omega) hg) k)
  case lookupswitch df ps =>
    simp only [zck, Bool.and_eq_true, decide_eq_true_eq] at hck; obtain ⟨⟨⟨c1, c2⟩, c3⟩, c4⟩ := hck
    obtain ⟨x, r, rfl, hz⟩ := z1_of hz
    have k := hK _ _ _ _ _ (zsw_tg hz)
    rw [c2] at k
    exact zpure k (fun lc _ k => lv_lookup hx hb hd c4 rfl (zlk_tg (x := 0) (y := zr x) c1 ps.toList c3) k)
  case getfield x =>
    simp only [zck, beq_iff_eq, Bool.and_eq_true, decide_eq_true_eq] at hck; obtain ⟨rfl, hck⟩ := hck
    simp only [zi] at hz
    obtain ⟨aa, r, ob, fk, v, rfl, e1, e2, e3, e4, hz⟩ := zgf_of (E := E) hz
    rw [← e2] at hck
    exact zs_get FF hd hck e1 e3 e4 (hN _ _ _ _ hz)
  case putfield x =>
    simp only [zck, beq_iff_eq, Bool.and_eq_true, decide_eq_true_eq] at hck
    obtain ⟨⟨rfl, hm⟩, hck⟩ := hck
    simp only [zi] at hz
    unfold zpf at hz
    match st, hz with
    | v :: .inr (.inr (.inl aa)) :: r, hz =>
      dsimp only at hz
      split at hz
      next ob hob =>
        obtain ⟨e1, hz⟩ := hz
        rw [← e1] at hm hck
        split at hck
        next C T N hcl =>
          simp only [Bool.and_eq_true, Bool.or_eq_true, Bool.not_eq_true', decide_eq_true_eq] at hck
          obtain ⟨hfin, hty⟩ := hck
          split at hz
          next z hk =>
            obtain ⟨hbo, hz⟩ := hz
            have hkl := (List.getElem?_eq_some_iff.mp hk).1
            have hnf : narrow (zty ob.1 (a.2.1.getD 1 0)) (.int (Int32.ofInt z)) = .int (Int32.ofInt z) ∧ fits (zty ob.1 (a.2.1.getD 1 0)) (.int (Int32.ofInt z)) = true := by
              revert hty
              generalize zty ob.1 (a.2.1.getD 1 0) = ty
              intro hty
              cases ty
              case int => exact ⟨rfl, rfl⟩
              case boolean =>
                have ha1 := of_decide_eq_true hty
                rcases hbo with q | ⟨-, q⟩
                · omega
                · have : Int32.ofInt z = 0 ∨ Int32.ofInt z = 1 := by
                    rcases q with q | q
                    · exact Or.inl ((zo_eq z 0).mpr q)
                    · exact Or.inr ((zo_eq z 1).mpr q)
                  rcases this with q | q <;> rw [q] <;> exact ⟨by decide, by decide⟩
              case object =>
                have ha1 := of_decide_eq_true hty
                rcases hbo with q | ⟨q, -⟩ <;> omega
              case array =>
                have ha1 := of_decide_eq_true hty
                rcases hbo with q | ⟨q, -⟩ <;> omega
              all_goals cases hty
            refine zs_put (v := .inl z) (h' := (h.1, zup h.2 aa (a.2.1.getD 1 0) z)) FF hini hd hm hcl hfin hob hkl hnf.1 hnf.2 ?_ rfl (hN _ _ _ _ hz)
            rw [zw_put (E := E) (M' := zup h.2 aa (a.2.1.getD 1 0) z) hob (fun x hx => zup_ne _ hx)]
            unfold ze
            dsimp only
            rw [zup_row, zfl_set hk]
            rfl
          next t hk =>
            obtain ⟨hbo, hz⟩ := hz
            have hkl := (List.getElem?_eq_some_iff.mp hk).1
            have hnf : narrow (zty ob.1 (a.2.1.getD 1 0)) (.ref (E.2.1 + t)) = .ref (E.2.1 + t) ∧ fits (zty ob.1 (a.2.1.getD 1 0)) (.ref (E.2.1 + t)) = true := by
              revert hty
              generalize zty ob.1 (a.2.1.getD 1 0) = ty
              intro hty
              cases ty
              case int => have ha1 := of_decide_eq_true hty; omega
              case boolean => have ha1 := of_decide_eq_true hty; omega
              case object => exact ⟨rfl, rfl⟩
              case array => exact ⟨rfl, rfl⟩
              all_goals cases hty
            refine zs_put (v := .inr (.inr (.inl t))) (h' := (h.1.set aa (.inl (ob.1, ob.2.set (a.2.1.getD 1 0) (some (some t)))), h.2)) FF hini hd hm hcl hfin hob hkl hnf.1 hnf.2 ?_ (by simp) (hN _ _ _ _ hz)
            rw [zw_set (E := E) (M' := h.2) hob (fun _ _ => rfl)]
            unfold ze
            dsimp only
            rw [zfl_setr]
            rfl
          next => exact hz.elim
        next => cases hck
      next => exact hz.elim
  case getstatic x =>
    simp only [zck, beq_iff_eq, Bool.and_eq_true, decide_eq_true_eq] at hck; obtain ⟨rfl, hck⟩ := hck
    exact zs_gets FF hd hck (hN _ _ _ _ hz)
  case iaload =>
    simp only [zck, beq_iff_eq] at hck; subst hck
    simp only [zi] at hz
    unfold zal at hz
    split at hz
    next i aa r =>
      obtain ⟨-, hz⟩ := hz
      split at hz
      next n hn => exact zs_iald FF hd hn hz.1 hz.2.1 (hN _ _ _ _ hz.2.2)
      next => exact hz.elim
    next i q r => exact zs_rald (ch := false) FF hd hz.1 hz.2.1 hz.2.2.1 hz.2.2.2.1 (hN _ _ _ _ hz.2.2.2.2)
    next => exact hz.elim
  case caload =>
    simp only [zck, beq_iff_eq] at hck; subst hck
    simp only [zi] at hz
    unfold zal at hz
    split at hz
    next i aa r => exact absurd hz.1 (by decide)
    next i q r => exact zs_rald (ch := true) FF hd hz.1 hz.2.1 hz.2.2.1 hz.2.2.2.1 (hN _ _ _ _ hz.2.2.2.2)
    next => exact hz.elim
  case iastore =>
    simp only [zck, beq_iff_eq] at hck; subst hck
    simp only [zi] at hz
    unfold zas at hz
    split at hz
    next z i aa r =>
      split at hz
      next n hn => exact zs_iast FF hd hn hz.1 hz.2.1 (hN _ _ _ _ hz.2.2)
      next => exact hz.elim
    next => exact hz.elim
  case aaload =>
    simp only [zck, beq_iff_eq] at hck; subst hck
    simp only [zi] at hz
    unfold zaal at hz
    split at hz
    next i aa r =>
      split at hz
      next ob hob =>
        obtain ⟨q1, q2, hz⟩ := hz
        split at hz
        next t ht => exact zs_aald FF hd hob q1 q2 ht (hN _ _ _ _ hz)
        next => exact hz.elim
      next => exact hz.elim
    next => exact hz.elim
  case aastore =>
    simp only [zck, beq_iff_eq] at hck; subst hck
    simp only [zi] at hz
    unfold zaas at hz
    split at hz
    next t i aa r =>
      split at hz
      next ob x hob hx7 => exact zs_aast FF hd hob hx7 hz.1 hz.2.1 hz.2.2.1 (hN _ _ _ _ hz.2.2.2)
      next => exact hz.elim
    next => exact hz.elim
  case arraylength =>
    simp only [zck, beq_iff_eq] at hck; subst hck
    refine zs_len FF hd ?_
    simp only [zi] at hz
    unfold zlen at hz ⊢
    split at hz
    next aa r =>
      dsimp only
      split at hz
      next n hn => exact hN _ _ _ _ hz
      next n hn => exact hN _ _ _ _ hz
      next => exact hz.elim
    next q r => exact ⟨hz.1, hN _ _ _ _ hz.2⟩
    next => exact hz.elim
  case new x =>
    simp only [zck, beq_iff_eq, Bool.and_eq_true, decide_eq_true_eq] at hck; obtain ⟨rfl, hck⟩ := hck
    exact zs_new FF hd hck hz.1 hz.2.1 (hN _ _ _ _ hz.2.2)
  case newarray t =>
    simp only [zck, beq_iff_eq, Bool.and_eq_true, decide_eq_true_eq] at hck; obtain ⟨rfl, rfl⟩ := hck
    obtain ⟨n, r, rfl, hz⟩ := z1_of hz
    exact zs_newa FF hd hz.1 hz.2.1 hz.2.2.1 hz.2.2.2.1 (hN _ _ _ _ hz.2.2.2.2)
  case anewarray x =>
    simp only [zck, beq_iff_eq, Bool.and_eq_true, decide_eq_true_eq] at hck; obtain ⟨rfl, hck⟩ := hck
    obtain ⟨n, r, rfl, hz⟩ := z1_of hz
    exact zs_anew FF hd hck hz.1 hz.2.1 hz.2.2.1 hz.2.2.2.1 (hN _ _ _ _ hz.2.2.2.2)
  case invokestatic x =>
    simp only [zck, beq_iff_eq, Bool.and_eq_true] at hck; obtain ⟨rfl, hck⟩ := hck
    have hz1 := hz
    simp only [zi] at hz
    rcases hl : a.2.1 with _ | ⟨n, _ | ⟨k, _ | ⟨mc', _ | ⟨ci, l9⟩⟩⟩⟩
    · rw [hl] at hck hz
      refine zs_copy FF hd (of_decide_eq_true hck) ?_
      dsimp only at hz
      unfold zcopy at hz ⊢
      split at hz
      next nn dp a1 sp a0 r =>
        refine ⟨hz.1, ?_⟩
        have hz := hz.2
        dsimp only
        split at hz
        next n0 n1 ha0 ha1 =>
          exact ⟨hz.1, hz.2.1, hz.2.2.1, hz.2.2.2.1, hz.2.2.2.2.1, hN _ _ _ _ hz.2.2.2.2.2⟩
        next => exact hz.elim
      next => exact hz.elim
    · rw [hl] at hck hz
      simp only [Bool.and_eq_true, decide_eq_true_eq] at hck
      match n, hck, hz with
      | 0, hck, hz =>
        obtain ⟨x0, r, rfl, hz⟩ := z1_of hz
        exact zs_abs FF hd hck.1 hz.1 (hN _ _ _ _ hz.2)
      | 1, hck, hz =>
        obtain ⟨x0, y0, r, rfl, hz⟩ := z2_of hz
        exact zs_max FF hd hck.1 hz.1 (hN _ _ _ _ hz.2)
      | 2, hck, hz =>
        obtain ⟨x0, y0, r, rfl, hz⟩ := z2_of hz
        exact zs_min FF hd hck.1 hz.1 (hN _ _ _ _ hz.2)
      | n + 3, hck, _ => omega
    · rw [hl] at hck; cases hck
    · rw [hl] at hck; cases hck
    · have hz2 : zinv CT 0 a ls st h b N := by
        rw [hl] at hz
        match n, hz with
        | 0, hz => exact hz
        | 1, hz => exact hz
        | 2, hz => exact hz
        | n + 3, hz => exact hz
      rw [hl] at hck
      simp only [Bool.and_eq_true, decide_eq_true_eq] at hck
      exact zs_inv (vi := 0) FF hd (by decide) hl hck.1 hck.2 (fun as h post => hCT n as h post) hN hz2
  case invokevirtual x =>
    simp only [zck, beq_iff_eq, Bool.and_eq_true] at hck; obtain ⟨rfl, hck⟩ := hck
    simp only [zi] at hz
    rcases hl : a.2.1 with _ | ⟨n, _ | ⟨k, _ | ⟨mc', _ | ⟨ci, l9⟩⟩⟩⟩
    · rw [hl] at hck; cases hck
    · rw [hl] at hck; cases hck
    · rw [hl] at hck; cases hck
    · rw [hl] at hck; cases hck
    · rw [hl] at hck
      simp only [Bool.and_eq_true, decide_eq_true_eq] at hck
      exact zs_inv (vi := 1) FF hd (by decide) hl hck.1 hck.2 (fun as h post => hCT n as h post) hN hz
  case invokespecial x =>
    simp only [zck, beq_iff_eq, Bool.and_eq_true] at hck; obtain ⟨rfl, hck⟩ := hck
    simp only [zi] at hz
    rcases hl : a.2.1 with _ | ⟨n, _ | ⟨k, _ | ⟨mc', _ | ⟨ci, l9⟩⟩⟩⟩
    · rw [hl] at hck hz
      match st, hz with
      | .inr (.inr (.inl k)) :: r, hz => exact zs_obj FF hd (of_decide_eq_true hck) hz.1 (hN _ _ _ _ hz.2)
    · rw [hl] at hck; cases hck
    · rw [hl] at hck; cases hck
    · rw [hl] at hck; cases hck
    · rw [hl] at hck
      simp only [Bool.and_eq_true, decide_eq_true_eq] at hck
      have hz2 : zinv CT 2 a ls st h b N := by rw [hl] at hz; exact hz
      exact zs_inv (vi := 2) FF hd (by decide) hl hck.1 hck.2 (fun as h post => hCT n as h post) hN hz2
  case ireturn =>
    simp only [zck, beq_iff_eq] at hck; subst hck
    match st, hz with
    | [.inl z], hz => exact (hRet pc ls h b).1 z hz hd
  case areturn =>
    simp only [zck, beq_iff_eq] at hck; subst hck
    match st, hz with
    | [.inr (.inr (.inl k))], hz => exact (hRet pc ls h b).2.1 k hz hd
  case return_ =>
    simp only [zck, beq_iff_eq] at hck; subst hck
    match st, hz with
    | [], hz => exact (hRet pc ls h b).2.2 hz hd
  all_goals exact hz.elim
/-- a block's instructions, checked -/
def zOK (cc : ByteArray) (o : Nat) (ini : Bool) (nL : Nat) : List ZI → Nat → Bool
  | [], _ => true
  | q :: r, pc => decide (decode cc pc = .ok (q.1, q.2.1)) && zck o ini nL pc q.1 q.2.1 q.2.2 && zOK cc o ini nL r (pc + q.2.1)
theorem zB_sound (F : zF E p R s m args c (zon o) cc nL d g0 mc ms) (hini : ini = true → meth.name = "<init>") (hRet : zRetOK E p e R s m args below meth c Q nL g0 mc ms cc Rt) (hCT : ∀ n as h post, CT n as h post → zCall E d (zm n) (CT n)) (hK : ∀ t ls st h b, K t ls st h b → zW E p e R s m args below meth c Q nL g0 mc ms t ls st h b) :
    ∀ (l : List ZI) (pc : Nat), zOK cc o ini nL l pc = true → ∀ (ls : ZL) (st : List ZV) (h : ZH) (b : ZB2), zB E CT l pc ls st h b K Rt → zW E p e R s m args below meth c Q nL g0 mc ms pc ls st h b
  | [], pc, _, ls, st, h, b, hz => hK _ _ _ _ _ hz
  | q :: r, pc, hok, ls, st, h, b, hz => by
    simp only [zOK, Bool.and_eq_true, decide_eq_true_eq] at hok
    exact zi_sound F hini hRet hCT hok.1.1 hok.1.2 (fun ls st h b hz => zB_sound F hini hRet hCT hK r (pc + q.2.1) hok.2 ls st h b hz) hK hz
end ZStep
