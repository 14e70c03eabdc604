/-! A METHOD'S CONTRACT OUT OF ITS BLOCKS -/
def zsl (as : List ZV) : ZL := as.flatMap (fun v => if zcat v = 2 then [some v, none] else [some v])
def zent (as : List ZV) (nL : Nat) : ZL := zsl as ++ List.replicate (nL - (zsl as).length) none
theorem zsl_len (E : ZE) (as : List ZV) : (lg_sl (as.map (zc E))).length = (zsl as).length := by
  induction as with
  | nil => rfl
  | cons v r ih =>
    unfold lg_sl zsl at ih ⊢
    rw [List.map_cons, List.flatMap_cons, List.flatMap_cons, List.length_append, List.length_append, ih]
    congr 1
    rcases v with z | z | k | q <;> rfl
theorem zsl_args (E : ZE) : ∀ (as : List ZV) (k i : Nat) (v : ZV), (zsl as)[i]? = some (some v) → (k + i, zc E v) ∈ lv_args k (as.map (zc E))
  | [], k, i, v, h => by simp [zsl] at h
  | a :: r, k, i, v, h => by
    have e : zsl (a :: r) = (if zcat a = 2 then [some a, none] else [some a]) ++ zsl r := rfl
    rw [e] at h
    rw [List.map_cons, lv_args]
    have hc : (zc E a).category = zcat a := by rcases a with z | z | k | q <;> rfl
    rw [hc]
    by_cases q : zcat a = 2
    · rw [if_pos q] at h ⊢
      match i, h with
      | 0, h => cases h; exact List.mem_cons_self
      | 1, h => cases h
      | i + 2, h =>
        have h2 : (zsl r)[i]? = some (some v) := by simpa using h
        have := zsl_args E r (k + 2) i v h2
        rw [show k + (i + 2) = k + 2 + i by omega]
        exact List.mem_cons_of_mem _ this
    · rw [if_neg q] at h ⊢
      match i, h with
      | 0, h => cases h; exact List.mem_cons_self
      | i + 1, h =>
        have h2 : (zsl r)[i]? = some (some v) := by simpa using h
        have := zsl_args E r (k + 1) i v h2
        rw [show k + (i + 1) = k + 1 + i by omega]
        exact List.mem_cons_of_mem _ this
theorem zent_len {as : List ZV} {nL : Nat} (h : (zsl as).length ≤ nL) : (zent as nL).length = nL := by
  simp [zent]; omega
theorem zent_has {E : ZE} {as : List ZV} {nL : Nat} {lc : Array Slot} (h : lv_has lc nL (lv_args 0 (as.map (zc E)))) : lv_has lc nL (zlv E (zent as nL)) := by
  refine ⟨h.1, h.2.1, fun q hq => ?_⟩
  obtain ⟨v, h1, h2⟩ := zlv_mem.mp hq
  refine h.2.2 q ?_
  have h3 : (zsl as)[q.1]? = some (some v) := by
    unfold zent at h1
    by_cases hl : q.1 < (zsl as).length
    · rw [List.getElem?_append_left hl] at h1; exact h1
    · rw [List.getElem?_append_right (by omega)] at h1
      have := (List.getElem?_eq_some_iff.mp h1).2
      simp at this
  have := zsl_args E as 0 q.1 v h3
  rw [Nat.zero_add, ← h2] at this
  exact this
def zrok (ret : Option FieldType) (v : Option ZV) : Prop := match ret, v with
  | none, none => True
  | some .int, some (.inl _) => True
  | some .boolean, some (.inl z) => zr z = 0 ∨ zr z = 1
  | some (.object _), some (.inr (.inr (.inl _))) => True
  | _, _ => False
def zRt (M : ZM) (g0 : Nat) (post : Option ZV → ZH → Prop) : ZR := fun v h _ => post v h ∧ h.1.length = g0 + M.2.2.2.2.2.2.2.1 ∧ zrok M.2.2.2.1 v
/-- X holds wherever a checked block leads to it -/
def zCl (E : ZE) (M : ZM) (o : Nat) (ini : Bool) (CT : Nat → ZC) (Rt : ZR) (X : ZK) : Prop := ∀ (l : List ZI) (pc : Nat), zOK M.2.1 o ini M.2.2.1 l pc = true → ∀ (K : ZK), (∀ t ls st h b, K t ls st h b → X t ls st h b) → ∀ ls st h b, zB E CT l pc ls st h b K Rt → X pc ls st h b
theorem zmet_of {E : ZE} {d o : Nat} {M : ZM} {C : ZC} {ini : Bool} {CT : Nat → ZC} (hg : zgood M) (ho : zon o = M.1.cls) (hini : ini = true → M.1.name = "<init>") (hd : 1 ≤ d) (hCT : ∀ n as h post, CT n as h post → zCall E d (zm n) (CT n))
    (body : ∀ as h post, C as h post → (zsl as).length ≤ M.2.2.1 ∧ ∀ X : ZK, zCl E M o ini CT (zRt M h.1.length post) X → X 0 (zent as M.2.2.1) [] h (M.2.2.2.2.2.2.2.1, M.2.2.2.2.2.2.2.2)) : zMet E d M C := by
  intro as h post hC
  obtain ⟨hfit, hX⟩ := body as h post hC
  obtain ⟨y, bytes, maxL, ret, kd, k0, ci0, mc0, ms0⟩ := M
  dsimp only at *
  refine Met.ofW (cc := bytes) (maxL := maxL) (ret := ret) hg.2.2.2.1 rfl ?_
  intro p e s m args below meth c s₁ B hml hv
  obtain ⟨rfl, hEx, hP, hsz⟩ := hv
  have hx := B.exec
  have hb := B.bytes
  have hr := B.returns
  have hts0 := atoms_spec (ws := Cond.code y bytes maxL ret :: zTb) B.pre
  have hts : ∀ w ∈ zTb, w.before (as.map (zc E)).toArray s = true := fun w hw => hts0 w (List.mem_cons_of_mem _ hw)
  have hown : s.vm.findClass y.cls = some m.cls := findClass_of_methodNamed B.named
  have hlocks := B.notSynchronized
  have hnm : meth.name = y.name := (name_of_methodNamed B.named B.method).1
  have F : zF E p (headSpec (Cond.code y bytes maxL ret :: zTb) (zRm d mc0 ms0)).room s m (as.map (zc E)).toArray c (zon o) bytes maxL d h.1.length mc0 ms0 := ⟨⟨hx, hb, hml, by rw [ho]; exact hown, hts⟩, hEx, hsz, Nat.le_refl d, Nat.le_refl (40 * d), Nat.le_refl mc0, Nat.le_refl ms0, hd⟩
  have hRet : zRetOK E p e (headSpec (Cond.code y bytes maxL ret :: zTb) (zRm d mc0 ms0)).room s m (as.map (zc E)).toArray below meth c (MQ below (zQc E h mc0 post) (as.map (zc E)).toArray s mc0 ms0 (zA E)) maxL h.1.length mc0 ms0 bytes (zRt (y, bytes, maxL, ret, kd, k0, ci0, mc0, ms0) h.1.length post) := by
    intro pc ls h2 b
    refine ⟨fun z hR hdg => ?_, fun k hR hdg => ?_, fun hR hdg => ?_⟩
    · intro H locs cells slots lc hP2 hS hl hln hc h1 h2b hz
      obtain ⟨r1, r2, r3⟩ := hR
      dsimp only at r2 r3
      refine W.widen (k := mc0) (n := ms0) (by omega) (by omega) ?_
      have hq : ∀ t : State, t.heap = H → s.WarmedH t.vm → zQc E h mc0 post (as.map (zc E)).toArray s (.returned (some (.int (Int32.ofInt z)))) t := fun t ht _ => ⟨⟨some (.inl z), h2, rfl, r1, by rw [ht]; exact hP2, r2⟩, hS.F ht⟩
      unfold zrok at r3
      split at r3
      next e9 => cases e9
      next => exact W.iret hx hb hr hq hS.2.2 hdg
      next z' e9 =>
        cases e9
        refine W.zret hx hb hr ?_ hq hS.2.2 hdg
        have : Int32.ofInt z = 0 ∨ Int32.ofInt z = 1 := by
          rcases r3 with q | q
          · exact Or.inl ((zo_eq z 0).mpr q)
          · exact Or.inr ((zo_eq z 1).mpr q)
        rcases this with q | q <;> rw [q] <;> decide
      next e9 => cases e9
      next => exact r3.elim
    · intro H locs cells slots lc hP2 hS hl hln hc h1 h2b hz
      obtain ⟨r1, r2, r3⟩ := hR
      dsimp only at r2 r3
      refine W.widen (k := mc0) (n := ms0) (by omega) (by omega) ?_
      have hq : ∀ t : State, t.heap = H → s.WarmedH t.vm → zQc E h mc0 post (as.map (zc E)).toArray s (.returned (some (.ref (E.2.1 + k)))) t := fun t ht _ => ⟨⟨some (.inr (.inr (.inl k))), h2, rfl, r1, by rw [ht]; exact hP2, r2⟩, hS.F ht⟩
      unfold zrok at r3
      split at r3
      next e9 => cases e9
      next e9 => cases e9
      next e9 => cases e9
      next => exact W.aret hx hb hr (Or.inl ⟨_, rfl⟩) (Or.inr ⟨_, rfl⟩) hq hS.2.2 hdg
      next => exact r3.elim
    · intro H locs cells slots lc hP2 hS hl hln hc h1 h2b hz
      obtain ⟨r1, r2, r3⟩ := hR
      dsimp only at r2 r3
      refine W.widen (k := mc0) (n := ms0) (by omega) (by omega) ?_
      have hq : ∀ t : State, t.heap = H → s.WarmedH t.vm → zQc E h mc0 post (as.map (zc E)).toArray s (.returned none) t := fun t ht _ => ⟨⟨none, h2, rfl, r1, by rw [ht]; exact hP2, r2⟩, hS.F ht⟩
      unfold zrok at r3
      split at r3
      next => exact W.vret hx hb hr hq hS.2.2 hdg
      next e9 => cases e9
      next e9 => cases e9
      next e9 => cases e9
      next => exact r3.elim
  have hW := hX _ (fun l pc hok K hK ls st h b hz => zB_sound F (fun q => hnm.trans (hini q)) hRet hCT hK l pc hok ls st h b hz)
  rw [lg_entry_eq]
  have hl := lv_entry (as.map (zc E)) (n := maxL) (by rw [zsl_len]; exact hfit)
  exact hW s.heap [] 0 0 _ hP va_S.rf (zent_has hl) (zent_len hfit) (Nat.zero_add _) (Nat.le_of_eq (Nat.zero_add _)) (Nat.le_of_eq (Nat.zero_add _)) hsz
