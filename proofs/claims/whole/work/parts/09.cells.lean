/-! THE ENGINE IS SOUND: cells -/
theorem zfl_set {E : ZE} {f : Nat → Int} {k : Nat} {z : Int} {fl : List (Option (Option Nat))} (hk : fl[k]? = some none) : fl.mapIdx (zf E (fun j => if j = k then z else f j)) = (fl.mapIdx (zf E f)).set k (.int (Int32.ofInt z)) := by
  apply List.ext_getElem?
  intro i
  have hl := (List.getElem?_eq_some_iff.mp hk).1
  by_cases hi : i = k
  · subst hi
    rw [List.getElem?_set_self (by simpa using hl), List.getElem?_mapIdx, hk]
    simp [zf]
  · rw [List.getElem?_set_ne (Ne.symm hi), List.getElem?_mapIdx, List.getElem?_mapIdx]
    cases fl[i]? with
    | none => rfl
    | some q =>
      rcases q with _ | _ | t
      · simp [zf, hi]
      · rfl
      · rfl
theorem zfl_setr {E : ZE} {f : Nat → Int} {k t : Nat} {fl : List (Option (Option Nat))} : (fl.set k (some (some t))).mapIdx (zf E f) = (fl.mapIdx (zf E f)).set k (.ref (E.2.1 + t)) := by
  apply List.ext_getElem?
  intro i
  by_cases hi : i = k
  · subst hi
    by_cases hl : i < fl.length
    · rw [List.getElem?_set_self (by simpa using hl), List.getElem?_mapIdx, List.getElem?_set_self hl]
      rfl
    · rw [List.getElem?_eq_none (by simpa using hl), List.getElem?_eq_none (by simpa using hl)]
  · rw [List.getElem?_set_ne (Ne.symm hi), List.getElem?_mapIdx, List.getElem?_mapIdx, List.getElem?_set_ne (Ne.symm hi)]
theorem zup_row (M : Nat → Nat → Int) (a k : Nat) (z : Int) : zup M a k z a = fun j => if j = k then z else M a j := by
  funext j
  simp [zup]
theorem zup_ne (M : Nat → Nat → Int) {a k : Nat} {z : Int} {x : Nat} (h : x ≠ a) : zup M a k z x = M x := by
  funext j
  simp [zup, h]
theorem zcp_ne (M : Nat → Nat → Int) {a0 a1 sp dp n x : Nat} (h : x ≠ a1) : zcp M a0 a1 sp dp n x = M x := by
  funext j
  simp [zcp, h]
theorem zro_ne (M : Nat → Nat → Int) {a x : Nat} (h : x ≠ a) : zro M a x = M x := by
  funext j
  simp [zro, h]
section ZCell
variable {E : ZE} {p : Program} {e : Env} {R : Room} {s : State} {m : MethodId} {args : Array Value} {below : List Frame} {meth : Method} {c : Code} {Q : State → Prop}
variable {o nL d g0 mc ms pc len : Nat} {cc : ByteArray} {ini : Bool} {a : ZX} {ls : ZL} {st r : List ZV} {h h' : ZH} {b : ZB2}
/-- going on in another heap that holds the new cells -/
theorem zgo (F : zF E p R s m args c (zon o) cc nL d g0 mc ms) {pc' : Nat} {H : Heap} {locs : List Loc} {cells slots : Nat} {lc : Array Slot} (k : zW E p e R s m args below meth c Q nL g0 mc ms pc' ls r h' b) (hP : va_P E.2.2.1 zcl (zw E h') H) (hS : va_S (zA E) s.heap H locs) (hl : lv_has lc nL (zlv E ls)) (hln : ls.length = nL) (hc : cells + g0 = h'.1.length) (h1 : cells + b.1 ≤ mc) (h2 : slots + b.2 ≤ ms) : W p E.1 e R s m args below meth c H locs cells slots Q (F0 m pc' lc (r.map (zc E))) :=
  W.sized (fun hle => k H locs cells slots lc hP hS hl hln hc h1 h2 (zsize F.2.2.1 hP hS hc hle))
theorem zs_get (F : zF E p R s m args c (zon o) cc nL d g0 mc ms) {x k aa : Nat} {ob : Nat × List (Option (Option Nat))} {fk : Option (Option Nat)} {v : ZV} (hd : decode cc pc = .ok (.getfield x, 3)) (hm : (x, ob.1, k) ∈ zFT o) (ha : h.1[aa]? = some (.inl ob)) (hk : ob.2[k]? = some fk) (hv : zf E (h.2 aa) k fk = zc E v) (kk : zW E p e R s m args below meth c Q nL g0 mc ms (pc + 3) ls (v :: r) h b) : zW E p e R s m args below meth c Q nL g0 mc ms pc ls (.inr (.inr (.inl aa)) :: r) h b := by
  intro H locs cells slots lc hP hS hl hln hc h1 h2 hz
  obtain ⟨⟨hx, hb, hml, hown, hts⟩, hEx, -⟩ := F
  obtain ⟨C, T, N, hcl, hkN, hlk⟩ := zFT_ok o _ hm
  refine va_get (D := E.2.2.1) (cl := zcl) (ws := zw E h) (C := C) (T := T) (N := N) (ci := ob.1) (fs := ob.2.mapIdx (zf E (h.2 aa))) (v := zc E v) hx hb hts (zcl_ok ob.1 C T N hcl).1 hown hEx.1 hP aa (zw_at ha) hcl k hkN (hts _ hlk) (fun _ h9 => h9) ?_ hd (kk H locs cells slots lc hP hS hl hln hc h1 h2 hz)
  rw [List.getElem?_mapIdx, hk]
  exact congrArg some hv
theorem zs_put (F : zF E p R s m args c (zon o) cc nL d g0 mc ms) (hini : ini = true → meth.name = "<init>") {x k aa : Nat} {ob : Nat × List (Option (Option Nat))} {v : ZV} {C : String} {T : u_T} {N : Nat} (hd : decode cc pc = .ok (.putfield x, 3)) (hm : (x, ob.1, k) ∈ zFT o) (hcl : zcl[ob.1]? = some (C, T, N)) (hfin : (T k).2.2.2 = false ∨ (ini = true ∧ C = zon o)) (ha : h.1[aa]? = some (.inl ob)) (hk : k < ob.2.length)
    (hn : narrow (zty ob.1 k) (zc E v) = zc E v) (hfit : fits (zty ob.1 k) (zc E v) = true) (hw : zw E h' = (zw E h).set aa (E.2.1 + aa, .inr (ob.1, (ob.2.mapIdx (zf E (h.2 aa))).set k (zc E v)))) (hlen : h'.1.length = h.1.length)
    (kk : zW E p e R s m args below meth c Q nL g0 mc ms (pc + 3) ls r h' b) : zW E p e R s m args below meth c Q nL g0 mc ms pc ls (v :: .inr (.inr (.inl aa)) :: r) h b := by
  intro H locs cells slots lc hP hS hl hln hc h1 h2 hz
  have FF := F
  obtain ⟨⟨hx, hb, hml, hown, hts⟩, hEx, -⟩ := F
  obtain ⟨C', T', N', hcl', hkN, hlk⟩ := zFT_ok o _ hm
  cases hcl.symm.trans hcl'
  obtain ⟨w1, w2, w3, w4, w5⟩ := zcl_ok ob.1 C T N hcl
  have go : ∀ (H1 : Heap) (locs1 : List Loc), va_P E.2.2.1 zcl ((zw E h).set aa (E.2.1 + aa, .inr (ob.1, (ob.2.mapIdx (zf E (h.2 aa))).set k (zc E v)))) H1 → va_S (zA E) s.heap H1 locs1 → W p E.1 e R s m args below meth c H1 locs1 cells slots Q (F0 m (pc + 3) lc (r.map (zc E))) := by
    intro H1 locs1 hP1 hS1
    rw [← hw] at hP1
    exact zgo FF kk hP1 hS1 hl hln (by rw [hlen]; exact hc) h1 h2
  by_cases hf : (T k).2.2.2 = false
  · exact va_put (D := E.2.2.1) (cl := zcl) (ws := zw E h) (C := C) (T := T) (N := N) (ci := ob.1) (fs := ob.2.mapIdx (zf E (h.2 aa))) (v := zc E v) (ty := zty ob.1 k) hx hb hts w1 (zty ob.1) w2 w3 hown hEx.1 hP zw_D hS aa (zw_at ha) hcl k hkN (hts _ hlk) (fun _ h9 => h9) hf (w2 k hkN) hn hfit (by simpa using hk) hd (fun H1 locs1 q1 _ q3 => go H1 locs1 q1 q3)
  · rcases hfin with hfin | ⟨q1, q2⟩
    · exact absurd hfin hf
    · exact va_putF (D := E.2.2.1) (cl := zcl) (ws := zw E h) (C := C) (T := T) (N := N) (ci := ob.1) (fs := ob.2.mapIdx (zf E (h.2 aa))) (v := zc E v) (ty := zty ob.1 k) hx hb hts w1 (zty ob.1) w2 w3 hown hEx.1 hP zw_D hS aa (zw_at ha) hcl k hkN (hts _ hlk) (fun _ h9 => h9) (by simpa using hf) (hini q1) ((w5 k hkN).trans q2) (w2 k hkN) hn hfit (by simpa using hk) hd (fun H1 locs1 q1 _ q3 => go H1 locs1 q1 q3)
theorem zs_iald (F : zF E p R s m args c (zon o) cc nL d g0 mc ms) {aa n : Nat} {i : Int} (hd : decode cc pc = .ok (.iaload, 1)) (ha : h.1[aa]? = some (.inr (.inl n))) (hi1 : 0 ≤ zr i) (hi2 : zr i < n) (kk : zW E p e R s m args below meth c Q nL g0 mc ms (pc + 1) ls (.inl (h.2 aa (zr i).toNat) :: r) h b) : zW E p e R s m args below meth c Q nL g0 mc ms pc ls (.inl i :: .inr (.inr (.inl aa)) :: r) h b := by
  intro H locs cells slots lc hP hS hl hln hc h1 h2 hz
  obtain ⟨⟨hx, hb, hml, hown, hts⟩, hEx, -⟩ := F
  exact va_iald (D := E.2.2.1) (cl := zcl) (ws := zw E h) hx hb hEx.1 hP aa 0 (zw_at ha) rfl (zo_in hi1 hi2) hd (kk H locs cells slots lc hP hS hl hln hc h1 h2 hz)
theorem zs_iast (F : zF E p R s m args c (zon o) cc nL d g0 mc ms) {aa n : Nat} {i z : Int} (hd : decode cc pc = .ok (.iastore, 1)) (ha : h.1[aa]? = some (.inr (.inl n))) (hi1 : 0 ≤ zr i) (hi2 : zr i < n) (kk : zW E p e R s m args below meth c Q nL g0 mc ms (pc + 1) ls r (h.1, zup h.2 aa (zr i).toNat z) b) : zW E p e R s m args below meth c Q nL g0 mc ms pc ls (.inl z :: .inl i :: .inr (.inr (.inl aa)) :: r) h b := by
  intro H locs cells slots lc hP hS hl hln hc h1 h2 hz
  have FF := F
  obtain ⟨⟨hx, hb, hml, hown, hts⟩, hEx, -⟩ := F
  refine va_iast (D := E.2.2.1) (cl := zcl) (ws := zw E h) hx hb hEx.1 hP zw_D hS aa 0 (zw_at ha) rfl (zo_in hi1 hi2) hd (fun H1 locs1 q1 _ q3 => zgo FF kk ?_ q3 hl hln hc h1 h2)
  rw [zw_put (E := E) (M' := zup h.2 aa (zr i).toNat z) ha (fun x hx => zup_ne _ hx)]
  refine (congrArg (fun w => va_P E.2.2.1 zcl ((zw E h).set aa (E.2.1 + aa, w)) H1) ?_).mp q1
  unfold ze
  dsimp only
  rw [zup_row, zo_cl]
  congr 4
  funext j
  by_cases hj : j = (zr i).toNat <;> simp [upd, hj]
theorem zs_rald (F : zF E p R s m args c (zon o) cc nL d g0 mc ms) {q : Nat} {i : Int} {ch : Bool} (hd : decode cc pc = .ok ((if ch then Instr.caload else Instr.iaload), 1)) (hq : ch = true ↔ q = 2) (hq4 : q < 4) (hi1 : 0 ≤ zr i) (hi2 : zr i < zrN q E.2.2.2.2.2.1) (kk : zW E p e R s m args below meth c Q nL g0 mc ms (pc + 1) ls (.inl (zrF q E.2.2.2.2.2.2 (zr i).toNat) :: r) h b) : zW E p e R s m args below meth c Q nL g0 mc ms pc ls (.inl i :: .inr (.inr (.inr q)) :: r) h b := by
  intro H locs cells slots lc hP hS hl hln hc h1 h2 hz
  obtain ⟨⟨hx, hb, hml, hown, hts⟩, hEx, -⟩ := F
  have hT := hEx.2.2.2.2 q hq4
  by_cases e : q = 2
  · subst e
    rw [if_pos (hq.mpr rfl)] at hd
    exact va_tc hx hb hT hS (zo_in hi1 hi2) rfl hd (kk H locs cells slots lc hP hS hl hln hc h1 h2 hz)
  · rw [if_neg (fun z => e (hq.mp z))] at hd
    have e2 : zrt q = .int := by
      match q, e with
      | 0, _ => rfl
      | 1, _ => rfl
      | 2, e => exact absurd rfl e
      | k + 3, _ => rfl
    rw [e2] at hT
    exact va_ti hx hb hT hS (zo_in hi1 hi2) rfl hd (kk H locs cells slots lc hP hS hl hln hc h1 h2 hz)
theorem zs_len (F : zF E p R s m args c (zon o) cc nL d g0 mc ms) (hd : decode cc pc = .ok (.arraylength, 1)) (kk : zlen E h st (fun r => zW E p e R s m args below meth c Q nL g0 mc ms (pc + 1) ls r h b)) : zW E p e R s m args below meth c Q nL g0 mc ms pc ls st h b := by
  intro H locs cells slots lc hP hS hl hln hc h1 h2 hz
  obtain ⟨⟨hx, hb, hml, hown, hts⟩, hEx, -⟩ := F
  unfold zlen at kk
  split at kk
  next aa r =>
    split at kk
    next n ha => exact va_alen (D := E.2.2.1) (cl := zcl) (ws := zw E h) hx hb hEx.1 hP aa 0 (zw_at ha) rfl (v := Int32.ofInt n) rfl hd (kk H locs cells slots lc hP hS hl hln hc h1 h2 hz)
    next n ha => exact va_alen (D := E.2.2.1) (cl := zcl) (ws := zw E h) hx hb hEx.1 hP aa 1 (zw_at ha) rfl (v := Int32.ofInt n.1) rfl hd (kk H locs cells slots lc hP hS hl hln hc h1 h2 hz)
    next => exact kk.elim
  next q r => exact va_tlen hx hb (hEx.2.2.2.2 q kk.1) hS (v := Int32.ofInt (zrN q E.2.2.2.2.2.1)) rfl hd (kk.2 H locs cells slots lc hP hS hl hln hc h1 h2 hz)
  next => exact kk.elim
theorem zs_aald (F : zF E p R s m args c (zon o) cc nL d g0 mc ms) {aa t : Nat} {ob : Nat × (Nat → Option Nat)} {i : Int} (hd : decode cc pc = .ok (.aaload, 1)) (ha : h.1[aa]? = some (.inr (.inr ob))) (hi1 : 0 ≤ zr i) (hi2 : zr i < ob.1) (ht : ob.2 (zr i).toNat = some t) (kk : zW E p e R s m args below meth c Q nL g0 mc ms (pc + 1) ls (.inr (.inr (.inl t)) :: r) h b) : zW E p e R s m args below meth c Q nL g0 mc ms pc ls (.inl i :: .inr (.inr (.inl aa)) :: r) h b := by
  intro H locs cells slots lc hP hS hl hln hc h1 h2 hz
  obtain ⟨⟨hx, hb, hml, hown, hts⟩, hEx, -⟩ := F
  refine va_aldq (D := E.2.2.1) (cl := zcl) (ws := zw E h) hx hb hEx.1 hP aa 1 (zw_at ha) rfl (zo_in hi1 hi2) hd ?_
  have k2 := kk H locs cells slots lc hP hS hl hln hc h1 h2 hz
  simp only [zo_cl, ht, Option.map_some, va_rf]
  exact k2
theorem zs_aast (F : zF E p R s m args c (zon o) cc nL d g0 mc ms) {aa t : Nat} {ob : Nat × (Nat → Option Nat)} {x : Nat × List (Option (Option Nat))} {i : Int} (hd : decode cc pc = .ok (.aastore, 1)) (ha : h.1[aa]? = some (.inr (.inr ob))) (ht : h.1[t]? = some (.inl x)) (hx7 : x.1 = 7) (hi1 : 0 ≤ zr i) (hi2 : zr i < ob.1) (kk : zW E p e R s m args below meth c Q nL g0 mc ms (pc + 1) ls r (h.1.set aa (.inr (.inr (ob.1, va_up ob.2 (zr i).toNat (some t)))), h.2) b) : zW E p e R s m args below meth c Q nL g0 mc ms pc ls (.inr (.inr (.inl t)) :: .inl i :: .inr (.inr (.inl aa)) :: r) h b := by
  intro H locs cells slots lc hP hS hl hln hc h1 h2 hz
  have FF := F
  obtain ⟨⟨hx, hb, hml, hown, hts⟩, hEx, -⟩ := F
  refine va_astq (D := E.2.2.1) (cl := zcl) (ws := zw E h) (r := (RX7, TX7, 3)) hx hb hEx.1 hP zw_D hS aa 1 t x.1 (zw_at ha) rfl (zw_at ht) (by rw [hx7]; rfl) (zo_in hi1 hi2) hd (fun H1 locs1 q1 _ q3 => zgo FF kk ?_ q3 hl hln (by rw [List.length_set]; exact hc) h1 h2)
  rw [zw_set (E := E) (M' := h.2) ha (fun _ _ => rfl)]
  refine (congrArg (fun w => va_P E.2.2.1 zcl ((zw E h).set aa (E.2.1 + aa, w)) H1) ?_).mp q1
  unfold ze
  dsimp only
  rw [zo_cl]
  congr 7
  funext j
  by_cases hj : j = (zr i).toNat <;> simp [va_up, hj]
theorem zs_gets (F : zF E p R s m args c (zon o) cc nL d g0 mc ms) {x q : Nat} (hd : decode cc pc = .ok (.getstatic x, 3)) (hm : (x, q) ∈ zST o) (kk : zW E p e R s m args below meth c Q nL g0 mc ms (pc + 3) ls (.inr (.inr (.inr q)) :: st) h b) : zW E p e R s m args below meth c Q nL g0 mc ms pc ls st h b := by
  intro H locs cells slots lc hP hS hl hln hc h1 h2 hz
  obtain ⟨⟨hx, hb, hml, hown, hts⟩, hEx, -⟩ := F
  obtain ⟨hq, hl2⟩ := zST_ok o _ hm
  have hZ := hEx.2.2.2.1 q hq
  rcases hl2 with w | w
  · exact va_gets hx hb hZ hS hown (hts _ w) (fun _ h9 => h9) hd (kk H locs cells slots lc hP hS hl hln hc h1 h2 hz)
  · exact va_getsN hx hb hZ hS hown (va_Nw.use rfl (hEx.2.2.1 _ w)) (fun _ h9 => h9) hd (kk H locs cells slots lc hP hS hl hln hc h1 h2 hz)
end ZCell
