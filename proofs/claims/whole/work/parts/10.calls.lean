/-! THE ENGINE IS SOUND: what is made, and calls -/
theorem zfl_def : ∀ ci, ci < 12 → ∀ j, j < 25 → j < (zfl ci).length → defaultValue (zty ci j) = (if (zfl ci)[j]? = some none then .int 0 else .null) := by decide +kernel
theorem zfl_dv {E : ZE} {ci j : Nat} (hc : ci < 12) (hj : j < (zfl ci).length) : defaultValue (zty ci j) = vp_V ((zfl ci).mapIdx (zf E (fun _ => 0))) j := by
  have hl : ∀ ci, ci < 12 → (zfl ci).length ≤ 25 := by decide +kernel
  have hr : ∀ ci, ci < 12 → ∀ j, j < 25 → (zfl ci)[j]? = none ∨ (zfl ci)[j]? = some none ∨ (zfl ci)[j]? = some (some none) := by decide +kernel
  have h25 : j < 25 := Nat.lt_of_lt_of_le hj (hl ci hc)
  rw [zfl_def ci hc j h25 hj]
  unfold vp_V
  rw [List.getD_eq_getElem?_getD, List.getElem?_mapIdx]
  rcases hr ci hc j h25 with q | q | q
  · rw [q]; rfl
  · rw [q]; rfl
  · rw [q]; rfl
theorem zro_row (M : Nat → Nat → Int) (a : Nat) : zro M a a = fun _ => 0 := by
  funext j
  simp [zro]
section ZMake
variable {E : ZE} {p : Program} {e : Env} {R : Room} {s : State} {m : MethodId} {args : Array Value} {below : List Frame} {meth : Method} {c : Code} {Q : State → Prop}
variable {o nL d g0 mc ms pc len : Nat} {cc : ByteArray} {ini : Bool} {a : ZX} {ls : ZL} {st r : List ZV} {h h' : ZH} {b : ZB2}
/-- where the new cell lies -/
theorem znew_at {q : Nat} {w : va_E} {H1 : Heap} {cells : Nat} (hs : s.heap.size = E.2.1 + g0) (hc : cells + g0 = h.1.length) (hP : va_P E.2.2.1 zcl (zw E h ++ [(q, w)]) H1) (hD : va_D (zA E) (zw E h ++ [(q, w)])) (hle : H1.size ≤ s.heap.size + (cells + 1)) : q = E.2.1 + h.1.length := by
  have hlen : (zw E h).length = h.1.length := by simp [zw]
  have hat : (zw E h ++ [(q, w)])[h.1.length]? = some (q, w) := by
    rw [List.getElem?_append_right (by omega), hlen, Nat.sub_self]; rfl
  have h1 : q < H1.size := (hP _ _ hat).lt
  have h2 : E.2.1 ≤ q := hD.2 _ _ hat
  by_cases hq : q < E.2.1 + h.1.length
  · exfalso
    have hk : q - E.2.1 < h.1.length := by omega
    have hat2 : (zw E h ++ [(q, w)])[q - E.2.1]? = some (E.2.1 + (q - E.2.1), ze E (h.1[q - E.2.1]'hk) (h.2 (q - E.2.1))) := by
      rw [List.getElem?_append_left (by omega)]
      exact zw_at (List.getElem?_eq_getElem hk)
    have := hD.1 _ _ _ _ hat hat2 (by dsimp only; omega)
    omega
  · omega
theorem zs_new (F : zF E p R s m args c (zon o) cc nL d g0 mc ms) {x ci : Nat} (hd : decode cc pc = .ok (.new x, 3)) (hm : (x, ci) ∈ zNT o) (hb1 : 1 ≤ b.1) (hb2 : (zfl ci).length ≤ b.2) (kk : zW E p e R s m args below meth c Q nL g0 mc ms (pc + 3) ls (.inr (.inr (.inl h.1.length)) :: st) (h.1 ++ [.inl (ci, zfl ci)], zro h.2 h.1.length) (b.1 - 1, b.2 - (zfl ci).length)) : zW E p e R s m args below meth c Q nL g0 mc ms pc ls st h b := by
  intro H locs cells slots lc hP hS hl hln hc h1 h2 hz
  have FF := F
  obtain ⟨⟨hx, hb, hml, hown, hts⟩, hEx, hsz, -, -, hRc, hRs, -⟩ := F
  obtain ⟨C, T, N, hcl, w1, w2, l1, l2, l3⟩ := zNT_ok o _ hm
  have hN : (zfl ci).length = N := (zcl_ok ci C T N hcl).2.2.2.1
  have hci : ci < 12 := (List.getElem?_eq_some_iff.mp hcl).1
  refine va_new (D := E.2.2.1) (cl := zcl) (ws := zw E h) (C := C) (T := T) (N := N) (ci := ci) (fs := (zfl ci).mapIdx (zf E (fun _ => 0))) hx hb hts w1 (zty ci) w2 hown (hts _ l1) (hts _ l2) (hts _ l3) hEx.1 hP zw_D hS (fun q h9 => by show E.2.1 ≤ q; omega) hcl (fun j hj => zfl_dv hci (by rw [hN]; exact hj)) (by omega) (by omega) hd (fun q H1 hP1 hD1 hS1 => ?_)
  refine W.sized (fun hle => ?_)
  have hq := znew_at (E := E) hsz hc hP1 hD1 hle
  subst hq
  refine zgo FF kk ?_ hS1 hl hln (by simp; omega) (by dsimp only; omega) (by dsimp only; omega)
  rw [zw_push (E := E) (h := h) (M' := zro h.2 h.1.length) (fun x hx => zro_ne _ hx)]
  refine (congrArg (fun w => va_P E.2.2.1 zcl (zw E h ++ [(E.2.1 + h.1.length, w)]) H1) ?_).mp hP1
  unfold ze
  rw [zro_row]
theorem zs_newa (F : zF E p R s m args c (zon o) cc nL d g0 mc ms) {n : Int} (hd : decode cc pc = .ok (.newarray .int, 2)) (hb1 : 1 ≤ b.1) (hn1 : 0 ≤ zr n) (hn2 : zr n ≤ 1000) (hb2 : (zr n).toNat ≤ b.2) (kk : zW E p e R s m args below meth c Q nL g0 mc ms (pc + 2) ls (.inr (.inr (.inl h.1.length)) :: r) (h.1 ++ [.inr (.inl (zr n).toNat)], zro h.2 h.1.length) (b.1 - 1, b.2 - (zr n).toNat)) : zW E p e R s m args below meth c Q nL g0 mc ms pc ls (.inl n :: r) h b := by
  intro H locs cells slots lc hP hS hl hln hc h1 h2 hz
  have FF := F
  obtain ⟨⟨hx, hb, hml, hown, hts⟩, hEx, hsz, -, -, hRc, hRs, -⟩ := F
  refine va_newa (atype := .int) (D := E.2.2.1) (cl := zcl) (ws := zw E h) (ty := .int) (N' := (zr n).toNat) (a0 := ((zr n).toNat, .inl (fun _ => Int32.ofInt 0))) hx hb (hts _ zw_ac) rfl hEx.1 hP zw_D hS (fun q h9 => by show E.2.1 ≤ q; omega) (fun cA => by rw [vp_cell_i]; rfl) (fun h9 => ?_) rfl (by show (zr n).toNat * 4 ≤ _; omega) (by omega) (by omega) hd (fun q cA H1 hK1 hP1 hD1 hS1 => ?_)
  · have : zr n < zr 0 := (zo_lt n 0).mp h9
    have : zr 0 = 0 := rfl
    omega
  · refine W.sized (fun hle => ?_)
    have hq := znew_at (E := E) hsz hc hP1 hD1 hle
    subst hq
    have e1 : s.vm.findClass ("[" ++ FieldType.int.toString) = some cA := (hK1.2 2 (cA, .int) rfl).2
    have e2 : s.vm.findClass ("[" ++ FieldType.int.toString) = some E.2.2.2.1.1 := (hEx.1.2 0 (E.2.2.2.1.1, .int) rfl).2
    have e3 : cA = E.2.2.2.1.1 := Option.some.inj (e1.symm.trans e2)
    subst e3
    refine zgo FF kk ?_ hS1 hl hln (by simp; omega) (by dsimp only; omega) (by dsimp only; omega)
    rw [zw_push (E := E) (h := h) (M' := zro h.2 h.1.length) (fun x hx => zro_ne _ hx)]
    refine (congrArg (fun w => va_P E.2.2.1 zcl (zw E h ++ [(E.2.1 + h.1.length, w)]) H1) ?_).mp hP1
    unfold ze
    rw [zro_row]
theorem zs_anew (F : zF E p R s m args c (zon o) cc nL d g0 mc ms) {n : Int} {x : Nat} (hd : decode cc pc = .ok (.anewarray x, 3)) (hm : x ∈ zAT o) (hb1 : 1 ≤ b.1) (hn1 : 0 ≤ zr n) (hn2 : zr n ≤ 1000) (hb2 : (zr n).toNat ≤ b.2) (kk : zW E p e R s m args below meth c Q nL g0 mc ms (pc + 3) ls (.inr (.inr (.inl h.1.length)) :: r) (h.1 ++ [.inr (.inr ((zr n).toNat, fun _ => none))], zro h.2 h.1.length) (b.1 - 1, b.2 - (zr n).toNat)) : zW E p e R s m args below meth c Q nL g0 mc ms pc ls (.inl n :: r) h b := by
  intro H locs cells slots lc hP hS hl hln hc h1 h2 hz
  have FF := F
  obtain ⟨⟨hx, hb, hml, hown, hts⟩, hEx, hsz, -, -, hRc, hRs, -⟩ := F
  refine va_newq (D := E.2.2.1) (cl := zcl) (ws := zw E h) (C := zO) (N' := (zr n).toNat) hx hb hown (hts _ (zAT_ok o _ hm)) hEx.2.1 hEx.1 hP zw_D hS (fun q h9 => by show E.2.1 ≤ q; omega) (fun h9 => ?_) rfl (by omega) (by omega) (by omega) hd (fun q cA H1 hK1 hP1 hD1 hS1 => ?_)
  · have : zr n < zr 0 := (zo_lt n 0).mp h9
    have : zr 0 = 0 := rfl
    omega
  · refine W.sized (fun hle => ?_)
    have hq := znew_at (E := E) hsz hc hP1 hD1 hle
    subst hq
    obtain ⟨_, _, _, _, _, e1⟩ := (hK1.2 2 (cA, .object zO) rfl).2
    obtain ⟨_, _, _, _, _, e2⟩ := (hEx.1.2 1 (E.2.2.2.1.2, .object zO) rfl).2
    have e3 : cA = E.2.2.2.1.2 := Option.some.inj (e1.symm.trans e2)
    subst e3
    refine zgo FF kk ?_ hS1 hl hln (by simp; omega) (by dsimp only; omega) (by dsimp only; omega)
    rw [zw_push (E := E) (h := h) (M' := zro h.2 h.1.length) (fun x hx => zro_ne _ hx)]
    exact hP1
theorem zs_copy (F : zF E p R s m args c (zon o) cc nL d g0 mc ms) {x : Nat} (hd : decode cc pc = .ok (.invokestatic x, 3)) (hm : x ∈ zYT o) (kk : zcopy h st (fun r h' => zW E p e R s m args below meth c Q nL g0 mc ms (pc + 3) ls r h' b)) : zW E p e R s m args below meth c Q nL g0 mc ms pc ls st h b := by
  intro H locs cells slots lc hP hS hl hln hc h1 h2 hz
  have FF := F
  obtain ⟨⟨hx, hb, hml, hown, hts⟩, hEx, hsz, hRf, hRl, hRc, hRs, hd1⟩ := F
  unfold zcopy at kk
  split at kk
  next n dp a1 sp a0 r =>
    obtain ⟨hcat, kk⟩ := kk
    split at kk
    next n0 n1 ha0 ha1 =>
      obtain ⟨q1, q2, q3, q4, q5, kk⟩ := kk
      have nl : ∀ {z : Int}, 0 ≤ zr z → ¬ Int32.ofInt z < 0 := by
        intro z hz h9
        have : zr z < zr 0 := (zo_lt z 0).mp h9
        have : zr 0 = 0 := rfl
        omega
      have hw : ((r.map (zc E)).map fun v => v.category).sum ≤ 8 := by rw [zo_cat]; exact hcat
      have hnf : nativeFrameWords "java/lang/System" "arraycopy" 5 ≤ 20 := by decide +kernel
      refine va_copyi (rest := r.map (zc E)) (D := E.2.2.1) (cl := zcl) (ws := zw E h) (ty := .int) hx hb (by rw [hml]; exact hl.1.symm) hown (hts _ (zYT_ok o _ hm)) (hts _ zw_cn) (hts _ zw_cs) (hts _ zw_ci) hEx.1 hP zw_D hS a0 a1 0 0 (zw_at ha0) (zw_at ha1) rfl rfl rfl (nl q1) (nl q2) (nl q3) (by simp only [zo_cl]; omega) (by simp only [zo_cl]; omega) (fun _ _ => rfl) (by omega) (by omega) hd (fun H1 locs1 hP1 hD1 hS1 => zgo FF kk ?_ hS1 hl hln hc h1 h2)
      rw [zw_put (E := E) (M' := zcp h.2 a0 a1 (zr sp).toNat (zr dp).toNat (zr n).toNat) ha1 (fun x hx => zcp_ne _ hx)]
      refine (congrArg (fun w => va_P E.2.2.1 zcl ((zw E h).set a1 (E.2.1 + a1, w)) H1) ?_).mp hP1
      unfold ze
      dsimp only
      simp only [zo_cl]
      congr 4
      funext j
      unfold va_cpy zcp
      simp only [true_and]
      split <;> rfl
    next => exact kk.elim
  next => exact kk.elim
theorem zs_abs (F : zF E p R s m args c (zon o) cc nL d g0 mc ms) {x : Nat} {x0 : Int} (hd : decode cc pc = .ok (.invokestatic x, 3)) (hm : (x, 0) ∈ zHT o) (hcat : (r.map zcat).sum ≤ 8) (kk : zW E p e R s m args below meth c Q nL g0 mc ms (pc + 3) ls (.inl (if 0 ≤ zr x0 then x0 else -x0) :: r) h b) : zW E p e R s m args below meth c Q nL g0 mc ms pc ls (.inl x0 :: r) h b := by
  intro H locs cells slots lc hP hS hl hln hc h1 h2 hz
  obtain ⟨⟨hx, hb, hml, hown, hts⟩, hEx, hsz, hRf, hRl, hRc, hRs, hd1⟩ := F
  have hlk := zHT_ok o _ hm
  have hml2 : c.maxLocals = lc.size := by rw [hml]; exact hl.1.symm
  have hw : ((r.map (zc E)).map fun v => v.category).sum ≤ 8 := by rw [zo_cat]; exact hcat
  refine va_mabs (rest := r.map (zc E)) hx hb hml2 hown (hts _ hlk) (hts _ zw_abss) (hts _ zw_mi) (hts _ zw_absc) (by omega) (by omega) (by omega) (by omega) hd ?_
  have k2 := kk H locs cells slots lc hP hS hl hln hc h1 h2 hz
  have e9 : (if 0 ≤ Int32.ofInt x0 then Int32.ofInt x0 else 0 - Int32.ofInt x0) = Int32.ofInt (if 0 ≤ zr x0 then x0 else -x0) := by
    have e8 : 0 ≤ Int32.ofInt x0 ↔ 0 ≤ zr x0 := Int32.le_iff_toInt_le
    by_cases q : 0 ≤ zr x0
    · rw [if_pos q, if_pos (e8.mpr q)]
    · rw [if_neg q, if_neg (fun z => q (e8.mp z)), Int32.zero_sub, Int32.ofInt_neg]
  rw [e9]
  exact k2
theorem zs_max (F : zF E p R s m args c (zon o) cc nL d g0 mc ms) {x : Nat} {x0 y0 : Int} (hd : decode cc pc = .ok (.invokestatic x, 3)) (hm : (x, 1) ∈ zHT o) (hcat : (r.map zcat).sum ≤ 8) (kk : zW E p e R s m args below meth c Q nL g0 mc ms (pc + 3) ls (.inl (if zr x0 < zr y0 then y0 else x0) :: r) h b) : zW E p e R s m args below meth c Q nL g0 mc ms pc ls (.inl y0 :: .inl x0 :: r) h b := by
  intro H locs cells slots lc hP hS hl hln hc h1 h2 hz
  obtain ⟨⟨hx, hb, hml, hown, hts⟩, hEx, hsz, hRf, hRl, hRc, hRs, hd1⟩ := F
  have hlk := zHT_ok o _ hm
  have hml2 : c.maxLocals = lc.size := by rw [hml]; exact hl.1.symm
  have hw : ((r.map (zc E)).map fun v => v.category).sum ≤ 8 := by rw [zo_cat]; exact hcat
  refine va_mmax (rest := r.map (zc E)) hx hb hml2 hown (hts _ hlk) (hts _ zw_maxs) (hts _ zw_mi) (hts _ zw_maxc) (by omega) (by omega) (by omega) (by omega) hd ?_
  have k2 := kk H locs cells slots lc hP hS hl hln hc h1 h2 hz
  have e9 : (if Int32.ofInt x0 < Int32.ofInt y0 then Int32.ofInt y0 else Int32.ofInt x0) = Int32.ofInt (if zr x0 < zr y0 then y0 else x0) := by
    by_cases q : zr x0 < zr y0
    · rw [if_pos q, if_pos ((zo_lt _ _).mpr q)]
    · rw [if_neg q, if_neg (fun z => q ((zo_lt _ _).mp z))]
  rw [e9]
  exact k2
theorem zs_min (F : zF E p R s m args c (zon o) cc nL d g0 mc ms) {x : Nat} {x0 y0 : Int} (hd : decode cc pc = .ok (.invokestatic x, 3)) (hm : (x, 2) ∈ zHT o) (hcat : (r.map zcat).sum ≤ 8) (kk : zW E p e R s m args below meth c Q nL g0 mc ms (pc + 3) ls (.inl (if zr y0 < zr x0 then y0 else x0) :: r) h b) : zW E p e R s m args below meth c Q nL g0 mc ms pc ls (.inl y0 :: .inl x0 :: r) h b := by
  intro H locs cells slots lc hP hS hl hln hc h1 h2 hz
  obtain ⟨⟨hx, hb, hml, hown, hts⟩, hEx, hsz, hRf, hRl, hRc, hRs, hd1⟩ := F
  have hlk := zHT_ok o _ hm
  have hml2 : c.maxLocals = lc.size := by rw [hml]; exact hl.1.symm
  have hw : ((r.map (zc E)).map fun v => v.category).sum ≤ 8 := by rw [zo_cat]; exact hcat
  refine va_mmin (rest := r.map (zc E)) hx hb hml2 hown (hts _ hlk) (hts _ zw_mins) (hts _ zw_mi) (hts _ zw_minc) (by omega) (by omega) (by omega) (by omega) hd ?_
  have k2 := kk H locs cells slots lc hP hS hl hln hc h1 h2 hz
  have e9 : (if Int32.ofInt y0 < Int32.ofInt x0 then Int32.ofInt y0 else Int32.ofInt x0) = Int32.ofInt (if zr y0 < zr x0 then y0 else x0) := by
    by_cases q : zr y0 < zr x0
    · rw [if_pos q, if_pos ((zo_lt _ _).mpr q)]
    · rw [if_neg q, if_neg (fun z => q ((zo_lt _ _).mp z))]
  rw [e9]
  exact k2
theorem zs_obj (F : zF E p R s m args c (zon o) cc nL d g0 mc ms) {x k : Nat} (hd : decode cc pc = .ok (.invokespecial x, 3)) (hm : x ∈ zOT o) (hcat : (r.map zcat).sum ≤ 8) (kk : zW E p e R s m args below meth c Q nL g0 mc ms (pc + 3) ls r h b) : zW E p e R s m args below meth c Q nL g0 mc ms pc ls (.inr (.inr (.inl k)) :: r) h b := by
  intro H locs cells slots lc hP hS hl hln hc h1 h2 hz
  obtain ⟨⟨hx, hb, hml, hown, hts⟩, hEx, hsz, hRf, hRl, hRc, hRs, hd1⟩ := F
  refine W.objInit hx hb hown (hts _ (zOT_ok o _ hm)) (hts _ zw_oi) (hts _ zw_oc) rfl (by rw [hml]; exact hl.1) (a := E.2.1 + k) (rest := r.map (zc E)) rfl hd (by omega) (by rw [zo_cat]; show 2 * 0 + _ + 12 ≤ _; omega) ?_
  exact kk H locs cells slots lc hP hS hl hln hc h1 h2 hz
end ZMake
