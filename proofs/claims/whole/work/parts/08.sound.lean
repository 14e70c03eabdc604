/-! THE ENGINE IS SOUND: one instruction -/
def ztb (pc : Nat) (lo : Int) (os : List Int) : List (Int × Nat) := match os with
  | [] => []
  | o :: r => (lo, ((pc : Int) + o).toNat) :: ztb pc (lo + 1) r
/-- what a program can check of an instruction; o: number of the own kind, ini: in a constructor -/
def zck (o : Nat) (ini : Bool) (nL pc : Nat) (i : Instr) (len : Nat) (a : ZX) : Bool := match i with
  | .iconst _ => len == 1
  | .bipush n => len == 2 && decide ((Int8.ofInt n).toInt32 = Int32.ofInt n)
  | .sipush n => len == 3 && decide ((Int16.ofInt n).toInt32 = Int32.ofInt n)
  | .ldc x => len == 2 && decide ((x, a.1) ∈ zKT o)
  | .ldc_w x => len == 3 && decide ((x, a.1) ∈ zKT o)
  | .ldc2_w x => len == 3 && decide ((x, a.1) ∈ zLT o)
  | .lconst n => len == 1 && decide (Int64.ofNat (n : Nat) = Int64.ofInt a.1)
  | .iload_n k => len == 1 && zix a == k.val
  | .iload k => len == 2 && zix a == k
  | .lload_n k => len == 1 && zix a == k.val
  | .lload k => len == 2 && zix a == k
  | .aload_n k => len == 1 && zix a == k.val
  | .aload k => len == 2 && zix a == k
  | .istore_n k => len == 1 && zix a == k.val && decide (zix a < nL)
  | .istore k => len == 2 && zix a == k && decide (zix a < nL)
  | .astore_n k => len == 1 && zix a == k.val && decide (zix a < nL)
  | .astore k => len == 2 && zix a == k && decide (zix a < nL)
  | .iinc k _ => len == 3 && zix a == k && decide (zix a < nL)
  | .goto f => len == 3 && decide ((pc : Int) + f = zix a)
  | .ifCond _ f => len == 3 && decide ((pc : Int) + f = zix a)
  | .if_icmp _ f => len == 3 && decide ((pc : Int) + f = zix a)
  | .tableswitch d lo hi os => decide ((pc : Int) + d = zix a) && decide (a.2.2 = ztb pc lo os.toList) && decide (hi + 1 = lo + os.toList.length) && os.toList.all (fun f => decide (0 ≤ (pc : Int) + f))
  | .lookupswitch d ps => decide ((pc : Int) + d = zix a) && decide (a.2.2 = ps.toList.map (fun q => (q.1, ((pc : Int) + q.2).toNat))) && ps.toList.all (fun q => decide (0 ≤ (pc : Int) + q.2)) && (ps.toList.zip (ps.toList.drop 1)).all (fun (a, next) => a.1 < next.1)
  | .getfield x => len == 3 && decide ((x, zix a, a.2.1.getD 1 0) ∈ zFT o)
  | .putfield x => len == 3 && decide ((x, zix a, a.2.1.getD 1 0) ∈ zFT o) && (match zcl[zix a]? with
    | some (C, T, _) => (!(T (a.2.1.getD 1 0)).2.2.2 || (ini && decide (C = zon o))) && (match zty (zix a) (a.2.1.getD 1 0) with
      | .int => decide (a.1 = 0)
      | .boolean => decide (a.1 = 1)
      | .object _ => decide (a.1 = 2)
      | .array _ => decide (a.1 = 2)
      | _ => false)
    | none => false)
  | .getstatic x => len == 3 && decide ((x, zix a) ∈ zST o)
  | .new x => len == 3 && decide ((x, zix a) ∈ zNT o)
  | .newarray t => len == 2 && decide (t = .int)
  | .anewarray x => len == 3 && decide (x ∈ zAT o)
  | .invokestatic x => len == 3 && (match a.2.1 with
    | [] => decide (x ∈ zYT o)
    | [f] => decide ((x, f) ∈ zHT o) && decide (f < 3)
    | n :: k :: mc :: ci :: _ => decide ((x, n) ∈ zMT o) && decide ((zm n).2.2.2.2 = (0, k, ci, mc, a.1.toNat))
    | _ => false)
  | .invokevirtual x => len == 3 && (match a.2.1 with
    | n :: k :: mc :: ci :: _ => decide ((x, n) ∈ zMT o) && decide ((zm n).2.2.2.2 = (1, k, ci, mc, a.1.toNat))
    | _ => false)
  | .invokespecial x => len == 3 && (match a.2.1 with
    | [] => decide (x ∈ zOT o)
    | n :: k :: mc :: ci :: _ => decide ((x, n) ∈ zMT o) && decide ((zm n).2.2.2.2 = (2, k, ci, mc, a.1.toNat))
    | _ => false)
  | _ => len == 1
theorem zo_idiv (x y : Int) : Int32.ofInt ((zr x).tdiv (zr y)) = Int32.ofInt x / Int32.ofInt y := by
  apply Int32.toInt_inj.mp
  rw [Int32.toInt_ofInt, Int32.toInt_div]
  rfl
theorem zo_irem (x y : Int) : Int32.ofInt ((zr x).tmod (zr y)) = Int32.ofInt x - Int32.ofInt x / Int32.ofInt y * Int32.ofInt y := by
  rw [← zo_idiv, Int.tmod_def, Int32.ofInt_sub, Int32.ofInt_mul, zr_ofInt, zr_ofInt, Int32.mul_comm]
theorem zo_lt (x y : Int) : Int32.ofInt x < Int32.ofInt y ↔ zr x < zr y := Int32.lt_iff_toInt_lt
theorem zo_eq (x y : Int) : Int32.ofInt x = Int32.ofInt y ↔ zr x = zr y := Int32.toInt_inj.symm
theorem zo_in {i : Int} {n : Nat} (h1 : 0 ≤ zr i) (h2 : zr i < n) : vp_in (Int32.ofInt i) n := vp_in_iff.mpr ⟨h1, h2⟩
theorem zo_cl (i : Int) : (Int32.ofInt i).toNatClampNeg = (zr i).toNat := rfl
theorem zo_cat (E : ZE) (r : List ZV) : ((r.map (zc E)).map fun v => v.category) = r.map zcat := by
  rw [List.map_map]
  apply List.map_congr_left
  intro v _
  rcases v with z | z | k | q <;> rfl
theorem zo_cmp (x y : Int) : lg_cmp (Int64.ofInt x) (Int64.ofInt y) = Int32.ofInt (if zr8 y < zr8 x then 1 else if zr8 x = zr8 y then 0 else -1) := by
  unfold lg_cmp zr8
  simp only [gt_iff_lt, Int64.lt_iff_toInt_lt, ← Int64.toInt_inj]
  split
  · rfl
  · split <;> rfl
section ZI
variable {E : ZE} {p : Program} {e : Env} {R : Room} {s : State} {m : MethodId} {args : Array Value} {below : List Frame} {meth : Method} {c : Code} {Q : State → Prop}
variable {o nL d g0 mc ms pc len : Nat} {cc : ByteArray} {ini : Bool} {a : ZX} {ls : ZL} {st : List ZV} {h : ZH} {b : ZB2} {N : ZN} {K : ZK} {Rt : ZR} {CT : Nat → ZC}
theorem zpure {pc' : Nat} {st' : List ZV} (k : zW E p e R s m args below meth c Q nL g0 mc ms pc' ls st' h b) (f : ∀ {H : Heap} {locs : List Loc} {cells slots : Nat} (lc : Array Slot), lv_has lc nL (zlv E ls) → W p E.1 e R s m args below meth c H locs cells slots Q (F0 m pc' lc (st'.map (zc E))) → W p E.1 e R s m args below meth c H locs cells slots Q (F0 m pc lc (st.map (zc E)))) : zW E p e R s m args below meth c Q nL g0 mc ms pc ls st h b :=
  fun H locs cells slots lc hP hS hl hln hc h1 h2 hz => f lc hl (k H locs cells slots lc hP hS hl hln hc h1 h2 hz)
theorem zs_store (F : zF E p R s m args c (zon o) cc nL d g0 mc ms) {i pc' : Nat} {v : ZV} {r : List ZV} (k : zW E p e R s m args below meth c Q nL g0 mc ms pc' (ls.set i (some v)) r h b) (hz : zok ls i)
    (f : ∀ {H : Heap} {locs : List Loc} {cells slots : Nat} (lc : Array Slot) (lv' : List (Nat × Value)), lv_has lc nL (zlv E ls) → ((i, zc E v) :: (zlv E ls).filter (fun q => !(q.1 == i) && !(q.1 + 1 == i && q.2.category == 2)) = lv') → (∀ lc', lv_has lc' nL lv' → W p E.1 e R s m args below meth c H locs cells slots Q (F0 m pc' lc' (r.map (zc E)))) → W p E.1 e R s m args below meth c H locs cells slots Q (F0 m pc lc (st.map (zc E)))) : zW E p e R s m args below meth c Q nL g0 mc ms pc ls st h b :=
  fun H locs cells slots lc hP hS hl hln hc h1 h2 hz2 => f lc _ hl rfl (fun lc' hl' => k H locs cells slots lc' hP hS (zlv_set hz hl') (by rw [List.length_set]; exact hln) hc h1 h2 hz2)
theorem zs_cnd (F : zF E p R s m args c (zon o) cc nL d g0 mc ms) {cd : ClassFile.Cond} {f : Int} {t : Nat} {x y : Int} {r : List ZV} (hd : decode cc pc = .ok (.if_icmp cd f, 3)) (ht : (pc : Int) + f = t) (k : zcnd cd (zr x) (zr y) (zW E p e R s m args below meth c Q nL g0 mc ms t ls r h b) (zW E p e R s m args below meth c Q nL g0 mc ms (pc + 3) ls r h b)) : zW E p e R s m args below meth c Q nL g0 mc ms pc ls (.inl y :: .inl x :: r) h b := by
  intro H locs cells slots lc hP hS hl hln hc h1 h2 hz
  obtain ⟨⟨hx, hb, -⟩, -⟩ := F
  cases cd with
  | eq => exact lv_icmp_eq hx hb hd ht (fun q => k.1 ((zo_eq _ _).mp q) H locs cells slots lc hP hS hl hln hc h1 h2 hz) (fun q => k.2 (fun z => q ((zo_eq _ _).mpr z)) H locs cells slots lc hP hS hl hln hc h1 h2 hz)
  | ne => exact lv_icmp_ne hx hb hd ht (fun q => k.2 (fun z => q ((zo_eq _ _).mpr z)) H locs cells slots lc hP hS hl hln hc h1 h2 hz) (fun q => k.1 ((zo_eq _ _).mp q) H locs cells slots lc hP hS hl hln hc h1 h2 hz)
  | lt => exact lv_icmp_lt hx hb hd ht (fun q => k.1 ((zo_lt _ _).mp q) H locs cells slots lc hP hS hl hln hc h1 h2 hz) (fun q => k.2 (fun z => q ((zo_lt _ _).mpr z)) H locs cells slots lc hP hS hl hln hc h1 h2 hz)
  | ge => exact lv_icmp_ge hx hb hd ht (fun q => k.2 (fun z => Int32.not_lt.mpr q ((zo_lt _ _).mpr z)) H locs cells slots lc hP hS hl hln hc h1 h2 hz) (fun q => k.1 ((zo_lt _ _).mp (Int32.not_le.mp q)) H locs cells slots lc hP hS hl hln hc h1 h2 hz)
  | gt => exact lv_icmp_gt hx hb hd ht (fun q => k.1 ((zo_lt _ _).mp q) H locs cells slots lc hP hS hl hln hc h1 h2 hz) (fun q => k.2 (fun z => q ((zo_lt _ _).mpr z)) H locs cells slots lc hP hS hl hln hc h1 h2 hz)
  | le => exact lv_icmp_le hx hb hd ht (fun q => k.2 (fun z => Int32.not_lt.mpr q ((zo_lt _ _).mpr z)) H locs cells slots lc hP hS hl hln hc h1 h2 hz) (fun q => k.1 ((zo_lt _ _).mp (Int32.not_le.mp q)) H locs cells slots lc hP hS hl hln hc h1 h2 hz)
theorem zs_cnd0 (F : zF E p R s m args c (zon o) cc nL d g0 mc ms) {cd : ClassFile.Cond} {f : Int} {t : Nat} {x : Int} {r : List ZV} (hd : decode cc pc = .ok (.ifCond cd f, 3)) (ht : (pc : Int) + f = t) (k : zcnd cd (zr x) 0 (zW E p e R s m args below meth c Q nL g0 mc ms t ls r h b) (zW E p e R s m args below meth c Q nL g0 mc ms (pc + 3) ls r h b)) : zW E p e R s m args below meth c Q nL g0 mc ms pc ls (.inl x :: r) h b := by
  intro H locs cells slots lc hP hS hl hln hc h1 h2 hz
  obtain ⟨⟨hx, hb, -⟩, -⟩ := F
  have e0 : (0 : Int) = zr 0 := rfl
  rw [e0] at k
  have e1 : Int32.ofInt 0 = 0 := rfl
  cases cd with
  | eq => exact lv_if_eq hx hb hd ht (fun q => k.1 ((zo_eq _ _).mp q) H locs cells slots lc hP hS hl hln hc h1 h2 hz) (fun q => k.2 (fun z => q ((zo_eq _ _).mpr z)) H locs cells slots lc hP hS hl hln hc h1 h2 hz)
  | ne => exact lv_if_ne hx hb hd ht (fun q => k.2 (fun z => q ((zo_eq _ _).mpr z)) H locs cells slots lc hP hS hl hln hc h1 h2 hz) (fun q => k.1 ((zo_eq _ _).mp q) H locs cells slots lc hP hS hl hln hc h1 h2 hz)
  | lt => exact lv_if_lt hx hb hd ht (fun q => k.1 ((zo_lt _ _).mp q) H locs cells slots lc hP hS hl hln hc h1 h2 hz) (fun q => k.2 (fun z => q ((zo_lt _ _).mpr z)) H locs cells slots lc hP hS hl hln hc h1 h2 hz)
  | ge => exact lv_if_ge hx hb hd ht (fun q => k.2 (fun z => Int32.not_lt.mpr q ((zo_lt _ _).mpr z)) H locs cells slots lc hP hS hl hln hc h1 h2 hz) (fun q => k.1 ((zo_lt _ _).mp (Int32.not_le.mp q)) H locs cells slots lc hP hS hl hln hc h1 h2 hz)
  | gt => exact lv_if_gt hx hb hd ht (fun q => k.1 ((zo_lt _ _).mp q) H locs cells slots lc hP hS hl hln hc h1 h2 hz) (fun q => k.2 (fun z => q ((zo_lt _ _).mpr z)) H locs cells slots lc hP hS hl hln hc h1 h2 hz)
  | le => exact lv_if_le hx hb hd ht (fun q => k.2 (fun z => Int32.not_lt.mpr q ((zo_lt _ _).mpr z)) H locs cells slots lc hP hS hl hln hc h1 h2 hz) (fun q => k.1 ((zo_lt _ _).mp (Int32.not_le.mp q)) H locs cells slots lc hP hS hl hln hc h1 h2 hz)
theorem ztb_tg {pc : Nat} {x : Int} {dn : Nat} : ∀ (os : List Int) (lo : Int), os.all (fun f => decide (0 ≤ (pc : Int) + f)) = true → ((x < lo ∨ lo + os.length ≤ x) → ztg x (ztb pc lo os) dn = dn) ∧ (∀ f, lo ≤ x → os[(x - lo).toNat]? = some f → (pc : Int) + f = ztg x (ztb pc lo os) dn)
  | [], lo, _ => ⟨fun _ => rfl, fun f _ h => by simp at h⟩
  | w :: r, lo, hh => by
    simp only [List.all_cons, Bool.and_eq_true, decide_eq_true_eq] at hh
    obtain ⟨i1, i2⟩ := ztb_tg (pc := pc) (x := x) (dn := dn) r (lo + 1) hh.2
    refine ⟨fun hx => ?_, fun f hx hf => ?_⟩
    · simp only [List.length_cons, Int.natCast_add, Int.cast_ofNat_Int] at hx
      unfold ztb ztg
      rw [if_neg (by dsimp only; omega)]
      exact i1 (by omega)
    · unfold ztb ztg
      by_cases e : x = lo
      · subst e
        simp at hf
        rw [if_pos rfl]
        subst hf
        dsimp only
        omega
      · rw [if_neg (by dsimp only; exact e)]
        refine i2 f (by omega) ?_
        have : (x - lo).toNat = (x - (lo + 1)).toNat + 1 := by omega
        rw [this] at hf
        simpa using hf
theorem zlk_tg {pc : Nat} {x dn : Nat} {y : Int} {d : Int} (hd : (pc : Int) + d = dn) : ∀ (ps : List (Int × Int)), ps.all (fun q => decide (0 ≤ (pc : Int) + q.2)) = true → (pc : Int) + Op.lookupswitch.offset ps d y = ztg y (ps.map (fun q => (q.1, ((pc : Int) + q.2).toNat))) dn
  | [], _ => by simpa [Op.lookupswitch.offset, ztg] using hd
  | q :: r, hh => by
    simp only [List.all_cons, Bool.and_eq_true, decide_eq_true_eq] at hh
    have := zlk_tg (x := x) (y := y) hd r hh.2
    obtain ⟨k, v⟩ := q
    rw [Op.lookupswitch.offset_cons, List.map_cons]
    unfold ztg
    dsimp only at hh ⊢
    by_cases e : y = k
    · subst e
      rw [if_pos rfl, if_pos rfl]
      omega
    · rw [if_neg e, if_neg (by first | exact e | exact fun q => e q.symm)]
      exact this
end ZI
