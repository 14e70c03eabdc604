/-! THE CLAIM OUT OF ONE WALK OF THE LAW'S BODY. Your part is whole_start (and what it stands on); all else here is the same for every law, but numbers. -/
def R_lawS : String := "TunnelHearsayLaw"
def lw_P (b : Addr) (xs : List Int32) (args : Array Value) (s : State) : Prop := args = #[.ref b] ∧ s.IntsAt b xs ∧ xs.length ≤ 3072 ∧ (Jvm.Cond.and given_1 narrow_1).before args s = true
def lw_Q (_ : Array Value) (s : State) (o : Outcome) (t : State) : Prop := o = .returned (some (.int 1)) ∧ Framed s o t [] 600000 7302250
def lw_Z (below : List Frame) (a : Array Value) (s : State) : State → Prop := fun t => ∃ o, t.status = .running ∧ Ended t below o ∧ lw_Q a s o t
/-- the law's own end, with 1 on the stack, nothing written that was there before, its room as the claim has it -/
theorem lw_ret {p : Program} {l : Launch} {e : Env} {s : State} {m : MethodId} {below : List Frame} {meth : Method} {c : Code} {b : Nat} (hx : p.tables.exec = Jvm.exec) (hb : c.code = code) (hr : meth.sig.returnType = ret) (hlocks : meth.locks = false) {pc : Nat} {H : Heap} {ls : Array Slot} (hdg : decode code pc = .ok (.ireturn, 1)) : W p l e room_1 s m #[Value.ref b] below meth c H [] 600000 7302250 (lw_Z below #[Value.ref b] s) (F0 m pc ls [.int 1]) := by
  intro T hT X
  obtain ⟨fs, hret, hrun, hended, hW, hframe⟩ := X.leave (v := some (.int 1)) (hlocks := hlocks) (fun h => by rw [hr] at h; cases h)
  have hmeth' : T.vm.method? m = some meth := X.method'
  refine ⟨T.setFrames fs, ?_, .returned (some (.int 1)), hrun, hended, rfl, ⟨_, rfl⟩, hW, hframe⟩
  jvm_step X.here [X.here.top, hx, hb, hdg, hmeth', hr, ret, narrow_b1]
  (try refine ⟨rfl, ?_⟩); (try refine ⟨rfl, ?_⟩)
  first | (intro acts; rw [hret _ acts rfl rfl rfl]) | rw [hret _ _ rfl rfl rfl]
  exact Steps.refl _
/-- what holds at the law's entry: the machine, the code, the tables' words (any of lw_tbl by 'hts w (by decide +kernel)'), the script of L ints xs at the cell b, what the Statement gives of the start (any of its parts by flat_of_before) -/
def lw_At (p : Program) (s : State) (m : MethodId) (meth : Method) (c : Code) (b L : Nat) (xs : Nat → Int32) : Prop :=
  p.tables.exec = Jvm.exec ∧ c.code = code ∧ meth.sig.returnType = ret ∧ c.maxLocals = 4 ∧ s.vm.findClass R_lawS = some m.cls ∧ (∀ w ∈ lw_tbl, w.before #[Value.ref b] s = true) ∧ va_X b L xs s s.heap ∧ b < s.heap.size ∧ meth.locks = false ∧ (Jvm.Cond.and given_1 narrow_1).before #[Value.ref b] s = true

theorem zt_0 {s : State} {b : Nat} (xs : Nat → Int) (hgv : (Jvm.Cond.and given_1 narrow_1).before #[Value.ref b] s = true) : ∃ t : Nat, (Term.static "TunnelHearsay" "ABOVE" "[I").eval #[Value.ref b] s none [] s = some (.ref t) ∧ va_T .int t 7 (fun j => .int (Int32.ofInt (zrF 0 xs j))) (fun q : Nat => s.heap.size ≤ q) s s.heap := by
  have hs := flat_of_before _ hgv
  refine va_Tof (tm := (.static "TunnelHearsay" "ABOVE" "[I")) (by decide) (hs (.arrayOf (.static "TunnelHearsay" "ABOVE" "[I") .int) (by decide +kernel)) (va_eqt (hs (.eq (.length (.static "TunnelHearsay" "ABOVE" "[I")) (.int 7)) (by decide +kernel))) (fun j hj => ?_) (fun a h1 h2 => Nat.not_le.mpr h1 h2)
  match j, hj with
  | 0, _ => exact (va_eqt (hs (.eq (.elem (.static "TunnelHearsay" "ABOVE" "[I") (.int 0)) (.int (-1))) (by decide +kernel))).trans (congrArg (fun z => some (Value.int z)) (show (-1 : Int32) = Int32.ofInt (-1) from by decide))
  | 1, _ => exact (va_eqt (hs (.eq (.elem (.static "TunnelHearsay" "ABOVE" "[I") (.int 1)) (.int 0)) (by decide +kernel))).trans (congrArg (fun z => some (Value.int z)) (show (0 : Int32) = Int32.ofInt 0 from by decide))
  | 2, _ => exact (va_eqt (hs (.eq (.elem (.static "TunnelHearsay" "ABOVE" "[I") (.int 2)) (.int 0)) (by decide +kernel))).trans (congrArg (fun z => some (Value.int z)) (show (0 : Int32) = Int32.ofInt 0 from by decide))
  | 3, _ => exact (va_eqt (hs (.eq (.elem (.static "TunnelHearsay" "ABOVE" "[I") (.int 3)) (.int 0)) (by decide +kernel))).trans (congrArg (fun z => some (Value.int z)) (show (0 : Int32) = Int32.ofInt 0 from by decide))
  | 4, _ => exact (va_eqt (hs (.eq (.elem (.static "TunnelHearsay" "ABOVE" "[I") (.int 4)) (.int 1)) (by decide +kernel))).trans (congrArg (fun z => some (Value.int z)) (show (1 : Int32) = Int32.ofInt 1 from by decide))
  | 5, _ => exact (va_eqt (hs (.eq (.elem (.static "TunnelHearsay" "ABOVE" "[I") (.int 5)) (.int 2)) (by decide +kernel))).trans (congrArg (fun z => some (Value.int z)) (show (2 : Int32) = Int32.ofInt 2 from by decide))
  | 6, _ => exact (va_eqt (hs (.eq (.elem (.static "TunnelHearsay" "ABOVE" "[I") (.int 6)) (.int 3)) (by decide +kernel))).trans (congrArg (fun z => some (Value.int z)) (show (3 : Int32) = Int32.ofInt 3 from by decide))
  | j + 7, hj => exact absurd hj (by omega)
theorem zt_1 {s : State} {b : Nat} (xs : Nat → Int) (hgv : (Jvm.Cond.and given_1 narrow_1).before #[Value.ref b] s = true) : ∃ t : Nat, (Term.static "TunnelHearsay$Voices" "BODIES" "[I").eval #[Value.ref b] s none [] s = some (.ref t) ∧ va_T .int t 28 (fun j => .int (Int32.ofInt (zrF 1 xs j))) (fun q : Nat => s.heap.size ≤ q) s s.heap := by
  have hs := flat_of_before _ hgv
  refine va_Tof (tm := (.static "TunnelHearsay$Voices" "BODIES" "[I")) (by decide) (hs (.arrayOf (.static "TunnelHearsay$Voices" "BODIES" "[I") .int) (by decide +kernel)) (va_eqt (hs (.eq (.length (.static "TunnelHearsay$Voices" "BODIES" "[I")) (.int 28)) (by decide +kernel))) (fun j hj => ?_) (fun a h1 h2 => Nat.not_le.mpr h1 h2)
  match j, hj with
  | 0, _ => exact (va_eqt (hs (.eq (.elem (.static "TunnelHearsay$Voices" "BODIES" "[I") (.int 0)) (.int 10)) (by decide +kernel))).trans (congrArg (fun z => some (Value.int z)) (show (10 : Int32) = Int32.ofInt 10 from by decide))
  | 1, _ => exact (va_eqt (hs (.eq (.elem (.static "TunnelHearsay$Voices" "BODIES" "[I") (.int 1)) (.int 11)) (by decide +kernel))).trans (congrArg (fun z => some (Value.int z)) (show (11 : Int32) = Int32.ofInt 11 from by decide))
  | 2, _ => exact (va_eqt (hs (.eq (.elem (.static "TunnelHearsay$Voices" "BODIES" "[I") (.int 2)) (.int 12)) (by decide +kernel))).trans (congrArg (fun z => some (Value.int z)) (show (12 : Int32) = Int32.ofInt 12 from by decide))
  | 3, _ => exact (va_eqt (hs (.eq (.elem (.static "TunnelHearsay$Voices" "BODIES" "[I") (.int 3)) (.int 13)) (by decide +kernel))).trans (congrArg (fun z => some (Value.int z)) (show (13 : Int32) = Int32.ofInt 13 from by decide))
  | 4, _ => exact (va_eqt (hs (.eq (.elem (.static "TunnelHearsay$Voices" "BODIES" "[I") (.int 4)) (.int 20)) (by decide +kernel))).trans (congrArg (fun z => some (Value.int z)) (show (20 : Int32) = Int32.ofInt 20 from by decide))
  | 5, _ => exact (va_eqt (hs (.eq (.elem (.static "TunnelHearsay$Voices" "BODIES" "[I") (.int 5)) (.int 0)) (by decide +kernel))).trans (congrArg (fun z => some (Value.int z)) (show (0 : Int32) = Int32.ofInt 0 from by decide))
  | 6, _ => exact (va_eqt (hs (.eq (.elem (.static "TunnelHearsay$Voices" "BODIES" "[I") (.int 6)) (.int 0)) (by decide +kernel))).trans (congrArg (fun z => some (Value.int z)) (show (0 : Int32) = Int32.ofInt 0 from by decide))
  | 7, _ => exact (va_eqt (hs (.eq (.elem (.static "TunnelHearsay$Voices" "BODIES" "[I") (.int 7)) (.int 0)) (by decide +kernel))).trans (congrArg (fun z => some (Value.int z)) (show (0 : Int32) = Int32.ofInt 0 from by decide))
  | 8, _ => exact (va_eqt (hs (.eq (.elem (.static "TunnelHearsay$Voices" "BODIES" "[I") (.int 8)) (.int 0)) (by decide +kernel))).trans (congrArg (fun z => some (Value.int z)) (show (0 : Int32) = Int32.ofInt 0 from by decide))
  | 9, _ => exact (va_eqt (hs (.eq (.elem (.static "TunnelHearsay$Voices" "BODIES" "[I") (.int 9)) (.int 30)) (by decide +kernel))).trans (congrArg (fun z => some (Value.int z)) (show (30 : Int32) = Int32.ofInt 30 from by decide))
  | 10, _ => exact (va_eqt (hs (.eq (.elem (.static "TunnelHearsay$Voices" "BODIES" "[I") (.int 10)) (.int 0)) (by decide +kernel))).trans (congrArg (fun z => some (Value.int z)) (show (0 : Int32) = Int32.ofInt 0 from by decide))
  | 11, _ => exact (va_eqt (hs (.eq (.elem (.static "TunnelHearsay$Voices" "BODIES" "[I") (.int 11)) (.int 0)) (by decide +kernel))).trans (congrArg (fun z => some (Value.int z)) (show (0 : Int32) = Int32.ofInt 0 from by decide))
  | 12, _ => exact (va_eqt (hs (.eq (.elem (.static "TunnelHearsay$Voices" "BODIES" "[I") (.int 12)) (.int 0)) (by decide +kernel))).trans (congrArg (fun z => some (Value.int z)) (show (0 : Int32) = Int32.ofInt 0 from by decide))
  | 13, _ => exact (va_eqt (hs (.eq (.elem (.static "TunnelHearsay$Voices" "BODIES" "[I") (.int 13)) (.int 0)) (by decide +kernel))).trans (congrArg (fun z => some (Value.int z)) (show (0 : Int32) = Int32.ofInt 0 from by decide))
  | 14, _ => exact (va_eqt (hs (.eq (.elem (.static "TunnelHearsay$Voices" "BODIES" "[I") (.int 14)) (.int 40)) (by decide +kernel))).trans (congrArg (fun z => some (Value.int z)) (show (40 : Int32) = Int32.ofInt 40 from by decide))
  | 15, _ => exact (va_eqt (hs (.eq (.elem (.static "TunnelHearsay$Voices" "BODIES" "[I") (.int 15)) (.int 0)) (by decide +kernel))).trans (congrArg (fun z => some (Value.int z)) (show (0 : Int32) = Int32.ofInt 0 from by decide))
  | 16, _ => exact (va_eqt (hs (.eq (.elem (.static "TunnelHearsay$Voices" "BODIES" "[I") (.int 16)) (.int 0)) (by decide +kernel))).trans (congrArg (fun z => some (Value.int z)) (show (0 : Int32) = Int32.ofInt 0 from by decide))
  | 17, _ => exact (va_eqt (hs (.eq (.elem (.static "TunnelHearsay$Voices" "BODIES" "[I") (.int 17)) (.int 0)) (by decide +kernel))).trans (congrArg (fun z => some (Value.int z)) (show (0 : Int32) = Int32.ofInt 0 from by decide))
  | 18, _ => exact (va_eqt (hs (.eq (.elem (.static "TunnelHearsay$Voices" "BODIES" "[I") (.int 18)) (.int 0)) (by decide +kernel))).trans (congrArg (fun z => some (Value.int z)) (show (0 : Int32) = Int32.ofInt 0 from by decide))
  | 19, _ => exact (va_eqt (hs (.eq (.elem (.static "TunnelHearsay$Voices" "BODIES" "[I") (.int 19)) (.int 50)) (by decide +kernel))).trans (congrArg (fun z => some (Value.int z)) (show (50 : Int32) = Int32.ofInt 50 from by decide))
  | 20, _ => exact (va_eqt (hs (.eq (.elem (.static "TunnelHearsay$Voices" "BODIES" "[I") (.int 20)) (.int 0)) (by decide +kernel))).trans (congrArg (fun z => some (Value.int z)) (show (0 : Int32) = Int32.ofInt 0 from by decide))
  | 21, _ => exact (va_eqt (hs (.eq (.elem (.static "TunnelHearsay$Voices" "BODIES" "[I") (.int 21)) (.int 60)) (by decide +kernel))).trans (congrArg (fun z => some (Value.int z)) (show (60 : Int32) = Int32.ofInt 60 from by decide))
  | 22, _ => exact (va_eqt (hs (.eq (.elem (.static "TunnelHearsay$Voices" "BODIES" "[I") (.int 22)) (.int 0)) (by decide +kernel))).trans (congrArg (fun z => some (Value.int z)) (show (0 : Int32) = Int32.ofInt 0 from by decide))
  | 23, _ => exact (va_eqt (hs (.eq (.elem (.static "TunnelHearsay$Voices" "BODIES" "[I") (.int 23)) (.int 0)) (by decide +kernel))).trans (congrArg (fun z => some (Value.int z)) (show (0 : Int32) = Int32.ofInt 0 from by decide))
  | 24, _ => exact (va_eqt (hs (.eq (.elem (.static "TunnelHearsay$Voices" "BODIES" "[I") (.int 24)) (.int 0)) (by decide +kernel))).trans (congrArg (fun z => some (Value.int z)) (show (0 : Int32) = Int32.ofInt 0 from by decide))
  | 25, _ => exact (va_eqt (hs (.eq (.elem (.static "TunnelHearsay$Voices" "BODIES" "[I") (.int 25)) (.int 0)) (by decide +kernel))).trans (congrArg (fun z => some (Value.int z)) (show (0 : Int32) = Int32.ofInt 0 from by decide))
  | 26, _ => exact (va_eqt (hs (.eq (.elem (.static "TunnelHearsay$Voices" "BODIES" "[I") (.int 26)) (.int 70)) (by decide +kernel))).trans (congrArg (fun z => some (Value.int z)) (show (70 : Int32) = Int32.ofInt 70 from by decide))
  | 27, _ => exact (va_eqt (hs (.eq (.elem (.static "TunnelHearsay$Voices" "BODIES" "[I") (.int 27)) (.int 71)) (by decide +kernel))).trans (congrArg (fun z => some (Value.int z)) (show (71 : Int32) = Int32.ofInt 71 from by decide))
  | j + 28, hj => exact absurd hj (by omega)
theorem zt_2 {s : State} {b : Nat} (xs : Nat → Int) (hgv : (Jvm.Cond.and given_1 narrow_1).before #[Value.ref b] s = true) : ∃ t : Nat, (Term.static "TunnelHearsay$Reader" "NAMES_OF_USES" "[C").eval #[Value.ref b] s none [] s = some (.ref t) ∧ va_T .char t 6 (fun j => .int (Int32.ofInt (zrF 2 xs j))) (fun q : Nat => s.heap.size ≤ q) s s.heap := by
  have hs := flat_of_before _ hgv
  refine va_Tof (tm := (.static "TunnelHearsay$Reader" "NAMES_OF_USES" "[C")) (by decide) (hs (.arrayOf (.static "TunnelHearsay$Reader" "NAMES_OF_USES" "[C") .char) (by decide +kernel)) (va_eqt (hs (.eq (.length (.static "TunnelHearsay$Reader" "NAMES_OF_USES" "[C")) (.int 6)) (by decide +kernel))) (fun j hj => ?_) (fun a h1 h2 => Nat.not_le.mpr h1 h2)
  match j, hj with
  | 0, _ => exact (va_eqt (hs (.eq (.elem (.static "TunnelHearsay$Reader" "NAMES_OF_USES" "[C") (.int 0)) (.int 101)) (by decide +kernel))).trans (congrArg (fun z => some (Value.int z)) (show (101 : Int32) = Int32.ofInt 101 from by decide))
  | 1, _ => exact (va_eqt (hs (.eq (.elem (.static "TunnelHearsay$Reader" "NAMES_OF_USES" "[C") (.int 1)) (.int 100)) (by decide +kernel))).trans (congrArg (fun z => some (Value.int z)) (show (100 : Int32) = Int32.ofInt 100 from by decide))
  | 2, _ => exact (va_eqt (hs (.eq (.elem (.static "TunnelHearsay$Reader" "NAMES_OF_USES" "[C") (.int 2)) (.int 121)) (by decide +kernel))).trans (congrArg (fun z => some (Value.int z)) (show (121 : Int32) = Int32.ofInt 121 from by decide))
  | 3, _ => exact (va_eqt (hs (.eq (.elem (.static "TunnelHearsay$Reader" "NAMES_OF_USES" "[C") (.int 3)) (.int 112)) (by decide +kernel))).trans (congrArg (fun z => some (Value.int z)) (show (112 : Int32) = Int32.ofInt 112 from by decide))
  | 4, _ => exact (va_eqt (hs (.eq (.elem (.static "TunnelHearsay$Reader" "NAMES_OF_USES" "[C") (.int 4)) (.int 114)) (by decide +kernel))).trans (congrArg (fun z => some (Value.int z)) (show (114 : Int32) = Int32.ofInt 114 from by decide))
  | 5, _ => exact (va_eqt (hs (.eq (.elem (.static "TunnelHearsay$Reader" "NAMES_OF_USES" "[C") (.int 5)) (.int 119)) (by decide +kernel))).trans (congrArg (fun z => some (Value.int z)) (show (119 : Int32) = Int32.ofInt 119 from by decide))
  | j + 6, hj => exact absurd hj (by omega)
theorem zEx_of {s : State} {b L : Nat} {xs : Nat → Int32} (l : Launch) (hL : L ≤ 3072) (hts : ∀ w ∈ lw_tbl, w.before #[Value.ref b] s = true) (hX : va_X b L xs s s.heap) (hbl : b < s.heap.size) (hgv : (Jvm.Cond.and given_1 narrow_1).before #[Value.ref b] s = true) : ∃ E : ZE, (E.1 = l ∧ E.2.1 = s.heap.size ∧ E.2.2.2.2.1 3 = b ∧ E.2.2.2.2.2.1 = L ∧ E.2.2.2.2.2.2 = fun j => (xs j).toInt) ∧ zEx E s := by
  have ht9 : ∀ w ∈ zTb, w.before #[Value.ref b] s = true := fun w hw => hts w (zTb_sub.mem hw)
  obtain ⟨c0, i0, k0⟩ := u_known (C := RX0) (T := TX0) (N := 4) (n := 4) ht9 (zcl_ok 0 RX0 TX0 4 rfl).1 (hts (.instantiable RX0 4) (by decide +kernel))
  obtain ⟨c1, i1, k1⟩ := u_known (C := RX1) (T := TX1) (N := 10) (n := 10) ht9 (zcl_ok 1 RX1 TX1 10 rfl).1 (hts (.instantiable RX1 10) (by decide +kernel))
  obtain ⟨c2, i2, k2⟩ := u_known (C := RX2) (T := TX2) (N := 10) (n := 10) ht9 (zcl_ok 2 RX2 TX2 10 rfl).1 (hts (.instantiable RX2 10) (by decide +kernel))
  obtain ⟨c3, i3, k3⟩ := u_known (C := RX3) (T := TX3) (N := 2) (n := 2) ht9 (zcl_ok 3 RX3 TX3 2 rfl).1 (hts (.instantiable RX3 2) (by decide +kernel))
  obtain ⟨c4, i4, k4⟩ := u_known (C := RX4) (T := TX4) (N := 5) (n := 5) ht9 (zcl_ok 4 RX4 TX4 5 rfl).1 (hts (.instantiable RX4 5) (by decide +kernel))
  obtain ⟨c5, i5, k5⟩ := u_known (C := RX5) (T := TX5) (N := 2) (n := 2) ht9 (zcl_ok 5 RX5 TX5 2 rfl).1 (hts (.instantiable RX5 2) (by decide +kernel))
  obtain ⟨c6, i6, k6⟩ := u_known (C := RX6) (T := TX6) (N := 7) (n := 7) ht9 (zcl_ok 6 RX6 TX6 7 rfl).1 (hts (.instantiable RX6 7) (by decide +kernel))
  obtain ⟨c7, i7, k7⟩ := u_known (C := RX7) (T := TX7) (N := 3) (n := 3) ht9 (zcl_ok 7 RX7 TX7 3 rfl).1 (hts (.instantiable RX7 3) (by decide +kernel))
  obtain ⟨c8, i8, k8⟩ := u_known (C := RX8) (T := TX8) (N := 4) (n := 4) ht9 (zcl_ok 8 RX8 TX8 4 rfl).1 (hts (.instantiable RX8 4) (by decide +kernel))
  obtain ⟨c9, i9, k9⟩ := u_known (C := RX9) (T := TX9) (N := 4) (n := 4) ht9 (zcl_ok 9 RX9 TX9 4 rfl).1 (hts (.instantiable RX9 4) (by decide +kernel))
  obtain ⟨c10, i10, k10⟩ := u_known (C := RX10) (T := TX10) (N := 10) (n := 10) ht9 (zcl_ok 10 RX10 TX10 10 rfl).1 (hts (.instantiable RX10 10) (by decide +kernel))
  obtain ⟨c11, i11, k11⟩ := u_known (C := RX11) (T := TX11) (N := 25) (n := 25) ht9 (zcl_ok 11 RX11 TX11 25 rfl).1 (hts (.instantiable RX11 25) (by decide +kernel))
  obtain ⟨t0, e0, v0⟩ := zt_0 (fun j => (xs j).toInt) hgv
  obtain ⟨t1, e1, v1⟩ := zt_1 (fun j => (xs j).toInt) hgv
  obtain ⟨t2, e2, v2⟩ := zt_2 (fun j => (xs j).toInt) hgv
  obtain ⟨cA, kA, comp, a1, a2, a3⟩ := Cond.arrayClass_spec (ht9 _ zw_ac)
  have ao : va_AO zO s := va_AO.of (hts (.arrayOver (.object zO)) (by decide +kernel))
  obtain ⟨co, cO, kO, o1, o2, o3, o4, o5⟩ := Cond.arrayOver_spec ao
  have hA : ∀ a : Nat, a < s.heap.size → ¬ (fun q : Nat => s.heap.size ≤ q) a := fun a h1 h2 => Nat.not_le.mpr h1 h2
  refine ⟨(l, s.heap.size, (fun c : Nat => if c = 0 then c0 else if c = 1 then c1 else if c = 2 then c2 else if c = 3 then c3 else if c = 4 then c4 else if c = 5 then c5 else if c = 6 then c6 else if c = 7 then c7 else if c = 8 then c8 else if c = 9 then c9 else if c = 10 then c10 else c11, fun c : Nat => if c = 0 then i0 else if c = 1 then i1 else if c = 2 then i2 else if c = 3 then i3 else if c = 4 then i4 else if c = 5 then i5 else if c = 6 then i6 else if c = 7 then i7 else if c = 8 then i8 else if c = 9 then i9 else if c = 10 then i10 else i11), (cA, cO), (fun q : Nat => if q = 0 then t0 else if q = 1 then t1 else if q = 2 then t2 else b), (L, fun j => (xs j).toInt)), ⟨rfl, rfl, rfl, rfl, rfl⟩, ⟨fun c q hq => ?_, fun k q hk => ?_⟩, ao, fun w hw => ?_, fun q hq => ?_, fun q hq => ?_⟩
  · match c, hq with
    | 0, hq => cases hq; exact k0
    | 1, hq => cases hq; exact k1
    | 2, hq => cases hq; exact k2
    | 3, hq => cases hq; exact k3
    | 4, hq => cases hq; exact k4
    | 5, hq => cases hq; exact k5
    | 6, hq => cases hq; exact k6
    | 7, hq => cases hq; exact k7
    | 8, hq => cases hq; exact k8
    | 9, hq => cases hq; exact k9
    | 10, hq => cases hq; exact k10
    | 11, hq => cases hq; exact k11
    | c + 12, hq => simp [zcl] at hq
  · match k, hk with
    | 0, hk => cases hk; exact ⟨fun n z => ⟨fun k h => (by cases h), kA, a2, comp, a3⟩, a1⟩
    | 1, hk => cases hk; exact ⟨fun n z => ⟨fun k h => (by cases h), kO, o3, co, o4⟩, kO, co, o3, o4, o1, o5⟩
    | k + 2, hk => simp at hk
  · simp only [zNest, List.mem_cons, List.not_mem_nil, or_false] at hw
    rcases hw with rfl | rfl | rfl | rfl | rfl | rfl | rfl | rfl <;> exact va_Nw.of rfl (hts _ (by decide +kernel))
  · match q, hq with
    | 0, _ => exact va_Zref (hts (.laysStatic "TunnelHearsay" "ABOVE" "[I") (by decide +kernel)) (hts (.initialized "TunnelHearsay") (by decide +kernel)) e0 hA
    | 1, _ => exact va_Zref (hts (.laysStatic "TunnelHearsay$Voices" "BODIES" "[I") (by decide +kernel)) (hts (.initialized "TunnelHearsay$Voices") (by decide +kernel)) e1 hA
    | 2, _ => exact va_Zref (hts (.laysStatic "TunnelHearsay$Reader" "NAMES_OF_USES" "[C") (by decide +kernel)) (hts (.initialized "TunnelHearsay$Reader") (by decide +kernel)) e2 hA
    | q + 3, hq => exact absurd hq (by omega)
  · match q, hq with
    | 0, _ => exact v0
    | 1, _ => exact v1
    | 2, _ => exact v2
    | 3, _ =>
      obtain ⟨scr, h1, h2, h3, h4, h5⟩ := hX
      refine ⟨scr, h1, h2, h3, Nat.le_of_eq h4.symm, by rw [h4]; rfl, fun j hj => ?_, hA b hbl⟩
      rw [h5 j hj]
      show _ = some (Value.int (Int32.ofInt (xs j).toInt))
      rw [Int32.ofInt_toInt]
    | q + 4, hq => exact absurd hq (by omega)
