/-! WHAT STANDS AROUND A METHOD'S RUN -/
def zrt (q : Nat) : FieldType := match q with
  | 2 => .char
  | _ => .int
def zEx (E : ZE) (U : State) : Prop := va_K E.2.2.1 zcl [(E.2.2.2.1.1, .int), (E.2.2.2.1.2, .object zO)] U ∧ va_AO zO U ∧ (∀ w ∈ zNest, va_Nw w U) ∧ (∀ q, q < 3 → va_Z (zrc q).1 (zrc q).2.1 (zrc q).2.2 (.ref (E.2.2.2.2.1 q)) (zA E) U U.heap) ∧ ∀ q, q < 4 → va_T (zrt q) (E.2.2.2.2.1 q) (zrN q E.2.2.2.2.2.1) (fun j => .int (Int32.ofInt (zrF q E.2.2.2.2.2.2 j))) (zA E) U U.heap
theorem zEx.moved {E : ZE} {s U : State} (h : zEx E s) (hW : s.WarmedH U.vm) (hk : ∀ a : Nat, a < s.heap.size → ¬ zA E a → U.heap[a]? = s.heap[a]?) : zEx E U := by
  obtain ⟨h1, h2, h3, h4, h5⟩ := h
  refine ⟨va_K.moved hW.alike h1, va_AO.moved hW.alike h2, fun w hw => ?_, fun q hq => ((h4 q hq).moved hW.alike).kept hk, fun q hq => ((h5 q hq).moved hW.alike).kept hk⟩
  have := h3 w hw
  simp only [zNest, List.mem_cons, List.not_mem_nil, or_false] at hw
  rcases hw with rfl | rfl | rfl | rfl | rfl | rfl | rfl | rfl
  · exact va_Nw.warmM hW this
  · exact va_Nw.warmM hW this
  · exact va_Nw.warmM hW this
  · exact va_Nw.warmM hW this
  · exact va_Nw.warmM hW this
  · exact va_Nw.warmM hW this
  · exact va_Nw.warmF hW this
  · exact va_Nw.warmF hW this
def zRm (d mc ms : Nat) : Room := { frames := d, cells := mc, slots := ms, locals := 40 * d }
def zPc (E : ZE) (as : List ZV) (h : ZH) : Array Value → State → Prop := fun a U => a = (as.map (zc E)).toArray ∧ zEx E U ∧ va_P E.2.2.1 zcl (zw E h) U.heap ∧ U.heap.size = E.2.1 + h.1.length
def zQc (E : ZE) (h : ZH) (mc : Nat) (post : Option ZV → ZH → Prop) : Array Value → State → Outcome → State → Prop := fun _ st o t => (∃ (v : Option ZV) (h' : ZH), o = .returned (v.map (zc E)) ∧ post v h' ∧ va_P E.2.2.1 zcl (zw E h') t.heap ∧ h'.1.length = h.1.length + mc) ∧ va_F (zA E) st t
def zMet (E : ZE) (d : Nat) (M : ZM) (C : ZC) : Prop := ∀ (as : List ZV) (h : ZH) (post : Option ZV → ZH → Prop), C as h post → Met E.1 M.1 (Cond.code M.1 M.2.1 M.2.2.1 M.2.2.2.1 :: zTb) (zRm d M.2.2.2.2.2.2.2.1 M.2.2.2.2.2.2.2.2) (zPc E as h) (zQc E h M.2.2.2.2.2.2.2.1 post) M.2.2.2.2.2.2.2.1 M.2.2.2.2.2.2.2.2 (zA E)
def zCall (E : ZE) (d : Nat) (M : ZM) (C : ZC) : Prop := zgood M ∧ ∃ d', d' < d ∧ zMet E d' M C
section ZW
variable (E : ZE) (p : Program) (e : Env) (R : Room) (s : State) (m : MethodId) (args : Array Value) (below : List Frame) (meth : Method) (c : Code) (Q : State → Prop)
def zW (nL g0 mc ms : Nat) (pc : Nat) (ls : ZL) (st : List ZV) (h : ZH) (b : ZB2) : Prop :=
  ∀ (H : Heap) (locs : List Loc) (cells slots : Nat) (lc : Array Slot), va_P E.2.2.1 zcl (zw E h) H → va_S (zA E) s.heap H locs → lv_has lc nL (zlv E ls) → ls.length = nL → cells + g0 = h.1.length → cells + b.1 ≤ mc → slots + b.2 ≤ ms → H.size = E.2.1 + h.1.length →
    W p E.1 e R s m args below meth c H locs cells slots Q (F0 m pc lc (st.map (zc E)))
def zF (own : String) (cc : ByteArray) (nL d g0 mc ms : Nat) : Prop :=
  (p.tables.exec = Jvm.exec ∧ c.code = cc ∧ c.maxLocals = nL ∧ s.vm.findClass own = some m.cls ∧ ∀ w ∈ zTb, w.before args s = true) ∧ zEx E s ∧ s.heap.size = E.2.1 + g0 ∧ d ≤ R.frames ∧ 40 * d ≤ R.locals ∧ mc ≤ R.cells ∧ ms ≤ R.slots ∧ 1 ≤ d
end ZW
section ZS
variable {E : ZE} {p : Program} {e : Env} {R : Room} {s : State} {m : MethodId} {args : Array Value} {below : List Frame} {meth : Method} {c : Code} {Q : State → Prop} {H : Heap} {locs : List Loc} {cells slots : Nat} {g : JFrame}
theorem W.sized {l : Launch} (k : H.size ≤ s.heap.size + cells → W p l e R s m args below meth c H locs cells slots Q g) : W p l e R s m args below meth c H locs cells slots Q g := by
  intro T hT X
  exact k (by rw [← hT]; exact X.heapSize) T hT X
theorem zsize {h : ZH} {g0 : Nat} (hs : s.heap.size = E.2.1 + g0) (hP : va_P E.2.2.1 zcl (zw E h) H) (hS : va_S (zA E) s.heap H locs) (hc : cells + g0 = h.1.length) (hle : H.size ≤ s.heap.size + cells) : H.size = E.2.1 + h.1.length := by
  have h1 : E.2.1 + h.1.length ≤ H.size := by
    rcases Nat.eq_zero_or_pos h.1.length with z | z
    · have := hS.1
      omega
    · have hk : h.1[h.1.length - 1]? = some (h.1[h.1.length - 1]'(by omega)) := List.getElem?_eq_getElem (by omega)
      have := (hP _ _ (zw_at (E := E) hk)).lt
      dsimp only at this
      omega
  omega
end ZS
