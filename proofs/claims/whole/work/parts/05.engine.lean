/-! THE ENGINE: a small abstract machine over the cells that the law makes, all at addresses N0, N0 + 1, ..; ints as Int modulo 2^32.
A value: inl int, inr inl long, inr inr inl cell number, inr inr inr a fixed array (0 ABOVE, 1 BODIES, 2 NAMES_OF_USES, 3 the script) -/
abbrev ZV : Type := Int ⊕ (Int ⊕ (Nat ⊕ Nat))
/-- a cell: an object (number of its kind, its fields: none a number, some r a reference), an int array, a Sheet array -/
abbrev ZG : Type := (Nat × List (Option (Option Nat))) ⊕ (Nat ⊕ (Nat × (Nat → Option Nat)))
abbrev ZH : Type := List ZG × (Nat → Nat → Int)
abbrev ZL : Type := List (Option ZV)
abbrev ZE : Type := Launch × Nat × va_G × (ClassId × ClassId) × (Nat → Nat) × (Nat × (Nat → Int))
abbrev ZX : Type := Int × List Nat × List (Int × Nat)
abbrev ZI : Type := Instr × Nat × ZX
abbrev ZB2 : Type := Nat × Nat
abbrev ZC : Type := List ZV → ZH → (Option ZV → ZH → Prop) → Prop
abbrev ZN : Type := ZL → List ZV → ZH → ZB2 → Prop
abbrev ZK : Type := Nat → ZL → List ZV → ZH → ZB2 → Prop
abbrev ZR : Type := Option ZV → ZH → ZB2 → Prop
def zc (E : ZE) (v : ZV) : Value := match v with
  | .inl z => .int (Int32.ofInt z)
  | .inr (.inl z) => .long (Int64.ofInt z)
  | .inr (.inr (.inl k)) => .ref (E.2.1 + k)
  | .inr (.inr (.inr q)) => .ref (E.2.2.2.2.1 q)
def zf (E : ZE) (f : Nat → Int) (j : Nat) (o : Option (Option Nat)) : Value := match o with
  | none => .int (Int32.ofInt (f j))
  | some none => .null
  | some (some t) => .ref (E.2.1 + t)
def ze (E : ZE) (c : ZG) (f : Nat → Int) : va_E := match c with
  | .inl o => .inr (o.1, o.2.mapIdx (zf E f))
  | .inr (.inl n) => .inl (E.2.2.2.1.1, n, .inl (fun j => Int32.ofInt (f j)))
  | .inr (.inr o) => .inl (E.2.2.2.1.2, o.1, .inr (.inr (.inr (.inr (fun j => (o.2 j).map (fun t => E.2.1 + t))))))
def zw (E : ZE) (h : ZH) : va_W := h.1.mapIdx (fun k c => (E.2.1 + k, ze E c (h.2 k)))
abbrev zA (E : ZE) : Nat → Prop := fun q => E.2.1 ≤ q
def zup (M : Nat → Nat → Int) (a k : Nat) (z : Int) : Nat → Nat → Int := fun a' k' => if a' = a ∧ k' = k then z else M a' k'
def zro (M : Nat → Nat → Int) (a : Nat) : Nat → Nat → Int := fun a' k' => if a' = a then 0 else M a' k'
def zcp (M : Nat → Nat → Int) (a0 a1 sp dp n : Nat) : Nat → Nat → Int := fun a' k' => if a' = a1 ∧ dp ≤ k' ∧ k' < dp + n then M a0 (sp + (k' - dp)) else M a' k'
def zr (z : Int) : Int := (Int32.ofInt z).toInt
def zr8 (z : Int) : Int := (Int64.ofInt z).toInt
theorem zr_of {z : Int} (h1 : -2147483648 ≤ z) (h2 : z < 2147483648) : zr z = z := by
  unfold zr
  rw [Int32.toInt_ofInt, show Int32.size = 4294967296 from rfl]
  exact Int.bmod_eq_of_le (by omega) (by omega)
theorem zr8_of {z : Int} (h1 : -9223372036854775808 ≤ z) (h2 : z < 9223372036854775808) : zr8 z = z := by
  unfold zr8
  rw [Int64.toInt_ofInt, show Int64.size = 18446744073709551616 from rfl]
  exact Int.bmod_eq_of_le (by omega) (by omega)
theorem zr_rng (z : Int) : -2147483648 ≤ zr z ∧ zr z < 2147483648 := by
  unfold zr
  have h1 := Int32.le_toInt (Int32.ofInt z)
  have h2 := Int32.toInt_lt (Int32.ofInt z)
  omega
theorem zr_zr (z : Int) : zr (zr z) = zr z := zr_of (zr_rng z).1 (zr_rng z).2
theorem zr_ofInt (z : Int) : Int32.ofInt (zr z) = Int32.ofInt z := by
  unfold zr
  rw [Int32.ofInt_toInt]
theorem zw_at {E : ZE} {h : ZH} {k : Nat} {c : ZG} (hk : h.1[k]? = some c) : (zw E h)[k]? = some (E.2.1 + k, ze E c (h.2 k)) := by
  simp [zw, List.getElem?_mapIdx, hk]
theorem zw_get {E : ZE} {h : ZH} {k : Nat} {q : Nat × va_E} (hk : (zw E h)[k]? = some q) : ∃ c, h.1[k]? = some c ∧ q = (E.2.1 + k, ze E c (h.2 k)) := by
  simp only [zw, List.getElem?_mapIdx, Option.map_eq_some_iff] at hk
  obtain ⟨c, h1, h2⟩ := hk
  exact ⟨c, h1, h2.symm⟩
theorem zw_D {E : ZE} {h : ZH} : va_D (zA E) (zw E h) := by
  refine ⟨fun i j p q hp hq e => ?_, fun k q hk => ?_⟩
  · obtain ⟨c, -, rfl⟩ := zw_get hp
    obtain ⟨d, -, rfl⟩ := zw_get hq
    dsimp only at e
    omega
  · obtain ⟨c, -, rfl⟩ := zw_get hk
    exact Nat.le_add_right _ _
theorem zw_set {E : ZE} {h : ZH} {k : Nat} {c c' : ZG} {M' : Nat → Nat → Int} (hk : h.1[k]? = some c) (hM : ∀ a, a ≠ k → M' a = h.2 a) : zw E (h.1.set k c', M') = (zw E h).set k (E.2.1 + k, ze E c' (M' k)) := by
  apply List.ext_getElem?
  intro i
  have hl := (List.getElem?_eq_some_iff.mp hk).1
  by_cases hi : i = k
  · subst hi
    have : i < (zw E h).length := by simp [zw, hl]
    rw [List.getElem?_set_self this]
    exact zw_at (by simp [hl])
  · rw [List.getElem?_set_ne (Ne.symm hi)]
    simp [zw, List.getElem?_mapIdx, List.getElem?_set_ne (Ne.symm hi), hM i hi]
theorem zw_put {E : ZE} {h : ZH} {k : Nat} {c : ZG} {M' : Nat → Nat → Int} (hk : h.1[k]? = some c) (hM : ∀ a, a ≠ k → M' a = h.2 a) : zw E (h.1, M') = (zw E h).set k (E.2.1 + k, ze E c (M' k)) := by
  have e : h.1.set k c = h.1 := by
    apply List.ext_getElem?
    intro i
    by_cases hi : i = k
    · subst hi
      rw [List.getElem?_set_self (List.getElem?_eq_some_iff.mp hk).1, hk]
    · rw [List.getElem?_set_ne (Ne.symm hi)]
  rw [← zw_set hk hM, e]
theorem zw_push {E : ZE} {h : ZH} {c : ZG} {M' : Nat → Nat → Int} (hM : ∀ a, a ≠ h.1.length → M' a = h.2 a) : zw E (h.1 ++ [c], M') = zw E h ++ [(E.2.1 + h.1.length, ze E c (M' h.1.length))] := by
  apply List.ext_getElem?
  intro i
  rcases Nat.lt_trichotomy i h.1.length with hi | hi | hi
  · rw [List.getElem?_append_left (l₁ := zw E h) (by simp [zw, hi])]
    simp only [zw, List.getElem?_mapIdx, List.getElem?_append_left hi, hM i (by omega)]
  · subst hi
    rw [List.getElem?_append_right (l₁ := zw E h) (by simp [zw])]
    simp only [zw, List.getElem?_mapIdx, List.getElem?_append_right (Nat.le_refl _), List.length_mapIdx, Nat.sub_self]
    rfl
  · rw [List.getElem?_append_right (l₁ := zw E h) (by simp [zw]; omega), List.getElem?_eq_none (by simp [zw]; omega), List.getElem?_eq_none (by simp [zw]; omega)]
/-- locals -/
def zlv (E : ZE) (ls : ZL) : List (Nat × Value) := (ls.mapIdx (fun i o => o.map (fun v => (i, zc E v)))).filterMap id
theorem zlv_mem {E : ZE} {ls : ZL} {q : Nat × Value} : q ∈ zlv E ls ↔ ∃ v, ls[q.1]? = some (some v) ∧ q.2 = zc E v := by
  unfold zlv
  rw [List.mem_filterMap]
  constructor
  · rintro ⟨o, ho, hq⟩
    obtain ⟨i, hi, rfl⟩ := List.mem_mapIdx.mp ho
    simp only [id, Option.map_eq_some_iff] at hq
    obtain ⟨v, h1, rfl⟩ := hq
    exact ⟨v, by rw [List.getElem?_eq_getElem hi, h1], rfl⟩
  · rintro ⟨v, h1, h2⟩
    obtain ⟨hl, h3⟩ := List.getElem?_eq_some_iff.mp h1
    refine ⟨some q, List.mem_mapIdx.mpr ⟨q.1, hl, ?_⟩, rfl⟩
    rw [h3]
    simp [← h2]
theorem zlv_get {E : ZE} {ls : ZL} {lc : Array Slot} {nL i : Nat} {v : ZV} (h : lv_has lc nL (zlv E ls)) (hi : ls[i]? = some (some v)) : lc[i]? = some (.val (zc E v)) := h.2.2 (i, zc E v) (zlv_mem.mpr ⟨v, hi, rfl⟩)
def zok (ls : ZL) (i : Nat) : Prop := match i with
  | 0 => True
  | k + 1 => match ls[k]? with
    | some (some (.inr (.inl _))) => False
    | _ => True
theorem zlv_set {E : ZE} {ls : ZL} {lc : Array Slot} {nL i : Nat} {v : ZV} (hz : zok ls i) (h : lv_has lc nL ((i, zc E v) :: (zlv E ls).filter (fun q => !(q.1 == i) && !(q.1 + 1 == i && q.2.category == 2)))) : lv_has lc nL (zlv E (ls.set i (some v))) := by
  refine ⟨h.1, h.2.1, fun q hq => ?_⟩
  obtain ⟨w, h1, h2⟩ := zlv_mem.mp hq
  by_cases e : q.1 = i
  · have h4 : i < ls.length := by
      have := (List.getElem?_eq_some_iff.mp h1).1
      simp at this; omega
    rw [e, List.getElem?_set_self h4] at h1
    cases h1
    have := h.2.2 (i, zc E v) List.mem_cons_self
    rw [e, h2]; exact this
  · rw [List.getElem?_set_ne (Ne.symm e)] at h1
    refine h.2.2 q (List.mem_cons_of_mem _ (List.mem_filter.mpr ⟨zlv_mem.mpr ⟨w, h1, h2⟩, ?_⟩))
    by_cases e2 : q.1 + 1 = i
    · subst e2
      simp only [zok, h1] at hz
      have : q.2.category = 1 := by
        rw [h2]
        match w, hz with
        | .inl _, _ => rfl
        | .inr (.inr (.inl _)), _ => rfl
        | .inr (.inr (.inr _)), _ => rfl
        | .inr (.inl _), hz => exact hz.elim
      simp [this]
    · simp [e, e2]
theorem zc_cat (E : ZE) (v : ZV) : (zc E v).category = (match v with | .inr (.inl _) => 2 | _ => 1) := by
  rcases v with z | z | k | q <;> rfl
