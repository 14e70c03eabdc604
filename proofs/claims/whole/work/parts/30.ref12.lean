/-! THE REFERENCE: the row's bounds slot by slot; delays, powers, engineers tried out -/
def ub (k : Nat) : Int := if k = 0 then 8 else if k = 1 then 20000 else if k = 2 then 9 else if k = 4 then 50 else if k = 5 then 20 else if k < 70 then 9 else if k < 134 then 1 else if k < 142 then (if k % 4 = 2 then 63 else if k % 4 = 3 then 20 else if k % 4 = 0 then 99 else 4) else if k < 162 then 63 else if k % 3 = 0 then 6 else if k % 3 = 1 then 9 else 1
theorem ub_hi {g w : Nat} (hg : g < 2) (hw : w < 4) : ub (134 + 4 * g + w) = if w = 0 then 63 else if w = 1 then 20 else if w = 2 then 99 else 4 := by
  unfold ub
  rw [if_neg (by omega), if_neg (by omega), if_neg (by omega), if_neg (by omega), if_neg (by omega), if_neg (by omega), if_neg (by omega), if_pos (by omega)]
  (repeat' split) <;> omega
theorem ub_ei {e w : Nat} (hg : e < 8) (hw : w < 3) : ub (162 + 3 * e + w) = if w = 0 then 6 else if w = 1 then 9 else 1 := by
  unfold ub
  rw [if_neg (by omega), if_neg (by omega), if_neg (by omega), if_neg (by omega), if_neg (by omega), if_neg (by omega), if_neg (by omega), if_neg (by omega), if_neg (by omega)]
  (repeat' split) <;> omega
theorem Vd_b {d : Nat → Int} (h : Vd d) {k : Nat} (hk : k < 186) (h3 : ¬ k = 3) : 0 ≤ d k ∧ d k ≤ ub k := by
  obtain ⟨a0, a1, a2, a4, a5, ar, ad, ah, ap, ae, _⟩ := h
  by_cases c0 : k = 0
  · subst c0; exact a0
  by_cases c1 : k = 1
  · subst c1; exact a1
  by_cases c2 : k = 2
  · subst c2; exact a2
  by_cases c4 : k = 4
  · subst c4; exact a4
  by_cases c5 : k = 5
  · subst c5; exact a5
  by_cases c6 : k < 70
  · have := ar k (by omega) c6
    unfold ub
    rw [if_neg c0, if_neg c1, if_neg c2, if_neg c4, if_neg c5, if_pos c6]
    exact this
  by_cases c7 : k < 134
  · have := ad k (by omega) c7
    unfold ub
    rw [if_neg c0, if_neg c1, if_neg c2, if_neg c4, if_neg c5, if_neg c6, if_pos c7]
    exact this
  by_cases c8 : k < 142
  · obtain ⟨g, w, hg, hw, e⟩ : ∃ g w : Nat, g < 2 ∧ w < 4 ∧ k = 134 + 4 * g + w := ⟨(k - 134) / 4, (k - 134) % 4, by omega, by omega, by omega⟩
    have q := ah g (by omega) (by omega)
    have r : ∀ w' : Int, w' = w → hi4 d g w' = d k := fun w' q' => by
      unfold hi4
      rw [show (134 + 4 * (g : Int) + w').toNat = k by omega]
    rw [e, ub_hi hg hw, ← e]
    by_cases w0 : w = 0
    · rw [r 0 (by omega)] at q; rw [if_pos w0]; exact q.1
    by_cases w1 : w = 1
    · rw [r 1 (by omega)] at q; rw [if_neg w0, if_pos w1]; exact q.2.1
    by_cases w2 : w = 2
    · rw [r 2 (by omega)] at q; rw [if_neg w0, if_neg w1, if_pos w2]; exact q.2.2.1
    · rw [r 3 (by omega)] at q; rw [if_neg w0, if_neg w1, if_neg w2]; exact q.2.2.2
  by_cases c9 : k < 162
  · have := ap k (by omega) c9
    unfold ub
    rw [if_neg c0, if_neg c1, if_neg c2, if_neg c4, if_neg c5, if_neg c6, if_neg c7, if_neg c8, if_pos c9]
    exact this
  · obtain ⟨g, w, hg, hw, e⟩ : ∃ g w : Nat, g < 8 ∧ w < 3 ∧ k = 162 + 3 * g + w := ⟨(k - 162) / 3, (k - 162) % 3, by omega, by omega, by omega⟩
    have q := ae g (by omega) (by omega)
    have r : ∀ w' : Int, w' = w → ei d g w' = d k := fun w' q' => by
      unfold ei
      rw [show (162 + 3 * (g : Int) + w').toNat = k by omega]
    rw [e, ub_ei hg hw, ← e]
    by_cases w0 : w = 0
    · rw [r 0 (by omega)] at q; rw [if_pos w0]; exact q.1
    by_cases w1 : w = 1
    · rw [r 1 (by omega)] at q; rw [if_neg w0, if_pos w1]; exact q.2.1
    · rw [r 2 (by omega)] at q; rw [if_neg w0, if_neg w1]; exact q.2.2
theorem Vd_of {d : Nat → Int} (h : ∀ k, k < 186 → ¬ k = 3 → 0 ≤ d k ∧ d k ≤ ub k) (t0 : Vt d 0) (t1 : Vt d 1) : Vd d := by
  refine ⟨h 0 (by omega) (by omega), h 1 (by omega) (by omega), h 2 (by omega) (by omega), h 4 (by omega) (by omega), h 5 (by omega) (by omega), fun k a b => ?_, fun k a b => ?_, fun g a b => ?_, fun k a b => ?_, fun g a b => ?_, t0, t1⟩
  · have := h k (by omega) (by omega)
    unfold ub at this
    rw [if_neg (by omega), if_neg (by omega), if_neg (by omega), if_neg (by omega), if_neg (by omega), if_pos (by omega)] at this
    exact this
  · have := h k (by omega) (by omega)
    unfold ub at this
    rw [if_neg (by omega), if_neg (by omega), if_neg (by omega), if_neg (by omega), if_neg (by omega), if_neg (by omega), if_pos (by omega)] at this
    exact this
  · obtain ⟨n, rfl⟩ : ∃ n : Nat, g = n := ⟨g.toNat, by omega⟩
    have r : ∀ w : Nat, hi4 d n w = d (134 + 4 * n + w) := fun w => by
      unfold hi4
      rw [show (134 + 4 * (n : Int) + w).toNat = 134 + 4 * n + w by omega]
    have q : ∀ w : Nat, w < 4 → 0 ≤ hi4 d n w ∧ hi4 d n w ≤ ub (134 + 4 * n + w) := fun w hw => by
      rw [r w]; exact h _ (by omega) (by omega)
    have q0 := q 0 (by omega)
    have q1 := q 1 (by omega)
    have q2 := q 2 (by omega)
    have q3 := q 3 (by omega)
    rw [ub_hi (by omega) (by omega)] at q0 q1 q2 q3
    exact ⟨q0, q1, q2, q3⟩
  · have := h k (by omega) (by omega)
    unfold ub at this
    rw [if_neg (by omega), if_neg (by omega), if_neg (by omega), if_neg (by omega), if_neg (by omega), if_neg (by omega), if_neg (by omega), if_neg (by omega), if_pos (by omega)] at this
    exact this
  · obtain ⟨n, rfl⟩ : ∃ n : Nat, g = n := ⟨g.toNat, by omega⟩
    have r : ∀ w : Nat, ei d n w = d (162 + 3 * n + w) := fun w => by
      unfold ei
      rw [show (162 + 3 * (n : Int) + w).toNat = 162 + 3 * n + w by omega]
    have q : ∀ w : Nat, w < 3 → 0 ≤ ei d n w ∧ ei d n w ≤ ub (162 + 3 * n + w) := fun w hw => by
      rw [r w]; exact h _ (by omega) (by omega)
    have q0 := q 0 (by omega)
    have q1 := q 1 (by omega)
    have q2 := q 2 (by omega)
    rw [ub_ei (by omega) (by omega)] at q0 q1 q2
    exact ⟨q0, q1, q2⟩
theorem Vt_eq {d d' : Nat → Int} {u : Int} (hu : u = 0 ∨ u = 1) (h : Vt d u) (e : ∀ k, (186 ≤ k ∧ k < 188) ∨ (208 ≤ k ∧ k < 308) → d' k = d k) : Vt d' u := by
  unfold Vt at *
  obtain ⟨a, b, dep, e0, es⟩ := h
  have el : d' (186 + u).toNat = d (186 + u).toNat := e _ (by omega)
  rw [el]
  refine ⟨a, b, dep, e0, fun k hk => ?_⟩
  have := es k hk
  dsimp only at this ⊢
  rw [e _ (by omega)]
  exact this
theorem Vd_up {d : Nat → Int} (h : Vd d) {k : Nat} {v : Int} (hk : k < 186) (hv : k = 3 ∨ (0 ≤ v ∧ v ≤ ub k)) : Vd (up1 d k v) := by
  refine Vd_of (fun j a b => ?_) (Vt_eq (Or.inl rfl) h.2.2.2.2.2.2.2.2.2.2.1 (fun j q => up1_ne (by omega))) (Vt_eq (Or.inr rfl) h.2.2.2.2.2.2.2.2.2.2.2 (fun j q => up1_ne (by omega)))
  by_cases q : j = k
  · subst q
    unfold up1
    rw [if_pos rfl]
    omega
  · rw [up1_ne q]
    exact Vd_b h a b
