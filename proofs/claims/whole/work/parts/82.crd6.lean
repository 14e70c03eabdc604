/-! THE CLASS: text; what it leaves -/
theorem SRn_tx0 {M M' : ZMm} {d : Nat → Int} (n9 : SRn M d) (hl : d 186 ≤ 50 ∧ d 187 ≤ 50) (h5 : d 5 ≤ 20) (f : ∀ x, x < 26 → ¬ x = 22 → M' x = M x) (e : M' 22 1 = 0) : SRn M' (up1 d 4 0) := by
  obtain ⟨hh, c, l1, l2, t, w, z⟩ := n9
  have u9 : ∀ k, ¬ k = 4 → up1 d 4 0 k = d k := fun k p => up1_ne p
  refine ⟨HR_cg hh (fun x p q => f x (by omega) (by omega)) (fun k hk => u9 k (by omega)), CR_cg c (fun x p q => f x (by omega) (by omega)) (fun k hk => u9 k (by omega)), LR_cg l1 hl.1 (by omega) (fun x p q => f x (by omega) (by omega)) (fun k hk => u9 k (by omega)), LR_cg l2 hl.2 (by omega) (fun x p q => f x (by omega) (by omega)) (fun k hk => u9 k (by omega)), ⟨by rw [e, up1_eq], fun k hk => by rw [up1_eq] at hk; omega⟩, TR_cg w (fun x p => f x (by omega) (by omega)) (u9 5 (by omega)) (fun k _ => u9 (188 + k) (by omega)), ?_⟩
  rw [f 1 (by omega) (by omega), u9 3 (by omega)]
  exact z
theorem txd_lo {d : Nat → Int} {u : Int} {l : List Int} {k : Nat} (hu : u = 0 ∨ u = 1) (h : ¬ (208 + 50 * u ≤ (k : Int) ∧ (k : Int) < 208 + 50 * u + l.length)) (h2 : ¬ (k : Int) = 186 + u) : txd d u l k = if k = 4 then 0 else d k := by
  unfold txd
  rw [if_neg h, if_neg h2]
theorem txd_n {d : Nat → Int} {u : Int} {l : List Int} {k : Nat} (hu : u = 0 ∨ u = 1) (h : (k : Int) = 186 + u) : txd d u l k = l.length := by
  unfold txd
  rw [if_neg (by omega), if_pos h]
theorem txd_c {d : Nat → Int} {u : Int} {l : List Int} {k : Nat} (hu : 0 ≤ u) (h : k < l.length) : txd d u l ((208 + 50 * u).toNat + k) = l.getD k 0 := by
  unfold txd
  rw [if_pos (by omega), show (208 + 50 * u).toNat + k - (208 + 50 * u).toNat = k by omega]
theorem SRn_tx1 {M M' : ZMm} {d : Nat → Int} {u : Int} {a b : Nat} {l : List Int} (hu : (u = 0 ∧ a = 15 ∧ b = 19) ∨ (u = 1 ∧ a = 19 ∧ b = 15)) (hn : l.length ≤ 50) (n9 : SRn M d) (hl : d 186 ≤ 50 ∧ d 187 ≤ 50) (H5 : d 5 ≤ 20) (f : ∀ x, x < 26 → ¬ x = 22 → ¬ x = a → ¬ x = a + 1 → M' x = M x) (e : M' 22 1 = 0) (e2 : M' a 1 = l.length) (e3 : ∀ k, k < l.length → M' (a + 1) k = l.getD k 0) : SRn M' (txd d u l) := by
  obtain ⟨hh, c, l1, l2, t, w, z⟩ := n9
  have h01 : u = 0 ∨ u = 1 := by omega
  have u9 : ∀ k : Nat, ¬ k = 4 → (k < 186 ∨ (188 ≤ k ∧ k < 208)) → txd d u l k = d k := fun k p q => by rw [txd_lo h01 (by omega) (by omega), if_neg p]
  have t4 : txd d u l 4 = 0 := by rw [txd_lo h01 (by omega) (by omega), if_pos rfl]
  refine ⟨HR_cg hh (fun x p q => f x (by omega) (by omega) (by omega) (by omega)) (fun k hk => u9 k (by omega) (by omega)), CR_cg c (fun x p q => f x (by omega) (by omega) (by omega) (by omega)) (fun k hk => u9 k (by omega) (by omega)), ?_, ?_, ⟨by rw [e, t4], fun k hk => by rw [t4] at hk; omega⟩, ⟨by rw [f 24 (by omega) (by omega) (by omega) (by omega), u9 5 (by omega) (by omega)]; exact w.1, ?_⟩, ?_⟩
  · rcases hu with ⟨q, qa, qb⟩ | ⟨q, qa, qb⟩ <;> subst q <;> subst qa
    · have en : txd d 0 l (186 + 0) = l.length := txd_n (Or.inl rfl) (by omega)
      refine ⟨by rw [en]; exact e2, fun k hk => ?_⟩
      rw [en] at hk
      exact (e3 k (by omega)).trans (txd_c (d := d) (u := 0) (by omega) (by omega)).symm
    · have en : txd d 1 l (186 + 0) = d 186 := by rw [txd_lo h01 (by omega) (by omega), if_neg (by omega)]
      refine ⟨by rw [en, f 15 (by omega) (by omega) (by omega) (by omega)]; exact l1.1, fun k hk => ?_⟩
      rw [en] at hk
      rw [f 16 (by omega) (by omega) (by omega) (by omega), txd_lo h01 (by omega) (by omega), if_neg (by omega)]
      exact l1.2 k hk
  · rcases hu with ⟨q, qa, qb⟩ | ⟨q, qa, qb⟩ <;> subst q <;> subst qa
    · have en : txd d 0 l (186 + 1) = d 187 := by rw [txd_lo h01 (by omega) (by omega), if_neg (by omega)]
      refine ⟨by rw [en, f 19 (by omega) (by omega) (by omega) (by omega)]; exact l2.1, fun k hk => ?_⟩
      rw [en] at hk
      rw [f 20 (by omega) (by omega) (by omega) (by omega), txd_lo h01 (by omega) (by omega), if_neg (by omega)]
      exact l2.2 k hk
    · have en : txd d 1 l (186 + 1) = l.length := txd_n (Or.inr rfl) (by omega)
      refine ⟨by rw [en]; exact e2, fun k hk => ?_⟩
      rw [en] at hk
      exact (e3 k (by omega)).trans (txd_c (d := d) (u := 1) (by omega) (by omega)).symm
  · intro k hk
    rw [u9 5 (by omega) (by omega)] at hk
    have h5 : d 5 ≤ 20 := H5
    rw [f 25 (by omega) (by omega) (by omega) (by omega), u9 (188 + k) (by omega) (by omega)]
    exact w.2 k hk
  · rw [f 1 (by omega) (by omega) (by omega) (by omega), u9 3 (by omega) (by omega)]
    exact z
