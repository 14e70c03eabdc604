/-! THE CLASS: text; what it leaves -/
theorem SRn_tx0 {M M' : ZMm} {d : Nat → Int} (n9 : SRn M d) (hl : d 186 ≤ 50 ∧ d 187 ≤ 50) (h5 : d 5 ≤ 20) (f : ∀ x, x < 26 → ¬ x = 22 → M' x = M x) (e : M' 22 1 = 0) : SRn M' (up1 d 4 0) := by
  obtain ⟨hh, c, l1, l2, t, w, z⟩ := n9
  have u9 : ∀ k, ¬ k = 4 → up1 d 4 0 k = d k := fun k p => up1_ne p
  refine ⟨HR_cg hh (fun x p q => f x (by omega) (by omega)) (fun k hk => u9 k (by omega)), CR_cg c (fun x p q => f x (by omega) (by omega)) (fun k hk => u9 k (by omega)), LR_cg l1 hl.1 (by omega) (fun x p q => f x (by omega) (by omega)) (fun k hk => u9 k (by omega)), LR_cg l2 hl.2 (by omega) (fun x p q => f x (by omega) (by omega)) (fun k hk => u9 k (by omega)), ⟨by rw [e, up1_eq], fun k hk => by rw [up1_eq] at hk; omega⟩, TR_cg w (fun x p => f x (by omega) (by omega)) (u9 5 (by omega)) (fun k _ => u9 (188 + k) (by omega)), ?_⟩
  rw [f 1 (by omega) (by omega), u9 3 (by omega)]
  exact z
theorem txd_lo {d : Nat → Int} {u : Int} {l : List Int} {k : Nat} (hu : u = 0 ∨ u = 1) (h : ¬ (208 + 50 * u ≤ (k : Int) ∧ (k : Int) < 208 + 50 * u + l.length)) (h2 : ¬ (k : Int) = 186 + u) : txd d u l k = if k = 4 then 0 else d k := by
  unfold txd
  rw [if_neg h, if_neg h2]
theorem txd_n {d : Nat → Int} {u : Int} {l : List Int} {k : Nat} (hu : u = 0 ∨ u = 1) (h : (k : Int) = 186 + u) : txd d u l k = l.length := by
  unfold txd
  rw [if_neg (by omega), if_pos h]
theorem txd_c {d : Nat → Int} {u : Int} {l : List Int} {k : Nat} (hu : 0 ≤ u) (h : k < l.length) : txd d u l ((208 + 50 * u).toNat + k) = l.getD k 0 := by
  unfold txd
  rw [if_pos (by omega), show (208 + 50 * u).toNat + k - (208 + 50 * u).toNat = k by omega]
