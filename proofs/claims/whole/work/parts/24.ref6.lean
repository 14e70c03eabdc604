/-! THE REFERENCE: a year goes by -/
theorem Vd_chg {d d' : Nat → Int} (h : Vd d) (h0 : d' 0 = d 0) (h1 : 0 ≤ d' 1 ∧ d' 1 ≤ 20000) (h2 : d' 2 = d 2) (h4 : d' 4 = d 4) (h5 : d' 5 = d 5) (hr : ∀ k, 6 ≤ k → k < 70 → d' k = d k) (hd : ∀ k, 70 ≤ k → k < 134 → 0 ≤ d' k ∧ d' k ≤ 1) (hh : ∀ h, 0 ≤ h → h < 2 → (0 ≤ hi4 d' h 0 ∧ hi4 d' h 0 ≤ 63) ∧ (0 ≤ hi4 d' h 1 ∧ hi4 d' h 1 ≤ 20) ∧ (0 ≤ hi4 d' h 2 ∧ hi4 d' h 2 ≤ 99) ∧ (0 ≤ hi4 d' h 3 ∧ hi4 d' h 3 ≤ 4)) (hp : ∀ k, 142 ≤ k → k < 162 → 0 ≤ d' k ∧ d' k ≤ 63) (he : ∀ k, 162 ≤ k → d' k = d k) : Vd d' := by
  obtain ⟨v0, v1, v2, v4, v5, v6, v7, v8, v9, v10, v11, v12⟩ := h
  refine ⟨by rw [h0]; exact v0, h1, by rw [h2]; exact v2, by rw [h4]; exact v4, by rw [h5]; exact v5, fun k q1 q2 => by rw [hr k q1 q2]; exact v6 k q1 q2, hd, hh, hp, fun e q1 q2 => ?_, ?_, ?_⟩
  · have z : ∀ w, 0 ≤ w → ei d' e w = ei d e w := fun w hw => he _ (by omega)
    rw [z 0 (by omega), z 1 (by omega), z 2 (by omega)]
    exact v10 e q1 q2
  · unfold Vt at v11 ⊢
    rw [he _ (by omega), show (fun k => d' ((208 + 50 * (0 : Int)).toNat + k)) = (fun k => d ((208 + 50 * (0 : Int)).toNat + k)) from funext fun k => he _ (by omega)]
    exact v11
  · unfold Vt at v12 ⊢
    rw [he _ (by omega), show (fun k => d' ((208 + 50 * (1 : Int)).toNat + k)) = (fun k => d ((208 + 50 * (1 : Int)).toNat + k)) from funext fun k => he _ (by omega)]
    exact v12
theorem Vd_gos {d : Nat → Int} (h : Vd d) {g w : Int} (h1 : 0 ≤ g) (h2 : g < 2) (h3 : 0 ≤ w) (h4 : w ≤ 4) : Vd (gos d g w) := by
  have hp := Vd_hi h (e := g) h1 h2
  have cr := bsd_rng (w := w) hp.1.1 hp.1.2
  unfold gos
  obtain ⟨c, hc⟩ : ∃ c, bsd (hi4 d g 0) w = c := ⟨_, rfl⟩
  rw [hc] at cr ⊢
  obtain ⟨wk, hwk⟩ : ∃ x, gwk d g c = x := ⟨_, rfl⟩
  have wkr : 0 ≤ wk ∧ wk ≤ 99 := by rw [← hwk]; unfold gwk hd3; split; omega; split <;> omega
  rw [hwk]
  have hi := h
  obtain ⟨v0, v1, v2, v4, v5, v6, v7, v8, v9, v10, v11, v12⟩ := hi
  have g01 : g = 0 ∨ g = 1 := by omega
  split
  · exact h
  · split
    · refine Vd_chg h (up1_ne (by omega)) (by rw [up1_ne (by omega)]; exact v1) (up1_ne (by omega)) (up1_ne (by omega)) (up1_ne (by omega)) (fun k q1 q2 => up1_ne (by omega)) (fun k q1 q2 => by rw [up1_ne (by omega)]; exact v7 k q1 q2) (fun q q1 q2 => ?_) (fun k q1 q2 => by rw [up1_ne (by omega)]; exact v9 k q1 q2) (fun k q1 => up1_ne (by omega))
      have := v8 q q1 q2
      unfold hi4 at this ⊢
      refine ⟨by rw [up1_ne (by omega)]; exact this.1, by rw [up1_ne (by omega)]; exact this.2.1, ?_, by rw [up1_ne (by omega)]; exact this.2.2.2⟩
      unfold up1
      split
      · exact wkr
      · exact this.2.2.1
    · unfold gfin
      refine Vd_chg h ?_ ?_ ?_ ?_ ?_ (fun k q1 q2 => ?_) (fun k q1 q2 => ?_) (fun q q1 q2 => ?_) (fun k q1 q2 => ?_) (fun k q1 => ?_)
      · rw [up1_ne (by omega), up1_ne (by omega), up1_ne (by omega), up1_ne (by omega)]
      · rw [up1_ne (by omega), up1_ne (by omega), up1_ne (by omega), up1_ne (by omega)]; exact v1
      · rw [up1_ne (by omega), up1_ne (by omega), up1_ne (by omega), up1_ne (by omega)]
      · rw [up1_ne (by omega), up1_ne (by omega), up1_ne (by omega), up1_ne (by omega)]
      · rw [up1_ne (by omega), up1_ne (by omega), up1_ne (by omega), up1_ne (by omega)]
      · rw [up1_ne (by omega), up1_ne (by omega), up1_ne (by omega), up1_ne (by omega)]
      · rw [up1_ne (by omega), up1_ne (by omega), up1_ne (by omega)]
        unfold up1
        split
        · omega
        · exact v7 k q1 q2
      · have := v8 q q1 q2
        unfold hi4 at this ⊢
        simp only [up1]
        refine ⟨?_, ?_, ?_, ?_⟩
        all_goals (repeat' split)
        all_goals omega
      · rw [up1_ne (by omega), up1_ne (by omega), up1_ne (by omega), up1_ne (by omega)]; exact v9 k q1 q2
      · rw [up1_ne (by omega), up1_ne (by omega), up1_ne (by omega), up1_ne (by omega)]
def shf (d : Nat → Int) : Nat → Int := fun j => if j = 1 then d 1 + 1 else if 142 ≤ j ∧ j < 162 then (if (j - 142) % 10 = 0 then d (134 + 4 * ((j - 142) / 10)) else d (j - 1)) else d j
def yr0 (d : Nat → Int) (wo : Int) : Nat → Int := if 0 < fr (hi4 d 0 0) (hi4 d 1 0) then gos (gos d 0 (hk d wo 0)) 1 (hk d wo 1) else d
def yr1 (d : Nat → Int) (wo : Int) : Nat → Int := shf (yr0 d wo)
theorem Vd_yr0 {d : Nat → Int} (h : Vd d) (wo : Int) : Vd (yr0 d wo) := by
  unfold yr0
  have h1 := hk_rng (wo := wo) (h := 0) h.1
  have h2 := hk_rng (wo := wo) (h := 1) h.1
  split
  · exact Vd_gos (Vd_gos h (by omega) (by omega) h1.1 h1.2) (by omega) (by omega) h2.1 h2.2
  · exact h
theorem gos_1 (d : Nat → Int) {g w : Int} (h0 : 0 ≤ g) (h1 : 0 ≤ hi4 d g 0) (h2 : hi4 d g 0 ≤ 63) : gos d g w 1 = d 1 := by
  have cr := bsd_rng (w := w) h1 h2
  unfold gos gfin
  split
  · rfl
  · split
    · exact up1_ne (by omega)
    · rw [up1_ne (by omega), up1_ne (by omega), up1_ne (by omega), up1_ne (by omega)]
theorem yr0_1 {d : Nat → Int} (h : Vd d) (wo : Int) : yr0 d wo 1 = d 1 := by
  unfold yr0
  have h1 := hk_rng (wo := wo) (h := 0) h.1
  split
  · have p := Vd_gos h (g := 0) (w := hk d wo 0) (by omega) (by omega) h1.1 h1.2
    have q := (Vd_hi p (e := 1) (by omega) (by omega)).1
    have q0 := (Vd_hi h (e := 0) (by omega) (by omega)).1
    rw [gos_1 _ (by omega) q.1 q.2, gos_1 _ (by omega) q0.1 q0.2]
  · rfl
theorem Vd_shf {d : Nat → Int} (h : Vd d) (hy : d 1 < 20000) : Vd (shf d) := by
  have hi := h
  obtain ⟨v0, v1, v2, v4, v5, v6, v7, v8, v9, v10, v11, v12⟩ := hi
  have nr : ∀ k, ¬ k = 1 → ¬ (142 ≤ k ∧ k < 162) → shf d k = d k := fun k q1 q2 => by unfold shf; rw [if_neg q1, if_neg q2]
  refine Vd_chg h (nr _ (by omega) (by omega)) ?_ (nr _ (by omega) (by omega)) (nr _ (by omega) (by omega)) (nr _ (by omega) (by omega)) (fun k q1 q2 => nr _ (by omega) (by omega)) (fun k q1 q2 => by rw [nr _ (by omega) (by omega)]; exact v7 k q1 q2) (fun q q1 q2 => ?_) (fun k q1 q2 => ?_) (fun k q1 => nr _ (by omega) (by omega))
  · show 0 ≤ (if 1 = 1 then _ else _) ∧ (if 1 = 1 then _ else _) ≤ 20000
    rw [if_pos rfl]; omega
  · have := v8 q q1 q2
    unfold hi4 at this ⊢
    rw [nr _ (by omega) (by omega), nr _ (by omega) (by omega), nr _ (by omega) (by omega), nr _ (by omega) (by omega)]
    exact this
  · unfold shf
    rw [if_neg (by omega), if_pos ⟨q1, q2⟩]
    split
    · have := (v8 (((k - 142) / 10 : Nat) : Int) (by omega) (by omega)).1
      unfold hi4 at this
      rw [show (134 + 4 * (((k - 142) / 10 : Nat) : Int) + 0).toNat = 134 + 4 * ((k - 142) / 10) by omega] at this
      exact this
    · exact v9 (k - 1) (by omega) (by omega)
theorem Vd_yr1 {d : Nat → Int} (h : Vd d) (wo : Int) (hy : d 1 < 20000) : Vd (yr1 d wo) := Vd_shf (Vd_yr0 h wo) (by rw [yr0_1 h]; exact hy)
