/-! HOW BOTH BEGIN -/
def mdS : Nat → Int := md1 (md1 (md0 64) 0) 1
theorem md_b : ∀ k, k < 186 → ¬ k = 3 → 0 ≤ mdS k ∧ mdS k ≤ ub k := by decide +kernel
theorem md_z : ∀ k, k < 358 → 186 ≤ k → mdS k = 0 := by decide +kernel
theorem md_1 : mdS 1 = 0 := by decide +kernel
theorem md_4 : mdS 4 = 0 := by decide +kernel
theorem md_5 : mdS 5 = 0 := by decide +kernel
theorem Vd_md : Vd mdS := by
  refine Vd_of md_b ?_ ?_
  · unfold Vt
    rw [md_z _ (by decide) (by decide)]
    exact ⟨by omega, by omega, fun _ => 0, rfl, fun k hk => by omega⟩
  · unfold Vt
    rw [md_z _ (by decide) (by decide)]
    exact ⟨by omega, by omega, fun _ => 0, rfl, fun k hk => by omega⟩
theorem HR_md : HR 2 vTh mdS := by
  have w : ∀ g, g < 2 → ∀ k, k < 10 → vTh (2 + 7) (10 * g + ((vTh 2 7).toNat + 10 - k) % 10) = mdS (142 + 10 * g + k) := by decide +kernel
  exact ⟨by decide +kernel, by decide +kernel, by decide +kernel, by decide +kernel, by decide +kernel, by decide +kernel, fun g k a b => w g a k b⟩
theorem SRn_md : SRn vTh mdS := by
  refine ⟨HR_md, ⟨by decide +kernel, by decide +kernel⟩, ⟨by decide +kernel, fun k hk => ?_⟩, ⟨by decide +kernel, fun k hk => ?_⟩, ⟨by decide +kernel, fun k hk => ?_⟩, ⟨by decide +kernel, fun k hk => ?_⟩, by decide +kernel⟩
  · rw [md_z _ (by decide) (by decide)] at hk; omega
  · rw [md_z _ (by decide) (by decide)] at hk; omega
  · rw [md_4] at hk; omega
  · rw [md_5] at hk; omega
theorem vTh_0 {j k : Nat} (h : j = 0 ∨ j = 51 ∨ j = 52 ∨ j = 53 ∨ 62 ≤ j) : vTh j k = 0 := by
  unfold vTh
  rw [if_neg (by omega), if_neg (by omega), if_neg (by omega)]
theorem st_begin {M0 M1 M : ZMm} (z : Zvq 0 87 vTh M0 M1) (m : Mdq M1 M) : Inq 0 (st M) ∧ Rc (st M) M ∧ M 87 15 = -1 := by
  have e1 : ∀ x, x < 87 → M x = vTh x := fun x hx => by
    rw [m.1 x hx]
    funext k
    have := z.2 x k hx
    rw [Nat.zero_add] at this
    exact this
  have s88 : st M 88 = mdS := m.2.2.1
  have z0 : ∀ x k, 89 ≤ x → x < 102 → M x k = 0 := m.2.2.2
  have s3 : st M 87 3 = 0 := (m.2.1 3).trans rfl
  have s19 : st M 87 19 = 0 := (m.2.1 19).trans rfl
  have s20 : st M 87 20 = 0 := (m.2.1 20).trans rfl
  have s89 : ∀ k, st M 89 k = 0 := fun k => z0 89 k (by omega) (by omega)
  have s91 : ∀ k, st M 91 k = 0 := fun k => z0 91 k (by omega) (by omega)
  have s98 : ∀ k, st M 98 k = 0 := fun k => z0 98 k (by omega) (by omega)
  have s99 : ∀ k, st M 99 k = 0 := fun k => z0 99 k (by omega) (by omega)
  have s100 : ∀ k, st M 100 k = 0 := fun k => z0 100 k (by omega) (by omega)
  have r0 : rg 0 := ⟨by omega, by omega⟩
  refine ⟨⟨?_, by omega⟩, ?_, (m.2.1 15).trans rfl⟩
  · unfold Vs
    rw [s88, s3, s19, s20, md_1]
    refine ⟨Vd_md, by omega, fun q => absurd rfl q, by omega, by omega, fun k hk => ?_, fun k => ?_, fun k a b => ?_, fun k a b => ?_, by omega, fun k a b => ?_, fun k a b => ?_⟩
    · rw [s98, s99]; exact ⟨Or.inl rfl, by omega, by omega⟩
    · rw [s100]; exact r0
    · rw [md_z k (by omega) (by omega)]; exact r0
    · rw [s89]; exact r0
    · rw [md_z k (by omega) (by omega)]; exact r0
    · rw [s89]; exact r0
  · refine ⟨?_, fun q => absurd s3 q, ?_, fun k hk => ?_, ⟨?_, fun k hk => ?_⟩, fun s hs => ⟨?_, ?_, fun k hk => ⟨?_, ?_⟩⟩⟩
    · rw [s88]
      exact SRn_cg SRn_md Vd_md (fun x p _ _ => e1 x (by omega))
    · rw [e1 0 (by omega), s3, vTh_0 (by omega)]
    · rw [e1 78 (by omega), s91, vTh_0 (by omega)]
    · rw [e1 75 (by omega), s19, vTh_0 (by omega)]
    · rw [s19] at hk; omega
    · rw [e1 _ (by omega), s98, vTh_0 (by omega)]
    · rw [e1 _ (by omega), s99, vTh_0 (by omega)]
    · rw [e1 _ (by omega), s98, s100, vTh_0 (by omega)]; rfl
    · rw [s98, s100]; exact ⟨fun h => by omega, fun h => by omega⟩
