/-! THE REFERENCE: odds -/
def k_X11_odds_0 : List ZI := [(.iload_n 1, 1, (0, [1], [])), (.i2l, 1, (0, [], [])), (.lconst 0, 1, (0, [], [])), (.ldc2_w 290, 3, (30, [], [])), (.invokestatic 61, 3, (0, [120, 3, 0, 11], [])), (.ifCond .eq 25, 3, (0, [34], []))]
theorem ok_X11_odds_0 : zOK cX11_odds 11 false 6 k_X11_odds_0 0 = true := zOK_by (by decide +kernel)
def k_X11_odds_12 : List ZI := [(.iload_n 2, 1, (0, [2], [])), (.i2l, 1, (0, [], [])), (.lconst 0, 1, (0, [], [])), (.ldc2_w 267, 3, (14, [], [])), (.invokestatic 61, 3, (0, [120, 3, 0, 11], [])), (.ifCond .eq 13, 3, (0, [34], []))]
theorem ok_X11_odds_12 : zOK cX11_odds 11 false 6 k_X11_odds_12 12 = true := zOK_by (by decide +kernel)
def k_X11_odds_24 : List ZI := [(.iload_n 3, 1, (0, [3], [])), (.i2l, 1, (0, [], [])), (.lconst 0, 1, (0, [], [])), (.lconst 1, 1, (1, [], [])), (.invokestatic 61, 3, (0, [120, 3, 0, 11], [])), (.ifCond .ne 9, 3, (0, [40], []))]
theorem ok_X11_odds_24 : zOK cX11_odds 11 false 6 k_X11_odds_24 24 = true := zOK_by (by decide +kernel)
def k_X11_odds_34 : List ZI := [(.aload_n 0, 1, (0, [0], [])), (.iconst 1, 1, (0, [], [])), (.invokevirtual 139, 3, (0, [119, 2, 0, 11], [])), (.ireturn, 1, (0, [], []))]
theorem ok_X11_odds_34 : zOK cX11_odds 11 false 6 k_X11_odds_34 34 = true := zOK_by (by decide +kernel)
def k_X11_odds_40 : List ZI := [(.aload_n 0, 1, (0, [0], [])), (.invokevirtual 257, 3, (0, [130, 1, 0, 11], [])), (.iconst 0, 1, (0, [], [])), (.istore 4, 2, (0, [4], [])), (.iconst 0, 1, (0, [], [])), (.istore 5, 2, (0, [5], []))]
theorem ok_X11_odds_40 : zOK cX11_odds 11 false 6 k_X11_odds_40 40 = true := zOK_by (by decide +kernel)
def k_X11_odds_50 : List ZI := [(.iload 5, 2, (0, [5], [])), (.bipush 10, 2, (0, [], [])), (.if_icmp .ge 36, 3, (0, [90], [])), (.aload_n 0, 1, (0, [0], [])), (.getfield 7, 3, (0, [11, 0], [])), (.iconst 2, 1, (0, [], [])), (.iload 5, 2, (0, [5], [])), (.iastore, 1, (0, [], [])), (.iload 4, 2, (0, [4], [])), (.aload_n 0, 1, (0, [0], [])), (.iload_n 1, 1, (0, [1], [])), (.invokevirtual 263, 3, (0, [186, 2, 0, 11], [])), (.iload_n 2, 1, (0, [2], [])), (.if_icmp .gt 7, 3, (0, [80], [])), (.iconst 1, 1, (0, [], [])), (.goto 4, 3, (0, [81], []))]
theorem ok_X11_odds_50 : zOK cX11_odds 11 false 6 k_X11_odds_50 50 = true := zOK_by (by decide +kernel)
def k_X11_odds_80 : List ZI := [(.iconst 0, 1, (0, [], []))]
theorem ok_X11_odds_80 : zOK cX11_odds 11 false 6 k_X11_odds_80 80 = true := zOK_by (by decide +kernel)
def k_X11_odds_81 : List ZI := [(.iadd, 1, (0, [], [])), (.istore 4, 2, (0, [4], [])), (.iinc 5 1, 3, (0, [5], [])), (.goto (-37), 3, (0, [50], []))]
theorem ok_X11_odds_81 : zOK cX11_odds 11 false 6 k_X11_odds_81 81 = true := zOK_by (by decide +kernel)
def k_X11_odds_90 : List ZI := [(.iload_n 3, 1, (0, [3], [])), (.ifCond .ne 8, 3, (0, [99], [])), (.iload 4, 2, (0, [4], [])), (.goto 5, 3, (0, [101], []))]
theorem ok_X11_odds_90 : zOK cX11_odds 11 false 6 k_X11_odds_90 90 = true := zOK_by (by decide +kernel)
def k_X11_odds_99 : List ZI := [(.bipush 10, 2, (0, [], []))]
theorem ok_X11_odds_99 : zOK cX11_odds 11 false 6 k_X11_odds_99 99 = true := zOK_by (by decide +kernel)
def k_X11_odds_101 : List ZI := [(.iload 4, 2, (0, [4], [])), (.bipush 10, 2, (0, [], [])), (.invokestatic 292, 3, (0, [201, 2, 0, 11], [])), (.idiv, 1, (0, [], [])), (.ireturn, 1, (0, [], []))]
theorem ok_X11_odds_101 : zOK cX11_odds 11 false 6 k_X11_odds_101 101 = true := zOK_by (by decide +kernel)
theorem rt_X11_odds {g : Nat} {post : Option ZV → ZH → Prop} {h : ZH} {b : ZB2} {z : Int} : zRt mX11_odds g post (some (.inl z)) h b = (post (some (.inl z)) h ∧ h.1.length = g) := by show (_ ∧ _ ∧ True) = _; simp
def bk_X11_odds_0 (E : ZE) (CT : Nat → ZC) (X : ZK) (Rt : ZR) (ls : ZL) (st : List ZV) (h : ZH) (b : ZB2) : Prop := zB E CT k_X11_odds_0 0 ls st h b (fun t ls st h b => X t ls st h b) Rt
theorem bs_X11_odds_0 {E : ZE} {CT : Nat → ZC} {X : ZK} {Rt : ZR} {ls : ZL} {st : List ZV} {h : ZH} {b : ZB2} (hX : zCl E mX11_odds 11 false CT Rt X) (q : bk_X11_odds_0 E CT X Rt ls st h b) : X 0 ls st h b := by
  refine hX k_X11_odds_0 0 ok_X11_odds_0 _ ?_ ls st h b q
  exact fun t ls st h b q => q
def bk_X11_odds_12 (E : ZE) (CT : Nat → ZC) (X : ZK) (Rt : ZR) (ls : ZL) (st : List ZV) (h : ZH) (b : ZB2) : Prop := zB E CT k_X11_odds_12 12 ls st h b (fun t ls st h b => X t ls st h b) Rt
theorem bs_X11_odds_12 {E : ZE} {CT : Nat → ZC} {X : ZK} {Rt : ZR} {ls : ZL} {st : List ZV} {h : ZH} {b : ZB2} (hX : zCl E mX11_odds 11 false CT Rt X) (q : bk_X11_odds_12 E CT X Rt ls st h b) : X 12 ls st h b := by
  refine hX k_X11_odds_12 12 ok_X11_odds_12 _ ?_ ls st h b q
  exact fun t ls st h b q => q
def bk_X11_odds_24 (E : ZE) (CT : Nat → ZC) (X : ZK) (Rt : ZR) (ls : ZL) (st : List ZV) (h : ZH) (b : ZB2) : Prop := zB E CT k_X11_odds_24 24 ls st h b (fun t ls st h b => X t ls st h b) Rt
theorem bs_X11_odds_24 {E : ZE} {CT : Nat → ZC} {X : ZK} {Rt : ZR} {ls : ZL} {st : List ZV} {h : ZH} {b : ZB2} (hX : zCl E mX11_odds 11 false CT Rt X) (q : bk_X11_odds_24 E CT X Rt ls st h b) : X 24 ls st h b := by
  refine hX k_X11_odds_24 24 ok_X11_odds_24 _ ?_ ls st h b q
  exact fun t ls st h b q => q
def bk_X11_odds_34 (E : ZE) (CT : Nat → ZC) (X : ZK) (Rt : ZR) (ls : ZL) (st : List ZV) (h : ZH) (b : ZB2) : Prop := zB E CT k_X11_odds_34 34 ls st h b (fun t ls st h b => X t ls st h b) Rt
theorem bs_X11_odds_34 {E : ZE} {CT : Nat → ZC} {X : ZK} {Rt : ZR} {ls : ZL} {st : List ZV} {h : ZH} {b : ZB2} (hX : zCl E mX11_odds 11 false CT Rt X) (q : bk_X11_odds_34 E CT X Rt ls st h b) : X 34 ls st h b := by
  refine hX k_X11_odds_34 34 ok_X11_odds_34 _ ?_ ls st h b q
  exact fun t ls st h b q => q
def bk_X11_odds_40 (E : ZE) (CT : Nat → ZC) (X : ZK) (Rt : ZR) (ls : ZL) (st : List ZV) (h : ZH) (b : ZB2) : Prop := zB E CT k_X11_odds_40 40 ls st h b (fun t ls st h b => X t ls st h b) Rt
theorem bs_X11_odds_40 {E : ZE} {CT : Nat → ZC} {X : ZK} {Rt : ZR} {ls : ZL} {st : List ZV} {h : ZH} {b : ZB2} (hX : zCl E mX11_odds 11 false CT Rt X) (q : bk_X11_odds_40 E CT X Rt ls st h b) : X 40 ls st h b := by
  refine hX k_X11_odds_40 40 ok_X11_odds_40 _ ?_ ls st h b q
  exact fun t ls st h b q => q
def bk_X11_odds_81 (E : ZE) (CT : Nat → ZC) (X : ZK) (Rt : ZR) (ls : ZL) (st : List ZV) (h : ZH) (b : ZB2) : Prop := zB E CT k_X11_odds_81 81 ls st h b (fun t ls st h b => X t ls st h b) Rt
theorem bs_X11_odds_81 {E : ZE} {CT : Nat → ZC} {X : ZK} {Rt : ZR} {ls : ZL} {st : List ZV} {h : ZH} {b : ZB2} (hX : zCl E mX11_odds 11 false CT Rt X) (q : bk_X11_odds_81 E CT X Rt ls st h b) : X 81 ls st h b := by
  refine hX k_X11_odds_81 81 ok_X11_odds_81 _ ?_ ls st h b q
  exact fun t ls st h b q => q
def bk_X11_odds_80 (E : ZE) (CT : Nat → ZC) (X : ZK) (Rt : ZR) (ls : ZL) (st : List ZV) (h : ZH) (b : ZB2) : Prop := zB E CT k_X11_odds_80 80 ls st h b (fun t ls st h b => if t = 81 then bk_X11_odds_81 E CT X Rt ls st h b else X t ls st h b) Rt
theorem bs_X11_odds_80 {E : ZE} {CT : Nat → ZC} {X : ZK} {Rt : ZR} {ls : ZL} {st : List ZV} {h : ZH} {b : ZB2} (hX : zCl E mX11_odds 11 false CT Rt X) (q : bk_X11_odds_80 E CT X Rt ls st h b) : X 80 ls st h b := by
  refine hX k_X11_odds_80 80 ok_X11_odds_80 _ ?_ ls st h b q
  exact by
    intro t ls st h b q
    by_cases c : t = 81
    · subst c; rw [if_pos rfl] at q; exact bs_X11_odds_81 hX q
    rw [if_neg c] at q
    exact q
def bk_X11_odds_101 (E : ZE) (CT : Nat → ZC) (X : ZK) (Rt : ZR) (ls : ZL) (st : List ZV) (h : ZH) (b : ZB2) : Prop := zB E CT k_X11_odds_101 101 ls st h b (fun t ls st h b => X t ls st h b) Rt
theorem bs_X11_odds_101 {E : ZE} {CT : Nat → ZC} {X : ZK} {Rt : ZR} {ls : ZL} {st : List ZV} {h : ZH} {b : ZB2} (hX : zCl E mX11_odds 11 false CT Rt X) (q : bk_X11_odds_101 E CT X Rt ls st h b) : X 101 ls st h b := by
  refine hX k_X11_odds_101 101 ok_X11_odds_101 _ ?_ ls st h b q
  exact fun t ls st h b q => q
def bk_X11_odds_99 (E : ZE) (CT : Nat → ZC) (X : ZK) (Rt : ZR) (ls : ZL) (st : List ZV) (h : ZH) (b : ZB2) : Prop := zB E CT k_X11_odds_99 99 ls st h b (fun t ls st h b => if t = 101 then bk_X11_odds_101 E CT X Rt ls st h b else X t ls st h b) Rt
theorem bs_X11_odds_99 {E : ZE} {CT : Nat → ZC} {X : ZK} {Rt : ZR} {ls : ZL} {st : List ZV} {h : ZH} {b : ZB2} (hX : zCl E mX11_odds 11 false CT Rt X) (q : bk_X11_odds_99 E CT X Rt ls st h b) : X 99 ls st h b := by
  refine hX k_X11_odds_99 99 ok_X11_odds_99 _ ?_ ls st h b q
  exact by
    intro t ls st h b q
    by_cases c : t = 101
    · subst c; rw [if_pos rfl] at q; exact bs_X11_odds_101 hX q
    rw [if_neg c] at q
    exact q
def bk_X11_odds_90 (E : ZE) (CT : Nat → ZC) (X : ZK) (Rt : ZR) (ls : ZL) (st : List ZV) (h : ZH) (b : ZB2) : Prop := zB E CT k_X11_odds_90 90 ls st h b (fun t ls st h b => if t = 99 then bk_X11_odds_99 E CT X Rt ls st h b else if t = 101 then bk_X11_odds_101 E CT X Rt ls st h b else X t ls st h b) Rt
theorem bs_X11_odds_90 {E : ZE} {CT : Nat → ZC} {X : ZK} {Rt : ZR} {ls : ZL} {st : List ZV} {h : ZH} {b : ZB2} (hX : zCl E mX11_odds 11 false CT Rt X) (q : bk_X11_odds_90 E CT X Rt ls st h b) : X 90 ls st h b := by
  refine hX k_X11_odds_90 90 ok_X11_odds_90 _ ?_ ls st h b q
  exact by
    intro t ls st h b q
    by_cases c : t = 99
    · subst c; rw [if_pos rfl] at q; exact bs_X11_odds_99 hX q
    rw [if_neg c] at q
    by_cases c : t = 101
    · subst c; rw [if_pos rfl] at q; exact bs_X11_odds_101 hX q
    rw [if_neg c] at q
    exact q
def bk_X11_odds_50 (E : ZE) (CT : Nat → ZC) (X : ZK) (Rt : ZR) (ls : ZL) (st : List ZV) (h : ZH) (b : ZB2) : Prop := zB E CT k_X11_odds_50 50 ls st h b (fun t ls st h b => if t = 80 then bk_X11_odds_80 E CT X Rt ls st h b else if t = 81 then bk_X11_odds_81 E CT X Rt ls st h b else if t = 90 then bk_X11_odds_90 E CT X Rt ls st h b else X t ls st h b) Rt
theorem bs_X11_odds_50 {E : ZE} {CT : Nat → ZC} {X : ZK} {Rt : ZR} {ls : ZL} {st : List ZV} {h : ZH} {b : ZB2} (hX : zCl E mX11_odds 11 false CT Rt X) (q : bk_X11_odds_50 E CT X Rt ls st h b) : X 50 ls st h b := by
  refine hX k_X11_odds_50 50 ok_X11_odds_50 _ ?_ ls st h b q
  exact by
    intro t ls st h b q
    by_cases c : t = 80
    · subst c; rw [if_pos rfl] at q; exact bs_X11_odds_80 hX q
    rw [if_neg c] at q
    by_cases c : t = 81
    · subst c; rw [if_pos rfl] at q; exact bs_X11_odds_81 hX q
    rw [if_neg c] at q
    by_cases c : t = 90
    · subst c; rw [if_pos rfl] at q; exact bs_X11_odds_90 hX q
    rw [if_neg c] at q
    exact q
-- X11_odds: cuts [12, 24, 34, 40, 50]
/-- how many delays bring both so near -/
def odw (d : Nat → Int) (n v : Int) : Nat → Int
  | 0 => 0
  | k + 1 => odw d n v k + (if v < gpw d 2 k n then 0 else 1)
theorem odw_rng (d : Nat → Int) (n v : Int) : ∀ k : Nat, 0 ≤ odw d n v k ∧ odw d n v k ≤ k
  | 0 => by simp [odw]
  | k + 1 => by
    have := odw_rng d n v k
    simp only [odw]
    split <;> omega
theorem gcf_rng (a : Int) : 1 ≤ gcf a 10 ∧ gcf a 10 ≤ 10 := by
  unfold gcf
  have h1 : Nat.gcd a.toNat (10 : Int).toNat ≤ (10 : Int).toNat := Nat.gcd_le_right _ (by decide)
  have h2 : 0 < Nat.gcd a.toNat (10 : Int).toNat := Nat.gcd_pos_of_pos_right _ (by decide)
  have h3 : (10 : Int).toNat = 10 := rfl
  omega
def R_odds (S : ZMm) (n v p : Int) : Int × ZMm := if ((0 ≤ n ∧ n ≤ 30) ∧ 0 ≤ v ∧ v ≤ 14) ∧ 0 ≤ p ∧ p ≤ 1 then ((if p = 0 then odw (S 88) n v 10 else 10) / gcf (odw (S 88) n v 10) 10, S) else no S 1
def B_odds (n : Int) (v : Int) (p : Int) (M : Nat → Nat → Int) (post : Option ZV → (Nat → Nat → Int) → Prop) : Prop := rg n ∧ rg v ∧ rg p ∧ pub M (R_odds (st M) n v p) post
def C_odds : ZC := fun as h post => match as with
  | [.inr (.inr (.inl 87)), .inl n, .inl v, .inl p] => h.1 = zG ∧ B_odds n v p h.2 (fun v M => post v (zG, M))
  | _ => False
theorem r_odds {n : Int} {v : Int} {p : Int} {M : Nat → Nat → Int} {post : Option ZV → ZH → Prop} : C_odds [.inr (.inr (.inl 87)), .inl n, .inl v, .inl p] (zG, M) post = B_odds n v p M (fun v M => post v (zG, M)) := by show (zG = zG ∧ _) = _; simp
def ct_odds : Nat → ZC := fun n => if n = 120 then C_in else if n = 130 then C_keepAside else if n = 186 then C_apartBehind else if n = 201 then C_common else if n = 119 then C_finds else fun _ _ _ => False
theorem ct_odds_in {as : List ZV} {h : ZH} {post : Option ZV → ZH → Prop} : ct_odds 120 as h post = C_in as h post := rfl
theorem ct_odds_keepAside {as : List ZV} {h : ZH} {post : Option ZV → ZH → Prop} : ct_odds 130 as h post = C_keepAside as h post := rfl
theorem ct_odds_apartBehind {as : List ZV} {h : ZH} {post : Option ZV → ZH → Prop} : ct_odds 186 as h post = C_apartBehind as h post := rfl
theorem ct_odds_common {as : List ZV} {h : ZH} {post : Option ZV → ZH → Prop} : ct_odds 201 as h post = C_common as h post := rfl
theorem ct_odds_finds {as : List ZV} {h : ZH} {post : Option ZV → ZH → Prop} : ct_odds 119 as h post = C_finds as h post := rfl
theorem c_odds {E : ZE} {d : Nat} (hd : 10 ≤ d) : zMet E d mX11_odds C_odds := by
  refine zmet_of (o := 11) (ini := false) (CT := ct_odds) gd_X11_odds rfl (fun h => by cases h) (by omega) ?_ ?_
  · intro n as h post hh
    unfold ct_odds at hh
    by_cases c : n = 120
    · subst c; exact ⟨gd_X11_in, 1, by omega, c_in (by omega)⟩
    rw [if_neg c] at hh
    by_cases c : n = 130
    · subst c; exact ⟨gd_X11_keepAside, 1, by omega, c_keepAside (by omega)⟩
    rw [if_neg c] at hh
    by_cases c : n = 186
    · subst c; exact ⟨gd_X11_apartBehind, 9, by omega, c_apartBehind (by omega)⟩
    rw [if_neg c] at hh
    by_cases c : n = 201
    · subst c; exact ⟨gd_X11_common, 1, by omega, c_common (by omega)⟩
    rw [if_neg c] at hh
    by_cases c : n = 119
    · subst c; exact ⟨gd_X11_finds, 1, by omega, c_finds (by omega)⟩
    rw [if_neg c] at hh
    exact hh.elim
  intro as h post hC
  match as, hC with
  | [.inr (.inr (.inl 87)), .inl n, .inl v, .inl p], hC =>
    refine ⟨Nat.le_of_ble_eq_true rfl, fun X hX => bs_X11_odds_0 hX ?_⟩
    obtain ⟨G, M⟩ := h
    obtain ⟨hG, hC⟩ := hC
    dsimp only at hG
    subst hG
    simp only [B_odds] at hC
    show bk_X11_odds_0 E ct_odds X _ [some (.inr (.inr (.inl 87))), some (.inl n), some (.inl v), some (.inl p), none, none] [] (zG, M) (0, 0)
    obtain ⟨h1, h2, h3, hC⟩ := hC
    have vd : Vd (M 88) := hC.1.1
    have v1 := vd.2.1
    have y1 : st M 88 1 ≤ 9999 := hC.1.2.1
    have m15 : M 87 15 = -1 := hC.2.1
    have s1 : st M 88 1 = M 88 1 := rfl
    have s88 : st M 88 = M 88 := rfl
    have rm : rg (-1) := ⟨by omega, by omega⟩
    have lp : (((0 ≤ n ∧ n ≤ 30) ∧ 0 ≤ v ∧ v ≤ 14) ∧ 0 ≤ p ∧ p ≤ 1) → ∀ (j k : Nat) (M' : ZMm), j + k = 10 → M' 88 = M 88 → (∀ i, i < 186 → M' 90 i = M 88 i) → (∀ x, ¬ x = 88 → ¬ x = 90 → ¬ x = 92 → ¬ x = 94 → M' x = M x) → X 50 [some (.inr (.inr (.inl 87))), some (.inl n), some (.inl v), some (.inl p), some (.inl (odw (M 88) n v k)), some (.inl (k : Int))] [] (zG, M') (0, 0) := by
      intro hn j
      have zv : zr v = v := zr_of (by omega) (by omega)
      have zp : zr p = p := zr_of (by omega) (by omega)
      induction j with
      | zero =>
        intro k M' hk hd ha hM
        refine bs_X11_odds_50 hX ?_
        have zk : zr (k : Int) = k := zr_of (by omega) (by omega)
        have lk : ((k : Int) < 10) = False := eq_false (by omega)
        have od := odw_rng (M 88) n v k
        have zo : zr (odw (M 88) n v k) = odw (M 88) n v k := zr_of (by omega) (by omega)
        have gr := gcf_rng (odw (M 88) n v k)
        have zgc : zr (gcf (odw (M 88) n v k) 10) = gcf (odw (M 88) n v k) 10 := zr_of (by omega) (by omega)
        have fin : ∀ a, a = (if p = 0 then odw (M 88) n v k else 10) / gcf (odw (M 88) n v k) 10 → post (some (.inl a)) (zG, M') := by
          intro a ea
          refine pub_sm hC hM hd ?_
          unfold R_odds
          rw [if_pos hn, s88, ea, show k = 10 by omega]
        simp only [bk_X11_odds_0, k_X11_odds_0, bk_X11_odds_12, k_X11_odds_12, bk_X11_odds_24, k_X11_odds_24, bk_X11_odds_34, k_X11_odds_34, bk_X11_odds_40, k_X11_odds_40, bk_X11_odds_50, k_X11_odds_50, bk_X11_odds_80, k_X11_odds_80, bk_X11_odds_81, k_X11_odds_81, bk_X11_odds_90, k_X11_odds_90, bk_X11_odds_99, k_X11_odds_99, bk_X11_odds_101, k_X11_odds_101, ↓e_rk1, ↓e_rk0, ↓e_sk0, ↓e_sks, ↓e_ldi0, ↓e_ldis, ↓e_ldl0, ↓e_ldls, ↓e_lda0, ↓e_ldas, ↓e_ok0, ↓e_okss, ↓e_ok1i, ↓e_ok1r, ↓e_ok1n, ↓e_sti, ↓e_sta, ↓e_1, ↓e_2, ↓e_l1, ↓e_l2, ↓e_li, ↓e_sw0, ↓e_sws, ↓e_ceq, ↓e_cne, ↓e_clt, ↓e_cge, ↓e_cgt, ↓e_cle, ↓e_nil, ↓e_cons, ↓e_iconst, ↓e_bipush, ↓e_sipush, ↓e_ldc, ↓e_ldcw, ↓e_ldc2, ↓e_lconst, ↓e_iloadn, ↓e_iload, ↓e_lloadn, ↓e_lload, ↓e_aloadn, ↓e_aload, ↓e_istoren, ↓e_istore, ↓e_astoren, ↓e_astore, ↓e_add, ↓e_iinc, ↓e_iadd, ↓e_isub, ↓e_imul, ↓e_iand, ↓e_ior, ↓e_ixor, ↓e_ishl, ↓e_iushr, ↓e_idiv, ↓e_irem, ↓e_ineg, ↓e_i2l, ↓e_i2b, ↓e_i2s, ↓e_l2i, ↓e_land, ↓e_lor, ↓e_lshl, ↓e_lshr, ↓e_lushr, ↓e_lcmp, ↓e_dupi, ↓e_dupr, ↓e_popi, ↓e_dup2, ↓e_goto, ↓e_if, ↓e_icmp, ↓e_tsw, ↓e_lsw, ↓e_getf, ↓e_putf, ↓e_gets, ↓e_iald, ↓e_cald, ↓e_iast, ↓e_aald, ↓e_aast, ↓e_len, ↓e_copy, ↓e_abs, ↓e_max, ↓e_min, ↓e_iret, ↓e_aret, ↓e_vret, ↓e_is0, ↓e_is1, ↓e_is2, ↓e_is3, ↓e_is4, ↓e_iv1, ↓e_iv2, ↓e_iv3, ↓e_iv4, ↓e_iv5, ↓e_iv6, ↓rt_X11_odds, ↓reduceIte, Nat.reduceAdd, Nat.reduceEqDiff, ↓zcl0, ↓zclv, List.map_nil, List.sum_nil, List.map_cons, List.sum_cons, zcat, true_and, and_true, Nat.reduceLeDiff, Nat.reduceAdd, eq_self, forall_const, e_ok0, e_okss, e_ok1i, e_ok1r, e_ok1n, zl_0, zl_1, zl_2, zl_10, zq_0, zq_1, zq_14, zq_30, Int.reduceToNat, Int.reduceAdd, Int.reduceMul, Int.reduceSub, Int.reduceNeg, Int.reduceLT, Int.reduceLE, Int.reduceEq, not_false_eq_true, not_true_eq_false, false_implies, true_implies, implies_true, Int.reduceDiv, Int.reduceMod, zr8_zr, zr_zbo, z01_zbo, z01_0, z01_1, zbo_eq0, zup_eq, zup_o, zup_k, ne_eq, ↓ct_odds_in, ↓r_in, ↓B_in, ↓ct_odds_keepAside, ↓r_keepAside, ↓B_keepAside, ↓ct_odds_apartBehind, ↓r_apartBehind, ↓B_apartBehind, ↓ct_odds_common, ↓r_common, ↓B_common, ↓ct_odds_finds, ↓r_finds, ↓B_finds, ↓v_87, ↓g_87_0, ↓l_88, ↓s_88, ↓n_88, ↓g_87_1, ↓l_89, ↓s_89, ↓n_89, ↓g_87_2, ↓l_90, ↓s_90, ↓n_90, ↓g_87_3, ↓p_87_3, ↓g_87_4, ↓l_91, ↓s_91, ↓n_91, ↓g_87_5, ↓p_87_5, ↓g_87_6, ↓p_87_6, ↓g_87_7, ↓p_87_7, ↓g_87_8, ↓p_87_8, ↓g_87_9, ↓p_87_9, ↓g_87_10, ↓p_87_10, ↓g_87_11, ↓l_92, ↓s_92, ↓n_92, ↓g_87_12, ↓l_93, ↓s_93, ↓n_93, ↓g_87_13, ↓p_87_13, ↓g_87_14, ↓l_94, ↓s_94, ↓n_94, ↓g_87_15, ↓p_87_15, ↓g_87_16, ↓l_95, ↓s_95, ↓n_95, ↓g_87_17, ↓l_96, ↓s_96, ↓n_96, ↓g_87_18, ↓l_97, ↓s_97, ↓n_97, ↓g_87_19, ↓p_87_19, ↓g_87_20, ↓p_87_20, ↓g_87_21, ↓l_98, ↓s_98, ↓n_98, ↓g_87_22, ↓l_99, ↓s_99, ↓n_99, ↓g_87_23, ↓l_100, ↓s_100, ↓n_100, ↓g_87_24, ↓l_101, ↓s_101, ↓n_101, zk, lk, zp, zo, zgc]
        repeat' (first | assumption | apply And.intro | intro _)
        all_goals first | omega | (apply fin; rw [td_of (by omega)]; split <;> first | rfl | contradiction)
      | succ j ih =>
        intro k M' hk hd ha hM
        refine bs_X11_odds_50 hX ?_
        have zk : zr (k : Int) = k := zr_of (by omega) (by omega)
        have lk : ((k : Int) < 10) = True := eq_true (by omega)
        have m87 : M' 87 15 = -1 := by rw [hM 87 (by decide) (by decide) (by decide) (by decide)]; exact m15
        simp only [bk_X11_odds_0, k_X11_odds_0, bk_X11_odds_12, k_X11_odds_12, bk_X11_odds_24, k_X11_odds_24, bk_X11_odds_34, k_X11_odds_34, bk_X11_odds_40, k_X11_odds_40, bk_X11_odds_50, k_X11_odds_50, bk_X11_odds_80, k_X11_odds_80, bk_X11_odds_81, k_X11_odds_81, bk_X11_odds_90, k_X11_odds_90, bk_X11_odds_99, k_X11_odds_99, bk_X11_odds_101, k_X11_odds_101, ↓e_rk1, ↓e_rk0, ↓e_sk0, ↓e_sks, ↓e_ldi0, ↓e_ldis, ↓e_ldl0, ↓e_ldls, ↓e_lda0, ↓e_ldas, ↓e_ok0, ↓e_okss, ↓e_ok1i, ↓e_ok1r, ↓e_ok1n, ↓e_sti, ↓e_sta, ↓e_1, ↓e_2, ↓e_l1, ↓e_l2, ↓e_li, ↓e_sw0, ↓e_sws, ↓e_ceq, ↓e_cne, ↓e_clt, ↓e_cge, ↓e_cgt, ↓e_cle, ↓e_nil, ↓e_cons, ↓e_iconst, ↓e_bipush, ↓e_sipush, ↓e_ldc, ↓e_ldcw, ↓e_ldc2, ↓e_lconst, ↓e_iloadn, ↓e_iload, ↓e_lloadn, ↓e_lload, ↓e_aloadn, ↓e_aload, ↓e_istoren, ↓e_istore, ↓e_astoren, ↓e_astore, ↓e_add, ↓e_iinc, ↓e_iadd, ↓e_isub, ↓e_imul, ↓e_iand, ↓e_ior, ↓e_ixor, ↓e_ishl, ↓e_iushr, ↓e_idiv, ↓e_irem, ↓e_ineg, ↓e_i2l, ↓e_i2b, ↓e_i2s, ↓e_l2i, ↓e_land, ↓e_lor, ↓e_lshl, ↓e_lshr, ↓e_lushr, ↓e_lcmp, ↓e_dupi, ↓e_dupr, ↓e_popi, ↓e_dup2, ↓e_goto, ↓e_if, ↓e_icmp, ↓e_tsw, ↓e_lsw, ↓e_getf, ↓e_putf, ↓e_gets, ↓e_iald, ↓e_cald, ↓e_iast, ↓e_aald, ↓e_aast, ↓e_len, ↓e_copy, ↓e_abs, ↓e_max, ↓e_min, ↓e_iret, ↓e_aret, ↓e_vret, ↓e_is0, ↓e_is1, ↓e_is2, ↓e_is3, ↓e_is4, ↓e_iv1, ↓e_iv2, ↓e_iv3, ↓e_iv4, ↓e_iv5, ↓e_iv6, ↓rt_X11_odds, ↓reduceIte, Nat.reduceAdd, Nat.reduceEqDiff, ↓zcl0, ↓zclv, List.map_nil, List.sum_nil, List.map_cons, List.sum_cons, zcat, true_and, and_true, Nat.reduceLeDiff, Nat.reduceAdd, eq_self, forall_const, e_ok0, e_okss, e_ok1i, e_ok1r, e_ok1n, zl_0, zl_1, zl_2, zl_10, zq_0, zq_1, zq_14, zq_30, Int.reduceToNat, Int.reduceAdd, Int.reduceMul, Int.reduceSub, Int.reduceNeg, Int.reduceLT, Int.reduceLE, Int.reduceEq, not_false_eq_true, not_true_eq_false, false_implies, true_implies, implies_true, Int.reduceDiv, Int.reduceMod, zr8_zr, zr_zbo, z01_zbo, z01_0, z01_1, zbo_eq0, zup_eq, zup_o, zup_k, ne_eq, ↓ct_odds_in, ↓r_in, ↓B_in, ↓ct_odds_keepAside, ↓r_keepAside, ↓B_keepAside, ↓ct_odds_apartBehind, ↓r_apartBehind, ↓B_apartBehind, ↓ct_odds_common, ↓r_common, ↓B_common, ↓ct_odds_finds, ↓r_finds, ↓B_finds, ↓v_87, ↓g_87_0, ↓l_88, ↓s_88, ↓n_88, ↓g_87_1, ↓l_89, ↓s_89, ↓n_89, ↓g_87_2, ↓l_90, ↓s_90, ↓n_90, ↓g_87_3, ↓p_87_3, ↓g_87_4, ↓l_91, ↓s_91, ↓n_91, ↓g_87_5, ↓p_87_5, ↓g_87_6, ↓p_87_6, ↓g_87_7, ↓p_87_7, ↓g_87_8, ↓p_87_8, ↓g_87_9, ↓p_87_9, ↓g_87_10, ↓p_87_10, ↓g_87_11, ↓l_92, ↓s_92, ↓n_92, ↓g_87_12, ↓l_93, ↓s_93, ↓n_93, ↓g_87_13, ↓p_87_13, ↓g_87_14, ↓l_94, ↓s_94, ↓n_94, ↓g_87_15, ↓p_87_15, ↓g_87_16, ↓l_95, ↓s_95, ↓n_95, ↓g_87_17, ↓l_96, ↓s_96, ↓n_96, ↓g_87_18, ↓l_97, ↓s_97, ↓n_97, ↓g_87_19, ↓p_87_19, ↓g_87_20, ↓p_87_20, ↓g_87_21, ↓l_98, ↓s_98, ↓n_98, ↓g_87_22, ↓l_99, ↓s_99, ↓n_99, ↓g_87_23, ↓l_100, ↓s_100, ↓n_100, ↓g_87_24, ↓l_101, ↓s_101, ↓n_101, zk, lk, zv, m87]
        rw [zup_up, hd]
        have u1 : up1 (M 88) 2 (k : Int) 1 = M 88 1 := up1_ne (by omega)
        have bd : (2 : Nat) = 3 ∨ (0 ≤ (k : Int) ∧ (k : Int) ≤ ub 2) := Or.inr ⟨by omega, show (k : Int) ≤ 9 by omega⟩
        have gr := gpw_rng vd (k := 2) (v := k) (n := n) (by omega) (by omega) bd (by omega) (by omega)
        have zg : zr (gap (yrs (up1 (M 88) 2 (k : Int)) (-1) n.toNat)) = gpw (M 88) 2 k n := zr_of (by unfold gpw at gr; omega) (by unfold gpw at gr; omega)
        refine ⟨by omega, by omega, rm, Vd_up vd (by omega) bd, by omega, fun M2 h2 hM2 => ?_⟩
        obtain ⟨b1, b2, b3⟩ := bk_step (by omega) hd ha hM h2 hM2
        have nx := ih (k + 1) M2 (by omega) b1 b2 b3
        simp only [odw] at nx
        rw [zg]
        refine ⟨fun c => ?_, fun c => ?_⟩
        · rw [if_pos c] at nx; exact nx
        · rw [if_neg c] at nx; exact nx
    have J34 : ¬ (((0 ≤ n ∧ n ≤ 30) ∧ 0 ≤ v ∧ v ≤ 14) ∧ 0 ≤ p ∧ p ≤ 1) → X 34 [some (.inr (.inr (.inl 87))), some (.inl n), some (.inl v), some (.inl p), none, none] [] (zG, M) (0, 0) := by
      intro q
      refine bs_X11_odds_34 hX ?_
      simp only [bk_X11_odds_0, k_X11_odds_0, bk_X11_odds_12, k_X11_odds_12, bk_X11_odds_24, k_X11_odds_24, bk_X11_odds_34, k_X11_odds_34, bk_X11_odds_40, k_X11_odds_40, bk_X11_odds_50, k_X11_odds_50, bk_X11_odds_80, k_X11_odds_80, bk_X11_odds_81, k_X11_odds_81, bk_X11_odds_90, k_X11_odds_90, bk_X11_odds_99, k_X11_odds_99, bk_X11_odds_101, k_X11_odds_101, ↓e_rk1, ↓e_rk0, ↓e_sk0, ↓e_sks, ↓e_ldi0, ↓e_ldis, ↓e_ldl0, ↓e_ldls, ↓e_lda0, ↓e_ldas, ↓e_ok0, ↓e_okss, ↓e_ok1i, ↓e_ok1r, ↓e_ok1n, ↓e_sti, ↓e_sta, ↓e_1, ↓e_2, ↓e_l1, ↓e_l2, ↓e_li, ↓e_sw0, ↓e_sws, ↓e_ceq, ↓e_cne, ↓e_clt, ↓e_cge, ↓e_cgt, ↓e_cle, ↓e_nil, ↓e_cons, ↓e_iconst, ↓e_bipush, ↓e_sipush, ↓e_ldc, ↓e_ldcw, ↓e_ldc2, ↓e_lconst, ↓e_iloadn, ↓e_iload, ↓e_lloadn, ↓e_lload, ↓e_aloadn, ↓e_aload, ↓e_istoren, ↓e_istore, ↓e_astoren, ↓e_astore, ↓e_add, ↓e_iinc, ↓e_iadd, ↓e_isub, ↓e_imul, ↓e_iand, ↓e_ior, ↓e_ixor, ↓e_ishl, ↓e_iushr, ↓e_idiv, ↓e_irem, ↓e_ineg, ↓e_i2l, ↓e_i2b, ↓e_i2s, ↓e_l2i, ↓e_land, ↓e_lor, ↓e_lshl, ↓e_lshr, ↓e_lushr, ↓e_lcmp, ↓e_dupi, ↓e_dupr, ↓e_popi, ↓e_dup2, ↓e_goto, ↓e_if, ↓e_icmp, ↓e_tsw, ↓e_lsw, ↓e_getf, ↓e_putf, ↓e_gets, ↓e_iald, ↓e_cald, ↓e_iast, ↓e_aald, ↓e_aast, ↓e_len, ↓e_copy, ↓e_abs, ↓e_max, ↓e_min, ↓e_iret, ↓e_aret, ↓e_vret, ↓e_is0, ↓e_is1, ↓e_is2, ↓e_is3, ↓e_is4, ↓e_iv1, ↓e_iv2, ↓e_iv3, ↓e_iv4, ↓e_iv5, ↓e_iv6, ↓rt_X11_odds, ↓reduceIte, Nat.reduceAdd, Nat.reduceEqDiff, ↓zcl0, ↓zclv, List.map_nil, List.sum_nil, List.map_cons, List.sum_cons, zcat, true_and, and_true, Nat.reduceLeDiff, Nat.reduceAdd, eq_self, forall_const, e_ok0, e_okss, e_ok1i, e_ok1r, e_ok1n, zl_0, zl_1, zl_2, zl_10, zq_0, zq_1, zq_14, zq_30, Int.reduceToNat, Int.reduceAdd, Int.reduceMul, Int.reduceSub, Int.reduceNeg, Int.reduceLT, Int.reduceLE, Int.reduceEq, not_false_eq_true, not_true_eq_false, false_implies, true_implies, implies_true, Int.reduceDiv, Int.reduceMod, zr8_zr, zr_zbo, z01_zbo, z01_0, z01_1, zbo_eq0, zup_eq, zup_o, zup_k, ne_eq, ↓ct_odds_in, ↓r_in, ↓B_in, ↓ct_odds_keepAside, ↓r_keepAside, ↓B_keepAside, ↓ct_odds_apartBehind, ↓r_apartBehind, ↓B_apartBehind, ↓ct_odds_common, ↓r_common, ↓B_common, ↓ct_odds_finds, ↓r_finds, ↓B_finds, ↓v_87, ↓g_87_0, ↓l_88, ↓s_88, ↓n_88, ↓g_87_1, ↓l_89, ↓s_89, ↓n_89, ↓g_87_2, ↓l_90, ↓s_90, ↓n_90, ↓g_87_3, ↓p_87_3, ↓g_87_4, ↓l_91, ↓s_91, ↓n_91, ↓g_87_5, ↓p_87_5, ↓g_87_6, ↓p_87_6, ↓g_87_7, ↓p_87_7, ↓g_87_8, ↓p_87_8, ↓g_87_9, ↓p_87_9, ↓g_87_10, ↓p_87_10, ↓g_87_11, ↓l_92, ↓s_92, ↓n_92, ↓g_87_12, ↓l_93, ↓s_93, ↓n_93, ↓g_87_13, ↓p_87_13, ↓g_87_14, ↓l_94, ↓s_94, ↓n_94, ↓g_87_15, ↓p_87_15, ↓g_87_16, ↓l_95, ↓s_95, ↓n_95, ↓g_87_17, ↓l_96, ↓s_96, ↓n_96, ↓g_87_18, ↓l_97, ↓s_97, ↓n_97, ↓g_87_19, ↓p_87_19, ↓g_87_20, ↓p_87_20, ↓g_87_21, ↓l_98, ↓s_98, ↓n_98, ↓g_87_22, ↓l_99, ↓s_99, ↓n_99, ↓g_87_23, ↓l_100, ↓s_100, ↓n_100, ↓g_87_24, ↓l_101, ↓s_101, ↓n_101]
      exact pub_no hC (by unfold R_odds; rw [if_neg q]) rfl
    have J40 : (((0 ≤ n ∧ n ≤ 30) ∧ 0 ≤ v ∧ v ≤ 14) ∧ 0 ≤ p ∧ p ≤ 1) → X 40 [some (.inr (.inr (.inl 87))), some (.inl n), some (.inl v), some (.inl p), none, none] [] (zG, M) (0, 0) := by
      intro q
      refine bs_X11_odds_40 hX ?_
      simp only [bk_X11_odds_0, k_X11_odds_0, bk_X11_odds_12, k_X11_odds_12, bk_X11_odds_24, k_X11_odds_24, bk_X11_odds_34, k_X11_odds_34, bk_X11_odds_40, k_X11_odds_40, bk_X11_odds_50, k_X11_odds_50, bk_X11_odds_80, k_X11_odds_80, bk_X11_odds_81, k_X11_odds_81, bk_X11_odds_90, k_X11_odds_90, bk_X11_odds_99, k_X11_odds_99, bk_X11_odds_101, k_X11_odds_101, ↓e_rk1, ↓e_rk0, ↓e_sk0, ↓e_sks, ↓e_ldi0, ↓e_ldis, ↓e_ldl0, ↓e_ldls, ↓e_lda0, ↓e_ldas, ↓e_ok0, ↓e_okss, ↓e_ok1i, ↓e_ok1r, ↓e_ok1n, ↓e_sti, ↓e_sta, ↓e_1, ↓e_2, ↓e_l1, ↓e_l2, ↓e_li, ↓e_sw0, ↓e_sws, ↓e_ceq, ↓e_cne, ↓e_clt, ↓e_cge, ↓e_cgt, ↓e_cle, ↓e_nil, ↓e_cons, ↓e_iconst, ↓e_bipush, ↓e_sipush, ↓e_ldc, ↓e_ldcw, ↓e_ldc2, ↓e_lconst, ↓e_iloadn, ↓e_iload, ↓e_lloadn, ↓e_lload, ↓e_aloadn, ↓e_aload, ↓e_istoren, ↓e_istore, ↓e_astoren, ↓e_astore, ↓e_add, ↓e_iinc, ↓e_iadd, ↓e_isub, ↓e_imul, ↓e_iand, ↓e_ior, ↓e_ixor, ↓e_ishl, ↓e_iushr, ↓e_idiv, ↓e_irem, ↓e_ineg, ↓e_i2l, ↓e_i2b, ↓e_i2s, ↓e_l2i, ↓e_land, ↓e_lor, ↓e_lshl, ↓e_lshr, ↓e_lushr, ↓e_lcmp, ↓e_dupi, ↓e_dupr, ↓e_popi, ↓e_dup2, ↓e_goto, ↓e_if, ↓e_icmp, ↓e_tsw, ↓e_lsw, ↓e_getf, ↓e_putf, ↓e_gets, ↓e_iald, ↓e_cald, ↓e_iast, ↓e_aald, ↓e_aast, ↓e_len, ↓e_copy, ↓e_abs, ↓e_max, ↓e_min, ↓e_iret, ↓e_aret, ↓e_vret, ↓e_is0, ↓e_is1, ↓e_is2, ↓e_is3, ↓e_is4, ↓e_iv1, ↓e_iv2, ↓e_iv3, ↓e_iv4, ↓e_iv5, ↓e_iv6, ↓rt_X11_odds, ↓reduceIte, Nat.reduceAdd, Nat.reduceEqDiff, ↓zcl0, ↓zclv, List.map_nil, List.sum_nil, List.map_cons, List.sum_cons, zcat, true_and, and_true, Nat.reduceLeDiff, Nat.reduceAdd, eq_self, forall_const, e_ok0, e_okss, e_ok1i, e_ok1r, e_ok1n, zl_0, zl_1, zl_2, zl_10, zq_0, zq_1, zq_14, zq_30, Int.reduceToNat, Int.reduceAdd, Int.reduceMul, Int.reduceSub, Int.reduceNeg, Int.reduceLT, Int.reduceLE, Int.reduceEq, not_false_eq_true, not_true_eq_false, false_implies, true_implies, implies_true, Int.reduceDiv, Int.reduceMod, zr8_zr, zr_zbo, z01_zbo, z01_0, z01_1, zbo_eq0, zup_eq, zup_o, zup_k, ne_eq, ↓ct_odds_in, ↓r_in, ↓B_in, ↓ct_odds_keepAside, ↓r_keepAside, ↓B_keepAside, ↓ct_odds_apartBehind, ↓r_apartBehind, ↓B_apartBehind, ↓ct_odds_common, ↓r_common, ↓B_common, ↓ct_odds_finds, ↓r_finds, ↓B_finds, ↓v_87, ↓g_87_0, ↓l_88, ↓s_88, ↓n_88, ↓g_87_1, ↓l_89, ↓s_89, ↓n_89, ↓g_87_2, ↓l_90, ↓s_90, ↓n_90, ↓g_87_3, ↓p_87_3, ↓g_87_4, ↓l_91, ↓s_91, ↓n_91, ↓g_87_5, ↓p_87_5, ↓g_87_6, ↓p_87_6, ↓g_87_7, ↓p_87_7, ↓g_87_8, ↓p_87_8, ↓g_87_9, ↓p_87_9, ↓g_87_10, ↓p_87_10, ↓g_87_11, ↓l_92, ↓s_92, ↓n_92, ↓g_87_12, ↓l_93, ↓s_93, ↓n_93, ↓g_87_13, ↓p_87_13, ↓g_87_14, ↓l_94, ↓s_94, ↓n_94, ↓g_87_15, ↓p_87_15, ↓g_87_16, ↓l_95, ↓s_95, ↓n_95, ↓g_87_17, ↓l_96, ↓s_96, ↓n_96, ↓g_87_18, ↓l_97, ↓s_97, ↓n_97, ↓g_87_19, ↓p_87_19, ↓g_87_20, ↓p_87_20, ↓g_87_21, ↓l_98, ↓s_98, ↓n_98, ↓g_87_22, ↓l_99, ↓s_99, ↓n_99, ↓g_87_23, ↓l_100, ↓s_100, ↓n_100, ↓g_87_24, ↓l_101, ↓s_101, ↓n_101]
      exact fun M1 hk1 hM1 => lp q 10 0 M1 (by omega) (hM1 88 (by decide)) hk1 (fun x _ q _ _ => hM1 x q)
    have J24 : (0 ≤ n ∧ n ≤ 30) ∧ 0 ≤ v ∧ v ≤ 14 → X 24 [some (.inr (.inr (.inl 87))), some (.inl n), some (.inl v), some (.inl p), none, none] [] (zG, M) (0, 0) := by
      intro q
      refine bs_X11_odds_24 hX ?_
      simp only [bk_X11_odds_0, k_X11_odds_0, bk_X11_odds_12, k_X11_odds_12, bk_X11_odds_24, k_X11_odds_24, bk_X11_odds_34, k_X11_odds_34, bk_X11_odds_40, k_X11_odds_40, bk_X11_odds_50, k_X11_odds_50, bk_X11_odds_80, k_X11_odds_80, bk_X11_odds_81, k_X11_odds_81, bk_X11_odds_90, k_X11_odds_90, bk_X11_odds_99, k_X11_odds_99, bk_X11_odds_101, k_X11_odds_101, ↓e_rk1, ↓e_rk0, ↓e_sk0, ↓e_sks, ↓e_ldi0, ↓e_ldis, ↓e_ldl0, ↓e_ldls, ↓e_lda0, ↓e_ldas, ↓e_ok0, ↓e_okss, ↓e_ok1i, ↓e_ok1r, ↓e_ok1n, ↓e_sti, ↓e_sta, ↓e_1, ↓e_2, ↓e_l1, ↓e_l2, ↓e_li, ↓e_sw0, ↓e_sws, ↓e_ceq, ↓e_cne, ↓e_clt, ↓e_cge, ↓e_cgt, ↓e_cle, ↓e_nil, ↓e_cons, ↓e_iconst, ↓e_bipush, ↓e_sipush, ↓e_ldc, ↓e_ldcw, ↓e_ldc2, ↓e_lconst, ↓e_iloadn, ↓e_iload, ↓e_lloadn, ↓e_lload, ↓e_aloadn, ↓e_aload, ↓e_istoren, ↓e_istore, ↓e_astoren, ↓e_astore, ↓e_add, ↓e_iinc, ↓e_iadd, ↓e_isub, ↓e_imul, ↓e_iand, ↓e_ior, ↓e_ixor, ↓e_ishl, ↓e_iushr, ↓e_idiv, ↓e_irem, ↓e_ineg, ↓e_i2l, ↓e_i2b, ↓e_i2s, ↓e_l2i, ↓e_land, ↓e_lor, ↓e_lshl, ↓e_lshr, ↓e_lushr, ↓e_lcmp, ↓e_dupi, ↓e_dupr, ↓e_popi, ↓e_dup2, ↓e_goto, ↓e_if, ↓e_icmp, ↓e_tsw, ↓e_lsw, ↓e_getf, ↓e_putf, ↓e_gets, ↓e_iald, ↓e_cald, ↓e_iast, ↓e_aald, ↓e_aast, ↓e_len, ↓e_copy, ↓e_abs, ↓e_max, ↓e_min, ↓e_iret, ↓e_aret, ↓e_vret, ↓e_is0, ↓e_is1, ↓e_is2, ↓e_is3, ↓e_is4, ↓e_iv1, ↓e_iv2, ↓e_iv3, ↓e_iv4, ↓e_iv5, ↓e_iv6, ↓rt_X11_odds, ↓reduceIte, Nat.reduceAdd, Nat.reduceEqDiff, ↓zcl0, ↓zclv, List.map_nil, List.sum_nil, List.map_cons, List.sum_cons, zcat, true_and, and_true, Nat.reduceLeDiff, Nat.reduceAdd, eq_self, forall_const, e_ok0, e_okss, e_ok1i, e_ok1r, e_ok1n, zl_0, zl_1, zl_2, zl_10, zq_0, zq_1, zq_14, zq_30, Int.reduceToNat, Int.reduceAdd, Int.reduceMul, Int.reduceSub, Int.reduceNeg, Int.reduceLT, Int.reduceLE, Int.reduceEq, not_false_eq_true, not_true_eq_false, false_implies, true_implies, implies_true, Int.reduceDiv, Int.reduceMod, zr8_zr, zr_zbo, z01_zbo, z01_0, z01_1, zbo_eq0, zup_eq, zup_o, zup_k, ne_eq, ↓ct_odds_in, ↓r_in, ↓B_in, ↓ct_odds_keepAside, ↓r_keepAside, ↓B_keepAside, ↓ct_odds_apartBehind, ↓r_apartBehind, ↓B_apartBehind, ↓ct_odds_common, ↓r_common, ↓B_common, ↓ct_odds_finds, ↓r_finds, ↓B_finds, ↓v_87, ↓g_87_0, ↓l_88, ↓s_88, ↓n_88, ↓g_87_1, ↓l_89, ↓s_89, ↓n_89, ↓g_87_2, ↓l_90, ↓s_90, ↓n_90, ↓g_87_3, ↓p_87_3, ↓g_87_4, ↓l_91, ↓s_91, ↓n_91, ↓g_87_5, ↓p_87_5, ↓g_87_6, ↓p_87_6, ↓g_87_7, ↓p_87_7, ↓g_87_8, ↓p_87_8, ↓g_87_9, ↓p_87_9, ↓g_87_10, ↓p_87_10, ↓g_87_11, ↓l_92, ↓s_92, ↓n_92, ↓g_87_12, ↓l_93, ↓s_93, ↓n_93, ↓g_87_13, ↓p_87_13, ↓g_87_14, ↓l_94, ↓s_94, ↓n_94, ↓g_87_15, ↓p_87_15, ↓g_87_16, ↓l_95, ↓s_95, ↓n_95, ↓g_87_17, ↓l_96, ↓s_96, ↓n_96, ↓g_87_18, ↓l_97, ↓s_97, ↓n_97, ↓g_87_19, ↓p_87_19, ↓g_87_20, ↓p_87_20, ↓g_87_21, ↓l_98, ↓s_98, ↓n_98, ↓g_87_22, ↓l_99, ↓s_99, ↓n_99, ↓g_87_23, ↓l_100, ↓s_100, ↓n_100, ↓g_87_24, ↓l_101, ↓s_101, ↓n_101, zr_rg, h3, zr8_rg, h3, zr8_zr, zr_zbo, zbo_eq0]
      exact ⟨fun c3 => J34 (by omega), fun c3 => J40 (by omega)⟩
    have J12 : (0 ≤ n ∧ n ≤ 30) → X 12 [some (.inr (.inr (.inl 87))), some (.inl n), some (.inl v), some (.inl p), none, none] [] (zG, M) (0, 0) := by
      intro q
      refine bs_X11_odds_12 hX ?_
      simp only [bk_X11_odds_0, k_X11_odds_0, bk_X11_odds_12, k_X11_odds_12, bk_X11_odds_24, k_X11_odds_24, bk_X11_odds_34, k_X11_odds_34, bk_X11_odds_40, k_X11_odds_40, bk_X11_odds_50, k_X11_odds_50, bk_X11_odds_80, k_X11_odds_80, bk_X11_odds_81, k_X11_odds_81, bk_X11_odds_90, k_X11_odds_90, bk_X11_odds_99, k_X11_odds_99, bk_X11_odds_101, k_X11_odds_101, ↓e_rk1, ↓e_rk0, ↓e_sk0, ↓e_sks, ↓e_ldi0, ↓e_ldis, ↓e_ldl0, ↓e_ldls, ↓e_lda0, ↓e_ldas, ↓e_ok0, ↓e_okss, ↓e_ok1i, ↓e_ok1r, ↓e_ok1n, ↓e_sti, ↓e_sta, ↓e_1, ↓e_2, ↓e_l1, ↓e_l2, ↓e_li, ↓e_sw0, ↓e_sws, ↓e_ceq, ↓e_cne, ↓e_clt, ↓e_cge, ↓e_cgt, ↓e_cle, ↓e_nil, ↓e_cons, ↓e_iconst, ↓e_bipush, ↓e_sipush, ↓e_ldc, ↓e_ldcw, ↓e_ldc2, ↓e_lconst, ↓e_iloadn, ↓e_iload, ↓e_lloadn, ↓e_lload, ↓e_aloadn, ↓e_aload, ↓e_istoren, ↓e_istore, ↓e_astoren, ↓e_astore, ↓e_add, ↓e_iinc, ↓e_iadd, ↓e_isub, ↓e_imul, ↓e_iand, ↓e_ior, ↓e_ixor, ↓e_ishl, ↓e_iushr, ↓e_idiv, ↓e_irem, ↓e_ineg, ↓e_i2l, ↓e_i2b, ↓e_i2s, ↓e_l2i, ↓e_land, ↓e_lor, ↓e_lshl, ↓e_lshr, ↓e_lushr, ↓e_lcmp, ↓e_dupi, ↓e_dupr, ↓e_popi, ↓e_dup2, ↓e_goto, ↓e_if, ↓e_icmp, ↓e_tsw, ↓e_lsw, ↓e_getf, ↓e_putf, ↓e_gets, ↓e_iald, ↓e_cald, ↓e_iast, ↓e_aald, ↓e_aast, ↓e_len, ↓e_copy, ↓e_abs, ↓e_max, ↓e_min, ↓e_iret, ↓e_aret, ↓e_vret, ↓e_is0, ↓e_is1, ↓e_is2, ↓e_is3, ↓e_is4, ↓e_iv1, ↓e_iv2, ↓e_iv3, ↓e_iv4, ↓e_iv5, ↓e_iv6, ↓rt_X11_odds, ↓reduceIte, Nat.reduceAdd, Nat.reduceEqDiff, ↓zcl0, ↓zclv, List.map_nil, List.sum_nil, List.map_cons, List.sum_cons, zcat, true_and, and_true, Nat.reduceLeDiff, Nat.reduceAdd, eq_self, forall_const, e_ok0, e_okss, e_ok1i, e_ok1r, e_ok1n, zl_0, zl_1, zl_2, zl_10, zq_0, zq_1, zq_14, zq_30, Int.reduceToNat, Int.reduceAdd, Int.reduceMul, Int.reduceSub, Int.reduceNeg, Int.reduceLT, Int.reduceLE, Int.reduceEq, not_false_eq_true, not_true_eq_false, false_implies, true_implies, implies_true, Int.reduceDiv, Int.reduceMod, zr8_zr, zr_zbo, z01_zbo, z01_0, z01_1, zbo_eq0, zup_eq, zup_o, zup_k, ne_eq, ↓ct_odds_in, ↓r_in, ↓B_in, ↓ct_odds_keepAside, ↓r_keepAside, ↓B_keepAside, ↓ct_odds_apartBehind, ↓r_apartBehind, ↓B_apartBehind, ↓ct_odds_common, ↓r_common, ↓B_common, ↓ct_odds_finds, ↓r_finds, ↓B_finds, ↓v_87, ↓g_87_0, ↓l_88, ↓s_88, ↓n_88, ↓g_87_1, ↓l_89, ↓s_89, ↓n_89, ↓g_87_2, ↓l_90, ↓s_90, ↓n_90, ↓g_87_3, ↓p_87_3, ↓g_87_4, ↓l_91, ↓s_91, ↓n_91, ↓g_87_5, ↓p_87_5, ↓g_87_6, ↓p_87_6, ↓g_87_7, ↓p_87_7, ↓g_87_8, ↓p_87_8, ↓g_87_9, ↓p_87_9, ↓g_87_10, ↓p_87_10, ↓g_87_11, ↓l_92, ↓s_92, ↓n_92, ↓g_87_12, ↓l_93, ↓s_93, ↓n_93, ↓g_87_13, ↓p_87_13, ↓g_87_14, ↓l_94, ↓s_94, ↓n_94, ↓g_87_15, ↓p_87_15, ↓g_87_16, ↓l_95, ↓s_95, ↓n_95, ↓g_87_17, ↓l_96, ↓s_96, ↓n_96, ↓g_87_18, ↓l_97, ↓s_97, ↓n_97, ↓g_87_19, ↓p_87_19, ↓g_87_20, ↓p_87_20, ↓g_87_21, ↓l_98, ↓s_98, ↓n_98, ↓g_87_22, ↓l_99, ↓s_99, ↓n_99, ↓g_87_23, ↓l_100, ↓s_100, ↓n_100, ↓g_87_24, ↓l_101, ↓s_101, ↓n_101, zr_rg, h2, zr8_rg, h2, zr8_zr, zr_zbo, zbo_eq0]
      exact ⟨fun c3 => J34 (by omega), fun c3 => J24 (by omega)⟩
    simp only [bk_X11_odds_0, k_X11_odds_0, bk_X11_odds_12, k_X11_odds_12, bk_X11_odds_24, k_X11_odds_24, bk_X11_odds_34, k_X11_odds_34, bk_X11_odds_40, k_X11_odds_40, bk_X11_odds_50, k_X11_odds_50, bk_X11_odds_80, k_X11_odds_80, bk_X11_odds_81, k_X11_odds_81, bk_X11_odds_90, k_X11_odds_90, bk_X11_odds_99, k_X11_odds_99, bk_X11_odds_101, k_X11_odds_101, ↓e_rk1, ↓e_rk0, ↓e_sk0, ↓e_sks, ↓e_ldi0, ↓e_ldis, ↓e_ldl0, ↓e_ldls, ↓e_lda0, ↓e_ldas, ↓e_ok0, ↓e_okss, ↓e_ok1i, ↓e_ok1r, ↓e_ok1n, ↓e_sti, ↓e_sta, ↓e_1, ↓e_2, ↓e_l1, ↓e_l2, ↓e_li, ↓e_sw0, ↓e_sws, ↓e_ceq, ↓e_cne, ↓e_clt, ↓e_cge, ↓e_cgt, ↓e_cle, ↓e_nil, ↓e_cons, ↓e_iconst, ↓e_bipush, ↓e_sipush, ↓e_ldc, ↓e_ldcw, ↓e_ldc2, ↓e_lconst, ↓e_iloadn, ↓e_iload, ↓e_lloadn, ↓e_lload, ↓e_aloadn, ↓e_aload, ↓e_istoren, ↓e_istore, ↓e_astoren, ↓e_astore, ↓e_add, ↓e_iinc, ↓e_iadd, ↓e_isub, ↓e_imul, ↓e_iand, ↓e_ior, ↓e_ixor, ↓e_ishl, ↓e_iushr, ↓e_idiv, ↓e_irem, ↓e_ineg, ↓e_i2l, ↓e_i2b, ↓e_i2s, ↓e_l2i, ↓e_land, ↓e_lor, ↓e_lshl, ↓e_lshr, ↓e_lushr, ↓e_lcmp, ↓e_dupi, ↓e_dupr, ↓e_popi, ↓e_dup2, ↓e_goto, ↓e_if, ↓e_icmp, ↓e_tsw, ↓e_lsw, ↓e_getf, ↓e_putf, ↓e_gets, ↓e_iald, ↓e_cald, ↓e_iast, ↓e_aald, ↓e_aast, ↓e_len, ↓e_copy, ↓e_abs, ↓e_max, ↓e_min, ↓e_iret, ↓e_aret, ↓e_vret, ↓e_is0, ↓e_is1, ↓e_is2, ↓e_is3, ↓e_is4, ↓e_iv1, ↓e_iv2, ↓e_iv3, ↓e_iv4, ↓e_iv5, ↓e_iv6, ↓rt_X11_odds, ↓reduceIte, Nat.reduceAdd, Nat.reduceEqDiff, ↓zcl0, ↓zclv, List.map_nil, List.sum_nil, List.map_cons, List.sum_cons, zcat, true_and, and_true, Nat.reduceLeDiff, Nat.reduceAdd, eq_self, forall_const, e_ok0, e_okss, e_ok1i, e_ok1r, e_ok1n, zl_0, zl_1, zl_2, zl_10, zq_0, zq_1, zq_14, zq_30, Int.reduceToNat, Int.reduceAdd, Int.reduceMul, Int.reduceSub, Int.reduceNeg, Int.reduceLT, Int.reduceLE, Int.reduceEq, not_false_eq_true, not_true_eq_false, false_implies, true_implies, implies_true, Int.reduceDiv, Int.reduceMod, zr8_zr, zr_zbo, z01_zbo, z01_0, z01_1, zbo_eq0, zup_eq, zup_o, zup_k, ne_eq, ↓ct_odds_in, ↓r_in, ↓B_in, ↓ct_odds_keepAside, ↓r_keepAside, ↓B_keepAside, ↓ct_odds_apartBehind, ↓r_apartBehind, ↓B_apartBehind, ↓ct_odds_common, ↓r_common, ↓B_common, ↓ct_odds_finds, ↓r_finds, ↓B_finds, ↓v_87, ↓g_87_0, ↓l_88, ↓s_88, ↓n_88, ↓g_87_1, ↓l_89, ↓s_89, ↓n_89, ↓g_87_2, ↓l_90, ↓s_90, ↓n_90, ↓g_87_3, ↓p_87_3, ↓g_87_4, ↓l_91, ↓s_91, ↓n_91, ↓g_87_5, ↓p_87_5, ↓g_87_6, ↓p_87_6, ↓g_87_7, ↓p_87_7, ↓g_87_8, ↓p_87_8, ↓g_87_9, ↓p_87_9, ↓g_87_10, ↓p_87_10, ↓g_87_11, ↓l_92, ↓s_92, ↓n_92, ↓g_87_12, ↓l_93, ↓s_93, ↓n_93, ↓g_87_13, ↓p_87_13, ↓g_87_14, ↓l_94, ↓s_94, ↓n_94, ↓g_87_15, ↓p_87_15, ↓g_87_16, ↓l_95, ↓s_95, ↓n_95, ↓g_87_17, ↓l_96, ↓s_96, ↓n_96, ↓g_87_18, ↓l_97, ↓s_97, ↓n_97, ↓g_87_19, ↓p_87_19, ↓g_87_20, ↓p_87_20, ↓g_87_21, ↓l_98, ↓s_98, ↓n_98, ↓g_87_22, ↓l_99, ↓s_99, ↓n_99, ↓g_87_23, ↓l_100, ↓s_100, ↓n_100, ↓g_87_24, ↓l_101, ↓s_101, ↓n_101, zr_rg, h1, zr8_rg, h1, zr8_zr, zr_zbo, zbo_eq0]
    exact ⟨fun c3 => J34 (by omega), fun c3 => J12 (by omega)⟩
