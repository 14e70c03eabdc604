/-! THE REFERENCE: what a call answers, and what it leaves -/
def kpt (x k : Nat) : Bool := x == 88 || x == 89 || x == 91 || x == 97 || x == 98 || x == 99 || x == 100 || (x == 87 && (k == 3 || k == 19 || k == 20))
/-- what of the memory later calls can see, rows as in the memory -/
def st (M : ZMm) : ZMm := fun x k => if kpt x k then M x k else 0
theorem st88 (M : ZMm) : st M 88 = M 88 := rfl
theorem st89 (M : ZMm) : st M 89 = M 89 := rfl
theorem st91 (M : ZMm) : st M 91 = M 91 := rfl
theorem st97 (M : ZMm) : st M 97 = M 97 := rfl
theorem st98 (M : ZMm) : st M 98 = M 98 := rfl
theorem st99 (M : ZMm) : st M 99 = M 99 := rfl
theorem st100 (M : ZMm) : st M 100 = M 100 := rfl
theorem st_up {M : ZMm} {x k : Nat} {v : Int} (h : kpt x k = true) : st (zup M x k v) = zup (st M) x k v := by
  funext y j
  by_cases q : y = x ∧ j = k
  · obtain ⟨q1, q2⟩ := q
    subst q1; subst q2
    simp [st, zup, h]
  · simp [st, zup, q]
theorem st_no {M : ZMm} {x k : Nat} {v : Int} (h : kpt x k = false) : st (zup M x k v) = st M := by
  funext y j
  by_cases q : y = x ∧ j = k
  · obtain ⟨q1, q2⟩ := q
    subst q1; subst q2
    simp [st, h]
  · simp [st, zup, q]
def no (S : ZMm) (k : Nat) : Int × ZMm := (-1000000000 - (k : Int), zup S 91 k (S 91 k + 1))
def Vs (S : ZMm) : Prop := Vd (S 88) ∧ S 88 1 ≤ 9999 ∧ (¬ S 87 3 = 0 → Vd (S 89) ∧ S 89 1 ≤ 9999) ∧ (0 ≤ S 87 3 ∧ S 87 3 ≤ 4000) ∧ (0 ≤ S 87 19 ∧ S 87 19 ≤ 40) ∧ (∀ k, k < 4 → (S 98 k = 0 ∨ S 98 k = 8 ∨ S 98 k = 16 ∨ S 98 k = 32) ∧ 0 ≤ S 99 k ∧ S 99 k ≤ 40) ∧ (∀ k, rg (S 100 k)) ∧ (∀ k, 188 ≤ k → k < 208 → rg (S 88 k)) ∧ (∀ k, 188 ≤ k → k < 208 → rg (S 89 k)) ∧ (0 ≤ S 87 20 ∧ S 87 20 ≤ 7) ∧ (∀ k, 308 ≤ k → k < 358 → rg (S 88 k)) ∧ (∀ k, 308 ≤ k → k < 358 → rg (S 89 k))
def pub (M : ZMm) (R : Int × ZMm) (post : Option ZV → ZMm → Prop) : Prop := Vs (st M) ∧ M 87 15 = -1 ∧ ∀ M' : ZMm, st M' = R.2 → M' 87 15 = -1 → (∀ x, x < 87 → M' x = M x) → post (some (.inl R.1)) M'
theorem pub_of {M : ZMm} {R : Int × ZMm} {post : Option ZV → ZMm → Prop} (h : pub M R post) {a : Int} {M' : ZMm} (e : R = (a, st M')) (e2 : M' 87 15 = M 87 15) (e3 : ∀ x, x < 87 → M' x = M x) : post (some (.inl a)) M' := by
  subst e
  exact h.2.2 M' rfl (e2.trans h.2.1) e3
theorem pub_no {M : ZMm} {R : Int × ZMm} {post : Option ZV → ZMm → Prop} (h : pub M R post) {k : Nat} {a : Int} (e : R = no (st M) k) (ea : a = -1000000000 - (k : Int)) : post (some (.inl a)) (zup M 91 k (M 91 k + 1)) := by
  subst ea
  refine pub_of h ?_ (by rw [zup_ne _ (by decide)]) (fun x q => by rw [zup_ne _ (by omega)])
  rw [e, st_up rfl]
  rfl
theorem pub_id {M : ZMm} {R : Int × ZMm} {post : Option ZV → ZMm → Prop} (h : pub M R post) {a : Int} (e : R = (a, st M)) : post (some (.inl a)) M := pub_of h e rfl (fun _ _ => rfl)
theorem pub_sd {M : ZMm} {R : Int × ZMm} {post : Option ZV → ZMm → Prop} (h : pub M R post) {a : Int} {k : Nat} {v : Int} (e : R = (a, zup (st M) 88 k v)) : post (some (.inl a)) (zup M 88 k v) := pub_of h (by rw [e, st_up rfl]) (by rw [zup_ne _ (by decide)]) (fun x q => by rw [zup_ne _ (by omega)])
def k_X11_isKm_0 : List ZI := [(.iload_n 0, 1, (0, [0], [])), (.i2l, 1, (0, [], [])), (.lconst 0, 1, (0, [], [])), (.ldc2_w 225, 3, (69, [], [])), (.invokestatic 61, 3, (0, [120, 3, 0, 11], [])), (.ireturn, 1, (0, [], []))]
theorem ok_X11_isKm_0 : zOK cX11_isKm 11 false 1 k_X11_isKm_0 0 = true := zOK_by (by decide +kernel)
theorem rt_X11_isKm {g : Nat} {post : Option ZV → ZH → Prop} {h : ZH} {b : ZB2} {z : Int} : zRt mX11_isKm g post (some (.inl z)) h b = (post (some (.inl z)) h ∧ h.1.length = g ∧ z01 z) := rfl
def bk_X11_isKm_0 (E : ZE) (CT : Nat → ZC) (X : ZK) (Rt : ZR) (ls : ZL) (st : List ZV) (h : ZH) (b : ZB2) : Prop := zB E CT k_X11_isKm_0 0 ls st h b (fun t ls st h b => X t ls st h b) Rt
theorem bs_X11_isKm_0 {E : ZE} {CT : Nat → ZC} {X : ZK} {Rt : ZR} {ls : ZL} {st : List ZV} {h : ZH} {b : ZB2} (hX : zCl E mX11_isKm 11 false CT Rt X) (q : bk_X11_isKm_0 E CT X Rt ls st h b) : X 0 ls st h b := by
  refine hX k_X11_isKm_0 0 ok_X11_isKm_0 _ ?_ ls st h b q
  exact fun t ls st h b q => q
-- X11_isKm: cuts []
def k_X11_headsAt_0 : List ZI := [(.aload_n 0, 1, (0, [0], [])), (.iconst 0, 1, (0, [], [])), (.iconst 0, 1, (0, [], [])), (.invokevirtual 161, 3, (0, [127, 3, 0, 11], [])), (.iload_n 1, 1, (0, [1], [])), (.if_icmp .ne 7, 3, (0, [14], [])), (.iconst 1, 1, (0, [], [])), (.goto 4, 3, (0, [15], []))]
theorem ok_X11_headsAt_0 : zOK cX11_headsAt 11 false 2 k_X11_headsAt_0 0 = true := zOK_by (by decide +kernel)
def k_X11_headsAt_14 : List ZI := [(.iconst 0, 1, (0, [], []))]
theorem ok_X11_headsAt_14 : zOK cX11_headsAt 11 false 2 k_X11_headsAt_14 14 = true := zOK_by (by decide +kernel)
def k_X11_headsAt_15 : List ZI := [(.aload_n 0, 1, (0, [0], [])), (.iconst 1, 1, (0, [], [])), (.iconst 0, 1, (0, [], [])), (.invokevirtual 161, 3, (0, [127, 3, 0, 11], [])), (.iload_n 1, 1, (0, [1], [])), (.if_icmp .ne 7, 3, (0, [29], [])), (.iconst 2, 1, (0, [], [])), (.goto 4, 3, (0, [30], []))]
theorem ok_X11_headsAt_15 : zOK cX11_headsAt 11 false 2 k_X11_headsAt_15 15 = true := zOK_by (by decide +kernel)
def k_X11_headsAt_29 : List ZI := [(.iconst 0, 1, (0, [], []))]
theorem ok_X11_headsAt_29 : zOK cX11_headsAt 11 false 2 k_X11_headsAt_29 29 = true := zOK_by (by decide +kernel)
def k_X11_headsAt_30 : List ZI := [(.iadd, 1, (0, [], [])), (.ireturn, 1, (0, [], []))]
theorem ok_X11_headsAt_30 : zOK cX11_headsAt 11 false 2 k_X11_headsAt_30 30 = true := zOK_by (by decide +kernel)
theorem rt_X11_headsAt {g : Nat} {post : Option ZV → ZH → Prop} {h : ZH} {b : ZB2} {z : Int} : zRt mX11_headsAt g post (some (.inl z)) h b = (post (some (.inl z)) h ∧ h.1.length = g) := by show (_ ∧ _ ∧ True) = _; simp
def bk_X11_headsAt_30 (E : ZE) (CT : Nat → ZC) (X : ZK) (Rt : ZR) (ls : ZL) (st : List ZV) (h : ZH) (b : ZB2) : Prop := zB E CT k_X11_headsAt_30 30 ls st h b (fun t ls st h b => X t ls st h b) Rt
theorem bs_X11_headsAt_30 {E : ZE} {CT : Nat → ZC} {X : ZK} {Rt : ZR} {ls : ZL} {st : List ZV} {h : ZH} {b : ZB2} (hX : zCl E mX11_headsAt 11 false CT Rt X) (q : bk_X11_headsAt_30 E CT X Rt ls st h b) : X 30 ls st h b := by
  refine hX k_X11_headsAt_30 30 ok_X11_headsAt_30 _ ?_ ls st h b q
  exact fun t ls st h b q => q
def bk_X11_headsAt_29 (E : ZE) (CT : Nat → ZC) (X : ZK) (Rt : ZR) (ls : ZL) (st : List ZV) (h : ZH) (b : ZB2) : Prop := zB E CT k_X11_headsAt_29 29 ls st h b (fun t ls st h b => if t = 30 then bk_X11_headsAt_30 E CT X Rt ls st h b else X t ls st h b) Rt
theorem bs_X11_headsAt_29 {E : ZE} {CT : Nat → ZC} {X : ZK} {Rt : ZR} {ls : ZL} {st : List ZV} {h : ZH} {b : ZB2} (hX : zCl E mX11_headsAt 11 false CT Rt X) (q : bk_X11_headsAt_29 E CT X Rt ls st h b) : X 29 ls st h b := by
  refine hX k_X11_headsAt_29 29 ok_X11_headsAt_29 _ ?_ ls st h b q
  exact by
    intro t ls st h b q
    by_cases c : t = 30
    · subst c; rw [if_pos rfl] at q; exact bs_X11_headsAt_30 hX q
    rw [if_neg c] at q
    exact q
def bk_X11_headsAt_15 (E : ZE) (CT : Nat → ZC) (X : ZK) (Rt : ZR) (ls : ZL) (st : List ZV) (h : ZH) (b : ZB2) : Prop := zB E CT k_X11_headsAt_15 15 ls st h b (fun t ls st h b => if t = 29 then bk_X11_headsAt_29 E CT X Rt ls st h b else if t = 30 then bk_X11_headsAt_30 E CT X Rt ls st h b else X t ls st h b) Rt
theorem bs_X11_headsAt_15 {E : ZE} {CT : Nat → ZC} {X : ZK} {Rt : ZR} {ls : ZL} {st : List ZV} {h : ZH} {b : ZB2} (hX : zCl E mX11_headsAt 11 false CT Rt X) (q : bk_X11_headsAt_15 E CT X Rt ls st h b) : X 15 ls st h b := by
  refine hX k_X11_headsAt_15 15 ok_X11_headsAt_15 _ ?_ ls st h b q
  exact by
    intro t ls st h b q
    by_cases c : t = 29
    · subst c; rw [if_pos rfl] at q; exact bs_X11_headsAt_29 hX q
    rw [if_neg c] at q
    by_cases c : t = 30
    · subst c; rw [if_pos rfl] at q; exact bs_X11_headsAt_30 hX q
    rw [if_neg c] at q
    exact q
def bk_X11_headsAt_14 (E : ZE) (CT : Nat → ZC) (X : ZK) (Rt : ZR) (ls : ZL) (st : List ZV) (h : ZH) (b : ZB2) : Prop := zB E CT k_X11_headsAt_14 14 ls st h b (fun t ls st h b => if t = 15 then bk_X11_headsAt_15 E CT X Rt ls st h b else X t ls st h b) Rt
theorem bs_X11_headsAt_14 {E : ZE} {CT : Nat → ZC} {X : ZK} {Rt : ZR} {ls : ZL} {st : List ZV} {h : ZH} {b : ZB2} (hX : zCl E mX11_headsAt 11 false CT Rt X) (q : bk_X11_headsAt_14 E CT X Rt ls st h b) : X 14 ls st h b := by
  refine hX k_X11_headsAt_14 14 ok_X11_headsAt_14 _ ?_ ls st h b q
  exact by
    intro t ls st h b q
    by_cases c : t = 15
    · subst c; rw [if_pos rfl] at q; exact bs_X11_headsAt_15 hX q
    rw [if_neg c] at q
    exact q
def bk_X11_headsAt_0 (E : ZE) (CT : Nat → ZC) (X : ZK) (Rt : ZR) (ls : ZL) (st : List ZV) (h : ZH) (b : ZB2) : Prop := zB E CT k_X11_headsAt_0 0 ls st h b (fun t ls st h b => if t = 14 then bk_X11_headsAt_14 E CT X Rt ls st h b else if t = 15 then bk_X11_headsAt_15 E CT X Rt ls st h b else X t ls st h b) Rt
theorem bs_X11_headsAt_0 {E : ZE} {CT : Nat → ZC} {X : ZK} {Rt : ZR} {ls : ZL} {st : List ZV} {h : ZH} {b : ZB2} (hX : zCl E mX11_headsAt 11 false CT Rt X) (q : bk_X11_headsAt_0 E CT X Rt ls st h b) : X 0 ls st h b := by
  refine hX k_X11_headsAt_0 0 ok_X11_headsAt_0 _ ?_ ls st h b q
  exact by
    intro t ls st h b q
    by_cases c : t = 14
    · subst c; rw [if_pos rfl] at q; exact bs_X11_headsAt_14 hX q
    rw [if_neg c] at q
    by_cases c : t = 15
    · subst c; rw [if_pos rfl] at q; exact bs_X11_headsAt_15 hX q
    rw [if_neg c] at q
    exact q
-- X11_headsAt: cuts []
def k_X11_rock_0 : List ZI := [(.iload_n 1, 1, (0, [1], [])), (.invokestatic 203, 3, (0, [124, 1, 0, 11], [])), (.ifCond .eq 27, 3, (0, [31], [])), (.iload_n 2, 1, (0, [2], [])), (.i2l, 1, (0, [], [])), (.lconst 0, 1, (0, [], [])), (.ldc2_w 206, 3, (9, [], [])), (.invokestatic 61, 3, (0, [120, 3, 0, 11], [])), (.ifCond .eq 15, 3, (0, [31], [])), (.aload_n 0, 1, (0, [0], [])), (.bipush 6, 2, (0, [], [])), (.iload_n 1, 1, (0, [1], [])), (.iadd, 1, (0, [], [])), (.iload_n 2, 1, (0, [2], [])), (.invokevirtual 208, 3, (0, [129, 3, 0, 11], [])), (.goto 8, 3, (0, [36], []))]
theorem ok_X11_rock_0 : zOK cX11_rock 11 false 3 k_X11_rock_0 0 = true := zOK_by (by decide +kernel)
def k_X11_rock_31 : List ZI := [(.aload_n 0, 1, (0, [0], [])), (.iconst 1, 1, (0, [], [])), (.invokevirtual 139, 3, (0, [119, 2, 0, 11], []))]
theorem ok_X11_rock_31 : zOK cX11_rock 11 false 3 k_X11_rock_31 31 = true := zOK_by (by decide +kernel)
def k_X11_rock_36 : List ZI := [(.ireturn, 1, (0, [], []))]
theorem ok_X11_rock_36 : zOK cX11_rock 11 false 3 k_X11_rock_36 36 = true := zOK_by (by decide +kernel)
theorem rt_X11_rock {g : Nat} {post : Option ZV → ZH → Prop} {h : ZH} {b : ZB2} {z : Int} : zRt mX11_rock g post (some (.inl z)) h b = (post (some (.inl z)) h ∧ h.1.length = g) := by show (_ ∧ _ ∧ True) = _; simp
def bk_X11_rock_36 (E : ZE) (CT : Nat → ZC) (X : ZK) (Rt : ZR) (ls : ZL) (st : List ZV) (h : ZH) (b : ZB2) : Prop := zB E CT k_X11_rock_36 36 ls st h b (fun t ls st h b => X t ls st h b) Rt
theorem bs_X11_rock_36 {E : ZE} {CT : Nat → ZC} {X : ZK} {Rt : ZR} {ls : ZL} {st : List ZV} {h : ZH} {b : ZB2} (hX : zCl E mX11_rock 11 false CT Rt X) (q : bk_X11_rock_36 E CT X Rt ls st h b) : X 36 ls st h b := by
  refine hX k_X11_rock_36 36 ok_X11_rock_36 _ ?_ ls st h b q
  exact fun t ls st h b q => q
def bk_X11_rock_31 (E : ZE) (CT : Nat → ZC) (X : ZK) (Rt : ZR) (ls : ZL) (st : List ZV) (h : ZH) (b : ZB2) : Prop := zB E CT k_X11_rock_31 31 ls st h b (fun t ls st h b => if t = 36 then bk_X11_rock_36 E CT X Rt ls st h b else X t ls st h b) Rt
theorem bs_X11_rock_31 {E : ZE} {CT : Nat → ZC} {X : ZK} {Rt : ZR} {ls : ZL} {st : List ZV} {h : ZH} {b : ZB2} (hX : zCl E mX11_rock 11 false CT Rt X) (q : bk_X11_rock_31 E CT X Rt ls st h b) : X 31 ls st h b := by
  refine hX k_X11_rock_31 31 ok_X11_rock_31 _ ?_ ls st h b q
  exact by
    intro t ls st h b q
    by_cases c : t = 36
    · subst c; rw [if_pos rfl] at q; exact bs_X11_rock_36 hX q
    rw [if_neg c] at q
    exact q
def bk_X11_rock_0 (E : ZE) (CT : Nat → ZC) (X : ZK) (Rt : ZR) (ls : ZL) (st : List ZV) (h : ZH) (b : ZB2) : Prop := zB E CT k_X11_rock_0 0 ls st h b (fun t ls st h b => if t = 31 then bk_X11_rock_31 E CT X Rt ls st h b else if t = 36 then bk_X11_rock_36 E CT X Rt ls st h b else X t ls st h b) Rt
theorem bs_X11_rock_0 {E : ZE} {CT : Nat → ZC} {X : ZK} {Rt : ZR} {ls : ZL} {st : List ZV} {h : ZH} {b : ZB2} (hX : zCl E mX11_rock 11 false CT Rt X) (q : bk_X11_rock_0 E CT X Rt ls st h b) : X 0 ls st h b := by
  refine hX k_X11_rock_0 0 ok_X11_rock_0 _ ?_ ls st h b q
  exact by
    intro t ls st h b q
    by_cases c : t = 31
    · subst c; rw [if_pos rfl] at q; exact bs_X11_rock_31 hX q
    rw [if_neg c] at q
    by_cases c : t = 36
    · subst c; rw [if_pos rfl] at q; exact bs_X11_rock_36 hX q
    rw [if_neg c] at q
    exact q
-- X11_rock: cuts []
def k_X11_dig_0 : List ZI := [(.iload_n 1, 1, (0, [1], [])), (.invokestatic 203, 3, (0, [124, 1, 0, 11], [])), (.ifCond .eq 13, 3, (0, [17], [])), (.iload_n 2, 1, (0, [2], [])), (.i2l, 1, (0, [], [])), (.lconst 0, 1, (0, [], [])), (.lconst 1, 1, (1, [], [])), (.invokestatic 61, 3, (0, [120, 3, 0, 11], [])), (.ifCond .ne 9, 3, (0, [23], []))]
theorem ok_X11_dig_0 : zOK cX11_dig 11 false 3 k_X11_dig_0 0 = true := zOK_by (by decide +kernel)
def k_X11_dig_17 : List ZI := [(.aload_n 0, 1, (0, [0], [])), (.iconst 1, 1, (0, [], [])), (.invokevirtual 139, 3, (0, [119, 2, 0, 11], [])), (.ireturn, 1, (0, [], []))]
theorem ok_X11_dig_17 : zOK cX11_dig 11 false 3 k_X11_dig_17 17 = true := zOK_by (by decide +kernel)
def k_X11_dig_23 : List ZI := [(.iload_n 2, 1, (0, [2], [])), (.ifCond .ne 19, 3, (0, [43], [])), (.aload_n 0, 1, (0, [0], [])), (.iload_n 1, 1, (0, [1], [])), (.invokevirtual 211, 3, (0, [166, 2, 0, 11], [])), (.ifCond .le 11, 3, (0, [43], [])), (.aload_n 0, 1, (0, [0], [])), (.iconst 3, 1, (0, [], [])), (.invokevirtual 139, 3, (0, [119, 2, 0, 11], [])), (.goto 12, 3, (0, [52], []))]
theorem ok_X11_dig_23 : zOK cX11_dig 11 false 3 k_X11_dig_23 23 = true := zOK_by (by decide +kernel)
def k_X11_dig_43 : List ZI := [(.aload_n 0, 1, (0, [0], [])), (.bipush 70, 2, (0, [], [])), (.iload_n 1, 1, (0, [1], [])), (.iadd, 1, (0, [], [])), (.iload_n 2, 1, (0, [2], [])), (.invokevirtual 208, 3, (0, [129, 3, 0, 11], []))]
theorem ok_X11_dig_43 : zOK cX11_dig 11 false 3 k_X11_dig_43 43 = true := zOK_by (by decide +kernel)
def k_X11_dig_52 : List ZI := [(.ireturn, 1, (0, [], []))]
theorem ok_X11_dig_52 : zOK cX11_dig 11 false 3 k_X11_dig_52 52 = true := zOK_by (by decide +kernel)
theorem rt_X11_dig {g : Nat} {post : Option ZV → ZH → Prop} {h : ZH} {b : ZB2} {z : Int} : zRt mX11_dig g post (some (.inl z)) h b = (post (some (.inl z)) h ∧ h.1.length = g) := by show (_ ∧ _ ∧ True) = _; simp
def bk_X11_dig_17 (E : ZE) (CT : Nat → ZC) (X : ZK) (Rt : ZR) (ls : ZL) (st : List ZV) (h : ZH) (b : ZB2) : Prop := zB E CT k_X11_dig_17 17 ls st h b (fun t ls st h b => X t ls st h b) Rt
theorem bs_X11_dig_17 {E : ZE} {CT : Nat → ZC} {X : ZK} {Rt : ZR} {ls : ZL} {st : List ZV} {h : ZH} {b : ZB2} (hX : zCl E mX11_dig 11 false CT Rt X) (q : bk_X11_dig_17 E CT X Rt ls st h b) : X 17 ls st h b := by
  refine hX k_X11_dig_17 17 ok_X11_dig_17 _ ?_ ls st h b q
  exact fun t ls st h b q => q
def bk_X11_dig_52 (E : ZE) (CT : Nat → ZC) (X : ZK) (Rt : ZR) (ls : ZL) (st : List ZV) (h : ZH) (b : ZB2) : Prop := zB E CT k_X11_dig_52 52 ls st h b (fun t ls st h b => X t ls st h b) Rt
theorem bs_X11_dig_52 {E : ZE} {CT : Nat → ZC} {X : ZK} {Rt : ZR} {ls : ZL} {st : List ZV} {h : ZH} {b : ZB2} (hX : zCl E mX11_dig 11 false CT Rt X) (q : bk_X11_dig_52 E CT X Rt ls st h b) : X 52 ls st h b := by
  refine hX k_X11_dig_52 52 ok_X11_dig_52 _ ?_ ls st h b q
  exact fun t ls st h b q => q
def bk_X11_dig_43 (E : ZE) (CT : Nat → ZC) (X : ZK) (Rt : ZR) (ls : ZL) (st : List ZV) (h : ZH) (b : ZB2) : Prop := zB E CT k_X11_dig_43 43 ls st h b (fun t ls st h b => if t = 52 then bk_X11_dig_52 E CT X Rt ls st h b else X t ls st h b) Rt
theorem bs_X11_dig_43 {E : ZE} {CT : Nat → ZC} {X : ZK} {Rt : ZR} {ls : ZL} {st : List ZV} {h : ZH} {b : ZB2} (hX : zCl E mX11_dig 11 false CT Rt X) (q : bk_X11_dig_43 E CT X Rt ls st h b) : X 43 ls st h b := by
  refine hX k_X11_dig_43 43 ok_X11_dig_43 _ ?_ ls st h b q
  exact by
    intro t ls st h b q
    by_cases c : t = 52
    · subst c; rw [if_pos rfl] at q; exact bs_X11_dig_52 hX q
    rw [if_neg c] at q
    exact q
def bk_X11_dig_23 (E : ZE) (CT : Nat → ZC) (X : ZK) (Rt : ZR) (ls : ZL) (st : List ZV) (h : ZH) (b : ZB2) : Prop := zB E CT k_X11_dig_23 23 ls st h b (fun t ls st h b => if t = 43 then bk_X11_dig_43 E CT X Rt ls st h b else if t = 52 then bk_X11_dig_52 E CT X Rt ls st h b else X t ls st h b) Rt
theorem bs_X11_dig_23 {E : ZE} {CT : Nat → ZC} {X : ZK} {Rt : ZR} {ls : ZL} {st : List ZV} {h : ZH} {b : ZB2} (hX : zCl E mX11_dig 11 false CT Rt X) (q : bk_X11_dig_23 E CT X Rt ls st h b) : X 23 ls st h b := by
  refine hX k_X11_dig_23 23 ok_X11_dig_23 _ ?_ ls st h b q
  exact by
    intro t ls st h b q
    by_cases c : t = 43
    · subst c; rw [if_pos rfl] at q; exact bs_X11_dig_43 hX q
    rw [if_neg c] at q
    by_cases c : t = 52
    · subst c; rw [if_pos rfl] at q; exact bs_X11_dig_52 hX q
    rw [if_neg c] at q
    exact q
def bk_X11_dig_0 (E : ZE) (CT : Nat → ZC) (X : ZK) (Rt : ZR) (ls : ZL) (st : List ZV) (h : ZH) (b : ZB2) : Prop := zB E CT k_X11_dig_0 0 ls st h b (fun t ls st h b => if t = 17 then bk_X11_dig_17 E CT X Rt ls st h b else if t = 23 then bk_X11_dig_23 E CT X Rt ls st h b else X t ls st h b) Rt
theorem bs_X11_dig_0 {E : ZE} {CT : Nat → ZC} {X : ZK} {Rt : ZR} {ls : ZL} {st : List ZV} {h : ZH} {b : ZB2} (hX : zCl E mX11_dig 11 false CT Rt X) (q : bk_X11_dig_0 E CT X Rt ls st h b) : X 0 ls st h b := by
  refine hX k_X11_dig_0 0 ok_X11_dig_0 _ ?_ ls st h b q
  exact by
    intro t ls st h b q
    by_cases c : t = 17
    · subst c; rw [if_pos rfl] at q; exact bs_X11_dig_17 hX q
    rw [if_neg c] at q
    by_cases c : t = 23
    · subst c; rw [if_pos rfl] at q; exact bs_X11_dig_23 hX q
    rw [if_neg c] at q
    exact q
-- X11_dig: cuts []
def k_X11_ofCell_0 : List ZI := [(.iload_n 1, 1, (0, [1], [])), (.invokestatic 203, 3, (0, [124, 1, 0, 11], [])), (.ifCond .eq 15, 3, (0, [19], [])), (.iload_n 2, 1, (0, [2], [])), (.i2l, 1, (0, [], [])), (.lconst 0, 1, (0, [], [])), (.ldc2_w 214, 3, (2, [], [])), (.invokestatic 61, 3, (0, [120, 3, 0, 11], [])), (.ifCond .ne 9, 3, (0, [25], []))]
theorem ok_X11_ofCell_0 : zOK cX11_ofCell 11 false 3 k_X11_ofCell_0 0 = true := zOK_by (by decide +kernel)
def k_X11_ofCell_19 : List ZI := [(.aload_n 0, 1, (0, [0], [])), (.iconst 1, 1, (0, [], [])), (.invokevirtual 139, 3, (0, [119, 2, 0, 11], [])), (.ireturn, 1, (0, [], []))]
theorem ok_X11_ofCell_19 : zOK cX11_ofCell 11 false 3 k_X11_ofCell_19 19 = true := zOK_by (by decide +kernel)
def k_X11_ofCell_25 : List ZI := [(.iload_n 2, 1, (0, [2], [])), (.ifCond .ne 15, 3, (0, [41], [])), (.aload_n 0, 1, (0, [0], [])), (.getfield 7, 3, (0, [11, 0], [])), (.bipush 6, 2, (0, [], [])), (.iload_n 1, 1, (0, [1], [])), (.iadd, 1, (0, [], [])), (.iaload, 1, (0, [], [])), (.goto 25, 3, (0, [63], []))]
theorem ok_X11_ofCell_25 : zOK cX11_ofCell 11 false 3 k_X11_ofCell_25 25 = true := zOK_by (by decide +kernel)
def k_X11_ofCell_41 : List ZI := [(.iload_n 2, 1, (0, [2], [])), (.iconst 1, 1, (0, [], [])), (.if_icmp .ne 15, 3, (0, [58], [])), (.aload_n 0, 1, (0, [0], [])), (.getfield 7, 3, (0, [11, 0], [])), (.bipush 70, 2, (0, [], [])), (.iload_n 1, 1, (0, [1], [])), (.iadd, 1, (0, [], [])), (.iaload, 1, (0, [], [])), (.goto 8, 3, (0, [63], []))]
theorem ok_X11_ofCell_41 : zOK cX11_ofCell 11 false 3 k_X11_ofCell_41 41 = true := zOK_by (by decide +kernel)
def k_X11_ofCell_58 : List ZI := [(.aload_n 0, 1, (0, [0], [])), (.iload_n 1, 1, (0, [1], [])), (.invokevirtual 211, 3, (0, [166, 2, 0, 11], []))]
theorem ok_X11_ofCell_58 : zOK cX11_ofCell 11 false 3 k_X11_ofCell_58 58 = true := zOK_by (by decide +kernel)
def k_X11_ofCell_63 : List ZI := [(.ireturn, 1, (0, [], []))]
theorem ok_X11_ofCell_63 : zOK cX11_ofCell 11 false 3 k_X11_ofCell_63 63 = true := zOK_by (by decide +kernel)
theorem rt_X11_ofCell {g : Nat} {post : Option ZV → ZH → Prop} {h : ZH} {b : ZB2} {z : Int} : zRt mX11_ofCell g post (some (.inl z)) h b = (post (some (.inl z)) h ∧ h.1.length = g) := by show (_ ∧ _ ∧ True) = _; simp
def bk_X11_ofCell_19 (E : ZE) (CT : Nat → ZC) (X : ZK) (Rt : ZR) (ls : ZL) (st : List ZV) (h : ZH) (b : ZB2) : Prop := zB E CT k_X11_ofCell_19 19 ls st h b (fun t ls st h b => X t ls st h b) Rt
theorem bs_X11_ofCell_19 {E : ZE} {CT : Nat → ZC} {X : ZK} {Rt : ZR} {ls : ZL} {st : List ZV} {h : ZH} {b : ZB2} (hX : zCl E mX11_ofCell 11 false CT Rt X) (q : bk_X11_ofCell_19 E CT X Rt ls st h b) : X 19 ls st h b := by
  refine hX k_X11_ofCell_19 19 ok_X11_ofCell_19 _ ?_ ls st h b q
  exact fun t ls st h b q => q
def bk_X11_ofCell_63 (E : ZE) (CT : Nat → ZC) (X : ZK) (Rt : ZR) (ls : ZL) (st : List ZV) (h : ZH) (b : ZB2) : Prop := zB E CT k_X11_ofCell_63 63 ls st h b (fun t ls st h b => X t ls st h b) Rt
theorem bs_X11_ofCell_63 {E : ZE} {CT : Nat → ZC} {X : ZK} {Rt : ZR} {ls : ZL} {st : List ZV} {h : ZH} {b : ZB2} (hX : zCl E mX11_ofCell 11 false CT Rt X) (q : bk_X11_ofCell_63 E CT X Rt ls st h b) : X 63 ls st h b := by
  refine hX k_X11_ofCell_63 63 ok_X11_ofCell_63 _ ?_ ls st h b q
  exact fun t ls st h b q => q
def bk_X11_ofCell_58 (E : ZE) (CT : Nat → ZC) (X : ZK) (Rt : ZR) (ls : ZL) (st : List ZV) (h : ZH) (b : ZB2) : Prop := zB E CT k_X11_ofCell_58 58 ls st h b (fun t ls st h b => if t = 63 then bk_X11_ofCell_63 E CT X Rt ls st h b else X t ls st h b) Rt
theorem bs_X11_ofCell_58 {E : ZE} {CT : Nat → ZC} {X : ZK} {Rt : ZR} {ls : ZL} {st : List ZV} {h : ZH} {b : ZB2} (hX : zCl E mX11_ofCell 11 false CT Rt X) (q : bk_X11_ofCell_58 E CT X Rt ls st h b) : X 58 ls st h b := by
  refine hX k_X11_ofCell_58 58 ok_X11_ofCell_58 _ ?_ ls st h b q
  exact by
    intro t ls st h b q
    by_cases c : t = 63
    · subst c; rw [if_pos rfl] at q; exact bs_X11_ofCell_63 hX q
    rw [if_neg c] at q
    exact q
def bk_X11_ofCell_41 (E : ZE) (CT : Nat → ZC) (X : ZK) (Rt : ZR) (ls : ZL) (st : List ZV) (h : ZH) (b : ZB2) : Prop := zB E CT k_X11_ofCell_41 41 ls st h b (fun t ls st h b => if t = 58 then bk_X11_ofCell_58 E CT X Rt ls st h b else if t = 63 then bk_X11_ofCell_63 E CT X Rt ls st h b else X t ls st h b) Rt
theorem bs_X11_ofCell_41 {E : ZE} {CT : Nat → ZC} {X : ZK} {Rt : ZR} {ls : ZL} {st : List ZV} {h : ZH} {b : ZB2} (hX : zCl E mX11_ofCell 11 false CT Rt X) (q : bk_X11_ofCell_41 E CT X Rt ls st h b) : X 41 ls st h b := by
  refine hX k_X11_ofCell_41 41 ok_X11_ofCell_41 _ ?_ ls st h b q
  exact by
    intro t ls st h b q
    by_cases c : t = 58
    · subst c; rw [if_pos rfl] at q; exact bs_X11_ofCell_58 hX q
    rw [if_neg c] at q
    by_cases c : t = 63
    · subst c; rw [if_pos rfl] at q; exact bs_X11_ofCell_63 hX q
    rw [if_neg c] at q
    exact q
def bk_X11_ofCell_25 (E : ZE) (CT : Nat → ZC) (X : ZK) (Rt : ZR) (ls : ZL) (st : List ZV) (h : ZH) (b : ZB2) : Prop := zB E CT k_X11_ofCell_25 25 ls st h b (fun t ls st h b => if t = 41 then bk_X11_ofCell_41 E CT X Rt ls st h b else if t = 63 then bk_X11_ofCell_63 E CT X Rt ls st h b else X t ls st h b) Rt
theorem bs_X11_ofCell_25 {E : ZE} {CT : Nat → ZC} {X : ZK} {Rt : ZR} {ls : ZL} {st : List ZV} {h : ZH} {b : ZB2} (hX : zCl E mX11_ofCell 11 false CT Rt X) (q : bk_X11_ofCell_25 E CT X Rt ls st h b) : X 25 ls st h b := by
  refine hX k_X11_ofCell_25 25 ok_X11_ofCell_25 _ ?_ ls st h b q
  exact by
    intro t ls st h b q
    by_cases c : t = 41
    · subst c; rw [if_pos rfl] at q; exact bs_X11_ofCell_41 hX q
    rw [if_neg c] at q
    by_cases c : t = 63
    · subst c; rw [if_pos rfl] at q; exact bs_X11_ofCell_63 hX q
    rw [if_neg c] at q
    exact q
def bk_X11_ofCell_0 (E : ZE) (CT : Nat → ZC) (X : ZK) (Rt : ZR) (ls : ZL) (st : List ZV) (h : ZH) (b : ZB2) : Prop := zB E CT k_X11_ofCell_0 0 ls st h b (fun t ls st h b => if t = 19 then bk_X11_ofCell_19 E CT X Rt ls st h b else if t = 25 then bk_X11_ofCell_25 E CT X Rt ls st h b else X t ls st h b) Rt
theorem bs_X11_ofCell_0 {E : ZE} {CT : Nat → ZC} {X : ZK} {Rt : ZR} {ls : ZL} {st : List ZV} {h : ZH} {b : ZB2} (hX : zCl E mX11_ofCell 11 false CT Rt X) (q : bk_X11_ofCell_0 E CT X Rt ls st h b) : X 0 ls st h b := by
  refine hX k_X11_ofCell_0 0 ok_X11_ofCell_0 _ ?_ ls st h b q
  exact by
    intro t ls st h b q
    by_cases c : t = 19
    · subst c; rw [if_pos rfl] at q; exact bs_X11_ofCell_19 hX q
    rw [if_neg c] at q
    by_cases c : t = 25
    · subst c; rw [if_pos rfl] at q; exact bs_X11_ofCell_25 hX q
    rw [if_neg c] at q
    exact q
-- X11_ofCell: cuts []
def k_X11_delay_0 : List ZI := [(.iload_n 1, 1, (0, [1], [])), (.i2l, 1, (0, [], [])), (.lconst 0, 1, (0, [], [])), (.ldc2_w 206, 3, (9, [], [])), (.invokestatic 61, 3, (0, [120, 3, 0, 11], [])), (.ifCond .eq 12, 3, (0, [21], [])), (.aload_n 0, 1, (0, [0], [])), (.iconst 2, 1, (0, [], [])), (.iload_n 1, 1, (0, [1], [])), (.invokevirtual 208, 3, (0, [129, 3, 0, 11], [])), (.goto 8, 3, (0, [26], []))]
theorem ok_X11_delay_0 : zOK cX11_delay 11 false 2 k_X11_delay_0 0 = true := zOK_by (by decide +kernel)
def k_X11_delay_21 : List ZI := [(.aload_n 0, 1, (0, [0], [])), (.iconst 1, 1, (0, [], [])), (.invokevirtual 139, 3, (0, [119, 2, 0, 11], []))]
theorem ok_X11_delay_21 : zOK cX11_delay 11 false 2 k_X11_delay_21 21 = true := zOK_by (by decide +kernel)
def k_X11_delay_26 : List ZI := [(.ireturn, 1, (0, [], []))]
theorem ok_X11_delay_26 : zOK cX11_delay 11 false 2 k_X11_delay_26 26 = true := zOK_by (by decide +kernel)
theorem rt_X11_delay {g : Nat} {post : Option ZV → ZH → Prop} {h : ZH} {b : ZB2} {z : Int} : zRt mX11_delay g post (some (.inl z)) h b = (post (some (.inl z)) h ∧ h.1.length = g) := by show (_ ∧ _ ∧ True) = _; simp
def bk_X11_delay_26 (E : ZE) (CT : Nat → ZC) (X : ZK) (Rt : ZR) (ls : ZL) (st : List ZV) (h : ZH) (b : ZB2) : Prop := zB E CT k_X11_delay_26 26 ls st h b (fun t ls st h b => X t ls st h b) Rt
theorem bs_X11_delay_26 {E : ZE} {CT : Nat → ZC} {X : ZK} {Rt : ZR} {ls : ZL} {st : List ZV} {h : ZH} {b : ZB2} (hX : zCl E mX11_delay 11 false CT Rt X) (q : bk_X11_delay_26 E CT X Rt ls st h b) : X 26 ls st h b := by
  refine hX k_X11_delay_26 26 ok_X11_delay_26 _ ?_ ls st h b q
  exact fun t ls st h b q => q
def bk_X11_delay_21 (E : ZE) (CT : Nat → ZC) (X : ZK) (Rt : ZR) (ls : ZL) (st : List ZV) (h : ZH) (b : ZB2) : Prop := zB E CT k_X11_delay_21 21 ls st h b (fun t ls st h b => if t = 26 then bk_X11_delay_26 E CT X Rt ls st h b else X t ls st h b) Rt
theorem bs_X11_delay_21 {E : ZE} {CT : Nat → ZC} {X : ZK} {Rt : ZR} {ls : ZL} {st : List ZV} {h : ZH} {b : ZB2} (hX : zCl E mX11_delay 11 false CT Rt X) (q : bk_X11_delay_21 E CT X Rt ls st h b) : X 21 ls st h b := by
  refine hX k_X11_delay_21 21 ok_X11_delay_21 _ ?_ ls st h b q
  exact by
    intro t ls st h b q
    by_cases c : t = 26
    · subst c; rw [if_pos rfl] at q; exact bs_X11_delay_26 hX q
    rw [if_neg c] at q
    exact q
def bk_X11_delay_0 (E : ZE) (CT : Nat → ZC) (X : ZK) (Rt : ZR) (ls : ZL) (st : List ZV) (h : ZH) (b : ZB2) : Prop := zB E CT k_X11_delay_0 0 ls st h b (fun t ls st h b => if t = 21 then bk_X11_delay_21 E CT X Rt ls st h b else if t = 26 then bk_X11_delay_26 E CT X Rt ls st h b else X t ls st h b) Rt
theorem bs_X11_delay_0 {E : ZE} {CT : Nat → ZC} {X : ZK} {Rt : ZR} {ls : ZL} {st : List ZV} {h : ZH} {b : ZB2} (hX : zCl E mX11_delay 11 false CT Rt X) (q : bk_X11_delay_0 E CT X Rt ls st h b) : X 0 ls st h b := by
  refine hX k_X11_delay_0 0 ok_X11_delay_0 _ ?_ ls st h b q
  exact by
    intro t ls st h b q
    by_cases c : t = 21
    · subst c; rw [if_pos rfl] at q; exact bs_X11_delay_21 hX q
    rw [if_neg c] at q
    by_cases c : t = 26
    · subst c; rw [if_pos rfl] at q; exact bs_X11_delay_26 hX q
    rw [if_neg c] at q
    exact q
-- X11_delay: cuts []
def k_X11_change_0 : List ZI := [(.aload_n 0, 1, (0, [0], [])), (.iload_n 1, 1, (0, [1], [])), (.invokevirtual 230, 3, (0, [123, 2, 0, 11], [])), (.ifCond .eq 27, 3, (0, [32], [])), (.iload_n 2, 1, (0, [2], [])), (.invokestatic 216, 3, (0, [125, 1, 0, 11], [])), (.ifCond .eq 20, 3, (0, [32], [])), (.aload_n 0, 1, (0, [0], [])), (.sipush 162, 3, (0, [], [])), (.iconst 3, 1, (0, [], [])), (.iload_n 1, 1, (0, [1], [])), (.imul, 1, (0, [], [])), (.iadd, 1, (0, [], [])), (.iconst 2, 1, (0, [], [])), (.iadd, 1, (0, [], [])), (.iload_n 2, 1, (0, [2], [])), (.invokevirtual 208, 3, (0, [129, 3, 0, 11], [])), (.goto 8, 3, (0, [37], []))]
theorem ok_X11_change_0 : zOK cX11_change 11 false 3 k_X11_change_0 0 = true := zOK_by (by decide +kernel)
def k_X11_change_32 : List ZI := [(.aload_n 0, 1, (0, [0], [])), (.iconst 1, 1, (0, [], [])), (.invokevirtual 139, 3, (0, [119, 2, 0, 11], []))]
theorem ok_X11_change_32 : zOK cX11_change 11 false 3 k_X11_change_32 32 = true := zOK_by (by decide +kernel)
def k_X11_change_37 : List ZI := [(.ireturn, 1, (0, [], []))]
theorem ok_X11_change_37 : zOK cX11_change 11 false 3 k_X11_change_37 37 = true := zOK_by (by decide +kernel)
theorem rt_X11_change {g : Nat} {post : Option ZV → ZH → Prop} {h : ZH} {b : ZB2} {z : Int} : zRt mX11_change g post (some (.inl z)) h b = (post (some (.inl z)) h ∧ h.1.length = g) := by show (_ ∧ _ ∧ True) = _; simp
def bk_X11_change_37 (E : ZE) (CT : Nat → ZC) (X : ZK) (Rt : ZR) (ls : ZL) (st : List ZV) (h : ZH) (b : ZB2) : Prop := zB E CT k_X11_change_37 37 ls st h b (fun t ls st h b => X t ls st h b) Rt
theorem bs_X11_change_37 {E : ZE} {CT : Nat → ZC} {X : ZK} {Rt : ZR} {ls : ZL} {st : List ZV} {h : ZH} {b : ZB2} (hX : zCl E mX11_change 11 false CT Rt X) (q : bk_X11_change_37 E CT X Rt ls st h b) : X 37 ls st h b := by
  refine hX k_X11_change_37 37 ok_X11_change_37 _ ?_ ls st h b q
  exact fun t ls st h b q => q
def bk_X11_change_32 (E : ZE) (CT : Nat → ZC) (X : ZK) (Rt : ZR) (ls : ZL) (st : List ZV) (h : ZH) (b : ZB2) : Prop := zB E CT k_X11_change_32 32 ls st h b (fun t ls st h b => if t = 37 then bk_X11_change_37 E CT X Rt ls st h b else X t ls st h b) Rt
theorem bs_X11_change_32 {E : ZE} {CT : Nat → ZC} {X : ZK} {Rt : ZR} {ls : ZL} {st : List ZV} {h : ZH} {b : ZB2} (hX : zCl E mX11_change 11 false CT Rt X) (q : bk_X11_change_32 E CT X Rt ls st h b) : X 32 ls st h b := by
  refine hX k_X11_change_32 32 ok_X11_change_32 _ ?_ ls st h b q
  exact by
    intro t ls st h b q
    by_cases c : t = 37
    · subst c; rw [if_pos rfl] at q; exact bs_X11_change_37 hX q
    rw [if_neg c] at q
    exact q
def bk_X11_change_0 (E : ZE) (CT : Nat → ZC) (X : ZK) (Rt : ZR) (ls : ZL) (st : List ZV) (h : ZH) (b : ZB2) : Prop := zB E CT k_X11_change_0 0 ls st h b (fun t ls st h b => if t = 32 then bk_X11_change_32 E CT X Rt ls st h b else if t = 37 then bk_X11_change_37 E CT X Rt ls st h b else X t ls st h b) Rt
theorem bs_X11_change_0 {E : ZE} {CT : Nat → ZC} {X : ZK} {Rt : ZR} {ls : ZL} {st : List ZV} {h : ZH} {b : ZB2} (hX : zCl E mX11_change 11 false CT Rt X) (q : bk_X11_change_0 E CT X Rt ls st h b) : X 0 ls st h b := by
  refine hX k_X11_change_0 0 ok_X11_change_0 _ ?_ ls st h b q
  exact by
    intro t ls st h b q
    by_cases c : t = 32
    · subst c; rw [if_pos rfl] at q; exact bs_X11_change_32 hX q
    rw [if_neg c] at q
    by_cases c : t = 37
    · subst c; rw [if_pos rfl] at q; exact bs_X11_change_37 hX q
    rw [if_neg c] at q
    exact q
-- X11_change: cuts []
def k_X11_seed_0 : List ZI := [(.aload_n 0, 1, (0, [0], [])), (.iconst 3, 1, (0, [], [])), (.iload_n 1, 1, (0, [1], [])), (.invokevirtual 208, 3, (0, [129, 3, 0, 11], [])), (.ireturn, 1, (0, [], []))]
theorem ok_X11_seed_0 : zOK cX11_seed 11 false 2 k_X11_seed_0 0 = true := zOK_by (by decide +kernel)
theorem rt_X11_seed {g : Nat} {post : Option ZV → ZH → Prop} {h : ZH} {b : ZB2} {z : Int} : zRt mX11_seed g post (some (.inl z)) h b = (post (some (.inl z)) h ∧ h.1.length = g) := by show (_ ∧ _ ∧ True) = _; simp
def bk_X11_seed_0 (E : ZE) (CT : Nat → ZC) (X : ZK) (Rt : ZR) (ls : ZL) (st : List ZV) (h : ZH) (b : ZB2) : Prop := zB E CT k_X11_seed_0 0 ls st h b (fun t ls st h b => X t ls st h b) Rt
theorem bs_X11_seed_0 {E : ZE} {CT : Nat → ZC} {X : ZK} {Rt : ZR} {ls : ZL} {st : List ZV} {h : ZH} {b : ZB2} (hX : zCl E mX11_seed 11 false CT Rt X) (q : bk_X11_seed_0 E CT X Rt ls st h b) : X 0 ls st h b := by
  refine hX k_X11_seed_0 0 ok_X11_seed_0 _ ?_ ls st h b q
  exact fun t ls st h b q => q
-- X11_seed: cuts []
def k_X11_told_0 : List ZI := [(.iload_n 1, 1, (0, [1], [])), (.i2l, 1, (0, [], [])), (.lconst 1, 1, (1, [], [])), (.ldc2_w 223, 3, (5, [], [])), (.invokestatic 61, 3, (0, [120, 3, 0, 11], [])), (.ifCond .eq 12, 3, (0, [21], [])), (.aload_n 0, 1, (0, [0], [])), (.getfield 19, 3, (0, [11, 4], [])), (.iload_n 1, 1, (0, [1], [])), (.iaload, 1, (0, [], [])), (.goto 8, 3, (0, [26], []))]
theorem ok_X11_told_0 : zOK cX11_told 11 false 2 k_X11_told_0 0 = true := zOK_by (by decide +kernel)
def k_X11_told_21 : List ZI := [(.aload_n 0, 1, (0, [0], [])), (.iconst 1, 1, (0, [], [])), (.invokevirtual 139, 3, (0, [119, 2, 0, 11], []))]
theorem ok_X11_told_21 : zOK cX11_told 11 false 2 k_X11_told_21 21 = true := zOK_by (by decide +kernel)
def k_X11_told_26 : List ZI := [(.ireturn, 1, (0, [], []))]
theorem ok_X11_told_26 : zOK cX11_told 11 false 2 k_X11_told_26 26 = true := zOK_by (by decide +kernel)
theorem rt_X11_told {g : Nat} {post : Option ZV → ZH → Prop} {h : ZH} {b : ZB2} {z : Int} : zRt mX11_told g post (some (.inl z)) h b = (post (some (.inl z)) h ∧ h.1.length = g) := by show (_ ∧ _ ∧ True) = _; simp
def bk_X11_told_26 (E : ZE) (CT : Nat → ZC) (X : ZK) (Rt : ZR) (ls : ZL) (st : List ZV) (h : ZH) (b : ZB2) : Prop := zB E CT k_X11_told_26 26 ls st h b (fun t ls st h b => X t ls st h b) Rt
theorem bs_X11_told_26 {E : ZE} {CT : Nat → ZC} {X : ZK} {Rt : ZR} {ls : ZL} {st : List ZV} {h : ZH} {b : ZB2} (hX : zCl E mX11_told 11 false CT Rt X) (q : bk_X11_told_26 E CT X Rt ls st h b) : X 26 ls st h b := by
  refine hX k_X11_told_26 26 ok_X11_told_26 _ ?_ ls st h b q
  exact fun t ls st h b q => q
def bk_X11_told_21 (E : ZE) (CT : Nat → ZC) (X : ZK) (Rt : ZR) (ls : ZL) (st : List ZV) (h : ZH) (b : ZB2) : Prop := zB E CT k_X11_told_21 21 ls st h b (fun t ls st h b => if t = 26 then bk_X11_told_26 E CT X Rt ls st h b else X t ls st h b) Rt
theorem bs_X11_told_21 {E : ZE} {CT : Nat → ZC} {X : ZK} {Rt : ZR} {ls : ZL} {st : List ZV} {h : ZH} {b : ZB2} (hX : zCl E mX11_told 11 false CT Rt X) (q : bk_X11_told_21 E CT X Rt ls st h b) : X 21 ls st h b := by
  refine hX k_X11_told_21 21 ok_X11_told_21 _ ?_ ls st h b q
  exact by
    intro t ls st h b q
    by_cases c : t = 26
    · subst c; rw [if_pos rfl] at q; exact bs_X11_told_26 hX q
    rw [if_neg c] at q
    exact q
def bk_X11_told_0 (E : ZE) (CT : Nat → ZC) (X : ZK) (Rt : ZR) (ls : ZL) (st : List ZV) (h : ZH) (b : ZB2) : Prop := zB E CT k_X11_told_0 0 ls st h b (fun t ls st h b => if t = 21 then bk_X11_told_21 E CT X Rt ls st h b else if t = 26 then bk_X11_told_26 E CT X Rt ls st h b else X t ls st h b) Rt
theorem bs_X11_told_0 {E : ZE} {CT : Nat → ZC} {X : ZK} {Rt : ZR} {ls : ZL} {st : List ZV} {h : ZH} {b : ZB2} (hX : zCl E mX11_told 11 false CT Rt X) (q : bk_X11_told_0 E CT X Rt ls st h b) : X 0 ls st h b := by
  refine hX k_X11_told_0 0 ok_X11_told_0 _ ?_ ls st h b q
  exact by
    intro t ls st h b q
    by_cases c : t = 21
    · subst c; rw [if_pos rfl] at q; exact bs_X11_told_21 hX q
    rw [if_neg c] at q
    by_cases c : t = 26
    · subst c; rw [if_pos rfl] at q; exact bs_X11_told_26 hX q
    rw [if_neg c] at q
    exact q
-- X11_told: cuts []
def B_isKm (c : Int) (post : Option ZV → Prop) : Prop := rg c ∧ post (some (.inl (zbo (0 ≤ c ∧ c ≤ 69))))
def C_isKm : ZC := fun as h post => match as with
  | [.inl c] => B_isKm c (fun v => post v h)
  | _ => False
theorem r_isKm {c : Int} {h : ZH} {post : Option ZV → ZH → Prop} : C_isKm [.inl c] h post = B_isKm c (fun v => post v h) := rfl
def ct_isKm : Nat → ZC := fun n => if n = 120 then C_in else fun _ _ _ => False
theorem ct_isKm_in {as : List ZV} {h : ZH} {post : Option ZV → ZH → Prop} : ct_isKm 120 as h post = C_in as h post := rfl
theorem c_isKm {E : ZE} {d : Nat} (hd : 2 ≤ d) : zMet E d mX11_isKm C_isKm := by
  refine zmet_of (o := 11) (ini := false) (CT := ct_isKm) gd_X11_isKm rfl (fun h => by cases h) (by omega) ?_ ?_
  · intro n as h post hh
    unfold ct_isKm at hh
    by_cases c : n = 120
    · subst c; exact ⟨gd_X11_in, 1, by omega, c_in (by omega)⟩
    rw [if_neg c] at hh
    exact hh.elim
  intro as h post hC
  match as, hC with
  | [.inl c], hC =>
    refine ⟨Nat.le_of_ble_eq_true rfl, fun X hX => bs_X11_isKm_0 hX ?_⟩
    have hC : B_isKm c (fun v => post v h) := hC
    simp only [B_isKm] at hC
    show bk_X11_isKm_0 E ct_isKm X _ [some (.inl c)] [] h (0, 0)
    obtain ⟨h1, hC⟩ := hC
    simp only [bk_X11_isKm_0, k_X11_isKm_0, ↓e_rk1, ↓e_rk0, ↓e_sk0, ↓e_sks, ↓e_ldi0, ↓e_ldis, ↓e_ldl0, ↓e_ldls, ↓e_lda0, ↓e_ldas, ↓e_ok0, ↓e_okss, ↓e_ok1i, ↓e_ok1r, ↓e_ok1n, ↓e_sti, ↓e_sta, ↓e_1, ↓e_2, ↓e_l1, ↓e_l2, ↓e_li, ↓e_sw0, ↓e_sws, ↓e_ceq, ↓e_cne, ↓e_clt, ↓e_cge, ↓e_cgt, ↓e_cle, ↓e_nil, ↓e_cons, ↓e_iconst, ↓e_bipush, ↓e_sipush, ↓e_ldc, ↓e_ldcw, ↓e_ldc2, ↓e_lconst, ↓e_iloadn, ↓e_iload, ↓e_lloadn, ↓e_lload, ↓e_aloadn, ↓e_aload, ↓e_istoren, ↓e_istore, ↓e_astoren, ↓e_astore, ↓e_add, ↓e_iinc, ↓e_iadd, ↓e_isub, ↓e_imul, ↓e_iand, ↓e_ior, ↓e_ixor, ↓e_ishl, ↓e_iushr, ↓e_idiv, ↓e_irem, ↓e_ineg, ↓e_i2l, ↓e_i2b, ↓e_i2s, ↓e_l2i, ↓e_land, ↓e_lor, ↓e_lshl, ↓e_lshr, ↓e_lushr, ↓e_lcmp, ↓e_dupi, ↓e_dupr, ↓e_popi, ↓e_dup2, ↓e_goto, ↓e_if, ↓e_icmp, ↓e_tsw, ↓e_lsw, ↓e_getf, ↓e_putf, ↓e_gets, ↓e_iald, ↓e_cald, ↓e_iast, ↓e_aald, ↓e_aast, ↓e_len, ↓e_copy, ↓e_abs, ↓e_max, ↓e_min, ↓e_iret, ↓e_aret, ↓e_vret, ↓e_is0, ↓e_is1, ↓e_is2, ↓e_is3, ↓e_is4, ↓e_iv1, ↓e_iv2, ↓e_iv3, ↓e_iv4, ↓e_iv5, ↓e_iv6, ↓rt_X11_isKm, ↓reduceIte, Nat.reduceAdd, Nat.reduceEqDiff, ↓zcl0, ↓zclv, List.map_nil, List.sum_nil, List.map_cons, List.sum_cons, zcat, true_and, and_true, Nat.reduceLeDiff, Nat.reduceAdd, eq_self, forall_const, e_ok0, e_okss, e_ok1i, e_ok1r, e_ok1n, zq_0, zq_69, Int.reduceToNat, Int.reduceAdd, Int.reduceMul, Int.reduceSub, Int.reduceNeg, Int.reduceLT, Int.reduceLE, Int.reduceEq, not_false_eq_true, not_true_eq_false, false_implies, true_implies, implies_true, Int.reduceDiv, Int.reduceMod, zr8_zr, zr_zbo, z01_zbo, z01_0, z01_1, zbo_eq0, zup_eq, zup_o, zup_k, ne_eq, ↓ct_isKm_in, ↓r_in, ↓B_in, zr_rg, h1, zr8_zr, zr_zbo, zbo_01, zr8_rg, h1]
    exact hC
def R_rock (S : ZMm) (c v : Int) : Int × ZMm := if (0 ≤ c ∧ c ≤ 63) ∧ 0 ≤ v ∧ v ≤ 9 then (S 88 (6 + c).toNat, zup S 88 (6 + c).toNat v) else no S 1
def B_rock (c : Int) (v : Int) (M : Nat → Nat → Int) (post : Option ZV → (Nat → Nat → Int) → Prop) : Prop := rg c ∧ rg v ∧ pub M (R_rock (st M) c v) post
def C_rock : ZC := fun as h post => match as with
  | [.inr (.inr (.inl 87)), .inl c, .inl v] => h.1 = zG ∧ B_rock c v h.2 (fun v M => post v (zG, M))
  | _ => False
theorem r_rock {c : Int} {v : Int} {M : Nat → Nat → Int} {post : Option ZV → ZH → Prop} : C_rock [.inr (.inr (.inl 87)), .inl c, .inl v] (zG, M) post = B_rock c v M (fun v M => post v (zG, M)) := by show (zG = zG ∧ _) = _; simp
def ct_rock : Nat → ZC := fun n => if n = 124 then C_isCell else if n = 120 then C_in else if n = 129 then C_becomes else if n = 119 then C_finds else fun _ _ _ => False
theorem ct_rock_isCell {as : List ZV} {h : ZH} {post : Option ZV → ZH → Prop} : ct_rock 124 as h post = C_isCell as h post := rfl
theorem ct_rock_in {as : List ZV} {h : ZH} {post : Option ZV → ZH → Prop} : ct_rock 120 as h post = C_in as h post := rfl
theorem ct_rock_becomes {as : List ZV} {h : ZH} {post : Option ZV → ZH → Prop} : ct_rock 129 as h post = C_becomes as h post := rfl
theorem ct_rock_finds {as : List ZV} {h : ZH} {post : Option ZV → ZH → Prop} : ct_rock 119 as h post = C_finds as h post := rfl
theorem c_rock {E : ZE} {d : Nat} (hd : 3 ≤ d) : zMet E d mX11_rock C_rock := by
  refine zmet_of (o := 11) (ini := false) (CT := ct_rock) gd_X11_rock rfl (fun h => by cases h) (by omega) ?_ ?_
  · intro n as h post hh
    unfold ct_rock at hh
    by_cases c : n = 124
    · subst c; exact ⟨gd_X11_isCell, 2, by omega, c_isCell (by omega)⟩
    rw [if_neg c] at hh
    by_cases c : n = 120
    · subst c; exact ⟨gd_X11_in, 1, by omega, c_in (by omega)⟩
    rw [if_neg c] at hh
    by_cases c : n = 129
    · subst c; exact ⟨gd_X11_becomes, 1, by omega, c_becomes (by omega)⟩
    rw [if_neg c] at hh
    by_cases c : n = 119
    · subst c; exact ⟨gd_X11_finds, 1, by omega, c_finds (by omega)⟩
    rw [if_neg c] at hh
    exact hh.elim
  intro as h post hC
  match as, hC with
  | [.inr (.inr (.inl 87)), .inl c, .inl v], hC =>
    refine ⟨Nat.le_of_ble_eq_true rfl, fun X hX => bs_X11_rock_0 hX ?_⟩
    obtain ⟨G, M⟩ := h
    obtain ⟨hG, hC⟩ := hC
    dsimp only at hG
    subst hG
    simp only [B_rock] at hC
    show bk_X11_rock_0 E ct_rock X _ [some (.inr (.inr (.inl 87))), some (.inl c), some (.inl v)] [] (zG, M) (0, 0)
    obtain ⟨h1, h2, hC⟩ := hC
    simp only [bk_X11_rock_0, k_X11_rock_0, bk_X11_rock_31, k_X11_rock_31, bk_X11_rock_36, k_X11_rock_36, ↓e_rk1, ↓e_rk0, ↓e_sk0, ↓e_sks, ↓e_ldi0, ↓e_ldis, ↓e_ldl0, ↓e_ldls, ↓e_lda0, ↓e_ldas, ↓e_ok0, ↓e_okss, ↓e_ok1i, ↓e_ok1r, ↓e_ok1n, ↓e_sti, ↓e_sta, ↓e_1, ↓e_2, ↓e_l1, ↓e_l2, ↓e_li, ↓e_sw0, ↓e_sws, ↓e_ceq, ↓e_cne, ↓e_clt, ↓e_cge, ↓e_cgt, ↓e_cle, ↓e_nil, ↓e_cons, ↓e_iconst, ↓e_bipush, ↓e_sipush, ↓e_ldc, ↓e_ldcw, ↓e_ldc2, ↓e_lconst, ↓e_iloadn, ↓e_iload, ↓e_lloadn, ↓e_lload, ↓e_aloadn, ↓e_aload, ↓e_istoren, ↓e_istore, ↓e_astoren, ↓e_astore, ↓e_add, ↓e_iinc, ↓e_iadd, ↓e_isub, ↓e_imul, ↓e_iand, ↓e_ior, ↓e_ixor, ↓e_ishl, ↓e_iushr, ↓e_idiv, ↓e_irem, ↓e_ineg, ↓e_i2l, ↓e_i2b, ↓e_i2s, ↓e_l2i, ↓e_land, ↓e_lor, ↓e_lshl, ↓e_lshr, ↓e_lushr, ↓e_lcmp, ↓e_dupi, ↓e_dupr, ↓e_popi, ↓e_dup2, ↓e_goto, ↓e_if, ↓e_icmp, ↓e_tsw, ↓e_lsw, ↓e_getf, ↓e_putf, ↓e_gets, ↓e_iald, ↓e_cald, ↓e_iast, ↓e_aald, ↓e_aast, ↓e_len, ↓e_copy, ↓e_abs, ↓e_max, ↓e_min, ↓e_iret, ↓e_aret, ↓e_vret, ↓e_is0, ↓e_is1, ↓e_is2, ↓e_is3, ↓e_is4, ↓e_iv1, ↓e_iv2, ↓e_iv3, ↓e_iv4, ↓e_iv5, ↓e_iv6, ↓rt_X11_rock, ↓reduceIte, Nat.reduceAdd, Nat.reduceEqDiff, ↓zcl0, ↓zclv, List.map_nil, List.sum_nil, List.map_cons, List.sum_cons, zcat, true_and, and_true, Nat.reduceLeDiff, Nat.reduceAdd, eq_self, forall_const, e_ok0, e_okss, e_ok1i, e_ok1r, e_ok1n, zl_1, zl_6, zq_0, zq_9, Int.reduceToNat, Int.reduceAdd, Int.reduceMul, Int.reduceSub, Int.reduceNeg, Int.reduceLT, Int.reduceLE, Int.reduceEq, not_false_eq_true, not_true_eq_false, false_implies, true_implies, implies_true, Int.reduceDiv, Int.reduceMod, zr8_zr, zr_zbo, z01_zbo, z01_0, z01_1, zbo_eq0, zup_eq, zup_o, zup_k, ne_eq, ↓ct_rock_isCell, ↓r_isCell, ↓B_isCell, ↓ct_rock_in, ↓r_in, ↓B_in, ↓ct_rock_becomes, ↓r_becomes, ↓B_becomes, ↓ct_rock_finds, ↓r_finds, ↓B_finds, ↓v_87, ↓g_87_0, ↓l_88, ↓s_88, ↓n_88, ↓g_87_1, ↓l_89, ↓s_89, ↓n_89, ↓g_87_2, ↓l_90, ↓s_90, ↓n_90, ↓g_87_3, ↓p_87_3, ↓g_87_4, ↓l_91, ↓s_91, ↓n_91, ↓g_87_5, ↓p_87_5, ↓g_87_6, ↓p_87_6, ↓g_87_7, ↓p_87_7, ↓g_87_8, ↓p_87_8, ↓g_87_9, ↓p_87_9, ↓g_87_10, ↓p_87_10, ↓g_87_11, ↓l_92, ↓s_92, ↓n_92, ↓g_87_12, ↓l_93, ↓s_93, ↓n_93, ↓g_87_13, ↓p_87_13, ↓g_87_14, ↓l_94, ↓s_94, ↓n_94, ↓g_87_15, ↓p_87_15, ↓g_87_16, ↓l_95, ↓s_95, ↓n_95, ↓g_87_17, ↓l_96, ↓s_96, ↓n_96, ↓g_87_18, ↓l_97, ↓s_97, ↓n_97, ↓g_87_19, ↓p_87_19, ↓g_87_20, ↓p_87_20, ↓g_87_21, ↓l_98, ↓s_98, ↓n_98, ↓g_87_22, ↓l_99, ↓s_99, ↓n_99, ↓g_87_23, ↓l_100, ↓s_100, ↓n_100, ↓g_87_24, ↓l_101, ↓s_101, ↓n_101, zr_rg, h1, zr_rg, h2, zr8_zr, zr_zbo, zbo_01, zr8_rg, h1, zr8_rg, h2, zbo_eq0, zbo_eq1]
    repeat' (first | assumption | apply And.intro | intro _)
    all_goals first | omega | (refine pub_no hC ?_ rfl; simp only [R_rock]; (repeat' split) <;> first | rfl | omega) | (refine pub_id hC ?_; simp only [R_rock]; (repeat' split) <;> first | rfl | omega) | (refine pub_sd hC ?_; simp only [R_rock]; (repeat' split) <;> first | rfl | omega)
def B_headsAt (c : Int) (M : Nat → Nat → Int) (post : Option ZV → (Nat → Nat → Int) → Prop) : Prop := rg c ∧ Vd (M 88) ∧ post (some (.inl ((if hi4 (M 88) 0 0 = c then 1 else 0) + (if hi4 (M 88) 1 0 = c then 2 else 0)))) M
def C_headsAt : ZC := fun as h post => match as with
  | [.inr (.inr (.inl 87)), .inl c] => h.1 = zG ∧ B_headsAt c h.2 (fun v M => post v (zG, M))
  | _ => False
theorem r_headsAt {c : Int} {M : Nat → Nat → Int} {post : Option ZV → ZH → Prop} : C_headsAt [.inr (.inr (.inl 87)), .inl c] (zG, M) post = B_headsAt c M (fun v M => post v (zG, M)) := by show (zG = zG ∧ _) = _; simp
def ct_headsAt : Nat → ZC := fun n => if n = 127 then C_its else fun _ _ _ => False
theorem ct_headsAt_its {as : List ZV} {h : ZH} {post : Option ZV → ZH → Prop} : ct_headsAt 127 as h post = C_its as h post := rfl
theorem c_headsAt {E : ZE} {d : Nat} (hd : 2 ≤ d) : zMet E d mX11_headsAt C_headsAt := by
  refine zmet_of (o := 11) (ini := false) (CT := ct_headsAt) gd_X11_headsAt rfl (fun h => by cases h) (by omega) ?_ ?_
  · intro n as h post hh
    unfold ct_headsAt at hh
    by_cases c : n = 127
    · subst c; exact ⟨gd_X11_its, 1, by omega, c_its (by omega)⟩
    rw [if_neg c] at hh
    exact hh.elim
  intro as h post hC
  match as, hC with
  | [.inr (.inr (.inl 87)), .inl c], hC =>
    refine ⟨Nat.le_of_ble_eq_true rfl, fun X hX => bs_X11_headsAt_0 hX ?_⟩
    obtain ⟨G, M⟩ := h
    obtain ⟨hG, hC⟩ := hC
    dsimp only at hG
    subst hG
    simp only [B_headsAt] at hC
    show bk_X11_headsAt_0 E ct_headsAt X _ [some (.inr (.inr (.inl 87))), some (.inl c)] [] (zG, M) (0, 0)
    obtain ⟨h1, h2, hC⟩ := hC
    have q0 := (Vd_hi h2 (e := 0) (by omega) (by omega)).1
    have q1 := (Vd_hi h2 (e := 1) (by omega) (by omega)).1
    have e0 : M 88 134 = hi4 (M 88) 0 0 := rfl
    have e1 : M 88 138 = hi4 (M 88) 1 0 := rfl
    have z0 : zr (hi4 (M 88) 0 0) = hi4 (M 88) 0 0 := zr_of (by omega) (by omega)
    have z1 : zr (hi4 (M 88) 1 0) = hi4 (M 88) 1 0 := zr_of (by omega) (by omega)
    simp only [bk_X11_headsAt_0, k_X11_headsAt_0, bk_X11_headsAt_14, k_X11_headsAt_14, bk_X11_headsAt_15, k_X11_headsAt_15, bk_X11_headsAt_29, k_X11_headsAt_29, bk_X11_headsAt_30, k_X11_headsAt_30, ↓e_rk1, ↓e_rk0, ↓e_sk0, ↓e_sks, ↓e_ldi0, ↓e_ldis, ↓e_ldl0, ↓e_ldls, ↓e_lda0, ↓e_ldas, ↓e_ok0, ↓e_okss, ↓e_ok1i, ↓e_ok1r, ↓e_ok1n, ↓e_sti, ↓e_sta, ↓e_1, ↓e_2, ↓e_l1, ↓e_l2, ↓e_li, ↓e_sw0, ↓e_sws, ↓e_ceq, ↓e_cne, ↓e_clt, ↓e_cge, ↓e_cgt, ↓e_cle, ↓e_nil, ↓e_cons, ↓e_iconst, ↓e_bipush, ↓e_sipush, ↓e_ldc, ↓e_ldcw, ↓e_ldc2, ↓e_lconst, ↓e_iloadn, ↓e_iload, ↓e_lloadn, ↓e_lload, ↓e_aloadn, ↓e_aload, ↓e_istoren, ↓e_istore, ↓e_astoren, ↓e_astore, ↓e_add, ↓e_iinc, ↓e_iadd, ↓e_isub, ↓e_imul, ↓e_iand, ↓e_ior, ↓e_ixor, ↓e_ishl, ↓e_iushr, ↓e_idiv, ↓e_irem, ↓e_ineg, ↓e_i2l, ↓e_i2b, ↓e_i2s, ↓e_l2i, ↓e_land, ↓e_lor, ↓e_lshl, ↓e_lshr, ↓e_lushr, ↓e_lcmp, ↓e_dupi, ↓e_dupr, ↓e_popi, ↓e_dup2, ↓e_goto, ↓e_if, ↓e_icmp, ↓e_tsw, ↓e_lsw, ↓e_getf, ↓e_putf, ↓e_gets, ↓e_iald, ↓e_cald, ↓e_iast, ↓e_aald, ↓e_aast, ↓e_len, ↓e_copy, ↓e_abs, ↓e_max, ↓e_min, ↓e_iret, ↓e_aret, ↓e_vret, ↓e_is0, ↓e_is1, ↓e_is2, ↓e_is3, ↓e_is4, ↓e_iv1, ↓e_iv2, ↓e_iv3, ↓e_iv4, ↓e_iv5, ↓e_iv6, ↓rt_X11_headsAt, ↓reduceIte, Nat.reduceAdd, Nat.reduceEqDiff, ↓zcl0, ↓zclv, List.map_nil, List.sum_nil, List.map_cons, List.sum_cons, zcat, true_and, and_true, Nat.reduceLeDiff, Nat.reduceAdd, eq_self, forall_const, e_ok0, e_okss, e_ok1i, e_ok1r, e_ok1n, zl_0, zl_1, zl_2, Int.reduceToNat, Int.reduceAdd, Int.reduceMul, Int.reduceSub, Int.reduceNeg, Int.reduceLT, Int.reduceLE, Int.reduceEq, not_false_eq_true, not_true_eq_false, false_implies, true_implies, implies_true, Int.reduceDiv, Int.reduceMod, zr8_zr, zr_zbo, z01_zbo, z01_0, z01_1, zbo_eq0, zup_eq, zup_o, zup_k, ne_eq, ↓ct_headsAt_its, ↓r_its, ↓B_its, ↓v_87, ↓g_87_0, ↓l_88, ↓s_88, ↓n_88, ↓g_87_1, ↓l_89, ↓s_89, ↓n_89, ↓g_87_2, ↓l_90, ↓s_90, ↓n_90, ↓g_87_3, ↓p_87_3, ↓g_87_4, ↓l_91, ↓s_91, ↓n_91, ↓g_87_5, ↓p_87_5, ↓g_87_6, ↓p_87_6, ↓g_87_7, ↓p_87_7, ↓g_87_8, ↓p_87_8, ↓g_87_9, ↓p_87_9, ↓g_87_10, ↓p_87_10, ↓g_87_11, ↓l_92, ↓s_92, ↓n_92, ↓g_87_12, ↓l_93, ↓s_93, ↓n_93, ↓g_87_13, ↓p_87_13, ↓g_87_14, ↓l_94, ↓s_94, ↓n_94, ↓g_87_15, ↓p_87_15, ↓g_87_16, ↓l_95, ↓s_95, ↓n_95, ↓g_87_17, ↓l_96, ↓s_96, ↓n_96, ↓g_87_18, ↓l_97, ↓s_97, ↓n_97, ↓g_87_19, ↓p_87_19, ↓g_87_20, ↓p_87_20, ↓g_87_21, ↓l_98, ↓s_98, ↓n_98, ↓g_87_22, ↓l_99, ↓s_99, ↓n_99, ↓g_87_23, ↓l_100, ↓s_100, ↓n_100, ↓g_87_24, ↓l_101, ↓s_101, ↓n_101, e0, e1, z0, z1, zr_rg, h1]
    repeat' (first | assumption | apply And.intro | intro _)
    all_goals exact zpost hC (by (repeat' split) <;> omega)
def hat (S : ZMm) (c : Int) : Int := (if hi4 (S 88) 0 0 = c then 1 else 0) + (if hi4 (S 88) 1 0 = c then 2 else 0)
theorem hat_rng (S : ZMm) (c : Int) : 0 ≤ hat S c ∧ hat S c ≤ 3 := by
  unfold hat; split <;> split <;> omega
def R_dig (S : ZMm) (c v : Int) : Int × ZMm := if (0 ≤ c ∧ c ≤ 63) ∧ 0 ≤ v ∧ v ≤ 1 then (if v = 0 ∧ 0 < hat S c then no S 3 else (S 88 (70 + c).toNat, zup S 88 (70 + c).toNat v)) else no S 1
def B_dig (c : Int) (v : Int) (M : Nat → Nat → Int) (post : Option ZV → (Nat → Nat → Int) → Prop) : Prop := rg c ∧ rg v ∧ pub M (R_dig (st M) c v) post
def C_dig : ZC := fun as h post => match as with
  | [.inr (.inr (.inl 87)), .inl c, .inl v] => h.1 = zG ∧ B_dig c v h.2 (fun v M => post v (zG, M))
  | _ => False
theorem r_dig {c : Int} {v : Int} {M : Nat → Nat → Int} {post : Option ZV → ZH → Prop} : C_dig [.inr (.inr (.inl 87)), .inl c, .inl v] (zG, M) post = B_dig c v M (fun v M => post v (zG, M)) := by show (zG = zG ∧ _) = _; simp
def ct_dig : Nat → ZC := fun n => if n = 124 then C_isCell else if n = 120 then C_in else if n = 129 then C_becomes else if n = 119 then C_finds else if n = 166 then C_headsAt else fun _ _ _ => False
theorem ct_dig_isCell {as : List ZV} {h : ZH} {post : Option ZV → ZH → Prop} : ct_dig 124 as h post = C_isCell as h post := rfl
theorem ct_dig_in {as : List ZV} {h : ZH} {post : Option ZV → ZH → Prop} : ct_dig 120 as h post = C_in as h post := rfl
theorem ct_dig_becomes {as : List ZV} {h : ZH} {post : Option ZV → ZH → Prop} : ct_dig 129 as h post = C_becomes as h post := rfl
theorem ct_dig_finds {as : List ZV} {h : ZH} {post : Option ZV → ZH → Prop} : ct_dig 119 as h post = C_finds as h post := rfl
theorem ct_dig_headsAt {as : List ZV} {h : ZH} {post : Option ZV → ZH → Prop} : ct_dig 166 as h post = C_headsAt as h post := rfl
theorem c_dig {E : ZE} {d : Nat} (hd : 3 ≤ d) : zMet E d mX11_dig C_dig := by
  refine zmet_of (o := 11) (ini := false) (CT := ct_dig) gd_X11_dig rfl (fun h => by cases h) (by omega) ?_ ?_
  · intro n as h post hh
    unfold ct_dig at hh
    by_cases c : n = 124
    · subst c; exact ⟨gd_X11_isCell, 2, by omega, c_isCell (by omega)⟩
    rw [if_neg c] at hh
    by_cases c : n = 120
    · subst c; exact ⟨gd_X11_in, 1, by omega, c_in (by omega)⟩
    rw [if_neg c] at hh
    by_cases c : n = 129
    · subst c; exact ⟨gd_X11_becomes, 1, by omega, c_becomes (by omega)⟩
    rw [if_neg c] at hh
    by_cases c : n = 119
    · subst c; exact ⟨gd_X11_finds, 1, by omega, c_finds (by omega)⟩
    rw [if_neg c] at hh
    by_cases c : n = 166
    · subst c; exact ⟨gd_X11_headsAt, 2, by omega, c_headsAt (by omega)⟩
    rw [if_neg c] at hh
    exact hh.elim
  intro as h post hC
  match as, hC with
  | [.inr (.inr (.inl 87)), .inl c, .inl v], hC =>
    refine ⟨Nat.le_of_ble_eq_true rfl, fun X hX => bs_X11_dig_0 hX ?_⟩
    obtain ⟨G, M⟩ := h
    obtain ⟨hG, hC⟩ := hC
    dsimp only at hG
    subst hG
    simp only [B_dig] at hC
    show bk_X11_dig_0 E ct_dig X _ [some (.inr (.inr (.inl 87))), some (.inl c), some (.inl v)] [] (zG, M) (0, 0)
    obtain ⟨h1, h2, hC⟩ := hC
    have vd : Vd (M 88) := hC.1.1
    have ht : ((if hi4 (M 88) 0 0 = c then 1 else 0) + (if hi4 (M 88) 1 0 = c then 2 else 0)) = hat (st M) c := rfl
    have hr := hat_rng (st M) c
    have zh : zr (hat (st M) c) = hat (st M) c := zr_of (by omega) (by omega)
    simp only [bk_X11_dig_0, k_X11_dig_0, bk_X11_dig_17, k_X11_dig_17, bk_X11_dig_23, k_X11_dig_23, bk_X11_dig_43, k_X11_dig_43, bk_X11_dig_52, k_X11_dig_52, ↓e_rk1, ↓e_rk0, ↓e_sk0, ↓e_sks, ↓e_ldi0, ↓e_ldis, ↓e_ldl0, ↓e_ldls, ↓e_lda0, ↓e_ldas, ↓e_ok0, ↓e_okss, ↓e_ok1i, ↓e_ok1r, ↓e_ok1n, ↓e_sti, ↓e_sta, ↓e_1, ↓e_2, ↓e_l1, ↓e_l2, ↓e_li, ↓e_sw0, ↓e_sws, ↓e_ceq, ↓e_cne, ↓e_clt, ↓e_cge, ↓e_cgt, ↓e_cle, ↓e_nil, ↓e_cons, ↓e_iconst, ↓e_bipush, ↓e_sipush, ↓e_ldc, ↓e_ldcw, ↓e_ldc2, ↓e_lconst, ↓e_iloadn, ↓e_iload, ↓e_lloadn, ↓e_lload, ↓e_aloadn, ↓e_aload, ↓e_istoren, ↓e_istore, ↓e_astoren, ↓e_astore, ↓e_add, ↓e_iinc, ↓e_iadd, ↓e_isub, ↓e_imul, ↓e_iand, ↓e_ior, ↓e_ixor, ↓e_ishl, ↓e_iushr, ↓e_idiv, ↓e_irem, ↓e_ineg, ↓e_i2l, ↓e_i2b, ↓e_i2s, ↓e_l2i, ↓e_land, ↓e_lor, ↓e_lshl, ↓e_lshr, ↓e_lushr, ↓e_lcmp, ↓e_dupi, ↓e_dupr, ↓e_popi, ↓e_dup2, ↓e_goto, ↓e_if, ↓e_icmp, ↓e_tsw, ↓e_lsw, ↓e_getf, ↓e_putf, ↓e_gets, ↓e_iald, ↓e_cald, ↓e_iast, ↓e_aald, ↓e_aast, ↓e_len, ↓e_copy, ↓e_abs, ↓e_max, ↓e_min, ↓e_iret, ↓e_aret, ↓e_vret, ↓e_is0, ↓e_is1, ↓e_is2, ↓e_is3, ↓e_is4, ↓e_iv1, ↓e_iv2, ↓e_iv3, ↓e_iv4, ↓e_iv5, ↓e_iv6, ↓rt_X11_dig, ↓reduceIte, Nat.reduceAdd, Nat.reduceEqDiff, ↓zcl0, ↓zclv, List.map_nil, List.sum_nil, List.map_cons, List.sum_cons, zcat, true_and, and_true, Nat.reduceLeDiff, Nat.reduceAdd, eq_self, forall_const, e_ok0, e_okss, e_ok1i, e_ok1r, e_ok1n, zl_1, zl_3, zl_70, zq_0, zq_1, Int.reduceToNat, Int.reduceAdd, Int.reduceMul, Int.reduceSub, Int.reduceNeg, Int.reduceLT, Int.reduceLE, Int.reduceEq, not_false_eq_true, not_true_eq_false, false_implies, true_implies, implies_true, Int.reduceDiv, Int.reduceMod, zr8_zr, zr_zbo, z01_zbo, z01_0, z01_1, zbo_eq0, zup_eq, zup_o, zup_k, ne_eq, ↓ct_dig_isCell, ↓r_isCell, ↓B_isCell, ↓ct_dig_in, ↓r_in, ↓B_in, ↓ct_dig_becomes, ↓r_becomes, ↓B_becomes, ↓ct_dig_finds, ↓r_finds, ↓B_finds, ↓ct_dig_headsAt, ↓r_headsAt, ↓B_headsAt, ↓v_87, ↓g_87_0, ↓l_88, ↓s_88, ↓n_88, ↓g_87_1, ↓l_89, ↓s_89, ↓n_89, ↓g_87_2, ↓l_90, ↓s_90, ↓n_90, ↓g_87_3, ↓p_87_3, ↓g_87_4, ↓l_91, ↓s_91, ↓n_91, ↓g_87_5, ↓p_87_5, ↓g_87_6, ↓p_87_6, ↓g_87_7, ↓p_87_7, ↓g_87_8, ↓p_87_8, ↓g_87_9, ↓p_87_9, ↓g_87_10, ↓p_87_10, ↓g_87_11, ↓l_92, ↓s_92, ↓n_92, ↓g_87_12, ↓l_93, ↓s_93, ↓n_93, ↓g_87_13, ↓p_87_13, ↓g_87_14, ↓l_94, ↓s_94, ↓n_94, ↓g_87_15, ↓p_87_15, ↓g_87_16, ↓l_95, ↓s_95, ↓n_95, ↓g_87_17, ↓l_96, ↓s_96, ↓n_96, ↓g_87_18, ↓l_97, ↓s_97, ↓n_97, ↓g_87_19, ↓p_87_19, ↓g_87_20, ↓p_87_20, ↓g_87_21, ↓l_98, ↓s_98, ↓n_98, ↓g_87_22, ↓l_99, ↓s_99, ↓n_99, ↓g_87_23, ↓l_100, ↓s_100, ↓n_100, ↓g_87_24, ↓l_101, ↓s_101, ↓n_101, zr_rg, h1, zr_rg, h2, zr8_rg, h1, zr8_rg, h2, ht, zh, zr8_zr, zr_zbo, zbo_01, zbo_eq0, zbo_eq1]
    repeat' (first | assumption | apply And.intro | intro _)
    all_goals first | omega | (refine pub_no hC ?_ rfl; simp only [R_dig]; (repeat' split) <;> first | rfl | omega) | (refine pub_id hC ?_; simp only [R_dig]; (repeat' split) <;> first | rfl | omega) | (refine pub_sd hC ?_; simp only [R_dig]; (repeat' split) <;> first | rfl | omega)
def R_ofCell (S : ZMm) (c w : Int) : Int × ZMm := if (0 ≤ c ∧ c ≤ 63) ∧ 0 ≤ w ∧ w ≤ 2 then ((if w = 0 then S 88 (6 + c).toNat else if w = 1 then S 88 (70 + c).toNat else hat S c), S) else no S 1
def B_ofCell (c : Int) (w : Int) (M : Nat → Nat → Int) (post : Option ZV → (Nat → Nat → Int) → Prop) : Prop := rg c ∧ rg w ∧ pub M (R_ofCell (st M) c w) post
def C_ofCell : ZC := fun as h post => match as with
  | [.inr (.inr (.inl 87)), .inl c, .inl w] => h.1 = zG ∧ B_ofCell c w h.2 (fun v M => post v (zG, M))
  | _ => False
theorem r_ofCell {c : Int} {w : Int} {M : Nat → Nat → Int} {post : Option ZV → ZH → Prop} : C_ofCell [.inr (.inr (.inl 87)), .inl c, .inl w] (zG, M) post = B_ofCell c w M (fun v M => post v (zG, M)) := by show (zG = zG ∧ _) = _; simp
def ct_ofCell : Nat → ZC := fun n => if n = 124 then C_isCell else if n = 120 then C_in else if n = 119 then C_finds else if n = 166 then C_headsAt else fun _ _ _ => False
theorem ct_ofCell_isCell {as : List ZV} {h : ZH} {post : Option ZV → ZH → Prop} : ct_ofCell 124 as h post = C_isCell as h post := rfl
theorem ct_ofCell_in {as : List ZV} {h : ZH} {post : Option ZV → ZH → Prop} : ct_ofCell 120 as h post = C_in as h post := rfl
theorem ct_ofCell_finds {as : List ZV} {h : ZH} {post : Option ZV → ZH → Prop} : ct_ofCell 119 as h post = C_finds as h post := rfl
theorem ct_ofCell_headsAt {as : List ZV} {h : ZH} {post : Option ZV → ZH → Prop} : ct_ofCell 166 as h post = C_headsAt as h post := rfl
theorem c_ofCell {E : ZE} {d : Nat} (hd : 3 ≤ d) : zMet E d mX11_ofCell C_ofCell := by
  refine zmet_of (o := 11) (ini := false) (CT := ct_ofCell) gd_X11_ofCell rfl (fun h => by cases h) (by omega) ?_ ?_
  · intro n as h post hh
    unfold ct_ofCell at hh
    by_cases c : n = 124
    · subst c; exact ⟨gd_X11_isCell, 2, by omega, c_isCell (by omega)⟩
    rw [if_neg c] at hh
    by_cases c : n = 120
    · subst c; exact ⟨gd_X11_in, 1, by omega, c_in (by omega)⟩
    rw [if_neg c] at hh
    by_cases c : n = 119
    · subst c; exact ⟨gd_X11_finds, 1, by omega, c_finds (by omega)⟩
    rw [if_neg c] at hh
    by_cases c : n = 166
    · subst c; exact ⟨gd_X11_headsAt, 2, by omega, c_headsAt (by omega)⟩
    rw [if_neg c] at hh
    exact hh.elim
  intro as h post hC
  match as, hC with
  | [.inr (.inr (.inl 87)), .inl c, .inl w], hC =>
    refine ⟨Nat.le_of_ble_eq_true rfl, fun X hX => bs_X11_ofCell_0 hX ?_⟩
    obtain ⟨G, M⟩ := h
    obtain ⟨hG, hC⟩ := hC
    dsimp only at hG
    subst hG
    simp only [B_ofCell] at hC
    show bk_X11_ofCell_0 E ct_ofCell X _ [some (.inr (.inr (.inl 87))), some (.inl c), some (.inl w)] [] (zG, M) (0, 0)
    obtain ⟨h1, h2, hC⟩ := hC
    have vd : Vd (M 88) := hC.1.1
    have ht : ((if hi4 (M 88) 0 0 = c then 1 else 0) + (if hi4 (M 88) 1 0 = c then 2 else 0)) = hat (st M) c := rfl
    have hr := hat_rng (st M) c
    have zh : zr (hat (st M) c) = hat (st M) c := zr_of (by omega) (by omega)
    by_cases hc : 0 ≤ c ∧ c ≤ 63
    · have za : zr (6 + c) = 6 + c := zr_of (by omega) (by omega)
      have zb : zr (70 + c) = 70 + c := zr_of (by omega) (by omega)
      simp only [bk_X11_ofCell_0, k_X11_ofCell_0, bk_X11_ofCell_19, k_X11_ofCell_19, bk_X11_ofCell_25, k_X11_ofCell_25, bk_X11_ofCell_41, k_X11_ofCell_41, bk_X11_ofCell_58, k_X11_ofCell_58, bk_X11_ofCell_63, k_X11_ofCell_63, ↓e_rk1, ↓e_rk0, ↓e_sk0, ↓e_sks, ↓e_ldi0, ↓e_ldis, ↓e_ldl0, ↓e_ldls, ↓e_lda0, ↓e_ldas, ↓e_ok0, ↓e_okss, ↓e_ok1i, ↓e_ok1r, ↓e_ok1n, ↓e_sti, ↓e_sta, ↓e_1, ↓e_2, ↓e_l1, ↓e_l2, ↓e_li, ↓e_sw0, ↓e_sws, ↓e_ceq, ↓e_cne, ↓e_clt, ↓e_cge, ↓e_cgt, ↓e_cle, ↓e_nil, ↓e_cons, ↓e_iconst, ↓e_bipush, ↓e_sipush, ↓e_ldc, ↓e_ldcw, ↓e_ldc2, ↓e_lconst, ↓e_iloadn, ↓e_iload, ↓e_lloadn, ↓e_lload, ↓e_aloadn, ↓e_aload, ↓e_istoren, ↓e_istore, ↓e_astoren, ↓e_astore, ↓e_add, ↓e_iinc, ↓e_iadd, ↓e_isub, ↓e_imul, ↓e_iand, ↓e_ior, ↓e_ixor, ↓e_ishl, ↓e_iushr, ↓e_idiv, ↓e_irem, ↓e_ineg, ↓e_i2l, ↓e_i2b, ↓e_i2s, ↓e_l2i, ↓e_land, ↓e_lor, ↓e_lshl, ↓e_lshr, ↓e_lushr, ↓e_lcmp, ↓e_dupi, ↓e_dupr, ↓e_popi, ↓e_dup2, ↓e_goto, ↓e_if, ↓e_icmp, ↓e_tsw, ↓e_lsw, ↓e_getf, ↓e_putf, ↓e_gets, ↓e_iald, ↓e_cald, ↓e_iast, ↓e_aald, ↓e_aast, ↓e_len, ↓e_copy, ↓e_abs, ↓e_max, ↓e_min, ↓e_iret, ↓e_aret, ↓e_vret, ↓e_is0, ↓e_is1, ↓e_is2, ↓e_is3, ↓e_is4, ↓e_iv1, ↓e_iv2, ↓e_iv3, ↓e_iv4, ↓e_iv5, ↓e_iv6, ↓rt_X11_ofCell, ↓reduceIte, Nat.reduceAdd, Nat.reduceEqDiff, ↓zcl0, ↓zclv, List.map_nil, List.sum_nil, List.map_cons, List.sum_cons, zcat, true_and, and_true, Nat.reduceLeDiff, Nat.reduceAdd, eq_self, forall_const, e_ok0, e_okss, e_ok1i, e_ok1r, e_ok1n, zl_1, zl_6, zl_70, zq_0, zq_2, Int.reduceToNat, Int.reduceAdd, Int.reduceMul, Int.reduceSub, Int.reduceNeg, Int.reduceLT, Int.reduceLE, Int.reduceEq, not_false_eq_true, not_true_eq_false, false_implies, true_implies, implies_true, Int.reduceDiv, Int.reduceMod, zr8_zr, zr_zbo, z01_zbo, z01_0, z01_1, zbo_eq0, zup_eq, zup_o, zup_k, ne_eq, ↓ct_ofCell_isCell, ↓r_isCell, ↓B_isCell, ↓ct_ofCell_in, ↓r_in, ↓B_in, ↓ct_ofCell_finds, ↓r_finds, ↓B_finds, ↓ct_ofCell_headsAt, ↓r_headsAt, ↓B_headsAt, ↓v_87, ↓g_87_0, ↓l_88, ↓s_88, ↓n_88, ↓g_87_1, ↓l_89, ↓s_89, ↓n_89, ↓g_87_2, ↓l_90, ↓s_90, ↓n_90, ↓g_87_3, ↓p_87_3, ↓g_87_4, ↓l_91, ↓s_91, ↓n_91, ↓g_87_5, ↓p_87_5, ↓g_87_6, ↓p_87_6, ↓g_87_7, ↓p_87_7, ↓g_87_8, ↓p_87_8, ↓g_87_9, ↓p_87_9, ↓g_87_10, ↓p_87_10, ↓g_87_11, ↓l_92, ↓s_92, ↓n_92, ↓g_87_12, ↓l_93, ↓s_93, ↓n_93, ↓g_87_13, ↓p_87_13, ↓g_87_14, ↓l_94, ↓s_94, ↓n_94, ↓g_87_15, ↓p_87_15, ↓g_87_16, ↓l_95, ↓s_95, ↓n_95, ↓g_87_17, ↓l_96, ↓s_96, ↓n_96, ↓g_87_18, ↓l_97, ↓s_97, ↓n_97, ↓g_87_19, ↓p_87_19, ↓g_87_20, ↓p_87_20, ↓g_87_21, ↓l_98, ↓s_98, ↓n_98, ↓g_87_22, ↓l_99, ↓s_99, ↓n_99, ↓g_87_23, ↓l_100, ↓s_100, ↓n_100, ↓g_87_24, ↓l_101, ↓s_101, ↓n_101, zr_rg, h1, zr_rg, h2, zr8_rg, h1, zr8_rg, h2, ht, zh, zr8_zr, zr_zbo, zbo_01, zbo_eq0, zbo_eq1, za, zb]
      repeat' (first | assumption | apply And.intro | intro _)
      all_goals first | omega | (refine pub_no hC ?_ rfl; simp only [R_ofCell]; (repeat' split) <;> first | rfl | omega) | (refine pub_id hC ?_; simp only [R_ofCell]; (repeat' split) <;> first | rfl | omega) | (refine pub_sd hC ?_; simp only [R_ofCell]; (repeat' split) <;> first | rfl | omega)
    · simp only [bk_X11_ofCell_0, k_X11_ofCell_0, bk_X11_ofCell_19, k_X11_ofCell_19, bk_X11_ofCell_25, k_X11_ofCell_25, bk_X11_ofCell_41, k_X11_ofCell_41, bk_X11_ofCell_58, k_X11_ofCell_58, bk_X11_ofCell_63, k_X11_ofCell_63, ↓e_rk1, ↓e_rk0, ↓e_sk0, ↓e_sks, ↓e_ldi0, ↓e_ldis, ↓e_ldl0, ↓e_ldls, ↓e_lda0, ↓e_ldas, ↓e_ok0, ↓e_okss, ↓e_ok1i, ↓e_ok1r, ↓e_ok1n, ↓e_sti, ↓e_sta, ↓e_1, ↓e_2, ↓e_l1, ↓e_l2, ↓e_li, ↓e_sw0, ↓e_sws, ↓e_ceq, ↓e_cne, ↓e_clt, ↓e_cge, ↓e_cgt, ↓e_cle, ↓e_nil, ↓e_cons, ↓e_iconst, ↓e_bipush, ↓e_sipush, ↓e_ldc, ↓e_ldcw, ↓e_ldc2, ↓e_lconst, ↓e_iloadn, ↓e_iload, ↓e_lloadn, ↓e_lload, ↓e_aloadn, ↓e_aload, ↓e_istoren, ↓e_istore, ↓e_astoren, ↓e_astore, ↓e_add, ↓e_iinc, ↓e_iadd, ↓e_isub, ↓e_imul, ↓e_iand, ↓e_ior, ↓e_ixor, ↓e_ishl, ↓e_iushr, ↓e_idiv, ↓e_irem, ↓e_ineg, ↓e_i2l, ↓e_i2b, ↓e_i2s, ↓e_l2i, ↓e_land, ↓e_lor, ↓e_lshl, ↓e_lshr, ↓e_lushr, ↓e_lcmp, ↓e_dupi, ↓e_dupr, ↓e_popi, ↓e_dup2, ↓e_goto, ↓e_if, ↓e_icmp, ↓e_tsw, ↓e_lsw, ↓e_getf, ↓e_putf, ↓e_gets, ↓e_iald, ↓e_cald, ↓e_iast, ↓e_aald, ↓e_aast, ↓e_len, ↓e_copy, ↓e_abs, ↓e_max, ↓e_min, ↓e_iret, ↓e_aret, ↓e_vret, ↓e_is0, ↓e_is1, ↓e_is2, ↓e_is3, ↓e_is4, ↓e_iv1, ↓e_iv2, ↓e_iv3, ↓e_iv4, ↓e_iv5, ↓e_iv6, ↓rt_X11_ofCell, ↓reduceIte, Nat.reduceAdd, Nat.reduceEqDiff, ↓zcl0, ↓zclv, List.map_nil, List.sum_nil, List.map_cons, List.sum_cons, zcat, true_and, and_true, Nat.reduceLeDiff, Nat.reduceAdd, eq_self, forall_const, e_ok0, e_okss, e_ok1i, e_ok1r, e_ok1n, zl_1, zl_6, zl_70, zq_0, zq_2, Int.reduceToNat, Int.reduceAdd, Int.reduceMul, Int.reduceSub, Int.reduceNeg, Int.reduceLT, Int.reduceLE, Int.reduceEq, not_false_eq_true, not_true_eq_false, false_implies, true_implies, implies_true, Int.reduceDiv, Int.reduceMod, zr8_zr, zr_zbo, z01_zbo, z01_0, z01_1, zbo_eq0, zup_eq, zup_o, zup_k, ne_eq, ↓ct_ofCell_isCell, ↓r_isCell, ↓B_isCell, ↓ct_ofCell_in, ↓r_in, ↓B_in, ↓ct_ofCell_finds, ↓r_finds, ↓B_finds, ↓ct_ofCell_headsAt, ↓r_headsAt, ↓B_headsAt, ↓v_87, ↓g_87_0, ↓l_88, ↓s_88, ↓n_88, ↓g_87_1, ↓l_89, ↓s_89, ↓n_89, ↓g_87_2, ↓l_90, ↓s_90, ↓n_90, ↓g_87_3, ↓p_87_3, ↓g_87_4, ↓l_91, ↓s_91, ↓n_91, ↓g_87_5, ↓p_87_5, ↓g_87_6, ↓p_87_6, ↓g_87_7, ↓p_87_7, ↓g_87_8, ↓p_87_8, ↓g_87_9, ↓p_87_9, ↓g_87_10, ↓p_87_10, ↓g_87_11, ↓l_92, ↓s_92, ↓n_92, ↓g_87_12, ↓l_93, ↓s_93, ↓n_93, ↓g_87_13, ↓p_87_13, ↓g_87_14, ↓l_94, ↓s_94, ↓n_94, ↓g_87_15, ↓p_87_15, ↓g_87_16, ↓l_95, ↓s_95, ↓n_95, ↓g_87_17, ↓l_96, ↓s_96, ↓n_96, ↓g_87_18, ↓l_97, ↓s_97, ↓n_97, ↓g_87_19, ↓p_87_19, ↓g_87_20, ↓p_87_20, ↓g_87_21, ↓l_98, ↓s_98, ↓n_98, ↓g_87_22, ↓l_99, ↓s_99, ↓n_99, ↓g_87_23, ↓l_100, ↓s_100, ↓n_100, ↓g_87_24, ↓l_101, ↓s_101, ↓n_101, zr_rg, h1, zr_rg, h2, zr8_rg, h1, zr8_rg, h2, ht, zh, zr8_zr, zr_zbo, zbo_01, zbo_eq0, zbo_eq1]
      repeat' (first | assumption | apply And.intro | intro _)
      all_goals first | omega | (refine pub_no hC ?_ rfl; simp only [R_ofCell]; (repeat' split) <;> first | rfl | omega) | (refine pub_id hC ?_; simp only [R_ofCell]; (repeat' split) <;> first | rfl | omega) | (refine pub_sd hC ?_; simp only [R_ofCell]; (repeat' split) <;> first | rfl | omega)
def R_delay (S : ZMm) (v : Int) : Int × ZMm := if 0 ≤ v ∧ v ≤ 9 then (S 88 2, zup S 88 2 v) else no S 1
def B_delay (v : Int) (M : Nat → Nat → Int) (post : Option ZV → (Nat → Nat → Int) → Prop) : Prop := rg v ∧ pub M (R_delay (st M) v) post
def C_delay : ZC := fun as h post => match as with
  | [.inr (.inr (.inl 87)), .inl v] => h.1 = zG ∧ B_delay v h.2 (fun v M => post v (zG, M))
  | _ => False
theorem r_delay {v : Int} {M : Nat → Nat → Int} {post : Option ZV → ZH → Prop} : C_delay [.inr (.inr (.inl 87)), .inl v] (zG, M) post = B_delay v M (fun v M => post v (zG, M)) := by show (zG = zG ∧ _) = _; simp
def ct_delay : Nat → ZC := fun n => if n = 120 then C_in else if n = 119 then C_finds else if n = 129 then C_becomes else fun _ _ _ => False
theorem ct_delay_in {as : List ZV} {h : ZH} {post : Option ZV → ZH → Prop} : ct_delay 120 as h post = C_in as h post := rfl
theorem ct_delay_finds {as : List ZV} {h : ZH} {post : Option ZV → ZH → Prop} : ct_delay 119 as h post = C_finds as h post := rfl
theorem ct_delay_becomes {as : List ZV} {h : ZH} {post : Option ZV → ZH → Prop} : ct_delay 129 as h post = C_becomes as h post := rfl
theorem c_delay {E : ZE} {d : Nat} (hd : 2 ≤ d) : zMet E d mX11_delay C_delay := by
  refine zmet_of (o := 11) (ini := false) (CT := ct_delay) gd_X11_delay rfl (fun h => by cases h) (by omega) ?_ ?_
  · intro n as h post hh
    unfold ct_delay at hh
    by_cases c : n = 120
    · subst c; exact ⟨gd_X11_in, 1, by omega, c_in (by omega)⟩
    rw [if_neg c] at hh
    by_cases c : n = 119
    · subst c; exact ⟨gd_X11_finds, 1, by omega, c_finds (by omega)⟩
    rw [if_neg c] at hh
    by_cases c : n = 129
    · subst c; exact ⟨gd_X11_becomes, 1, by omega, c_becomes (by omega)⟩
    rw [if_neg c] at hh
    exact hh.elim
  intro as h post hC
  match as, hC with
  | [.inr (.inr (.inl 87)), .inl v], hC =>
    refine ⟨Nat.le_of_ble_eq_true rfl, fun X hX => bs_X11_delay_0 hX ?_⟩
    obtain ⟨G, M⟩ := h
    obtain ⟨hG, hC⟩ := hC
    dsimp only at hG
    subst hG
    simp only [B_delay] at hC
    show bk_X11_delay_0 E ct_delay X _ [some (.inr (.inr (.inl 87))), some (.inl v)] [] (zG, M) (0, 0)
    obtain ⟨h1, hC⟩ := hC
    simp only [bk_X11_delay_0, k_X11_delay_0, bk_X11_delay_21, k_X11_delay_21, bk_X11_delay_26, k_X11_delay_26, ↓e_rk1, ↓e_rk0, ↓e_sk0, ↓e_sks, ↓e_ldi0, ↓e_ldis, ↓e_ldl0, ↓e_ldls, ↓e_lda0, ↓e_ldas, ↓e_ok0, ↓e_okss, ↓e_ok1i, ↓e_ok1r, ↓e_ok1n, ↓e_sti, ↓e_sta, ↓e_1, ↓e_2, ↓e_l1, ↓e_l2, ↓e_li, ↓e_sw0, ↓e_sws, ↓e_ceq, ↓e_cne, ↓e_clt, ↓e_cge, ↓e_cgt, ↓e_cle, ↓e_nil, ↓e_cons, ↓e_iconst, ↓e_bipush, ↓e_sipush, ↓e_ldc, ↓e_ldcw, ↓e_ldc2, ↓e_lconst, ↓e_iloadn, ↓e_iload, ↓e_lloadn, ↓e_lload, ↓e_aloadn, ↓e_aload, ↓e_istoren, ↓e_istore, ↓e_astoren, ↓e_astore, ↓e_add, ↓e_iinc, ↓e_iadd, ↓e_isub, ↓e_imul, ↓e_iand, ↓e_ior, ↓e_ixor, ↓e_ishl, ↓e_iushr, ↓e_idiv, ↓e_irem, ↓e_ineg, ↓e_i2l, ↓e_i2b, ↓e_i2s, ↓e_l2i, ↓e_land, ↓e_lor, ↓e_lshl, ↓e_lshr, ↓e_lushr, ↓e_lcmp, ↓e_dupi, ↓e_dupr, ↓e_popi, ↓e_dup2, ↓e_goto, ↓e_if, ↓e_icmp, ↓e_tsw, ↓e_lsw, ↓e_getf, ↓e_putf, ↓e_gets, ↓e_iald, ↓e_cald, ↓e_iast, ↓e_aald, ↓e_aast, ↓e_len, ↓e_copy, ↓e_abs, ↓e_max, ↓e_min, ↓e_iret, ↓e_aret, ↓e_vret, ↓e_is0, ↓e_is1, ↓e_is2, ↓e_is3, ↓e_is4, ↓e_iv1, ↓e_iv2, ↓e_iv3, ↓e_iv4, ↓e_iv5, ↓e_iv6, ↓rt_X11_delay, ↓reduceIte, Nat.reduceAdd, Nat.reduceEqDiff, ↓zcl0, ↓zclv, List.map_nil, List.sum_nil, List.map_cons, List.sum_cons, zcat, true_and, and_true, Nat.reduceLeDiff, Nat.reduceAdd, eq_self, forall_const, e_ok0, e_okss, e_ok1i, e_ok1r, e_ok1n, zl_1, zl_2, zq_0, zq_9, Int.reduceToNat, Int.reduceAdd, Int.reduceMul, Int.reduceSub, Int.reduceNeg, Int.reduceLT, Int.reduceLE, Int.reduceEq, not_false_eq_true, not_true_eq_false, false_implies, true_implies, implies_true, Int.reduceDiv, Int.reduceMod, zr8_zr, zr_zbo, z01_zbo, z01_0, z01_1, zbo_eq0, zup_eq, zup_o, zup_k, ne_eq, ↓ct_delay_in, ↓r_in, ↓B_in, ↓ct_delay_finds, ↓r_finds, ↓B_finds, ↓ct_delay_becomes, ↓r_becomes, ↓B_becomes, ↓v_87, ↓g_87_0, ↓l_88, ↓s_88, ↓n_88, ↓g_87_1, ↓l_89, ↓s_89, ↓n_89, ↓g_87_2, ↓l_90, ↓s_90, ↓n_90, ↓g_87_3, ↓p_87_3, ↓g_87_4, ↓l_91, ↓s_91, ↓n_91, ↓g_87_5, ↓p_87_5, ↓g_87_6, ↓p_87_6, ↓g_87_7, ↓p_87_7, ↓g_87_8, ↓p_87_8, ↓g_87_9, ↓p_87_9, ↓g_87_10, ↓p_87_10, ↓g_87_11, ↓l_92, ↓s_92, ↓n_92, ↓g_87_12, ↓l_93, ↓s_93, ↓n_93, ↓g_87_13, ↓p_87_13, ↓g_87_14, ↓l_94, ↓s_94, ↓n_94, ↓g_87_15, ↓p_87_15, ↓g_87_16, ↓l_95, ↓s_95, ↓n_95, ↓g_87_17, ↓l_96, ↓s_96, ↓n_96, ↓g_87_18, ↓l_97, ↓s_97, ↓n_97, ↓g_87_19, ↓p_87_19, ↓g_87_20, ↓p_87_20, ↓g_87_21, ↓l_98, ↓s_98, ↓n_98, ↓g_87_22, ↓l_99, ↓s_99, ↓n_99, ↓g_87_23, ↓l_100, ↓s_100, ↓n_100, ↓g_87_24, ↓l_101, ↓s_101, ↓n_101, zr_rg, h1, zr8_rg, h1, zr8_zr, zr_zbo, zbo_01, zbo_eq0, zbo_eq1]
    repeat' (first | assumption | apply And.intro | intro _)
    all_goals first | omega | (refine pub_no hC ?_ rfl; simp only [R_delay]; (repeat' split) <;> first | rfl | omega) | (refine pub_id hC ?_; simp only [R_delay]; (repeat' split) <;> first | rfl | omega) | (refine pub_sd hC ?_; simp only [R_delay]; (repeat' split) <;> first | rfl | omega)
def R_change (S : ZMm) (e v : Int) : Int × ZMm := if (0 ≤ e ∧ e < S 88 0) ∧ 0 ≤ v ∧ v ≤ 1 then (ei (S 88) e 2, zup S 88 (162 + 3 * e + 2).toNat v) else no S 1
def B_change (e : Int) (v : Int) (M : Nat → Nat → Int) (post : Option ZV → (Nat → Nat → Int) → Prop) : Prop := rg e ∧ rg v ∧ pub M (R_change (st M) e v) post
def C_change : ZC := fun as h post => match as with
  | [.inr (.inr (.inl 87)), .inl e, .inl v] => h.1 = zG ∧ B_change e v h.2 (fun v M => post v (zG, M))
  | _ => False
theorem r_change {e : Int} {v : Int} {M : Nat → Nat → Int} {post : Option ZV → ZH → Prop} : C_change [.inr (.inr (.inl 87)), .inl e, .inl v] (zG, M) post = B_change e v M (fun v M => post v (zG, M)) := by show (zG = zG ∧ _) = _; simp
def ct_change : Nat → ZC := fun n => if n = 123 then C_isEngineer else if n = 125 then C_isHead else if n = 119 then C_finds else if n = 129 then C_becomes else fun _ _ _ => False
theorem ct_change_isEngineer {as : List ZV} {h : ZH} {post : Option ZV → ZH → Prop} : ct_change 123 as h post = C_isEngineer as h post := rfl
theorem ct_change_isHead {as : List ZV} {h : ZH} {post : Option ZV → ZH → Prop} : ct_change 125 as h post = C_isHead as h post := rfl
theorem ct_change_finds {as : List ZV} {h : ZH} {post : Option ZV → ZH → Prop} : ct_change 119 as h post = C_finds as h post := rfl
theorem ct_change_becomes {as : List ZV} {h : ZH} {post : Option ZV → ZH → Prop} : ct_change 129 as h post = C_becomes as h post := rfl
theorem c_change {E : ZE} {d : Nat} (hd : 3 ≤ d) : zMet E d mX11_change C_change := by
  refine zmet_of (o := 11) (ini := false) (CT := ct_change) gd_X11_change rfl (fun h => by cases h) (by omega) ?_ ?_
  · intro n as h post hh
    unfold ct_change at hh
    by_cases c : n = 123
    · subst c; exact ⟨gd_X11_isEngineer, 2, by omega, c_isEngineer (by omega)⟩
    rw [if_neg c] at hh
    by_cases c : n = 125
    · subst c; exact ⟨gd_X11_isHead, 2, by omega, c_isHead (by omega)⟩
    rw [if_neg c] at hh
    by_cases c : n = 119
    · subst c; exact ⟨gd_X11_finds, 1, by omega, c_finds (by omega)⟩
    rw [if_neg c] at hh
    by_cases c : n = 129
    · subst c; exact ⟨gd_X11_becomes, 1, by omega, c_becomes (by omega)⟩
    rw [if_neg c] at hh
    exact hh.elim
  intro as h post hC
  match as, hC with
  | [.inr (.inr (.inl 87)), .inl e, .inl v], hC =>
    refine ⟨Nat.le_of_ble_eq_true rfl, fun X hX => bs_X11_change_0 hX ?_⟩
    obtain ⟨G, M⟩ := h
    obtain ⟨hG, hC⟩ := hC
    dsimp only at hG
    subst hG
    simp only [B_change] at hC
    show bk_X11_change_0 E ct_change X _ [some (.inr (.inr (.inl 87))), some (.inl e), some (.inl v)] [] (zG, M) (0, 0)
    obtain ⟨h1, h2, hC⟩ := hC
    have vd : Vd (M 88) := hC.1.1
    have v0 := vd.1
    have s0 : st M 88 0 = M 88 0 := rfl
    simp only [bk_X11_change_0, k_X11_change_0, bk_X11_change_32, k_X11_change_32, bk_X11_change_37, k_X11_change_37, ↓e_rk1, ↓e_rk0, ↓e_sk0, ↓e_sks, ↓e_ldi0, ↓e_ldis, ↓e_ldl0, ↓e_ldls, ↓e_lda0, ↓e_ldas, ↓e_ok0, ↓e_okss, ↓e_ok1i, ↓e_ok1r, ↓e_ok1n, ↓e_sti, ↓e_sta, ↓e_1, ↓e_2, ↓e_l1, ↓e_l2, ↓e_li, ↓e_sw0, ↓e_sws, ↓e_ceq, ↓e_cne, ↓e_clt, ↓e_cge, ↓e_cgt, ↓e_cle, ↓e_nil, ↓e_cons, ↓e_iconst, ↓e_bipush, ↓e_sipush, ↓e_ldc, ↓e_ldcw, ↓e_ldc2, ↓e_lconst, ↓e_iloadn, ↓e_iload, ↓e_lloadn, ↓e_lload, ↓e_aloadn, ↓e_aload, ↓e_istoren, ↓e_istore, ↓e_astoren, ↓e_astore, ↓e_add, ↓e_iinc, ↓e_iadd, ↓e_isub, ↓e_imul, ↓e_iand, ↓e_ior, ↓e_ixor, ↓e_ishl, ↓e_iushr, ↓e_idiv, ↓e_irem, ↓e_ineg, ↓e_i2l, ↓e_i2b, ↓e_i2s, ↓e_l2i, ↓e_land, ↓e_lor, ↓e_lshl, ↓e_lshr, ↓e_lushr, ↓e_lcmp, ↓e_dupi, ↓e_dupr, ↓e_popi, ↓e_dup2, ↓e_goto, ↓e_if, ↓e_icmp, ↓e_tsw, ↓e_lsw, ↓e_getf, ↓e_putf, ↓e_gets, ↓e_iald, ↓e_cald, ↓e_iast, ↓e_aald, ↓e_aast, ↓e_len, ↓e_copy, ↓e_abs, ↓e_max, ↓e_min, ↓e_iret, ↓e_aret, ↓e_vret, ↓e_is0, ↓e_is1, ↓e_is2, ↓e_is3, ↓e_is4, ↓e_iv1, ↓e_iv2, ↓e_iv3, ↓e_iv4, ↓e_iv5, ↓e_iv6, ↓rt_X11_change, ↓reduceIte, Nat.reduceAdd, Nat.reduceEqDiff, ↓zcl0, ↓zclv, List.map_nil, List.sum_nil, List.map_cons, List.sum_cons, zcat, true_and, and_true, Nat.reduceLeDiff, Nat.reduceAdd, eq_self, forall_const, e_ok0, e_okss, e_ok1i, e_ok1r, e_ok1n, zl_1, zl_2, zl_3, zl_162, Int.reduceToNat, Int.reduceAdd, Int.reduceMul, Int.reduceSub, Int.reduceNeg, Int.reduceLT, Int.reduceLE, Int.reduceEq, not_false_eq_true, not_true_eq_false, false_implies, true_implies, implies_true, Int.reduceDiv, Int.reduceMod, zr8_zr, zr_zbo, z01_zbo, z01_0, z01_1, zbo_eq0, zup_eq, zup_o, zup_k, ne_eq, ↓ct_change_isEngineer, ↓r_isEngineer, ↓B_isEngineer, ↓ct_change_isHead, ↓r_isHead, ↓B_isHead, ↓ct_change_finds, ↓r_finds, ↓B_finds, ↓ct_change_becomes, ↓r_becomes, ↓B_becomes, ↓v_87, ↓g_87_0, ↓l_88, ↓s_88, ↓n_88, ↓g_87_1, ↓l_89, ↓s_89, ↓n_89, ↓g_87_2, ↓l_90, ↓s_90, ↓n_90, ↓g_87_3, ↓p_87_3, ↓g_87_4, ↓l_91, ↓s_91, ↓n_91, ↓g_87_5, ↓p_87_5, ↓g_87_6, ↓p_87_6, ↓g_87_7, ↓p_87_7, ↓g_87_8, ↓p_87_8, ↓g_87_9, ↓p_87_9, ↓g_87_10, ↓p_87_10, ↓g_87_11, ↓l_92, ↓s_92, ↓n_92, ↓g_87_12, ↓l_93, ↓s_93, ↓n_93, ↓g_87_13, ↓p_87_13, ↓g_87_14, ↓l_94, ↓s_94, ↓n_94, ↓g_87_15, ↓p_87_15, ↓g_87_16, ↓l_95, ↓s_95, ↓n_95, ↓g_87_17, ↓l_96, ↓s_96, ↓n_96, ↓g_87_18, ↓l_97, ↓s_97, ↓n_97, ↓g_87_19, ↓p_87_19, ↓g_87_20, ↓p_87_20, ↓g_87_21, ↓l_98, ↓s_98, ↓n_98, ↓g_87_22, ↓l_99, ↓s_99, ↓n_99, ↓g_87_23, ↓l_100, ↓s_100, ↓n_100, ↓g_87_24, ↓l_101, ↓s_101, ↓n_101, zr_rg, h1, zr_rg, h2, zr8_rg, h1, zr8_rg, h2, zr8_zr, zr_zbo, zbo_01, zbo_eq0, zbo_eq1]
    repeat' (first | assumption | apply And.intro | intro _)
    all_goals first | omega | (refine pub_no hC ?_ rfl; simp only [R_change]; (repeat' split) <;> first | rfl | omega) | (refine pub_id hC ?_; simp only [R_change]; (repeat' split) <;> first | rfl | omega) | (refine pub_sd hC ?_; simp only [R_change]; (repeat' split) <;> first | rfl | omega)
def B_seed (v : Int) (M : Nat → Nat → Int) (post : Option ZV → (Nat → Nat → Int) → Prop) : Prop := pub M (st M 88 3, zup (st M) 88 3 v) post
def C_seed : ZC := fun as h post => match as with
  | [.inr (.inr (.inl 87)), .inl v] => h.1 = zG ∧ B_seed v h.2 (fun v M => post v (zG, M))
  | _ => False
theorem r_seed {v : Int} {M : Nat → Nat → Int} {post : Option ZV → ZH → Prop} : C_seed [.inr (.inr (.inl 87)), .inl v] (zG, M) post = B_seed v M (fun v M => post v (zG, M)) := by show (zG = zG ∧ _) = _; simp
def ct_seed : Nat → ZC := fun n => if n = 129 then C_becomes else fun _ _ _ => False
theorem ct_seed_becomes {as : List ZV} {h : ZH} {post : Option ZV → ZH → Prop} : ct_seed 129 as h post = C_becomes as h post := rfl
theorem c_seed {E : ZE} {d : Nat} (hd : 2 ≤ d) : zMet E d mX11_seed C_seed := by
  refine zmet_of (o := 11) (ini := false) (CT := ct_seed) gd_X11_seed rfl (fun h => by cases h) (by omega) ?_ ?_
  · intro n as h post hh
    unfold ct_seed at hh
    by_cases c : n = 129
    · subst c; exact ⟨gd_X11_becomes, 1, by omega, c_becomes (by omega)⟩
    rw [if_neg c] at hh
    exact hh.elim
  intro as h post hC
  match as, hC with
  | [.inr (.inr (.inl 87)), .inl v], hC =>
    refine ⟨Nat.le_of_ble_eq_true rfl, fun X hX => bs_X11_seed_0 hX ?_⟩
    obtain ⟨G, M⟩ := h
    obtain ⟨hG, hC⟩ := hC
    dsimp only at hG
    subst hG
    simp only [B_seed] at hC
    show bk_X11_seed_0 E ct_seed X _ [some (.inr (.inr (.inl 87))), some (.inl v)] [] (zG, M) (0, 0)
    simp only [bk_X11_seed_0, k_X11_seed_0, ↓e_rk1, ↓e_rk0, ↓e_sk0, ↓e_sks, ↓e_ldi0, ↓e_ldis, ↓e_ldl0, ↓e_ldls, ↓e_lda0, ↓e_ldas, ↓e_ok0, ↓e_okss, ↓e_ok1i, ↓e_ok1r, ↓e_ok1n, ↓e_sti, ↓e_sta, ↓e_1, ↓e_2, ↓e_l1, ↓e_l2, ↓e_li, ↓e_sw0, ↓e_sws, ↓e_ceq, ↓e_cne, ↓e_clt, ↓e_cge, ↓e_cgt, ↓e_cle, ↓e_nil, ↓e_cons, ↓e_iconst, ↓e_bipush, ↓e_sipush, ↓e_ldc, ↓e_ldcw, ↓e_ldc2, ↓e_lconst, ↓e_iloadn, ↓e_iload, ↓e_lloadn, ↓e_lload, ↓e_aloadn, ↓e_aload, ↓e_istoren, ↓e_istore, ↓e_astoren, ↓e_astore, ↓e_add, ↓e_iinc, ↓e_iadd, ↓e_isub, ↓e_imul, ↓e_iand, ↓e_ior, ↓e_ixor, ↓e_ishl, ↓e_iushr, ↓e_idiv, ↓e_irem, ↓e_ineg, ↓e_i2l, ↓e_i2b, ↓e_i2s, ↓e_l2i, ↓e_land, ↓e_lor, ↓e_lshl, ↓e_lshr, ↓e_lushr, ↓e_lcmp, ↓e_dupi, ↓e_dupr, ↓e_popi, ↓e_dup2, ↓e_goto, ↓e_if, ↓e_icmp, ↓e_tsw, ↓e_lsw, ↓e_getf, ↓e_putf, ↓e_gets, ↓e_iald, ↓e_cald, ↓e_iast, ↓e_aald, ↓e_aast, ↓e_len, ↓e_copy, ↓e_abs, ↓e_max, ↓e_min, ↓e_iret, ↓e_aret, ↓e_vret, ↓e_is0, ↓e_is1, ↓e_is2, ↓e_is3, ↓e_is4, ↓e_iv1, ↓e_iv2, ↓e_iv3, ↓e_iv4, ↓e_iv5, ↓e_iv6, ↓rt_X11_seed, ↓reduceIte, Nat.reduceAdd, Nat.reduceEqDiff, ↓zcl0, ↓zclv, List.map_nil, List.sum_nil, List.map_cons, List.sum_cons, zcat, true_and, and_true, Nat.reduceLeDiff, Nat.reduceAdd, eq_self, forall_const, e_ok0, e_okss, e_ok1i, e_ok1r, e_ok1n, zl_3, Int.reduceToNat, Int.reduceAdd, Int.reduceMul, Int.reduceSub, Int.reduceNeg, Int.reduceLT, Int.reduceLE, Int.reduceEq, not_false_eq_true, not_true_eq_false, false_implies, true_implies, implies_true, Int.reduceDiv, Int.reduceMod, zr8_zr, zr_zbo, z01_zbo, z01_0, z01_1, zbo_eq0, zup_eq, zup_o, zup_k, ne_eq, ↓ct_seed_becomes, ↓r_becomes, ↓B_becomes, ↓v_87, ↓g_87_0, ↓l_88, ↓s_88, ↓n_88, ↓g_87_1, ↓l_89, ↓s_89, ↓n_89, ↓g_87_2, ↓l_90, ↓s_90, ↓n_90, ↓g_87_3, ↓p_87_3, ↓g_87_4, ↓l_91, ↓s_91, ↓n_91, ↓g_87_5, ↓p_87_5, ↓g_87_6, ↓p_87_6, ↓g_87_7, ↓p_87_7, ↓g_87_8, ↓p_87_8, ↓g_87_9, ↓p_87_9, ↓g_87_10, ↓p_87_10, ↓g_87_11, ↓l_92, ↓s_92, ↓n_92, ↓g_87_12, ↓l_93, ↓s_93, ↓n_93, ↓g_87_13, ↓p_87_13, ↓g_87_14, ↓l_94, ↓s_94, ↓n_94, ↓g_87_15, ↓p_87_15, ↓g_87_16, ↓l_95, ↓s_95, ↓n_95, ↓g_87_17, ↓l_96, ↓s_96, ↓n_96, ↓g_87_18, ↓l_97, ↓s_97, ↓n_97, ↓g_87_19, ↓p_87_19, ↓g_87_20, ↓p_87_20, ↓g_87_21, ↓l_98, ↓s_98, ↓n_98, ↓g_87_22, ↓l_99, ↓s_99, ↓n_99, ↓g_87_23, ↓l_100, ↓s_100, ↓n_100, ↓g_87_24, ↓l_101, ↓s_101, ↓n_101]
    exact pub_sd hC rfl
def R_told (S : ZMm) (k : Int) : Int × ZMm := if 1 ≤ k ∧ k ≤ 5 then (S 91 k.toNat, S) else no S 1
def B_told (k : Int) (M : Nat → Nat → Int) (post : Option ZV → (Nat → Nat → Int) → Prop) : Prop := rg k ∧ pub M (R_told (st M) k) post
def C_told : ZC := fun as h post => match as with
  | [.inr (.inr (.inl 87)), .inl k] => h.1 = zG ∧ B_told k h.2 (fun v M => post v (zG, M))
  | _ => False
theorem r_told {k : Int} {M : Nat → Nat → Int} {post : Option ZV → ZH → Prop} : C_told [.inr (.inr (.inl 87)), .inl k] (zG, M) post = B_told k M (fun v M => post v (zG, M)) := by show (zG = zG ∧ _) = _; simp
def ct_told : Nat → ZC := fun n => if n = 120 then C_in else if n = 119 then C_finds else fun _ _ _ => False
theorem ct_told_in {as : List ZV} {h : ZH} {post : Option ZV → ZH → Prop} : ct_told 120 as h post = C_in as h post := rfl
theorem ct_told_finds {as : List ZV} {h : ZH} {post : Option ZV → ZH → Prop} : ct_told 119 as h post = C_finds as h post := rfl
theorem c_told {E : ZE} {d : Nat} (hd : 2 ≤ d) : zMet E d mX11_told C_told := by
  refine zmet_of (o := 11) (ini := false) (CT := ct_told) gd_X11_told rfl (fun h => by cases h) (by omega) ?_ ?_
  · intro n as h post hh
    unfold ct_told at hh
    by_cases c : n = 120
    · subst c; exact ⟨gd_X11_in, 1, by omega, c_in (by omega)⟩
    rw [if_neg c] at hh
    by_cases c : n = 119
    · subst c; exact ⟨gd_X11_finds, 1, by omega, c_finds (by omega)⟩
    rw [if_neg c] at hh
    exact hh.elim
  intro as h post hC
  match as, hC with
  | [.inr (.inr (.inl 87)), .inl k], hC =>
    refine ⟨Nat.le_of_ble_eq_true rfl, fun X hX => bs_X11_told_0 hX ?_⟩
    obtain ⟨G, M⟩ := h
    obtain ⟨hG, hC⟩ := hC
    dsimp only at hG
    subst hG
    simp only [B_told] at hC
    show bk_X11_told_0 E ct_told X _ [some (.inr (.inr (.inl 87))), some (.inl k)] [] (zG, M) (0, 0)
    obtain ⟨h1, hC⟩ := hC
    simp only [bk_X11_told_0, k_X11_told_0, bk_X11_told_21, k_X11_told_21, bk_X11_told_26, k_X11_told_26, ↓e_rk1, ↓e_rk0, ↓e_sk0, ↓e_sks, ↓e_ldi0, ↓e_ldis, ↓e_ldl0, ↓e_ldls, ↓e_lda0, ↓e_ldas, ↓e_ok0, ↓e_okss, ↓e_ok1i, ↓e_ok1r, ↓e_ok1n, ↓e_sti, ↓e_sta, ↓e_1, ↓e_2, ↓e_l1, ↓e_l2, ↓e_li, ↓e_sw0, ↓e_sws, ↓e_ceq, ↓e_cne, ↓e_clt, ↓e_cge, ↓e_cgt, ↓e_cle, ↓e_nil, ↓e_cons, ↓e_iconst, ↓e_bipush, ↓e_sipush, ↓e_ldc, ↓e_ldcw, ↓e_ldc2, ↓e_lconst, ↓e_iloadn, ↓e_iload, ↓e_lloadn, ↓e_lload, ↓e_aloadn, ↓e_aload, ↓e_istoren, ↓e_istore, ↓e_astoren, ↓e_astore, ↓e_add, ↓e_iinc, ↓e_iadd, ↓e_isub, ↓e_imul, ↓e_iand, ↓e_ior, ↓e_ixor, ↓e_ishl, ↓e_iushr, ↓e_idiv, ↓e_irem, ↓e_ineg, ↓e_i2l, ↓e_i2b, ↓e_i2s, ↓e_l2i, ↓e_land, ↓e_lor, ↓e_lshl, ↓e_lshr, ↓e_lushr, ↓e_lcmp, ↓e_dupi, ↓e_dupr, ↓e_popi, ↓e_dup2, ↓e_goto, ↓e_if, ↓e_icmp, ↓e_tsw, ↓e_lsw, ↓e_getf, ↓e_putf, ↓e_gets, ↓e_iald, ↓e_cald, ↓e_iast, ↓e_aald, ↓e_aast, ↓e_len, ↓e_copy, ↓e_abs, ↓e_max, ↓e_min, ↓e_iret, ↓e_aret, ↓e_vret, ↓e_is0, ↓e_is1, ↓e_is2, ↓e_is3, ↓e_is4, ↓e_iv1, ↓e_iv2, ↓e_iv3, ↓e_iv4, ↓e_iv5, ↓e_iv6, ↓rt_X11_told, ↓reduceIte, Nat.reduceAdd, Nat.reduceEqDiff, ↓zcl0, ↓zclv, List.map_nil, List.sum_nil, List.map_cons, List.sum_cons, zcat, true_and, and_true, Nat.reduceLeDiff, Nat.reduceAdd, eq_self, forall_const, e_ok0, e_okss, e_ok1i, e_ok1r, e_ok1n, zl_1, zq_1, zq_5, Int.reduceToNat, Int.reduceAdd, Int.reduceMul, Int.reduceSub, Int.reduceNeg, Int.reduceLT, Int.reduceLE, Int.reduceEq, not_false_eq_true, not_true_eq_false, false_implies, true_implies, implies_true, Int.reduceDiv, Int.reduceMod, zr8_zr, zr_zbo, z01_zbo, z01_0, z01_1, zbo_eq0, zup_eq, zup_o, zup_k, ne_eq, ↓ct_told_in, ↓r_in, ↓B_in, ↓ct_told_finds, ↓r_finds, ↓B_finds, ↓v_87, ↓g_87_0, ↓l_88, ↓s_88, ↓n_88, ↓g_87_1, ↓l_89, ↓s_89, ↓n_89, ↓g_87_2, ↓l_90, ↓s_90, ↓n_90, ↓g_87_3, ↓p_87_3, ↓g_87_4, ↓l_91, ↓s_91, ↓n_91, ↓g_87_5, ↓p_87_5, ↓g_87_6, ↓p_87_6, ↓g_87_7, ↓p_87_7, ↓g_87_8, ↓p_87_8, ↓g_87_9, ↓p_87_9, ↓g_87_10, ↓p_87_10, ↓g_87_11, ↓l_92, ↓s_92, ↓n_92, ↓g_87_12, ↓l_93, ↓s_93, ↓n_93, ↓g_87_13, ↓p_87_13, ↓g_87_14, ↓l_94, ↓s_94, ↓n_94, ↓g_87_15, ↓p_87_15, ↓g_87_16, ↓l_95, ↓s_95, ↓n_95, ↓g_87_17, ↓l_96, ↓s_96, ↓n_96, ↓g_87_18, ↓l_97, ↓s_97, ↓n_97, ↓g_87_19, ↓p_87_19, ↓g_87_20, ↓p_87_20, ↓g_87_21, ↓l_98, ↓s_98, ↓n_98, ↓g_87_22, ↓l_99, ↓s_99, ↓n_99, ↓g_87_23, ↓l_100, ↓s_100, ↓n_100, ↓g_87_24, ↓l_101, ↓s_101, ↓n_101, zr_rg, h1, zr8_rg, h1, zr8_zr, zr_zbo, zbo_01, zbo_eq0, zbo_eq1]
    repeat' (first | assumption | apply And.intro | intro _)
    all_goals first | omega | (refine pub_no hC ?_ rfl; simp only [R_told]; (repeat' split) <;> first | rfl | omega) | (refine pub_id hC ?_; simp only [R_told]; (repeat' split) <;> first | rfl | omega) | (refine pub_sd hC ?_; simp only [R_told]; (repeat' split) <;> first | rfl | omega)
