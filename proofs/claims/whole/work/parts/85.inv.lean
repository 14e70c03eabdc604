/-! WHAT HOLDS ALWAYS IS KEPT BY EVERY CALL -/
def Inq (n : Int) (S : ZMm) : Prop := Vs S ∧ S 87 3 ≤ n
theorem In_cg {n : Int} {S S' : ZMm} (h : Inq n S) (e : ∀ x, x = 87 ∨ x = 88 ∨ x = 89 ∨ x = 98 ∨ x = 99 ∨ x = 100 → S' x = S x) : Inq (n + 1) S' := by
  unfold Inq Vs at *
  rw [e 87 (by omega), e 88 (by omega), e 89 (by omega), e 98 (by omega), e 99 (by omega), e 100 (by omega)]
  exact ⟨h.1, by omega⟩
theorem In_id {n : Int} {S : ZMm} (h : Inq n S) : Inq (n + 1) S := In_cg h (fun _ _ => rfl)
theorem In_no {n : Int} {S : ZMm} {k : Nat} (h : Inq n S) : Inq (n + 1) (no S k).2 := In_cg h (fun x q => zup_ne _ (by omega))
theorem r88_88 {S : ZMm} {f : Nat → Int} : r88 S f 88 = f := by
  unfold r88
  rw [if_pos rfl]
theorem r88_x {S : ZMm} {f : Nat → Int} {x : Nat} (h : ¬ x = 88) : r88 S f x = S x := by
  unfold r88
  rw [if_neg h]
theorem In_88 {n : Int} {S : ZMm} {f : Nat → Int} (h : Inq n S) (vd : Vd f) (h1 : f 1 ≤ 9999) (a : ∀ k, 188 ≤ k → k < 208 → rg (f k)) (b : ∀ k, 308 ≤ k → k < 358 → rg (f k)) : Inq (n + 1) (r88 S f) := by
  obtain ⟨⟨v1, v2, v3, v4, v5, v6, v7, v8, v9, v10, v11, v12⟩, i⟩ := h
  unfold Inq Vs
  rw [r88_88, r88_x (by decide), r88_x (by decide), r88_x (by decide), r88_x (by decide), r88_x (by decide)]
  exact ⟨⟨vd, h1, v3, v4, v5, v6, v7, a, v9, v10, b, v12⟩, by omega⟩
theorem In_lo {n : Int} {S : ZMm} {f : Nat → Int} (h : Inq n S) (vd : Vd f) (h1 : f 1 ≤ 9999) (e : ∀ k, 186 ≤ k → f k = S 88 k) : Inq (n + 1) (r88 S f) := by
  refine In_88 h vd h1 (fun k a b => ?_) (fun k a b => ?_)
  · rw [e k (by omega)]; exact h.1.2.2.2.2.2.2.2.1 k a b
  · rw [e k (by omega)]; exact h.1.2.2.2.2.2.2.2.2.2.2.1 k a b
theorem zup_88 {S : ZMm} {k : Nat} {v : Int} : zup S 88 k v = r88 S (up1 (S 88) k v) := by
  funext x j
  unfold zup r88 up1
  by_cases q : x = 88
  · subst q
    rw [if_pos rfl]
    by_cases q2 : j = k
    · rw [if_pos ⟨rfl, q2⟩, if_pos q2]
    · rw [if_neg (by omega), if_neg q2]
  · rw [if_neg (by omega), if_neg q]
theorem In_up {n : Int} {S : ZMm} {k : Nat} {v : Int} (h : Inq n S) (hk : k < 186) (h1 : ¬ k = 1) (hv : k = 3 ∨ (0 ≤ v ∧ v ≤ ub k)) : Inq (n + 1) (r88 S (up1 (S 88) k v)) :=
  In_lo h (Vd_up h.1.1 hk hv) (by rw [up1_ne (by omega)]; exact h.1.2.1) (fun j q => up1_ne (by omega))
theorem Vd_eq {d d' : Nat → Int} (h : Vd d) (e : ∀ k, k < 188 ∨ (208 ≤ k ∧ k < 308) → d' k = d k) : Vd d' := by
  refine Vd_of (fun k a b => ?_) (Vt_eq (Or.inl rfl) h.2.2.2.2.2.2.2.2.2.2.1 (fun k q => e k (by omega))) (Vt_eq (Or.inr rfl) h.2.2.2.2.2.2.2.2.2.2.2 (fun k q => e k (by omega)))
  rw [e k (by omega)]
  exact Vd_b h a b
theorem I_rock {n : Int} {S : ZMm} (h : Inq n S) {c v : Int} : Inq (n + 1) (R_rock S c v).2 := by
  unfold R_rock
  split
  · dsimp only
    rw [zup_88]
    exact In_up h (by omega) (by omega) (Or.inr ⟨by omega, by unfold ub; (repeat' split) <;> omega⟩)
  · exact In_no h
theorem I_dig {n : Int} {S : ZMm} (h : Inq n S) {c v : Int} : Inq (n + 1) (R_dig S c v).2 := by
  unfold R_dig
  split
  · split
    · exact In_no h
    · dsimp only
      rw [zup_88]
      exact In_up h (by omega) (by omega) (Or.inr ⟨by omega, by unfold ub; (repeat' split) <;> omega⟩)
  · exact In_no h
theorem I_ofCell {n : Int} {S : ZMm} (h : Inq n S) {c w : Int} : Inq (n + 1) (R_ofCell S c w).2 := by
  unfold R_ofCell
  split
  · exact In_id h
  · exact In_no h
theorem I_head {n : Int} {S : ZMm} (h : Inq n S) {g w v : Int} : Inq (n + 1) (R_head S g w v).2 := by
  unfold R_head
  split
  next q =>
    dsimp only
    split
    · exact In_lo h (Vd_ptd h.1.1 (by omega) (by omega) (by omega) (by omega)) (by rw [ptd_1 (by omega) (by omega)]; exact h.1.2.1) (fun k hk => ptd_hi (by omega) (by omega) (by omega) (by omega) (by omega))
    · refine In_up h (by omega) (by omega) (Or.inr ⟨by omega, ?_⟩)
      obtain ⟨⟨⟨g0, g1⟩, w0, w1⟩, v0, q⟩ := q
      have hg : g = 0 ∨ g = 1 := by omega
      have hw : w = 1 ∨ w = 2 := by omega
      rcases hg with e | e <;> rcases hw with e2 | e2 <;> subst e <;> subst e2
      · show v ≤ 20; omega
      · show v ≤ 99; omega
      · show v ≤ 20; omega
      · show v ≤ 99; omega
  next => exact In_no h
theorem I_ofHead {n : Int} {S : ZMm} (h : Inq n S) {g w : Int} : Inq (n + 1) (R_ofHead S g w).2 := by
  unfold R_ofHead
  split
  · exact In_id h
  · exact In_no h
theorem I_delay {n : Int} {S : ZMm} (h : Inq n S) {v : Int} : Inq (n + 1) (R_delay S v).2 := by
  unfold R_delay
  split
  · dsimp only
    rw [zup_88]
    exact In_up h (by omega) (by omega) (Or.inr ⟨by omega, by show v ≤ 9; omega⟩)
  · exact In_no h
theorem I_engineer {n : Int} {S : ZMm} (h : Inq n S) {k s : Int} : Inq (n + 1) (R_engineer S k s).2 := by
  unfold R_engineer
  have v0 := h.1.1.1
  have v1 := h.1.2.1
  split
  · split
    · exact In_no h
    · refine In_lo h (Vd_up (Vd_up (Vd_up (Vd_up h.1.1 (by omega) (Or.inr ⟨by omega, ?_⟩)) (by omega) (Or.inr ⟨by omega, ?_⟩)) (by omega) (Or.inr ⟨by omega, ?_⟩)) (by omega) (Or.inr ⟨by omega, ?_⟩)) ?_ (fun j q => ?_)
      · unfold ub; (repeat' split) <;> omega
      · unfold ub; (repeat' split) <;> omega
      · unfold ub; (repeat' split) <;> omega
      · show S 88 0 + 1 ≤ 8; omega
      · rw [up1_ne (by omega), up1_ne (by omega), up1_ne (by omega), up1_ne (by omega)]; exact v1
      · rw [up1_ne (by omega), up1_ne (by omega), up1_ne (by omega), up1_ne (by omega)]
  · exact In_no h
theorem I_ofEngineer {n : Int} {S : ZMm} (h : Inq n S) {e w : Int} : Inq (n + 1) (R_ofEngineer S e w).2 := by
  unfold R_ofEngineer
  split
  · exact In_id h
  · exact In_no h
theorem I_change {n : Int} {S : ZMm} (h : Inq n S) {e v : Int} : Inq (n + 1) (R_change S e v).2 := by
  unfold R_change
  have v0 := h.1.1.1
  split
  · dsimp only
    rw [zup_88]
    exact In_up h (by omega) (by omega) (Or.inr ⟨by omega, by unfold ub; (repeat' split) <;> omega⟩)
  · exact In_no h
theorem I_become {n : Int} {S : ZMm} (h : Inq n S) {e k : Int} : Inq (n + 1) (R_become S e k).2 := by
  unfold R_become
  have v0 := h.1.1.1
  have v1 := h.1.2.1
  split
  · refine In_lo h (Vd_up (Vd_up h.1.1 (by omega) (Or.inr ⟨by omega, ?_⟩)) (by omega) (Or.inr ⟨by omega, ?_⟩)) ?_ (fun j q => ?_)
    · unfold ub; (repeat' split) <;> omega
    · unfold ub; (repeat' split) <;> omega
    · rw [up1_ne (by omega), up1_ne (by omega)]; exact v1
    · rw [up1_ne (by omega), up1_ne (by omega)]
  · exact In_no h
theorem I_as {n : Int} {S : ZMm} (h : Inq n S) {e k : Int} : Inq (n + 1) (R_as S e k).2 := by
  unfold R_as
  split
  · split
    · exact In_id h
    · exact In_no h
  · exact In_no h
theorem I_told {n : Int} {S : ZMm} (h : Inq n S) {k : Int} : Inq (n + 1) (R_told S k).2 := by
  unfold R_told
  split
  · exact In_id h
  · exact In_no h
theorem I_feed {n : Int} {S : ZMm} (h : Inq n S) {w k : Int} : Inq (n + 1) (R_feed S w k).2 := by
  unfold R_feed
  have v4 := h.1.1.2.2.2.1
  split
  · split
    · exact In_no h
    · have e : ∀ j : Nat, ¬ j = 4 → j < 308 → fdd (S 88) w k.toNat j = S 88 j := by
        intro j q1 q2
        unfold fdd
        rw [if_neg q1, if_neg (by omega)]
      have e4 : fdd (S 88) w k.toNat 4 = S 88 4 + k := by
        unfold fdd
        rw [if_pos rfl]
        omega
      refine In_88 h (Vd_of (fun j a b => ?_) (Vt_eq (Or.inl rfl) h.1.1.2.2.2.2.2.2.2.2.2.2.1 (fun j q => e j (by omega) (by omega))) (Vt_eq (Or.inr rfl) h.1.1.2.2.2.2.2.2.2.2.2.2.2 (fun j q => e j (by omega) (by omega)))) (by rw [e 1 (by omega) (by omega)]; exact h.1.2.1) (fun j a b => by rw [e j (by omega) (by omega)]; exact h.1.2.2.2.2.2.2.2.1 j a b) (fun j a b => ?_)
      · by_cases q : j = 4
        · subst q
          rw [e4]
          exact ⟨by omega, by show S 88 4 + k ≤ 50; omega⟩
        · rw [e j q (by omega)]
          exact Vd_b h.1.1 a b
      · unfold fdd
        rw [if_neg (by omega)]
        split
        · exact byt_rg _ _
        · exact h.1.2.2.2.2.2.2.2.2.2.2.1 j a b
  · exact In_no h
theorem I_law {n : Int} {S : ZMm} (h : Inq n S) {u a b c : Int} : Inq (n + 1) (R_law S u a b c).2 := by
  unfold R_law
  split
  · exact In_id h
  · exact In_no h
theorem I_years {n : Int} {S : ZMm} (h : Inq n S) {k : Int} : Inq (n + 1) (R_years S k).2 := by
  unfold R_years
  have v1 := h.1.1.2.1
  split
  · split
    · exact In_no h
    · have y := yrs_ok h.1.1 (-1) k.toNat (by omega)
      exact In_lo h y.1 (by rw [y.2]; omega) (fun j q => yrs_hi h.1.1 (-1) (by omega) _ (by omega))
  · exact In_no h
theorem I_loose {n : Int} {S : ZMm} (h : Inq n S) {k : Int} : Inq (n + 1) (R_loose S k).2 := by
  unfold R_loose
  have v1 := h.1.1.2.1
  split
  · split
    · exact In_no h
    · have y := los_ok h.1.1 k.toNat (by omega)
      refine In_lo h y.1 (by rw [y.2]; omega) (fun j q => ?_)
      have g : ∀ m : Nat, S 88 1 + m ≤ 20000 → los (S 88) m j = S 88 j := by
        intro m
        induction m with
        | zero => intro _; rfl
        | succ m ih =>
          intro hm
          obtain ⟨i1, i2⟩ := los_ok h.1.1 m (by omega)
          obtain ⟨j1, j2⟩ := lo0_ok i1
          show yr1 (lo0 (los (S 88) m)) (-1) j = _
          rw [yr1_hi j1 (-1) (by omega)]
          unfold lo0
          have z := Int.emod_lt_of_pos (zushr (zn1 (los (S 88) m 3)) 8) (show (0 : Int) < 64 by omega)
          rw [up1_ne (by omega), up1_ne (by omega), up1_ne (by omega)]
          exact ih (by omega)
      exact g _ (by omega)
  · exact In_no h
theorem I_then {n : Int} {S : ZMm} (h : Inq n S) {a b c : Int} : Inq (n + 1) (R_then S a b c).2 := by
  unfold R_then
  split
  · exact In_id h
  · exact In_no h
theorem I_meets {n : Int} {S : ZMm} (h : Inq n S) : Inq (n + 1) (R_meets S).2 := by
  unfold R_meets
  split
  · exact In_id h
  · exact In_no h
theorem I_apart {n : Int} {S : ZMm} (h : Inq n S) {a : Int} : Inq (n + 1) (R_apart S a).2 := by
  unfold R_apart
  split
  · exact In_id h
  · exact In_no h
theorem I_delayFor {n : Int} {S : ZMm} (h : Inq n S) {a : Int} : Inq (n + 1) (R_delayFor S a).2 := by
  unfold R_delayFor
  split
  · exact In_id h
  · exact In_no h
theorem I_powerFor {n : Int} {S : ZMm} (h : Inq n S) {a b c : Int} : Inq (n + 1) (R_powerFor S a b c).2 := by
  unfold R_powerFor
  split
  · split
    · exact In_no h
    · exact In_id h
  · exact In_no h
theorem I_needless {n : Int} {S : ZMm} (h : Inq n S) {a : Int} : Inq (n + 1) (R_needless S a).2 := by
  unfold R_needless
  split
  · exact In_id h
  · exact In_no h
theorem I_heard {n : Int} {S : ZMm} (h : Inq n S) {a b c : Int} : Inq (n + 1) (R_heard S a b c).2 := by
  unfold R_heard
  (repeat' split) <;> first | exact In_no h | exact In_id h
theorem I_which {n : Int} {S : ZMm} (h : Inq n S) {a b : Int} : Inq (n + 1) (R_which S a b).2 := by
  unfold R_which
  (repeat' split) <;> first | exact In_no h | exact In_id h
theorem I_join {n : Int} {S : ZMm} (h : Inq n S) {a b : Int} : Inq (n + 1) (R_join S a b).2 := by
  unfold R_join
  split
  · exact In_id h
  · exact In_no h
theorem I_steps {n : Int} {S : ZMm} (h : Inq n S) {a b : Int} : Inq (n + 1) (R_steps S a b).2 := by
  unfold R_steps
  (repeat' split) <;> first | exact In_no h | exact In_id h
theorem I_hand {n : Int} {S : ZMm} (h : Inq n S) {a b c : Int} : Inq (n + 1) (R_hand S a b c).2 := by
  unfold R_hand
  (repeat' split) <;> first | exact In_no h | exact In_id h
theorem I_parts {n : Int} {S : ZMm} (h : Inq n S) : Inq (n + 1) (R_parts S).2 := by
  unfold R_parts
  exact In_id h
theorem I_odds {n : Int} {S : ZMm} (h : Inq n S) {a b c : Int} : Inq (n + 1) (R_odds S a b c).2 := by
  unfold R_odds
  split
  · exact In_id h
  · exact In_no h
theorem I_seed {n : Int} {S : ZMm} (h : Inq n S) {v : Int} : Inq (n + 1) (R_seed S v).2 := by
  unfold R_seed
  dsimp only
  rw [zup_88]
  exact In_up h (by omega) (by omega) (Or.inl rfl)
theorem I_voice {n : Int} {S : ZMm} (h : Inq n S) {e a x : Int} : Inq (n + 1) (R_voice S e a x).2 := by
  unfold R_voice
  have v0 := h.1.1.1
  split
  · have t0 : tok (S 97, 0) := ⟨Int.le_refl 0, by show (0 : Int) ≤ 40; omega⟩
    have t1 : tok (vce S e a x).2 := by
      unfold vce
      split
      · exact vkn_ok t0
      · split
        · exact vhe_ok t0
        · split
          · exact vdg_ok t0
          · exact vte_ok t0
    obtain ⟨t, ht⟩ : ∃ t, (vce S e a x).2 = t := ⟨_, rfl⟩
    dsimp only
    rw [ht] at t1 ⊢
    obtain ⟨⟨v1, v2, v3, v4, v5, v6, v7, v8, v9, v10, v11, v12⟩, i⟩ := h
    have e1 : ∀ y : Nat, ¬ y = 97 → ¬ y = 87 → stT S e t y = S y := by
      intro y p1 p2
      funext k
      unfold stT
      rw [if_neg p1, if_neg (by omega), if_neg (by omega)]
    have e3 : stT S e t 87 3 = S 87 3 := by
      unfold stT
      rw [if_neg (by decide), if_neg (by decide), if_neg (by decide)]
    have e19 : stT S e t 87 19 = t.2 := by
      unfold stT
      rw [if_neg (by decide), if_pos ⟨rfl, rfl⟩]
    have e20 : stT S e t 87 20 = e := by
      unfold stT
      rw [if_neg (by decide), if_neg (by decide), if_pos ⟨rfl, rfl⟩]
    unfold Inq Vs
    rw [e1 88 (by decide) (by decide), e1 89 (by decide) (by decide), e1 98 (by decide) (by decide), e1 99 (by decide) (by decide), e1 100 (by decide) (by decide), e3, e19, e20]
    exact ⟨⟨v1, v2, v3, v4, t1, v6, v7, v8, v9, by omega, v11, v12⟩, by omega⟩
  · exact In_no h
theorem I_trace {n : Int} {S : ZMm} (h : Inq n S) {k : Int} : Inq (n + 1) (R_trace S k).2 := by
  unfold R_trace
  split
  · exact In_id h
  · exact In_no h
theorem I_sheet {n : Int} {S : ZMm} (h : Inq n S) {s b k : Int} : Inq (n + 1) (R_sheet S s b k).2 := by
  unfold R_sheet
  split
  next q =>
    split
    · exact In_no h
    · split
      · exact In_no h
      · obtain ⟨⟨v1, v2, v3, v4, v5, v6, v7, v8, v9, v10, v11, v12⟩, i⟩ := h
        dsimp only
        obtain ⟨F, hF⟩ : ∃ F : ZMm, (fun x => if x = 100 then (fun k : Nat => if 40 * s ≤ k ∧ (k : Int) < 40 * s + 40 then 0 else S 100 k) else zup (zup S 98 s.toNat b) 99 s.toNat (if b = 0 then 0 else k) x) = F := ⟨_, rfl⟩
        rw [hF]
        have e1 : ∀ y : Nat, ¬ y = 100 → ¬ y = 98 → ¬ y = 99 → F y = S y := by
          intro y p1 p2 p3
          rw [← hF]
          dsimp only
          rw [if_neg p1, zup_ne _ p3, zup_ne _ p2]
        have e2 : ∀ k, rg (F 100 k) := by
          intro k
          rw [← hF]
          dsimp only
          rw [if_pos rfl]
          split
          · exact ⟨by omega, by omega⟩
          · exact v7 k
        have e3 : ∀ j, j < 4 → (F 98 j = 0 ∨ F 98 j = 8 ∨ F 98 j = 16 ∨ F 98 j = 32) ∧ 0 ≤ F 99 j ∧ F 99 j ≤ 40 := by
          intro j hj
          have w := v6 j hj
          have f98 : F 98 = zup S 98 s.toNat b 98 := by
            rw [← hF]
            dsimp only
            rw [if_neg (show ¬ (98 : Nat) = 100 by decide), zup_ne _ (show (98 : Nat) ≠ 99 by decide)]
          have f99 : F 99 = zup (zup S 98 s.toNat b) 99 s.toNat (if b = 0 then 0 else k) 99 := by
            rw [← hF]
            dsimp only
            rw [if_neg (show ¬ (99 : Nat) = 100 by decide)]
          rw [f98, f99]
          by_cases q2 : j = s.toNat
          · subst q2
            rw [zup_eq, zup_eq]
            refine ⟨q.2, ?_⟩
            split <;> omega
          · rw [zup_k q2, zup_k q2, zup_ne _ (by decide)]
            exact w
        unfold Inq Vs
        rw [e1 88 (by decide) (by decide) (by decide), e1 89 (by decide) (by decide) (by decide), e1 87 (by decide) (by decide) (by decide)]
        exact ⟨⟨v1, v2, v3, v4, v5, e3, e2, v8, v9, v10, v11, v12⟩, by omega⟩
  next => exact In_no h
theorem In_100 {n : Int} {S : ZMm} (h : Inq n S) {f : Nat → Int} (hf : ∀ k, rg (f k)) {S' : ZMm} (e : ∀ x, ¬ x = 100 → S' x = S x) (e2 : S' 100 = f) : Inq (n + 1) S' := by
  obtain ⟨⟨v1, v2, v3, v4, v5, v6, v7, v8, v9, v10, v11, v12⟩, i⟩ := h
  unfold Inq Vs
  rw [e 88 (by decide), e 89 (by decide), e 87 (by decide), e 98 (by decide), e 99 (by decide), e2]
  exact ⟨⟨v1, v2, v3, v4, v5, v6, hf, v8, v9, v10, v11, v12⟩, by omega⟩
theorem I_put {n : Int} {S : ZMm} (h : Inq n S) {s i v : Int} (hv : rg v) : Inq (n + 1) (R_put S s i v).2 := by
  unfold R_put
  split
  · split
    · exact In_no h
    · split
      · refine In_100 h (f := fun k => zup S 100 (40 * s + i).toNat (cst (S 98 s.toNat) v) 100 k) (fun k => ?_) (fun x q => zup_ne _ q) rfl
        by_cases q : k = (40 * s + i).toNat
        · subst q
          rw [zup_eq]
          unfold cst
          split
          · exact ⟨Int32.le_toInt _, Int32.toInt_lt _⟩
          · split
            · exact ⟨Int32.le_toInt _, Int32.toInt_lt _⟩
            · exact hv
        · rw [zup_k q]
          exact h.1.2.2.2.2.2.2.1 k
      · exact In_no h
  · exact In_no h
theorem I_move {n : Int} {S : ZMm} (h : Inq n S) {s i o j k : Int} : Inq (n + 1) (R_move S s i o j k).2 := by
  unfold R_move
  split
  · split
    · exact In_no h
    · split
      · exact In_no h
      · split
        · refine In_100 h (f := mvr (S 100) (40 * s + i).toNat (40 * o + j).toNat k.toNat) (fun k => ?_) (fun x q => ?_) ?_
          · unfold mvr
            split
            · exact h.1.2.2.2.2.2.2.1 _
            · exact h.1.2.2.2.2.2.2.1 _
          · dsimp only
            unfold r100
            rw [if_neg q]
          · dsimp only
            unfold r100
            rw [if_pos rfl]
        · exact In_no h
  · exact In_no h
theorem rkn_ok {f : Nat → Int} : ∀ (r k : Nat), (∀ j, k ≤ j → j < rkn f r k → 0 ≤ f j ∧ f j ≤ 9) ∧ rkn f r k ≤ k + r
  | 0, k => ⟨fun j a b => by unfold rkn at b; omega, by unfold rkn; omega⟩
  | r + 1, k => by
    have ih := rkn_ok (f := f) r (k + 1)
    unfold rkn
    split
    next q =>
      refine ⟨fun j a b => ?_, by omega⟩
      by_cases e : j = k
      · subst e; exact q
      · exact ih.1 j (by omega) b
    next => exact ⟨fun j a b => by omega, by omega⟩
theorem I_rocks {n : Int} {S : ZMm} (h : Inq n S) {s : Int} : Inq (n + 1) (R_rocks S s).2 := by
  unfold R_rocks
  split
  next q =>
    split
    · exact In_no h
    · have v6 := (h.1.2.2.2.2.2.1 s.toNat (by omega)).2
      have rk := rkn_ok (f := shf9 S s) (S 99 s.toNat).toNat 0
      obtain ⟨m, hm⟩ : ∃ m, rkn (shf9 S s) (S 99 s.toNat).toNat 0 = m := ⟨_, rfl⟩
      dsimp only
      rw [hm] at rk ⊢
      have e : ∀ k, ¬ (6 ≤ k ∧ k < 6 + m) → rkd (S 88) (shf9 S s) m k = S 88 k := fun k p => by unfold rkd; rw [if_neg p]
      refine In_lo h (Vd_of (fun k a b => ?_) (Vt_eq (Or.inl rfl) h.1.1.2.2.2.2.2.2.2.2.2.2.1 (fun j q => e j (by omega))) (Vt_eq (Or.inr rfl) h.1.1.2.2.2.2.2.2.2.2.2.2.2 (fun j q => e j (by omega)))) (by rw [e 1 (by omega)]; exact h.1.2.1) (fun k hk => e k (by omega))
      by_cases p : 6 ≤ k ∧ k < 6 + m
      · have := rk.1 (k - 6) (by omega) (by omega)
        unfold rkd
        rw [if_pos p]
        refine ⟨this.1, Int.le_trans this.2 ?_⟩
        unfold ub
        rw [if_neg (by omega), if_neg (by omega), if_neg (by omega), if_neg (by omega), if_neg (by omega), if_pos (by omega)]
        omega
      · rw [e k p]
        exact Vd_b h.1.1 a b
  next => exact In_no h
theorem I_judge {n : Int} {S : ZMm} (h : Inq n S) {s : Int} : Inq (n + 1) (R_judge S s).2 := by
  unfold R_judge
  (repeat' split) <;> first | exact In_no h | exact In_id h
theorem I_image {n : Int} {S : ZMm} (h : Inq n S) (hn : n < 4000) : Inq (n + 1) (R_image S).2 := by
  unfold R_image
  dsimp only
  obtain ⟨⟨v1, v2, v3, v4, v5, v6, v7, v8, v9, v10, v11, v12⟩, i⟩ := h
  obtain ⟨F, hF⟩ : ∃ F : ZMm, zup (fun x => if x = 89 then (fun k => if k < 358 then S 88 k else S 89 k) else S x) 87 3 (S 87 3 + 1) = F := ⟨_, rfl⟩
  rw [hF]
  have e1 : ∀ y : Nat, ¬ y = 87 → ¬ y = 89 → F y = S y := by
    intro y p1 p2
    rw [← hF, zup_ne _ p1, if_neg p2]
  have e3 : F 87 3 = S 87 3 + 1 := by rw [← hF, zup_eq]
  have ek : ∀ k, ¬ k = 3 → F 87 k = S 87 k := by
    intro k p
    rw [← hF, zup_k p, if_neg (show ¬ (87 : Nat) = 89 by decide)]
  have e89 : ∀ k, k < 358 → F 89 k = S 88 k := by
    intro k p
    rw [← hF, zup_ne _ (show (89 : Nat) ≠ 87 by decide), if_pos rfl, if_pos p]
  unfold Inq Vs
  rw [e1 88 (by decide) (by decide), e1 98 (by decide) (by decide), e1 99 (by decide) (by decide), e1 100 (by decide) (by decide), e3, ek 19 (by decide), ek 20 (by decide), e89 1 (by omega)]
  exact ⟨⟨v1, v2, fun _ => ⟨Vd_eq v1 (fun k p => e89 k (by omega)), v2⟩, by omega, v5, v6, v7, v8, fun k a b => by rw [e89 k (by omega)]; exact v8 k a b, v10, v11, fun k a b => by rw [e89 k (by omega)]; exact v11 k a b⟩, by omega⟩
theorem I_restore {n : Int} {S : ZMm} (h : Inq n S) : Inq (n + 1) (R_restore S).2 := by
  unfold R_restore
  split
  · exact In_no h
  next q =>
    have v3 := h.1.2.2.1 q
    obtain ⟨F, hF⟩ : ∃ F : Nat → Int, (fun k => if k < 358 then S 89 k else S 88 k) = F := ⟨_, rfl⟩
    have e : ∀ k, k < 358 → F k = S 89 k := fun k p => by rw [← hF]; exact if_pos p
    dsimp only
    rw [hF]
    exact In_88 h (Vd_eq v3.1 (fun k p => e k (by omega))) (by rw [e 1 (by omega)]; exact v3.2) (fun k a b => by rw [e k (by omega)]; exact h.1.2.2.2.2.2.2.2.2.1 k a b) (fun k a b => by rw [e k (by omega)]; exact h.1.2.2.2.2.2.2.2.2.2.2.2 k a b)
theorem I_tell {n : Int} {S : ZMm} (h : Inq n S) {v : Int} (hv : rg v) : Inq (n + 1) (R_tell S v).2 := by
  unfold R_tell
  have v5 := h.1.1.2.2.2.2.1
  split
  · exact In_no h
  · have e : ∀ k, ¬ k = 5 → ¬ (188 ≤ k ∧ k < 208) → up1 (up1 (S 88) (188 + S 88 5).toNat v) 5 (S 88 5 + 1) k = S 88 k := fun k p q => by rw [up1_ne p, up1_ne (by omega)]
    refine In_88 h (Vd_of (fun k a b => ?_) (Vt_eq (Or.inl rfl) h.1.1.2.2.2.2.2.2.2.2.2.2.1 (fun j q => e j (by omega) (by omega))) (Vt_eq (Or.inr rfl) h.1.1.2.2.2.2.2.2.2.2.2.2.2 (fun j q => e j (by omega) (by omega)))) (by rw [e 1 (by omega) (by omega)]; exact h.1.2.1) (fun k a b => ?_) (fun k a b => by rw [e k (by omega) (by omega)]; exact h.1.2.2.2.2.2.2.2.2.2.2.1 k a b)
    · by_cases q : k = 5
      · subst q
        rw [up1_eq]
        exact ⟨by omega, by show S 88 5 + 1 ≤ 20; omega⟩
      · rw [e k q (by omega)]
        exact Vd_b h.1.1 a b
    · rw [up1_ne (by omega)]
      by_cases q : k = (188 + S 88 5).toNat
      · subst q
        rw [up1_eq]
        exact hv
      · rw [up1_ne q]
        exact h.1.2.2.2.2.2.2.2.1 k a b
theorem I_check {n : Int} {S : ZMm} (h : Inq n S) : Inq (n + 1) (R_check S).2 := by
  unfold R_check
  exact In_up h (by omega) (by omega) (Or.inr ⟨by omega, by show (0 : Int) ≤ 20; omega⟩)
theorem I_count {n : Int} {S : ZMm} (h : Inq n S) {w : Int} : Inq (n + 1) (R_count S w).2 := by
  unfold R_count
  (repeat' split) <;> first | exact In_no h | exact In_id h
theorem I_text {n : Int} {S : ZMm} (h : Inq n S) {u : Int} : Inq (n + 1) (R_text S u).2 := by
  unfold R_text
  have v4 := h.1.1.2.2.2.1
  split
  next q =>
    split
    next q2 =>
      have p := prd_ok (T := fun k => S 88 (308 + k)) (n := (S 88 4).toNat) (u := u)
      have p1 : okS (S 88 4).toNat (tpr S u) := p.1
      obtain ⟨e9, p3⟩ := p.2 q2
      have p2 : dpf (tpr S u).2.2 0 = some e9 := p3
      obtain ⟨l, hl⟩ : ∃ l, (tpr S u).2.2 = l := ⟨_, rfl⟩
      unfold okS at p1
      dsimp only
      rw [hl] at p1 p2 ⊢
      have uu : u = 0 ∨ u = 1 := by omega
      have ln : l.length ≤ 50 := by omega
      have lo : ∀ k : Nat, (k < 186 ∨ (188 ≤ k ∧ k < 208) ∨ 308 ≤ k) → ¬ k = 4 → txd (S 88) u l k = S 88 k := fun k p q => by rw [txd_lo uu (by omega) (by omega), if_neg q]
      have t4 : txd (S 88) u l 4 = 0 := by rw [txd_lo uu (by omega) (by omega), if_pos rfl]
      have vt : ∀ w : Int, w = 0 ∨ w = 1 → Vt (txd (S 88) u l) w := by
        intro w hw
        by_cases e : w = u
        · subst e
          unfold Vt
          rw [txd_n uu (by omega)]
          refine cok_of ln p2 (fun k v hk => ?_)
          have hk2 := (List.getElem?_eq_some_iff.mp hk).1
          rw [txd_c (by omega) hk2, List.getD_eq_getElem?_getD, hk]
          rfl
        · have ov : Vt (S 88) w := by
            rcases hw with e2 | e2 <;> subst e2
            · exact h.1.1.2.2.2.2.2.2.2.2.2.2.1
            · exact h.1.1.2.2.2.2.2.2.2.2.2.2.2
          unfold Vt at *
          obtain ⟨a, b, dep, e0, es⟩ := ov
          have el : txd (S 88) u l (186 + w).toNat = S 88 (186 + w).toNat := by rw [txd_lo uu (by omega) (by omega), if_neg (by omega)]
          rw [el]
          refine ⟨a, b, dep, e0, fun k hk => ?_⟩
          have := es k hk
          dsimp only at this ⊢
          rw [txd_lo uu (by omega) (by omega), if_neg (by omega)]
          exact this
      refine In_88 h (Vd_of (fun k a b => ?_) (vt 0 (Or.inl rfl)) (vt 1 (Or.inr rfl))) (by rw [lo 1 (by omega) (by omega)]; exact h.1.2.1) (fun k a b => by rw [lo k (by omega) (by omega)]; exact h.1.2.2.2.2.2.2.2.1 k a b) (fun k a b => by rw [lo k (by omega) (by omega)]; exact h.1.2.2.2.2.2.2.2.2.2.2.1 k a b)
      by_cases q4 : k = 4
      · subst q4
        rw [t4]
        exact ⟨by omega, by show (0 : Int) ≤ 50; omega⟩
      · rw [lo k (by omega) q4]
        exact Vd_b h.1.1 a b
    next => exact In_up h (by omega) (by omega) (Or.inr ⟨by omega, by show (0 : Int) ≤ 50; omega⟩)
  next => exact In_no h
