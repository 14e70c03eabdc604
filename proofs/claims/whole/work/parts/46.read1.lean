/-! TEXTS READ: what is meant. A state: place, fault (-1: none), codes -/
abbrev PS : Type := Nat × Int × List Int
def hre (T : Nat → Int) (n : Nat) (s : PS) : Int := if s.1 < n ∧ s.2.1 < 0 then T s.1 else -1
def adv (s : PS) : PS := (s.1 + 1, s.2)
def wrg (s : PS) : PS := (s.1, if s.2.1 < 0 then (s.1 : Int) else s.2.1, s.2.2)
def lyy (v : Int) (s : PS) : PS := if s.2.1 < 0 then (s.1, s.2.1, s.2.2 ++ [v]) else s
def nmo (u c : Int) : Int := if c = (if u = 0 then 101 else 112) then 0 else if c = (if u = 0 then 100 else 114) then 1 else if c = (if u = 0 then 121 else 119) then 2 else -1
def lvl (c : Int) : Nat := if c = 124 then 0 else if c = 38 then 1 else if c = 60 ∨ c = 61 ∨ c = 62 then 2 else if c = 43 ∨ c = 45 then 3 else if c = 42 ∨ c = 47 ∨ c = 37 then 4 else 9
def plp (T : Nat → Int) (n : Nat) (f : PS → PS) (l : Nat) : Nat → PS → PS
  | 0, s => s
  | k + 1, s => if lvl (hre T n s) = l then plp T n f l k (lyy (20000 + hre T n s) (f (adv s))) else s
def plw (T : Nat → Int) (n : Nat) (f : PS → PS) (l m : Nat) (s : PS) : PS := plp T n f l m (f s)
def pdg (T : Nat → Int) (n : Nat) : Nat → Int → PS → Int × PS
  | 0, v, s => (v, s)
  | k + 1, v, s => if 48 ≤ hre T n s ∧ hre T n s ≤ 57 then pdg T n k (10 * v + hre T n s - 48) (adv s) else (v, s)
def pcl (T : Nat → Int) (n : Nat) (s : PS) : PS := if hre T n s = 41 then adv s else wrg s
def pbs (T : Nat → Int) (n : Nat) (u : Int) (o : Int → PS → PS) (s : PS) : PS :=
  if hre T n s = 33 ∨ hre T n s = 40 then o (hre T n s) s
  else if 0 ≤ nmo u (hre T n s) then lyy (10000 + nmo u (hre T n s)) (adv s)
  else if 48 ≤ hre T n s ∧ hre T n s ≤ 57 then lyy (pdg T n 4 0 s).1 (pdg T n 4 0 s).2
  else wrg s
def pvS (T : Nat → Int) (n : Nat) (f : PS → PS) : PS → PS := plw T n (plw T n f 4 50) 3 50
def pvB (T : Nat → Int) (n : Nat) (f : PS → PS) : PS → PS := plw T n (pvS T n f) 2 1
def pvA (T : Nat → Int) (n : Nat) (f : PS → PS) : PS → PS := plw T n (pvB T n f) 1 50
def pvT (T : Nat → Int) (n : Nat) (f : PS → PS) : PS → PS := plw T n (pvA T n f) 0 50
def pnt (T : Nat → Int) (n : Nat) (u : Int) : Nat → PS → PS
  | 0 => pbs T n u (fun _ s => wrg s)
  | r + 1 => pbs T n u (fun c s => if c = 33 then lyy 20033 (pnt T n u r (adv s)) else pcl T n (pvT T n (pnt T n u r) (adv s)))
def pop (T : Nat → Int) (n : Nat) (u : Int) : Nat → Int → PS → PS
  | 0 => fun _ s => wrg s
  | r + 1 => fun c s => if c = 33 then lyy 20033 (pnt T n u r (adv s)) else pcl T n (pvT T n (pnt T n u r) (adv s))
theorem pnt_eq (T : Nat → Int) (n : Nat) (u : Int) : ∀ r : Nat, pnt T n u r = pbs T n u (pop T n u r)
  | 0 => rfl
  | _ + 1 => rfl
/-- how deep a row of codes goes -/
def dpf : List Int → Nat → Option Nat
  | [], d => some d
  | c :: r, d => if 0 ≤ c ∧ c < 10003 then dpf r (d + 1) else if c = 20033 then (if 1 ≤ d then dpf r d else none) else if 20000 < c ∧ c < 20200 then (if 2 ≤ d then dpf r (d - 1) else none) else none
theorem dpf_app : ∀ (a b : List Int) (d : Nat), dpf (a ++ b) d = (dpf a d).bind (dpf b)
  | [], b, d => rfl
  | c :: r, b, d => by
    rw [List.cons_append]
    unfold dpf
    split
    · exact dpf_app r b (d + 1)
    · split
      · split
        · exact dpf_app r b d
        · rfl
      · split
        · split
          · exact dpf_app r b (d - 1)
          · rfl
        · rfl
/-- a state that may be, and a reading that goes well -/
def okS (n : Nat) (s : PS) : Prop := s.1 ≤ n ∧ s.2.2.length ≤ s.1 ∧ -1 ≤ s.2.1 ∧ s.2.1 ≤ n
def Ext (s s' : PS) (P : List Int → Prop) : Prop := s.1 ≤ s'.1 ∧ s'.2.2.length + s.1 ≤ s.2.2.length + s'.1 ∧ (0 ≤ s.2.1 → s' = s) ∧ (s'.2.1 < 0 → ∃ w, s'.2.2 = s.2.2 ++ w ∧ P w)
def Gd (n : Nat) (f : PS → PS) : Prop := ∀ s, okS n s → okS n (f s) ∧ Ext s (f s) (fun w => ∀ d, dpf w d = some (d + 1))
theorem hre_nn {T : Nat → Int} {n : Nat} {s : PS} (h : ¬ hre T n s = -1) : s.1 < n ∧ s.2.1 < 0 := by
  unfold hre at h
  split at h
  · assumption
  · exact absurd rfl h
theorem lvl_nn {c : Int} (h : lvl c < 9) : (c = 124 ∨ c = 38 ∨ c = 60 ∨ c = 61 ∨ c = 62 ∨ c = 43 ∨ c = 45 ∨ c = 42 ∨ c = 47 ∨ c = 37) := by
  unfold lvl at h
  (repeat' split at h) <;> omega
theorem okS_adv {n : Nat} {s : PS} (h : okS n s) (hl : s.1 < n) : okS n (adv s) := ⟨by show s.1 + 1 ≤ n; omega, by have := h.2.1; show s.2.2.length ≤ s.1 + 1; omega, h.2.2.1, h.2.2.2⟩
theorem okS_wrg {n : Nat} {s : PS} (h : okS n s) : okS n (wrg s) := by
  obtain ⟨h1, h2, h3, h4⟩ := h
  refine ⟨h1, h2, ?_, ?_⟩ <;> (unfold wrg; dsimp only; split <;> omega)
theorem okS_lyy {n : Nat} {s : PS} {v : Int} (h : okS n s) (hl : s.2.1 < 0 → s.2.2.length < s.1) : okS n (lyy v s) := by
  unfold lyy
  split
  · rename_i q
    have := hl q
    refine ⟨h.1, ?_, h.2.2.1, h.2.2.2⟩
    simp
    omega
  · exact h
theorem wrg_f {s : PS} : 0 ≤ (wrg s).2.1 := by
  unfold wrg; dsimp only; split <;> omega
/-- one more, its sign last -/
theorem sgn_dpf {w : List Int} {c : Int} (hc : 20000 < c ∧ c < 20200 ∧ ¬ c = 20033) (hw : ∀ d, dpf w d = some (d + 1)) : ∀ d, 1 ≤ d → dpf (w ++ [c]) d = some d := by
  intro d hd
  rw [dpf_app, hw d]
  show dpf [c] (d + 1) = _
  unfold dpf
  rw [if_neg (by omega), if_neg hc.2.2, if_pos ⟨hc.1, hc.2.1⟩, if_pos (by omega)]
  simp [dpf]
theorem Gd_plp {T : Nat → Int} {n : Nat} {f : PS → PS} {l : Nat} (hl : l < 9) (hf : Gd n f) : ∀ (m : Nat) (s : PS), okS n s → okS n (plp T n f l m s) ∧ Ext s (plp T n f l m s) (fun w => ∀ d, 1 ≤ d → dpf w d = some d)
  | 0, s, h => ⟨h, Nat.le_refl _, Nat.le_refl _, fun _ => rfl, fun _ => ⟨[], by simp [plp], fun d _ => rfl⟩⟩
  | m + 1, s, h => by
    unfold plp
    by_cases q : lvl (hre T n s) = l
    · rw [if_pos q]
      have hc := lvl_nn (c := hre T n s) (by omega)
      obtain ⟨a1, a2⟩ := hre_nn (T := T) (n := n) (s := s) (by omega)
      obtain ⟨b1, b2, b3, b4, b5⟩ := hf (adv s) (okS_adv h a1)
      have e1 : (adv s).1 = s.1 + 1 := rfl
      have e2 : (adv s).2.2 = s.2.2 := rfl
      rw [e1] at b2 b3
      rw [e2] at b3 b5
      have h2 := h.2.1
      have b1' := b1.2.1
      obtain ⟨s', hs'⟩ : ∃ s', f (adv s) = s' := ⟨_, rfl⟩
      rw [hs'] at b1 b2 b3 b4 b5 b1' ⊢
      have k1 : okS n (lyy (20000 + hre T n s) s') := okS_lyy b1 (fun _ => by omega)
      have len : (lyy (20000 + hre T n s) s').2.2.length ≤ s'.2.2.length + 1 := by
        unfold lyy; split <;> simp
      have at9 : (lyy (20000 + hre T n s) s').1 = s'.1 := by unfold lyy; split <;> rfl
      obtain ⟨i1, i2, i3, i4, i5⟩ := Gd_plp (T := T) hl hf m _ k1
      refine ⟨i1, by omega, by omega, fun q0 => by omega, fun q0 => ?_⟩
      by_cases qf : s'.2.1 < 0
      · obtain ⟨w, w1, w2⟩ := b5 qf
        obtain ⟨x, x1, x2⟩ := i5 q0
        have el : (lyy (20000 + hre T n s) s').2.2 = s'.2.2 ++ [20000 + hre T n s] := by unfold lyy; rw [if_pos qf]
        refine ⟨(w ++ [20000 + hre T n s]) ++ x, ?_, fun d hd => ?_⟩
        · rw [x1, el, w1]; simp
        · rw [dpf_app, sgn_dpf (by omega) w2 d hd]
          exact x2 d hd
      · have el : lyy (20000 + hre T n s) s' = s' := by unfold lyy; rw [if_neg qf]
        rw [el] at i4 q0
        rw [i4 (by omega)] at q0
        omega
    · rw [if_neg q]
      exact ⟨h, Nat.le_refl _, Nat.le_refl _, fun _ => rfl, fun _ => ⟨[], by simp, fun d _ => rfl⟩⟩
theorem Gd_plw {T : Nat → Int} {n : Nat} {f : PS → PS} {l m : Nat} (hl : l < 9) (hf : Gd n f) : Gd n (plw T n f l m) := by
  intro s h
  obtain ⟨a1, a2, a3, a4, a5⟩ := hf s h
  obtain ⟨b1, b2, b3, b4, b5⟩ := Gd_plp (T := T) hl hf m (f s) a1
  refine ⟨b1, Nat.le_trans a2 b2, by show (plp T n f l m (f s)).2.2.length + s.1 ≤ s.2.2.length + (plp T n f l m (f s)).1; omega, fun q => ?_, fun q => ?_⟩
  · show plp T n f l m (f s) = s
    rw [a4 q] at b4 ⊢
    exact b4 q
  · have q' : (plp T n f l m (f s)).2.1 < 0 := q
    by_cases qf : (f s).2.1 < 0
    · obtain ⟨w, w1, w2⟩ := a5 qf
      obtain ⟨x, x1, x2⟩ := b5 q
      refine ⟨w ++ x, ?_, fun d => ?_⟩
      · show (plp T n f l m (f s)).2.2 = _
        rw [x1, w1]; simp
      · rw [dpf_app, w2 d]
        exact x2 (d + 1) (by omega)
    · rw [b4 (by omega)] at q'
      omega
theorem pdg_ok {T : Nat → Int} {n : Nat} : ∀ (k : Nat) (v : Int) (s : PS), okS n s → 0 ≤ v → (okS n (pdg T n k v s).2 ∧ s.1 ≤ (pdg T n k v s).2.1 ∧ (pdg T n k v s).2.2 = s.2) ∧ (0 ≤ (pdg T n k v s).1 ∧ (pdg T n k v s).1 < 10 ^ k * (v + 1))
  | 0, v, s, h, hv => ⟨⟨h, Nat.le_refl _, rfl⟩, hv, by simp [pdg]; omega⟩
  | k + 1, v, s, h, hv => by
    unfold pdg
    by_cases q : 48 ≤ hre T n s ∧ hre T n s ≤ 57
    · rw [if_pos q]
      obtain ⟨a1, a2⟩ := hre_nn (T := T) (n := n) (s := s) (by omega)
      obtain ⟨⟨i1, i2, i3⟩, i4, i5⟩ := pdg_ok (T := T) (n := n) k (10 * v + hre T n s - 48) (adv s) (okS_adv h a1) (by omega)
      have e1 : (adv s).1 = s.1 + 1 := rfl
      refine ⟨⟨i1, by omega, i3⟩, i4, ?_⟩
      refine Int.lt_of_lt_of_le i5 ?_
      have : (10 : Int) ^ (k + 1) * (v + 1) = 10 ^ k * (10 * (v + 1)) := by rw [Int.pow_succ, Int.mul_assoc]
      rw [this]
      refine Int.mul_le_mul_of_nonneg_left (by omega) ?_
      exact Int.le_of_lt (Int.pow_pos (by omega))
    · rw [if_neg q]
      refine ⟨⟨h, Nat.le_refl _, rfl⟩, hv, ?_⟩
      dsimp only
      have p1 : (1 : Int) ≤ 10 ^ (k + 1) := by
        have : (0 : Int) < 10 ^ (k + 1) := Int.pow_pos (by omega)
        omega
      have := Int.mul_le_mul_of_nonneg_right (c := v + 1) p1 (by omega)
      omega
theorem Gd_pbs {T : Nat → Int} {n : Nat} {u : Int} {o : Int → PS → PS} (ho : ∀ s, okS n s → (hre T n s = 33 ∨ hre T n s = 40) → okS n (o (hre T n s) s) ∧ Ext s (o (hre T n s) s) (fun w => ∀ d, dpf w d = some (d + 1))) : Gd n (pbs T n u o) := by
  intro s h
  unfold pbs
  have h2 := h.2.1
  by_cases q1 : hre T n s = 33 ∨ hre T n s = 40
  · rw [if_pos q1]
    exact ho s h q1
  · rw [if_neg q1]
    by_cases q2 : 0 ≤ nmo u (hre T n s)
    · rw [if_pos q2]
      have nr : nmo u (hre T n s) ≤ 2 := by
        unfold nmo; (repeat' split) <;> omega
      have hn : ¬ hre T n s = -1 := by
        intro e
        rw [e] at q2
        unfold nmo at q2
        (repeat' split at q2) <;> omega
      obtain ⟨a1, a2⟩ := hre_nn hn
      have el : lyy (10000 + nmo u (hre T n s)) (adv s) = (s.1 + 1, s.2.1, s.2.2 ++ [10000 + nmo u (hre T n s)]) := by
        unfold lyy adv; dsimp only; rw [if_pos a2]
      refine ⟨okS_lyy (okS_adv h a1) (fun _ => by show s.2.2.length < s.1 + 1; omega), ?_⟩
      rw [el]
      refine ⟨by dsimp only; omega, by simp; omega, fun q => by omega, fun _ => ⟨_, rfl, fun d => ?_⟩⟩
      unfold dpf
      rw [if_pos (by omega)]
      rfl
    · rw [if_neg q2]
      by_cases q3 : 48 ≤ hre T n s ∧ hre T n s ≤ 57
      · rw [if_pos q3]
        obtain ⟨a1, a2⟩ := hre_nn (T := T) (n := n) (s := s) (by omega)
        have e4 : pdg T n 4 0 s = pdg T n 3 (10 * 0 + hre T n s - 48) (adv s) := by
          show (if _ then _ else _) = _
          rw [if_pos q3]
        obtain ⟨-, i4, i5⟩ := pdg_ok (T := T) (n := n) 4 0 s h (by omega)
        obtain ⟨⟨j1, j2, j3⟩, -⟩ := pdg_ok (T := T) (n := n) 3 (10 * 0 + hre T n s - 48) (adv s) (okS_adv h a1) (by omega)
        rw [← e4] at j1 j2 j3
        obtain ⟨q, hq⟩ : ∃ q, pdg T n 4 0 s = q := ⟨_, rfl⟩
        rw [hq] at i4 i5 j1 j2 j3 ⊢
        obtain ⟨qv, qs⟩ := q
        dsimp only at i4 i5 j1 j2 j3 ⊢
        have e1 : (adv s).1 = s.1 + 1 := rfl
        have e2 : (adv s).2 = s.2 := rfl
        rw [e2] at j3
        rw [e1] at j2
        have p5 : (10 : Int) ^ 4 * (0 + 1) = 10000 := by decide
        rw [p5] at i5
        have el : lyy qv qs = (qs.1, s.2.1, s.2.2 ++ [qv]) := by
          unfold lyy; rw [j3, if_pos a2]
        refine ⟨okS_lyy j1 (fun _ => by rw [j3]; omega), ?_⟩
        rw [el]
        refine ⟨by dsimp only; omega, by simp; omega, fun q => by omega, fun _ => ⟨_, rfl, fun d => ?_⟩⟩
        unfold dpf
        rw [if_pos (by omega)]
        rfl
      · rw [if_neg q3]
        refine ⟨okS_wrg h, Nat.le_refl _, Nat.le_refl _, fun q => ?_, fun q => ?_⟩
        · unfold wrg; rw [if_neg (by omega)]
        · have := wrg_f (s := s); omega
theorem Gd_pvT {T : Nat → Int} {n : Nat} {f : PS → PS} (h : Gd n f) : Gd n (pvT T n f) := Gd_plw (by omega) (Gd_plw (by omega) (Gd_plw (by omega) (Gd_plw (by omega) (Gd_plw (by omega) h))))
theorem pop_ok {T : Nat → Int} {n : Nat} {u : Int} {r : Nat} (hg : ∀ r', r = r' + 1 → Gd n (pnt T n u r')) : ∀ s, okS n s → (hre T n s = 33 ∨ hre T n s = 40) → okS n (pop T n u r (hre T n s) s) ∧ Ext s (pop T n u r (hre T n s) s) (fun w => ∀ d, dpf w d = some (d + 1)) := by
  intro s h hc
  match r, hg with
  | 0, _ =>
    refine ⟨okS_wrg h, Nat.le_refl _, Nat.le_refl _, fun q => ?_, fun q => ?_⟩
    · show wrg s = s
      unfold wrg; rw [if_neg (by omega)]
    · have := wrg_f (s := s)
      have q' : (wrg s).2.1 < 0 := q
      omega
  | r + 1, hg =>
    have hr := hg r rfl
    obtain ⟨a1, a2⟩ := hre_nn (T := T) (n := n) (s := s) (by omega)
    have h2 := h.2.1
    show okS n (if hre T n s = 33 then lyy 20033 (pnt T n u r (adv s)) else pcl T n (pvT T n (pnt T n u r) (adv s))) ∧ Ext s (if hre T n s = 33 then lyy 20033 (pnt T n u r (adv s)) else pcl T n (pvT T n (pnt T n u r) (adv s))) _
    have e1 : (adv s).1 = s.1 + 1 := rfl
    have e2 : (adv s).2.2 = s.2.2 := rfl
    by_cases q : hre T n s = 33
    · rw [if_pos q]
      obtain ⟨b1, b2, b3, b4, b5⟩ := hr (adv s) (okS_adv h a1)
      rw [e1] at b2 b3
      rw [e2] at b3 b5
      obtain ⟨s', hs'⟩ : ∃ s', pnt T n u r (adv s) = s' := ⟨_, rfl⟩
      rw [hs'] at b1 b2 b3 b5 ⊢
      have b1' := b1.2.1
      refine ⟨okS_lyy b1 (fun _ => by omega), ?_⟩
      by_cases qf : s'.2.1 < 0
      · have el : lyy 20033 s' = (s'.1, s'.2.1, s'.2.2 ++ [20033]) := by unfold lyy; rw [if_pos qf]
        rw [el]
        obtain ⟨w, w1, w2⟩ := b5 qf
        refine ⟨by dsimp only; omega, by simp; omega, fun q0 => by omega, fun _ => ⟨w ++ [20033], ?_, fun d => ?_⟩⟩
        · dsimp only; rw [w1]; simp
        · rw [dpf_app, w2 d]
          show dpf [20033] (d + 1) = _
          unfold dpf
          rw [if_neg (by omega), if_pos rfl, if_pos (by omega)]
          rfl
      · have el : lyy 20033 s' = s' := by unfold lyy; rw [if_neg qf]
        rw [el]
        exact ⟨by omega, by omega, fun q0 => by omega, fun q0 => absurd q0 qf⟩
    · rw [if_neg q]
      obtain ⟨b1, b2, b3, b4, b5⟩ := Gd_pvT (T := T) hr (adv s) (okS_adv h a1)
      rw [e1] at b2 b3
      rw [e2] at b3 b5
      obtain ⟨s', hs'⟩ : ∃ s', pvT T n (pnt T n u r) (adv s) = s' := ⟨_, rfl⟩
      rw [hs'] at b1 b2 b3 b5 ⊢
      unfold pcl
      by_cases q41 : hre T n s' = 41
      · rw [if_pos q41]
        obtain ⟨c1, c2⟩ := hre_nn (T := T) (n := n) (s := s') (by omega)
        have f1 : (adv s').1 = s'.1 + 1 := rfl
        have f2 : (adv s').2.2 = s'.2.2 := rfl
        exact ⟨okS_adv b1 c1, by omega, by rw [f2]; omega, fun q0 => by omega, fun _ => b5 c2⟩
      · rw [if_neg q41]
        have f1 : (wrg s').1 = s'.1 := rfl
        have f2 : (wrg s').2.2 = s'.2.2 := rfl
        refine ⟨okS_wrg b1, by omega, by rw [f2]; omega, fun q0 => by omega, fun q0 => ?_⟩
        have := wrg_f (s := s')
        omega
theorem Gd_pnt {T : Nat → Int} {n : Nat} {u : Int} : ∀ r : Nat, Gd n (pnt T n u r)
  | 0 => by
    rw [pnt_eq]
    exact Gd_pbs (pop_ok (fun r' e => by omega))
  | r + 1 => by
    have ih := Gd_pnt (T := T) (n := n) (u := u) r
    rw [pnt_eq]
    refine Gd_pbs (pop_ok (fun r' e => ?_))
    have : r = r' := by omega
    subst this
    exact ih
/-- a text read from its beginning -/
def prd (T : Nat → Int) (n : Nat) (u : Int) : PS := if (pvT T n (pnt T n u 5) (0, -1, [])).2.1 < 0 ∧ (pvT T n (pnt T n u 5) (0, -1, [])).1 < n then wrg (pvT T n (pnt T n u 5) (0, -1, [])) else pvT T n (pnt T n u 5) (0, -1, [])
theorem dpf_pre {a b : List Int} {d e : Nat} (h : dpf (a ++ b) d = some e) : ∃ x, dpf a d = some x ∧ dpf b x = some e := by
  rw [dpf_app] at h
  match h2 : dpf a d, h with
  | some x, h => exact ⟨x, rfl, h⟩
  | none, h => cases h
theorem cok_of {l : List Int} {f : Nat → Int} {e : Nat} (hl : l.length ≤ 50) (hd : dpf l 0 = some e) (hf : ∀ k v, l[k]? = some v → f k = v) : cok f l.length := by
  refine ⟨by omega, by omega, fun k => (dpf (l.take k) 0).getD 0, rfl, fun k hk => ?_⟩
  have hk' : k < l.length := by omega
  have e1 : l = l.take k ++ l.drop k := (List.take_append_drop k l).symm
  have e2 : l.drop k = l[k] :: l.drop (k + 1) := List.drop_eq_getElem_cons hk'
  have e3 : l.take (k + 1) = l.take k ++ [l[k]] := by simp
  rw [e1] at hd
  obtain ⟨x, x1, x2⟩ := dpf_pre hd
  rw [e2] at x2
  have fk := hf k l[k] (List.getElem?_eq_getElem hk')
  dsimp only
  rw [fk, x1, e3, dpf_app, x1]
  show _ ∨ _ ∨ _
  simp only [Option.getD_some, Option.bind_some]
  generalize l[k] = c at *
  unfold dpf at x2
  split at x2
  · rename_i q
    refine Or.inl ⟨q.1, q.2, ?_⟩
    unfold dpf; rw [if_pos q]; rfl
  · rename_i q
    split at x2
    · rename_i q2
      split at x2
      · rename_i q3
        refine Or.inr (Or.inl ⟨q2, q3, ?_⟩)
        unfold dpf; rw [if_neg q, if_pos q2, if_pos q3]; rfl
      · cases x2
    · rename_i q2
      split at x2
      · rename_i q3
        split at x2
        · rename_i q4
          refine Or.inr (Or.inr ⟨q3.1, q3.2, q2, q4, ?_⟩)
          unfold dpf; rw [if_neg q, if_neg q2, if_pos q3, if_pos q4]; rfl
        · cases x2
      · cases x2
theorem prd_ok {T : Nat → Int} {n : Nat} {u : Int} : okS n (prd T n u) ∧ ((prd T n u).2.1 < 0 → ∃ e, dpf (prd T n u).2.2 0 = some e) := by
  obtain ⟨h1, h2, h3, h4, h5⟩ := Gd_pvT (T := T) (Gd_pnt (T := T) (n := n) (u := u) 5) (0, -1, []) ⟨by simp, by simp, by simp, by show (-1 : Int) ≤ (n : Int); omega⟩
  unfold prd
  split
  · refine ⟨okS_wrg h1, fun q => ?_⟩
    have := wrg_f (s := pvT T n (pnt T n u 5) (0, -1, []))
    omega
  · refine ⟨h1, fun q => ?_⟩
    obtain ⟨w, w1, w2⟩ := h5 q
    refine ⟨1, ?_⟩
    rw [w1]
    exact w2 0
