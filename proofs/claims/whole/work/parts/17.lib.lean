/-! SMALL FACTS for what is left of a block -/
abbrev ZMm : Type := Nat → Nat → Int
def rg (z : Int) : Prop := -2147483648 ≤ z ∧ z < 2147483648
theorem zr_rg {z : Int} (h : rg z) : zr z = z := zr_of h.1 h.2
theorem zr8_rg {z : Int} (h : rg z) : zr8 z = z := by
  have h1 := h.1
  have h2 := h.2
  exact zr8_of (by omega) (by omega)
theorem zpost {post : Option ZV → ZH → Prop} {h : ZH} {a b : Int} (hC : post (some (.inl a)) h) (e : a = b) : post (some (.inl b)) h := e ▸ hC
theorem zpostM {post : Option ZV → ZH → Prop} {M M' : ZMm} {a b : Int} (hC : post (some (.inl a)) (zG, M)) (e : a = b) (e2 : M = M') : post (some (.inl b)) (zG, M') := by
  subst e; subst e2; exact hC
def zbo (c : Prop) [Decidable c] : Int := if c then 1 else 0
theorem zbo_eq0 {c : Prop} [Decidable c] : (zbo c = 0) = ¬ c := by
  unfold zbo; split <;> simp_all
theorem zbo_eq1 {c : Prop} [Decidable c] : (zbo c = 1) = c := by
  unfold zbo; split <;> simp_all
theorem zbo_rng {c : Prop} [Decidable c] : 0 ≤ zbo c ∧ zbo c ≤ 1 := by
  unfold zbo; split <;> omega
theorem zr_zbo {c : Prop} [Decidable c] : zr (zbo c) = zbo c := by
  have := zbo_rng (c := c)
  exact zr_of (by omega) (by omega)
theorem zbo_01 {c : Prop} [Decidable c] : (zbo c = 0 ∨ zbo c = 1) = True := by
  unfold zbo; split <;> simp
def z01 (z : Int) : Prop := zr z = 0 ∨ zr z = 1
theorem z01_zbo {c : Prop} [Decidable c] : z01 (zbo c) = True := by
  unfold z01; rw [zr_zbo, zbo_01]
theorem z01_0 : z01 0 = True := eq_true (Or.inl rfl)
theorem z01_1 : z01 1 = True := eq_true (Or.inr rfl)
theorem zbo_t {c : Prop} [Decidable c] (h : c) : zbo c = 1 := if_pos h
theorem zbo_f {c : Prop} [Decidable c] (h : ¬ c) : zbo c = 0 := if_neg h
theorem zr_ite {c : Prop} [Decidable c] {a b : Int} : zr (if c then a else b) = if c then zr a else zr b := by split <;> rfl
theorem zup_eq {M : ZMm} {a k : Nat} {z : Int} : zup M a k z a k = z := by simp [zup]
theorem zup_o {M : ZMm} {a k a' k' : Nat} {z : Int} (h : a' ≠ a) : zup M a k z a' k' = M a' k' := by simp [zup, h]
theorem zup_k {M : ZMm} {a k k' : Nat} {z : Int} (h : k' ≠ k) : zup M a k z a k' = M a k' := by simp [zup, h]
theorem zcmpL_zr (x y : Int) : zr (zcmpL x y) = zcmpL x y := by
  unfold zcmpL; split; rfl; split <;> rfl
theorem zcmpL_lt (x y : Int) : (zcmpL x y < 0) = (zr8 x < zr8 y) := by
  apply propext; unfold zcmpL; split; omega; split <;> omega
theorem zcmpL_gt (x y : Int) : (0 < zcmpL x y) = (zr8 y < zr8 x) := by
  apply propext; unfold zcmpL; split; omega; split <;> omega
theorem zr8_zr (x : Int) : zr8 (zr x) = zr x := by
  have := zr_rng x
  exact zr8_of (by omega) (by omega)
theorem td_of {x y : Int} (h : 0 ≤ x) : x.tdiv y = x / y := Int.tdiv_eq_ediv_of_nonneg h
theorem tm_of {x y : Int} (h : 0 ≤ x) : x.tmod y = x % y := Int.tmod_eq_emod_of_nonneg h
theorem zmet_norm {E : ZE} {d : Nat} {M : ZM} {C C' : ZC} (h : zMet E d M C') (hh : ∀ as h post, C as h post → C' as h (fun v h' => ∃ v', v'.map (zc E) = v.map (zc E) ∧ post v' h')) : zMet E d M C := by
  intro as hp post hc
  have h1 := h as hp _ (hh as hp post hc)
  intro p e ha hc2 hk s m args below hf hpre hP hK
  obtain ⟨k, o, g1, g2, g3, ⟨⟨v, h', e1, ⟨v', e2, e3⟩, e4⟩, e5⟩, e6⟩ := h1 p e ha hc2 hk s m args below hf hpre hP hK
  exact ⟨k, o, g1, g2, g3, ⟨⟨v', h', by rw [e1, e2], e3, e4⟩, e5⟩, e6⟩
theorem zc_zr {E : ZE} {a b : Int} (h : zr a = zr b) : (some (.inl a) : Option ZV).map (zc E) = (some (.inl b) : Option ZV).map (zc E) := by
  show some (Value.int (Int32.ofInt a)) = some (Value.int (Int32.ofInt b))
  rw [(zo_eq a b).mpr h]
/-- what the reference's small functions give -/
def sz (v : Int) : Int := if v < 0 then -v else v
def fr (a b : Int) : Int := sz (a / 8 - b / 8) + sz (a % 8 - b % 8)
def hd3 (v lo hi : Int) : Int := if v < lo then lo else if hi < v then hi else v
def bsd (c w : Int) : Int := if w = 0 then (if 7 < c then c - 8 else -1) else if w = 1 then (if c % 8 < 7 then c + 1 else -1) else if w = 2 then (if c < 56 then c + 8 else -1) else if w = 3 then (if 0 < c % 8 then c - 1 else -1) else -1
def trn (w by_ : Int) : Int := if w = 4 then 4 else (w + by_) % 4
def abv (k : Int) : Int := if 3 < k then k - 3 else 0
theorem sz_nn (v : Int) : 0 ≤ sz v := by unfold sz; split <;> omega
theorem fr_rng {a b : Int} (h1 : 0 ≤ a) (h2 : a ≤ 63) (h3 : 0 ≤ b) (h4 : b ≤ 63) : 0 ≤ fr a b ∧ fr a b ≤ 14 := by
  unfold fr sz; split <;> split <;> omega
theorem fr_zero {a b : Int} (h1 : 0 ≤ a) (h2 : a ≤ 63) (h3 : 0 ≤ b) (h4 : b ≤ 63) : fr a b = 0 ↔ a = b := by
  unfold fr sz; split <;> split <;> omega
theorem bsd_rng {c w : Int} (h1 : 0 ≤ c) (h2 : c ≤ 63) : -1 ≤ bsd c w ∧ bsd c w ≤ 63 := by
  unfold bsd; split; split <;> omega; split; split <;> omega; split; split <;> omega; split; split <;> omega; omega
theorem zl_m1000000005 : zr (-1000000005) = (-1000000005) := rfl
theorem zl_m1000000004 : zr (-1000000004) = (-1000000004) := rfl
theorem zl_m1000000003 : zr (-1000000003) = (-1000000003) := rfl
theorem zl_m1000000002 : zr (-1000000002) = (-1000000002) := rfl
theorem zl_m1000000001 : zr (-1000000001) = (-1000000001) := rfl
theorem zl_m1000000000 : zr (-1000000000) = (-1000000000) := rfl
theorem zl_m10 : zr (-10) = (-10) := rfl
theorem zl_m1 : zr (-1) = (-1) := rfl
theorem zl_0 : zr 0 = 0 := rfl
theorem zl_1 : zr 1 = 1 := rfl
theorem zl_2 : zr 2 = 2 := rfl
theorem zl_3 : zr 3 = 3 := rfl
theorem zl_4 : zr 4 = 4 := rfl
theorem zl_5 : zr 5 = 5 := rfl
theorem zl_6 : zr 6 = 6 := rfl
theorem zl_7 : zr 7 = 7 := rfl
theorem zl_8 : zr 8 = 8 := rfl
theorem zl_9 : zr 9 = 9 := rfl
theorem zl_10 : zr 10 = 10 := rfl
theorem zl_11 : zr 11 = 11 := rfl
theorem zl_12 : zr 12 = 12 := rfl
theorem zl_13 : zr 13 = 13 := rfl
theorem zl_14 : zr 14 = 14 := rfl
theorem zl_15 : zr 15 = 15 := rfl
theorem zl_16 : zr 16 = 16 := rfl
theorem zl_20 : zr 20 = 20 := rfl
theorem zl_24 : zr 24 = 24 := rfl
theorem zl_30 : zr 30 = 30 := rfl
theorem zl_31 : zr 31 = 31 := rfl
theorem zl_32 : zr 32 = 32 := rfl
theorem zl_33 : zr 33 = 33 := rfl
theorem zl_37 : zr 37 = 37 := rfl
theorem zl_38 : zr 38 = 38 := rfl
theorem zl_40 : zr 40 = 40 := rfl
theorem zl_41 : zr 41 = 41 := rfl
theorem zl_42 : zr 42 = 42 := rfl
theorem zl_43 : zr 43 = 43 := rfl
theorem zl_45 : zr 45 = 45 := rfl
theorem zl_47 : zr 47 = 47 := rfl
theorem zl_48 : zr 48 = 48 := rfl
theorem zl_50 : zr 50 = 50 := rfl
theorem zl_56 : zr 56 = 56 := rfl
theorem zl_57 : zr 57 = 57 := rfl
theorem zl_60 : zr 60 = 60 := rfl
theorem zl_61 : zr 61 = 61 := rfl
theorem zl_62 : zr 62 = 62 := rfl
theorem zl_63 : zr 63 = 63 := rfl
theorem zl_64 : zr 64 = 64 := rfl
theorem zl_69 : zr 69 = 69 := rfl
theorem zl_70 : zr 70 = 70 := rfl
theorem zl_71 : zr 71 = 71 := rfl
theorem zl_99 : zr 99 = 99 := rfl
theorem zl_100 : zr 100 = 100 := rfl
theorem zl_101 : zr 101 = 101 := rfl
theorem zl_112 : zr 112 = 112 := rfl
theorem zl_114 : zr 114 = 114 := rfl
theorem zl_119 : zr 119 = 119 := rfl
theorem zl_121 : zr 121 = 121 := rfl
theorem zl_124 : zr 124 = 124 := rfl
theorem zl_134 : zr 134 = 134 := rfl
theorem zl_142 : zr 142 = 142 := rfl
theorem zl_160 : zr 160 = 160 := rfl
theorem zl_162 : zr 162 = 162 := rfl
theorem zl_164 : zr 164 = 164 := rfl
theorem zl_186 : zr 186 = 186 := rfl
theorem zl_188 : zr 188 = 188 := rfl
theorem zl_200 : zr 200 = 200 := rfl
theorem zl_208 : zr 208 = 208 := rfl
theorem zl_255 : zr 255 = 255 := rfl
theorem zl_308 : zr 308 = 308 := rfl
theorem zl_358 : zr 358 = 358 := rfl
theorem zl_9999 : zr 9999 = 9999 := rfl
theorem zl_10000 : zr 10000 = 10000 := rfl
theorem zl_12345 : zr 12345 = 12345 := rfl
theorem zl_20000 : zr 20000 = 20000 := rfl
theorem zl_20033 : zr 20033 = 20033 := rfl
theorem zl_20038 : zr 20038 = 20038 := rfl
theorem zl_20124 : zr 20124 = 20124 := rfl
theorem zl_100000 : zr 100000 = 100000 := rfl
theorem zl_1000000 : zr 1000000 = 1000000 := rfl
theorem zl_1103515245 : zr 1103515245 = 1103515245 := rfl
theorem zq_0 : zr8 0 = 0 := rfl
theorem zq_1 : zr8 1 = 1 := rfl
theorem zq_2 : zr8 2 = 2 := rfl
theorem zq_3 : zr8 3 = 3 := rfl
theorem zq_4 : zr8 4 = 4 := rfl
theorem zq_5 : zr8 5 = 5 := rfl
theorem zq_6 : zr8 6 = 6 := rfl
theorem zq_8 : zr8 8 = 8 := rfl
theorem zq_9 : zr8 9 = 9 := rfl
theorem zq_14 : zr8 14 = 14 := rfl
theorem zq_20 : zr8 20 = 20 := rfl
theorem zq_30 : zr8 30 = 30 := rfl
theorem zq_40 : zr8 40 = 40 := rfl
theorem zq_48 : zr8 48 = 48 := rfl
theorem zq_57 : zr8 57 = 57 := rfl
theorem zq_60 : zr8 60 = 60 := rfl
theorem zq_63 : zr8 63 = 63 := rfl
theorem zq_69 : zr8 69 = 69 := rfl
theorem zq_99 : zr8 99 = 99 := rfl
theorem zq_200 : zr8 200 = 200 := rfl
theorem zq_255 : zr8 255 = 255 := rfl
theorem zq_4294967295 : zr8 4294967295 = 4294967295 := rfl
