/-! WHAT IS MEANT: functions over the reference's row d -/
def ei (d : Nat → Int) (e w : Int) : Int := d (162 + 3 * e + w).toNat
def hi4 (d : Nat → Int) (h w : Int) : Int := d (134 + 4 * h + w).toNat
def pa (d : Nat → Int) (h k : Int) : Int := d (142 + 10 * h + k).toNat
/-- texts as codes with operands ahead -/
def dn (s v w : Int) : Int := if s = 124 then zbo (¬ zr v = 0 ∨ ¬ zr w = 0) else if s = 38 then zbo (¬ zr v = 0 ∧ ¬ zr w = 0) else if s = 60 then zbo (zr v < zr w) else if s = 61 then zbo (zr v = zr w) else if s = 62 then zbo (zr w < zr v) else if s = 43 then v + w else if s = 45 then v - w else if s = 42 then v * w else if s = 47 then (if zr w = 0 then 0 else (zr v).tdiv (zr w)) else (if zr w = 0 then 0 else (zr v).tmod (zr w))
def opr (c x y z : Int) : Int := if c = 10000 then x else if c = 10001 then y else if c = 10002 then z else c
def stp (c x y z : Int) (st : List Int) : List Int := if c < 20000 then opr c x y z :: st else if c = 20033 then (match st with
  | v :: r => zbo (zr v = 0) :: r
  | [] => []) else (match st with
  | w :: v :: r => dn (c - 20000) v w :: r
  | r => r)
def rpn (f : Nat → Int) (x y z : Int) : Nat → List Int
  | 0 => []
  | k + 1 => stp (f k) x y z (rpn f x y z k)
/-- a row of codes that can be worked out -/
def cok (f : Nat → Int) (n : Int) : Prop := 0 ≤ n ∧ n ≤ 50 ∧ ∃ dep : Nat → Nat, dep 0 = 0 ∧ ∀ k : Nat, (k : Int) < n → (0 ≤ f k ∧ f k < 10003 ∧ dep (k + 1) = dep k + 1) ∨ (f k = 20033 ∧ 1 ≤ dep k ∧ dep (k + 1) = dep k) ∨ (20000 < f k ∧ f k < 20200 ∧ ¬ f k = 20033 ∧ 2 ≤ dep k ∧ dep (k + 1) = dep k - 1)
def tgv (d : Nat → Int) (u a b c : Int) : Int := hd3 (zr (if 0 < d (186 + u).toNat then (rpn (fun k => d ((208 + 50 * u).toNat + k)) a b c (d (186 + u).toNat).toNat).getLastD a else a)) 0 20
def Vt (d : Nat → Int) (u : Int) : Prop := cok (fun k => d ((208 + 50 * u).toNat + k)) (d (186 + u).toNat)
/-- numbers of the row that are as they must be -/
def Vd (d : Nat → Int) : Prop :=
  (0 ≤ d 0 ∧ d 0 ≤ 8) ∧ (0 ≤ d 1 ∧ d 1 ≤ 20000) ∧ (0 ≤ d 2 ∧ d 2 ≤ 9) ∧ (0 ≤ d 4 ∧ d 4 ≤ 50) ∧ (0 ≤ d 5 ∧ d 5 ≤ 20)
  ∧ (∀ k, 6 ≤ k → k < 70 → 0 ≤ d k ∧ d k ≤ 9) ∧ (∀ k, 70 ≤ k → k < 134 → 0 ≤ d k ∧ d k ≤ 1)
  ∧ (∀ h, 0 ≤ h → h < 2 → (0 ≤ hi4 d h 0 ∧ hi4 d h 0 ≤ 63) ∧ (0 ≤ hi4 d h 1 ∧ hi4 d h 1 ≤ 20) ∧ (0 ≤ hi4 d h 2 ∧ hi4 d h 2 ≤ 99) ∧ (0 ≤ hi4 d h 3 ∧ hi4 d h 3 ≤ 4))
  ∧ (∀ k, 142 ≤ k → k < 162 → 0 ≤ d k ∧ d k ≤ 63)
  ∧ (∀ e, 0 ≤ e → e < 8 → (0 ≤ ei d e 0 ∧ ei d e 0 ≤ 6) ∧ (0 ≤ ei d e 1 ∧ ei d e 1 ≤ 9) ∧ (0 ≤ ei d e 2 ∧ ei d e 2 ≤ 1))
  ∧ Vt d 0 ∧ Vt d 1
/-- what a head hears, how an engineer points, what he hears with -/
def hb (d : Nat → Int) (h : Int) : Int := pa d (1 - h) (d 2)
def fh (d : Nat → Int) (e : Int) : Int := fr (hi4 d (ei d e 2) 0) (hb d (ei d e 2))
def aly (dw : Int) : Int := if 0 < dw then 2 else 0
def plain (r dw : Int) : Int := if r = 0 ∧ dw = 0 then 4 else if sz r < sz dw then aly dw else (if 0 < r then 1 else 3)
def srv (r dw : Int) : Int := if dw = 0 then plain r dw else aly dw
def drm (m yr r dw : Int) : Int := trn (plain r dw) (if yr % 5 = m % 5 then 2 else 0)
def fwd (m yr r dw : Int) : Int := trn (plain r dw) (if yr % 10 < m then 1 else 0)
def ptk (kd m yr r dw fa la : Int) : Int := if kd = 1 then srv r dw else if kd = 2 then drm m yr r dw else if kd = 3 then fwd m yr r dw else if kd = 4 then (if m < fa ∧ ¬ la = 4 then la else srv r dw) else if kd = 5 then trn (drm m yr r dw) 2 else if kd = 6 then (if yr % 2 = 0 then 4 else fwd m yr r dw) else plain r dw
def pts (d : Nat → Int) (e : Int) : Int := ptk (ei d e 0) (ei d e 1) (d 1) (hb d (ei d e 2) % 8 - hi4 d (ei d e 2) 0 % 8) (hb d (ei d e 2) / 8 - hi4 d (ei d e 2) 0 / 8) (fh d e) (hi4 d (ei d e 2) 3)
theorem aly_rng (dw : Int) : 0 ≤ aly dw ∧ aly dw ≤ 3 := by unfold aly; split <;> omega
theorem plain_rng (r dw : Int) : 0 ≤ plain r dw ∧ plain r dw ≤ 4 := by
  have := aly_rng dw
  unfold plain; split; omega; split; omega; split <;> omega
theorem trn_rng {w q : Int} (h : 0 ≤ w) : 0 ≤ trn w q ∧ trn w q ≤ 4 := by unfold trn; split <;> omega
theorem srv_rng (r dw : Int) : 0 ≤ srv r dw ∧ srv r dw ≤ 4 := by
  have := aly_rng dw
  have := plain_rng r dw
  unfold srv; split <;> omega
def eark (kd m yr fa : Int) : Int := if kd = 1 then 2 + m / 3 else if kd = 2 then 1 else if kd = 3 then 4 else if kd = 4 then 2 + m / 3 + (if yr % 2 = 0 then 1 else 0) else if kd = 5 then (if m < fa then 1 else 0) else 2
def ears (d : Nat → Int) (e : Int) : Int := eark (ei d e 0) (ei d e 1) (d 1) (fh d e)
def gvs (d : Nat → Int) (e : Int) : Int := tgv d 0 (ears d e) (fh d e) (d 1 % 8)
/-- which way a head hearkens to; wo: who isn't asked -/
def vt (d : Nat → Int) (wo h w e : Int) : Int := if ¬ e = wo ∧ ei d e 2 = h ∧ pts d e = w then gvs d e else 0
def vs (d : Nat → Int) (wo h w : Int) : Nat → Int
  | 0 => 0
  | k + 1 => vs d wo h w k + vt d wo h w k
def hkw (d : Nat → Int) (wo h : Int) : Nat → Int × Int
  | 0 => (4, 0)
  | w + 1 => if (hkw d wo h w).2 < vs d wo h w (d 0).toNat then ((w : Int), vs d wo h w (d 0).toNat) else hkw d wo h w
def hk (d : Nat → Int) (wo h : Int) : Int := (hkw d wo h 4).1
theorem hd3_rng {v : Int} : 0 ≤ hd3 v 0 20 ∧ hd3 v 0 20 ≤ 20 := by unfold hd3; split; omega; split <;> omega
theorem tgv_rng {d : Nat → Int} {u a b c : Int} : 0 ≤ tgv d u a b c ∧ tgv d u a b c ≤ 20 := hd3_rng
theorem vt_rng {d : Nat → Int} {wo h w e : Int} : 0 ≤ vt d wo h w e ∧ vt d wo h w e ≤ 20 := by
  unfold vt; split
  · exact tgv_rng
  · omega
theorem vs_rng {d : Nat → Int} {wo h w : Int} : ∀ k : Nat, 0 ≤ vs d wo h w k ∧ vs d wo h w k ≤ 20 * k
  | 0 => by simp [vs]
  | k + 1 => by
    have h1 := vs_rng (d := d) (wo := wo) (h := h) (w := w) k
    have h2 := vt_rng (d := d) (wo := wo) (h := h) (w := w) (e := k)
    simp only [vs]
    omega
theorem hkw_rng {d : Nat → Int} {wo h : Int} (hN : 0 ≤ d 0 ∧ d 0 ≤ 8) : ∀ w : Nat, w ≤ 4 → (0 ≤ (hkw d wo h w).1 ∧ (hkw d wo h w).1 ≤ 4) ∧ 0 ≤ (hkw d wo h w).2 ∧ (hkw d wo h w).2 ≤ 160
  | 0, _ => by simp [hkw]
  | w + 1, hw => by
    have h1 := hkw_rng (wo := wo) (h := h) hN w (by omega)
    have h2 := vs_rng (d := d) (wo := wo) (h := h) (w := w) (d 0).toNat
    simp only [hkw]
    split
    · dsimp only; omega
    · exact h1
theorem hk_rng {d : Nat → Int} {wo h : Int} (hN : 0 ≤ d 0 ∧ d 0 ≤ 8) : 0 ≤ hk d wo h ∧ hk d wo h ≤ 4 := (hkw_rng hN 4 (by omega)).1
