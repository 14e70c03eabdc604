/-! RULES BY WHICH A BLOCK IS WORKED OUT FROM ITS HEAD (for simp, each with a down arrow) -/
def zsk (ls : ZL) (i : Nat) (v : ZV) (k : ZL → Prop) : Prop := k (ls.set i (some v))
def zrk (v : Option ZV) (r : List ZV) (k : List ZV → Prop) : Prop := k (v.toList ++ r)
theorem e_rk1 {v : ZV} {r : List ZV} {k : List ZV → Prop} : zrk (some v) r k = k (v :: r) := rfl
theorem e_rk0 {r : List ZV} {k : List ZV → Prop} : zrk none r k = k r := rfl
theorem e_sk0 {x : Option ZV} {r : ZL} {v : ZV} {k : ZL → Prop} : zsk (x :: r) 0 v k = k (some v :: r) := rfl
theorem e_sks {x : Option ZV} {r : ZL} {n : Nat} {v : ZV} {k : ZL → Prop} : zsk (x :: r) (n + 1) v k = zsk r n v (fun r' => k (x :: r')) := rfl
theorem e_ldi0 {z : Int} {r : ZL} {k : ZV → Prop} : zldi (some (.inl z) :: r) 0 k = k (.inl z) := rfl
theorem e_ldis {x : Option ZV} {r : ZL} {n : Nat} {k : ZV → Prop} : zldi (x :: r) (n + 1) k = zldi r n k := rfl
theorem e_ldl0 {z : Int} {r : ZL} {k : ZV → Prop} : zldl (some (.inr (.inl z)) :: r) 0 k = k (.inr (.inl z)) := rfl
theorem e_ldls {x : Option ZV} {r : ZL} {n : Nat} {k : ZV → Prop} : zldl (x :: r) (n + 1) k = zldl r n k := rfl
theorem e_lda0 {v : Nat ⊕ Nat} {r : ZL} {k : ZV → Prop} : zlda (some (.inr (.inr v)) :: r) 0 k = k (.inr (.inr v)) := rfl
theorem e_ldas {x : Option ZV} {r : ZL} {n : Nat} {k : ZV → Prop} : zlda (x :: r) (n + 1) k = zlda r n k := rfl
theorem e_ok0 {ls : ZL} : zok ls 0 = True := rfl
theorem e_okss {x : Option ZV} {r : ZL} {n : Nat} : zok (x :: r) (n + 1 + 1) = zok r (n + 1) := rfl
theorem e_ok1i {z : Int} {r : ZL} : zok (some (.inl z) :: r) 1 = True := rfl
theorem e_ok1r {v : Nat ⊕ Nat} {r : ZL} : zok (some (.inr (.inr v)) :: r) 1 = True := rfl
theorem e_ok1n {r : ZL} : zok (none :: r) 1 = True := rfl
theorem e_sti {ls : ZL} {i : Nat} {z : Int} {r : List ZV} {k : ZL → List ZV → Prop} : zsti ls i (.inl z :: r) k = (zok ls i ∧ zsk ls i (.inl z) (fun ls => k ls r)) := rfl
theorem e_sta {ls : ZL} {i : Nat} {v : Nat ⊕ Nat} {r : List ZV} {k : ZL → List ZV → Prop} : zsta ls i (.inr (.inr v) :: r) k = (zok ls i ∧ zsk ls i (.inr (.inr v)) (fun ls => k ls r)) := rfl
theorem e_1 {x : Int} {r : List ZV} {k : Int → List ZV → Prop} : z1 (.inl x :: r) k = k x r := rfl
theorem e_2 {x y : Int} {r : List ZV} {k : Int → Int → List ZV → Prop} : z2 (.inl y :: .inl x :: r) k = k x y r := rfl
theorem e_l1 {x : Int} {r : List ZV} {k : Int → List ZV → Prop} : zl1 (.inr (.inl x) :: r) k = k x r := rfl
theorem e_l2 {x y : Int} {r : List ZV} {k : Int → Int → List ZV → Prop} : zl2 (.inr (.inl y) :: .inr (.inl x) :: r) k = k x y r := rfl
theorem e_li {x y : Int} {r : List ZV} {k : Int → Int → List ZV → Prop} : zli (.inl y :: .inr (.inl x) :: r) k = k x y r := rfl
theorem e_sw0 {x : Int} {d : Nat} {k : Nat → Prop} : zsw x [] d k = k d := rfl
theorem e_sws {x v : Int} {t d : Nat} {l : List (Int × Nat)} {k : Nat → Prop} : zsw x ((v, t) :: l) d k = ((x = v → k t) ∧ (¬ x = v → zsw x l d k)) := rfl
theorem e_ceq {x y : Int} {t f : Prop} : zcnd .eq x y t f = ((x = y → t) ∧ (¬ x = y → f)) := rfl
theorem e_cne {x y : Int} {t f : Prop} : zcnd .ne x y t f = ((x = y → f) ∧ (¬ x = y → t)) := rfl
theorem e_clt {x y : Int} {t f : Prop} : zcnd .lt x y t f = ((x < y → t) ∧ (¬ x < y → f)) := rfl
theorem e_cge {x y : Int} {t f : Prop} : zcnd .ge x y t f = ((x < y → f) ∧ (¬ x < y → t)) := rfl
theorem e_cgt {x y : Int} {t f : Prop} : zcnd .gt x y t f = ((y < x → t) ∧ (¬ y < x → f)) := rfl
theorem e_cle {x y : Int} {t f : Prop} : zcnd .le x y t f = ((y < x → f) ∧ (¬ y < x → t)) := rfl
section ZEv
variable {E : ZE} {CT : Nat → ZC} {c : Int} {l : List Nat} {tb : List (Int × Nat)} {ls : ZL} {st : List ZV} {h : ZH} {b : ZB2} {N : ZN} {K : ZK} {Rt : ZR}
theorem e_nil {pc : Nat} : zB E CT [] pc ls st h b K Rt = K pc ls st h b := rfl
theorem e_cons {i : Instr} {n : Nat} {a : ZX} {r : List ZI} {pc : Nat} : zB E CT ((i, n, a) :: r) pc ls st h b K Rt = zi E CT i a ls st h b (fun ls st h b => zB E CT r (pc + n) ls st h b K Rt) K Rt := rfl
theorem e_iconst {n : Int} {a : ZX} : zi E CT (.iconst n) a ls st h b N K Rt = N ls (.inl n :: st) h b := rfl
theorem e_bipush {n : Int} {a : ZX} : zi E CT (.bipush n) a ls st h b N K Rt = N ls (.inl n :: st) h b := rfl
theorem e_sipush {n : Int} {a : ZX} : zi E CT (.sipush n) a ls st h b N K Rt = N ls (.inl n :: st) h b := rfl
theorem e_ldc {n : Nat} : zi E CT (.ldc n) (c, l, tb) ls st h b N K Rt = N ls (.inl c :: st) h b := rfl
theorem e_ldcw {n : Nat} : zi E CT (.ldc_w n) (c, l, tb) ls st h b N K Rt = N ls (.inl c :: st) h b := rfl
theorem e_ldc2 {n : Nat} : zi E CT (.ldc2_w n) (c, l, tb) ls st h b N K Rt = N ls (.inr (.inl c) :: st) h b := rfl
theorem e_lconst {n : Fin 2} : zi E CT (.lconst n) (c, l, tb) ls st h b N K Rt = N ls (.inr (.inl c) :: st) h b := rfl
theorem e_iloadn {k : Fin 4} {i : Nat} : zi E CT (.iload_n k) (c, i :: l, tb) ls st h b N K Rt = zldi ls i (fun v => N ls (v :: st) h b) := rfl
theorem e_iload {k : Nat} {i : Nat} : zi E CT (.iload k) (c, i :: l, tb) ls st h b N K Rt = zldi ls i (fun v => N ls (v :: st) h b) := rfl
theorem e_lloadn {k : Fin 4} {i : Nat} : zi E CT (.lload_n k) (c, i :: l, tb) ls st h b N K Rt = zldl ls i (fun v => N ls (v :: st) h b) := rfl
theorem e_lload {k : Nat} {i : Nat} : zi E CT (.lload k) (c, i :: l, tb) ls st h b N K Rt = zldl ls i (fun v => N ls (v :: st) h b) := rfl
theorem e_aloadn {k : Fin 4} {i : Nat} : zi E CT (.aload_n k) (c, i :: l, tb) ls st h b N K Rt = zlda ls i (fun v => N ls (v :: st) h b) := rfl
theorem e_aload {k : Nat} {i : Nat} : zi E CT (.aload k) (c, i :: l, tb) ls st h b N K Rt = zlda ls i (fun v => N ls (v :: st) h b) := rfl
theorem e_istoren {k : Fin 4} {i : Nat} : zi E CT (.istore_n k) (c, i :: l, tb) ls st h b N K Rt = zsti ls i st (fun ls r => N ls r h b) := rfl
theorem e_istore {k : Nat} {i : Nat} : zi E CT (.istore k) (c, i :: l, tb) ls st h b N K Rt = zsti ls i st (fun ls r => N ls r h b) := rfl
theorem e_astoren {k : Fin 4} {i : Nat} : zi E CT (.astore_n k) (c, i :: l, tb) ls st h b N K Rt = zsta ls i st (fun ls r => N ls r h b) := rfl
theorem e_astore {k : Nat} {i : Nat} : zi E CT (.astore k) (c, i :: l, tb) ls st h b N K Rt = zsta ls i st (fun ls r => N ls r h b) := rfl
def zadd (v : ZV) (n : Int) (k : ZV → Prop) : Prop := k (match v with | .inl z => .inl (z + n) | w => w)
theorem e_add {z n : Int} {k : ZV → Prop} : zadd (.inl z) n k = k (.inl (z + n)) := rfl
theorem e_iinc {k : Nat} {n : Int} {i : Nat} : zi E CT (.iinc k n) (c, i :: l, tb) ls st h b N K Rt = zldi ls i (fun v => zadd v n (fun w => zsti ls i [w] (fun ls _ => N ls st h b))) := rfl
theorem e_iadd {a : ZX} : zi E CT .iadd a ls st h b N K Rt = z2 st (fun x y r => N ls (.inl (x + y) :: r) h b) := rfl
theorem e_isub {a : ZX} : zi E CT .isub a ls st h b N K Rt = z2 st (fun x y r => N ls (.inl (x - y) :: r) h b) := rfl
theorem e_imul {a : ZX} : zi E CT .imul a ls st h b N K Rt = z2 st (fun x y r => N ls (.inl (x * y) :: r) h b) := rfl
def zand (x y : Int) : Int := (Int32.ofInt x &&& Int32.ofInt y).toInt
def zor (x y : Int) : Int := (Int32.ofInt x ||| Int32.ofInt y).toInt
def zxor (x y : Int) : Int := (Int32.ofInt x ^^^ Int32.ofInt y).toInt
def zshl (x y : Int) : Int := (Int32.ofInt x <<< (Int32.ofInt y &&& 31)).toInt
def zushr (x y : Int) : Int := ((Int32.ofInt x).toUInt32 >>> ((Int32.ofInt y).toUInt32 &&& Int32.toUInt32 31)).toInt32.toInt
def zi2b (x : Int) : Int := (Int32.ofInt x).toInt8.toInt32.toInt
def zi2s (x : Int) : Int := (Int32.ofInt x).toInt16.toInt32.toInt
def zl2i (x : Int) : Int := (Int64.ofInt x).toInt32.toInt
def zlandL (x y : Int) : Int := (Int64.ofInt x &&& Int64.ofInt y).toInt
def zlorL (x y : Int) : Int := (Int64.ofInt x ||| Int64.ofInt y).toInt
def zlshl (x y : Int) : Int := (Int64.ofInt x <<< ((Int32.ofInt y).toInt64 &&& 63)).toInt
def zlshr (x y : Int) : Int := (Int64.ofInt x >>> ((Int32.ofInt y).toInt64 &&& 63)).toInt
def zlushr (x y : Int) : Int := ((Int64.ofInt x).toUInt64 >>> ((Int32.ofInt y).toInt64.toUInt64 &&& Int64.toUInt64 63)).toInt64.toInt
def zcmpL (x y : Int) : Int := if zr8 y < zr8 x then 1 else if zr8 x = zr8 y then 0 else -1
theorem e_iand {a : ZX} : zi E CT .iand a ls st h b N K Rt = z2 st (fun x y r => N ls (.inl (zand x y) :: r) h b) := rfl
theorem e_ior {a : ZX} : zi E CT .ior a ls st h b N K Rt = z2 st (fun x y r => N ls (.inl (zor x y) :: r) h b) := rfl
theorem e_ixor {a : ZX} : zi E CT .ixor a ls st h b N K Rt = z2 st (fun x y r => N ls (.inl (zxor x y) :: r) h b) := rfl
theorem e_ishl {a : ZX} : zi E CT .ishl a ls st h b N K Rt = z2 st (fun x y r => N ls (.inl (zshl x y) :: r) h b) := rfl
theorem e_iushr {a : ZX} : zi E CT .iushr a ls st h b N K Rt = z2 st (fun x y r => N ls (.inl (zushr x y) :: r) h b) := rfl
theorem e_idiv {a : ZX} : zi E CT .idiv a ls st h b N K Rt = z2 st (fun x y r => ¬ zr y = 0 ∧ N ls (.inl ((zr x).tdiv (zr y)) :: r) h b) := rfl
theorem e_irem {a : ZX} : zi E CT .irem a ls st h b N K Rt = z2 st (fun x y r => ¬ zr y = 0 ∧ N ls (.inl ((zr x).tmod (zr y)) :: r) h b) := rfl
theorem e_ineg {a : ZX} : zi E CT .ineg a ls st h b N K Rt = z1 st (fun x r => N ls (.inl (-x) :: r) h b) := rfl
theorem e_i2l {a : ZX} : zi E CT .i2l a ls st h b N K Rt = z1 st (fun x r => N ls (.inr (.inl (zr x)) :: r) h b) := rfl
theorem e_i2b {a : ZX} : zi E CT .i2b a ls st h b N K Rt = z1 st (fun x r => N ls (.inl (zi2b x) :: r) h b) := rfl
theorem e_i2s {a : ZX} : zi E CT .i2s a ls st h b N K Rt = z1 st (fun x r => N ls (.inl (zi2s x) :: r) h b) := rfl
theorem e_l2i {a : ZX} : zi E CT .l2i a ls st h b N K Rt = zl1 st (fun x r => N ls (.inl (zl2i x) :: r) h b) := rfl
theorem e_land {a : ZX} : zi E CT .land a ls st h b N K Rt = zl2 st (fun x y r => N ls (.inr (.inl (zlandL x y)) :: r) h b) := rfl
theorem e_lor {a : ZX} : zi E CT .lor a ls st h b N K Rt = zl2 st (fun x y r => N ls (.inr (.inl (zlorL x y)) :: r) h b) := rfl
theorem e_lshl {a : ZX} : zi E CT .lshl a ls st h b N K Rt = zli st (fun x y r => N ls (.inr (.inl (zlshl x y)) :: r) h b) := rfl
theorem e_lshr {a : ZX} : zi E CT .lshr a ls st h b N K Rt = zli st (fun x y r => N ls (.inr (.inl (zlshr x y)) :: r) h b) := rfl
theorem e_lushr {a : ZX} : zi E CT .lushr a ls st h b N K Rt = zli st (fun x y r => N ls (.inr (.inl (zlushr x y)) :: r) h b) := rfl
theorem e_lcmp {a : ZX} : zi E CT .lcmp a ls st h b N K Rt = zl2 st (fun x y r => N ls (.inl (zcmpL x y) :: r) h b) := rfl
theorem e_dupi {z : Int} {r : List ZV} {a : ZX} : zi E CT .dup a ls (.inl z :: r) h b N K Rt = N ls (.inl z :: .inl z :: r) h b := by
  show (1 = 1 ∧ _) = _
  simp
theorem e_dupr {v : Nat ⊕ Nat} {r : List ZV} {a : ZX} : zi E CT .dup a ls (.inr (.inr v) :: r) h b N K Rt = N ls (.inr (.inr v) :: .inr (.inr v) :: r) h b := by
  show (1 = 1 ∧ _) = _
  simp
theorem e_popi {z : Int} {r : List ZV} {a : ZX} : zi E CT .pop a ls (.inl z :: r) h b N K Rt = N ls r h b := by
  show (1 = 1 ∧ _) = _
  simp
theorem e_dup2 {z : Int} {v : Nat ⊕ Nat} {r : List ZV} {a : ZX} : zi E CT .dup2 a ls (.inl z :: .inr (.inr v) :: r) h b N K Rt = N ls (.inl z :: .inr (.inr v) :: .inl z :: .inr (.inr v) :: r) h b := by
  show (1 = 1 ∧ 1 = 1 ∧ _) = _
  simp
theorem e_goto {f : Int} {t : Nat} : zi E CT (.goto f) (c, t :: l, tb) ls st h b N K Rt = K t ls st h b := rfl
theorem e_if {cd : ClassFile.Cond} {f : Int} {t : Nat} : zi E CT (.ifCond cd f) (c, t :: l, tb) ls st h b N K Rt = z1 st (fun x r => zcnd cd (zr x) 0 (K t ls r h b) (N ls r h b)) := rfl
theorem e_icmp {cd : ClassFile.Cond} {f : Int} {t : Nat} : zi E CT (.if_icmp cd f) (c, t :: l, tb) ls st h b N K Rt = z2 st (fun x y r => zcnd cd (zr x) (zr y) (K t ls r h b) (N ls r h b)) := rfl
theorem e_tsw {d lo hi : Int} {os : Array Int} {t : Nat} : zi E CT (.tableswitch d lo hi os) (c, t :: l, tb) ls st h b N K Rt = z1 st (fun x r => zsw (zr x) tb t (fun t => K t ls r h b)) := rfl
theorem e_lsw {d : Int} {os : Array (Int × Int)} {t : Nat} : zi E CT (.lookupswitch d os) (c, t :: l, tb) ls st h b N K Rt = z1 st (fun x r => zsw (zr x) tb t (fun t => K t ls r h b)) := rfl
theorem e_getf {x ci k : Nat} : zi E CT (.getfield x) (c, ci :: k :: l, tb) ls st h b N K Rt = zgf h ci k st (fun r => N ls r h b) := rfl
theorem e_putf {x ci k : Nat} : zi E CT (.putfield x) (c, ci :: k :: l, tb) ls st h b N K Rt = zpf h ci k c st (fun r h => N ls r h b) := rfl
theorem e_gets {x q : Nat} : zi E CT (.getstatic x) (c, q :: l, tb) ls st h b N K Rt = N ls (.inr (.inr (.inr q)) :: st) h b := rfl
theorem e_iald {a : ZX} : zi E CT .iaload a ls st h b N K Rt = zal E h false st (fun r => N ls r h b) := rfl
theorem e_cald {a : ZX} : zi E CT .caload a ls st h b N K Rt = zal E h true st (fun r => N ls r h b) := rfl
theorem e_iast {a : ZX} : zi E CT .iastore a ls st h b N K Rt = zas h st (fun r h => N ls r h b) := rfl
theorem e_aald {a : ZX} : zi E CT .aaload a ls st h b N K Rt = zaal h st (fun r => N ls r h b) := rfl
theorem e_aast {a : ZX} : zi E CT .aastore a ls st h b N K Rt = zaas h st (fun r h => N ls r h b) := rfl
theorem e_len {a : ZX} : zi E CT .arraylength a ls st h b N K Rt = zlen E h st (fun r => N ls r h b) := rfl
theorem e_copy {x : Nat} : zi E CT (.invokestatic x) (c, [], tb) ls st h b N K Rt = zcopy h st (fun r h => N ls r h b) := rfl
theorem e_abs {x : Nat} : zi E CT (.invokestatic x) (c, [0], tb) ls st h b N K Rt = z1 st (fun x r => (r.map zcat).sum ≤ 8 ∧ N ls (.inl (if 0 ≤ zr x then x else -x) :: r) h b) := rfl
theorem e_max {x : Nat} : zi E CT (.invokestatic x) (c, [1], tb) ls st h b N K Rt = z2 st (fun x y r => (r.map zcat).sum ≤ 8 ∧ N ls (.inl (if zr x < zr y then y else x) :: r) h b) := rfl
theorem e_min {x : Nat} : zi E CT (.invokestatic x) (c, [2], tb) ls st h b N K Rt = z2 st (fun x y r => (r.map zcat).sum ≤ 8 ∧ N ls (.inl (if zr y < zr x then y else x) :: r) h b) := rfl
theorem e_iret {z : Int} {a : ZX} : zi E CT .ireturn a ls [.inl z] h b N K Rt = Rt (some (.inl z)) h b := rfl
theorem e_aret {k : Nat} {a : ZX} : zi E CT .areturn a ls [.inr (.inr (.inl k))] h b N K Rt = Rt (some (.inr (.inr (.inl k)))) h b := rfl
theorem e_vret {a : ZX} : zi E CT .return_ a ls [] h b N K Rt = Rt none h b := rfl
/-- calls that make nothing -/
def zcl0 (C : ZC) (as : List ZV) (ls : ZL) (r : List ZV) (h : ZH) (b : ZB2) (N : ZN) : Prop := (r.map zcat).sum ≤ 8 ∧ C as h (fun v h' => zrk v r (fun st => N ls st h' b))
theorem e_is {x n k : Nat} {ci : Nat} : zi E CT (.invokestatic x) (0, n :: k :: 0 :: ci :: l, tb) ls st h b N K Rt = (((st.drop k).map zcat).sum ≤ 8 ∧ k ≤ st.length ∧ CT n (st.take k).reverse h (fun v h' => zrk v (st.drop k) (fun st => N ls st h' b))) := by
  have e : zi E CT (.invokestatic x) (0, n :: k :: 0 :: ci :: l, tb) ls st h b N K Rt = zinv CT 0 (0, n :: k :: 0 :: ci :: l, tb) ls st h b N := by
    match n with
    | 0 => rfl
    | 1 => rfl
    | 2 => rfl
    | n + 3 => rfl
  rw [e]
  unfold zinv zrk
  simp
theorem e_is0 {x n : Nat} {ci : Nat} {r : List ZV} : zi E CT (.invokestatic x) (0, n :: 0 :: 0 :: ci :: l, tb) ls r h b N K Rt = zcl0 (CT n) [] ls r h b N := by rw [e_is]; simp [zcl0]
theorem e_is1 {x n : Nat} {ci : Nat} {r : List ZV} {v0 : ZV} : zi E CT (.invokestatic x) (0, n :: 1 :: 0 :: ci :: l, tb) ls (v0 :: r) h b N K Rt = zcl0 (CT n) [v0] ls r h b N := by rw [e_is]; simp [zcl0]
theorem e_is2 {x n : Nat} {ci : Nat} {r : List ZV} {v0 v1 : ZV} : zi E CT (.invokestatic x) (0, n :: 2 :: 0 :: ci :: l, tb) ls (v1 :: v0 :: r) h b N K Rt = zcl0 (CT n) [v0, v1] ls r h b N := by rw [e_is]; simp [zcl0]
theorem e_is3 {x n : Nat} {ci : Nat} {r : List ZV} {v0 v1 v2 : ZV} : zi E CT (.invokestatic x) (0, n :: 3 :: 0 :: ci :: l, tb) ls (v2 :: v1 :: v0 :: r) h b N K Rt = zcl0 (CT n) [v0, v1, v2] ls r h b N := by rw [e_is]; simp [zcl0]
theorem e_is4 {x n : Nat} {ci : Nat} {r : List ZV} {v0 v1 v2 v3 : ZV} : zi E CT (.invokestatic x) (0, n :: 4 :: 0 :: ci :: l, tb) ls (v3 :: v2 :: v1 :: v0 :: r) h b N K Rt = zcl0 (CT n) [v0, v1, v2, v3] ls r h b N := by rw [e_is]; simp [zcl0]
theorem e_iv {x n k : Nat} {ci : Nat} : zi E CT (.invokevirtual x) (0, n :: k :: 0 :: ci :: l, tb) ls st h b N K Rt = (((st.drop k).map zcat).sum ≤ 8 ∧ zrecv h (st.take k).reverse ci ∧ k ≤ st.length ∧ CT n (st.take k).reverse h (fun v h' => zrk v (st.drop k) (fun st => N ls st h' b))) := by
  show zinv CT 1 (0, n :: k :: 0 :: ci :: l, tb) ls st h b N = _
  unfold zinv zrk
  simp
def zclv (C : ZC) (as : List ZV) (ci : Nat) (ls : ZL) (r : List ZV) (h : ZH) (b : ZB2) (N : ZN) : Prop := (r.map zcat).sum ≤ 8 ∧ zrecv h as ci ∧ C as h (fun v h' => zrk v r (fun st => N ls st h' b))
theorem e_iv1 {x n : Nat} {ci : Nat} {r : List ZV} {v0 : ZV} : zi E CT (.invokevirtual x) (0, n :: 1 :: 0 :: ci :: l, tb) ls (v0 :: r) h b N K Rt = zclv (CT n) [v0] ci ls r h b N := by rw [e_iv]; simp [zclv]
theorem e_iv2 {x n : Nat} {ci : Nat} {r : List ZV} {v0 v1 : ZV} : zi E CT (.invokevirtual x) (0, n :: 2 :: 0 :: ci :: l, tb) ls (v1 :: v0 :: r) h b N K Rt = zclv (CT n) [v0, v1] ci ls r h b N := by rw [e_iv]; simp [zclv]
theorem e_iv3 {x n : Nat} {ci : Nat} {r : List ZV} {v0 v1 v2 : ZV} : zi E CT (.invokevirtual x) (0, n :: 3 :: 0 :: ci :: l, tb) ls (v2 :: v1 :: v0 :: r) h b N K Rt = zclv (CT n) [v0, v1, v2] ci ls r h b N := by rw [e_iv]; simp [zclv]
theorem e_iv4 {x n : Nat} {ci : Nat} {r : List ZV} {v0 v1 v2 v3 : ZV} : zi E CT (.invokevirtual x) (0, n :: 4 :: 0 :: ci :: l, tb) ls (v3 :: v2 :: v1 :: v0 :: r) h b N K Rt = zclv (CT n) [v0, v1, v2, v3] ci ls r h b N := by rw [e_iv]; simp [zclv]
theorem e_iv5 {x n : Nat} {ci : Nat} {r : List ZV} {v0 v1 v2 v3 v4 : ZV} : zi E CT (.invokevirtual x) (0, n :: 5 :: 0 :: ci :: l, tb) ls (v4 :: v3 :: v2 :: v1 :: v0 :: r) h b N K Rt = zclv (CT n) [v0, v1, v2, v3, v4] ci ls r h b N := by rw [e_iv]; simp [zclv]
theorem e_iv6 {x n : Nat} {ci : Nat} {r : List ZV} {v0 v1 v2 v3 v4 v5 : ZV} : zi E CT (.invokevirtual x) (0, n :: 6 :: 0 :: ci :: l, tb) ls (v5 :: v4 :: v3 :: v2 :: v1 :: v0 :: r) h b N K Rt = zclv (CT n) [v0, v1, v2, v3, v4, v5] ci ls r h b N := by rw [e_iv]; simp [zclv]
end ZEv
