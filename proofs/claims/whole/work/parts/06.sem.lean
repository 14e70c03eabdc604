/-! WHAT AN INSTRUCTION DOES, as a rule that goes backward: N goes on behind it, K at a jump's end, Rt at the method's end -/
def zix (a : ZX) : Nat := match a.2.1 with
  | x :: _ => x
  | [] => 0
def zcat (v : ZV) : Nat := match v with
  | .inr (.inl _) => 2
  | _ => 1
def zsw (x : Int) (l : List (Int × Nat)) (d : Nat) (k : Nat → Prop) : Prop := match l with
  | [] => k d
  | q :: r => (x = q.1 → k q.2) ∧ (¬ x = q.1 → zsw x r d k)
def ztg (x : Int) (l : List (Int × Nat)) (d : Nat) : Nat := match l with
  | [] => d
  | q :: r => if x = q.1 then q.2 else ztg x r d
theorem zsw_tg {x : Int} {d : Nat} {k : Nat → Prop} : ∀ {l : List (Int × Nat)}, zsw x l d k → k (ztg x l d)
  | [], h => h
  | q :: r, h => by
    unfold ztg
    by_cases e : x = q.1
    · rw [if_pos e]; exact h.1 e
    · rw [if_neg e]; exact zsw_tg (h.2 e)
def zldi (ls : ZL) (i : Nat) (k : ZV → Prop) : Prop := match ls[i]? with
  | some (some (.inl z)) => k (.inl z)
  | _ => False
def zldl (ls : ZL) (i : Nat) (k : ZV → Prop) : Prop := match ls[i]? with
  | some (some (.inr (.inl z))) => k (.inr (.inl z))
  | _ => False
def zlda (ls : ZL) (i : Nat) (k : ZV → Prop) : Prop := match ls[i]? with
  | some (some (.inr (.inr v))) => k (.inr (.inr v))
  | _ => False
def zsti (ls : ZL) (i : Nat) (st : List ZV) (k : ZL → List ZV → Prop) : Prop := match st with
  | .inl z :: r => zok ls i ∧ k (ls.set i (some (.inl z))) r
  | _ => False
def zsta (ls : ZL) (i : Nat) (st : List ZV) (k : ZL → List ZV → Prop) : Prop := match st with
  | .inr (.inr v) :: r => zok ls i ∧ k (ls.set i (some (.inr (.inr v)))) r
  | _ => False
def z1 (st : List ZV) (k : Int → List ZV → Prop) : Prop := match st with
  | .inl x :: r => k x r
  | _ => False
def z2 (st : List ZV) (k : Int → Int → List ZV → Prop) : Prop := match st with
  | .inl y :: .inl x :: r => k x y r
  | _ => False
def zl1 (st : List ZV) (k : Int → List ZV → Prop) : Prop := match st with
  | .inr (.inl x) :: r => k x r
  | _ => False
def zl2 (st : List ZV) (k : Int → Int → List ZV → Prop) : Prop := match st with
  | .inr (.inl y) :: .inr (.inl x) :: r => k x y r
  | _ => False
def zli (st : List ZV) (k : Int → Int → List ZV → Prop) : Prop := match st with
  | .inl y :: .inr (.inl x) :: r => k x y r
  | _ => False
def zcnd (c : ClassFile.Cond) (x y : Int) (t f : Prop) : Prop := match c with
  | .eq => (x = y → t) ∧ (¬ x = y → f)
  | .ne => (x = y → f) ∧ (¬ x = y → t)
  | .lt => (x < y → t) ∧ (¬ x < y → f)
  | .ge => (x < y → f) ∧ (¬ x < y → t)
  | .gt => (y < x → t) ∧ (¬ y < x → f)
  | .le => (y < x → f) ∧ (¬ y < x → t)
def zgf (h : ZH) (ci k : Nat) (st : List ZV) (kk : List ZV → Prop) : Prop := match st with
  | .inr (.inr (.inl a)) :: r => match h.1[a]? with
    | some (.inl o) => o.1 = ci ∧ (match o.2[k]? with
      | some none => kk (.inl (h.2 a k) :: r)
      | some (some (some t)) => kk (.inr (.inr (.inl t)) :: r)
      | _ => False)
    | _ => False
  | _ => False
def zpf (h : ZH) (ci k : Nat) (kd : Int) (st : List ZV) (kk : List ZV → ZH → Prop) : Prop := match st with
  | v :: .inr (.inr (.inl a)) :: r => match h.1[a]? with
    | some (.inl o) => o.1 = ci ∧ (match o.2[k]?, v with
      | some none, .inl z => (kd = 0 ∨ kd = 1 ∧ (zr z = 0 ∨ zr z = 1)) ∧ kk r (h.1, zup h.2 a k z)
      | some (some _), .inr (.inr (.inl t)) => kd = 2 ∧ kk r (h.1.set a (.inl (o.1, o.2.set k (some (some t)))), h.2)
      | _, _ => False)
    | _ => False
  | _ => False
def zrN (q L : Nat) : Nat := match q with
  | 0 => 7
  | 1 => 28
  | 2 => 6
  | _ => L
def zrF (q : Nat) (xs : Nat → Int) (j : Nat) : Int := match q with
  | 0 => ([-1, 0, 0, 0, 1, 2, 3] : List Int).getD j 0
  | 1 => ([10, 11, 12, 13, 20, 0, 0, 0, 0, 30, 0, 0, 0, 0, 40, 0, 0, 0, 0, 50, 0, 60, 0, 0, 0, 0, 70, 71] : List Int).getD j 0
  | 2 => ([101, 100, 121, 112, 114, 119] : List Int).getD j 0
  | _ => xs j
def zal (E : ZE) (h : ZH) (ch : Bool) (st : List ZV) (kk : List ZV → Prop) : Prop := match st with
  | .inl i :: .inr (.inr (.inl a)) :: r => ch = false ∧ (match h.1[a]? with
    | some (.inr (.inl n)) => 0 ≤ zr i ∧ zr i < n ∧ kk (.inl (h.2 a (zr i).toNat) :: r)
    | _ => False)
  | .inl i :: .inr (.inr (.inr q)) :: r => (ch = true ↔ q = 2) ∧ q < 4 ∧ 0 ≤ zr i ∧ zr i < zrN q E.2.2.2.2.2.1 ∧ kk (.inl (zrF q E.2.2.2.2.2.2 (zr i).toNat) :: r)
  | _ => False
def zas (h : ZH) (st : List ZV) (kk : List ZV → ZH → Prop) : Prop := match st with
  | .inl z :: .inl i :: .inr (.inr (.inl a)) :: r => match h.1[a]? with
    | some (.inr (.inl n)) => 0 ≤ zr i ∧ zr i < n ∧ kk r (h.1, zup h.2 a (zr i).toNat z)
    | _ => False
  | _ => False
def zaal (h : ZH) (st : List ZV) (kk : List ZV → Prop) : Prop := match st with
  | .inl i :: .inr (.inr (.inl a)) :: r => match h.1[a]? with
    | some (.inr (.inr o)) => 0 ≤ zr i ∧ zr i < o.1 ∧ (match o.2 (zr i).toNat with
      | some t => kk (.inr (.inr (.inl t)) :: r)
      | none => False)
    | _ => False
  | _ => False
def zaas (h : ZH) (st : List ZV) (kk : List ZV → ZH → Prop) : Prop := match st with
  | .inr (.inr (.inl t)) :: .inl i :: .inr (.inr (.inl a)) :: r => match h.1[a]?, h.1[t]? with
    | some (.inr (.inr o)), some (.inl x) => x.1 = 7 ∧ 0 ≤ zr i ∧ zr i < o.1 ∧ kk r (h.1.set a (.inr (.inr (o.1, va_up o.2 (zr i).toNat (some t)))), h.2)
    | _, _ => False
  | _ => False
def zlen (E : ZE) (h : ZH) (st : List ZV) (kk : List ZV → Prop) : Prop := match st with
  | .inr (.inr (.inl a)) :: r => match h.1[a]? with
    | some (.inr (.inl n)) => kk (.inl n :: r)
    | some (.inr (.inr o)) => kk (.inl o.1 :: r)
    | _ => False
  | .inr (.inr (.inr q)) :: r => q < 4 ∧ kk (.inl (zrN q E.2.2.2.2.2.1) :: r)
  | _ => False
def zcopy (h : ZH) (st : List ZV) (kk : List ZV → ZH → Prop) : Prop := match st with
  | .inl n :: .inl dp :: .inr (.inr (.inl a1)) :: .inl sp :: .inr (.inr (.inl a0)) :: r => (r.map zcat).sum ≤ 8 ∧ (match h.1[a0]?, h.1[a1]? with
    | some (.inr (.inl n0)), some (.inr (.inl n1)) => 0 ≤ zr sp ∧ 0 ≤ zr dp ∧ 0 ≤ zr n ∧ zr sp + zr n ≤ n0 ∧ zr dp + zr n ≤ n1 ∧ kk r (h.1, zcp h.2 a0 a1 (zr sp).toNat (zr dp).toNat (zr n).toNat)
    | _, _ => False)
  | _ => False
def zrecv (h : ZH) (as : List ZV) (ci : Nat) : Prop := match as with
  | .inr (.inr (.inl x)) :: _ => match h.1[x]? with
    | some (.inl o) => o.1 = ci
    | _ => False
  | _ => False
def zisr (as : List ZV) : Prop := match as with
  | .inr (.inr (.inl _)) :: _ => True
  | _ => False
/-- a call: its aux is (slots that it makes, [number of the method, its arguments (this too), cells that it makes, its kind, ..]) -/
def zinv (CT : Nat → ZC) (vi : Nat) (a : ZX) (ls : ZL) (st : List ZV) (h : ZH) (b : ZB2) (N : ZN) : Prop := match a.2.1 with
  | n :: k :: mc :: ci :: _ => ((st.drop k).map zcat).sum ≤ 8 ∧ (vi = 1 → zrecv h (st.take k).reverse ci) ∧ (vi = 2 → zisr (st.take k).reverse) ∧ k ≤ st.length ∧ mc ≤ b.1 ∧ a.1.toNat ≤ b.2 ∧ CT n (st.take k).reverse h (fun v h' => N ls (v.toList ++ st.drop k) h' (b.1 - mc, b.2 - a.1.toNat))
  | _ => False
def zi (E : ZE) (CT : Nat → ZC) (i : Instr) (a : ZX) (ls : ZL) (st : List ZV) (h : ZH) (b : ZB2) (N : ZN) (K : ZK) (Rt : ZR) : Prop :=
  match i with
  | .iconst n => N ls (.inl n :: st) h b
  | .bipush n => N ls (.inl n :: st) h b
  | .sipush n => N ls (.inl n :: st) h b
  | .ldc _ => N ls (.inl a.1 :: st) h b
  | .ldc_w _ => N ls (.inl a.1 :: st) h b
  | .ldc2_w _ => N ls (.inr (.inl a.1) :: st) h b
  | .lconst _ => N ls (.inr (.inl a.1) :: st) h b
  | .iload_n _ => zldi ls (zix a) (fun v => N ls (v :: st) h b)
  | .iload _ => zldi ls (zix a) (fun v => N ls (v :: st) h b)
  | .lload_n _ => zldl ls (zix a) (fun v => N ls (v :: st) h b)
  | .lload _ => zldl ls (zix a) (fun v => N ls (v :: st) h b)
  | .aload_n _ => zlda ls (zix a) (fun v => N ls (v :: st) h b)
  | .aload _ => zlda ls (zix a) (fun v => N ls (v :: st) h b)
  | .istore_n _ => zsti ls (zix a) st (fun ls r => N ls r h b)
  | .istore _ => zsti ls (zix a) st (fun ls r => N ls r h b)
  | .astore_n _ => zsta ls (zix a) st (fun ls r => N ls r h b)
  | .astore _ => zsta ls (zix a) st (fun ls r => N ls r h b)
  | .iinc _ n => zldi ls (zix a) (fun v => zsti ls (zix a) [(match v with | .inl z => .inl (z + n) | w => w)] (fun ls _ => N ls st h b))
  | .iadd => z2 st (fun x y r => N ls (.inl (x + y) :: r) h b)
  | .isub => z2 st (fun x y r => N ls (.inl (x - y) :: r) h b)
  | .imul => z2 st (fun x y r => N ls (.inl (x * y) :: r) h b)
  | .iand => z2 st (fun x y r => N ls (.inl (Int32.ofInt x &&& Int32.ofInt y).toInt :: r) h b)
  | .ior => z2 st (fun x y r => N ls (.inl (Int32.ofInt x ||| Int32.ofInt y).toInt :: r) h b)
  | .ixor => z2 st (fun x y r => N ls (.inl (Int32.ofInt x ^^^ Int32.ofInt y).toInt :: r) h b)
  | .ishl => z2 st (fun x y r => N ls (.inl (Int32.ofInt x <<< (Int32.ofInt y &&& 31)).toInt :: r) h b)
  | .iushr => z2 st (fun x y r => N ls (.inl ((Int32.ofInt x).toUInt32 >>> ((Int32.ofInt y).toUInt32 &&& Int32.toUInt32 31)).toInt32.toInt :: r) h b)
  | .idiv => z2 st (fun x y r => ¬ zr y = 0 ∧ N ls (.inl ((zr x).tdiv (zr y)) :: r) h b)
  | .irem => z2 st (fun x y r => ¬ zr y = 0 ∧ N ls (.inl ((zr x).tmod (zr y)) :: r) h b)
  | .ineg => z1 st (fun x r => N ls (.inl (-x) :: r) h b)
  | .i2l => z1 st (fun x r => N ls (.inr (.inl (zr x)) :: r) h b)
  | .i2b => z1 st (fun x r => N ls (.inl (Int32.ofInt x).toInt8.toInt32.toInt :: r) h b)
  | .i2s => z1 st (fun x r => N ls (.inl (Int32.ofInt x).toInt16.toInt32.toInt :: r) h b)
  | .l2i => zl1 st (fun x r => N ls (.inl (Int64.ofInt x).toInt32.toInt :: r) h b)
  | .land => zl2 st (fun x y r => N ls (.inr (.inl (Int64.ofInt x &&& Int64.ofInt y).toInt) :: r) h b)
  | .lor => zl2 st (fun x y r => N ls (.inr (.inl (Int64.ofInt x ||| Int64.ofInt y).toInt) :: r) h b)
  | .lshl => zli st (fun x y r => N ls (.inr (.inl (Int64.ofInt x <<< ((Int32.ofInt y).toInt64 &&& 63)).toInt) :: r) h b)
  | .lshr => zli st (fun x y r => N ls (.inr (.inl (Int64.ofInt x >>> ((Int32.ofInt y).toInt64 &&& 63)).toInt) :: r) h b)
  | .lushr => zli st (fun x y r => N ls (.inr (.inl ((Int64.ofInt x).toUInt64 >>> ((Int32.ofInt y).toInt64.toUInt64 &&& Int64.toUInt64 63)).toInt64.toInt) :: r) h b)
  | .lcmp => zl2 st (fun x y r => N ls (.inl (if zr8 y < zr8 x then 1 else if zr8 x = zr8 y then 0 else -1) :: r) h b)
  | .dup => match st with
    | v :: r => zcat v = 1 ∧ N ls (v :: v :: r) h b
    | _ => False
  | .pop => match st with
    | v :: r => zcat v = 1 ∧ N ls r h b
    | _ => False
  | .dup2 => match st with
    | v :: w :: r => zcat v = 1 ∧ zcat w = 1 ∧ N ls (v :: w :: v :: w :: r) h b
    | _ => False
  | .goto _ => K (zix a) ls st h b
  | .ifCond c _ => z1 st (fun x r => zcnd c (zr x) 0 (K (zix a) ls r h b) (N ls r h b))
  | .if_icmp c _ => z2 st (fun x y r => zcnd c (zr x) (zr y) (K (zix a) ls r h b) (N ls r h b))
  | .tableswitch _ _ _ _ => z1 st (fun x r => zsw (zr x) a.2.2 (zix a) (fun t => K t ls r h b))
  | .lookupswitch _ _ => z1 st (fun x r => zsw (zr x) a.2.2 (zix a) (fun t => K t ls r h b))
  | .getfield _ => zgf h (zix a) (a.2.1.getD 1 0) st (fun r => N ls r h b)
  | .putfield _ => zpf h (zix a) (a.2.1.getD 1 0) a.1 st (fun r h => N ls r h b)
  | .getstatic _ => N ls (.inr (.inr (.inr (zix a))) :: st) h b
  | .iaload => zal E h false st (fun r => N ls r h b)
  | .caload => zal E h true st (fun r => N ls r h b)
  | .iastore => zas h st (fun r h => N ls r h b)
  | .aaload => zaal h st (fun r => N ls r h b)
  | .aastore => zaas h st (fun r h => N ls r h b)
  | .arraylength => zlen E h st (fun r => N ls r h b)
  | .new _ => 1 ≤ b.1 ∧ (zfl (zix a)).length ≤ b.2 ∧ N ls (.inr (.inr (.inl h.1.length)) :: st) (h.1 ++ [.inl (zix a, zfl (zix a))], zro h.2 h.1.length) (b.1 - 1, b.2 - (zfl (zix a)).length)
  | .newarray _ => z1 st (fun n r => 1 ≤ b.1 ∧ 0 ≤ zr n ∧ zr n ≤ 1000 ∧ (zr n).toNat ≤ b.2 ∧ N ls (.inr (.inr (.inl h.1.length)) :: r) (h.1 ++ [.inr (.inl (zr n).toNat)], zro h.2 h.1.length) (b.1 - 1, b.2 - (zr n).toNat))
  | .anewarray _ => z1 st (fun n r => 1 ≤ b.1 ∧ 0 ≤ zr n ∧ zr n ≤ 1000 ∧ (zr n).toNat ≤ b.2 ∧ N ls (.inr (.inr (.inl h.1.length)) :: r) (h.1 ++ [.inr (.inr ((zr n).toNat, fun _ => none))], zro h.2 h.1.length) (b.1 - 1, b.2 - (zr n).toNat))
  | .invokestatic _ => match a.2.1 with
    | [] => zcopy h st (fun r h => N ls r h b)
    | [0] => z1 st (fun x r => (r.map zcat).sum ≤ 8 ∧ N ls (.inl (if 0 ≤ zr x then x else -x) :: r) h b)
    | [1] => z2 st (fun x y r => (r.map zcat).sum ≤ 8 ∧ N ls (.inl (if zr x < zr y then y else x) :: r) h b)
    | [2] => z2 st (fun x y r => (r.map zcat).sum ≤ 8 ∧ N ls (.inl (if zr y < zr x then y else x) :: r) h b)
    | _ => zinv CT 0 a ls st h b N
  | .invokevirtual _ => zinv CT 1 a ls st h b N
  | .invokespecial _ => match a.2.1 with
    | [] => (match st with
      | .inr (.inr (.inl _)) :: r => (r.map zcat).sum ≤ 8 ∧ N ls r h b
      | _ => False)
    | _ => zinv CT 2 a ls st h b N
  | .ireturn => match st with
    | [.inl z] => Rt (some (.inl z)) h b
    | _ => False
  | .areturn => match st with
    | [.inr (.inr (.inl k))] => Rt (some (.inr (.inr (.inl k)))) h b
    | _ => False
  | .return_ => match st with
    | [] => Rt none h b
    | _ => False
  | _ => False
def zB (E : ZE) (CT : Nat → ZC) (l : List ZI) (pc : Nat) (ls : ZL) (st : List ZV) (h : ZH) (b : ZB2) (K : ZK) (Rt : ZR) : Prop := match l with
  | [] => K pc ls st h b
  | q :: r => zi E CT q.1 q.2.2 ls st h b (fun ls st h b => zB E CT r (pc + q.2.1) ls st h b K Rt) K Rt
