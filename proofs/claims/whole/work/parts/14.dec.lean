/-! DECODING BY BYTES -/
def zb (cc : ByteArray) (p n : Nat) : Prop := ∃ h : p < cc.size, (cc[p]'h).toNat = n
theorem zb_u1 {cc : ByteArray} {p n : Nat} (h : zb cc p n) : (Reader.u1 (ε := DecodeError)) cc p = .ok (n, p + 1) := by
  obtain ⟨h1, h2⟩ := h
  have e : (Reader.u1 (ε := DecodeError)) cc p = (if h : p < cc.size then (do set (p + 1); Pure.pure (cc[p]'h).toNat : Reader DecodeError Nat) else (throw (HasTruncated.truncated p) : Reader DecodeError Nat)) cc p := rfl
  rw [e, dif_pos h1, h2]
  rfl
theorem zb_u2 {cc : ByteArray} {p x y : Nat} (h : zb cc p x) (h2 : zb cc (p + 1) y) : (Reader.u2 (ε := DecodeError)) cc p = .ok (x * 256 + y, p + 1 + 1) := by
  unfold Reader.u2
  dsimp only [ReaderT.run, StateT.run, Bind.bind, ReaderT.bind, StateT.bind, Except.bind]
  rw [zb_u1 h]
  dsimp only
  rw [zb_u1 h2]
  rfl
theorem zb_s1 {cc : ByteArray} {p x : Nat} (h : zb cc p x) : (Reader.s1 (ε := DecodeError)) cc p = .ok (Reader.signed 8 x, p + 1) := by
  have e : (Reader.s1 (ε := DecodeError)) cc p = Except.bind ((Reader.u1 (ε := DecodeError)) cc p) (fun v => .ok (Reader.signed 8 v.1, v.2)) := rfl
  rw [e, zb_u1 h]
  rfl
theorem zb_s2 {cc : ByteArray} {p x y : Nat} (h : zb cc p x) (h2 : zb cc (p + 1) y) : (Reader.s2 (ε := DecodeError)) cc p = .ok (Reader.signed 16 (x * 256 + y), p + 1 + 1) := by
  have e : (Reader.s2 (ε := DecodeError)) cc p = Except.bind ((Reader.u2 (ε := DecodeError)) cc p) (fun v => .ok (Reader.signed 16 v.1, v.2)) := rfl
  rw [e, zb_u2 h h2]
  rfl
abbrev zfin (x : Except DecodeError (Instr × Nat)) (pc : Nat) : Except DecodeError (Instr × Nat) := Except.bind x (fun v => .ok (v.1, v.2 - pc))
set_option maxRecDepth 100000 in
theorem dz_iconst_m1 {cc : ByteArray} {pc : Nat} (h : zb cc pc 2) : decode cc pc = .ok (.iconst (-1), 1) := by
  unfold decode Decoder.instr Reader.runAt
  dsimp only [ReaderT.run, StateT.run, Bind.bind, ReaderT.bind, StateT.bind, Except.bind]
  rw [zb_u1 h]
  dsimp only
  show Except.ok (Instr.iconst (-1), pc + 1 - pc) = _
  rw [Nat.add_sub_cancel_left]
set_option maxRecDepth 100000 in
theorem dz_iconst_0 {cc : ByteArray} {pc : Nat} (h : zb cc pc 3) : decode cc pc = .ok (.iconst 0, 1) := by
  unfold decode Decoder.instr Reader.runAt
  dsimp only [ReaderT.run, StateT.run, Bind.bind, ReaderT.bind, StateT.bind, Except.bind]
  rw [zb_u1 h]
  dsimp only
  show Except.ok (Instr.iconst 0, pc + 1 - pc) = _
  rw [Nat.add_sub_cancel_left]
set_option maxRecDepth 100000 in
theorem dz_iconst_1 {cc : ByteArray} {pc : Nat} (h : zb cc pc 4) : decode cc pc = .ok (.iconst 1, 1) := by
  unfold decode Decoder.instr Reader.runAt
  dsimp only [ReaderT.run, StateT.run, Bind.bind, ReaderT.bind, StateT.bind, Except.bind]
  rw [zb_u1 h]
  dsimp only
  show Except.ok (Instr.iconst 1, pc + 1 - pc) = _
  rw [Nat.add_sub_cancel_left]
set_option maxRecDepth 100000 in
theorem dz_iconst_2 {cc : ByteArray} {pc : Nat} (h : zb cc pc 5) : decode cc pc = .ok (.iconst 2, 1) := by
  unfold decode Decoder.instr Reader.runAt
  dsimp only [ReaderT.run, StateT.run, Bind.bind, ReaderT.bind, StateT.bind, Except.bind]
  rw [zb_u1 h]
  dsimp only
  show Except.ok (Instr.iconst 2, pc + 1 - pc) = _
  rw [Nat.add_sub_cancel_left]
set_option maxRecDepth 100000 in
theorem dz_iconst_3 {cc : ByteArray} {pc : Nat} (h : zb cc pc 6) : decode cc pc = .ok (.iconst 3, 1) := by
  unfold decode Decoder.instr Reader.runAt
  dsimp only [ReaderT.run, StateT.run, Bind.bind, ReaderT.bind, StateT.bind, Except.bind]
  rw [zb_u1 h]
  dsimp only
  show Except.ok (Instr.iconst 3, pc + 1 - pc) = _
  rw [Nat.add_sub_cancel_left]
set_option maxRecDepth 100000 in
theorem dz_iconst_4 {cc : ByteArray} {pc : Nat} (h : zb cc pc 7) : decode cc pc = .ok (.iconst 4, 1) := by
  unfold decode Decoder.instr Reader.runAt
  dsimp only [ReaderT.run, StateT.run, Bind.bind, ReaderT.bind, StateT.bind, Except.bind]
  rw [zb_u1 h]
  dsimp only
  show Except.ok (Instr.iconst 4, pc + 1 - pc) = _
  rw [Nat.add_sub_cancel_left]
set_option maxRecDepth 100000 in
theorem dz_iconst_5 {cc : ByteArray} {pc : Nat} (h : zb cc pc 8) : decode cc pc = .ok (.iconst 5, 1) := by
  unfold decode Decoder.instr Reader.runAt
  dsimp only [ReaderT.run, StateT.run, Bind.bind, ReaderT.bind, StateT.bind, Except.bind]
  rw [zb_u1 h]
  dsimp only
  show Except.ok (Instr.iconst 5, pc + 1 - pc) = _
  rw [Nat.add_sub_cancel_left]
set_option maxRecDepth 100000 in
theorem dz_lconst_0 {cc : ByteArray} {pc : Nat} (h : zb cc pc 9) : decode cc pc = .ok (.lconst 0, 1) := by
  unfold decode Decoder.instr Reader.runAt
  dsimp only [ReaderT.run, StateT.run, Bind.bind, ReaderT.bind, StateT.bind, Except.bind]
  rw [zb_u1 h]
  dsimp only
  show Except.ok (Instr.lconst 0, pc + 1 - pc) = _
  rw [Nat.add_sub_cancel_left]
set_option maxRecDepth 100000 in
theorem dz_lconst_1 {cc : ByteArray} {pc : Nat} (h : zb cc pc 10) : decode cc pc = .ok (.lconst 1, 1) := by
  unfold decode Decoder.instr Reader.runAt
  dsimp only [ReaderT.run, StateT.run, Bind.bind, ReaderT.bind, StateT.bind, Except.bind]
  rw [zb_u1 h]
  dsimp only
  show Except.ok (Instr.lconst 1, pc + 1 - pc) = _
  rw [Nat.add_sub_cancel_left]
set_option maxRecDepth 100000 in
theorem dz_iload_n0 {cc : ByteArray} {pc : Nat} (h : zb cc pc 26) : decode cc pc = .ok (.iload_n 0, 1) := by
  unfold decode Decoder.instr Reader.runAt
  dsimp only [ReaderT.run, StateT.run, Bind.bind, ReaderT.bind, StateT.bind, Except.bind]
  rw [zb_u1 h]
  dsimp only
  show Except.ok (Instr.iload_n 0, pc + 1 - pc) = _
  rw [Nat.add_sub_cancel_left]
set_option maxRecDepth 100000 in
theorem dz_iload_n1 {cc : ByteArray} {pc : Nat} (h : zb cc pc 27) : decode cc pc = .ok (.iload_n 1, 1) := by
  unfold decode Decoder.instr Reader.runAt
  dsimp only [ReaderT.run, StateT.run, Bind.bind, ReaderT.bind, StateT.bind, Except.bind]
  rw [zb_u1 h]
  dsimp only
  show Except.ok (Instr.iload_n 1, pc + 1 - pc) = _
  rw [Nat.add_sub_cancel_left]
set_option maxRecDepth 100000 in
theorem dz_iload_n2 {cc : ByteArray} {pc : Nat} (h : zb cc pc 28) : decode cc pc = .ok (.iload_n 2, 1) := by
  unfold decode Decoder.instr Reader.runAt
  dsimp only [ReaderT.run, StateT.run, Bind.bind, ReaderT.bind, StateT.bind, Except.bind]
  rw [zb_u1 h]
  dsimp only
  show Except.ok (Instr.iload_n 2, pc + 1 - pc) = _
  rw [Nat.add_sub_cancel_left]
set_option maxRecDepth 100000 in
theorem dz_iload_n3 {cc : ByteArray} {pc : Nat} (h : zb cc pc 29) : decode cc pc = .ok (.iload_n 3, 1) := by
  unfold decode Decoder.instr Reader.runAt
  dsimp only [ReaderT.run, StateT.run, Bind.bind, ReaderT.bind, StateT.bind, Except.bind]
  rw [zb_u1 h]
  dsimp only
  show Except.ok (Instr.iload_n 3, pc + 1 - pc) = _
  rw [Nat.add_sub_cancel_left]
set_option maxRecDepth 100000 in
theorem dz_lload_n0 {cc : ByteArray} {pc : Nat} (h : zb cc pc 30) : decode cc pc = .ok (.lload_n 0, 1) := by
  unfold decode Decoder.instr Reader.runAt
  dsimp only [ReaderT.run, StateT.run, Bind.bind, ReaderT.bind, StateT.bind, Except.bind]
  rw [zb_u1 h]
  dsimp only
  show Except.ok (Instr.lload_n 0, pc + 1 - pc) = _
  rw [Nat.add_sub_cancel_left]
set_option maxRecDepth 100000 in
theorem dz_lload_n1 {cc : ByteArray} {pc : Nat} (h : zb cc pc 31) : decode cc pc = .ok (.lload_n 1, 1) := by
  unfold decode Decoder.instr Reader.runAt
  dsimp only [ReaderT.run, StateT.run, Bind.bind, ReaderT.bind, StateT.bind, Except.bind]
  rw [zb_u1 h]
  dsimp only
  show Except.ok (Instr.lload_n 1, pc + 1 - pc) = _
  rw [Nat.add_sub_cancel_left]
set_option maxRecDepth 100000 in
theorem dz_lload_n2 {cc : ByteArray} {pc : Nat} (h : zb cc pc 32) : decode cc pc = .ok (.lload_n 2, 1) := by
  unfold decode Decoder.instr Reader.runAt
  dsimp only [ReaderT.run, StateT.run, Bind.bind, ReaderT.bind, StateT.bind, Except.bind]
  rw [zb_u1 h]
  dsimp only
  show Except.ok (Instr.lload_n 2, pc + 1 - pc) = _
  rw [Nat.add_sub_cancel_left]
set_option maxRecDepth 100000 in
theorem dz_lload_n3 {cc : ByteArray} {pc : Nat} (h : zb cc pc 33) : decode cc pc = .ok (.lload_n 3, 1) := by
  unfold decode Decoder.instr Reader.runAt
  dsimp only [ReaderT.run, StateT.run, Bind.bind, ReaderT.bind, StateT.bind, Except.bind]
  rw [zb_u1 h]
  dsimp only
  show Except.ok (Instr.lload_n 3, pc + 1 - pc) = _
  rw [Nat.add_sub_cancel_left]
set_option maxRecDepth 100000 in
theorem dz_aload_n0 {cc : ByteArray} {pc : Nat} (h : zb cc pc 42) : decode cc pc = .ok (.aload_n 0, 1) := by
  unfold decode Decoder.instr Reader.runAt
  dsimp only [ReaderT.run, StateT.run, Bind.bind, ReaderT.bind, StateT.bind, Except.bind]
  rw [zb_u1 h]
  dsimp only
  show Except.ok (Instr.aload_n 0, pc + 1 - pc) = _
  rw [Nat.add_sub_cancel_left]
set_option maxRecDepth 100000 in
theorem dz_aload_n1 {cc : ByteArray} {pc : Nat} (h : zb cc pc 43) : decode cc pc = .ok (.aload_n 1, 1) := by
  unfold decode Decoder.instr Reader.runAt
  dsimp only [ReaderT.run, StateT.run, Bind.bind, ReaderT.bind, StateT.bind, Except.bind]
  rw [zb_u1 h]
  dsimp only
  show Except.ok (Instr.aload_n 1, pc + 1 - pc) = _
  rw [Nat.add_sub_cancel_left]
set_option maxRecDepth 100000 in
theorem dz_aload_n2 {cc : ByteArray} {pc : Nat} (h : zb cc pc 44) : decode cc pc = .ok (.aload_n 2, 1) := by
  unfold decode Decoder.instr Reader.runAt
  dsimp only [ReaderT.run, StateT.run, Bind.bind, ReaderT.bind, StateT.bind, Except.bind]
  rw [zb_u1 h]
  dsimp only
  show Except.ok (Instr.aload_n 2, pc + 1 - pc) = _
  rw [Nat.add_sub_cancel_left]
set_option maxRecDepth 100000 in
theorem dz_aload_n3 {cc : ByteArray} {pc : Nat} (h : zb cc pc 45) : decode cc pc = .ok (.aload_n 3, 1) := by
  unfold decode Decoder.instr Reader.runAt
  dsimp only [ReaderT.run, StateT.run, Bind.bind, ReaderT.bind, StateT.bind, Except.bind]
  rw [zb_u1 h]
  dsimp only
  show Except.ok (Instr.aload_n 3, pc + 1 - pc) = _
  rw [Nat.add_sub_cancel_left]
set_option maxRecDepth 100000 in
theorem dz_istore_n0 {cc : ByteArray} {pc : Nat} (h : zb cc pc 59) : decode cc pc = .ok (.istore_n 0, 1) := by
  unfold decode Decoder.instr Reader.runAt
  dsimp only [ReaderT.run, StateT.run, Bind.bind, ReaderT.bind, StateT.bind, Except.bind]
  rw [zb_u1 h]
  dsimp only
  show Except.ok (Instr.istore_n 0, pc + 1 - pc) = _
  rw [Nat.add_sub_cancel_left]
set_option maxRecDepth 100000 in
theorem dz_istore_n1 {cc : ByteArray} {pc : Nat} (h : zb cc pc 60) : decode cc pc = .ok (.istore_n 1, 1) := by
  unfold decode Decoder.instr Reader.runAt
  dsimp only [ReaderT.run, StateT.run, Bind.bind, ReaderT.bind, StateT.bind, Except.bind]
  rw [zb_u1 h]
  dsimp only
  show Except.ok (Instr.istore_n 1, pc + 1 - pc) = _
  rw [Nat.add_sub_cancel_left]
set_option maxRecDepth 100000 in
theorem dz_istore_n2 {cc : ByteArray} {pc : Nat} (h : zb cc pc 61) : decode cc pc = .ok (.istore_n 2, 1) := by
  unfold decode Decoder.instr Reader.runAt
  dsimp only [ReaderT.run, StateT.run, Bind.bind, ReaderT.bind, StateT.bind, Except.bind]
  rw [zb_u1 h]
  dsimp only
  show Except.ok (Instr.istore_n 2, pc + 1 - pc) = _
  rw [Nat.add_sub_cancel_left]
set_option maxRecDepth 100000 in
theorem dz_istore_n3 {cc : ByteArray} {pc : Nat} (h : zb cc pc 62) : decode cc pc = .ok (.istore_n 3, 1) := by
  unfold decode Decoder.instr Reader.runAt
  dsimp only [ReaderT.run, StateT.run, Bind.bind, ReaderT.bind, StateT.bind, Except.bind]
  rw [zb_u1 h]
  dsimp only
  show Except.ok (Instr.istore_n 3, pc + 1 - pc) = _
  rw [Nat.add_sub_cancel_left]
set_option maxRecDepth 100000 in
theorem dz_astore_n0 {cc : ByteArray} {pc : Nat} (h : zb cc pc 75) : decode cc pc = .ok (.astore_n 0, 1) := by
  unfold decode Decoder.instr Reader.runAt
  dsimp only [ReaderT.run, StateT.run, Bind.bind, ReaderT.bind, StateT.bind, Except.bind]
  rw [zb_u1 h]
  dsimp only
  show Except.ok (Instr.astore_n 0, pc + 1 - pc) = _
  rw [Nat.add_sub_cancel_left]
set_option maxRecDepth 100000 in
theorem dz_astore_n1 {cc : ByteArray} {pc : Nat} (h : zb cc pc 76) : decode cc pc = .ok (.astore_n 1, 1) := by
  unfold decode Decoder.instr Reader.runAt
  dsimp only [ReaderT.run, StateT.run, Bind.bind, ReaderT.bind, StateT.bind, Except.bind]
  rw [zb_u1 h]
  dsimp only
  show Except.ok (Instr.astore_n 1, pc + 1 - pc) = _
  rw [Nat.add_sub_cancel_left]
set_option maxRecDepth 100000 in
theorem dz_astore_n2 {cc : ByteArray} {pc : Nat} (h : zb cc pc 77) : decode cc pc = .ok (.astore_n 2, 1) := by
  unfold decode Decoder.instr Reader.runAt
  dsimp only [ReaderT.run, StateT.run, Bind.bind, ReaderT.bind, StateT.bind, Except.bind]
  rw [zb_u1 h]
  dsimp only
  show Except.ok (Instr.astore_n 2, pc + 1 - pc) = _
  rw [Nat.add_sub_cancel_left]
set_option maxRecDepth 100000 in
theorem dz_astore_n3 {cc : ByteArray} {pc : Nat} (h : zb cc pc 78) : decode cc pc = .ok (.astore_n 3, 1) := by
  unfold decode Decoder.instr Reader.runAt
  dsimp only [ReaderT.run, StateT.run, Bind.bind, ReaderT.bind, StateT.bind, Except.bind]
  rw [zb_u1 h]
  dsimp only
  show Except.ok (Instr.astore_n 3, pc + 1 - pc) = _
  rw [Nat.add_sub_cancel_left]
set_option maxRecDepth 100000 in
theorem dz_iaload {cc : ByteArray} {pc : Nat} (h : zb cc pc 46) : decode cc pc = .ok (.iaload, 1) := by
  unfold decode Decoder.instr Reader.runAt
  dsimp only [ReaderT.run, StateT.run, Bind.bind, ReaderT.bind, StateT.bind, Except.bind]
  rw [zb_u1 h]
  dsimp only
  show Except.ok (Instr.iaload, pc + 1 - pc) = _
  rw [Nat.add_sub_cancel_left]
set_option maxRecDepth 100000 in
theorem dz_aaload {cc : ByteArray} {pc : Nat} (h : zb cc pc 50) : decode cc pc = .ok (.aaload, 1) := by
  unfold decode Decoder.instr Reader.runAt
  dsimp only [ReaderT.run, StateT.run, Bind.bind, ReaderT.bind, StateT.bind, Except.bind]
  rw [zb_u1 h]
  dsimp only
  show Except.ok (Instr.aaload, pc + 1 - pc) = _
  rw [Nat.add_sub_cancel_left]
set_option maxRecDepth 100000 in
theorem dz_caload {cc : ByteArray} {pc : Nat} (h : zb cc pc 52) : decode cc pc = .ok (.caload, 1) := by
  unfold decode Decoder.instr Reader.runAt
  dsimp only [ReaderT.run, StateT.run, Bind.bind, ReaderT.bind, StateT.bind, Except.bind]
  rw [zb_u1 h]
  dsimp only
  show Except.ok (Instr.caload, pc + 1 - pc) = _
  rw [Nat.add_sub_cancel_left]
set_option maxRecDepth 100000 in
theorem dz_iastore {cc : ByteArray} {pc : Nat} (h : zb cc pc 79) : decode cc pc = .ok (.iastore, 1) := by
  unfold decode Decoder.instr Reader.runAt
  dsimp only [ReaderT.run, StateT.run, Bind.bind, ReaderT.bind, StateT.bind, Except.bind]
  rw [zb_u1 h]
  dsimp only
  show Except.ok (Instr.iastore, pc + 1 - pc) = _
  rw [Nat.add_sub_cancel_left]
set_option maxRecDepth 100000 in
theorem dz_aastore {cc : ByteArray} {pc : Nat} (h : zb cc pc 83) : decode cc pc = .ok (.aastore, 1) := by
  unfold decode Decoder.instr Reader.runAt
  dsimp only [ReaderT.run, StateT.run, Bind.bind, ReaderT.bind, StateT.bind, Except.bind]
  rw [zb_u1 h]
  dsimp only
  show Except.ok (Instr.aastore, pc + 1 - pc) = _
  rw [Nat.add_sub_cancel_left]
set_option maxRecDepth 100000 in
theorem dz_pop {cc : ByteArray} {pc : Nat} (h : zb cc pc 87) : decode cc pc = .ok (.pop, 1) := by
  unfold decode Decoder.instr Reader.runAt
  dsimp only [ReaderT.run, StateT.run, Bind.bind, ReaderT.bind, StateT.bind, Except.bind]
  rw [zb_u1 h]
  dsimp only
  show Except.ok (Instr.pop, pc + 1 - pc) = _
  rw [Nat.add_sub_cancel_left]
set_option maxRecDepth 100000 in
theorem dz_dup {cc : ByteArray} {pc : Nat} (h : zb cc pc 89) : decode cc pc = .ok (.dup, 1) := by
  unfold decode Decoder.instr Reader.runAt
  dsimp only [ReaderT.run, StateT.run, Bind.bind, ReaderT.bind, StateT.bind, Except.bind]
  rw [zb_u1 h]
  dsimp only
  show Except.ok (Instr.dup, pc + 1 - pc) = _
  rw [Nat.add_sub_cancel_left]
set_option maxRecDepth 100000 in
theorem dz_dup2 {cc : ByteArray} {pc : Nat} (h : zb cc pc 92) : decode cc pc = .ok (.dup2, 1) := by
  unfold decode Decoder.instr Reader.runAt
  dsimp only [ReaderT.run, StateT.run, Bind.bind, ReaderT.bind, StateT.bind, Except.bind]
  rw [zb_u1 h]
  dsimp only
  show Except.ok (Instr.dup2, pc + 1 - pc) = _
  rw [Nat.add_sub_cancel_left]
set_option maxRecDepth 100000 in
theorem dz_iadd {cc : ByteArray} {pc : Nat} (h : zb cc pc 96) : decode cc pc = .ok (.iadd, 1) := by
  unfold decode Decoder.instr Reader.runAt
  dsimp only [ReaderT.run, StateT.run, Bind.bind, ReaderT.bind, StateT.bind, Except.bind]
  rw [zb_u1 h]
  dsimp only
  show Except.ok (Instr.iadd, pc + 1 - pc) = _
  rw [Nat.add_sub_cancel_left]
set_option maxRecDepth 100000 in
theorem dz_isub {cc : ByteArray} {pc : Nat} (h : zb cc pc 100) : decode cc pc = .ok (.isub, 1) := by
  unfold decode Decoder.instr Reader.runAt
  dsimp only [ReaderT.run, StateT.run, Bind.bind, ReaderT.bind, StateT.bind, Except.bind]
  rw [zb_u1 h]
  dsimp only
  show Except.ok (Instr.isub, pc + 1 - pc) = _
  rw [Nat.add_sub_cancel_left]
set_option maxRecDepth 100000 in
theorem dz_imul {cc : ByteArray} {pc : Nat} (h : zb cc pc 104) : decode cc pc = .ok (.imul, 1) := by
  unfold decode Decoder.instr Reader.runAt
  dsimp only [ReaderT.run, StateT.run, Bind.bind, ReaderT.bind, StateT.bind, Except.bind]
  rw [zb_u1 h]
  dsimp only
  show Except.ok (Instr.imul, pc + 1 - pc) = _
  rw [Nat.add_sub_cancel_left]
set_option maxRecDepth 100000 in
theorem dz_idiv {cc : ByteArray} {pc : Nat} (h : zb cc pc 108) : decode cc pc = .ok (.idiv, 1) := by
  unfold decode Decoder.instr Reader.runAt
  dsimp only [ReaderT.run, StateT.run, Bind.bind, ReaderT.bind, StateT.bind, Except.bind]
  rw [zb_u1 h]
  dsimp only
  show Except.ok (Instr.idiv, pc + 1 - pc) = _
  rw [Nat.add_sub_cancel_left]
set_option maxRecDepth 100000 in
theorem dz_irem {cc : ByteArray} {pc : Nat} (h : zb cc pc 112) : decode cc pc = .ok (.irem, 1) := by
  unfold decode Decoder.instr Reader.runAt
  dsimp only [ReaderT.run, StateT.run, Bind.bind, ReaderT.bind, StateT.bind, Except.bind]
  rw [zb_u1 h]
  dsimp only
  show Except.ok (Instr.irem, pc + 1 - pc) = _
  rw [Nat.add_sub_cancel_left]
set_option maxRecDepth 100000 in
theorem dz_ineg {cc : ByteArray} {pc : Nat} (h : zb cc pc 116) : decode cc pc = .ok (.ineg, 1) := by
  unfold decode Decoder.instr Reader.runAt
  dsimp only [ReaderT.run, StateT.run, Bind.bind, ReaderT.bind, StateT.bind, Except.bind]
  rw [zb_u1 h]
  dsimp only
  show Except.ok (Instr.ineg, pc + 1 - pc) = _
  rw [Nat.add_sub_cancel_left]
set_option maxRecDepth 100000 in
theorem dz_ishl {cc : ByteArray} {pc : Nat} (h : zb cc pc 120) : decode cc pc = .ok (.ishl, 1) := by
  unfold decode Decoder.instr Reader.runAt
  dsimp only [ReaderT.run, StateT.run, Bind.bind, ReaderT.bind, StateT.bind, Except.bind]
  rw [zb_u1 h]
  dsimp only
  show Except.ok (Instr.ishl, pc + 1 - pc) = _
  rw [Nat.add_sub_cancel_left]
set_option maxRecDepth 100000 in
theorem dz_lshl {cc : ByteArray} {pc : Nat} (h : zb cc pc 121) : decode cc pc = .ok (.lshl, 1) := by
  unfold decode Decoder.instr Reader.runAt
  dsimp only [ReaderT.run, StateT.run, Bind.bind, ReaderT.bind, StateT.bind, Except.bind]
  rw [zb_u1 h]
  dsimp only
  show Except.ok (Instr.lshl, pc + 1 - pc) = _
  rw [Nat.add_sub_cancel_left]
set_option maxRecDepth 100000 in
theorem dz_lshr {cc : ByteArray} {pc : Nat} (h : zb cc pc 123) : decode cc pc = .ok (.lshr, 1) := by
  unfold decode Decoder.instr Reader.runAt
  dsimp only [ReaderT.run, StateT.run, Bind.bind, ReaderT.bind, StateT.bind, Except.bind]
  rw [zb_u1 h]
  dsimp only
  show Except.ok (Instr.lshr, pc + 1 - pc) = _
  rw [Nat.add_sub_cancel_left]
set_option maxRecDepth 100000 in
theorem dz_iushr {cc : ByteArray} {pc : Nat} (h : zb cc pc 124) : decode cc pc = .ok (.iushr, 1) := by
  unfold decode Decoder.instr Reader.runAt
  dsimp only [ReaderT.run, StateT.run, Bind.bind, ReaderT.bind, StateT.bind, Except.bind]
  rw [zb_u1 h]
  dsimp only
  show Except.ok (Instr.iushr, pc + 1 - pc) = _
  rw [Nat.add_sub_cancel_left]
set_option maxRecDepth 100000 in
theorem dz_lushr {cc : ByteArray} {pc : Nat} (h : zb cc pc 125) : decode cc pc = .ok (.lushr, 1) := by
  unfold decode Decoder.instr Reader.runAt
  dsimp only [ReaderT.run, StateT.run, Bind.bind, ReaderT.bind, StateT.bind, Except.bind]
  rw [zb_u1 h]
  dsimp only
  show Except.ok (Instr.lushr, pc + 1 - pc) = _
  rw [Nat.add_sub_cancel_left]
set_option maxRecDepth 100000 in
theorem dz_iand {cc : ByteArray} {pc : Nat} (h : zb cc pc 126) : decode cc pc = .ok (.iand, 1) := by
  unfold decode Decoder.instr Reader.runAt
  dsimp only [ReaderT.run, StateT.run, Bind.bind, ReaderT.bind, StateT.bind, Except.bind]
  rw [zb_u1 h]
  dsimp only
  show Except.ok (Instr.iand, pc + 1 - pc) = _
  rw [Nat.add_sub_cancel_left]
set_option maxRecDepth 100000 in
theorem dz_land {cc : ByteArray} {pc : Nat} (h : zb cc pc 127) : decode cc pc = .ok (.land, 1) := by
  unfold decode Decoder.instr Reader.runAt
  dsimp only [ReaderT.run, StateT.run, Bind.bind, ReaderT.bind, StateT.bind, Except.bind]
  rw [zb_u1 h]
  dsimp only
  show Except.ok (Instr.land, pc + 1 - pc) = _
  rw [Nat.add_sub_cancel_left]
set_option maxRecDepth 100000 in
theorem dz_ior {cc : ByteArray} {pc : Nat} (h : zb cc pc 128) : decode cc pc = .ok (.ior, 1) := by
  unfold decode Decoder.instr Reader.runAt
  dsimp only [ReaderT.run, StateT.run, Bind.bind, ReaderT.bind, StateT.bind, Except.bind]
  rw [zb_u1 h]
  dsimp only
  show Except.ok (Instr.ior, pc + 1 - pc) = _
  rw [Nat.add_sub_cancel_left]
set_option maxRecDepth 100000 in
theorem dz_lor {cc : ByteArray} {pc : Nat} (h : zb cc pc 129) : decode cc pc = .ok (.lor, 1) := by
  unfold decode Decoder.instr Reader.runAt
  dsimp only [ReaderT.run, StateT.run, Bind.bind, ReaderT.bind, StateT.bind, Except.bind]
  rw [zb_u1 h]
  dsimp only
  show Except.ok (Instr.lor, pc + 1 - pc) = _
  rw [Nat.add_sub_cancel_left]
set_option maxRecDepth 100000 in
theorem dz_ixor {cc : ByteArray} {pc : Nat} (h : zb cc pc 130) : decode cc pc = .ok (.ixor, 1) := by
  unfold decode Decoder.instr Reader.runAt
  dsimp only [ReaderT.run, StateT.run, Bind.bind, ReaderT.bind, StateT.bind, Except.bind]
  rw [zb_u1 h]
  dsimp only
  show Except.ok (Instr.ixor, pc + 1 - pc) = _
  rw [Nat.add_sub_cancel_left]
set_option maxRecDepth 100000 in
theorem dz_i2l {cc : ByteArray} {pc : Nat} (h : zb cc pc 133) : decode cc pc = .ok (.i2l, 1) := by
  unfold decode Decoder.instr Reader.runAt
  dsimp only [ReaderT.run, StateT.run, Bind.bind, ReaderT.bind, StateT.bind, Except.bind]
  rw [zb_u1 h]
  dsimp only
  show Except.ok (Instr.i2l, pc + 1 - pc) = _
  rw [Nat.add_sub_cancel_left]
set_option maxRecDepth 100000 in
theorem dz_l2i {cc : ByteArray} {pc : Nat} (h : zb cc pc 136) : decode cc pc = .ok (.l2i, 1) := by
  unfold decode Decoder.instr Reader.runAt
  dsimp only [ReaderT.run, StateT.run, Bind.bind, ReaderT.bind, StateT.bind, Except.bind]
  rw [zb_u1 h]
  dsimp only
  show Except.ok (Instr.l2i, pc + 1 - pc) = _
  rw [Nat.add_sub_cancel_left]
set_option maxRecDepth 100000 in
theorem dz_i2b {cc : ByteArray} {pc : Nat} (h : zb cc pc 145) : decode cc pc = .ok (.i2b, 1) := by
  unfold decode Decoder.instr Reader.runAt
  dsimp only [ReaderT.run, StateT.run, Bind.bind, ReaderT.bind, StateT.bind, Except.bind]
  rw [zb_u1 h]
  dsimp only
  show Except.ok (Instr.i2b, pc + 1 - pc) = _
  rw [Nat.add_sub_cancel_left]
set_option maxRecDepth 100000 in
theorem dz_i2s {cc : ByteArray} {pc : Nat} (h : zb cc pc 147) : decode cc pc = .ok (.i2s, 1) := by
  unfold decode Decoder.instr Reader.runAt
  dsimp only [ReaderT.run, StateT.run, Bind.bind, ReaderT.bind, StateT.bind, Except.bind]
  rw [zb_u1 h]
  dsimp only
  show Except.ok (Instr.i2s, pc + 1 - pc) = _
  rw [Nat.add_sub_cancel_left]
set_option maxRecDepth 100000 in
theorem dz_lcmp {cc : ByteArray} {pc : Nat} (h : zb cc pc 148) : decode cc pc = .ok (.lcmp, 1) := by
  unfold decode Decoder.instr Reader.runAt
  dsimp only [ReaderT.run, StateT.run, Bind.bind, ReaderT.bind, StateT.bind, Except.bind]
  rw [zb_u1 h]
  dsimp only
  show Except.ok (Instr.lcmp, pc + 1 - pc) = _
  rw [Nat.add_sub_cancel_left]
set_option maxRecDepth 100000 in
theorem dz_ireturn {cc : ByteArray} {pc : Nat} (h : zb cc pc 172) : decode cc pc = .ok (.ireturn, 1) := by
  unfold decode Decoder.instr Reader.runAt
  dsimp only [ReaderT.run, StateT.run, Bind.bind, ReaderT.bind, StateT.bind, Except.bind]
  rw [zb_u1 h]
  dsimp only
  show Except.ok (Instr.ireturn, pc + 1 - pc) = _
  rw [Nat.add_sub_cancel_left]
set_option maxRecDepth 100000 in
theorem dz_areturn {cc : ByteArray} {pc : Nat} (h : zb cc pc 176) : decode cc pc = .ok (.areturn, 1) := by
  unfold decode Decoder.instr Reader.runAt
  dsimp only [ReaderT.run, StateT.run, Bind.bind, ReaderT.bind, StateT.bind, Except.bind]
  rw [zb_u1 h]
  dsimp only
  show Except.ok (Instr.areturn, pc + 1 - pc) = _
  rw [Nat.add_sub_cancel_left]
set_option maxRecDepth 100000 in
theorem dz_return_ {cc : ByteArray} {pc : Nat} (h : zb cc pc 177) : decode cc pc = .ok (.return_, 1) := by
  unfold decode Decoder.instr Reader.runAt
  dsimp only [ReaderT.run, StateT.run, Bind.bind, ReaderT.bind, StateT.bind, Except.bind]
  rw [zb_u1 h]
  dsimp only
  show Except.ok (Instr.return_, pc + 1 - pc) = _
  rw [Nat.add_sub_cancel_left]
set_option maxRecDepth 100000 in
theorem dz_arraylength {cc : ByteArray} {pc : Nat} (h : zb cc pc 190) : decode cc pc = .ok (.arraylength, 1) := by
  unfold decode Decoder.instr Reader.runAt
  dsimp only [ReaderT.run, StateT.run, Bind.bind, ReaderT.bind, StateT.bind, Except.bind]
  rw [zb_u1 h]
  dsimp only
  show Except.ok (Instr.arraylength, pc + 1 - pc) = _
  rw [Nat.add_sub_cancel_left]
set_option maxRecDepth 100000 in
theorem dz_ldc {cc : ByteArray} {pc x : Nat} (h : zb cc pc 18) (h1 : zb cc (pc + 1) x) : decode cc pc = .ok (.ldc x, 2) := by
  unfold decode Decoder.instr Reader.runAt
  dsimp only [ReaderT.run, StateT.run, Bind.bind, ReaderT.bind, StateT.bind]
  rw [zb_u1 h]
  show zfin (Except.bind ((Reader.u1 (ε := DecodeError)) cc (pc + 1)) (fun v => .ok (Instr.ldc v.1, v.2))) pc = _
  rw [zb_u1 h1]
  show Except.ok (Instr.ldc _, pc + 1 + 1 - pc) = _
  rw [show pc + 1 + 1 - pc = 2 by omega]
set_option maxRecDepth 100000 in
theorem dz_iload {cc : ByteArray} {pc x : Nat} (h : zb cc pc 21) (h1 : zb cc (pc + 1) x) : decode cc pc = .ok (.iload x, 2) := by
  unfold decode Decoder.instr Reader.runAt
  dsimp only [ReaderT.run, StateT.run, Bind.bind, ReaderT.bind, StateT.bind]
  rw [zb_u1 h]
  show zfin (Except.bind ((Reader.u1 (ε := DecodeError)) cc (pc + 1)) (fun v => .ok (Instr.iload v.1, v.2))) pc = _
  rw [zb_u1 h1]
  show Except.ok (Instr.iload _, pc + 1 + 1 - pc) = _
  rw [show pc + 1 + 1 - pc = 2 by omega]
set_option maxRecDepth 100000 in
theorem dz_lload {cc : ByteArray} {pc x : Nat} (h : zb cc pc 22) (h1 : zb cc (pc + 1) x) : decode cc pc = .ok (.lload x, 2) := by
  unfold decode Decoder.instr Reader.runAt
  dsimp only [ReaderT.run, StateT.run, Bind.bind, ReaderT.bind, StateT.bind]
  rw [zb_u1 h]
  show zfin (Except.bind ((Reader.u1 (ε := DecodeError)) cc (pc + 1)) (fun v => .ok (Instr.lload v.1, v.2))) pc = _
  rw [zb_u1 h1]
  show Except.ok (Instr.lload _, pc + 1 + 1 - pc) = _
  rw [show pc + 1 + 1 - pc = 2 by omega]
set_option maxRecDepth 100000 in
theorem dz_aload {cc : ByteArray} {pc x : Nat} (h : zb cc pc 25) (h1 : zb cc (pc + 1) x) : decode cc pc = .ok (.aload x, 2) := by
  unfold decode Decoder.instr Reader.runAt
  dsimp only [ReaderT.run, StateT.run, Bind.bind, ReaderT.bind, StateT.bind]
  rw [zb_u1 h]
  show zfin (Except.bind ((Reader.u1 (ε := DecodeError)) cc (pc + 1)) (fun v => .ok (Instr.aload v.1, v.2))) pc = _
  rw [zb_u1 h1]
  show Except.ok (Instr.aload _, pc + 1 + 1 - pc) = _
  rw [show pc + 1 + 1 - pc = 2 by omega]
set_option maxRecDepth 100000 in
theorem dz_istore {cc : ByteArray} {pc x : Nat} (h : zb cc pc 54) (h1 : zb cc (pc + 1) x) : decode cc pc = .ok (.istore x, 2) := by
  unfold decode Decoder.instr Reader.runAt
  dsimp only [ReaderT.run, StateT.run, Bind.bind, ReaderT.bind, StateT.bind]
  rw [zb_u1 h]
  show zfin (Except.bind ((Reader.u1 (ε := DecodeError)) cc (pc + 1)) (fun v => .ok (Instr.istore v.1, v.2))) pc = _
  rw [zb_u1 h1]
  show Except.ok (Instr.istore _, pc + 1 + 1 - pc) = _
  rw [show pc + 1 + 1 - pc = 2 by omega]
set_option maxRecDepth 100000 in
theorem dz_astore {cc : ByteArray} {pc x : Nat} (h : zb cc pc 58) (h1 : zb cc (pc + 1) x) : decode cc pc = .ok (.astore x, 2) := by
  unfold decode Decoder.instr Reader.runAt
  dsimp only [ReaderT.run, StateT.run, Bind.bind, ReaderT.bind, StateT.bind]
  rw [zb_u1 h]
  show zfin (Except.bind ((Reader.u1 (ε := DecodeError)) cc (pc + 1)) (fun v => .ok (Instr.astore v.1, v.2))) pc = _
  rw [zb_u1 h1]
  show Except.ok (Instr.astore _, pc + 1 + 1 - pc) = _
  rw [show pc + 1 + 1 - pc = 2 by omega]
set_option maxRecDepth 100000 in
theorem dz_bipush {cc : ByteArray} {pc x : Nat} (h : zb cc pc 16) (h1 : zb cc (pc + 1) x) : decode cc pc = .ok (.bipush (Reader.signed 8 x), 2) := by
  unfold decode Decoder.instr Reader.runAt
  dsimp only [ReaderT.run, StateT.run, Bind.bind, ReaderT.bind, StateT.bind]
  rw [zb_u1 h]
  show zfin (Except.bind ((Reader.s1 (ε := DecodeError)) cc (pc + 1)) (fun v => .ok (Instr.bipush v.1, v.2))) pc = _
  rw [zb_s1 h1]
  show Except.ok (Instr.bipush _, pc + 1 + 1 - pc) = _
  rw [show pc + 1 + 1 - pc = 2 by omega]
set_option maxRecDepth 100000 in
theorem dz_newarray {cc : ByteArray} {pc : Nat} (h : zb cc pc 188) (h1 : zb cc (pc + 1) 10) : decode cc pc = .ok (.newarray .int, 2) := by
  unfold decode Decoder.instr Reader.runAt
  dsimp only [ReaderT.run, StateT.run, Bind.bind, ReaderT.bind, StateT.bind]
  rw [zb_u1 h]
  show zfin (Decoder.newarray pc cc (pc + 1)) pc = _
  unfold Decoder.newarray
  dsimp only [ReaderT.run, StateT.run, Bind.bind, ReaderT.bind, StateT.bind, Except.bind]
  rw [zb_u1 h1]
  show Except.ok (Instr.newarray .int, pc + 1 + 1 - pc) = _
  rw [show pc + 1 + 1 - pc = 2 by omega]
set_option maxRecDepth 100000 in
theorem dz_ldc_w {cc : ByteArray} {pc x y : Nat} (h : zb cc pc 19) (h1 : zb cc (pc + 1) x) (h2 : zb cc (pc + 1 + 1) y) : decode cc pc = .ok (.ldc_w (x * 256 + y), 3) := by
  unfold decode Decoder.instr Reader.runAt
  dsimp only [ReaderT.run, StateT.run, Bind.bind, ReaderT.bind, StateT.bind]
  rw [zb_u1 h]
  show zfin (Except.bind ((Reader.u2 (ε := DecodeError)) cc (pc + 1)) (fun v => .ok (Instr.ldc_w v.1, v.2))) pc = _
  rw [zb_u2 h1 h2]
  show Except.ok (Instr.ldc_w _, pc + 1 + 1 + 1 - pc) = _
  rw [show pc + 1 + 1 + 1 - pc = 3 by omega]
set_option maxRecDepth 100000 in
theorem dz_ldc2_w {cc : ByteArray} {pc x y : Nat} (h : zb cc pc 20) (h1 : zb cc (pc + 1) x) (h2 : zb cc (pc + 1 + 1) y) : decode cc pc = .ok (.ldc2_w (x * 256 + y), 3) := by
  unfold decode Decoder.instr Reader.runAt
  dsimp only [ReaderT.run, StateT.run, Bind.bind, ReaderT.bind, StateT.bind]
  rw [zb_u1 h]
  show zfin (Except.bind ((Reader.u2 (ε := DecodeError)) cc (pc + 1)) (fun v => .ok (Instr.ldc2_w v.1, v.2))) pc = _
  rw [zb_u2 h1 h2]
  show Except.ok (Instr.ldc2_w _, pc + 1 + 1 + 1 - pc) = _
  rw [show pc + 1 + 1 + 1 - pc = 3 by omega]
set_option maxRecDepth 100000 in
theorem dz_getstatic {cc : ByteArray} {pc x y : Nat} (h : zb cc pc 178) (h1 : zb cc (pc + 1) x) (h2 : zb cc (pc + 1 + 1) y) : decode cc pc = .ok (.getstatic (x * 256 + y), 3) := by
  unfold decode Decoder.instr Reader.runAt
  dsimp only [ReaderT.run, StateT.run, Bind.bind, ReaderT.bind, StateT.bind]
  rw [zb_u1 h]
  show zfin (Except.bind ((Reader.u2 (ε := DecodeError)) cc (pc + 1)) (fun v => .ok (Instr.getstatic v.1, v.2))) pc = _
  rw [zb_u2 h1 h2]
  show Except.ok (Instr.getstatic _, pc + 1 + 1 + 1 - pc) = _
  rw [show pc + 1 + 1 + 1 - pc = 3 by omega]
set_option maxRecDepth 100000 in
theorem dz_getfield {cc : ByteArray} {pc x y : Nat} (h : zb cc pc 180) (h1 : zb cc (pc + 1) x) (h2 : zb cc (pc + 1 + 1) y) : decode cc pc = .ok (.getfield (x * 256 + y), 3) := by
  unfold decode Decoder.instr Reader.runAt
  dsimp only [ReaderT.run, StateT.run, Bind.bind, ReaderT.bind, StateT.bind]
  rw [zb_u1 h]
  show zfin (Except.bind ((Reader.u2 (ε := DecodeError)) cc (pc + 1)) (fun v => .ok (Instr.getfield v.1, v.2))) pc = _
  rw [zb_u2 h1 h2]
  show Except.ok (Instr.getfield _, pc + 1 + 1 + 1 - pc) = _
  rw [show pc + 1 + 1 + 1 - pc = 3 by omega]
set_option maxRecDepth 100000 in
theorem dz_putfield {cc : ByteArray} {pc x y : Nat} (h : zb cc pc 181) (h1 : zb cc (pc + 1) x) (h2 : zb cc (pc + 1 + 1) y) : decode cc pc = .ok (.putfield (x * 256 + y), 3) := by
  unfold decode Decoder.instr Reader.runAt
  dsimp only [ReaderT.run, StateT.run, Bind.bind, ReaderT.bind, StateT.bind]
  rw [zb_u1 h]
  show zfin (Except.bind ((Reader.u2 (ε := DecodeError)) cc (pc + 1)) (fun v => .ok (Instr.putfield v.1, v.2))) pc = _
  rw [zb_u2 h1 h2]
  show Except.ok (Instr.putfield _, pc + 1 + 1 + 1 - pc) = _
  rw [show pc + 1 + 1 + 1 - pc = 3 by omega]
set_option maxRecDepth 100000 in
theorem dz_invokevirtual {cc : ByteArray} {pc x y : Nat} (h : zb cc pc 182) (h1 : zb cc (pc + 1) x) (h2 : zb cc (pc + 1 + 1) y) : decode cc pc = .ok (.invokevirtual (x * 256 + y), 3) := by
  unfold decode Decoder.instr Reader.runAt
  dsimp only [ReaderT.run, StateT.run, Bind.bind, ReaderT.bind, StateT.bind]
  rw [zb_u1 h]
  show zfin (Except.bind ((Reader.u2 (ε := DecodeError)) cc (pc + 1)) (fun v => .ok (Instr.invokevirtual v.1, v.2))) pc = _
  rw [zb_u2 h1 h2]
  show Except.ok (Instr.invokevirtual _, pc + 1 + 1 + 1 - pc) = _
  rw [show pc + 1 + 1 + 1 - pc = 3 by omega]
set_option maxRecDepth 100000 in
theorem dz_invokespecial {cc : ByteArray} {pc x y : Nat} (h : zb cc pc 183) (h1 : zb cc (pc + 1) x) (h2 : zb cc (pc + 1 + 1) y) : decode cc pc = .ok (.invokespecial (x * 256 + y), 3) := by
  unfold decode Decoder.instr Reader.runAt
  dsimp only [ReaderT.run, StateT.run, Bind.bind, ReaderT.bind, StateT.bind]
  rw [zb_u1 h]
  show zfin (Except.bind ((Reader.u2 (ε := DecodeError)) cc (pc + 1)) (fun v => .ok (Instr.invokespecial v.1, v.2))) pc = _
  rw [zb_u2 h1 h2]
  show Except.ok (Instr.invokespecial _, pc + 1 + 1 + 1 - pc) = _
  rw [show pc + 1 + 1 + 1 - pc = 3 by omega]
set_option maxRecDepth 100000 in
theorem dz_invokestatic {cc : ByteArray} {pc x y : Nat} (h : zb cc pc 184) (h1 : zb cc (pc + 1) x) (h2 : zb cc (pc + 1 + 1) y) : decode cc pc = .ok (.invokestatic (x * 256 + y), 3) := by
  unfold decode Decoder.instr Reader.runAt
  dsimp only [ReaderT.run, StateT.run, Bind.bind, ReaderT.bind, StateT.bind]
  rw [zb_u1 h]
  show zfin (Except.bind ((Reader.u2 (ε := DecodeError)) cc (pc + 1)) (fun v => .ok (Instr.invokestatic v.1, v.2))) pc = _
  rw [zb_u2 h1 h2]
  show Except.ok (Instr.invokestatic _, pc + 1 + 1 + 1 - pc) = _
  rw [show pc + 1 + 1 + 1 - pc = 3 by omega]
set_option maxRecDepth 100000 in
theorem dz_new {cc : ByteArray} {pc x y : Nat} (h : zb cc pc 187) (h1 : zb cc (pc + 1) x) (h2 : zb cc (pc + 1 + 1) y) : decode cc pc = .ok (.new (x * 256 + y), 3) := by
  unfold decode Decoder.instr Reader.runAt
  dsimp only [ReaderT.run, StateT.run, Bind.bind, ReaderT.bind, StateT.bind]
  rw [zb_u1 h]
  show zfin (Except.bind ((Reader.u2 (ε := DecodeError)) cc (pc + 1)) (fun v => .ok (Instr.new v.1, v.2))) pc = _
  rw [zb_u2 h1 h2]
  show Except.ok (Instr.new _, pc + 1 + 1 + 1 - pc) = _
  rw [show pc + 1 + 1 + 1 - pc = 3 by omega]
set_option maxRecDepth 100000 in
theorem dz_anewarray {cc : ByteArray} {pc x y : Nat} (h : zb cc pc 189) (h1 : zb cc (pc + 1) x) (h2 : zb cc (pc + 1 + 1) y) : decode cc pc = .ok (.anewarray (x * 256 + y), 3) := by
  unfold decode Decoder.instr Reader.runAt
  dsimp only [ReaderT.run, StateT.run, Bind.bind, ReaderT.bind, StateT.bind]
  rw [zb_u1 h]
  show zfin (Except.bind ((Reader.u2 (ε := DecodeError)) cc (pc + 1)) (fun v => .ok (Instr.anewarray v.1, v.2))) pc = _
  rw [zb_u2 h1 h2]
  show Except.ok (Instr.anewarray _, pc + 1 + 1 + 1 - pc) = _
  rw [show pc + 1 + 1 + 1 - pc = 3 by omega]
set_option maxRecDepth 100000 in
theorem dz_sipush {cc : ByteArray} {pc x y : Nat} (h : zb cc pc 17) (h1 : zb cc (pc + 1) x) (h2 : zb cc (pc + 1 + 1) y) : decode cc pc = .ok (.sipush (Reader.signed 16 (x * 256 + y)), 3) := by
  unfold decode Decoder.instr Reader.runAt
  dsimp only [ReaderT.run, StateT.run, Bind.bind, ReaderT.bind, StateT.bind]
  rw [zb_u1 h]
  show zfin (Except.bind ((Reader.s2 (ε := DecodeError)) cc (pc + 1)) (fun v => .ok (Instr.sipush v.1, v.2))) pc = _
  rw [zb_s2 h1 h2]
  show Except.ok (Instr.sipush _, pc + 1 + 1 + 1 - pc) = _
  rw [show pc + 1 + 1 + 1 - pc = 3 by omega]
set_option maxRecDepth 100000 in
theorem dz_goto {cc : ByteArray} {pc x y : Nat} (h : zb cc pc 167) (h1 : zb cc (pc + 1) x) (h2 : zb cc (pc + 1 + 1) y) : decode cc pc = .ok (.goto (Reader.signed 16 (x * 256 + y)), 3) := by
  unfold decode Decoder.instr Reader.runAt
  dsimp only [ReaderT.run, StateT.run, Bind.bind, ReaderT.bind, StateT.bind]
  rw [zb_u1 h]
  show zfin (Except.bind ((Reader.s2 (ε := DecodeError)) cc (pc + 1)) (fun v => .ok (Instr.goto v.1, v.2))) pc = _
  rw [zb_s2 h1 h2]
  show Except.ok (Instr.goto _, pc + 1 + 1 + 1 - pc) = _
  rw [show pc + 1 + 1 + 1 - pc = 3 by omega]
set_option maxRecDepth 100000 in
theorem dz_if_eq {cc : ByteArray} {pc x y : Nat} (h : zb cc pc 153) (h1 : zb cc (pc + 1) x) (h2 : zb cc (pc + 1 + 1) y) : decode cc pc = .ok (.ifCond .eq (Reader.signed 16 (x * 256 + y)), 3) := by
  unfold decode Decoder.instr Reader.runAt
  dsimp only [ReaderT.run, StateT.run, Bind.bind, ReaderT.bind, StateT.bind]
  rw [zb_u1 h]
  show zfin (Except.bind ((Reader.s2 (ε := DecodeError)) cc (pc + 1)) (fun v => .ok (Instr.ifCond .eq v.1, v.2))) pc = _
  rw [zb_s2 h1 h2]
  show Except.ok (Instr.ifCond .eq _, pc + 1 + 1 + 1 - pc) = _
  rw [show pc + 1 + 1 + 1 - pc = 3 by omega]
set_option maxRecDepth 100000 in
theorem dz_if_ne {cc : ByteArray} {pc x y : Nat} (h : zb cc pc 154) (h1 : zb cc (pc + 1) x) (h2 : zb cc (pc + 1 + 1) y) : decode cc pc = .ok (.ifCond .ne (Reader.signed 16 (x * 256 + y)), 3) := by
  unfold decode Decoder.instr Reader.runAt
  dsimp only [ReaderT.run, StateT.run, Bind.bind, ReaderT.bind, StateT.bind]
  rw [zb_u1 h]
  show zfin (Except.bind ((Reader.s2 (ε := DecodeError)) cc (pc + 1)) (fun v => .ok (Instr.ifCond .ne v.1, v.2))) pc = _
  rw [zb_s2 h1 h2]
  show Except.ok (Instr.ifCond .ne _, pc + 1 + 1 + 1 - pc) = _
  rw [show pc + 1 + 1 + 1 - pc = 3 by omega]
set_option maxRecDepth 100000 in
theorem dz_if_lt {cc : ByteArray} {pc x y : Nat} (h : zb cc pc 155) (h1 : zb cc (pc + 1) x) (h2 : zb cc (pc + 1 + 1) y) : decode cc pc = .ok (.ifCond .lt (Reader.signed 16 (x * 256 + y)), 3) := by
  unfold decode Decoder.instr Reader.runAt
  dsimp only [ReaderT.run, StateT.run, Bind.bind, ReaderT.bind, StateT.bind]
  rw [zb_u1 h]
  show zfin (Except.bind ((Reader.s2 (ε := DecodeError)) cc (pc + 1)) (fun v => .ok (Instr.ifCond .lt v.1, v.2))) pc = _
  rw [zb_s2 h1 h2]
  show Except.ok (Instr.ifCond .lt _, pc + 1 + 1 + 1 - pc) = _
  rw [show pc + 1 + 1 + 1 - pc = 3 by omega]
set_option maxRecDepth 100000 in
theorem dz_if_ge {cc : ByteArray} {pc x y : Nat} (h : zb cc pc 156) (h1 : zb cc (pc + 1) x) (h2 : zb cc (pc + 1 + 1) y) : decode cc pc = .ok (.ifCond .ge (Reader.signed 16 (x * 256 + y)), 3) := by
  unfold decode Decoder.instr Reader.runAt
  dsimp only [ReaderT.run, StateT.run, Bind.bind, ReaderT.bind, StateT.bind]
  rw [zb_u1 h]
  show zfin (Except.bind ((Reader.s2 (ε := DecodeError)) cc (pc + 1)) (fun v => .ok (Instr.ifCond .ge v.1, v.2))) pc = _
  rw [zb_s2 h1 h2]
  show Except.ok (Instr.ifCond .ge _, pc + 1 + 1 + 1 - pc) = _
  rw [show pc + 1 + 1 + 1 - pc = 3 by omega]
set_option maxRecDepth 100000 in
theorem dz_if_gt {cc : ByteArray} {pc x y : Nat} (h : zb cc pc 157) (h1 : zb cc (pc + 1) x) (h2 : zb cc (pc + 1 + 1) y) : decode cc pc = .ok (.ifCond .gt (Reader.signed 16 (x * 256 + y)), 3) := by
  unfold decode Decoder.instr Reader.runAt
  dsimp only [ReaderT.run, StateT.run, Bind.bind, ReaderT.bind, StateT.bind]
  rw [zb_u1 h]
  show zfin (Except.bind ((Reader.s2 (ε := DecodeError)) cc (pc + 1)) (fun v => .ok (Instr.ifCond .gt v.1, v.2))) pc = _
  rw [zb_s2 h1 h2]
  show Except.ok (Instr.ifCond .gt _, pc + 1 + 1 + 1 - pc) = _
  rw [show pc + 1 + 1 + 1 - pc = 3 by omega]
set_option maxRecDepth 100000 in
theorem dz_if_le {cc : ByteArray} {pc x y : Nat} (h : zb cc pc 158) (h1 : zb cc (pc + 1) x) (h2 : zb cc (pc + 1 + 1) y) : decode cc pc = .ok (.ifCond .le (Reader.signed 16 (x * 256 + y)), 3) := by
  unfold decode Decoder.instr Reader.runAt
  dsimp only [ReaderT.run, StateT.run, Bind.bind, ReaderT.bind, StateT.bind]
  rw [zb_u1 h]
  show zfin (Except.bind ((Reader.s2 (ε := DecodeError)) cc (pc + 1)) (fun v => .ok (Instr.ifCond .le v.1, v.2))) pc = _
  rw [zb_s2 h1 h2]
  show Except.ok (Instr.ifCond .le _, pc + 1 + 1 + 1 - pc) = _
  rw [show pc + 1 + 1 + 1 - pc = 3 by omega]
set_option maxRecDepth 100000 in
theorem dz_icmp_eq {cc : ByteArray} {pc x y : Nat} (h : zb cc pc 159) (h1 : zb cc (pc + 1) x) (h2 : zb cc (pc + 1 + 1) y) : decode cc pc = .ok (.if_icmp .eq (Reader.signed 16 (x * 256 + y)), 3) := by
  unfold decode Decoder.instr Reader.runAt
  dsimp only [ReaderT.run, StateT.run, Bind.bind, ReaderT.bind, StateT.bind]
  rw [zb_u1 h]
  show zfin (Except.bind ((Reader.s2 (ε := DecodeError)) cc (pc + 1)) (fun v => .ok (Instr.if_icmp .eq v.1, v.2))) pc = _
  rw [zb_s2 h1 h2]
  show Except.ok (Instr.if_icmp .eq _, pc + 1 + 1 + 1 - pc) = _
  rw [show pc + 1 + 1 + 1 - pc = 3 by omega]
set_option maxRecDepth 100000 in
theorem dz_icmp_ne {cc : ByteArray} {pc x y : Nat} (h : zb cc pc 160) (h1 : zb cc (pc + 1) x) (h2 : zb cc (pc + 1 + 1) y) : decode cc pc = .ok (.if_icmp .ne (Reader.signed 16 (x * 256 + y)), 3) := by
  unfold decode Decoder.instr Reader.runAt
  dsimp only [ReaderT.run, StateT.run, Bind.bind, ReaderT.bind, StateT.bind]
  rw [zb_u1 h]
  show zfin (Except.bind ((Reader.s2 (ε := DecodeError)) cc (pc + 1)) (fun v => .ok (Instr.if_icmp .ne v.1, v.2))) pc = _
  rw [zb_s2 h1 h2]
  show Except.ok (Instr.if_icmp .ne _, pc + 1 + 1 + 1 - pc) = _
  rw [show pc + 1 + 1 + 1 - pc = 3 by omega]
set_option maxRecDepth 100000 in
theorem dz_icmp_lt {cc : ByteArray} {pc x y : Nat} (h : zb cc pc 161) (h1 : zb cc (pc + 1) x) (h2 : zb cc (pc + 1 + 1) y) : decode cc pc = .ok (.if_icmp .lt (Reader.signed 16 (x * 256 + y)), 3) := by
  unfold decode Decoder.instr Reader.runAt
  dsimp only [ReaderT.run, StateT.run, Bind.bind, ReaderT.bind, StateT.bind]
  rw [zb_u1 h]
  show zfin (Except.bind ((Reader.s2 (ε := DecodeError)) cc (pc + 1)) (fun v => .ok (Instr.if_icmp .lt v.1, v.2))) pc = _
  rw [zb_s2 h1 h2]
  show Except.ok (Instr.if_icmp .lt _, pc + 1 + 1 + 1 - pc) = _
  rw [show pc + 1 + 1 + 1 - pc = 3 by omega]
set_option maxRecDepth 100000 in
theorem dz_icmp_ge {cc : ByteArray} {pc x y : Nat} (h : zb cc pc 162) (h1 : zb cc (pc + 1) x) (h2 : zb cc (pc + 1 + 1) y) : decode cc pc = .ok (.if_icmp .ge (Reader.signed 16 (x * 256 + y)), 3) := by
  unfold decode Decoder.instr Reader.runAt
  dsimp only [ReaderT.run, StateT.run, Bind.bind, ReaderT.bind, StateT.bind]
  rw [zb_u1 h]
  show zfin (Except.bind ((Reader.s2 (ε := DecodeError)) cc (pc + 1)) (fun v => .ok (Instr.if_icmp .ge v.1, v.2))) pc = _
  rw [zb_s2 h1 h2]
  show Except.ok (Instr.if_icmp .ge _, pc + 1 + 1 + 1 - pc) = _
  rw [show pc + 1 + 1 + 1 - pc = 3 by omega]
set_option maxRecDepth 100000 in
theorem dz_icmp_gt {cc : ByteArray} {pc x y : Nat} (h : zb cc pc 163) (h1 : zb cc (pc + 1) x) (h2 : zb cc (pc + 1 + 1) y) : decode cc pc = .ok (.if_icmp .gt (Reader.signed 16 (x * 256 + y)), 3) := by
  unfold decode Decoder.instr Reader.runAt
  dsimp only [ReaderT.run, StateT.run, Bind.bind, ReaderT.bind, StateT.bind]
  rw [zb_u1 h]
  show zfin (Except.bind ((Reader.s2 (ε := DecodeError)) cc (pc + 1)) (fun v => .ok (Instr.if_icmp .gt v.1, v.2))) pc = _
  rw [zb_s2 h1 h2]
  show Except.ok (Instr.if_icmp .gt _, pc + 1 + 1 + 1 - pc) = _
  rw [show pc + 1 + 1 + 1 - pc = 3 by omega]
set_option maxRecDepth 100000 in
theorem dz_icmp_le {cc : ByteArray} {pc x y : Nat} (h : zb cc pc 164) (h1 : zb cc (pc + 1) x) (h2 : zb cc (pc + 1 + 1) y) : decode cc pc = .ok (.if_icmp .le (Reader.signed 16 (x * 256 + y)), 3) := by
  unfold decode Decoder.instr Reader.runAt
  dsimp only [ReaderT.run, StateT.run, Bind.bind, ReaderT.bind, StateT.bind]
  rw [zb_u1 h]
  show zfin (Except.bind ((Reader.s2 (ε := DecodeError)) cc (pc + 1)) (fun v => .ok (Instr.if_icmp .le v.1, v.2))) pc = _
  rw [zb_s2 h1 h2]
  show Except.ok (Instr.if_icmp .le _, pc + 1 + 1 + 1 - pc) = _
  rw [show pc + 1 + 1 + 1 - pc = 3 by omega]
set_option maxRecDepth 100000 in
theorem dz_iinc {cc : ByteArray} {pc x y : Nat} (h : zb cc pc 132) (h1 : zb cc (pc + 1) x) (h2 : zb cc (pc + 1 + 1) y) : decode cc pc = .ok (.iinc x (Reader.signed 8 y), 3) := by
  unfold decode Decoder.instr Reader.runAt
  dsimp only [ReaderT.run, StateT.run, Bind.bind, ReaderT.bind, StateT.bind]
  rw [zb_u1 h]
  show zfin (Except.bind ((Reader.u1 (ε := DecodeError)) cc (pc + 1)) (fun v => Except.bind ((Reader.s1 (ε := DecodeError)) cc v.2) (fun w => .ok (Instr.iinc v.1 w.1, w.2)))) pc = _
  rw [zb_u1 h1]
  show zfin (Except.bind ((Reader.s1 (ε := DecodeError)) cc (pc + 1 + 1)) (fun w => .ok (Instr.iinc x w.1, w.2))) pc = _
  rw [zb_s1 h2]
  show Except.ok (Instr.iinc _ _, pc + 1 + 1 + 1 - pc) = _
  rw [show pc + 1 + 1 + 1 - pc = 3 by omega]
/-- the first bytes of an instruction, as a program compares them -/
def zdc (i : Instr) (bs : List UInt8) (len : Nat) : Bool := match i, bs, len with
  | .iconst n, b :: _, 1 => (n == -1 && b.toNat == 2) || (n == 0 && b.toNat == 3) || (n == 1 && b.toNat == 4) || (n == 2 && b.toNat == 5) || (n == 3 && b.toNat == 6) || (n == 4 && b.toNat == 7) || (n == 5 && b.toNat == 8)
  | .lconst n, b :: _, 1 => (n == 0 && b.toNat == 9) || (n == 1 && b.toNat == 10)
  | .iload_n n, b :: _, 1 => (n == 0 && b.toNat == 26) || (n == 1 && b.toNat == 27) || (n == 2 && b.toNat == 28) || (n == 3 && b.toNat == 29)
  | .lload_n n, b :: _, 1 => (n == 0 && b.toNat == 30) || (n == 1 && b.toNat == 31) || (n == 2 && b.toNat == 32) || (n == 3 && b.toNat == 33)
  | .aload_n n, b :: _, 1 => (n == 0 && b.toNat == 42) || (n == 1 && b.toNat == 43) || (n == 2 && b.toNat == 44) || (n == 3 && b.toNat == 45)
  | .istore_n n, b :: _, 1 => (n == 0 && b.toNat == 59) || (n == 1 && b.toNat == 60) || (n == 2 && b.toNat == 61) || (n == 3 && b.toNat == 62)
  | .astore_n n, b :: _, 1 => (n == 0 && b.toNat == 75) || (n == 1 && b.toNat == 76) || (n == 2 && b.toNat == 77) || (n == 3 && b.toNat == 78)
  | .iaload, b :: _, 1 => b.toNat == 46
  | .aaload, b :: _, 1 => b.toNat == 50
  | .caload, b :: _, 1 => b.toNat == 52
  | .iastore, b :: _, 1 => b.toNat == 79
  | .aastore, b :: _, 1 => b.toNat == 83
  | .pop, b :: _, 1 => b.toNat == 87
  | .dup, b :: _, 1 => b.toNat == 89
  | .dup2, b :: _, 1 => b.toNat == 92
  | .iadd, b :: _, 1 => b.toNat == 96
  | .isub, b :: _, 1 => b.toNat == 100
  | .imul, b :: _, 1 => b.toNat == 104
  | .idiv, b :: _, 1 => b.toNat == 108
  | .irem, b :: _, 1 => b.toNat == 112
  | .ineg, b :: _, 1 => b.toNat == 116
  | .ishl, b :: _, 1 => b.toNat == 120
  | .lshl, b :: _, 1 => b.toNat == 121
  | .lshr, b :: _, 1 => b.toNat == 123
  | .iushr, b :: _, 1 => b.toNat == 124
  | .lushr, b :: _, 1 => b.toNat == 125
  | .iand, b :: _, 1 => b.toNat == 126
  | .land, b :: _, 1 => b.toNat == 127
  | .ior, b :: _, 1 => b.toNat == 128
  | .lor, b :: _, 1 => b.toNat == 129
  | .ixor, b :: _, 1 => b.toNat == 130
  | .i2l, b :: _, 1 => b.toNat == 133
  | .l2i, b :: _, 1 => b.toNat == 136
  | .i2b, b :: _, 1 => b.toNat == 145
  | .i2s, b :: _, 1 => b.toNat == 147
  | .lcmp, b :: _, 1 => b.toNat == 148
  | .ireturn, b :: _, 1 => b.toNat == 172
  | .areturn, b :: _, 1 => b.toNat == 176
  | .return_, b :: _, 1 => b.toNat == 177
  | .arraylength, b :: _, 1 => b.toNat == 190
  | .ldc x, b :: c :: _, 2 => b.toNat == 18 && c.toNat == x
  | .iload x, b :: c :: _, 2 => b.toNat == 21 && c.toNat == x
  | .lload x, b :: c :: _, 2 => b.toNat == 22 && c.toNat == x
  | .aload x, b :: c :: _, 2 => b.toNat == 25 && c.toNat == x
  | .istore x, b :: c :: _, 2 => b.toNat == 54 && c.toNat == x
  | .astore x, b :: c :: _, 2 => b.toNat == 58 && c.toNat == x
  | .bipush x, b :: c :: _, 2 => b.toNat == 16 && Reader.signed 8 c.toNat == x
  | .newarray .int, b :: c :: _, 2 => b.toNat == 188 && c.toNat == 10
  | .ldc_w x, b :: c :: d :: _, 3 => b.toNat == 19 && c.toNat * 256 + d.toNat == x
  | .ldc2_w x, b :: c :: d :: _, 3 => b.toNat == 20 && c.toNat * 256 + d.toNat == x
  | .getstatic x, b :: c :: d :: _, 3 => b.toNat == 178 && c.toNat * 256 + d.toNat == x
  | .getfield x, b :: c :: d :: _, 3 => b.toNat == 180 && c.toNat * 256 + d.toNat == x
  | .putfield x, b :: c :: d :: _, 3 => b.toNat == 181 && c.toNat * 256 + d.toNat == x
  | .invokevirtual x, b :: c :: d :: _, 3 => b.toNat == 182 && c.toNat * 256 + d.toNat == x
  | .invokespecial x, b :: c :: d :: _, 3 => b.toNat == 183 && c.toNat * 256 + d.toNat == x
  | .invokestatic x, b :: c :: d :: _, 3 => b.toNat == 184 && c.toNat * 256 + d.toNat == x
  | .new x, b :: c :: d :: _, 3 => b.toNat == 187 && c.toNat * 256 + d.toNat == x
  | .anewarray x, b :: c :: d :: _, 3 => b.toNat == 189 && c.toNat * 256 + d.toNat == x
  | .sipush x, b :: c :: d :: _, 3 => b.toNat == 17 && Reader.signed 16 (c.toNat * 256 + d.toNat) == x
  | .goto x, b :: c :: d :: _, 3 => b.toNat == 167 && Reader.signed 16 (c.toNat * 256 + d.toNat) == x
  | .ifCond .eq x, b :: c :: d :: _, 3 => b.toNat == 153 && Reader.signed 16 (c.toNat * 256 + d.toNat) == x
  | .ifCond .ne x, b :: c :: d :: _, 3 => b.toNat == 154 && Reader.signed 16 (c.toNat * 256 + d.toNat) == x
  | .ifCond .lt x, b :: c :: d :: _, 3 => b.toNat == 155 && Reader.signed 16 (c.toNat * 256 + d.toNat) == x
  | .ifCond .ge x, b :: c :: d :: _, 3 => b.toNat == 156 && Reader.signed 16 (c.toNat * 256 + d.toNat) == x
  | .ifCond .gt x, b :: c :: d :: _, 3 => b.toNat == 157 && Reader.signed 16 (c.toNat * 256 + d.toNat) == x
  | .ifCond .le x, b :: c :: d :: _, 3 => b.toNat == 158 && Reader.signed 16 (c.toNat * 256 + d.toNat) == x
  | .if_icmp .eq x, b :: c :: d :: _, 3 => b.toNat == 159 && Reader.signed 16 (c.toNat * 256 + d.toNat) == x
  | .if_icmp .ne x, b :: c :: d :: _, 3 => b.toNat == 160 && Reader.signed 16 (c.toNat * 256 + d.toNat) == x
  | .if_icmp .lt x, b :: c :: d :: _, 3 => b.toNat == 161 && Reader.signed 16 (c.toNat * 256 + d.toNat) == x
  | .if_icmp .ge x, b :: c :: d :: _, 3 => b.toNat == 162 && Reader.signed 16 (c.toNat * 256 + d.toNat) == x
  | .if_icmp .gt x, b :: c :: d :: _, 3 => b.toNat == 163 && Reader.signed 16 (c.toNat * 256 + d.toNat) == x
  | .if_icmp .le x, b :: c :: d :: _, 3 => b.toNat == 164 && Reader.signed 16 (c.toNat * 256 + d.toNat) == x
  | .iinc x y, b :: c :: d :: _, 3 => b.toNat == 132 && c.toNat == x && Reader.signed 8 d.toNat == y
  | _, _, _ => false
theorem zdrop {cc : ByteArray} {pc : Nat} {b : UInt8} {r : List UInt8} (h : cc.data.toList.drop pc = b :: r) : zb cc pc b.toNat ∧ cc.data.toList.drop (pc + 1) = r := by
  have h1 : pc < cc.data.toList.length := by
    rcases Nat.lt_or_ge pc cc.data.toList.length with q | q
    · exact q
    · rw [List.drop_eq_nil_of_le q] at h; cases h
  rw [List.drop_eq_getElem_cons h1] at h
  injection h with e1 e2
  refine ⟨⟨by simpa using h1, ?_⟩, e2⟩
  rw [← e1]
  simp [ByteArray.getElem_eq_getElem_data]
set_option maxHeartbeats 4000000 in
theorem zdc_ok {cc : ByteArray} {pc len : Nat} {i : Instr} {bs : List UInt8} (hb : cc.data.toList.drop pc = bs) (h : zdc i bs len = true) : decode cc pc = .ok (i, len) := by
  unfold zdc at h
  split at h
  next n b r =>
    have z0 := (zdrop hb).1
    simp only [Bool.or_eq_true, Bool.and_eq_true, beq_iff_eq] at h
    rcases h with (((((⟨rfl, q⟩ | ⟨rfl, q⟩) | ⟨rfl, q⟩) | ⟨rfl, q⟩) | ⟨rfl, q⟩) | ⟨rfl, q⟩) | ⟨rfl, q⟩ <;> rw [q] at z0
    · exact dz_iconst_m1 z0
    · exact dz_iconst_0 z0
    · exact dz_iconst_1 z0
    · exact dz_iconst_2 z0
    · exact dz_iconst_3 z0
    · exact dz_iconst_4 z0
    · exact dz_iconst_5 z0
  next n b r =>
    have z0 := (zdrop hb).1
    simp only [Bool.or_eq_true, Bool.and_eq_true, beq_iff_eq] at h
    rcases h with ⟨rfl, q⟩ | ⟨rfl, q⟩ <;> rw [q] at z0
    · exact dz_lconst_0 z0
    · exact dz_lconst_1 z0
  next n b r =>
    have z0 := (zdrop hb).1
    simp only [Bool.or_eq_true, Bool.and_eq_true, beq_iff_eq] at h
    rcases h with ((⟨rfl, q⟩ | ⟨rfl, q⟩) | ⟨rfl, q⟩) | ⟨rfl, q⟩ <;> rw [q] at z0
    · exact dz_iload_n0 z0
    · exact dz_iload_n1 z0
    · exact dz_iload_n2 z0
    · exact dz_iload_n3 z0
  next n b r =>
    have z0 := (zdrop hb).1
    simp only [Bool.or_eq_true, Bool.and_eq_true, beq_iff_eq] at h
    rcases h with ((⟨rfl, q⟩ | ⟨rfl, q⟩) | ⟨rfl, q⟩) | ⟨rfl, q⟩ <;> rw [q] at z0
    · exact dz_lload_n0 z0
    · exact dz_lload_n1 z0
    · exact dz_lload_n2 z0
    · exact dz_lload_n3 z0
  next n b r =>
    have z0 := (zdrop hb).1
    simp only [Bool.or_eq_true, Bool.and_eq_true, beq_iff_eq] at h
    rcases h with ((⟨rfl, q⟩ | ⟨rfl, q⟩) | ⟨rfl, q⟩) | ⟨rfl, q⟩ <;> rw [q] at z0
    · exact dz_aload_n0 z0
    · exact dz_aload_n1 z0
    · exact dz_aload_n2 z0
    · exact dz_aload_n3 z0
  next n b r =>
    have z0 := (zdrop hb).1
    simp only [Bool.or_eq_true, Bool.and_eq_true, beq_iff_eq] at h
    rcases h with ((⟨rfl, q⟩ | ⟨rfl, q⟩) | ⟨rfl, q⟩) | ⟨rfl, q⟩ <;> rw [q] at z0
    · exact dz_istore_n0 z0
    · exact dz_istore_n1 z0
    · exact dz_istore_n2 z0
    · exact dz_istore_n3 z0
  next n b r =>
    have z0 := (zdrop hb).1
    simp only [Bool.or_eq_true, Bool.and_eq_true, beq_iff_eq] at h
    rcases h with ((⟨rfl, q⟩ | ⟨rfl, q⟩) | ⟨rfl, q⟩) | ⟨rfl, q⟩ <;> rw [q] at z0
    · exact dz_astore_n0 z0
    · exact dz_astore_n1 z0
    · exact dz_astore_n2 z0
    · exact dz_astore_n3 z0
  next b r =>
    have z0 := (zdrop hb).1
    rw [beq_iff_eq.mp h] at z0
    exact dz_iaload z0
  next b r =>
    have z0 := (zdrop hb).1
    rw [beq_iff_eq.mp h] at z0
    exact dz_aaload z0
  next b r =>
    have z0 := (zdrop hb).1
    rw [beq_iff_eq.mp h] at z0
    exact dz_caload z0
  next b r =>
    have z0 := (zdrop hb).1
    rw [beq_iff_eq.mp h] at z0
    exact dz_iastore z0
  next b r =>
    have z0 := (zdrop hb).1
    rw [beq_iff_eq.mp h] at z0
    exact dz_aastore z0
  next b r =>
    have z0 := (zdrop hb).1
    rw [beq_iff_eq.mp h] at z0
    exact dz_pop z0
  next b r =>
    have z0 := (zdrop hb).1
    rw [beq_iff_eq.mp h] at z0
    exact dz_dup z0
  next b r =>
    have z0 := (zdrop hb).1
    rw [beq_iff_eq.mp h] at z0
    exact dz_dup2 z0
  next b r =>
    have z0 := (zdrop hb).1
    rw [beq_iff_eq.mp h] at z0
    exact dz_iadd z0
  next b r =>
    have z0 := (zdrop hb).1
    rw [beq_iff_eq.mp h] at z0
    exact dz_isub z0
  next b r =>
    have z0 := (zdrop hb).1
    rw [beq_iff_eq.mp h] at z0
    exact dz_imul z0
  next b r =>
    have z0 := (zdrop hb).1
    rw [beq_iff_eq.mp h] at z0
    exact dz_idiv z0
  next b r =>
    have z0 := (zdrop hb).1
    rw [beq_iff_eq.mp h] at z0
    exact dz_irem z0
  next b r =>
    have z0 := (zdrop hb).1
    rw [beq_iff_eq.mp h] at z0
    exact dz_ineg z0
  next b r =>
    have z0 := (zdrop hb).1
    rw [beq_iff_eq.mp h] at z0
    exact dz_ishl z0
  next b r =>
    have z0 := (zdrop hb).1
    rw [beq_iff_eq.mp h] at z0
    exact dz_lshl z0
  next b r =>
    have z0 := (zdrop hb).1
    rw [beq_iff_eq.mp h] at z0
    exact dz_lshr z0
  next b r =>
    have z0 := (zdrop hb).1
    rw [beq_iff_eq.mp h] at z0
    exact dz_iushr z0
  next b r =>
    have z0 := (zdrop hb).1
    rw [beq_iff_eq.mp h] at z0
    exact dz_lushr z0
  next b r =>
    have z0 := (zdrop hb).1
    rw [beq_iff_eq.mp h] at z0
    exact dz_iand z0
  next b r =>
    have z0 := (zdrop hb).1
    rw [beq_iff_eq.mp h] at z0
    exact dz_land z0
  next b r =>
    have z0 := (zdrop hb).1
    rw [beq_iff_eq.mp h] at z0
    exact dz_ior z0
  next b r =>
    have z0 := (zdrop hb).1
    rw [beq_iff_eq.mp h] at z0
    exact dz_lor z0
  next b r =>
    have z0 := (zdrop hb).1
    rw [beq_iff_eq.mp h] at z0
    exact dz_ixor z0
  next b r =>
    have z0 := (zdrop hb).1
    rw [beq_iff_eq.mp h] at z0
    exact dz_i2l z0
  next b r =>
    have z0 := (zdrop hb).1
    rw [beq_iff_eq.mp h] at z0
    exact dz_l2i z0
  next b r =>
    have z0 := (zdrop hb).1
    rw [beq_iff_eq.mp h] at z0
    exact dz_i2b z0
  next b r =>
    have z0 := (zdrop hb).1
    rw [beq_iff_eq.mp h] at z0
    exact dz_i2s z0
  next b r =>
    have z0 := (zdrop hb).1
    rw [beq_iff_eq.mp h] at z0
    exact dz_lcmp z0
  next b r =>
    have z0 := (zdrop hb).1
    rw [beq_iff_eq.mp h] at z0
    exact dz_ireturn z0
  next b r =>
    have z0 := (zdrop hb).1
    rw [beq_iff_eq.mp h] at z0
    exact dz_areturn z0
  next b r =>
    have z0 := (zdrop hb).1
    rw [beq_iff_eq.mp h] at z0
    exact dz_return_ z0
  next b r =>
    have z0 := (zdrop hb).1
    rw [beq_iff_eq.mp h] at z0
    exact dz_arraylength z0
  next x b c r =>
    obtain ⟨z0, hb⟩ := zdrop hb
    have z1 := (zdrop hb).1
    simp only [Bool.and_eq_true, beq_iff_eq] at h
    rw [h.1] at z0; rw [h.2] at z1
    exact dz_ldc z0 z1
  next x b c r =>
    obtain ⟨z0, hb⟩ := zdrop hb
    have z1 := (zdrop hb).1
    simp only [Bool.and_eq_true, beq_iff_eq] at h
    rw [h.1] at z0; rw [h.2] at z1
    exact dz_iload z0 z1
  next x b c r =>
    obtain ⟨z0, hb⟩ := zdrop hb
    have z1 := (zdrop hb).1
    simp only [Bool.and_eq_true, beq_iff_eq] at h
    rw [h.1] at z0; rw [h.2] at z1
    exact dz_lload z0 z1
  next x b c r =>
    obtain ⟨z0, hb⟩ := zdrop hb
    have z1 := (zdrop hb).1
    simp only [Bool.and_eq_true, beq_iff_eq] at h
    rw [h.1] at z0; rw [h.2] at z1
    exact dz_aload z0 z1
  next x b c r =>
    obtain ⟨z0, hb⟩ := zdrop hb
    have z1 := (zdrop hb).1
    simp only [Bool.and_eq_true, beq_iff_eq] at h
    rw [h.1] at z0; rw [h.2] at z1
    exact dz_istore z0 z1
  next x b c r =>
    obtain ⟨z0, hb⟩ := zdrop hb
    have z1 := (zdrop hb).1
    simp only [Bool.and_eq_true, beq_iff_eq] at h
    rw [h.1] at z0; rw [h.2] at z1
    exact dz_astore z0 z1
  next x b c r =>
    obtain ⟨z0, hb⟩ := zdrop hb
    have z1 := (zdrop hb).1
    simp only [Bool.and_eq_true, beq_iff_eq] at h
    rw [h.1] at z0
    rw [← h.2]
    exact dz_bipush z0 z1
  next b c r =>
    obtain ⟨z0, hb⟩ := zdrop hb
    have z1 := (zdrop hb).1
    simp only [Bool.and_eq_true, beq_iff_eq] at h
    rw [h.1] at z0; rw [h.2] at z1
    exact dz_newarray z0 z1
  next x b c d r =>
    obtain ⟨z0, hb⟩ := zdrop hb
    obtain ⟨z1, hb⟩ := zdrop hb
    have z2 := (zdrop hb).1
    simp only [Bool.and_eq_true, beq_iff_eq] at h
    rw [h.1] at z0
    rw [← h.2]
    exact dz_ldc_w z0 z1 z2
  next x b c d r =>
    obtain ⟨z0, hb⟩ := zdrop hb
    obtain ⟨z1, hb⟩ := zdrop hb
    have z2 := (zdrop hb).1
    simp only [Bool.and_eq_true, beq_iff_eq] at h
    rw [h.1] at z0
    rw [← h.2]
    exact dz_ldc2_w z0 z1 z2
  next x b c d r =>
    obtain ⟨z0, hb⟩ := zdrop hb
    obtain ⟨z1, hb⟩ := zdrop hb
    have z2 := (zdrop hb).1
    simp only [Bool.and_eq_true, beq_iff_eq] at h
    rw [h.1] at z0
    rw [← h.2]
    exact dz_getstatic z0 z1 z2
  next x b c d r =>
    obtain ⟨z0, hb⟩ := zdrop hb
    obtain ⟨z1, hb⟩ := zdrop hb
    have z2 := (zdrop hb).1
    simp only [Bool.and_eq_true, beq_iff_eq] at h
    rw [h.1] at z0
    rw [← h.2]
    exact dz_getfield z0 z1 z2
  next x b c d r =>
    obtain ⟨z0, hb⟩ := zdrop hb
    obtain ⟨z1, hb⟩ := zdrop hb
    have z2 := (zdrop hb).1
    simp only [Bool.and_eq_true, beq_iff_eq] at h
    rw [h.1] at z0
    rw [← h.2]
    exact dz_putfield z0 z1 z2
  next x b c d r =>
    obtain ⟨z0, hb⟩ := zdrop hb
    obtain ⟨z1, hb⟩ := zdrop hb
    have z2 := (zdrop hb).1
    simp only [Bool.and_eq_true, beq_iff_eq] at h
    rw [h.1] at z0
    rw [← h.2]
    exact dz_invokevirtual z0 z1 z2
  next x b c d r =>
    obtain ⟨z0, hb⟩ := zdrop hb
    obtain ⟨z1, hb⟩ := zdrop hb
    have z2 := (zdrop hb).1
    simp only [Bool.and_eq_true, beq_iff_eq] at h
    rw [h.1] at z0
    rw [← h.2]
    exact dz_invokespecial z0 z1 z2
  next x b c d r =>
    obtain ⟨z0, hb⟩ := zdrop hb
    obtain ⟨z1, hb⟩ := zdrop hb
    have z2 := (zdrop hb).1
    simp only [Bool.and_eq_true, beq_iff_eq] at h
    rw [h.1] at z0
    rw [← h.2]
    exact dz_invokestatic z0 z1 z2
  next x b c d r =>
    obtain ⟨z0, hb⟩ := zdrop hb
    obtain ⟨z1, hb⟩ := zdrop hb
    have z2 := (zdrop hb).1
    simp only [Bool.and_eq_true, beq_iff_eq] at h
    rw [h.1] at z0
    rw [← h.2]
    exact dz_new z0 z1 z2
  next x b c d r =>
    obtain ⟨z0, hb⟩ := zdrop hb
    obtain ⟨z1, hb⟩ := zdrop hb
    have z2 := (zdrop hb).1
    simp only [Bool.and_eq_true, beq_iff_eq] at h
    rw [h.1] at z0
    rw [← h.2]
    exact dz_anewarray z0 z1 z2
  next x b c d r =>
    obtain ⟨z0, hb⟩ := zdrop hb
    obtain ⟨z1, hb⟩ := zdrop hb
    have z2 := (zdrop hb).1
    simp only [Bool.and_eq_true, beq_iff_eq] at h
    rw [h.1] at z0
    rw [← h.2]
    exact dz_sipush z0 z1 z2
  next x b c d r =>
    obtain ⟨z0, hb⟩ := zdrop hb
    obtain ⟨z1, hb⟩ := zdrop hb
    have z2 := (zdrop hb).1
    simp only [Bool.and_eq_true, beq_iff_eq] at h
    rw [h.1] at z0
    rw [← h.2]
    exact dz_goto z0 z1 z2
  next x b c d r =>
    obtain ⟨z0, hb⟩ := zdrop hb
    obtain ⟨z1, hb⟩ := zdrop hb
    have z2 := (zdrop hb).1
    simp only [Bool.and_eq_true, beq_iff_eq] at h
    rw [h.1] at z0
    rw [← h.2]
    exact dz_if_eq z0 z1 z2
  next x b c d r =>
    obtain ⟨z0, hb⟩ := zdrop hb
    obtain ⟨z1, hb⟩ := zdrop hb
    have z2 := (zdrop hb).1
    simp only [Bool.and_eq_true, beq_iff_eq] at h
    rw [h.1] at z0
    rw [← h.2]
    exact dz_if_ne z0 z1 z2
  next x b c d r =>
    obtain ⟨z0, hb⟩ := zdrop hb
    obtain ⟨z1, hb⟩ := zdrop hb
    have z2 := (zdrop hb).1
    simp only [Bool.and_eq_true, beq_iff_eq] at h
    rw [h.1] at z0
    rw [← h.2]
    exact dz_if_lt z0 z1 z2
  next x b c d r =>
    obtain ⟨z0, hb⟩ := zdrop hb
    obtain ⟨z1, hb⟩ := zdrop hb
    have z2 := (zdrop hb).1
    simp only [Bool.and_eq_true, beq_iff_eq] at h
    rw [h.1] at z0
    rw [← h.2]
    exact dz_if_ge z0 z1 z2
  next x b c d r =>
    obtain ⟨z0, hb⟩ := zdrop hb
    obtain ⟨z1, hb⟩ := zdrop hb
    have z2 := (zdrop hb).1
    simp only [Bool.and_eq_true, beq_iff_eq] at h
    rw [h.1] at z0
    rw [← h.2]
    exact dz_if_gt z0 z1 z2
  next x b c d r =>
    obtain ⟨z0, hb⟩ := zdrop hb
    obtain ⟨z1, hb⟩ := zdrop hb
    have z2 := (zdrop hb).1
    simp only [Bool.and_eq_true, beq_iff_eq] at h
    rw [h.1] at z0
    rw [← h.2]
    exact dz_if_le z0 z1 z2
  next x b c d r =>
    obtain ⟨z0, hb⟩ := zdrop hb
    obtain ⟨z1, hb⟩ := zdrop hb
    have z2 := (zdrop hb).1
    simp only [Bool.and_eq_true, beq_iff_eq] at h
    rw [h.1] at z0
    rw [← h.2]
    exact dz_icmp_eq z0 z1 z2
  next x b c d r =>
    obtain ⟨z0, hb⟩ := zdrop hb
    obtain ⟨z1, hb⟩ := zdrop hb
    have z2 := (zdrop hb).1
    simp only [Bool.and_eq_true, beq_iff_eq] at h
    rw [h.1] at z0
    rw [← h.2]
    exact dz_icmp_ne z0 z1 z2
  next x b c d r =>
    obtain ⟨z0, hb⟩ := zdrop hb
    obtain ⟨z1, hb⟩ := zdrop hb
    have z2 := (zdrop hb).1
    simp only [Bool.and_eq_true, beq_iff_eq] at h
    rw [h.1] at z0
    rw [← h.2]
    exact dz_icmp_lt z0 z1 z2
  next x b c d r =>
    obtain ⟨z0, hb⟩ := zdrop hb
    obtain ⟨z1, hb⟩ := zdrop hb
    have z2 := (zdrop hb).1
    simp only [Bool.and_eq_true, beq_iff_eq] at h
    rw [h.1] at z0
    rw [← h.2]
    exact dz_icmp_ge z0 z1 z2
  next x b c d r =>
    obtain ⟨z0, hb⟩ := zdrop hb
    obtain ⟨z1, hb⟩ := zdrop hb
    have z2 := (zdrop hb).1
    simp only [Bool.and_eq_true, beq_iff_eq] at h
    rw [h.1] at z0
    rw [← h.2]
    exact dz_icmp_gt z0 z1 z2
  next x b c d r =>
    obtain ⟨z0, hb⟩ := zdrop hb
    obtain ⟨z1, hb⟩ := zdrop hb
    have z2 := (zdrop hb).1
    simp only [Bool.and_eq_true, beq_iff_eq] at h
    rw [h.1] at z0
    rw [← h.2]
    exact dz_icmp_le z0 z1 z2
  next x y b c d r =>
    obtain ⟨z0, hb⟩ := zdrop hb
    obtain ⟨z1, hb⟩ := zdrop hb
    have z2 := (zdrop hb).1
    simp only [Bool.and_eq_true, beq_iff_eq] at h
    rw [h.1.1] at z0; rw [h.1.2] at z1
    rw [← h.2]
    exact dz_iinc z0 z1 z2
  next => cases h
def zisw (i : Instr) : Bool := match i with
  | .tableswitch _ _ _ _ => true
  | .lookupswitch _ _ => true
  | _ => false
/-- a block's instructions, checked quickly: the bytes from pc on are bs -/
def zOL (cc : ByteArray) (o : Nat) (ini : Bool) (nL : Nat) : List ZI → Nat → List UInt8 → Bool
  | [], _, _ => true
  | q :: r, pc, bs => (zdc q.1 bs q.2.1 || (zisw q.1 && decide (decode cc pc = .ok (q.1, q.2.1)))) && zck o ini nL pc q.1 q.2.1 q.2.2 && zOL cc o ini nL r (pc + q.2.1) (bs.drop q.2.1)
theorem zOK_of {cc : ByteArray} {o : Nat} {ini : Bool} {nL : Nat} : ∀ {l : List ZI} {pc : Nat} {bs : List UInt8}, cc.data.toList.drop pc = bs → zOL cc o ini nL l pc bs = true → zOK cc o ini nL l pc = true
  | [], _, _, _, _ => rfl
  | q :: r, pc, bs, hb, h => by
    simp only [zOL, Bool.and_eq_true, Bool.or_eq_true] at h
    obtain ⟨⟨h1, h2⟩, h3⟩ := h
    simp only [zOK, Bool.and_eq_true, decide_eq_true_eq]
    refine ⟨⟨?_, h2⟩, zOK_of (bs := bs.drop q.2.1) (by rw [← hb, List.drop_drop]) h3⟩
    rcases h1 with h1 | h1
    · exact zdc_ok hb h1
    · exact of_decide_eq_true h1.2
theorem zOK_by {cc : ByteArray} {o : Nat} {ini : Bool} {nL : Nat} {l : List ZI} {pc : Nat} (h : zOL cc o ini nL l pc (cc.data.toList.drop pc) = true) : zOK cc o ini nL l pc = true := zOK_of rfl h
