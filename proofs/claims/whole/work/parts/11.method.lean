/-! THE ENGINE IS SOUND: calls, whole instructions, blocks, methods -/
section ZCalls
variable {E : ZE} {p : Program} {e : Env} {R : Room} {s : State} {m : MethodId} {args : Array Value} {below : List Frame} {meth : Method} {c : Code} {Q : State → Prop}
variable {o nL d g0 mc ms pc len : Nat} {cc : ByteArray} {ini : Bool} {a : ZX} {ls : ZL} {st r : List ZV} {h h' : ZH} {b : ZB2}
theorem zafter {H : Heap} {locs : List Loc} {cells slots mc' ms' : Nat} {lc : Array Slot} {post : Option ZV → ZH → Prop} {ar : Array Value} (F : zF E p R s m args c (zon o) cc nL d g0 mc ms) (hr : va_Run p E.1 e R s m args below meth c H locs cells slots mc' ms' (F0 m pc lc (st.map (zc E))) (r.map (zc E)) (zQc E h mc' post ar) (zA E)) (hS : va_S (zA E) s.heap H locs) (hl : lv_has lc nL (zlv E ls)) (hln : ls.length = nL) (hc : cells + g0 = h.1.length) (h1 : cells + b.1 ≤ mc) (h2 : slots + b.2 ≤ ms) (hm1 : mc' ≤ b.1) (hm2 : ms' ≤ b.2)
    (k : ∀ v h', post v h' → zW E p e R s m args below meth c Q nL g0 mc ms (pc + 3) ls (v.toList ++ r) h' (b.1 - mc', b.2 - ms')) : W p E.1 e R s m args below meth c H locs cells slots Q (F0 m pc lc (st.map (zc E))) := by
  intro T hT X
  obtain ⟨v, st₀, t, T', L, h0, X', hL, e1, e2, ⟨⟨v', h', hv, hpost, hP', hlen⟩, hz, hk⟩, stp⟩ := hr T hT X
  cases hv
  rw [h0] at hz hk
  have hS' : va_S (zA E) s.heap T'.heap (locs ++ L) := ⟨Nat.le_trans hS.1 (by rw [e1]; exact hz), fun q g1 g2 => by rw [e1, hk q (Nat.lt_of_lt_of_le g1 hS.1) g2]; exact hS.2.1 q g1 g2, fun q hq => by
      rcases List.mem_append.mp hq with h | h
      · exact hS.2.2 q h
      · exact hL q h⟩
  obtain ⟨t2, a1, b1⟩ := zgo F (k v' h' hpost) (by rw [e1]; exact hP') hS' hl hln (by rw [hlen]; omega) (by dsimp only; omega) (by dsimp only; omega) T' rfl X'
  refine ⟨t2, stp t2 ?_, b1⟩
  have e3 : (v'.map (zc E)).toList ++ r.map (zc E) = (v'.toList ++ r).map (zc E) := by
    cases v' <;> simp
  rw [e3]
  exact a1
theorem zblind {as : List ZV} : FrameBlind (zPc E as h) := by
  intro a U g mk q
  obtain ⟨q1, q2, q3, q4⟩ := q
  exact ⟨q1, q2.moved (State.WarmedH.refl U) (fun _ _ _ => rfl), q3, q4⟩
theorem zpre {as : List ZV} {H : Heap} {locs : List Loc} (hEx : zEx E s) (hP : va_P E.2.2.1 zcl (zw E h) H) (hS : va_S (zA E) s.heap H locs) (hz : H.size = E.2.1 + h.1.length) : ∀ U : State, U.heap = H → s.WarmedH U.vm → zPc E as h (as.map (zc E)).toArray U := fun U hU hW => ⟨rfl, hEx.moved hW (fun q g1 g2 => by rw [hU]; exact hS.2.1 q g1 g2), by rw [hU]; exact hP, by rw [hU]; exact hz⟩
theorem zgi {M : ZM} (g : zgood M) : GoodIn zTb (Cond.code M.1 M.2.1 M.2.2.1 M.2.2.2.1 :: zTb) := by
  intro w hw
  rcases List.mem_cons.mp hw with rfl | hw
  · exact ⟨g.1, good_of_word (zTb_good _ g.1)⟩
  · exact ⟨hw, good_of_word (zTb_good _ hw)⟩
theorem zrecv_of {as : List ZV} {ci : Nat} (hh : zrecv h as ci) : ∃ (x : Nat) (as' : List ZV) (ob : Nat × List (Option (Option Nat))), as = .inr (.inr (.inl x)) :: as' ∧ h.1[x]? = some (.inl ob) ∧ ob.1 = ci := by
  unfold zrecv at hh
  match as, hh with
  | .inr (.inr (.inl x)) :: as', hh =>
    dsimp only at hh
    split at hh
    next ob hob => exact ⟨x, as', ob, rfl, hob, hh⟩
    next => exact hh.elim
theorem zisr_of {as : List ZV} (hh : zisr as) : ∃ (x : Nat) (as' : List ZV), as = .inr (.inr (.inl x)) :: as' := by
  match as, hh with
  | .inr (.inr (.inl x)) :: as', _ => exact ⟨x, as', rfl⟩
theorem zs_inv (F : zF E p R s m args c (zon o) cc nL d g0 mc ms) {x n vi : Nat} {CT : Nat → ZC} {k mc' ci : Nat} {l9 : List Nat} (hd : decode cc pc = .ok ((match vi with | 0 => Instr.invokestatic x | 1 => Instr.invokevirtual x | _ => Instr.invokespecial x), 3)) (hv2 : vi ≤ 2) (ha : a.2.1 = n :: k :: mc' :: ci :: l9) (hm : (x, n) ∈ zMT o) (hzm : (zm n).2.2.2.2 = (vi, k, ci, mc', a.1.toNat)) (hCT : ∀ as h post, CT n as h post → zCall E d (zm n) (CT n))
    {N : ZN} (hN : ∀ ls st h b, N ls st h b → zW E p e R s m args below meth c Q nL g0 mc ms (pc + 3) ls st h b) (kk : zinv CT vi a ls st h b N) : zW E p e R s m args below meth c Q nL g0 mc ms pc ls st h b := by
  intro H locs cells slots lc hP hS hl hln hc h1 h2 hz
  have FF := F
  obtain ⟨⟨hx, hb, hml, hown, hts⟩, hEx, hsz, hRf, hRl, hRc, hRs, hd1⟩ := F
  unfold zinv at kk
  rw [ha] at kk
  obtain ⟨hcat, hre, hsp, hkl, hmc, hms, kk⟩ := kk
  have hlk := zMT_ok o _ hm
  dsimp only at hlk
  obtain ⟨g, d', hd', hM0⟩ := hCT _ _ _ kk
  have hM := hM0 _ _ _ kk
  have hG := zgi g
  obtain ⟨w1, w2, w3, w4, w5, w6, w7, w8⟩ := g
  generalize zm n = M at *
  obtain ⟨y, bytes, maxL, ret, kd, k0, ci0, mc0, ms0⟩ := M
  dsimp only at *
  simp only [Prod.mk.injEq] at hzm
  obtain ⟨rfl, rfl, rfl, rfl, rfl⟩ := hzm
  have hW : ((List.map (zc E) (List.drop k0 st)).map fun v => v.category).sum ≤ 8 := by rw [zo_cat]; exact hcat
  have hR2 : (zRm d' mc0 a.1.toNat).frames + 1 ≤ R.frames ∧ 8 + (maxL + 11) + (zRm d' mc0 a.1.toNat).locals ≤ R.locals := by
    show d' + 1 ≤ R.frames ∧ 8 + (maxL + 11) + 40 * d' ≤ R.locals
    omega
  have hf2 : cells + mc0 ≤ R.cells ∧ slots + a.1.toNat ≤ R.slots := by omega
  have hstk : ∀ as : List ZV, as = (st.take k0).reverse → st.map (zc E) = (as.map (zc E)).reverse ++ (st.drop k0).map (zc E) := by
    intro as e9
    rw [e9, List.map_reverse, List.reverse_reverse, ← List.map_append, List.take_append_drop]
  have hal : ((st.take k0).reverse).length = k0 := by simp; omega
  generalize has : (st.take k0).reverse = as at *
  rcases w8 with ⟨q1, q2⟩ | ⟨q1, q2, q3, q4, q5⟩ | ⟨q1, q2, q3, q4, q5⟩
  · subst q1
    rcases hlk with w | w
    · have cw : CallB R s args (zon o) x y bytes maxL ret (Cond.code y bytes maxL ret :: zTb) (zRm d' mc0 a.1.toNat) mc0 a.1.toNat k0 := callB_of k0 hts hG rfl rfl rfl (hts _ w2) (hts _ w) ⟨w5, w6, w7⟩ hR2
      exact zafter FF (va_runS (As := as.map (zc E)) (rest := (st.drop k0).map (zc E)) ⟨hx, hb, hml, hown, hts⟩ hM ⟨cw, hts _ q2⟩ ⟨zblind, zpre hEx hP hS hz⟩ rfl (by rw [List.length_map]; exact hal) hl.1 (hstk as rfl) (lv_room hW) hd hf2) hS hl hln hc h1 h2 hmc hms (fun v h' hp => hN _ _ _ _ hp)
    · have cw : va_CN R s args (zon o) x y RX10 bytes maxL ret (Cond.code y bytes maxL ret :: zTb) (zRm d' mc0 a.1.toNat) mc0 a.1.toNat k0 := va_cnB k0 hts hG rfl rfl rfl (hEx.2.2.1 _ w) (hts _ w2) ⟨w5, w6, w7⟩ hR2
      exact zafter FF (va_runSN (As := as.map (zc E)) (rest := (st.drop k0).map (zc E)) ⟨hx, hb, hml, hown, hts⟩ hM ⟨cw, hts _ q2, trivial⟩ ⟨zblind, zpre hEx hP hS hz⟩ rfl (by rw [List.length_map]; exact hal) hl.1 (hstk as rfl) (lv_room hW) hd hf2) hS hl hln hc h1 h2 hmc hms (fun v h' hp => hN _ _ _ _ hp)
  · subst q1
    obtain ⟨xx, as', ob, e7, hob, hci⟩ := zrecv_of (hre rfl)
    subst e7
    obtain ⟨qq, hq1, hq2⟩ := Option.map_eq_some_iff.mp q4
    rw [← hci] at hq1
    have hrc := va_recv hEx.1 hP hq1 (zw_at hob)
    rw [hq2] at hrc
    rcases hlk with w | w
    · have cw : CallB R s args (zon o) x y bytes maxL ret (Cond.code y bytes maxL ret :: zTb) (zRm d' mc0 a.1.toNat) mc0 a.1.toNat (k0 - 1) := callB_of (k0 - 1) hts hG rfl rfl rfl (hts _ w2) (hts _ w) ⟨w5, w6, w7⟩ hR2
      exact zafter FF (va_runV (b := E.2.1 + xx) (As := as'.map (zc E)) (rest := (st.drop k0).map (zc E)) ⟨hx, hb, hml, hown, hts⟩ hM ⟨cw, hts _ q2, hts _ q3⟩ ⟨zblind, hrc, zpre (as := .inr (.inr (.inl xx)) :: as') hEx hP hS hz⟩ rfl (by rw [List.length_map]; simp at hal; omega) hl.1 (by rw [show (F0 m pc lc (st.map (zc E))).stack = st.map (zc E) from rfl, hstk _ rfl]; simp [zc]) (lv_room hW) hd hf2) hS hl hln hc h1 h2 hmc hms (fun v h' hp => hN _ _ _ _ hp)
    · have cw : va_CN R s args (zon o) x y RX10 bytes maxL ret (Cond.code y bytes maxL ret :: zTb) (zRm d' mc0 a.1.toNat) mc0 a.1.toNat (k0 - 1) := va_cnB (k0 - 1) hts hG rfl rfl rfl (hEx.2.2.1 _ w) (hts _ w2) ⟨w5, w6, w7⟩ hR2
      exact zafter FF (va_runVN (b := E.2.1 + xx) (As := as'.map (zc E)) (rest := (st.drop k0).map (zc E)) ⟨hx, hb, hml, hown, hts⟩ hM ⟨cw, hts _ q2, hts _ q3⟩ ⟨zblind, hrc, zpre (as := .inr (.inr (.inl xx)) :: as') hEx hP hS hz⟩ rfl (by rw [List.length_map]; simp at hal; omega) hl.1 (by rw [show (F0 m pc lc (st.map (zc E))).stack = st.map (zc E) from rfl, hstk _ rfl]; simp [zc]) (lv_room hW) hd hf2) hS hl hln hc h1 h2 hmc hms (fun v h' hp => hN _ _ _ _ hp)
  · subst q1
    obtain ⟨xx, as', e7⟩ := zisr_of (hsp rfl)
    subst e7
    subst q4
    rcases hlk with w | w
    · have cw : CallB R s args (zon o) x y bytes maxL none (Cond.code y bytes maxL none :: zTb) (zRm d' mc0 a.1.toNat) mc0 a.1.toNat (k0 - 1) := callB_of (k0 - 1) hts hG rfl rfl rfl (hts _ w2) (hts _ w) ⟨w5, w6, w7⟩ hR2
      exact zafter FF (va_runI (b := E.2.1 + xx) (As := as'.map (zc E)) (rest := (st.drop k0).map (zc E)) ⟨hx, hb, hml, hown, hts⟩ hM ⟨cw, q3, hts _ q2⟩ ⟨zblind, zpre (as := .inr (.inr (.inl xx)) :: as') hEx hP hS hz⟩ rfl (by rw [List.length_map]; simp at hal; omega) hl.1 (by rw [show (F0 m pc lc (st.map (zc E))).stack = st.map (zc E) from rfl, hstk _ rfl]; simp [zc]) (lv_room hW) hd hf2) hS hl hln hc h1 h2 hmc hms (fun v h' hp => hN _ _ _ _ hp)
    · have cw : va_CN R s args (zon o) x y RX10 bytes maxL none (Cond.code y bytes maxL none :: zTb) (zRm d' mc0 a.1.toNat) mc0 a.1.toNat (k0 - 1) := va_cnB (k0 - 1) hts hG rfl rfl rfl (hEx.2.2.1 _ w) (hts _ w2) ⟨w5, w6, w7⟩ hR2
      exact zafter FF (va_runIN (b := E.2.1 + xx) (As := as'.map (zc E)) (rest := (st.drop k0).map (zc E)) ⟨hx, hb, hml, hown, hts⟩ hM ⟨cw, q3, hts _ q2⟩ ⟨zblind, zpre (as := .inr (.inr (.inl xx)) :: as') hEx hP hS hz⟩ rfl (by rw [List.length_map]; simp at hal; omega) hl.1 (by rw [show (F0 m pc lc (st.map (zc E))).stack = st.map (zc E) from rfl, hstk _ rfl]; simp [zc]) (lv_room hW) hd hf2) hS hl hln hc h1 h2 hmc hms (fun v h' hp => hN _ _ _ _ hp)
end ZCalls
