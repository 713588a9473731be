section XRUN
variable {p : Program} {l : Launch} {e : Env} {R : Room} {s : State} {m : MethodId} {args : Array Value} {below : List Frame} {meth : Method} {c : Code} {Qf : State → Prop}
variable {N0 : Nat} {κ : Nat → Value} {cA : FieldType → ClassId} {D : va_G} {n0 k0 : Nat} {rf : xR} {E : xE} {prog : Nat → xM} {y : xM}
theorem xmath_is {k pc : Nat} {ls : List (Option Value)} {st : List Value} {H : xH} : xmath k pc ls st H = none ∨ ∃ g st', xmath k pc ls st H = some (g, .inl st') := by
  unfold xmath
  repeat' split
  all_goals first | exact Or.inl rfl | exact Or.inr ⟨_, _, rfl⟩
theorem xmath_no {k pc : Nat} {ls : List (Option Value)} {st : List Value} {H : xH} {g : Prop} {z} : ¬ xmath k pc ls st H = some (g, .inr z) := by
  rcases xmath_is (k := k) (pc := pc) (ls := ls) (st := st) (H := H) with h | ⟨g', st', h⟩ <;> rw [h] <;> intro e <;> cases e
set_option maxRecDepth 20000 in
theorem xloc_ok {a d L : Nat} (h : a ≤ 40) (h2 : 60 * d + 460 ≤ L) : 8 + (a + 11) + (60 * d + 400) ≤ L := by omega
theorem xPc_blind {s0 : State} {av : List Value} {AH : xH} : FrameBlind (xPc s0 N0 κ cA D av AH) := fun _ _ _ _ q => q
theorem xcw_code {y' : xM} (h : y'.hh = []) : xcw y' = .code y'.nm y'.by y'.ml y'.rt := if_pos h
theorem xcw_with {y' : xM} (h : ¬ y'.hh = []) : xcw y' = .codeWith y'.nm y'.by y'.ml y'.rt (xh4 y') := if_neg h
theorem xcw_good (y' : xM) : xgw (xcw y') = true ∧ goodWord (xcw y') = true := by
  unfold xcw
  split <;> exact ⟨rfl, rfl⟩
/-- what a call comes to, from its vx_Run -/
theorem xrun_goes (hL : xL s args E N0 κ cA D) {pc : Nat} {AL : List (Option Value)} {st rest : List Value} {AH : xH} {r : xR} {ls : Array Slot} {H : Heap} {locs : List Loc} {a : Array Value} (hn : n0 ≤ AH.2.1) (hk : k0 ≤ AH.2.2) (hn2 : AH.2.1 ≤ r.2.2.1) (hk2 : AH.2.2 ≤ r.2.2.2) (g : xG s c N0 κ cA D AH AL H locs ls)
    (hr : vx_Run p l e R s m args below meth c H locs (AH.2.1 - n0) (AH.2.2 - k0) (r.2.2.1 - AH.2.1) (r.2.2.2 - AH.2.2) (F0 m pc ls (st.map (xm N0 κ))) (rest.map (xm N0 κ)) (xQc N0 κ cA D r a) (xXC N0 κ cA D r) (xAA N0))
    (kv : ∀ v, r.1 = .inl v → ∀ H1 locs1, xG s c N0 κ cA D r.2 AL H1 locs1 ls → W p l e R s m args below meth c H1 locs1 (r.2.2.1 - n0) (r.2.2.2 - k0) Qf (F0 m (pc + 3) ls ((v.toList ++ rest).map (xm N0 κ))))
    (kx : ∀ ci, r.1 = .inr ci → ∀ H1 locs1 q ce, xG s c N0 κ cA D r.2 AL H1 locs1 ls → xTX s H1 q ce ci → vx_W p l e R s m args below meth c H1 locs1 (r.2.2.1 - n0) (r.2.2.2 - k0) Qf (F0 m pc ls (rest.map (xm N0 κ))) q) :
    W p l e R s m args below meth c H locs (AH.2.1 - n0) (AH.2.2 - k0) Qf (F0 m pc ls (st.map (xm N0 κ))) := by
  have e1 : AH.2.1 - n0 + (r.2.2.1 - AH.2.1) = r.2.2.1 - n0 := by omega
  have e2 : AH.2.2 - k0 + (r.2.2.2 - AH.2.2) = r.2.2.2 - k0 := by omega
  intro T hT X
  rcases hr T hT X with ⟨v, st₀, t, T', L, h0, X', hLL, f1, f2, ⟨⟨v', hv', ho⟩, q1, q2, q3, q4⟩, hst⟩ | ⟨q, st₀, t, T', L, En, ce, h0, X', hLL, f1, f2, ⟨⟨ci, hci, c1, c2, hE⟩, q1, q2, q3, q4⟩, hce, hcv, hcl, hst⟩
  · rw [e1, e2] at X'
    cases ho
    obtain ⟨k1, k2, k3⟩ := vx_keep h0 f1 g.1.2.2.1 (fun q _ h => h) (fun q h => h) hLL q4
    rw [← f1] at q1
    obtain ⟨t2, a1, b1⟩ := kv v' hv' T'.heap (locs ++ L) ⟨⟨q1, q2, k3, q3⟩, g.2⟩ T' rfl X'
    refine ⟨t2, hst t2 ?_, b1⟩
    have e3 : (v'.toList ++ rest).map (xm N0 κ) = (v'.map (xm N0 κ)).toList ++ rest.map (xm N0 κ) := by cases v' <;> simp
    rw [e3] at a1
    exact a1
  · rw [e1, e2] at X'
    obtain ⟨k1, k2, k3⟩ := vx_keep h0 f1 g.1.2.2.1 (fun q _ h => h) (fun q h => h) hLL q4
    rw [← f1] at q1 hce
    subst hE
    obtain ⟨t2, a1, b1⟩ := kx ci hci T'.heap (locs ++ L) q ce ⟨⟨q1, q2, k3, q3⟩, g.2⟩ ⟨hce, hcv, hcl, c1, c2⟩ T' rfl X'
    exact ⟨t2, hst.trans a1, b1⟩
theorem xs_call {s0 : State} {d : Nat} (hκ : ∀ k, (κ k).category = 1) (hL : xL s args E N0 κ cA D) (hAt : xAt s0 N0 n0 s) (hR1 : rf.2.2.1 - n0 ≤ R.cells) (hR2 : rf.2.2.2 - k0 ≤ R.slots) (hR3 : d + 9 ≤ R.frames) (hR4 : 60 * d + 460 ≤ R.locals) (hx : p.tables.exec = Jvm.exec) (hb : c.code = y.by) {own : String} (hown : s.vm.findClass own = some m.cls)
    (hdec : ∀ pc i len r1 r2 r3 r4, y.cd pc = some (i, len, r1, r2, r3, r4) → decode y.by pc = .ok (i, len) ∧ ((∀ k, i = .astore k → len = 2) ∧ ∀ k, i = .astore_n k → len = 1))
    (htab : ¬ y.hh = [] → c.exceptionTable.toList = Jvm.tableOf (xh4 y)) (hhw : xokH own y)
    (hthr : ∀ ci AH, (Sum.inr ci, AH) = rf → ∀ AL ls H locs pc rest q ce, y.hh = [] → xG s c N0 κ cA D AH AL H locs ls → xTX s H q ce ci → vx_W p l e R s m args below meth c H locs (AH.2.1 - n0) (AH.2.2 - k0) Qf (F0 m pc ls rest) q)
    (hcall : ∀ mn av AH r, xcall E prog d mn av AH (fun r' => r' = r) → xCon l s0 N0 κ cA D (prog mn) d av AH r)
    {i : Instr} {x len k mn : Nat} {as rest : List Value} {r3 : Nat} {pc : Nat} {AL : List (Option Value)} {st : List Value} {AH : xH} {g : Prop} (hi : i = .invokevirtual x ∨ i = .invokestatic x ∨ i = .invokespecial x) (hdg : decode y.by pc = .ok (i, len)) (hlen : len = 3) (e0 : xop E prog y i len k mn r3 (pc, AL, st, AH) = some (g, .inr (.inr (.inr (.inl (k, mn, as, rest)))))) (hg : g) (hok : xokC own k x r3 (prog mn))
    (h : xcall E prog d mn as AH (fun r => match r.1 with | .inl v => xP p l e R s m args below meth c Qf N0 κ cA D n0 k0 rf (pc + 3, AL, v.toList ++ rest, r.2) | .inr ci => xthr y (fun r => r = rf) (xP p l e R s m args below meth c Qf N0 κ cA D n0 k0 rf) pc AL ci r.2)) :
    xP p l e R s m args below meth c Qf N0 κ cA D n0 k0 rf (pc, AL, st, AH) := by
  subst hlen
  obtain ⟨r, hpost, hone⟩ := xcall_one d _ _ _ _ h
  obtain ⟨hn2, hk2, hM⟩ := hcall mn as AH r hone
  intro h1 h2
  have h1 : n0 ≤ AH.2.1 := h1
  have h2 : k0 ≤ AH.2.2 := h2
  -- behind the call
  have hmono : r.2.2.1 ≤ rf.2.2.1 ∧ r.2.2.2 ≤ rf.2.2.2 := by
    split at hpost
    · exact (hpost (Nat.le_trans h1 hn2) (Nat.le_trans h2 hk2)).1
    · exact (xthr_s (pc := pc) hκ hL hx hb hown hdec htab hhw hthr hpost (Nat.le_trans h1 hn2) (Nat.le_trans h2 hk2)).1
  have kv : ∀ v, r.1 = .inl v → ∀ (ls : Array Slot) H1 locs1, xG s c N0 κ cA D r.2 AL H1 locs1 ls → W p l e R s m args below meth c H1 locs1 (r.2.2.1 - n0) (r.2.2.2 - k0) Qf (F0 m (pc + 3) ls ((v.toList ++ rest).map (xm N0 κ))) := by
    intro v hv ls H1 locs1 gg
    rw [hv] at hpost
    exact (hpost (Nat.le_trans h1 hn2) (Nat.le_trans h2 hk2)).2 ls H1 locs1 gg
  have kx : ∀ ci, r.1 = .inr ci → ∀ (ls : Array Slot) H1 locs1 q ce, xG s c N0 κ cA D r.2 AL H1 locs1 ls → xTX s H1 q ce ci → vx_W p l e R s m args below meth c H1 locs1 (r.2.2.1 - n0) (r.2.2.2 - k0) Qf (F0 m pc ls (rest.map (xm N0 κ))) q := by
    intro ci hci ls H1 locs1 q ce gg hq
    rw [hci] at hpost
    exact (xthr_s hκ hL hx hb hown hdec htab hhw hthr hpost (Nat.le_trans h1 hn2) (Nat.le_trans h2 hk2)).2 ls H1 locs1 _ q ce gg hq
  refine ⟨⟨by show AH.2.1 ≤ _; omega, by show AH.2.2 ≤ _; omega⟩, fun ls H locs gg => ?_⟩
  refine W_sz (fun hz => ?_)
  have hz : H.size ≤ s.heap.size + (AH.2.1 - n0) := hz
  have hlo : N0 + AH.2.1 ≤ H.size := xG_lo gg hAt.2.1 h1
  have hsz : H.size = N0 + AH.2.1 := by have := hAt.2.1; omega
  -- the callee's start
  have hpre : ∀ U : State, U.heap = H → s.WarmedH U.vm → xPc s0 N0 κ cA D as AH (as.map (xm N0 κ)).toArray U := by
    intro U hU hW
    refine ⟨rfl, ⟨State.WarmedH.trans hAt.1 hW, by rw [hU]; exact hsz, fun q hq => ?_⟩, by rw [hU]; exact gg.1.1, gg.1.2.1, gg.1.2.2.2⟩
    rw [hU, gg.1.2.2.1.2.1 q (by have := hAt.2.1; omega) (Nat.not_le.mpr hq)]
    exact hAt.2.2 q hq
  obtain ⟨⟨o1, o2, o3, o4, o5⟩, oV, oS, oI, oX, oL, oN, oU, oP⟩ := hok
  have hsig : ∀ sig, parseMethodDescriptor (prog mn).nm.desc = some sig → r3 = sig.parameters.length := by
    intro sig hs
    rw [hs] at o4
    exact (Option.some.inj o4).symm
  have hfr : (xroom d (r.2.2.1 - AH.2.1) (r.2.2.2 - AH.2.2)).frames + 1 ≤ R.frames := hR3
  have hlo2 : 8 + ((prog mn).ml + 11) + (xroom d (r.2.2.1 - AH.2.1) (r.2.2.2 - AH.2.2)).locals ≤ R.locals := by
    exact xloc_ok o5 hR4
  have hws : ∀ w ∈ [xcw (prog mn)], ∀ (a' : Array Value) (U : State), s.WarmedH U.vm → w.before a' U = true := by
    intro w hw a' U hWU
    rw [List.mem_singleton.mp hw]
    exact word_at hWU (good_of_word (xcw_good _).2) (hL.1 _ o2 (xcw_good _).1)
  have hcap : AH.2.1 - n0 + (r.2.2.1 - AH.2.1) ≤ R.cells ∧ AH.2.2 - k0 + (r.2.2.2 - AH.2.2) ≤ R.slots := ⟨by omega, by omega⟩
  have hfix : CallFix p m c y.by c.maxLocals s args [] own := ⟨hx, hb, rfl, hown, fun _ h => nomatch h⟩
  have hini : (Jvm.Cond.initialized (prog mn).nm.cls).before args s = true := hL.1 _ o1 rfl
  refine xrun_goes (rest := rest) (a := (as.map (xm N0 κ)).toArray) hL h1 h2 hn2 hk2 gg ?_ (fun v hv => kv v hv ls) (fun ci hci => kx ci hci ls)
  unfold xop at e0
  rcases hi with rfl | rfl | rfl
  · -- virtual
    dsimp only at e0
    split at e0
    · exact absurd e0 (by split <;> (intro q; cases q))
    split at e0
    · cases e0
    · rename_i hl
      split at e0
      · rename_i b rest' hdr
        injection e0 with e0
        injection e0 with eg e0
        injection e0 with e0
        injection e0 with e0
        injection e0 with e0
        injection e0 with e0
        injection e0 with _ e0
        injection e0 with _ e0
        injection e0 with ea er
        subst er
        rw [← eg] at hg
        obtain ⟨hg1, hg2, hg3⟩ := hg
        have hstk : st.map (xm N0 κ) = ((st.take r3).reverse.map (xm N0 κ)).reverse ++ xm N0 κ b :: rest'.map (xm N0 κ) := by
          rw [← List.map_reverse, List.reverse_reverse, ← List.map_cons, ← List.map_append, ← hdr, List.take_append_drop]
        have hn : ((st.take r3).reverse.map (xm N0 κ)).length = r3 := by
          rw [List.length_map, List.length_reverse, List.length_take]; omega
        have hrecv : ∃ b0, xm N0 κ b = .ref b0 ∧ ∃ cellB : Cell, H[b0]? = some cellB ∧ cellB.vm.isStatics = false ∧ s.vm.findClass (xcN (xrc (prog mn).ci)) = some cellB.cls := by
          unfold xrok at hg3
          split at hg3
          · rename_i b1
            obtain ⟨z1, z2⟩ := hg3
            refine ⟨_, rfl, ?_⟩
            obtain ⟨hb1, fs, hfs⟩ := xcl_at gg.1.2.2.2 z1 (by omega)
            have hq := xws_get (N0 := N0) (κ := κ) (cA := cA) hb1
            rw [hfs] at hq
            have h9 := va_recv hL.2.1 gg.1.1 (xcls_get _ z2) hq
            exact h9
          · rename_i q1
            obtain ⟨z1, i1, z2⟩ := hg3
            rw [z1]
            unfold xisT at z2
            split at z2
            · rename_i hq
              obtain ⟨ak, av, e1, e2, f1, f2, f3, f4⟩ := hL.2.2.2.2.1 ((q1 - 100) / 2) (by omega)
              have eq : 100 + 2 * ((q1 - 100) / 2) = q1 := by omega
              rw [eq] at e1
              obtain ⟨cell, y1, y2, y3, -⟩ := f1.kept gg.1.2.2.1.2.1
              exact ⟨ak, e1, cell, y1, y2, y3⟩
            · cases z2
          · exact hg3.elim
        obtain ⟨b0, hb0, hcell⟩ := hrecv
        rw [hb0] at hstk
        have has : (as.map (xm N0 κ)).toArray = (Value.ref b0 :: (st.take r3).reverse.map (xm N0 κ)).toArray := by
          rw [← ea, List.map_cons, hb0]
        rw [has] at hpre ⊢
        have hroom := lv_room (m := m) (pc := pc) (ls := ls) (rest := st.map (xm N0 κ)) (st := rest'.map (xm N0 κ)) (by rw [xsm_eq hκ]; exact hg1)
        have hcmb : (prog mn).hh = [] → Jvm.Cond.code (prog mn).nm (prog mn).by (prog mn).ml (prog mn).rt ∈ [xcw (prog mn)] ∧ (Jvm.Cond.code (prog mn).nm (prog mn).by (prog mn).ml (prog mn).rt).before args s = true := by
          intro v1
          refine ⟨by rw [xcw_code v1]; exact List.mem_singleton.mpr rfl, ?_⟩
          have := hL.1 _ o2 (xcw_good _).1
          rw [xcw_code v1] at this
          exact this
        rcases hg2 with z | z | z
        · obtain ⟨v1, v2, v3, v4, v5⟩ := oV (Or.inl z)
          obtain ⟨hcm, hcb⟩ := hcmb v1
          rw [v5] at hcell
          exact vx_runV hfix hM ⟨⟨rfl, rfl, hfr, hlo2, hws, hcm, hcb, hini, o3, hsig, hL.1 _ (oL (Or.inl z)) rfl⟩, hL.1 _ v2 rfl, hL.1 _ v3 rfl⟩ ⟨xPc_blind, hcell, hpre⟩ rfl hn gg.2.1.1 hstk hroom hdg hcap
        · obtain ⟨v1, v2, v3, v4, v5⟩ := oV (Or.inr z)
          obtain ⟨hcm, hcb⟩ := hcmb v1
          rw [v5] at hcell
          obtain ⟨host, hho⟩ := oN (Or.inl z)
          exact vx_runVN hfix hM ⟨⟨⟨rfl, rfl, hfr, hlo2, hws, hcm⟩, hcb, hini, o3, hsig, hL.1 _ hho rfl⟩, hL.1 _ v2 rfl, hL.1 _ v3 rfl⟩ ⟨xPc_blind, hcell, hpre⟩ rfl hn gg.2.1.1 hstk hroom hdg hcap
        · obtain ⟨v1, x0, owner, b9, m9, r9, u1, u2, u3, u4, u5, u6, u7, u8, u9⟩ := oU z
          obtain ⟨hcm, hcb⟩ := hcmb v1
          have hsel : (Jvm.Cond.selects (xcN (xrc (prog mn).ci)) x0 (prog mn).nm).before args s = true := by
            rcases u7 with u7 | ⟨rfl, w1, w2⟩
            · exact hL.1 _ u7 rfl
            · rw [w2]; exact hL.2.2.2.2.2.2.2.2.2.2.2.2 _ w1
          exact vx_runU (C := xcN (xrc (prog mn).ci)) (owner := owner) (x := x0) hfix hM ⟨⟨rfl, rfl, hfr, hlo2, hws, hcm⟩, hcb, hini, u1, fun sig hs => by rw [hs] at u2; exact (Option.some.inj u2).symm, hL.1 _ u3 rfl, hL.1 _ u4 rfl, va_Decl.of (hL.1 _ u5 rfl) (hL.1 _ u6 rfl), hsel, hL.1 _ u8 rfl⟩ ⟨xPc_blind, hcell, hpre⟩ rfl hn gg.2.1.1 hstk hroom hdg hcap
      · cases e0
  · -- static
    dsimp only at e0
    split at e0
    · exact absurd e0 (by (repeat' split) <;> (intro q; cases q))
    · rename_i hk8
      split at e0
      · exact absurd e0 (xmath_no)
      split at e0
      · cases e0
      · rename_i hl
        injection e0 with e0
        injection e0 with eg e0
        injection e0 with e0
        injection e0 with e0
        injection e0 with e0
        injection e0 with e0
        injection e0 with _ e0
        injection e0 with _ e0
        injection e0 with ea er
        subst er
        rw [← eg] at hg
        obtain ⟨hg1, hg2⟩ := hg
        have hstk : st.map (xm N0 κ) = (as.map (xm N0 κ)).reverse ++ (st.drop r3).map (xm N0 κ) := by
          rw [← ea, ← List.map_reverse, List.reverse_reverse, ← List.map_append, List.take_append_drop]
        have hn : (as.map (xm N0 κ)).length = r3 := by
          rw [← ea, List.length_map, List.length_reverse, List.length_take]; omega
        have hroom := lv_room (m := m) (pc := pc) (ls := ls) (rest := st.map (xm N0 κ)) (st := (st.drop r3).map (xm N0 κ)) (by rw [xsm_eq hκ]; exact hg1)
        by_cases h6 : k = 6
        · obtain ⟨v1, v2⟩ := oX h6
          have hcm : Jvm.Cond.codeWith (prog mn).nm (prog mn).by (prog mn).ml (prog mn).rt (xh4 (prog mn)) ∈ [xcw (prog mn)] := by rw [xcw_with v1]; exact List.mem_singleton.mpr rfl
          have hcb : (Jvm.Cond.codeWith (prog mn).nm (prog mn).by (prog mn).ml (prog mn).rt (xh4 (prog mn))).before args s = true := by
            have := hL.1 _ o2 (xcw_good _).1
            rw [xcw_with v1] at this
            exact this
          exact vx_runSX hfix hM ⟨⟨rfl, rfl, hfr, hlo2, hws, hcm⟩, hcb, hini, o3, hsig, hL.1 _ (oL (by omega)) rfl, hL.1 _ v2 rfl⟩ ⟨xPc_blind, hpre⟩ rfl hn gg.2.1.1 hstk hroom hdg hcap
        · obtain ⟨v1, v2⟩ := oS (by omega)
          have hcm : Jvm.Cond.code (prog mn).nm (prog mn).by (prog mn).ml (prog mn).rt ∈ [xcw (prog mn)] := by rw [xcw_code v1]; exact List.mem_singleton.mpr rfl
          have hcb : (Jvm.Cond.code (prog mn).nm (prog mn).by (prog mn).ml (prog mn).rt).before args s = true := by
            have := hL.1 _ o2 (xcw_good _).1
            rw [xcw_code v1] at this
            exact this
          rcases hg2 with z | z | z
          · exact vx_runS hfix hM ⟨⟨rfl, rfl, hfr, hlo2, hws, hcm, hcb, hini, o3, hsig, hL.1 _ (oL (by omega)) rfl⟩, hL.1 _ v2 rfl⟩ ⟨xPc_blind, hpre⟩ rfl hn gg.2.1.1 hstk hroom hdg hcap
          · obtain ⟨host, hho⟩ := oN (by omega)
            exact vx_runSN hfix hM ⟨⟨⟨rfl, rfl, hfr, hlo2, hws, hcm⟩, hcb, hini, o3, hsig, hL.1 _ hho rfl⟩, hL.1 _ v2 rfl, trivial⟩ ⟨xPc_blind, hpre⟩ rfl hn gg.2.1.1 hstk hroom hdg hcap
          · exact absurd z h6
  · -- special
    dsimp only at e0
    split at e0
    · split at e0
      · injection e0 with e0
        injection e0 with eg e0
        cases e0
      · cases e0
    · rename_i hk7
      split at e0
      · cases e0
      · rename_i hl
        split at e0
        · rename_i b1 rest' hdr
          injection e0 with e0
          injection e0 with eg e0
          injection e0 with e0
          injection e0 with e0
          injection e0 with e0
          injection e0 with e0
          injection e0 with _ e0
          injection e0 with _ e0
          injection e0 with ea er
          subst er
          rw [← eg] at hg
          obtain ⟨hg1, hg2⟩ := hg
          have hstk : st.map (xm N0 κ) = ((st.take r3).reverse.map (xm N0 κ)).reverse ++ .ref (N0 + b1) :: rest'.map (xm N0 κ) := by
            rw [← List.map_reverse, List.reverse_reverse]
            show _ = _ ++ xm N0 κ (.ref b1) :: _
            rw [← List.map_cons, ← List.map_append, ← hdr, List.take_append_drop]
          have hn : ((st.take r3).reverse.map (xm N0 κ)).length = r3 := by
            rw [List.length_map, List.length_reverse, List.length_take]; omega
          have has : (as.map (xm N0 κ)).toArray = (Value.ref (N0 + b1) :: (st.take r3).reverse.map (xm N0 κ)).toArray := by
            rw [← ea, List.map_cons]; rfl
          rw [has] at hpre ⊢
          have hroom := lv_room (m := m) (pc := pc) (ls := ls) (rest := st.map (xm N0 κ)) (st := rest'.map (xm N0 κ)) (by rw [xsm_eq hκ]; exact hg1)
          rcases hg2 with z | z | ⟨z, zc⟩
          · obtain ⟨v1, v2, v3, v4⟩ := oI (by omega)
            have hcm : Jvm.Cond.code (prog mn).nm (prog mn).by (prog mn).ml none ∈ [xcw (prog mn)] := by rw [xcw_code v1, v4]; exact List.mem_singleton.mpr rfl
            have hcb : (Jvm.Cond.code (prog mn).nm (prog mn).by (prog mn).ml none).before args s = true := by
              have := hL.1 _ o2 (xcw_good _).1
              rw [xcw_code v1, v4] at this
              exact this
            exact vx_runI hfix hM ⟨⟨rfl, rfl, hfr, hlo2, hws, hcm, hcb, hini, o3, hsig, hL.1 _ (oL (by omega)) rfl⟩, v3, hL.1 _ v2 rfl⟩ ⟨xPc_blind, hpre⟩ rfl hn gg.2.1.1 hstk hroom hdg hcap
          · obtain ⟨v1, v2, v3, v4⟩ := oI (by omega)
            have hcm : Jvm.Cond.code (prog mn).nm (prog mn).by (prog mn).ml none ∈ [xcw (prog mn)] := by rw [xcw_code v1, v4]; exact List.mem_singleton.mpr rfl
            have hcb : (Jvm.Cond.code (prog mn).nm (prog mn).by (prog mn).ml none).before args s = true := by
              have := hL.1 _ o2 (xcw_good _).1
              rw [xcw_code v1, v4] at this
              exact this
            obtain ⟨host, hho⟩ := oN (by omega)
            exact vx_runIN hfix hM ⟨⟨⟨rfl, rfl, hfr, hlo2, hws, hcm⟩, hcb, hini, o3, hsig, hL.1 _ hho rfl⟩, v3, hL.1 _ v2 rfl⟩ ⟨xPc_blind, hpre⟩ rfl hn gg.2.1.1 hstk hroom hdg hcap
          · obtain ⟨v1, u1, u2, u3, u4, u5⟩ := oP z
            have hcm : Jvm.Cond.code (prog mn).nm (prog mn).by (prog mn).ml (prog mn).rt ∈ [xcw (prog mn)] := by rw [xcw_code v1]; exact List.mem_singleton.mpr rfl
            have hcb : (Jvm.Cond.code (prog mn).nm (prog mn).by (prog mn).ml (prog mn).rt).before args s = true := by
              have := hL.1 _ o2 (xcw_good _).1
              rw [xcw_code v1] at this
              exact this
            obtain ⟨hb1, fs, hfs⟩ := xcl_at gg.1.2.2.2 zc (by decide)
            have hq := xws_get (N0 := N0) (κ := κ) (cA := cA) hb1
            rw [hfs] at hq
            have hcell := va_recv hL.2.1 gg.1.1 (xcls_get 11 (by decide)) hq
            exact vx_runSU (hL.2.1.1 11 _ (xcls_get 11 (by decide))).2 hfix hM ⟨⟨rfl, rfl, hfr, hlo2, hws, hcm⟩, hL.1 _ u1 rfl, hL.1 _ u2 rfl, hL.1 _ u3 rfl, hL.1 _ u4 rfl, hini, hcb, u5, hsig⟩ ⟨xPc_blind, hcell, hpre⟩ rfl hn gg.2.1.1 hstk hroom hdg hcap
        · cases e0
end XRUN
