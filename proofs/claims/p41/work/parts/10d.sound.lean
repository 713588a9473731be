section XMETS2
variable {l : Launch} {N0 : Nat} {κ : Nat → Value} {cA : FieldType → ClassId} {D : va_G} {E : xE} {prog : Nat → xM}
set_option maxRecDepth 20000 in
theorem xloc_d (d : Nat) : 60 * d + 460 ≤ 60 * (d + 1) + 400 := by omega
theorem xsound {s0 : State} {a0 : Array Value} (hst : l.stackTraces = false) (h0 : s0.heap.size = N0) (hL0 : xL s0 a0 E N0 κ cA D) (hok : ∀ mn, xMOK prog (prog mn)) : ∀ (d mn : Nat) (av : List Value) (AH : xH) (r : xR), xcall E prog d mn av AH (fun r' => r' = r) → xCon l s0 N0 κ cA D (prog mn) d av AH r
  | 0, _, _, _, _, h => h.elim
  | d + 1, mn, av, AH, r, h => by
    obtain ⟨hm1, hm2⟩ := xmono _ _ _ _ _ h
    refine ⟨hm1, hm2, ?_⟩
    have hκ : ∀ k, (κ k).category = 1 := hL0.2.2.2.2.2.2.2.2.2.1.1
    have hκ2 : ∀ k, (∃ a, κ k = .ref a) ∨ κ k = .null := hL0.2.2.2.2.2.2.2.2.2.1.2
    obtain ⟨hent, hrn⟩ := h
    have hcall : ∀ mn av AH r, xcall E prog d mn av AH (fun r' => r' = r) → xCon l s0 N0 κ cA D (prog mn) d av AH r := fun mn av AH r hc => xsound hst h0 hL0 hok d mn av AH r hc
    have hoky := hok mn
    generalize prog mn = y at hent hrn hoky ⊢
    -- the walk of the body
    have walk : ∀ (p : Program) (e : Env) (s : State) (m : MethodId) (args : Array Value) (below : List Frame) (meth : Method) (c : Code), p.tables.exec = Jvm.exec → c.code = y.by → c.maxLocals = y.ml → s.vm.findClass y.nm.cls = some m.cls → meth.name = y.nm.name → meth.sig.returnType = y.rt → meth.locks = false → (¬ y.hh = [] → c.exceptionTable.toList = Jvm.tableOf (xh4 y)) → (y.hh = [] → ∀ x ∈ c.exceptionTable.toList, False) → xPc s0 N0 κ cA D av AH args s →
        W p l e (xroom (d + 1) (r.2.2.1 - AH.2.1) (r.2.2.2 - AH.2.2)) s m args below meth c s.heap [] 0 0 (vx_MQ below (xQc N0 κ cA D r) (xXC N0 κ cA D r) args s (r.2.2.1 - AH.2.1) (r.2.2.2 - AH.2.2) (xAA N0)) (entryFrame m args y.ml) := by
      intro p e s m args below meth c hx hb hml hown hnm hret hlocks htab hno hP
      obtain ⟨rfl, hAt, hP1, hP2, hP3⟩ := hP
      have hL : xL s (av.map (xm N0 κ)).toArray E N0 κ cA D := xL_at h0 hL0 hAt
      have P := hrn (xP p l e (xroom (d + 1) (r.2.2.1 - AH.2.1) (r.2.2.2 - AH.2.2)) s m (av.map (xm N0 κ)).toArray below meth c (vx_MQ below (xQc N0 κ cA D r) (xXC N0 κ cA D r) (av.map (xm N0 κ)).toArray s (r.2.2.1 - AH.2.1) (r.2.2.2 - AH.2.2) (xAA N0)) N0 κ cA D AH.2.1 AH.2.2 r) (fun st hs => xstep_ok (s0 := s0) (d := d) hst hκ hκ2 hL hAt (Nat.le_refl _) (Nat.le_refl _) (by show d + 9 ≤ d + 1 + 8; omega) (xloc_d d) hx hb hown hnm hoky htab
        (fun v AH' hrf AL ls H locs pc i gg hdg hrv => xfin_met hκ2 hx hb hret hlocks hrf gg hdg hrv)
        (fun ci AH' hrf AL ls H locs pc rest q ce hh gg hq => by
          subst hrf
          obtain ⟨q1, q2, q3, q4, q5⟩ := hq
          exact vx_out (fun x hx => (hno hh x hx).elim) hlocks q1 q2 q3 (fun t ht _ => ⟨⟨ci, rfl, q4, q5, rfl⟩, by rw [ht]; exact gg.1.1, gg.1.2.1, gg.1.2.2.2, gg.1.2.2.1.F ht⟩) gg.1.2.2.1.2.2 (Nat.le_refl _) (Nat.le_refl _))
        hcall st hs) (Nat.le_refl _) (Nat.le_refl _)
      have hl := lv_entry (av.map (xm N0 κ)) (n := y.ml) (by rw [xent_len N0 κ hκ]; exact hent)
      rw [lg_entry_eq]
      generalize (lg_sl (av.map (xm N0 κ)) ++ List.replicate (y.ml - (lg_sl (av.map (xm N0 κ))).length) Slot.unset).toArray = ls at hl ⊢
      have Q := P.2 ls s.heap [] ⟨⟨hP1, hP2, va_S.rf, hP3⟩, by rw [hml]; exact xentry_has hκ hl, by
        show (xentry y.ml av).length = _
        unfold xentry
        rw [List.length_append, List.length_replicate, hml]
        omega⟩
      dsimp only at Q
      rw [Nat.sub_self, Nat.sub_self] at Q
      exact Q
    by_cases hh : y.hh = []
    · refine vx_ofW (cc := y.by) (maxL := y.ml) (ret := y.rt) (ws' := []) hoky.1 (by rw [xcw_code hh]) (fun p e s m args below meth c s₁ B hml hno hP => ?_)
      exact walk p e s m args below meth c B.exec B.bytes hml (findClass_of_methodNamed B.named) (name_of_methodNamed B.named B.method).1 B.returns B.notSynchronized (fun z => absurd hh z) (fun _ => hno) hP
    · refine vx_ofWH (cc := y.by) (maxL := y.ml) (ret := y.rt) (hh := xh4 y) (ws' := []) hoky.1 (by rw [xcw_with hh]) (fun p e s m args below meth c s₁ B hml hP => ?_)
      have hts := atoms_spec (ws := [xcw y]) B.pre
      have hw := hts (xcw y) List.mem_cons_self
      rw [xcw_with hh] at hw
      exact walk p e s m args below meth c B.exec B.bytes hml (findClass_of_methodNamed B.named) (name_of_methodNamed B.named B.method).1 B.returns B.notSynchronized (fun _ => vx_table (p := p) (x := y.nm) B hw) (fun z => absurd z hh) hP
end XMETS2
