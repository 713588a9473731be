/-! ===== rows that read or write the heap ===== -/
def xcN (ci : Nat) : String := (xcls.getD ci ("", xTE, 0)).1
def xcT (ci : Nat) : u_T := (xcls.getD ci ("", xTE, 0)).2.1
theorem xcls_get : ∀ ci, ci < 12 → xcls[ci]? = some (xcN ci, xcT ci, xnf ci) := by
  intro ci h
  match ci, h with
  | 0, _ => rfl
  | 1, _ => rfl
  | 2, _ => rfl
  | 3, _ => rfl
  | 4, _ => rfl
  | 5, _ => rfl
  | 6, _ => rfl
  | 7, _ => rfl
  | 8, _ => rfl
  | 9, _ => rfl
  | 10, _ => rfl
  | 11, _ => rfl
theorem xty_ok : ∀ ci, ci < 12 → ∀ k, k < xnf ci → parseFieldDescriptor (xcT ci k).2.2.1 = some (xtyf ci k) := by
  intro ci h
  match ci, h with
  | 0, _ => exact tyX0_ok
  | 1, _ => exact tyX1_ok
  | 2, _ => exact tyX2_ok
  | 3, _ => exact tyX3_ok
  | 4, _ => exact tyX4_ok
  | 5, _ => exact tyX5_ok
  | 6, _ => exact tyX6_ok
  | 7, _ => exact tyX7_ok
  | 8, _ => exact tyX8_ok
  | 9, _ => exact tyX9_ok
  | 10, _ => exact tyX10_ok
  | 11, _ => exact tyX11_ok
theorem xnm_ok : ∀ ci, ci < 12 → ∀ a, a < xnf ci → ∀ b, b < xnf ci → a ≠ b → (xcT ci a).2.1 ≠ (xcT ci b).2.1 := by
  intro ci h
  match ci, h with
  | 0, _ => exact nmX0
  | 1, _ => exact nmX1
  | 2, _ => exact nmX2
  | 3, _ => exact nmX3
  | 4, _ => exact nmX4
  | 5, _ => exact nmX5
  | 6, _ => exact nmX6
  | 7, _ => exact nmX7
  | 8, _ => exact nmX8
  | 9, _ => exact nmX9
  | 10, _ => exact nmX10
  | 11, _ => exact nmX11
def xTs : List Jvm.Cond := lw_tbl.filter xgw
set_option maxRecDepth 100000 in
theorem xin_ok : ∀ ci, ci < 12 → ∀ w ∈ u_ws (xcN ci) (xcT ci) (xnf ci), w ∈ xTs := by
  intro ci h
  match ci, h with
  | 0, _ => decide +kernel
  | 1, _ => decide +kernel
  | 2, _ => decide +kernel
  | 3, _ => decide +kernel
  | 4, _ => decide +kernel
  | 5, _ => decide +kernel
  | 6, _ => decide +kernel
  | 7, _ => decide +kernel
  | 8, _ => decide +kernel
  | 9, _ => decide +kernel
  | 10, _ => decide +kernel
  | 11, _ => decide +kernel

section XHEAP
variable {p : Program} {l : Launch} {e : Env} {R : Room} {s : State} {m : MethodId} {args : Array Value} {below : List Frame} {meth : Method} {c : Code} {Qf : State → Prop}
variable {N0 : Nat} {κ : Nat → Value} {cA : FieldType → ClassId} {D : va_G} {n0 k0 : Nat} {rf : xR} {E : xE} {prog : Nat → xM} {y : xM}
theorem xP_rowH {pc pc' : Nat} {AL : List (Option Value)} {st st' : List Value} {AH AH' : xH} (h : xP p l e R s m args below meth c Qf N0 κ cA D n0 k0 rf (pc', AL, st', AH')) (hz : AH'.2 = AH.2)
    (k : ∀ (ls : Array Slot) (H : Heap) (locs : List Loc), xG s c N0 κ cA D AH AL H locs ls → (∀ (H1 : Heap) (locs1 : List Loc), xG s c N0 κ cA D AH' AL H1 locs1 ls → W p l e R s m args below meth c H1 locs1 (AH.2.1 - n0) (AH.2.2 - k0) Qf (F0 m pc' ls (st'.map (xm N0 κ)))) →
      W p l e R s m args below meth c H locs (AH.2.1 - n0) (AH.2.2 - k0) Qf (F0 m pc ls (st.map (xm N0 κ)))) : xP p l e R s m args below meth c Qf N0 κ cA D n0 k0 rf (pc, AL, st, AH) := by
  intro h1 h2
  have h9 := h (by show n0 ≤ AH'.2.1; rw [hz]; exact h1) (by show k0 ≤ AH'.2.2; rw [hz]; exact h2)
  obtain ⟨h3, h4⟩ := h9
  dsimp only at h3 h4
  rw [hz] at h3 h4
  exact ⟨h3, fun ls H locs g => k ls H locs g (fun H1 locs1 g1 => h4 ls H1 locs1 g1)⟩
theorem xts (hL : xL s args E N0 κ cA D) : ∀ w ∈ xTs, w.before args s = true := fun w hw => hL.1 w (List.mem_filter.mp hw).1 (List.mem_filter.mp hw).2
theorem xm_fok {ty : FieldType} {v : Value} (h : xfok ty v = true) : narrow ty (xm N0 κ v) = xm N0 κ v ∧ fits ty (xm N0 κ v) = true := by
  unfold xfok at h
  split at h <;> first | exact ⟨rfl, rfl⟩ | cases h
/-- a field's link, of the class own, number x -/
def xlkf (own : String) (x ci k : Nat) : Prop := Cond.fieldLink own x (xcT ci k).1 (xcT ci k).2.1 (xcT ci k).2.2.1 ∈ lw_tbl ∨ ∃ host, Cond.fieldLinkNest own x (xcT ci k).1 (xcT ci k).2.1 (xcT ci k).2.2.1 host ∈ lw_tbl
theorem xs_getfield (hL : xL s args E N0 κ cA D) (hx : p.tables.exec = Jvm.exec) (hb : c.code = y.by) {own : String} (hown : s.vm.findClass own = some m.cls) {x : Nat} {len r1 r2 r3 : Nat} {pc : Nat} {AL : List (Option Value)} {st : List Value} {AH : xH} {g : Prop} {st' : xF} (hdg : decode y.by pc = .ok (.getfield x, len)) (e0 : xop E prog y (.getfield x) len r1 r2 r3 (pc, AL, st, AH) = some (g, .inl st')) (hg : g) (hlen : len = 3)
    (hlk : r1 < 12 → r2 < xnf r1 ∧ xlkf own x r1 r2) (hstr : r1 = 1000 → (r2 = 0 ∧ Cond.fieldLink own x xstr "value" "[B" ∈ lw_tbl) ∨ (r2 = 1 ∧ Cond.fieldLink own x xstr "coder" "B" ∈ lw_tbl))
    (h : xP p l e R s m args below meth c Qf N0 κ cA D n0 k0 rf st') : xP p l e R s m args below meth c Qf N0 κ cA D n0 k0 rf (pc, AL, st, AH) := by
  subst hlen
  unfold xop at e0
  dsimp only at e0
  split at e0
  · rename_i a st
    cases e0
    obtain ⟨hg1, hg2⟩ := hg
    obtain ⟨hN, hlk⟩ := hlk hg2
    refine xP_row h (fun ls H locs gg kk => ?_)
    obtain ⟨ha, he⟩ := xfls_at gg.1.2.2.2 hg1 hg2
    have he2 := xws_get (N0 := N0) (κ := κ) (cA := cA) ha
    rw [he] at he2
    have hv : ((xfls AH a r1).map (xm N0 κ))[r2]? = some (xm N0 κ ((xfls AH a r1).getD r2 .null)) := by
      rw [List.getElem?_map, List.getD_eq_getElem?_getD, List.getElem?_eq_getElem hg1]; rfl
    rcases hlk with hlk | ⟨host, hlk⟩
    · exact va_get hx hb (xts hL) (xin_ok r1 hg2) hown hL.2.1 gg.1.1 a he2 (xcls_get r1 hg2) r2 hN (hL.1 _ hlk rfl) (fun _ h9 => h9) hv hdg (kk ls gg)
    · exact va_getN hx hb (xts hL) (xin_ok r1 hg2) hown hL.2.1 gg.1.1 a he2 (xcls_get r1 hg2) r2 hN (hL.1 _ hlk rfl) (fun _ h9 => h9) hv hdg (kk ls gg)
  · rename_i q st
    split at e0
    · rename_i hr
      split at e0
      · rename_i i hi
        unfold xisT at hi
        split at hi
        · rename_i hq
          obtain ⟨ak, av, e1, e2, f1, f2, f3, f4⟩ := hL.2.2.2.2.1 ((q - 100) / 2) (by omega)
          have eq : 100 + 2 * ((q - 100) / 2) = q := by omega
          have eq2 : 101 + 2 * ((q - 100) / 2) = q + 1 := by omega
          rw [eq] at e1
          rw [eq2] at e2
          rcases hstr hr with ⟨z, hl⟩ | ⟨z, hl⟩
          · rw [if_pos z] at e0
            cases e0
            refine xP_row h (fun ls H locs gg kk => ?_)
            have h2 := kk ls gg
            simp only [List.map_cons, xm, e1, e2] at h2 ⊢
            exact vk_getf hx hb f3 gg.1.2.2.1 hown (hL.1 _ hl rfl) (fun _ h9 => h9) hdg h2
          · rw [if_neg (by omega)] at e0
            cases e0
            refine xP_row h (fun ls H locs gg kk => ?_)
            have h2 := kk ls gg
            simp only [List.map_cons, xm, e1] at h2 ⊢
            exact vk_getf hx hb f2 gg.1.2.2.1 hown (hL.1 _ hl rfl) (fun _ h9 => h9) hdg h2
        · cases hi
      · cases e0
    · cases e0
  · cases e0
theorem xG_put {AH : xH} {AL : List (Option Value)} {H H1 : Heap} {locs locs1 : List Loc} {ls : Array Slot} {a : Nat} {cc : xC} (g : xG s c N0 κ cA D AH AL H locs ls) (ha : a < AH.2.1) (h1 : va_P D xcls ((xws N0 κ cA AH).set a (N0 + a, xcv N0 κ cA cc)) H1) (h2 : va_D (xAA N0) ((xws N0 κ cA AH).set a (N0 + a, xcv N0 κ cA cc))) (h3 : va_S (xAA N0) s.heap H1 locs1) : xG s c N0 κ cA D (xset AH a cc) AL H1 locs1 ls :=
  ⟨⟨by rw [xws_set ha]; exact h1, by rw [xws_set ha]; exact h2, h3, xJ_set g.1.2.2.2 ha⟩, g.2⟩
theorem xs_putfield (hL : xL s args E N0 κ cA D) (hx : p.tables.exec = Jvm.exec) (hb : c.code = y.by) {own : String} (hown : s.vm.findClass own = some m.cls) {x : Nat} {len r1 r2 r3 : Nat} {pc : Nat} {AL : List (Option Value)} {st : List Value} {AH : xH} {g : Prop} {st' : xF} (hdg : decode y.by pc = .ok (.putfield x, len)) (e0 : xop E prog y (.putfield x) len r1 r2 r3 (pc, AL, st, AH) = some (g, .inl st')) (hg : g) (hlen : len = 3)
    (hlk : r1 < 12 → r2 < xnf r1 ∧ ((xcT r1 r2).2.2.2 = false ∧ xlkf own x r1 r2 ∨ (xcT r1 r2).2.2.2 = true ∧ meth.name = "<init>" ∧ (xcT r1 r2).1 = own ∧ Cond.fieldLink own x (xcT r1 r2).1 (xcT r1 r2).2.1 (xcT r1 r2).2.2.1 ∈ lw_tbl))
    (h : xP p l e R s m args below meth c Qf N0 κ cA D n0 k0 rf st') : xP p l e R s m args below meth c Qf N0 κ cA D n0 k0 rf (pc, AL, st, AH) := by
  subst hlen
  unfold xop at e0
  dsimp only at e0
  split at e0
  · rename_i v a st
    split at e0
    · rename_i hf
      cases e0
      obtain ⟨hg1, hg2⟩ := hg
      obtain ⟨hN, hlk⟩ := hlk hg2
      refine xP_rowH h rfl (fun ls H locs gg kk => ?_)
      obtain ⟨ha, he⟩ := xfls_at gg.1.2.2.2 hg1 hg2
      have he2 := xws_get (N0 := N0) (κ := κ) (cA := cA) ha
      rw [he] at he2
      obtain ⟨f1, f2⟩ := xm_fok (N0 := N0) (κ := κ) hf
      have hl : r2 < ((xfls AH a r1).map (xm N0 κ)).length := by rw [List.length_map]; exact hg1
      have k2 : ∀ (H1 : Heap) (locs1 : List Loc), va_P D xcls ((xws N0 κ cA AH).set a (N0 + a, .inr (r1, ((xfls AH a r1).map (xm N0 κ)).set r2 (xm N0 κ v)))) H1 → va_D (xAA N0) ((xws N0 κ cA AH).set a (N0 + a, .inr (r1, ((xfls AH a r1).map (xm N0 κ)).set r2 (xm N0 κ v)))) → va_S (xAA N0) s.heap H1 locs1 → W p l e R s m args below meth c H1 locs1 (AH.2.1 - n0) (AH.2.2 - k0) Qf (F0 m (pc + 3) ls (st.map (xm N0 κ))) := by
        intro H1 locs1 q1 q2 q3
        rw [← List.map_set] at q1 q2
        exact kk H1 locs1 (xG_put (cc := .inr (r1, (xfls AH a r1).set r2 v)) gg ha q1 q2 q3)
      rcases hlk with ⟨hfin, hlk | ⟨host, hlk⟩⟩ | ⟨hfin, hin2, hdecl, hlk⟩
      · exact va_put hx hb (xts hL) (xin_ok r1 hg2) (xtyf r1) (xty_ok r1 hg2) (xnm_ok r1 hg2) hown hL.2.1 gg.1.1 gg.1.2.1 gg.1.2.2.1 a he2 (xcls_get r1 hg2) r2 hN (hL.1 _ hlk rfl) (fun _ h9 => h9) hfin (xty_ok r1 hg2 r2 hN) f1 f2 hl hdg k2
      · exact va_putN hx hb (xts hL) (xin_ok r1 hg2) (xtyf r1) (xty_ok r1 hg2) (xnm_ok r1 hg2) hown hL.2.1 gg.1.1 gg.1.2.1 gg.1.2.2.1 a he2 (xcls_get r1 hg2) r2 hN (hL.1 _ hlk rfl) (fun _ h9 => h9) hfin (xty_ok r1 hg2 r2 hN) f1 f2 hl hdg k2
      · exact va_putF hx hb (xts hL) (xin_ok r1 hg2) (xtyf r1) (xty_ok r1 hg2) (xnm_ok r1 hg2) hown hL.2.1 gg.1.1 gg.1.2.1 gg.1.2.2.1 a he2 (xcls_get r1 hg2) r2 hN (hL.1 _ hlk rfl) (fun _ h9 => h9) hfin hin2 hdecl (xty_ok r1 hg2 r2 hN) f1 f2 hl hdg k2
    · cases e0
  · cases e0

theorem xs_iaload (hL : xL s args E N0 κ cA D) (hx : p.tables.exec = Jvm.exec) (hb : c.code = y.by) {len r1 r2 r3 : Nat} {pc : Nat} {AL : List (Option Value)} {st : List Value} {AH : xH} {g : Prop} {st' : xF} (hdg : decode y.by pc = .ok (.iaload, len)) (e0 : xop E prog y (.iaload) len r1 r2 r3 (pc, AL, st, AH) = some (g, .inl st')) (hg : g) (hlen : len = 1)
    (h : xP p l e R s m args below meth c Qf N0 κ cA D n0 k0 rf st') : xP p l e R s m args below meth c Qf N0 κ cA D n0 k0 rf (pc, AL, st, AH) := by
  subst hlen
  unfold xop at e0
  dsimp only at e0
  split at e0
  · rename_i j a st
    cases e0
    refine xP_row h (fun ls H locs gg kk => ?_)
    obtain ⟨ha, he⟩ := xarI_at gg.1.2.2.2 (vp_in_pos hg)
    have he2 := xws_get (N0 := N0) (κ := κ) (cA := cA) ha
    rw [he] at he2
    exact va_iald hx hb hL.2.1 gg.1.1 a 0 he2 rfl hg hdg (kk ls gg)
  · rename_i j q st
    split at e0
    · rename_i hq
      cases e0
      subst hq
      refine xP_row h (fun ls H locs gg kk => ?_)
      obtain ⟨b, b1, b2, b3, b4⟩ := hL.2.2.1
      have h2 := kk ls gg
      simp only [List.map_cons, xm, b1] at h2 ⊢
      exact va_sld hx hb b4 b2 b3 gg.1.2.2.1 hg hdg h2
    · cases e0
  · cases e0

theorem xs_laload (hL : xL s args E N0 κ cA D) (hx : p.tables.exec = Jvm.exec) (hb : c.code = y.by) {len r1 r2 r3 : Nat} {pc : Nat} {AL : List (Option Value)} {st : List Value} {AH : xH} {g : Prop} {st' : xF} (hdg : decode y.by pc = .ok (.laload, len)) (e0 : xop E prog y (.laload) len r1 r2 r3 (pc, AL, st, AH) = some (g, .inl st')) (hg : g) (hlen : len = 1)
    (h : xP p l e R s m args below meth c Qf N0 κ cA D n0 k0 rf st') : xP p l e R s m args below meth c Qf N0 κ cA D n0 k0 rf (pc, AL, st, AH) := by
  subst hlen
  unfold xop at e0
  dsimp only at e0
  split at e0
  · rename_i j a st
    cases e0
    refine xP_row h (fun ls H locs gg kk => ?_)
    obtain ⟨ha, he⟩ := xarJ_at gg.1.2.2.2 (vp_in_pos hg)
    have he2 := xws_get (N0 := N0) (κ := κ) (cA := cA) ha
    rw [he] at he2
    exact va_lald hx hb hL.2.1 gg.1.1 a 1 he2 rfl hg hdg (kk ls gg)
  · cases e0

theorem xs_baload (hL : xL s args E N0 κ cA D) (hx : p.tables.exec = Jvm.exec) (hb : c.code = y.by) {len r1 r2 r3 : Nat} {pc : Nat} {AL : List (Option Value)} {st : List Value} {AH : xH} {g : Prop} {st' : xF} (hdg : decode y.by pc = .ok (.baload, len)) (e0 : xop E prog y (.baload) len r1 r2 r3 (pc, AL, st, AH) = some (g, .inl st')) (hg : g) (hlen : len = 1)
    (h : xP p l e R s m args below meth c Qf N0 κ cA D n0 k0 rf st') : xP p l e R s m args below meth c Qf N0 κ cA D n0 k0 rf (pc, AL, st, AH) := by
  subst hlen
  unfold xop at e0
  dsimp only at e0
  split at e0
  · rename_i j a st
    cases e0
    refine xP_row h (fun ls H locs gg kk => ?_)
    obtain ⟨ha, he⟩ := xarB_at gg.1.2.2.2 (vp_in_pos hg)
    have he2 := xws_get (N0 := N0) (κ := κ) (cA := cA) ha
    rw [he] at he2
    exact va_bald hx hb hL.2.1 gg.1.1 a 2 he2 rfl hg hdg (kk ls gg)
  · rename_i j q st
    split at e0
    · rename_i i hi
      unfold xisB at hi
      split at hi
      · rename_i hq
        cases hi
        cases e0
        obtain ⟨ak, av, e1, e2, f1, f2, f3, f4⟩ := hL.2.2.2.2.1 ((q - 101) / 2) (by omega)
        have eq : 101 + 2 * ((q - 101) / 2) = q := by omega
        rw [eq] at e2
        refine xP_row h (fun ls H locs gg kk => ?_)
        have h2 := kk ls gg
        simp only [List.map_cons, xm, e2] at h2 ⊢
        exact va_tb hx hb f4 gg.1.2.2.1 hg rfl hdg h2
      · cases hi
    · cases e0
  · cases e0

theorem xs_iastore (hL : xL s args E N0 κ cA D) (hx : p.tables.exec = Jvm.exec) (hb : c.code = y.by) {len r1 r2 r3 : Nat} {pc : Nat} {AL : List (Option Value)} {st : List Value} {AH : xH} {g : Prop} {st' : xF} (hdg : decode y.by pc = .ok (.iastore, len)) (e0 : xop E prog y (.iastore) len r1 r2 r3 (pc, AL, st, AH) = some (g, .inl st')) (hg : g) (hlen : len = 1)
    (h : xP p l e R s m args below meth c Qf N0 κ cA D n0 k0 rf st') : xP p l e R s m args below meth c Qf N0 κ cA D n0 k0 rf (pc, AL, st, AH) := by
  subst hlen
  unfold xop at e0
  dsimp only at e0
  split at e0
  · rename_i v j a st
    cases e0
    refine xP_rowH h rfl (fun ls H locs gg kk => ?_)
    obtain ⟨ha, he⟩ := xarI_at gg.1.2.2.2 (vp_in_pos hg)
    have he2 := xws_get (N0 := N0) (κ := κ) (cA := cA) ha
    rw [he] at he2
    exact va_iast hx hb hL.2.1 gg.1.1 gg.1.2.1 gg.1.2.2.1 a 0 he2 rfl hg hdg (fun H1 locs1 q1 q2 q3 => kk H1 locs1 (xG_put (cc := xarI (xlenI AH a) (upd (xfnI AH a) j.toNatClampNeg v)) gg ha q1 q2 q3))
  · cases e0

theorem xs_lastore (hL : xL s args E N0 κ cA D) (hx : p.tables.exec = Jvm.exec) (hb : c.code = y.by) {len r1 r2 r3 : Nat} {pc : Nat} {AL : List (Option Value)} {st : List Value} {AH : xH} {g : Prop} {st' : xF} (hdg : decode y.by pc = .ok (.lastore, len)) (e0 : xop E prog y (.lastore) len r1 r2 r3 (pc, AL, st, AH) = some (g, .inl st')) (hg : g) (hlen : len = 1)
    (h : xP p l e R s m args below meth c Qf N0 κ cA D n0 k0 rf st') : xP p l e R s m args below meth c Qf N0 κ cA D n0 k0 rf (pc, AL, st, AH) := by
  subst hlen
  unfold xop at e0
  dsimp only at e0
  split at e0
  · rename_i v j a st
    cases e0
    refine xP_rowH h rfl (fun ls H locs gg kk => ?_)
    obtain ⟨ha, he⟩ := xarJ_at gg.1.2.2.2 (vp_in_pos hg)
    have he2 := xws_get (N0 := N0) (κ := κ) (cA := cA) ha
    rw [he] at he2
    exact va_last hx hb hL.2.1 gg.1.1 gg.1.2.1 gg.1.2.2.1 a 1 he2 rfl hg hdg (fun H1 locs1 q1 q2 q3 => kk H1 locs1 (xG_put (cc := xarJ (xlenJ AH a) (vp_updL (xfnJ AH a) j.toNatClampNeg v)) gg ha q1 q2 q3))
  · cases e0

theorem xs_bastore (hL : xL s args E N0 κ cA D) (hx : p.tables.exec = Jvm.exec) (hb : c.code = y.by) {len r1 r2 r3 : Nat} {pc : Nat} {AL : List (Option Value)} {st : List Value} {AH : xH} {g : Prop} {st' : xF} (hdg : decode y.by pc = .ok (.bastore, len)) (e0 : xop E prog y (.bastore) len r1 r2 r3 (pc, AL, st, AH) = some (g, .inl st')) (hg : g) (hlen : len = 1)
    (h : xP p l e R s m args below meth c Qf N0 κ cA D n0 k0 rf st') : xP p l e R s m args below meth c Qf N0 κ cA D n0 k0 rf (pc, AL, st, AH) := by
  subst hlen
  unfold xop at e0
  dsimp only at e0
  split at e0
  · rename_i v j a st
    cases e0
    refine xP_rowH h rfl (fun ls H locs gg kk => ?_)
    obtain ⟨ha, he⟩ := xarB_at gg.1.2.2.2 (vp_in_pos hg)
    have he2 := xws_get (N0 := N0) (κ := κ) (cA := cA) ha
    rw [he] at he2
    exact va_bast hx hb hL.2.1 gg.1.1 gg.1.2.1 gg.1.2.2.1 a 2 he2 rfl hg hdg (fun H1 locs1 q1 q2 q3 => kk H1 locs1 (xG_put (cc := xarB (xlenB AH a) (upd (xfnB AH a) j.toNatClampNeg (vp_nar .byte v))) gg ha q1 q2 q3))
  · cases e0

theorem xs_aaload (hL : xL s args E N0 κ cA D) (hx : p.tables.exec = Jvm.exec) (hb : c.code = y.by) {len r1 r2 r3 : Nat} {pc : Nat} {AL : List (Option Value)} {st : List Value} {AH : xH} {g : Prop} {st' : xF} (hdg : decode y.by pc = .ok (.aaload, len)) (e0 : xop E prog y (.aaload) len r1 r2 r3 (pc, AL, st, AH) = some (g, .inl st')) (hg : g) (hlen : len = 1)
    (h : xP p l e R s m args below meth c Qf N0 κ cA D n0 k0 rf st') : xP p l e R s m args below meth c Qf N0 κ cA D n0 k0 rf (pc, AL, st, AH) := by
  subst hlen
  unfold xop at e0
  dsimp only at e0
  split at e0
  · rename_i j q st
    split at e0
    · rename_i hq
      subst hq
      cases e0
      refine xP_row h (fun ls H locs gg kk => ?_)
      obtain ⟨t, z4, z5⟩ := hL.2.2.2.1.2.2.2
      have h2 := kk ls gg
      simp only [List.map_cons, xm, z4] at h2 ⊢
      exact vb_tq hx hb z5 gg.1.2.2.1 hg rfl hdg h2
    · cases e0
  · cases e0

theorem xs_arraylength (hL : xL s args E N0 κ cA D) (hx : p.tables.exec = Jvm.exec) (hb : c.code = y.by) {len r1 r2 r3 : Nat} {pc : Nat} {AL : List (Option Value)} {st : List Value} {AH : xH} {g : Prop} {st' : xF} (hdg : decode y.by pc = .ok (.arraylength, len)) (e0 : xop E prog y (.arraylength) len r1 r2 r3 (pc, AL, st, AH) = some (g, .inl st')) (hg : g) (hlen : len = 1)
    (h : xP p l e R s m args below meth c Qf N0 κ cA D n0 k0 rf st') : xP p l e R s m args below meth c Qf N0 κ cA D n0 k0 rf (pc, AL, st, AH) := by
  subst hlen
  unfold xop at e0
  dsimp only at e0
  split at e0
  · rename_i a st
    split at e0
    · rename_i n hn
      cases e0
      refine xP_row h (fun ls H locs gg kk => ?_)
      obtain ⟨ha, ty, x, h1, h2, h3⟩ := xlen_at gg.1.2.2.2 hn
      have he2 := xws_get (N0 := N0) (κ := κ) (cA := cA) ha
      rw [h2] at he2
      rcases h1 with rfl | rfl | rfl
      · exact va_alen hx hb hL.2.1 gg.1.1 a 0 he2 rfl (by rw [h3]; rfl) hdg (kk ls gg)
      · exact va_alen hx hb hL.2.1 gg.1.1 a 1 he2 rfl (by rw [h3]; rfl) hdg (kk ls gg)
      · exact va_alen hx hb hL.2.1 gg.1.1 a 2 he2 rfl (by rw [h3]; rfl) hdg (kk ls gg)
    · cases e0
  · rename_i q st
    split at e0
    · rename_i hq
      subst hq
      cases e0
      refine xP_row h (fun ls H locs gg kk => ?_)
      obtain ⟨b, b1, b2, b3, b4⟩ := hL.2.2.1
      have h2 := kk ls gg
      simp only [List.map_cons, xm, b1] at h2 ⊢
      exact va_slen hx hb b4 b2 b3 gg.1.2.2.1 hdg h2
    · split at e0
      · rename_i hq
        subst hq
        cases e0
        refine xP_row h (fun ls H locs gg kk => ?_)
        obtain ⟨t, z4, z5⟩ := hL.2.2.2.1.2.2.2
        have h2 := kk ls gg
        simp only [List.map_cons, xm, z4] at h2 ⊢
        exact va_tlen hx hb z5 gg.1.2.2.1 rfl hdg h2
      · split at e0
        · rename_i i hi
          unfold xisB at hi
          split at hi
          · rename_i hq
            cases hi
            cases e0
            obtain ⟨ak, av, e1, e2, f1, f2, f3, f4⟩ := hL.2.2.2.2.1 ((q - 101) / 2) (by omega)
            have eq : 101 + 2 * ((q - 101) / 2) = q := by omega
            rw [eq] at e2
            refine xP_row h (fun ls H locs gg kk => ?_)
            have h2 := kk ls gg
            simp only [List.map_cons, xm, e2] at h2 ⊢
            exact va_tlen hx hb f4 gg.1.2.2.1 rfl hdg h2
          · cases hi
        · cases e0
  · cases e0

theorem xs_ldc2_w (hL : xL s args E N0 κ cA D) (hx : p.tables.exec = Jvm.exec) (hb : c.code = y.by) {own : String} (hown : s.vm.findClass own = some m.cls) {x : Nat} {len r1 r2 r3 : Nat} {pc : Nat} {AL : List (Option Value)} {st : List Value} {AH : xH} {g : Prop} {st' : xF} (hdg : decode y.by pc = .ok (.ldc2_w x, len)) (e0 : xop E prog y (.ldc2_w x) len r1 r2 r3 (pc, AL, st, AH) = some (g, .inl st')) (hg : g) (hlen : len = 3) (hw : Cond.constantLong own x (Int64.ofNat r2) ∈ lw_tbl)
    (h : xP p l e R s m args below meth c Qf N0 κ cA D n0 k0 rf st') : xP p l e R s m args below meth c Qf N0 κ cA D n0 k0 rf (pc, AL, st, AH) := by
  subst hlen
  unfold xop at e0
  dsimp only at e0
  cases e0
  exact xP_row h (fun ls H locs gg kk => lv_ldc2 hx hb hown (hL.1 _ hw rfl) hdg (kk ls gg))
theorem xs_ldc (hL : xL s args E N0 κ cA D) (hx : p.tables.exec = Jvm.exec) (hb : c.code = y.by) {own : String} (hown : s.vm.findClass own = some m.cls) {x : Nat} {len r1 r2 r3 : Nat} {pc : Nat} {AL : List (Option Value)} {st : List Value} {AH : xH} {g : Prop} {st' : xF} (hdg : decode y.by pc = .ok (.ldc x, len)) (e0 : xop E prog y (.ldc x) len r1 r2 r3 (pc, AL, st, AH) = some (g, .inl st')) (hg : g) (hlen : len = 2) (hw : own = RX7 ∧ (x = 29 ∧ r2 = 152 ∨ x = 90 ∧ r2 = 154))
    (h : xP p l e R s m args below meth c Qf N0 κ cA D n0 k0 rf st') : xP p l e R s m args below meth c Qf N0 κ cA D n0 k0 rf (pc, AL, st, AH) := by
  subst hlen
  unfold xop at e0
  dsimp only at e0
  cases e0
  obtain ⟨rfl, ⟨rfl, rfl⟩ | ⟨rfl, rfl⟩⟩ := hw
  · refine xP_row h (fun ls H locs gg kk => ?_)
    obtain ⟨q, q1, q2⟩ := hL.2.2.2.2.2.1.1
    have h2 := kk ls gg
    simp only [List.map_cons, xm, q1] at h2 ⊢
    exact va_ldcS hx hb hown q2 hdg h2
  · refine xP_row h (fun ls H locs gg kk => ?_)
    obtain ⟨q, q1, q2⟩ := hL.2.2.2.2.2.1.2
    have h2 := kk ls gg
    simp only [List.map_cons, xm, q1] at h2 ⊢
    exact va_ldcS hx hb hown q2 hdg h2
theorem xs_getstatic (hL : xL s args E N0 κ cA D) (hx : p.tables.exec = Jvm.exec) (hb : c.code = y.by) {own : String} (hown : s.vm.findClass own = some m.cls) {x : Nat} {len r1 r2 r3 : Nat} {pc : Nat} {AL : List (Option Value)} {st : List Value} {AH : xH} {g : Prop} {st' : xF} (hdg : decode y.by pc = .ok (.getstatic x, len)) (e0 : xop E prog y (.getstatic x) len r1 r2 r3 (pc, AL, st, AH) = some (g, .inl st')) (hg : g) (hlen : len = 3) (hw : r1 = 0 ∧ Cond.fieldLink own x xstr "COMPACT_STRINGS" "Z" ∈ lw_tbl ∨ r1 = 2 ∧ Cond.fieldLink own x "jdk/internal/util/Preconditions" "SIOOBE_FORMATTER" "Ljava/util/function/BiFunction;" ∈ lw_tbl ∨ r1 = 1 ∧ Cond.fieldLinkNest own x "TeaRegattaModel" "WORDS" "[Ljava/lang/String;" "TeaRegattaModel" ∈ lw_tbl)
    (h : xP p l e R s m args below meth c Qf N0 κ cA D n0 k0 rf st') : xP p l e R s m args below meth c Qf N0 κ cA D n0 k0 rf (pc, AL, st, AH) := by
  subst hlen
  unfold xop at e0
  dsimp only at e0
  obtain ⟨z1, z2, z3, -⟩ := hL.2.2.2.1
  rcases hw with ⟨rfl, hl⟩ | ⟨rfl, hl⟩ | ⟨rfl, hl⟩
  · rw [if_pos rfl] at e0
    cases e0
    exact xP_row h (fun ls H locs gg kk => va_gets hx hb z1 gg.1.2.2.1 hown (hL.1 _ hl rfl) (fun _ h9 => h9) hdg (kk ls gg))
  · rw [if_neg (by decide)] at e0
    cases e0
    exact xP_row h (fun ls H locs gg kk => va_gets hx hb z2 gg.1.2.2.1 hown (hL.1 _ hl rfl) (fun _ h9 => h9) hdg (kk ls gg))
  · rw [if_neg (by decide)] at e0
    cases e0
    exact xP_row h (fun ls H locs gg kk => va_getsN hx hb z3 gg.1.2.2.1 hown (hL.1 _ hl rfl) (fun _ h9 => h9) hdg (kk ls gg))
end XHEAP
