/-! ===== rows that read or write the heap ===== -/
def xcN (ci : Nat) : String := (xcls.getD ci ("", xTE, 0)).1
def xcT (ci : Nat) : u_T := (xcls.getD ci ("", xTE, 0)).2.1
theorem xcls_get : ∀ ci, ci < 13 → xcls[ci]? = some (xcN ci, xcT ci, xnf ci) := by
  intro ci h
  match ci, h with
  | 0, _ => rfl
  | 1, _ => rfl
  | 2, _ => rfl
  | 3, _ => rfl
  | 4, _ => rfl
  | 5, _ => rfl
  | 6, _ => rfl
  | 7, _ => rfl
  | 8, _ => rfl
  | 9, _ => rfl
  | 10, _ => rfl
  | 11, _ => rfl
  | 12, _ => rfl
theorem xty_ok : ∀ ci, ci < 13 → ∀ k, k < xnf ci → parseFieldDescriptor (xcT ci k).2.2.1 = some (xtyf ci k) := by
  intro ci h
  match ci, h with
  | 0, _ => exact tyX0_ok
  | 1, _ => exact tyX1_ok
  | 2, _ => exact tyX2_ok
  | 3, _ => exact tyX3_ok
  | 4, _ => exact tyX4_ok
  | 5, _ => exact tyX5_ok
  | 6, _ => exact tyX6_ok
  | 7, _ => exact tyX7_ok
  | 8, _ => exact tyX8_ok
  | 9, _ => exact tyX9_ok
  | 10, _ => exact tyX10_ok
  | 11, _ => exact tyJ4_ok
  | 12, _ => exact tyJ0_ok
theorem xnm_ok : ∀ ci, ci < 13 → ∀ a, a < xnf ci → ∀ b, b < xnf ci → a ≠ b → (xcT ci a).2.1 ≠ (xcT ci b).2.1 := by
  intro ci h
  match ci, h with
  | 0, _ => exact nmX0
  | 1, _ => exact nmX1
  | 2, _ => exact nmX2
  | 3, _ => exact nmX3
  | 4, _ => exact nmX4
  | 5, _ => exact nmX5
  | 6, _ => exact nmX6
  | 7, _ => exact nmX7
  | 8, _ => exact nmX8
  | 9, _ => exact nmX9
  | 10, _ => exact nmX10
  | 11, _ => exact nmJ4
  | 12, _ => exact nmJ0
def xTs : List Jvm.Cond := lw_tbl.filter xgw
set_option maxRecDepth 100000 in
theorem xin_ok : ∀ ci, ci < 13 → ∀ w ∈ u_ws (xcN ci) (xcT ci) (xnf ci), w ∈ xTs := by
  intro ci h
  match ci, h with
  | 0, _ => decide +kernel
  | 1, _ => decide +kernel
  | 2, _ => decide +kernel
  | 3, _ => decide +kernel
  | 4, _ => decide +kernel
  | 5, _ => decide +kernel
  | 6, _ => decide +kernel
  | 7, _ => decide +kernel
  | 8, _ => decide +kernel
  | 9, _ => decide +kernel
  | 10, _ => decide +kernel
  | 11, _ => decide +kernel
  | 12, _ => decide +kernel

section XHEAP
variable {p : Program} {l : Launch} {e : Env} {R : Room} {s : State} {m : MethodId} {args : Array Value} {below : List Frame} {meth : Method} {c : Code} {Qf : State → Prop}
variable {N0 : Nat} {κ : Nat → Value} {cA : FieldType → ClassId} {D : va_G} {n0 k0 : Nat} {rf : xR} {E : xE} {prog : Nat → xM} {y : xM}
theorem xP_rowH {pc pc' : Nat} {AL : List (Option Value)} {st st' : List Value} {AH AH' : xH} (h : xP p l e R s m args below meth c Qf N0 κ cA D n0 k0 rf (pc', AL, st', AH')) (hz : AH'.2 = AH.2)
    (k : ∀ (ls : Array Slot) (H : Heap) (locs : List Loc), xG s c N0 κ cA D AH AL H locs ls → (∀ (H1 : Heap) (locs1 : List Loc), xG s c N0 κ cA D AH' AL H1 locs1 ls → W p l e R s m args below meth c H1 locs1 (AH.2.1 - n0) (AH.2.2 - k0) Qf (F0 m pc' ls (st'.map (xm N0 κ)))) →
      W p l e R s m args below meth c H locs (AH.2.1 - n0) (AH.2.2 - k0) Qf (F0 m pc ls (st.map (xm N0 κ)))) : xP p l e R s m args below meth c Qf N0 κ cA D n0 k0 rf (pc, AL, st, AH) := by
  intro h1 h2
  have h9 := h (by show n0 ≤ AH'.2.1; rw [hz]; exact h1) (by show k0 ≤ AH'.2.2; rw [hz]; exact h2)
  obtain ⟨h3, h4⟩ := h9
  dsimp only at h3 h4
  rw [hz] at h3 h4
  exact ⟨h3, fun ls H locs g => k ls H locs g (fun H1 locs1 g1 => h4 ls H1 locs1 g1)⟩
theorem xts (hL : xL s args E N0 κ cA D) : ∀ w ∈ xTs, w.before args s = true := fun w hw => hL.1 w (List.mem_filter.mp hw).1 (List.mem_filter.mp hw).2
theorem xm_fok {ty : FieldType} {v : Value} (h : xfok ty v = true) (h2 : xfg ty v) : narrow ty (xm N0 κ v) = xm N0 κ v ∧ fits ty (xm N0 κ v) = true := by
  unfold xfok at h
  split at h
  · exact ⟨rfl, rfl⟩
  · exact ⟨rfl, rfl⟩
  · exact ⟨rfl, rfl⟩
  · exact ⟨rfl, rfl⟩
  · have h3 : _ = (0 : Int32) := h2
    subst h3; exact ⟨rfl, rfl⟩
  · have h3 : _ = (0 : Int32) := h2
    subst h3; exact ⟨rfl, rfl⟩
  · cases h
/-- a field's link, of the class own, number x -/
def xlkf (own : String) (x ci k : Nat) : Prop := Cond.fieldLink own x (xcT ci k).1 (xcT ci k).2.1 (xcT ci k).2.2.1 ∈ lw_tbl ∨ ∃ host, Cond.fieldLinkNest own x (xcT ci k).1 (xcT ci k).2.1 (xcT ci k).2.2.1 host ∈ lw_tbl
theorem xs_getfield (hL : xL s args E N0 κ cA D) (hx : p.tables.exec = Jvm.exec) (hb : c.code = y.by) {own : String} (hown : s.vm.findClass own = some m.cls) {x : Nat} {len r1 r2 r3 : Nat} {pc : Nat} {AL : List (Option Value)} {st : List Value} {AH : xH} {g : Prop} {st' : xF} (hdg : decode y.by pc = .ok (.getfield x, len)) (e0 : xop E prog y (.getfield x) len r1 r2 r3 (pc, AL, st, AH) = some (g, .inl st')) (hg : g) (hlen : len = 3)
    (hlk : r1 < 13 → r2 < xnf r1 ∧ xlkf own x r1 r2) (hstr : r1 = 12 → (r2 = 0 ∧ Cond.fieldLink own x xstr "value" "[B" ∈ lw_tbl) ∨ (r2 = 1 ∧ Cond.fieldLink own x xstr "coder" "B" ∈ lw_tbl))
    (h : xP p l e R s m args below meth c Qf N0 κ cA D n0 k0 rf st') : xP p l e R s m args below meth c Qf N0 κ cA D n0 k0 rf (pc, AL, st, AH) := by
  subst hlen
  unfold xop at e0
  dsimp only at e0
  split at e0
  · rename_i a st
    cases e0
    obtain ⟨hg1, hg2⟩ := hg
    obtain ⟨hN, hlk⟩ := hlk hg2
    refine xP_row h (fun ls H locs gg kk => ?_)
    obtain ⟨ha, he⟩ := xfls_at gg.1.2.2.2 hg1 hg2
    have he2 := xws_get (N0 := N0) (κ := κ) (cA := cA) ha
    rw [he] at he2
    have hv : ((xfls AH a r1).map (xm N0 κ))[r2]? = some (xm N0 κ ((xfls AH a r1).getD r2 .null)) := by
      rw [List.getElem?_map, List.getD_eq_getElem?_getD, List.getElem?_eq_getElem hg1]; rfl
    rcases hlk with hlk | ⟨host, hlk⟩
    · exact va_get hx hb (xts hL) (xin_ok r1 hg2) hown hL.2.1 gg.1.1 a he2 (xcls_get r1 hg2) r2 hN (hL.1 _ hlk rfl) (fun _ h9 => h9) hv hdg (kk ls gg)
    · exact va_getN hx hb (xts hL) (xin_ok r1 hg2) hown hL.2.1 gg.1.1 a he2 (xcls_get r1 hg2) r2 hN (hL.1 _ hlk rfl) (fun _ h9 => h9) hv hdg (kk ls gg)
  · rename_i q st
    split at e0
    · rename_i hr
      split at e0
      · rename_i i hi
        unfold xisT at hi
        split at hi
        · rename_i hq
          obtain ⟨ak, av, e1, e2, f1, f2, f3, f4⟩ := hL.2.2.2.2.1 ((q - 100) / 2) (by omega)
          have eq : 100 + 2 * ((q - 100) / 2) = q := by omega
          have eq2 : 101 + 2 * ((q - 100) / 2) = q + 1 := by omega
          rw [eq] at e1
          rw [eq2] at e2
          rcases hstr hr with ⟨z, hl⟩ | ⟨z, hl⟩
          · rw [if_pos z] at e0
            cases e0
            refine xP_row h (fun ls H locs gg kk => ?_)
            have h2 := kk ls gg
            simp only [List.map_cons, xm, e1, e2] at h2 ⊢
            exact vk_getf hx hb f3 gg.1.2.2.1 hown (hL.1 _ hl rfl) (fun _ h9 => h9) hdg h2
          · rw [if_neg (by omega)] at e0
            cases e0
            refine xP_row h (fun ls H locs gg kk => ?_)
            have h2 := kk ls gg
            simp only [List.map_cons, xm, e1] at h2 ⊢
            exact vk_getf hx hb f2 gg.1.2.2.1 hown (hL.1 _ hl rfl) (fun _ h9 => h9) hdg h2
        · cases hi
      · cases e0
    · cases e0
  · cases e0
theorem xG_put {AH : xH} {AL : List (Option Value)} {H H1 : Heap} {locs locs1 : List Loc} {ls : Array Slot} {a : Nat} {cc : xC} (g : xG s c N0 κ cA D AH AL H locs ls) (ha : a < AH.2.1) (h1 : va_P D xcls ((xws N0 κ cA AH).set a (N0 + a, xcv N0 κ cA cc)) H1) (h2 : va_D (xAA N0) ((xws N0 κ cA AH).set a (N0 + a, xcv N0 κ cA cc))) (h3 : va_S (xAA N0) s.heap H1 locs1) : xG s c N0 κ cA D (xset AH a cc) AL H1 locs1 ls :=
  ⟨⟨by rw [xws_set ha]; exact h1, by rw [xws_set ha]; exact h2, h3, xJ_set g.1.2.2.2 ha⟩, g.2⟩
theorem xs_putfield (hL : xL s args E N0 κ cA D) (hx : p.tables.exec = Jvm.exec) (hb : c.code = y.by) {own : String} (hown : s.vm.findClass own = some m.cls) {x : Nat} {len r1 r2 r3 : Nat} {pc : Nat} {AL : List (Option Value)} {st : List Value} {AH : xH} {g : Prop} {st' : xF} (hdg : decode y.by pc = .ok (.putfield x, len)) (e0 : xop E prog y (.putfield x) len r1 r2 r3 (pc, AL, st, AH) = some (g, .inl st')) (hg : g) (hlen : len = 3)
    (hlk : r1 < 13 → r2 < xnf r1 ∧ ((xcT r1 r2).2.2.2 = false ∧ xlkf own x r1 r2 ∨ (xcT r1 r2).2.2.2 = true ∧ meth.name = "<init>" ∧ (xcT r1 r2).1 = own ∧ Cond.fieldLink own x (xcT r1 r2).1 (xcT r1 r2).2.1 (xcT r1 r2).2.2.1 ∈ lw_tbl))
    (h : xP p l e R s m args below meth c Qf N0 κ cA D n0 k0 rf st') : xP p l e R s m args below meth c Qf N0 κ cA D n0 k0 rf (pc, AL, st, AH) := by
  subst hlen
  unfold xop at e0
  dsimp only at e0
  split at e0
  · rename_i v a st
    split at e0
    · rename_i hf
      cases e0
      obtain ⟨hg1, hg2, hg3⟩ := hg
      obtain ⟨hN, hlk⟩ := hlk hg2
      refine xP_rowH h rfl (fun ls H locs gg kk => ?_)
      obtain ⟨ha, he⟩ := xfls_at gg.1.2.2.2 hg1 hg2
      have he2 := xws_get (N0 := N0) (κ := κ) (cA := cA) ha
      rw [he] at he2
      obtain ⟨f1, f2⟩ := xm_fok (N0 := N0) (κ := κ) hf hg3
      have hl : r2 < ((xfls AH a r1).map (xm N0 κ)).length := by rw [List.length_map]; exact hg1
      have k2 : ∀ (H1 : Heap) (locs1 : List Loc), va_P D xcls ((xws N0 κ cA AH).set a (N0 + a, .inr (r1, ((xfls AH a r1).map (xm N0 κ)).set r2 (xm N0 κ v)))) H1 → va_D (xAA N0) ((xws N0 κ cA AH).set a (N0 + a, .inr (r1, ((xfls AH a r1).map (xm N0 κ)).set r2 (xm N0 κ v)))) → va_S (xAA N0) s.heap H1 locs1 → W p l e R s m args below meth c H1 locs1 (AH.2.1 - n0) (AH.2.2 - k0) Qf (F0 m (pc + 3) ls (st.map (xm N0 κ))) := by
        intro H1 locs1 q1 q2 q3
        rw [← List.map_set] at q1 q2
        exact kk H1 locs1 (xG_put (cc := .inr (r1, (xfls AH a r1).set r2 v)) gg ha q1 q2 q3)
      rcases hlk with ⟨hfin, hlk | ⟨host, hlk⟩⟩ | ⟨hfin, hin2, hdecl, hlk⟩
      · exact va_put hx hb (xts hL) (xin_ok r1 hg2) (xtyf r1) (xty_ok r1 hg2) (xnm_ok r1 hg2) hown hL.2.1 gg.1.1 gg.1.2.1 gg.1.2.2.1 a he2 (xcls_get r1 hg2) r2 hN (hL.1 _ hlk rfl) (fun _ h9 => h9) hfin (xty_ok r1 hg2 r2 hN) f1 f2 hl hdg k2
      · exact va_putN hx hb (xts hL) (xin_ok r1 hg2) (xtyf r1) (xty_ok r1 hg2) (xnm_ok r1 hg2) hown hL.2.1 gg.1.1 gg.1.2.1 gg.1.2.2.1 a he2 (xcls_get r1 hg2) r2 hN (hL.1 _ hlk rfl) (fun _ h9 => h9) hfin (xty_ok r1 hg2 r2 hN) f1 f2 hl hdg k2
      · exact va_putF hx hb (xts hL) (xin_ok r1 hg2) (xtyf r1) (xty_ok r1 hg2) (xnm_ok r1 hg2) hown hL.2.1 gg.1.1 gg.1.2.1 gg.1.2.2.1 a he2 (xcls_get r1 hg2) r2 hN (hL.1 _ hlk rfl) (fun _ h9 => h9) hfin hin2 hdecl (xty_ok r1 hg2 r2 hN) f1 f2 hl hdg k2
    · cases e0
  · cases e0

theorem xs_iaload (hL : xL s args E N0 κ cA D) (hx : p.tables.exec = Jvm.exec) (hb : c.code = y.by) {len r1 r2 r3 : Nat} {pc : Nat} {AL : List (Option Value)} {st : List Value} {AH : xH} {g : Prop} {st' : xF} (hdg : decode y.by pc = .ok (.iaload, len)) (e0 : xop E prog y (.iaload) len r1 r2 r3 (pc, AL, st, AH) = some (g, .inl st')) (hg : g) (hlen : len = 1)
    (h : xP p l e R s m args below meth c Qf N0 κ cA D n0 k0 rf st') : xP p l e R s m args below meth c Qf N0 κ cA D n0 k0 rf (pc, AL, st, AH) := by
  subst hlen
  unfold xop at e0
  dsimp only at e0
  split at e0
  · rename_i j a st
    cases e0
    refine xP_row h (fun ls H locs gg kk => ?_)
    obtain ⟨ha, he⟩ := xarI_at gg.1.2.2.2 (vp_in_pos hg)
    have he2 := xws_get (N0 := N0) (κ := κ) (cA := cA) ha
    rw [he] at he2
    exact va_iald hx hb hL.2.1 gg.1.1 a 0 he2 rfl hg hdg (kk ls gg)
  · rename_i j q st
    split at e0
    · rename_i hq
      cases e0
      subst hq
      refine xP_row h (fun ls H locs gg kk => ?_)
      obtain ⟨b, b1, b2, b3, b4⟩ := hL.2.2.1
      have h2 := kk ls gg
      simp only [List.map_cons, xm, b1] at h2 ⊢
      exact va_sld hx hb b4 b2 b3 gg.1.2.2.1 hg hdg h2
    · cases e0
  · cases e0

theorem xs_laload (hL : xL s args E N0 κ cA D) (hx : p.tables.exec = Jvm.exec) (hb : c.code = y.by) {len r1 r2 r3 : Nat} {pc : Nat} {AL : List (Option Value)} {st : List Value} {AH : xH} {g : Prop} {st' : xF} (hdg : decode y.by pc = .ok (.laload, len)) (e0 : xop E prog y (.laload) len r1 r2 r3 (pc, AL, st, AH) = some (g, .inl st')) (hg : g) (hlen : len = 1)
    (h : xP p l e R s m args below meth c Qf N0 κ cA D n0 k0 rf st') : xP p l e R s m args below meth c Qf N0 κ cA D n0 k0 rf (pc, AL, st, AH) := by
  subst hlen
  unfold xop at e0
  dsimp only at e0
  split at e0
  · rename_i j a st
    cases e0
    refine xP_row h (fun ls H locs gg kk => ?_)
    obtain ⟨ha, he⟩ := xarJ_at gg.1.2.2.2 (vp_in_pos hg)
    have he2 := xws_get (N0 := N0) (κ := κ) (cA := cA) ha
    rw [he] at he2
    exact va_lald hx hb hL.2.1 gg.1.1 a 1 he2 rfl hg hdg (kk ls gg)
  · cases e0

theorem xs_baload (hL : xL s args E N0 κ cA D) (hx : p.tables.exec = Jvm.exec) (hb : c.code = y.by) {len r1 r2 r3 : Nat} {pc : Nat} {AL : List (Option Value)} {st : List Value} {AH : xH} {g : Prop} {st' : xF} (hdg : decode y.by pc = .ok (.baload, len)) (e0 : xop E prog y (.baload) len r1 r2 r3 (pc, AL, st, AH) = some (g, .inl st')) (hg : g) (hlen : len = 1)
    (h : xP p l e R s m args below meth c Qf N0 κ cA D n0 k0 rf st') : xP p l e R s m args below meth c Qf N0 κ cA D n0 k0 rf (pc, AL, st, AH) := by
  subst hlen
  unfold xop at e0
  dsimp only at e0
  split at e0
  · rename_i j a st
    cases e0
    refine xP_row h (fun ls H locs gg kk => ?_)
    obtain ⟨ha, he⟩ := xarB_at gg.1.2.2.2 (vp_in_pos hg)
    have he2 := xws_get (N0 := N0) (κ := κ) (cA := cA) ha
    rw [he] at he2
    exact va_bald hx hb hL.2.1 gg.1.1 a 2 he2 rfl hg hdg (kk ls gg)
  · rename_i j q st
    obtain ⟨z1, z2, z3, z4, z5, z6⟩ := hL.2.2.2.1
    split at e0
    · rename_i hq
      subst hq
      cases e0
      obtain ⟨t5, w1, w2⟩ := z5.2
      refine xP_row h (fun ls H locs gg kk => ?_)
      have h2 := kk ls gg
      simp only [List.map_cons, xm, w1] at h2 ⊢
      exact va_tb hx hb w2 gg.1.2.2.1 hg rfl hdg h2
    · split at e0
      · rename_i hq
        subst hq
        cases e0
        obtain ⟨t5, w1, w2⟩ := z6.2
        refine xP_row h (fun ls H locs gg kk => ?_)
        have h2 := kk ls gg
        simp only [List.map_cons, xm, w1] at h2 ⊢
        exact va_tb hx hb w2 gg.1.2.2.1 hg rfl hdg h2
      · split at e0
        · rename_i i hi
          unfold xisB at hi
          split at hi
          · rename_i hq
            cases hi
            cases e0
            obtain ⟨ak, av, e1, e2, f1, f2, f3, f4⟩ := hL.2.2.2.2.1 ((q - 101) / 2) (by omega)
            have eq : 101 + 2 * ((q - 101) / 2) = q := by omega
            rw [eq] at e2
            refine xP_row h (fun ls H locs gg kk => ?_)
            have h2 := kk ls gg
            simp only [List.map_cons, xm, e2] at h2 ⊢
            exact va_tb hx hb f4 gg.1.2.2.1 hg rfl hdg h2
          · cases hi
        · cases e0
  · cases e0

theorem xs_iastore (hL : xL s args E N0 κ cA D) (hx : p.tables.exec = Jvm.exec) (hb : c.code = y.by) {len r1 r2 r3 : Nat} {pc : Nat} {AL : List (Option Value)} {st : List Value} {AH : xH} {g : Prop} {st' : xF} (hdg : decode y.by pc = .ok (.iastore, len)) (e0 : xop E prog y (.iastore) len r1 r2 r3 (pc, AL, st, AH) = some (g, .inl st')) (hg : g) (hlen : len = 1)
    (h : xP p l e R s m args below meth c Qf N0 κ cA D n0 k0 rf st') : xP p l e R s m args below meth c Qf N0 κ cA D n0 k0 rf (pc, AL, st, AH) := by
  subst hlen
  unfold xop at e0
  dsimp only at e0
  split at e0
  · rename_i v j a st
    cases e0
    refine xP_rowH h rfl (fun ls H locs gg kk => ?_)
    obtain ⟨ha, he⟩ := xarI_at gg.1.2.2.2 (vp_in_pos hg)
    have he2 := xws_get (N0 := N0) (κ := κ) (cA := cA) ha
    rw [he] at he2
    exact va_iast hx hb hL.2.1 gg.1.1 gg.1.2.1 gg.1.2.2.1 a 0 he2 rfl hg hdg (fun H1 locs1 q1 q2 q3 => kk H1 locs1 (xG_put (cc := xarI (xlenI AH a) (upd (xfnI AH a) j.toNatClampNeg v)) gg ha q1 q2 q3))
  · cases e0

theorem xs_lastore (hL : xL s args E N0 κ cA D) (hx : p.tables.exec = Jvm.exec) (hb : c.code = y.by) {len r1 r2 r3 : Nat} {pc : Nat} {AL : List (Option Value)} {st : List Value} {AH : xH} {g : Prop} {st' : xF} (hdg : decode y.by pc = .ok (.lastore, len)) (e0 : xop E prog y (.lastore) len r1 r2 r3 (pc, AL, st, AH) = some (g, .inl st')) (hg : g) (hlen : len = 1)
    (h : xP p l e R s m args below meth c Qf N0 κ cA D n0 k0 rf st') : xP p l e R s m args below meth c Qf N0 κ cA D n0 k0 rf (pc, AL, st, AH) := by
  subst hlen
  unfold xop at e0
  dsimp only at e0
  split at e0
  · rename_i v j a st
    cases e0
    refine xP_rowH h rfl (fun ls H locs gg kk => ?_)
    obtain ⟨ha, he⟩ := xarJ_at gg.1.2.2.2 (vp_in_pos hg)
    have he2 := xws_get (N0 := N0) (κ := κ) (cA := cA) ha
    rw [he] at he2
    exact va_last hx hb hL.2.1 gg.1.1 gg.1.2.1 gg.1.2.2.1 a 1 he2 rfl hg hdg (fun H1 locs1 q1 q2 q3 => kk H1 locs1 (xG_put (cc := xarJ (xlenJ AH a) (vp_updL (xfnJ AH a) j.toNatClampNeg v)) gg ha q1 q2 q3))
  · cases e0

theorem xs_bastore (hL : xL s args E N0 κ cA D) (hx : p.tables.exec = Jvm.exec) (hb : c.code = y.by) {len r1 r2 r3 : Nat} {pc : Nat} {AL : List (Option Value)} {st : List Value} {AH : xH} {g : Prop} {st' : xF} (hdg : decode y.by pc = .ok (.bastore, len)) (e0 : xop E prog y (.bastore) len r1 r2 r3 (pc, AL, st, AH) = some (g, .inl st')) (hg : g) (hlen : len = 1)
    (h : xP p l e R s m args below meth c Qf N0 κ cA D n0 k0 rf st') : xP p l e R s m args below meth c Qf N0 κ cA D n0 k0 rf (pc, AL, st, AH) := by
  subst hlen
  unfold xop at e0
  dsimp only at e0
  split at e0
  · rename_i v j a st
    cases e0
    refine xP_rowH h rfl (fun ls H locs gg kk => ?_)
    obtain ⟨ha, he⟩ := xarB_at gg.1.2.2.2 (vp_in_pos hg)
    have he2 := xws_get (N0 := N0) (κ := κ) (cA := cA) ha
    rw [he] at he2
    exact va_bast hx hb hL.2.1 gg.1.1 gg.1.2.1 gg.1.2.2.1 a 2 he2 rfl hg hdg (fun H1 locs1 q1 q2 q3 => kk H1 locs1 (xG_put (cc := xarB (xlenB AH a) (upd (xfnB AH a) j.toNatClampNeg (vp_nar .byte v))) gg ha q1 q2 q3))
  · cases e0

theorem xrf_m (r : Option Nat) : xm N0 κ (xrf r) = va_rf (r.map (fun q => N0 + q)) := by cases r <;> rfl
theorem xaldq {cc : ByteArray} {pc : Nat} {ls : Array Slot} {rest : List Value} {H : Heap} {locs : List Loc} {cells slots : Nat} {cl : List vw_C} {tys : List (ClassId × FieldType)} {ws : va_W} {a : Nat} (hexec : p.tables.exec = Jvm.exec) (hb : c.code = cc) (hK : va_K D cl tys s) (hP : va_P D cl ws H) (q0 t0 : Nat) {cA : ClassId} {ty : FieldType} {n : Nat} {f : Nat → Option Nat} (ha : ws[q0]? = some (a, .inl (cA, n, .inr (.inr (.inr (.inr f)))))) (ht : tys[t0]? = some (cA, ty)) (hty : ty.isReference = true) {i : Int32} (hin : vp_in i n) (hdg : decode cc pc = .ok (.aaload, 1))
    (kk : W p l e R s m args below meth c H locs cells slots Qf (F0 m (pc + 1) ls (va_rf (f i.toNatClampNeg) :: rest))) : W p l e R s m args below meth c H locs cells slots Qf (F0 m pc ls (.int i :: .ref a :: rest)) := by
  have hlt : i.toNatClampNeg < n := Nat.not_le.mp fun q => hin (Or.inr q)
  exact W.aald (v := va_rf (f i.toNatClampNeg)) (ty := ty) hexec hb (hP q0 _ ha) ((hK.2 t0 _ ht).1 n (fun j => va_rf (f j))) hty (fun q => by cases q) (by show ¬ (i < 0 ∨ (arrV _ _ _).slots.size ≤ _); rw [arrV_size]; exact hin) (by show (arrV _ _ _).slots[_]? = _; rw [arrV_read _ _ hlt]) rfl rfl hdg kk
/-- a row of numbers into a row of such -/
theorem xastqA {cc : ByteArray} {pc : Nat} {ls : Array Slot} {rest : List Value} {H : Heap} {locs : List Loc} {cells slots : Nat} {cl : List vw_C} {tys : List (ClassId × FieldType)} {ws : va_W} {a : Nat} {A : Nat → Prop} {H0 : Heap} (hexec : p.tables.exec = Jvm.exec) (hb : c.code = cc) (hO : xAOI s) (hK : va_K D cl tys s) (hP : va_P D cl ws H) (hD : va_D A ws) (hS : va_S A H0 H locs) (q0 t0 qk t1 : Nat) {cA cI : ClassId} {n v : Nat} {x : vp_A} {f : Nat → Option Nat} (ha : ws[q0]? = some (a, .inl (cA, n, .inr (.inr (.inr (.inr f)))))) (ht : tys[t0]? = some (cA, .array .int)) (hv : ws[qk]? = some (v, .inl (cI, x))) (hc : tys[t1]? = some (cI, .int)) {i : Int32} (hin : vp_in i n) (hdg : decode cc pc = .ok (.aastore, 1))
    (kk : ∀ (H1 : Heap) (locs1 : List Loc), va_P D cl (ws.set q0 (a, .inl (cA, n, .inr (.inr (.inr (.inr (va_up f i.toNatClampNeg (some v)))))))) H1 → va_D A (ws.set q0 (a, .inl (cA, n, .inr (.inr (.inr (.inr (va_up f i.toNatClampNeg (some v)))))))) → va_S A H0 H1 locs1 → W p l e R s m args below meth c H1 locs1 cells slots Qf (F0 m (pc + 1) ls rest)) : W p l e R s m args below meth c H locs cells slots Qf (F0 m pc ls (.ref v :: .int i :: .ref a :: rest)) := by
  have hlt : i.toNatClampNeg < n := Nat.not_le.mp fun q => hin (Or.inr q)
  have h0 : ¬ i < 0 := fun q => hin (Or.inl q)
  obtain ⟨comp, c1, kA, h1, -, h3, h4, h5⟩ := arrayOverA_spec hO
  have e1 : c1 = cA := Option.some.inj (h5.symm.trans (hK.2 t0 _ ht).2)
  subst e1
  have e2 : comp = cI := Option.some.inj (h1.symm.trans (hK.2 t1 _ hc).2)
  subst e2
  obtain ⟨-, kC, hkC, -⟩ := (hK.2 t1 _ hc).1 n (fun _ => .null)
  have hvm0 : (vp_cell comp x).vm = .none := by
    obtain ⟨n, f | f | f | f | f⟩ := x <;> rfl
  have hcl0 : (vp_cell comp x).cls = comp := by
    obtain ⟨n, f | f | f | f | f⟩ := x <;> rfl
  have hkC' : s.vm.classes[comp]? = some kC := hkC
  refine W.aast hexec hb (hP q0 _ ha) (fun q h => by cases h) (fun h => by cases h) (show s.vm.classes[(vp_cell c1 (n, .inr (.inr (.inr (.inr f))))).cls]? = some kA from h3) h4 rfl hkC' ⟨h0, by show _ < (arrV _ _ _).slots.size; rw [arrV_size]; exact hlt⟩ (hP qk _ hv) (fun q h => by rw [hvm0] at h; cases h) (by rw [hcl0]; exact hkC') (by rw [hcl0]; exact va_asg _ _) rfl rfl hdg fun H1 e z oq => ?_
  refine kk H1 _ (hP.set hD ha ?_ oq) (hD.set ha) (hS.put z oq (hD.2 q0 _ ha))
  show H1[a]? = some (vp_cell _ _)
  rw [e]
  rw [vp_cell_q, vp_cell_q, arrV_store]
  congr 2
  funext q
  by_cases hq : q = i.toNatClampNeg
  · subst hq
    simp [updV, va_up, va_rf]
  · simp [updV, va_up, hq]
theorem xvA_up (n : Nat) (f : Nat → Option Nat) (k v : Nat) : xvA N0 (n, .inr (.inr (.inr (.inr (va_up f k (some v)))))) = (n, .inr (.inr (.inr (.inr (va_up (fun j => (f j).map (fun q => N0 + q)) k (some (N0 + v))))))) := by
  show (n, _) = (n, _)
  congr 5
  funext j
  unfold va_up
  split <;> rfl

theorem xs_aaload (hL : xL s args E N0 κ cA D) (hx : p.tables.exec = Jvm.exec) (hb : c.code = y.by) {len r1 r2 r3 : Nat} {pc : Nat} {AL : List (Option Value)} {st : List Value} {AH : xH} {g : Prop} {st' : xF} (hdg : decode y.by pc = .ok (.aaload, len)) (e0 : xop E prog y (.aaload) len r1 r2 r3 (pc, AL, st, AH) = some (g, .inl st')) (hg : g) (hlen : len = 1)
    (h : xP p l e R s m args below meth c Qf N0 κ cA D n0 k0 rf st') : xP p l e R s m args below meth c Qf N0 κ cA D n0 k0 rf (pc, AL, st, AH) := by
  subst hlen
  unfold xop at e0
  dsimp only at e0
  split at e0
  · rename_i j a st
    cases e0
    refine xP_row h (fun ls H locs gg kk => ?_)
    obtain ⟨ha, he⟩ := xarQ_at gg.1.2.2.2 (vp_in_pos hg)
    have he2 := xws_get (N0 := N0) (κ := κ) (cA := cA) ha
    have h2 := kk ls gg
    rw [List.map_cons, xrf_m] at h2
    rcases he with he | he
    · rw [he] at he2
      exact xaldq hx hb hL.2.1 gg.1.1 a 3 he2 rfl rfl hg hdg h2
    · rw [he] at he2
      exact xaldq hx hb hL.2.1 gg.1.1 a 4 he2 rfl rfl hg hdg h2
  · rename_i j q st
    obtain ⟨z1, z2, z3, z4, z5, z6⟩ := hL.2.2.2.1
    split at e0
    · rename_i hq
      subst hq
      cases e0
      refine xP_row h (fun ls H locs gg kk => ?_)
      obtain ⟨t, z7, z8⟩ := z3.2
      have h2 := kk ls gg
      simp only [List.map_cons, xm, z7] at h2 ⊢
      exact vb_tq hx hb z8 gg.1.2.2.1 hg rfl hdg h2
    · split at e0
      · rename_i hq
        subst hq
        cases e0
        refine xP_row h (fun ls H locs gg kk => ?_)
        obtain ⟨t, z7, z8⟩ := z4.2
        have h2 := kk ls gg
        simp only [List.map_cons, xm, z7] at h2 ⊢
        exact vb_tq hx hb z8 gg.1.2.2.1 hg rfl hdg h2
      · cases e0
  · cases e0

theorem xs_aastore (hL : xL s args E N0 κ cA D) (hx : p.tables.exec = Jvm.exec) (hb : c.code = y.by) {len r1 r2 r3 : Nat} {pc : Nat} {AL : List (Option Value)} {st : List Value} {AH : xH} {g : Prop} {st' : xF} (hdg : decode y.by pc = .ok (.aastore, len)) (e0 : xop E prog y (.aastore) len r1 r2 r3 (pc, AL, st, AH) = some (g, .inl st')) (hg : g) (hlen : len = 1)
    (h : xP p l e R s m args below meth c Qf N0 κ cA D n0 k0 rf st') : xP p l e R s m args below meth c Qf N0 κ cA D n0 k0 rf (pc, AL, st, AH) := by
  subst hlen
  unfold xop at e0
  dsimp only at e0
  split at e0
  · rename_i v j a st
    split at e0
    · cases e0
      obtain ⟨hg, hi⟩ := hg
      refine xP_rowH h rfl (fun ls H locs gg kk => ?_)
      obtain ⟨ha, he⟩ := xarA_at gg.1.2.2.2 (vp_in_pos hg)
      have he2 := xws_get (N0 := N0) (κ := κ) (cA := cA) ha
      rw [he] at he2
      obtain ⟨n9, f9, hv⟩ := hi
      have hv1 : v < AH.2.1 := xJ_lt gg.1.2.2.2 (by rw [hv]; intro q; cases q)
      have hv2 := xws_get (N0 := N0) (κ := κ) (cA := cA) hv1
      rw [hv] at hv2
      exact xastqA hx hb hL.2.2.2.2.2.2.2.2.2.2.2.1 hL.2.1 gg.1.1 gg.1.2.1 gg.1.2.2.1 a 3 v 0 he2 rfl hv2 rfl hg hdg (fun H1 locs1 q1 q2 q3 => by
        rw [← xvA_up] at q1 q2
        exact kk H1 locs1 (xG_put (cc := xarA (xlenA AH a) (va_up (xfnQ AH a) j.toNatClampNeg (some v))) gg ha q1 q2 q3))
    · cases e0
      obtain ⟨hg, hi⟩ := hg
      refine xP_rowH h rfl (fun ls H locs gg kk => ?_)
      obtain ⟨ha, he⟩ := xarR_at gg.1.2.2.2 (vp_in_pos hg)
      have he2 := xws_get (N0 := N0) (κ := κ) (cA := cA) ha
      rw [he] at he2
      obtain ⟨hv1, fs, hv⟩ := xcl_at gg.1.2.2.2 hi (by decide)
      have hv2 := xws_get (N0 := N0) (κ := κ) (cA := cA) hv1
      rw [hv] at hv2
      exact va_astq (r := (RX9, TX9, 3)) hx hb hL.2.1 gg.1.1 gg.1.2.1 gg.1.2.2.1 a 4 v 9 he2 rfl hv2 rfl hg hdg (fun H1 locs1 q1 q2 q3 => by
        rw [← xvA_up] at q1 q2
        exact kk H1 locs1 (xG_put (cc := xarR (xlenR AH a) (va_up (xfnQ AH a) j.toNatClampNeg (some v))) gg ha q1 q2 q3))
  · cases e0

theorem xs_checkcast (hL : xL s args E N0 κ cA D) (hx : p.tables.exec = Jvm.exec) (hb : c.code = y.by) {own : String} (hown : s.vm.findClass own = some m.cls) {x : Nat} {len r1 r2 r3 : Nat} {pc : Nat} {AL : List (Option Value)} {st : List Value} {AH : xH} {g : Prop} {st' : xF} (hdg : decode y.by pc = .ok (.checkcast x, len)) (e0 : xop E prog y (.checkcast x) len r1 r2 r3 (pc, AL, st, AH) = some (g, .inl st')) (hg : g) (hlen : len = 3) (hw : Cond.classLink own x "[B" ∈ lw_tbl)
    (h : xP p l e R s m args below meth c Qf N0 κ cA D n0 k0 rf st') : xP p l e R s m args below meth c Qf N0 κ cA D n0 k0 rf (pc, AL, st, AH) := by
  subst hlen
  unfold xop at e0
  dsimp only at e0
  split at e0
  · rename_i a st
    cases e0
    refine xP_row h (fun ls H locs gg kk => ?_)
    obtain ⟨ha, he⟩ := xisA_at gg.1.2.2.2 hg
    have he2 := xws_get (N0 := N0) (κ := κ) (cA := cA) ha
    rw [he] at he2
    exact va_castA hx hb hown (hL.1 _ hw rfl) gg.1.1 a he2 (hL.2.1.2 2 _ rfl).2 hdg (kk ls gg)
  · cases e0

theorem xs_ifnonnull (hL : xL s args E N0 κ cA D) (hx : p.tables.exec = Jvm.exec) (hb : c.code = y.by) {off : Int} {len r1 r2 r3 : Nat} {pc : Nat} {AL : List (Option Value)} {st : List Value} {AH : xH} {g : Prop} {st' : xF} (hdg : decode y.by pc = .ok (.ifnonnull off, len)) (e0 : xop E prog y (.ifnonnull off) len r1 r2 r3 (pc, AL, st, AH) = some (g, .inl st')) (hg : g) (hlen : len = 3)
    (h : xP p l e R s m args below meth c Qf N0 κ cA D n0 k0 rf st') : xP p l e R s m args below meth c Qf N0 κ cA D n0 k0 rf (pc, AL, st, AH) := by
  subst hlen
  unfold xop at e0
  dsimp only at e0
  split at e0
  · cases e0
    exact xP_row h (fun ls H locs g kk => lv_ifnonnullN hx hb hdg (kk ls g))
  · cases e0
    exact xP_row h (fun ls H locs g kk => lv_ifnonnull hx hb hdg (xtgt_eq hg) (kk ls g))
  · rename_i q st
    split at e0
    · rename_i i hi
      cases e0
      unfold xisT at hi
      split at hi
      · rename_i hq
        obtain ⟨ak, av, e1, -⟩ := hL.2.2.2.2.1 ((q - 100) / 2) (by omega)
        have eq : 100 + 2 * ((q - 100) / 2) = q := by omega
        rw [eq] at e1
        refine xP_row h (fun ls H locs g kk => ?_)
        have h2 := kk ls g
        simp only [List.map_cons, xm, e1]
        exact lv_ifnonnull hx hb hdg (xtgt_eq hg) h2
      · cases hi
    · cases e0
  · cases e0

theorem xs_arraylength (hL : xL s args E N0 κ cA D) (hx : p.tables.exec = Jvm.exec) (hb : c.code = y.by) {len r1 r2 r3 : Nat} {pc : Nat} {AL : List (Option Value)} {st : List Value} {AH : xH} {g : Prop} {st' : xF} (hdg : decode y.by pc = .ok (.arraylength, len)) (e0 : xop E prog y (.arraylength) len r1 r2 r3 (pc, AL, st, AH) = some (g, .inl st')) (hg : g) (hlen : len = 1)
    (h : xP p l e R s m args below meth c Qf N0 κ cA D n0 k0 rf st') : xP p l e R s m args below meth c Qf N0 κ cA D n0 k0 rf (pc, AL, st, AH) := by
  subst hlen
  unfold xop at e0
  dsimp only at e0
  split at e0
  · rename_i a st
    split at e0
    · rename_i n hn
      cases e0
      refine xP_row h (fun ls H locs gg kk => ?_)
      obtain ⟨ha, ty, x, h1, h2, h3⟩ := xlen_at gg.1.2.2.2 hn
      have he2 := xws_get (N0 := N0) (κ := κ) (cA := cA) ha
      rw [h2] at he2
      rcases h1 with rfl | rfl | rfl | rfl | rfl
      · exact va_alen hx hb hL.2.1 gg.1.1 a 0 he2 rfl (by rw [xvA_1, h3]; rfl) hdg (kk ls gg)
      · exact va_alen hx hb hL.2.1 gg.1.1 a 1 he2 rfl (by rw [xvA_1, h3]; rfl) hdg (kk ls gg)
      · exact va_alen hx hb hL.2.1 gg.1.1 a 2 he2 rfl (by rw [xvA_1, h3]; rfl) hdg (kk ls gg)
      · exact va_alen hx hb hL.2.1 gg.1.1 a 3 he2 rfl (by rw [xvA_1, h3]; rfl) hdg (kk ls gg)
      · exact va_alen hx hb hL.2.1 gg.1.1 a 4 he2 rfl (by rw [xvA_1, h3]; rfl) hdg (kk ls gg)
    · cases e0
  · rename_i q st
    split at e0
    · rename_i hq
      subst hq
      cases e0
      refine xP_row h (fun ls H locs gg kk => ?_)
      obtain ⟨b, b1, b2, b3, b4⟩ := hL.2.2.1
      have h2 := kk ls gg
      simp only [List.map_cons, xm, b1] at h2 ⊢
      exact va_slen hx hb b4 b2 b3 gg.1.2.2.1 hdg h2
    · split at e0
      · rename_i i hi
        unfold xisB at hi
        split at hi
        · rename_i hq
          cases hi
          cases e0
          obtain ⟨ak, av, e1, e2, f1, f2, f3, f4⟩ := hL.2.2.2.2.1 ((q - 101) / 2) (by omega)
          have eq : 101 + 2 * ((q - 101) / 2) = q := by omega
          rw [eq] at e2
          refine xP_row h (fun ls H locs gg kk => ?_)
          have h2 := kk ls gg
          simp only [List.map_cons, xm, e2] at h2 ⊢
          exact va_tlen hx hb f4 gg.1.2.2.1 rfl hdg h2
        · cases hi
      · cases e0
  · cases e0

theorem xs_ldc2_w (hL : xL s args E N0 κ cA D) (hx : p.tables.exec = Jvm.exec) (hb : c.code = y.by) {own : String} (hown : s.vm.findClass own = some m.cls) {x : Nat} {len r1 r2 r3 : Nat} {pc : Nat} {AL : List (Option Value)} {st : List Value} {AH : xH} {g : Prop} {st' : xF} (hdg : decode y.by pc = .ok (.ldc2_w x, len)) (e0 : xop E prog y (.ldc2_w x) len r1 r2 r3 (pc, AL, st, AH) = some (g, .inl st')) (hg : g) (hlen : len = 3) (hw : Cond.constantLong own x (Int64.ofNat r2) ∈ lw_tbl)
    (h : xP p l e R s m args below meth c Qf N0 κ cA D n0 k0 rf st') : xP p l e R s m args below meth c Qf N0 κ cA D n0 k0 rf (pc, AL, st, AH) := by
  subst hlen
  unfold xop at e0
  dsimp only at e0
  cases e0
  exact xP_row h (fun ls H locs gg kk => lv_ldc2 hx hb hown (hL.1 _ hw rfl) hdg (kk ls gg))
theorem xs_ldc (hL : xL s args E N0 κ cA D) (hx : p.tables.exec = Jvm.exec) (hb : c.code = y.by) {own : String} (hown : s.vm.findClass own = some m.cls) {x : Nat} {len r1 r2 r3 : Nat} {pc : Nat} {AL : List (Option Value)} {st : List Value} {AH : xH} {g : Prop} {st' : xF} (hdg : decode y.by pc = .ok (.ldc x, len)) (e0 : xop E prog y (.ldc x) len r1 r2 r3 (pc, AL, st, AH) = some (g, .inl st')) (hg : g) (hlen : len = 2) (hw : (r1 = 1 → Cond.constant own x (Int32.ofNat r2) ∈ lw_tbl) ∧ (¬ r1 = 1 → ∃ i, i < 43 ∧ r2 = 100 + 2 * i ∧ xsr.getD i ("", 0) = (own, x)))
    (h : xP p l e R s m args below meth c Qf N0 κ cA D n0 k0 rf st') : xP p l e R s m args below meth c Qf N0 κ cA D n0 k0 rf (pc, AL, st, AH) := by
  subst hlen
  unfold xop at e0
  dsimp only at e0
  by_cases q : r1 = 1
  · rw [if_pos q] at e0
    cases e0
    exact xP_row h (fun ls H locs gg kk => lv_ldc hx hb hown (hL.1 _ (hw.1 q) rfl) hdg (kk ls gg))
  · rw [if_neg q] at e0
    cases e0
    obtain ⟨i, hi, rfl, hi2⟩ := hw.2 q
    refine xP_row h (fun ls H locs gg kk => ?_)
    obtain ⟨b, q1, q2⟩ := hL.2.2.2.2.2.1 i hi
    rw [hi2] at q2
    have h2 := kk ls gg
    simp only [List.map_cons, xm, q1] at h2 ⊢
    exact va_ldcS hx hb hown q2 hdg h2
/-- which static a number is -/
def xgst (own : String) (x r1 : Nat) : Prop := r1 = 0 ∧ Cond.fieldLink own x xstr "COMPACT_STRINGS" "Z" ∈ lw_tbl ∨ r1 = 2 ∧ Cond.fieldLink own x "jdk/internal/util/Preconditions" "SIOOBE_FORMATTER" "Ljava/util/function/BiFunction;" ∈ lw_tbl ∨ r1 = 1 ∧ Cond.fieldLinkNest own x "TeaRegattaLaw" "MEASURES" "[Ljava/lang/String;" "TeaRegattaLaw" ∈ lw_tbl ∨ r1 = 5 ∧ Cond.fieldLinkNest own x "TeaRegattaLaw" "SIGNS" "[Ljava/lang/String;" "TeaRegattaLaw" ∈ lw_tbl ∨ r1 = 3 ∧ Cond.fieldLink own x "java/lang/Integer" "DigitOnes" "[B" ∈ lw_tbl ∨ r1 = 4 ∧ Cond.fieldLink own x "java/lang/Integer" "DigitTens" "[B" ∈ lw_tbl
theorem xs_getstatic (hL : xL s args E N0 κ cA D) (hx : p.tables.exec = Jvm.exec) (hb : c.code = y.by) {own : String} (hown : s.vm.findClass own = some m.cls) {x : Nat} {len r1 r2 r3 : Nat} {pc : Nat} {AL : List (Option Value)} {st : List Value} {AH : xH} {g : Prop} {st' : xF} (hdg : decode y.by pc = .ok (.getstatic x, len)) (e0 : xop E prog y (.getstatic x) len r1 r2 r3 (pc, AL, st, AH) = some (g, .inl st')) (hg : g) (hlen : len = 3) (hw : xgst own x r1)
    (h : xP p l e R s m args below meth c Qf N0 κ cA D n0 k0 rf st') : xP p l e R s m args below meth c Qf N0 κ cA D n0 k0 rf (pc, AL, st, AH) := by
  subst hlen
  unfold xop at e0
  dsimp only at e0
  obtain ⟨z1, z2, z3, z4, z5, z6⟩ := hL.2.2.2.1
  rcases hw with ⟨rfl, hl⟩ | ⟨rfl, hl⟩ | ⟨rfl, hl⟩ | ⟨rfl, hl⟩ | ⟨rfl, hl⟩ | ⟨rfl, hl⟩
  · rw [if_pos rfl] at e0
    cases e0
    exact xP_row h (fun ls H locs gg kk => va_gets hx hb z1 gg.1.2.2.1 hown (hL.1 _ hl rfl) (fun _ h9 => h9) hdg (kk ls gg))
  · rw [if_neg (by decide)] at e0
    cases e0
    exact xP_row h (fun ls H locs gg kk => va_gets hx hb z2 gg.1.2.2.1 hown (hL.1 _ hl rfl) (fun _ h9 => h9) hdg (kk ls gg))
  · rw [if_neg (by decide)] at e0
    cases e0
    exact xP_row h (fun ls H locs gg kk => va_getsN hx hb z3.1 gg.1.2.2.1 hown (hL.1 _ hl rfl) (fun _ h9 => h9) hdg (kk ls gg))
  · rw [if_neg (by decide)] at e0
    cases e0
    exact xP_row h (fun ls H locs gg kk => va_getsN hx hb z4.1 gg.1.2.2.1 hown (hL.1 _ hl rfl) (fun _ h9 => h9) hdg (kk ls gg))
  · rw [if_neg (by decide)] at e0
    cases e0
    exact xP_row h (fun ls H locs gg kk => va_gets hx hb z5.1 gg.1.2.2.1 hown (hL.1 _ hl rfl) (fun _ h9 => h9) hdg (kk ls gg))
  · rw [if_neg (by decide)] at e0
    cases e0
    exact xP_row h (fun ls H locs gg kk => va_gets hx hb z6.1 gg.1.2.2.1 hown (hL.1 _ hl rfl) (fun _ h9 => h9) hdg (kk ls gg))
end XHEAP
