/-! ===== what makes cells; calls; ends; throws ===== -/
def xroom (d mc ms : Nat) : Room := { frames := d + 8, cells := mc, slots := ms, locals := 60 * d + 400 }
def xh4 (y : xM) : List (Nat × Nat × Nat × Nat) := y.hh.map fun q => (q.1, q.2.1, q.2.2.1, q.2.2.2.1)
def xcw (y : xM) : Jvm.Cond := if y.hh = [] then .code y.nm y.by y.ml y.rt else .codeWith y.nm y.by y.ml y.rt (xh4 y)
def xPc (s0 : State) (N0 : Nat) (κ : Nat → Value) (cA : FieldType → ClassId) (D : va_G) (av : List Value) (AH : xH) : Array Value → State → Prop := fun a U => a = (av.map (xm N0 κ)).toArray ∧ xAt s0 N0 AH.2.1 U ∧ va_P D xcls (xws N0 κ cA AH) U.heap ∧ va_D (xAA N0) (xws N0 κ cA AH) ∧ xJ AH
def xQc (N0 : Nat) (κ : Nat → Value) (cA : FieldType → ClassId) (D : va_G) (r : xR) : Array Value → State → Outcome → State → Prop := fun _ st o t => (∃ v, r.1 = .inl v ∧ o = .returned (v.map (xm N0 κ))) ∧ va_P D xcls (xws N0 κ cA r.2) t.heap ∧ va_D (xAA N0) (xws N0 κ cA r.2) ∧ xJ r.2 ∧ va_F (xAA N0) st t
def xXC (N0 : Nat) (κ : Nat → Value) (cA : FieldType → ClassId) (D : va_G) (r : xR) : String → State → State → Prop := fun En st t => (∃ ci, r.1 = .inr ci ∧ 13 ≤ ci ∧ ci < 16 ∧ En = xen ci) ∧ va_P D xcls (xws N0 κ cA r.2) t.heap ∧ va_D (xAA N0) (xws N0 κ cA r.2) ∧ xJ r.2 ∧ va_F (xAA N0) st t
def xCon (l : Launch) (s0 : State) (N0 : Nat) (κ : Nat → Value) (cA : FieldType → ClassId) (D : va_G) (y : xM) (d : Nat) (av : List Value) (AH : xH) (r : xR) : Prop :=
  AH.2.1 ≤ r.2.2.1 ∧ AH.2.2 ≤ r.2.2.2 ∧ vx_Met l y.nm [xcw y] (xroom d (r.2.2.1 - AH.2.1) (r.2.2.2 - AH.2.2)) (xPc s0 N0 κ cA D av AH) (xQc N0 κ cA D r) (xXC N0 κ cA D r) (r.2.2.1 - AH.2.1) (r.2.2.2 - AH.2.2) (xAA N0)
/-- what the tables say of a call: own's link x, of kind k, to y with n arguments -/
def xokU (own : String) (x n : Nat) (y : xM) : Prop := ∃ (x0 : MethodName) (owner : String) (b0 : ByteArray) (m0 : Nat) (r0 : Option FieldType), (owner ≠ "java/lang/invoke/MethodHandle" ∧ owner ≠ "java/lang/invoke/VarHandle") ∧ (parseMethodDescriptor x0.desc).map (fun d => d.parameters.length) = some n ∧ Jvm.Cond.methodLink own x x0 ∈ lw_tbl ∧ Jvm.Cond.sameMethod x0.cls owner x0.name x0.desc ∈ lw_tbl ∧ Jvm.Cond.instanceMethod ⟨owner, x0.name, x0.desc⟩ ∈ lw_tbl ∧ Jvm.Cond.code ⟨owner, x0.name, x0.desc⟩ b0 m0 r0 ∈ lw_tbl ∧ (Jvm.Cond.selects (xcN (xrc y.ci)) x0 y.nm ∈ lw_tbl ∨ x0 = y.nm ∧ y.nm ∈ xselB ∧ xrc y.ci = 11) ∧ Jvm.Cond.instanceMethod y.nm ∈ lw_tbl ∧ xrc y.ci < 13
def xokS (own : String) (x : Nat) (y : xM) : Prop := Jvm.Cond.methodLink own x y.nm ∈ lw_tbl ∧ Jvm.Cond.sameMethod y.nm.cls y.nm.cls y.nm.name y.nm.desc ∈ lw_tbl ∧ Jvm.Cond.superclass own y.nm.cls ∈ lw_tbl ∧ Jvm.Cond.instanceMethod y.nm ∈ lw_tbl ∧ y.nm.name ≠ "<init>"
def xokC (own : String) (k x n : Nat) (y : xM) : Prop :=
  (Jvm.Cond.initialized y.nm.cls ∈ lw_tbl ∧ xcw y ∈ lw_tbl ∧ (y.nm.cls ≠ "java/lang/invoke/MethodHandle" ∧ y.nm.cls ≠ "java/lang/invoke/VarHandle") ∧ (parseMethodDescriptor y.nm.desc).map (fun d => d.parameters.length) = some n ∧ y.ml ≤ 40) ∧
  ((k = 0 ∨ k = 3) → y.hh = [] ∧ Jvm.Cond.instanceMethod y.nm ∈ lw_tbl ∧ Jvm.Cond.selects y.nm.cls y.nm y.nm ∈ lw_tbl ∧ (xrc y.ci < 13 ∧ xcN (xrc y.ci) = y.nm.cls)) ∧
  ((k = 1 ∨ k = 4) → y.hh = [] ∧ Jvm.Cond.static y.nm ∈ lw_tbl) ∧
  ((k = 2 ∨ k = 5) → y.hh = [] ∧ Jvm.Cond.instanceMethod y.nm ∈ lw_tbl ∧ y.nm.name = "<init>" ∧ y.rt = none) ∧
  (k = 6 → ¬ y.hh = [] ∧ Jvm.Cond.static y.nm ∈ lw_tbl) ∧
  ((k = 0 ∨ k = 1 ∨ k = 2 ∨ k = 6) → Jvm.Cond.methodLink own x y.nm ∈ lw_tbl) ∧
  ((k = 3 ∨ k = 4 ∨ k = 5) → ∃ host, Jvm.Cond.methodLinkNest own x y.nm host ∈ lw_tbl) ∧
  (k = 12 → y.hh = [] ∧ xokU own x n y) ∧ (k = 13 → y.hh = [] ∧ xokS own x y)
section XCALL
variable {p : Program} {l : Launch} {e : Env} {R : Room} {s : State} {m : MethodId} {args : Array Value} {below : List Frame} {meth : Method} {c : Code} {Qf : State → Prop}
variable {N0 : Nat} {κ : Nat → Value} {cA : FieldType → ClassId} {D : va_G} {n0 k0 : Nat} {rf : xR} {E : xE} {prog : Nat → xM} {y : xM}
theorem W_sz {H : Heap} {locs : List Loc} {cells slots : Nat} {Q : State → Prop} {g : JFrame} (k : H.size ≤ s.heap.size + cells → W p l e R s m args below meth c H locs cells slots Q g) : W p l e R s m args below meth c H locs cells slots Q g := fun T hT X => k (by rw [← hT]; exact X.heapSize) T hT X
theorem xG_lo {AH : xH} {AL : List (Option Value)} {H : Heap} {locs : List Loc} {ls : Array Slot} (g : xG s c N0 κ cA D AH AL H locs ls) (hsz : s.heap.size = N0 + n0) (hn : n0 ≤ AH.2.1) : N0 + AH.2.1 ≤ H.size := by
  by_cases q : n0 = AH.2.1
  · have := g.1.2.2.1.1
    omega
  · have h1 := (g.1.1 (AH.2.1 - 1) _ (xws_get (by omega))).lt
    dsimp only at h1
    omega
theorem xG_new {AH : xH} {AL : List (Option Value)} {H H1 : Heap} {locs locs1 : List Loc} {ls : Array Slot} {q k : Nat} {cc : xC} (g : xG s c N0 κ cA D AH AL H locs ls) (hz : H1.size ≤ N0 + AH.2.1 + 1) (h1 : va_P D xcls (xws N0 κ cA AH ++ [(q, xcv N0 κ cA cc)]) H1) (h2 : va_D (xAA N0) (xws N0 κ cA AH ++ [(q, xcv N0 κ cA cc)])) (h3 : va_S (xAA N0) s.heap H1 locs1) : q = N0 + AH.2.1 ∧ xG s c N0 κ cA D (xnew AH cc k) AL H1 locs1 ls := by
  have hg : (xws N0 κ cA AH ++ [(q, xcv N0 κ cA cc)])[AH.2.1]? = some (q, xcv N0 κ cA cc) := by
    rw [List.getElem?_append_right (by rw [xws_len]; exact Nat.le_refl _), xws_len, Nat.sub_self]; rfl
  have a1 := (h1 _ _ hg).lt
  have a2 : N0 ≤ q := h2.2 _ _ hg
  dsimp only at a1
  have e : q = N0 + AH.2.1 := by
    by_cases z : q < N0 + AH.2.1
    · have hi : q - N0 < AH.2.1 := by omega
      have hg2 : (xws N0 κ cA AH ++ [(q, xcv N0 κ cA cc)])[q - N0]? = some (N0 + (q - N0), xcv N0 κ cA (AH.1 (q - N0))) := by
        rw [List.getElem?_append_left (by rw [xws_len]; exact hi)]; exact xws_get hi
      have := h2.1 _ _ _ _ hg hg2 (by dsimp only; omega)
      omega
    · omega
  refine ⟨e, ⟨by rw [xws_new, ← e]; exact h1, by rw [xws_new, ← e]; exact h2, h3, xJ_new g.1.2.2.2⟩, g.2⟩
/-- a row that makes a cell -/
theorem xP_rowN {pc pc' : Nat} {AL : List (Option Value)} {st st' : List Value} {AH : xH} {cc : xC} {kk0 : Nat} (hsz : s.heap.size = N0 + n0) (h : xP p l e R s m args below meth c Qf N0 κ cA D n0 k0 rf (pc', AL, .ref AH.2.1 :: st', xnew AH cc kk0))
    (k : ∀ (ls : Array Slot) (H : Heap) (locs : List Loc), xG s c N0 κ cA D AH AL H locs ls → AH.2.1 - n0 + 1 ≤ rf.2.2.1 - n0 → AH.2.2 - k0 + kk0 ≤ rf.2.2.2 - k0 → (∀ (q : Nat) (H1 : Heap) (locs1 : List Loc), va_P D xcls (xws N0 κ cA AH ++ [(q, xcv N0 κ cA cc)]) H1 → va_D (xAA N0) (xws N0 κ cA AH ++ [(q, xcv N0 κ cA cc)]) → va_S (xAA N0) s.heap H1 locs1 → W p l e R s m args below meth c H1 locs1 (AH.2.1 - n0 + 1) (AH.2.2 - k0 + kk0) Qf (F0 m pc' ls (.ref q :: st'.map (xm N0 κ)))) →
      W p l e R s m args below meth c H locs (AH.2.1 - n0) (AH.2.2 - k0) Qf (F0 m pc ls (st.map (xm N0 κ)))) : xP p l e R s m args below meth c Qf N0 κ cA D n0 k0 rf (pc, AL, st, AH) := by
  intro h1 h2
  have h1 : n0 ≤ AH.2.1 := h1
  have h2 : k0 ≤ AH.2.2 := h2
  obtain ⟨⟨h3, h4⟩, h5⟩ := h (by show n0 ≤ AH.2.1 + 1; omega) (by show k0 ≤ AH.2.2 + kk0; omega)
  have h3 : AH.2.1 + 1 ≤ rf.2.2.1 := h3
  have h4 : AH.2.2 + kk0 ≤ rf.2.2.2 := h4
  refine ⟨⟨by dsimp only; omega, by dsimp only; omega⟩, fun ls H locs g => k ls H locs g (by omega) (by omega) (fun q H1 locs1 q1 q2 q3 => ?_)⟩
  refine W_sz (fun hz => ?_)
  have hz : H1.size ≤ s.heap.size + (AH.2.1 - n0 + 1) := hz
  have hz2 : H1.size ≤ N0 + AH.2.1 + 1 := by omega
  obtain ⟨rfl, g1⟩ := xG_new (k := kk0) g hz2 q1 q2 q3
  have h6 := h5 ls H1 locs1 g1
  have e1 : (xnew AH cc kk0).2.1 - n0 = AH.2.1 - n0 + 1 := by show AH.2.1 + 1 - n0 = _; omega
  have e2 : (xnew AH cc kk0).2.2 - k0 = AH.2.2 - k0 + kk0 := by show AH.2.2 + kk0 - k0 = _; omega
  dsimp only at h6
  rw [e1, e2] at h6
  exact h6
theorem xm_def (ty : FieldType) : xm N0 κ (defaultValue ty) = defaultValue ty := by cases ty <;> rfl
theorem xs_new (hL : xL s args E N0 κ cA D) (hsz : s.heap.size = N0 + n0) (hR1 : rf.2.2.1 - n0 ≤ R.cells) (hR2 : rf.2.2.2 - k0 ≤ R.slots) (hx : p.tables.exec = Jvm.exec) (hb : c.code = y.by) {own : String} (hown : s.vm.findClass own = some m.cls) {x : Nat} {len r1 r2 r3 : Nat} {pc : Nat} {AL : List (Option Value)} {st : List Value} {AH : xH} {g : Prop} {st' : xF} (hdg : decode y.by pc = .ok (.new x, len)) (e0 : xop E prog y (.new x) len r1 r2 r3 (pc, AL, st, AH) = some (g, .inl st')) (hg : g) (hlen : len = 3)
    (hc : r1 < 13) (hw : Jvm.Cond.classLink own x (xcN r1) ∈ lw_tbl ∧ Jvm.Cond.instantiable (xcN r1) (xnf r1) ∈ lw_tbl ∧ Jvm.Cond.initialized (xcN r1) ∈ lw_tbl)
    (h : xP p l e R s m args below meth c Qf N0 κ cA D n0 k0 rf st') : xP p l e R s m args below meth c Qf N0 κ cA D n0 k0 rf (pc, AL, st, AH) := by
  subst hlen
  unfold xop at e0
  dsimp only at e0
  rw [if_pos hc] at e0
  cases e0
  refine xP_rowN (cc := .inr (r1, xdef r1)) hsz h (fun ls H locs gg b1 b2 kk => ?_)
  refine va_new (fs := (xdef r1).map (xm N0 κ)) hx hb (xts hL) (xin_ok r1 hc) (xtyf r1) (xty_ok r1 hc) hown (hL.1 _ hw.1 rfl) (hL.1 _ hw.2.1 rfl) (hL.1 _ hw.2.2 rfl) hL.2.1 gg.1.1 gg.1.2.1 gg.1.2.2.1 (fun q hq => by show N0 ≤ q; omega) (xcls_get r1 hc) (fun j hj => ?_) (by omega) (by omega) hdg (fun q H1 q1 q2 q3 => kk q H1 locs q1 q2 q3)
  show _ = ((xdef r1).map (xm N0 κ)).getD j .null
  unfold xdef
  rw [List.map_map, List.getD_eq_getElem?_getD, List.getElem?_map, List.getElem?_range hj]
  exact (xm_def _).symm
theorem xs_newarray (hL : xL s args E N0 κ cA D) (hsz : s.heap.size = N0 + n0) (hR1 : rf.2.2.1 - n0 ≤ R.cells) (hR2 : rf.2.2.2 - k0 ≤ R.slots) (hx : p.tables.exec = Jvm.exec) (hb : c.code = y.by) {at0 : ArrayType} {len r1 r2 r3 : Nat} {pc : Nat} {AL : List (Option Value)} {st : List Value} {AH : xH} {g : Prop} {st' : xF} (hdg : decode y.by pc = .ok (.newarray at0, len)) (e0 : xop E prog y (.newarray at0) len r1 r2 r3 (pc, AL, st, AH) = some (g, .inl st')) (hg : g) (hlen : len = 2)
    (hw : Jvm.Cond.arrayClass .int ∈ lw_tbl ∧ Jvm.Cond.arrayClass .long ∈ lw_tbl ∧ Jvm.Cond.arrayClass .byte ∈ lw_tbl)
    (h : xP p l e R s m args below meth c Qf N0 κ cA D n0 k0 rf st') : xP p l e R s m args below meth c Qf N0 κ cA D n0 k0 rf (pc, AL, st, AH) := by
  subst hlen
  unfold xop at e0
  dsimp only at e0
  split at e0
  · rename_i n st
    split at e0
    · rename_i cc hcc
      cases e0
      refine xP_rowN hsz h (fun ls H locs gg b1 b2 kk => ?_)
      unfold xarn at hcc
      split at hcc
      · cases hcc
        refine va_newa (atype := .int) (a0 := (n.toNatClampNeg, .inl (fun _ => 0))) hx hb (hL.1 _ hw.1 rfl) rfl hL.2.1 gg.1.1 gg.1.2.1 gg.1.2.2.1 (fun q hq => by show N0 ≤ q; omega) (fun _ => rfl) hg.1 rfl hg.2 (by omega) (by omega) hdg (fun q c1 H1 hK1 q1 q2 q3 => ?_)
        have ec : c1 = cA .int := Option.some.inj ((hK1.2 5 _ rfl).2.symm.trans (hL.2.1.2 0 _ rfl).2)
        subst ec
        exact kk q H1 locs q1 q2 q3
      · cases hcc
        refine va_newa (atype := .long) (a0 := (n.toNatClampNeg, .inr (.inl (fun _ => 0)))) hx hb (hL.1 _ hw.2.1 rfl) rfl hL.2.1 gg.1.1 gg.1.2.1 gg.1.2.2.1 (fun q hq => by show N0 ≤ q; omega) (fun _ => rfl) hg.1 rfl hg.2 (by omega) (by omega) hdg (fun q c1 H1 hK1 q1 q2 q3 => ?_)
        have ec : c1 = cA .long := Option.some.inj ((hK1.2 5 _ rfl).2.symm.trans (hL.2.1.2 1 _ rfl).2)
        subst ec
        exact kk q H1 locs q1 q2 q3
      · cases hcc
        refine va_newa (atype := .byte) (a0 := (n.toNatClampNeg, .inl (fun _ => 0))) hx hb (hL.1 _ hw.2.2 rfl) rfl hL.2.1 gg.1.1 gg.1.2.1 gg.1.2.2.1 (fun q hq => by show N0 ≤ q; omega) (fun _ => rfl) hg.1 rfl hg.2 (by omega) (by omega) hdg (fun q c1 H1 hK1 q1 q2 q3 => ?_)
        have ec : c1 = cA .byte := Option.some.inj ((hK1.2 5 _ rfl).2.symm.trans (hL.2.1.2 2 _ rfl).2)
        subst ec
        exact kk q H1 locs q1 q2 q3
      · cases hcc
    · cases e0
  · cases e0
theorem xsm_eq (hκ : ∀ k, (κ k).category = 1) (st : List Value) : ((st.map (xm N0 κ)).map fun v => v.category).sum = xsm st := by
  unfold xsm
  rw [List.map_map]
  congr 1
  exact List.map_congr_left (fun v _ => xm_cat hκ v)
theorem xs_anewarray (hL : xL s args E N0 κ cA D) (hsz : s.heap.size = N0 + n0) (hR1 : rf.2.2.1 - n0 ≤ R.cells) (hR2 : rf.2.2.2 - k0 ≤ R.slots) (hx : p.tables.exec = Jvm.exec) (hb : c.code = y.by) {own : String} (hown : s.vm.findClass own = some m.cls) {x : Nat} {len r1 r2 r3 : Nat} {pc : Nat} {AL : List (Option Value)} {st : List Value} {AH : xH} {g : Prop} {st' : xF} (hdg : decode y.by pc = .ok (.anewarray x, len)) (e0 : xop E prog y (.anewarray x) len r1 r2 r3 (pc, AL, st, AH) = some (g, .inl st')) (hg : g) (hlen : len = 3)
    (hw : (r1 = 0 → Jvm.Cond.classLink own x "[I" ∈ lw_tbl) ∧ (¬ r1 = 0 → Jvm.Cond.classLink own x RX9 ∈ lw_tbl))
    (h : xP p l e R s m args below meth c Qf N0 κ cA D n0 k0 rf st') : xP p l e R s m args below meth c Qf N0 κ cA D n0 k0 rf (pc, AL, st, AH) := by
  subst hlen
  unfold xop at e0
  dsimp only at e0
  split at e0
  · rename_i n st
    split at e0
    · rename_i q0
      cases e0
      refine xP_rowN (cc := xarA n.toNatClampNeg (fun _ => none)) hsz h (fun ls H locs gg b1 b2 kk => ?_)
      refine W.anewA (t := .int) hx hb hown (hL.1 _ (hw.1 q0) rfl) hL.2.2.2.2.2.2.2.2.2.2.2.1 rfl hdg rfl hg.1 hg.2 (by omega) (by omega) fun c1 kA comp f1 f2 f3 f4 => ?_
      have ec : c1 = cA .char := Option.some.inj (f1.symm.trans (hL.2.1.2 3 _ rfl).2)
      subst ec
      generalize hH1 : H.push ({ cls := cA .char, slots := Array.replicate n.toNatClampNeg .null, vm := .none } : Cell) = H1
      have z1 : H1.size = H.size + 1 := by rw [← hH1, Array.size_push]
      have e1 : H1[H.size]? = some (arrV (cA .char) n.toNatClampNeg (fun _ => .null)) := by rw [← hH1, Array.getElem?_push_size, ← arrV_new]
      have o1 : ∀ q : Nat, q < H.size → H1[q]? = H[q]? := fun q hq => by rw [← hH1, Array.getElem?_push, if_neg (Nat.ne_of_lt hq)]
      have hk : ∀ (k : Nat) (x : Nat × va_E), (xws N0 κ cA AH)[k]? = some x → H1[x.1]? = H[x.1]? := fun k x hx => o1 x.1 ((gg.1.1 k x hx).lt)
      have hS := gg.1.2.2.1
      refine kk H.size H1 locs ((gg.1.1.kept hk).app (fun k x hx => ?_)) (gg.1.2.1.push gg.1.1 rfl (show N0 ≤ H.size from by have := hS.1; omega)) ⟨Nat.le_trans hS.1 (by omega), fun x h1 h2 => (o1 x (Nat.lt_of_lt_of_le h1 hS.1)).trans (hS.2.1 x h1 h2), hS.2.2⟩
      have hz : k < 1 := (List.getElem?_eq_some_iff.mp hx).1
      rw [show k = 0 by omega] at hx
      cases hx
      exact e1
    · rename_i q0
      cases e0
      refine xP_rowN (cc := xarR n.toNatClampNeg (fun _ => none)) hsz h (fun ls H locs gg b1 b2 kk => ?_)
      refine va_newq hx hb hown (hL.1 _ (hw.2 q0) rfl) hL.2.2.2.2.2.2.2.2.2.2.1 hL.2.1 gg.1.1 gg.1.2.1 gg.1.2.2.1 (fun q hq => by show N0 ≤ q; omega) hg.1 rfl hg.2 (by omega) (by omega) hdg (fun q c1 H1 hK1 q1 q2 q3 => ?_)
      obtain ⟨-, -, -, -, -, w1⟩ := (hK1.2 5 _ rfl).2
      obtain ⟨-, -, -, -, -, w2⟩ := (hL.2.1.2 4 _ rfl).2
      have ec : c1 = cA .boolean := Option.some.inj (w1.symm.trans w2)
      subst ec
      exact kk q H1 locs q1 q2 q3
  · cases e0
/-- a row of bytes again -/
theorem xs_clone (hκ : ∀ k, (κ k).category = 1) (hL : xL s args E N0 κ cA D) (hsz : s.heap.size = N0 + n0) (hR1 : rf.2.2.1 - n0 ≤ R.cells) (hR2 : rf.2.2.2 - k0 ≤ R.slots) (hR3 : 8 ≤ R.frames) (hR4 : 400 ≤ R.locals) (hx : p.tables.exec = Jvm.exec) (hb : c.code = y.by) {own : String} (hown : s.vm.findClass own = some m.cls) {x : Nat} {len r2 r3 : Nat} {pc : Nat} {AL : List (Option Value)} {st : List Value} {AH : xH} {g : Prop} {st' : xF} (hdg : decode y.by pc = .ok (.invokevirtual x, len)) (e0 : xop E prog y (.invokevirtual x) len 14 r2 r3 (pc, AL, st, AH) = some (g, .inl st')) (hg : g) (hlen : len = 3)
    (hw : Jvm.Cond.methodLink own x ⟨"[B", "clone", "()Ljava/lang/Object;"⟩ ∈ lw_tbl ∧ Jvm.Cond.sameMethod "[B" "java/lang/Object" "clone" "()Ljava/lang/Object;" ∈ lw_tbl ∧ Jvm.Cond.native ⟨"java/lang/Object", "clone", "()Ljava/lang/Object;"⟩ ∈ lw_tbl ∧ Jvm.Cond.instanceMethod ⟨"java/lang/Object", "clone", "()Ljava/lang/Object;"⟩ ∈ lw_tbl ∧ Jvm.Cond.selects "[B" ⟨"[B", "clone", "()Ljava/lang/Object;"⟩ ⟨"java/lang/Object", "clone", "()Ljava/lang/Object;"⟩ ∈ lw_tbl ∧ Jvm.Cond.castable "[B" "java/lang/Cloneable" ∈ lw_tbl)
    (h : xP p l e R s m args below meth c Qf N0 κ cA D n0 k0 rf st') : xP p l e R s m args below meth c Qf N0 κ cA D n0 k0 rf (pc, AL, st, AH) := by
  subst hlen
  unfold xop at e0
  dsimp only at e0
  rw [if_pos rfl] at e0
  split at e0
  · rename_i a st
    cases e0
    obtain ⟨hg1, hg2, hg3⟩ := hg
    refine xP_rowN (cc := xarB (xlenB AH a) (xfnB AH a)) hsz h (fun ls H locs gg b1 b2 kk => ?_)
    obtain ⟨ha, he⟩ := xisA_at gg.1.2.2.2 hg2
    have he2 := xws_get (N0 := N0) (κ := κ) (cA := cA) ha
    rw [he] at he2
    obtain ⟨w1, w2, w3, w4, w5, w6⟩ := hw
    exact va_clone hx hb gg.2.1.1.symm hown (hL.1 _ w1 rfl) (hL.1 _ w2 rfl) (hL.1 _ w3 rfl) (hL.1 _ w4 rfl) (hL.1 _ w5 rfl) (va_Nw.of rfl (hL.1 _ w6 rfl)) hL.2.1 gg.1.1 gg.1.2.1 gg.1.2.2.1 (fun q hq => by show N0 ≤ q; omega) a 2 he2 rfl (hL.2.1.2 2 _ rfl).2 (fun i v hv => va_fit (fun i hi => hg3 i hi) i v hv) (by omega) (by rw [xsm_eq hκ]; omega) (by omega) (by show _ + xlenB AH a ≤ _; omega) hdg (fun q H1 hK1 q1 q2 q3 => kk q H1 locs q1 q2 q3)
  · cases e0
/-- what the tables say of 'new E(text)' of an exception -/
def xokX (own : String) (b : ByteArray) (pc ik ci is ic : Nat) : Prop :=
  own = RX8 ∧ Jvm.Cond.classLink own ik (xen ci) ∈ lw_tbl ∧ Jvm.Cond.initialized (xen ci) ∈ lw_tbl ∧ (∃ text, (is, text) ∈ xmsg) ∧ (∀ w ∈ vx_atS own ic (xen ci) ["java/lang/RuntimeException", "java/lang/Exception"], w ∈ lw_tbl ∧ xgw w = true) ∧ (∀ w ∈ Jvm.Cond.classLink own ik (xen ci) :: Jvm.Cond.initialized (xen ci) :: vx_atS own ic (xen ci) ["java/lang/RuntimeException", "java/lang/Exception"], vx_ot w = true) ∧
  decode b (pc + 3) = .ok (.dup, 1) ∧ decode b (pc + 4) = .ok (.ldc is, 2) ∧ decode b (pc + 6) = .ok (.invokespecial ic, 3)
theorem xcls_getE : ∀ ci, 13 ≤ ci → ci < 16 → xcls[ci]? = some (xen ci, xTE, 0) := by
  intro ci h1 h2
  rcases (show ci = 13 ∨ ci = 14 ∨ ci = 15 by omega) with rfl | rfl | rfl <;> rfl
theorem xen_fit : ∀ ci, 13 ≤ ci → ci < 16 → Bundle.fit (xen ci) = true := by
  intro ci h1 h2
  rcases (show ci = 13 ∨ ci = 14 ∨ ci = 15 by omega) with rfl | rfl | rfl <;> decide +kernel
theorem xnm_fit : ∀ n ∈ ["java/lang/RuntimeException", "java/lang/Exception"], Bundle.fit n = true := by decide +kernel
theorem xs_newE (hL : xL s args E N0 κ cA D) (hst : l.stackTraces = false) (hsz : s.heap.size = N0 + n0) (hR1 : rf.2.2.1 - n0 ≤ R.cells) (hR2 : rf.2.2.2 - k0 ≤ R.slots) (hR3 : 8 ≤ R.frames) (hR4 : 400 ≤ R.locals) (hx : p.tables.exec = Jvm.exec) (hb : c.code = y.by) {own : String} (hown : s.vm.findClass own = some m.cls) {x : Nat} {len r1 r2 r3 : Nat} {pc : Nat} {AL : List (Option Value)} {st : List Value} {AH : xH} {g : Prop} {st' : xF} (hdg : decode y.by pc = .ok (.new x, len)) (e0 : xop E prog y (.new x) len r1 r2 r3 (pc, AL, st, AH) = some (g, .inl st')) (hg : g) (hlen : len = 3)
    (hκ : ∀ k, (κ k).category = 1) (hc : 13 ≤ r1) (hw : xokX own y.by pc x r1 r2 r3)
    (h : xP p l e R s m args below meth c Qf N0 κ cA D n0 k0 rf st') : xP p l e R s m args below meth c Qf N0 κ cA D n0 k0 rf (pc, AL, st, AH) := by
  subst hlen
  unfold xop at e0
  dsimp only at e0
  rw [if_neg (by omega)] at e0
  split at e0
  · rename_i hc2
    cases e0
    obtain ⟨w0, w1, w2, ⟨text, w3⟩, w4, w5, d3, d4, d6⟩ := hw
    obtain ⟨sa, hsa⟩ := hL.2.2.2.2.2.2.1 _ w3
    have hcat : ((st.map (xm N0 κ)).map fun v => v.category).sum = xsm st := by
      unfold xsm
      rw [List.map_map]
      congr 1
      exact List.map_congr_left (fun v _ => xm_cat hκ v)
    refine xP_rowN (cc := .inr (r1, [])) hsz h (fun ls H locs gg b1 b2 kk => ?_)
    subst w0
    exact vx_makeS hx hb hst hown (xen_fit r1 hc hc2) xnm_fit (hL.1 _ w1 rfl) (hL.1 _ w2 rfl) hsa (fun w hw => hL.1 w (w4 w hw).1 (w4 w hw).2) w5 hL.2.2.2.2.2.2.2.1.1 hL.2.2.2.2.2.2.2.1.2 gg.1.2.2.1 gg.2.1.1 hdg d3 d4 d6 hL.2.1 gg.1.1 gg.1.2.1 (fun q hq => by show N0 ≤ q; omega) (xcls_getE r1 hc hc2) (by show 2 + 3 < _; omega) (by rw [hcat]; show _ + (13 * (2 + 1) + 43) ≤ _; omega) (by omega) (by omega) (fun q H1 q1 q2 q3 => kk q H1 locs q1 q2 q3)
  · cases e0
theorem xs_objinit (hκ : ∀ k, (κ k).category = 1) (hL : xL s args E N0 κ cA D) (hR3 : 8 ≤ R.frames) (hR4 : 400 ≤ R.locals) (hx : p.tables.exec = Jvm.exec) (hb : c.code = y.by) {own : String} (hown : s.vm.findClass own = some m.cls) {x : Nat} {len r2 r3 : Nat} {pc : Nat} {AL : List (Option Value)} {st : List Value} {AH : xH} {g : Prop} {st' : xF} (hdg : decode y.by pc = .ok (.invokespecial x, len)) (e0 : xop E prog y (.invokespecial x) len 7 r2 r3 (pc, AL, st, AH) = some (g, .inl st')) (hg : g) (hlen : len = 3)
    (hw : Jvm.Cond.methodLink own x Lib.objectInit ∈ lw_tbl ∧ Jvm.Cond.instanceMethod Lib.objectInit ∈ lw_tbl ∧ Jvm.Cond.code Lib.objectInit ⟨#[0xb1]⟩ 1 none ∈ lw_tbl)
    (h : xP p l e R s m args below meth c Qf N0 κ cA D n0 k0 rf st') : xP p l e R s m args below meth c Qf N0 κ cA D n0 k0 rf (pc, AL, st, AH) := by
  subst hlen
  unfold xop at e0
  dsimp only at e0
  rw [if_pos rfl] at e0
  split at e0
  · cases e0
    refine xP_row h (fun ls H locs gg kk => W.objInit hx hb hown (hL.1 _ hw.1 rfl) (hL.1 _ hw.2.1 rfl) (hL.1 _ hw.2.2 rfl) rfl gg.2.1.1 rfl hdg (by omega) ?_ (W.eq rfl (kk ls gg)))
    rw [xsm_eq hκ]
    show 2 * 0 + _ + 12 ≤ _
    omega
  · cases e0
theorem xtb_fit (i k : Nat) : fits .byte (.int ((xtb.getD i []).getD k 0)) = true := by
  have h : ∀ l ∈ xtb, ∀ z ∈ l, fits .byte (.int z) = true := by decide +kernel
  generalize hl : xtb.getD i [] = l
  rw [List.getD_eq_getElem?_getD]
  cases q : l[k]? with
  | none => rfl
  | some z =>
    show fits .byte (.int z) = true
    rw [List.getD_eq_getElem?_getD] at hl
    cases q2 : xtb[i]? with
    | none => rw [q2] at hl; have hl : [] = l := hl; rw [← hl] at q; cases q
    | some l2 => rw [q2] at hl; have hl : l2 = l := hl; subst hl; exact h _ (List.mem_of_getElem? q2) z (List.mem_of_getElem? q)
theorem xs_copy (hκ : ∀ k, (κ k).category = 1) (hL : xL s args E N0 κ cA D) (hR3 : 8 ≤ R.frames) (hR4 : 400 ≤ R.locals) (hx : p.tables.exec = Jvm.exec) (hb : c.code = y.by) {own : String} (hown : s.vm.findClass own = some m.cls) {x : Nat} {len r2 r3 : Nat} {pc : Nat} {AL : List (Option Value)} {st : List Value} {AH : xH} {g : Prop} {st' : xF} (hdg : decode y.by pc = .ok (.invokestatic x, len)) (e0 : xop E prog y (.invokestatic x) len 8 r2 r3 (pc, AL, st, AH) = some (g, .inl st')) (hg : g) (hlen : len = 3)
    (hw : Jvm.Cond.methodLink own x arraycopyName ∈ lw_tbl ∧ Jvm.Cond.native arraycopyName ∈ lw_tbl ∧ Jvm.Cond.static arraycopyName ∈ lw_tbl ∧ Jvm.Cond.initialized "java/lang/System" ∈ lw_tbl)
    (h : xP p l e R s m args below meth c Qf N0 κ cA D n0 k0 rf st') : xP p l e R s m args below meth c Qf N0 κ cA D n0 k0 rf (pc, AL, st, AH) := by
  subst hlen
  unfold xop at e0
  dsimp only at e0
  rw [if_pos rfl] at e0
  have hn7 : nativeFrameWords "java/lang/System" "arraycopy" 5 = 7 := by decide +kernel
  split at e0
  · rename_i n dp d sp a st
    cases e0
    obtain ⟨g1, g2, g3, g4, g5, ⟨g6, g7⟩, g8, g9⟩ := hg
    refine xP_rowH h rfl (fun ls H locs gg kk => ?_)
    obtain ⟨ha, he⟩ := xisA_at gg.1.2.2.2 g6
    have he2 := xws_get (N0 := N0) (κ := κ) (cA := cA) ha
    rw [he] at he2
    obtain ⟨hd, hf⟩ := xisA_at gg.1.2.2.2 g7
    have hf2 := xws_get (N0 := N0) (κ := κ) (cA := cA) hd
    rw [hf] at hf2
    refine va_copyi hx hb gg.2.1.1.symm hown (hL.1 _ hw.1 rfl) (hL.1 _ hw.2.1 rfl) (hL.1 _ hw.2.2.1 rfl) (hL.1 _ hw.2.2.2 rfl) hL.2.1 gg.1.1 gg.1.2.1 gg.1.2.2.1 a d 2 2 he2 hf2 rfl rfl rfl g1 g2 g3 g4 g5 (fun i hi => g8 _ (by omega)) (by omega) ?_ hdg (fun H1 locs1 q1 q2 q3 => kk H1 locs1 (xG_put (cc := xarB (xlenB AH d) (va_cpy (xfnB AH a) (xfnB AH d) sp.toNatClampNeg dp.toNatClampNeg n.toNatClampNeg)) gg hd q1 q2 q3))
    rw [xsm_eq hκ]
    omega
  · rename_i n dp d sp q st
    split at e0
    · rename_i i hi
      unfold xisB at hi
      split at hi
      · rename_i hq
        cases hi
        cases e0
        obtain ⟨g1, g2, g3, g4, g5, g7, g8⟩ := hg
        obtain ⟨ak, av, e1, e2, f1, f2, f3, f4⟩ := hL.2.2.2.2.1 ((q - 101) / 2) (by omega)
        have eq : 101 + 2 * ((q - 101) / 2) = q := by omega
        rw [eq] at e2
        refine xP_rowH h rfl (fun ls H locs gg kk => ?_)
        obtain ⟨hd, hf⟩ := xisA_at gg.1.2.2.2 g7
        have hf2 := xws_get (N0 := N0) (κ := κ) (cA := cA) hd
        rw [hf] at hf2
        simp only [List.map_cons, xm, e2]
        refine vk_copyt hx hb gg.2.1.1.symm hown (hL.1 _ hw.1 rfl) (hL.1 _ hw.2.1 rfl) (hL.1 _ hw.2.2.1 rfl) (hL.1 _ hw.2.2.2 rfl) hL.2.1 gg.1.1 gg.1.2.1 gg.1.2.2.1 f4 d 2 hf2 rfl g1 g2 g3 g4 g5 (fun i hi => xtb_fit _ _) (by omega) ?_ hdg (fun H1 locs1 q1 q2 q3 => kk H1 locs1 (xG_put (cc := xarB (xlenB AH d) (va_cpy (fun k => (xtb.getD ((q - 101) / 2) []).getD k 0) (xfnB AH d) sp.toNatClampNeg dp.toNatClampNeg n.toNatClampNeg)) gg hd q1 q2 q3))
        rw [xsm_eq hκ]
        omega
      · cases hi
    · cases e0
  · cases e0
theorem xs_math (hκ : ∀ k, (κ k).category = 1) (hL : xL s args E N0 κ cA D) (hR1 : rf.2.2.1 - n0 ≤ R.cells) (hR2 : rf.2.2.2 - k0 ≤ R.slots) (hR3 : 8 ≤ R.frames) (hR4 : 400 ≤ R.locals) (hx : p.tables.exec = Jvm.exec) (hb : c.code = y.by) {own : String} (hown : s.vm.findClass own = some m.cls) {x : Nat} {len r1 : Nat} {pc : Nat} {AL : List (Option Value)} {st : List Value} {AH : xH} {g : Prop} {st' : xF} (hdg : decode y.by pc = .ok (.invokestatic x, len)) (e0 : xmath r1 pc AL st AH = some (g, .inl st')) (hg : g) (hlen : len = 3)
    (hw : Jvm.Cond.initialized "java/lang/Math" ∈ lw_tbl ∧ (r1 = 11 ∧ Jvm.Cond.methodLink own x Lib.Math.abs.name ∈ lw_tbl ∧ Jvm.Cond.static Lib.Math.abs.name ∈ lw_tbl ∧ Jvm.Cond.code Lib.Math.abs.name Lib.Math.abs.code 1 (some .int) ∈ lw_tbl ∨ r1 = 9 ∧ Jvm.Cond.methodLink own x Lib.Math.max.name ∈ lw_tbl ∧ Jvm.Cond.static Lib.Math.max.name ∈ lw_tbl ∧ Jvm.Cond.code Lib.Math.max.name Lib.Math.max.code 2 (some .int) ∈ lw_tbl ∨ r1 = 10 ∧ Jvm.Cond.methodLink own x Lib.Math.min.name ∈ lw_tbl ∧ Jvm.Cond.static Lib.Math.min.name ∈ lw_tbl ∧ Jvm.Cond.code Lib.Math.min.name Lib.Math.min.code 2 (some .int) ∈ lw_tbl))
    (h : xP p l e R s m args below meth c Qf N0 κ cA D n0 k0 rf st') : xP p l e R s m args below meth c Qf N0 κ cA D n0 k0 rf (pc, AL, st, AH) := by
  subst hlen
  obtain ⟨w0, hw⟩ := hw
  intro z1 z2
  have z1 : n0 ≤ AH.2.1 := z1
  have z2 : k0 ≤ AH.2.2 := z2
  rcases hw with ⟨rfl, w1, w2, w3⟩ | ⟨rfl, w1, w2, w3⟩ | ⟨rfl, w1, w2, w3⟩
  · unfold xmath at e0
    split at e0
    · rw [if_pos rfl] at e0
      cases e0
      have h9 := h z1 z2
      have h8 : AH.2.1 ≤ rf.2.2.1 := h9.1.1
      have h7 : AH.2.2 ≤ rf.2.2.2 := h9.1.2
      refine ⟨h9.1, fun ls H locs gg => va_mabs hx hb gg.2.1.1.symm hown (hL.1 _ w1 rfl) (hL.1 _ w2 rfl) (hL.1 _ w0 rfl) (hL.1 _ w3 rfl) (by omega) (by rw [xsm_eq hκ]; omega) (by show AH.2.1 - n0 ≤ _; omega) (by show AH.2.2 - k0 ≤ _; omega) hdg (h9.2 ls H locs gg)⟩
    · cases e0
  · unfold xmath at e0
    split at e0
    · rw [if_neg (by decide)] at e0
      split at e0
      · rw [if_pos rfl] at e0
        cases e0
        have h9 := h z1 z2
        have h8 : AH.2.1 ≤ rf.2.2.1 := h9.1.1
        have h7 : AH.2.2 ≤ rf.2.2.2 := h9.1.2
        refine ⟨h9.1, fun ls H locs gg => va_mmax hx hb gg.2.1.1.symm hown (hL.1 _ w1 rfl) (hL.1 _ w2 rfl) (hL.1 _ w0 rfl) (hL.1 _ w3 rfl) (by omega) (by rw [xsm_eq hκ]; omega) (by show AH.2.1 - n0 ≤ _; omega) (by show AH.2.2 - k0 ≤ _; omega) hdg (h9.2 ls H locs gg)⟩
      · cases e0
    · cases e0
  · unfold xmath at e0
    split at e0
    · rw [if_neg (by decide)] at e0
      split at e0
      · rw [if_neg (by decide)] at e0
        cases e0
        have h9 := h z1 z2
        have h8 : AH.2.1 ≤ rf.2.2.1 := h9.1.1
        have h7 : AH.2.2 ≤ rf.2.2.2 := h9.1.2
        refine ⟨h9.1, fun ls H locs gg => va_mmin hx hb gg.2.1.1.symm hown (hL.1 _ w1 rfl) (hL.1 _ w2 rfl) (hL.1 _ w0 rfl) (hL.1 _ w3 rfl) (by omega) (by rw [xsm_eq hκ]; omega) (by show AH.2.1 - n0 ≤ _; omega) (by show AH.2.2 - k0 ≤ _; omega) hdg (h9.2 ls H locs gg)⟩
      · cases e0
    · cases e0
end XCALL
