/-! ===== the steps of the machine are steps of the model: rows that go on in the same heap ===== -/
section XSTEP
variable {p : Program} {l : Launch} {e : Env} {R : Room} {s : State} {m : MethodId} {args : Array Value} {below : List Frame} {meth : Method} {c : Code} {Qf : State → Prop}
variable {N0 : Nat} {κ : Nat → Value} {cA : FieldType → ClassId} {D : va_G} {n0 k0 : Nat} {rf : xR} {E : xE} {prog : Nat → xM} {y : xM}

/-- an abstract heap and locals, and the model's -/
def xG (s : State) (c : Code) (N0 : Nat) (κ : Nat → Value) (cA : FieldType → ClassId) (D : va_G) (AH : xH) (AL : List (Option Value)) (H : Heap) (locs : List Loc) (ls : Array Slot) : Prop :=
  (va_P D xcls (xws N0 κ cA AH) H ∧ va_D (xAA N0) (xws N0 κ cA AH) ∧ va_S (xAA N0) s.heap H locs ∧ xJ AH) ∧ lv_has ls c.maxLocals (xal N0 κ AL) ∧ AL.length = c.maxLocals
def xP (p : Program) (l : Launch) (e : Env) (R : Room) (s : State) (m : MethodId) (args : Array Value) (below : List Frame) (meth : Method) (c : Code) (Qf : State → Prop) (N0 : Nat) (κ : Nat → Value) (cA : FieldType → ClassId) (D : va_G) (n0 k0 : Nat) (rf : xR) (st : xF) : Prop :=
  n0 ≤ st.2.2.2.2.1 → k0 ≤ st.2.2.2.2.2 → (st.2.2.2.2.1 ≤ rf.2.2.1 ∧ st.2.2.2.2.2 ≤ rf.2.2.2) ∧ ∀ (ls : Array Slot) (H : Heap) (locs : List Loc), xG s c N0 κ cA D st.2.2.2 st.2.1 H locs ls →
    W p l e R s m args below meth c H locs (st.2.2.2.2.1 - n0) (st.2.2.2.2.2 - k0) Qf (F0 m st.1 ls (st.2.2.1.map (xm N0 κ)))
theorem xP_row {pc pc' : Nat} {AL AL' : List (Option Value)} {st st' : List Value} {AH : xH} (h : xP p l e R s m args below meth c Qf N0 κ cA D n0 k0 rf (pc', AL', st', AH))
    (k : ∀ (ls : Array Slot) (H : Heap) (locs : List Loc), xG s c N0 κ cA D AH AL H locs ls → (∀ ls' : Array Slot, xG s c N0 κ cA D AH AL' H locs ls' → W p l e R s m args below meth c H locs (AH.2.1 - n0) (AH.2.2 - k0) Qf (F0 m pc' ls' (st'.map (xm N0 κ)))) →
      W p l e R s m args below meth c H locs (AH.2.1 - n0) (AH.2.2 - k0) Qf (F0 m pc ls (st.map (xm N0 κ)))) : xP p l e R s m args below meth c Qf N0 κ cA D n0 k0 rf (pc, AL, st, AH) :=
  fun h1 h2 => ⟨(h h1 h2).1, fun ls H locs g => k ls H locs g (fun ls' g' => (h h1 h2).2 ls' H locs g')⟩
theorem xtgt_eq {pc : Nat} {off : Int} (h : 0 ≤ (pc : Int) + off) : (pc : Int) + off = ((xtgt pc off : Nat) : Int) := by unfold xtgt; omega
theorem xG_set1 {AH : xH} {AL : List (Option Value)} {H : Heap} {locs : List Loc} {ls ls' : Array Slot} {i : Nat} {v : Value} (hκ : ∀ k, (κ k).category = 1) (g : xG s c N0 κ cA D AH AL H locs ls) (hi : i < AL.length) (hv : ∀ z, v ≠ .float z) (hc : xcat v = false) (h : lv_has ls' c.maxLocals ((i, xm N0 κ v) :: (xal N0 κ AL).filter (fun q => !(q.1 == i) && !(q.1 + 1 == i && q.2.category == 2)))) : xG s c N0 κ cA D AH (AL.set i (some v)) H locs ls' :=
  ⟨g.1, xal_set1 hκ hi hv hc h, by rw [List.length_set]; exact g.2.2⟩
theorem xG_set2 {AH : xH} {AL : List (Option Value)} {H : Heap} {locs : List Loc} {ls ls' : Array Slot} {i : Nat} {v : Value} (hκ : ∀ k, (κ k).category = 1) (g : xG s c N0 κ cA D AH AL H locs ls) (hi : i + 1 < AL.length) (hc : xcat v = true) (h : lv_has ls' c.maxLocals ((i, xm N0 κ v) :: (xal N0 κ AL).filter (fun q => !(q.1 == i) && (!(q.1 == i + 1) && !(q.1 + 1 == i && q.2.category == 2))))) : xG s c N0 κ cA D AH ((AL.set i (some v)).set (i + 1) (some xmk)) H locs ls' :=
  ⟨g.1, xal_set2 hκ hi hc h, by rw [List.length_set, List.length_set]; exact g.2.2⟩
abbrev xPP (p : Program) (l : Launch) (e : Env) (R : Room) (s : State) (m : MethodId) (args : Array Value) (below : List Frame) (meth : Method) (c : Code) (Qf : State → Prop) (N0 : Nat) (κ : Nat → Value) (cA : FieldType → ClassId) (D : va_G) (n0 k0 : Nat) (rf : xR) := xP p l e R s m args below meth c Qf N0 κ cA D n0 k0 rf

theorem xisr_c {v : Value} (h : xisr v = true) : xcat v = false ∧ ∀ z, v ≠ .float z := by
  cases v <;> first | (exfalso; cases h; done) | exact ⟨rfl, fun z q => by cases q⟩
theorem xisr_m {v : Value} (hκ2 : ∀ k, (∃ a, κ k = .ref a) ∨ κ k = .null) (h : xisr v = true) : (∃ a, xm N0 κ v = .ref a) ∨ xm N0 κ v = .null := by
  cases v
  case ref a => exact Or.inl ⟨_, rfl⟩
  case null => exact Or.inr rfl
  case retAddr k => exact hκ2 k
  all_goals cases h

theorem xs_iconst (hκ : ∀ k, (κ k).category = 1) (hκ2 : ∀ k, (∃ a, κ k = .ref a) ∨ κ k = .null) (hx : p.tables.exec = Jvm.exec) (hb : c.code = y.by) {z : Int} {len r1 r2 r3 : Nat} {pc : Nat} {AL : List (Option Value)} {st : List Value} {AH : xH} {g : Prop} {st' : xF} (hdg : decode y.by pc = .ok (.iconst z, len)) (e0 : xop E prog y (.iconst z) len r1 r2 r3 (pc, AL, st, AH) = some (g, .inl st')) (hg : g) (hlen : len = 1)
    (h : xP p l e R s m args below meth c Qf N0 κ cA D n0 k0 rf st') : xP p l e R s m args below meth c Qf N0 κ cA D n0 k0 rf (pc, AL, st, AH) := by
  subst hlen
  unfold xop at e0
  dsimp only at e0
  cases e0
  exact xP_row h (fun ls H locs g kk => lv_iconst hx hb hdg rfl (kk ls g))

theorem xs_bipush (hκ : ∀ k, (κ k).category = 1) (hκ2 : ∀ k, (∃ a, κ k = .ref a) ∨ κ k = .null) (hx : p.tables.exec = Jvm.exec) (hb : c.code = y.by) {z : Int} {len r1 r2 r3 : Nat} {pc : Nat} {AL : List (Option Value)} {st : List Value} {AH : xH} {g : Prop} {st' : xF} (hdg : decode y.by pc = .ok (.bipush z, len)) (e0 : xop E prog y (.bipush z) len r1 r2 r3 (pc, AL, st, AH) = some (g, .inl st')) (hg : g) (hlen : len = 2)
    (h : xP p l e R s m args below meth c Qf N0 κ cA D n0 k0 rf st') : xP p l e R s m args below meth c Qf N0 κ cA D n0 k0 rf (pc, AL, st, AH) := by
  subst hlen
  unfold xop at e0
  dsimp only at e0
  cases e0
  exact xP_row h (fun ls H locs g kk => lv_bipush hx hb hdg rfl (kk ls g))

theorem xs_sipush (hκ : ∀ k, (κ k).category = 1) (hκ2 : ∀ k, (∃ a, κ k = .ref a) ∨ κ k = .null) (hx : p.tables.exec = Jvm.exec) (hb : c.code = y.by) {z : Int} {len r1 r2 r3 : Nat} {pc : Nat} {AL : List (Option Value)} {st : List Value} {AH : xH} {g : Prop} {st' : xF} (hdg : decode y.by pc = .ok (.sipush z, len)) (e0 : xop E prog y (.sipush z) len r1 r2 r3 (pc, AL, st, AH) = some (g, .inl st')) (hg : g) (hlen : len = 3)
    (h : xP p l e R s m args below meth c Qf N0 κ cA D n0 k0 rf st') : xP p l e R s m args below meth c Qf N0 κ cA D n0 k0 rf (pc, AL, st, AH) := by
  subst hlen
  unfold xop at e0
  dsimp only at e0
  cases e0
  exact xP_row h (fun ls H locs g kk => lv_sipush hx hb hdg rfl (kk ls g))

theorem xs_lconst (hκ : ∀ k, (κ k).category = 1) (hκ2 : ∀ k, (∃ a, κ k = .ref a) ∨ κ k = .null) (hx : p.tables.exec = Jvm.exec) (hb : c.code = y.by) {z : Fin 2} {len r1 r2 r3 : Nat} {pc : Nat} {AL : List (Option Value)} {st : List Value} {AH : xH} {g : Prop} {st' : xF} (hdg : decode y.by pc = .ok (.lconst z, len)) (e0 : xop E prog y (.lconst z) len r1 r2 r3 (pc, AL, st, AH) = some (g, .inl st')) (hg : g) (hlen : len = 1)
    (h : xP p l e R s m args below meth c Qf N0 κ cA D n0 k0 rf st') : xP p l e R s m args below meth c Qf N0 κ cA D n0 k0 rf (pc, AL, st, AH) := by
  subst hlen
  unfold xop at e0
  dsimp only at e0
  cases e0
  exact xP_row h (fun ls H locs g kk => lv_lconst hx hb hdg rfl (kk ls g))

theorem xs_dconst (hκ : ∀ k, (κ k).category = 1) (hκ2 : ∀ k, (∃ a, κ k = .ref a) ∨ κ k = .null) (hx : p.tables.exec = Jvm.exec) (hb : c.code = y.by) {z : Fin 2} {len r1 r2 r3 : Nat} {pc : Nat} {AL : List (Option Value)} {st : List Value} {AH : xH} {g : Prop} {st' : xF} (hdg : decode y.by pc = .ok (.dconst z, len)) (e0 : xop E prog y (.dconst z) len r1 r2 r3 (pc, AL, st, AH) = some (g, .inl st')) (hg : g) (hlen : len = 1)
    (h : xP p l e R s m args below meth c Qf N0 κ cA D n0 k0 rf st') : xP p l e R s m args below meth c Qf N0 κ cA D n0 k0 rf (pc, AL, st, AH) := by
  subst hlen
  unfold xop at e0
  dsimp only at e0
  split at e0
  · rename_i hz
    cases e0
    obtain rfl : z = 0 := Fin.ext hz
    exact xP_row h (fun ls H locs g kk => lv_dconst0 hx hb hdg (kk ls g))
  · cases e0

theorem xs_iload (hκ : ∀ k, (κ k).category = 1) (hκ2 : ∀ k, (∃ a, κ k = .ref a) ∨ κ k = .null) (hx : p.tables.exec = Jvm.exec) (hb : c.code = y.by) {k : Nat} {len r1 r2 r3 : Nat} {pc : Nat} {AL : List (Option Value)} {st : List Value} {AH : xH} {g : Prop} {st' : xF} (hdg : decode y.by pc = .ok (.iload k, len)) (e0 : xop E prog y (.iload k) len r1 r2 r3 (pc, AL, st, AH) = some (g, .inl st')) (hg : g) (hlen : len = 2)
    (h : xP p l e R s m args below meth c Qf N0 κ cA D n0 k0 rf st') : xP p l e R s m args below meth c Qf N0 κ cA D n0 k0 rf (pc, AL, st, AH) := by
  subst hlen
  unfold xop at e0
  dsimp only at e0
  split at e0
  · rename_i v hv
    cases e0
    exact xP_row h (fun ls H locs g kk => lv_iload hx hb hdg (xal_at (v := .int v) g.2.1 hv (fun q => nomatch q) (fun z q => nomatch q)) (kk ls g))
  · cases e0

theorem xs_iload_n (hκ : ∀ k, (κ k).category = 1) (hκ2 : ∀ k, (∃ a, κ k = .ref a) ∨ κ k = .null) (hx : p.tables.exec = Jvm.exec) (hb : c.code = y.by) {k : Fin 4} {len r1 r2 r3 : Nat} {pc : Nat} {AL : List (Option Value)} {st : List Value} {AH : xH} {g : Prop} {st' : xF} (hdg : decode y.by pc = .ok (.iload_n k, len)) (e0 : xop E prog y (.iload_n k) len r1 r2 r3 (pc, AL, st, AH) = some (g, .inl st')) (hg : g) (hlen : len = 1)
    (h : xP p l e R s m args below meth c Qf N0 κ cA D n0 k0 rf st') : xP p l e R s m args below meth c Qf N0 κ cA D n0 k0 rf (pc, AL, st, AH) := by
  subst hlen
  unfold xop at e0
  dsimp only at e0
  split at e0
  · rename_i v hv
    cases e0
    exact xP_row h (fun ls H locs g kk => lv_iload_n hx hb hdg rfl (xal_at (v := .int v) g.2.1 hv (fun q => nomatch q) (fun z q => nomatch q)) (kk ls g))
  · cases e0

theorem xs_lload (hκ : ∀ k, (κ k).category = 1) (hκ2 : ∀ k, (∃ a, κ k = .ref a) ∨ κ k = .null) (hx : p.tables.exec = Jvm.exec) (hb : c.code = y.by) {k : Nat} {len r1 r2 r3 : Nat} {pc : Nat} {AL : List (Option Value)} {st : List Value} {AH : xH} {g : Prop} {st' : xF} (hdg : decode y.by pc = .ok (.lload k, len)) (e0 : xop E prog y (.lload k) len r1 r2 r3 (pc, AL, st, AH) = some (g, .inl st')) (hg : g) (hlen : len = 2)
    (h : xP p l e R s m args below meth c Qf N0 κ cA D n0 k0 rf st') : xP p l e R s m args below meth c Qf N0 κ cA D n0 k0 rf (pc, AL, st, AH) := by
  subst hlen
  unfold xop at e0
  dsimp only at e0
  split at e0
  · rename_i v z hv hz
    cases e0
    exact xP_row h (fun ls H locs g kk => lv_lload hx hb hdg (xal_at (v := .long v) g.2.1 hv (fun _ => ⟨z, hz⟩) (fun z q => nomatch q)) (kk ls g))
  · cases e0

theorem xs_lload_n (hκ : ∀ k, (κ k).category = 1) (hκ2 : ∀ k, (∃ a, κ k = .ref a) ∨ κ k = .null) (hx : p.tables.exec = Jvm.exec) (hb : c.code = y.by) {k : Fin 4} {len r1 r2 r3 : Nat} {pc : Nat} {AL : List (Option Value)} {st : List Value} {AH : xH} {g : Prop} {st' : xF} (hdg : decode y.by pc = .ok (.lload_n k, len)) (e0 : xop E prog y (.lload_n k) len r1 r2 r3 (pc, AL, st, AH) = some (g, .inl st')) (hg : g) (hlen : len = 1)
    (h : xP p l e R s m args below meth c Qf N0 κ cA D n0 k0 rf st') : xP p l e R s m args below meth c Qf N0 κ cA D n0 k0 rf (pc, AL, st, AH) := by
  subst hlen
  unfold xop at e0
  dsimp only at e0
  split at e0
  · rename_i v z hv hz
    cases e0
    exact xP_row h (fun ls H locs g kk => lv_lload_n hx hb hdg rfl (xal_at (v := .long v) g.2.1 hv (fun _ => ⟨z, hz⟩) (fun z q => nomatch q)) (kk ls g))
  · cases e0

theorem xs_dload (hκ : ∀ k, (κ k).category = 1) (hκ2 : ∀ k, (∃ a, κ k = .ref a) ∨ κ k = .null) (hx : p.tables.exec = Jvm.exec) (hb : c.code = y.by) {k : Nat} {len r1 r2 r3 : Nat} {pc : Nat} {AL : List (Option Value)} {st : List Value} {AH : xH} {g : Prop} {st' : xF} (hdg : decode y.by pc = .ok (.dload k, len)) (e0 : xop E prog y (.dload k) len r1 r2 r3 (pc, AL, st, AH) = some (g, .inl st')) (hg : g) (hlen : len = 2)
    (h : xP p l e R s m args below meth c Qf N0 κ cA D n0 k0 rf st') : xP p l e R s m args below meth c Qf N0 κ cA D n0 k0 rf (pc, AL, st, AH) := by
  subst hlen
  unfold xop at e0
  dsimp only at e0
  split at e0
  · rename_i v z hv hz
    cases e0
    exact xP_row h (fun ls H locs g kk => lv_dload hx hb hdg (xal_at (v := .double v) g.2.1 hv (fun _ => ⟨z, hz⟩) (fun z q => nomatch q)) (kk ls g))
  · cases e0

theorem xs_aload (hκ : ∀ k, (κ k).category = 1) (hκ2 : ∀ k, (∃ a, κ k = .ref a) ∨ κ k = .null) (hx : p.tables.exec = Jvm.exec) (hb : c.code = y.by) {k : Nat} {len r1 r2 r3 : Nat} {pc : Nat} {AL : List (Option Value)} {st : List Value} {AH : xH} {g : Prop} {st' : xF} (hdg : decode y.by pc = .ok (.aload k, len)) (e0 : xop E prog y (.aload k) len r1 r2 r3 (pc, AL, st, AH) = some (g, .inl st')) (hg : g) (hlen : len = 2)
    (h : xP p l e R s m args below meth c Qf N0 κ cA D n0 k0 rf st') : xP p l e R s m args below meth c Qf N0 κ cA D n0 k0 rf (pc, AL, st, AH) := by
  subst hlen
  unfold xop at e0
  dsimp only at e0
  split at e0
  · rename_i v hv
    cases e0
    refine xP_row h (fun ls H locs g kk => ?_)
    have h1 := xal_at (N0 := N0) (κ := κ) (v := v) g.2.1 hv (fun q => absurd q (by rw [(xisr_c hg).1]; decide)) (xisr_c hg).2
    have h2 := kk ls g
    simp only [List.map_cons] at h1 h2
    rcases xisr_m (N0 := N0) hκ2 hg with ⟨a, ha⟩ | ha
    · rw [ha] at h1 h2; exact lv_aload hx hb hdg h1 h2
    · rw [ha] at h1 h2; exact lv_aloadN hx hb hdg h1 h2
  · cases e0

theorem xs_aload_n (hκ : ∀ k, (κ k).category = 1) (hκ2 : ∀ k, (∃ a, κ k = .ref a) ∨ κ k = .null) (hx : p.tables.exec = Jvm.exec) (hb : c.code = y.by) {k : Fin 4} {len r1 r2 r3 : Nat} {pc : Nat} {AL : List (Option Value)} {st : List Value} {AH : xH} {g : Prop} {st' : xF} (hdg : decode y.by pc = .ok (.aload_n k, len)) (e0 : xop E prog y (.aload_n k) len r1 r2 r3 (pc, AL, st, AH) = some (g, .inl st')) (hg : g) (hlen : len = 1)
    (h : xP p l e R s m args below meth c Qf N0 κ cA D n0 k0 rf st') : xP p l e R s m args below meth c Qf N0 κ cA D n0 k0 rf (pc, AL, st, AH) := by
  subst hlen
  unfold xop at e0
  dsimp only at e0
  split at e0
  · rename_i v hv
    cases e0
    refine xP_row h (fun ls H locs g kk => ?_)
    have h1 := xal_at (N0 := N0) (κ := κ) (v := v) g.2.1 hv (fun q => absurd q (by rw [(xisr_c hg).1]; decide)) (xisr_c hg).2
    have h2 := kk ls g
    simp only [List.map_cons] at h1 h2
    rcases xisr_m (N0 := N0) hκ2 hg with ⟨a, ha⟩ | ha
    · rw [ha] at h1 h2; exact lv_aload_n hx hb hdg rfl h1 h2
    · rw [ha] at h1 h2; exact lv_aload_nN hx hb hdg rfl h1 h2
  · cases e0

theorem xs_istore (hκ : ∀ k, (κ k).category = 1) (hκ2 : ∀ k, (∃ a, κ k = .ref a) ∨ κ k = .null) (hx : p.tables.exec = Jvm.exec) (hb : c.code = y.by) {k : Nat} {len r1 r2 r3 : Nat} {pc : Nat} {AL : List (Option Value)} {st : List Value} {AH : xH} {g : Prop} {st' : xF} (hdg : decode y.by pc = .ok (.istore k, len)) (e0 : xop E prog y (.istore k) len r1 r2 r3 (pc, AL, st, AH) = some (g, .inl st')) (hg : g) (hlen : len = 2)
    (h : xP p l e R s m args below meth c Qf N0 κ cA D n0 k0 rf st') : xP p l e R s m args below meth c Qf N0 κ cA D n0 k0 rf (pc, AL, st, AH) := by
  subst hlen
  unfold xop at e0
  dsimp only at e0
  split at e0
  · rename_i v st
    cases e0
    exact xP_row h (fun ls H locs g kk => lv_istore hx hb hdg g.2.1 (by rw [← g.2.2]; exact hg) rfl (fun ls' h' => kk ls' (xG_set1 (v := .int v) hκ g hg (fun z q => nomatch q) rfl h')))
  · cases e0

theorem xs_istore_n (hκ : ∀ k, (κ k).category = 1) (hκ2 : ∀ k, (∃ a, κ k = .ref a) ∨ κ k = .null) (hx : p.tables.exec = Jvm.exec) (hb : c.code = y.by) {k : Fin 4} {len r1 r2 r3 : Nat} {pc : Nat} {AL : List (Option Value)} {st : List Value} {AH : xH} {g : Prop} {st' : xF} (hdg : decode y.by pc = .ok (.istore_n k, len)) (e0 : xop E prog y (.istore_n k) len r1 r2 r3 (pc, AL, st, AH) = some (g, .inl st')) (hg : g) (hlen : len = 1)
    (h : xP p l e R s m args below meth c Qf N0 κ cA D n0 k0 rf st') : xP p l e R s m args below meth c Qf N0 κ cA D n0 k0 rf (pc, AL, st, AH) := by
  subst hlen
  unfold xop at e0
  dsimp only at e0
  split at e0
  · rename_i v st
    cases e0
    exact xP_row h (fun ls H locs g kk => lv_istore_n hx hb hdg rfl g.2.1 (by rw [← g.2.2]; exact hg) rfl (fun ls' h' => kk ls' (xG_set1 (v := .int v) hκ g hg (fun z q => nomatch q) rfl h')))
  · cases e0

theorem xs_astore (hκ : ∀ k, (κ k).category = 1) (hκ2 : ∀ k, (∃ a, κ k = .ref a) ∨ κ k = .null) (hx : p.tables.exec = Jvm.exec) (hb : c.code = y.by) {k : Nat} {len r1 r2 r3 : Nat} {pc : Nat} {AL : List (Option Value)} {st : List Value} {AH : xH} {g : Prop} {st' : xF} (hdg : decode y.by pc = .ok (.astore k, len)) (e0 : xop E prog y (.astore k) len r1 r2 r3 (pc, AL, st, AH) = some (g, .inl st')) (hg : g) (hlen : len = 2)
    (h : xP p l e R s m args below meth c Qf N0 κ cA D n0 k0 rf st') : xP p l e R s m args below meth c Qf N0 κ cA D n0 k0 rf (pc, AL, st, AH) := by
  subst hlen
  unfold xop at e0
  dsimp only at e0
  split at e0
  · rename_i v st
    cases e0
    obtain ⟨hg, hv⟩ := hg
    refine xP_row h (fun ls H locs g kk => ?_)
    have k2 := fun (ls' : Array Slot) h' => kk ls' (xG_set1 (v := v) hκ g hg (xisr_c hv).2 (xisr_c hv).1 h')
    simp only [List.map_cons] at k2 ⊢
    rcases xisr_m (N0 := N0) hκ2 hv with ⟨a, ha⟩ | ha
    · rw [ha] at k2 ⊢; exact lv_astore hx hb hdg g.2.1 (by rw [← g.2.2]; exact hg) rfl k2
    · rw [ha] at k2 ⊢; exact lv_astoreN hx hb hdg g.2.1 (by rw [← g.2.2]; exact hg) rfl k2
  · cases e0

theorem xs_astore_n (hκ : ∀ k, (κ k).category = 1) (hκ2 : ∀ k, (∃ a, κ k = .ref a) ∨ κ k = .null) (hx : p.tables.exec = Jvm.exec) (hb : c.code = y.by) {k : Fin 4} {len r1 r2 r3 : Nat} {pc : Nat} {AL : List (Option Value)} {st : List Value} {AH : xH} {g : Prop} {st' : xF} (hdg : decode y.by pc = .ok (.astore_n k, len)) (e0 : xop E prog y (.astore_n k) len r1 r2 r3 (pc, AL, st, AH) = some (g, .inl st')) (hg : g) (hlen : len = 1)
    (h : xP p l e R s m args below meth c Qf N0 κ cA D n0 k0 rf st') : xP p l e R s m args below meth c Qf N0 κ cA D n0 k0 rf (pc, AL, st, AH) := by
  subst hlen
  unfold xop at e0
  dsimp only at e0
  split at e0
  · rename_i v st
    cases e0
    obtain ⟨hg, hv⟩ := hg
    refine xP_row h (fun ls H locs g kk => ?_)
    have k2 := fun (ls' : Array Slot) h' => kk ls' (xG_set1 (v := v) hκ g hg (xisr_c hv).2 (xisr_c hv).1 h')
    simp only [List.map_cons] at k2 ⊢
    rcases xisr_m (N0 := N0) hκ2 hv with ⟨a, ha⟩ | ha
    · rw [ha] at k2 ⊢; exact lv_astore_n hx hb hdg rfl g.2.1 (by rw [← g.2.2]; exact hg) rfl k2
    · rw [ha] at k2 ⊢; exact lv_astore_nN hx hb hdg rfl g.2.1 (by rw [← g.2.2]; exact hg) rfl k2
  · cases e0

theorem xs_lstore (hκ : ∀ k, (κ k).category = 1) (hκ2 : ∀ k, (∃ a, κ k = .ref a) ∨ κ k = .null) (hx : p.tables.exec = Jvm.exec) (hb : c.code = y.by) {k : Nat} {len r1 r2 r3 : Nat} {pc : Nat} {AL : List (Option Value)} {st : List Value} {AH : xH} {g : Prop} {st' : xF} (hdg : decode y.by pc = .ok (.lstore k, len)) (e0 : xop E prog y (.lstore k) len r1 r2 r3 (pc, AL, st, AH) = some (g, .inl st')) (hg : g) (hlen : len = 2)
    (h : xP p l e R s m args below meth c Qf N0 κ cA D n0 k0 rf st') : xP p l e R s m args below meth c Qf N0 κ cA D n0 k0 rf (pc, AL, st, AH) := by
  subst hlen
  unfold xop at e0
  dsimp only at e0
  split at e0
  · rename_i v st
    cases e0
    exact xP_row h (fun ls H locs g kk => lv_lstore hx hb hdg g.2.1 (by rw [← g.2.2]; exact hg) rfl (fun ls' h' => kk ls' (xG_set2 (v := .long v) hκ g hg rfl h')))
  · cases e0

theorem xs_lstore_n (hκ : ∀ k, (κ k).category = 1) (hκ2 : ∀ k, (∃ a, κ k = .ref a) ∨ κ k = .null) (hx : p.tables.exec = Jvm.exec) (hb : c.code = y.by) {k : Fin 4} {len r1 r2 r3 : Nat} {pc : Nat} {AL : List (Option Value)} {st : List Value} {AH : xH} {g : Prop} {st' : xF} (hdg : decode y.by pc = .ok (.lstore_n k, len)) (e0 : xop E prog y (.lstore_n k) len r1 r2 r3 (pc, AL, st, AH) = some (g, .inl st')) (hg : g) (hlen : len = 1)
    (h : xP p l e R s m args below meth c Qf N0 κ cA D n0 k0 rf st') : xP p l e R s m args below meth c Qf N0 κ cA D n0 k0 rf (pc, AL, st, AH) := by
  subst hlen
  unfold xop at e0
  dsimp only at e0
  split at e0
  · rename_i v st
    cases e0
    exact xP_row h (fun ls H locs g kk => lv_lstore_n hx hb hdg rfl g.2.1 (by rw [← g.2.2]; exact hg) rfl (fun ls' h' => kk ls' (xG_set2 (v := .long v) hκ g hg rfl h')))
  · cases e0

theorem xs_dstore (hκ : ∀ k, (κ k).category = 1) (hκ2 : ∀ k, (∃ a, κ k = .ref a) ∨ κ k = .null) (hx : p.tables.exec = Jvm.exec) (hb : c.code = y.by) {k : Nat} {len r1 r2 r3 : Nat} {pc : Nat} {AL : List (Option Value)} {st : List Value} {AH : xH} {g : Prop} {st' : xF} (hdg : decode y.by pc = .ok (.dstore k, len)) (e0 : xop E prog y (.dstore k) len r1 r2 r3 (pc, AL, st, AH) = some (g, .inl st')) (hg : g) (hlen : len = 2)
    (h : xP p l e R s m args below meth c Qf N0 κ cA D n0 k0 rf st') : xP p l e R s m args below meth c Qf N0 κ cA D n0 k0 rf (pc, AL, st, AH) := by
  subst hlen
  unfold xop at e0
  dsimp only at e0
  split at e0
  · rename_i v st
    cases e0
    exact xP_row h (fun ls H locs g kk => lv_dstore hx hb hdg g.2.1 (by rw [← g.2.2]; exact hg) rfl (fun ls' h' => kk ls' (xG_set2 (v := .double v) hκ g hg rfl h')))
  · cases e0

theorem xs_iinc (hκ : ∀ k, (κ k).category = 1) (hκ2 : ∀ k, (∃ a, κ k = .ref a) ∨ κ k = .null) (hx : p.tables.exec = Jvm.exec) (hb : c.code = y.by) {k : Nat} {z : Int} {len r1 r2 r3 : Nat} {pc : Nat} {AL : List (Option Value)} {st : List Value} {AH : xH} {g : Prop} {st' : xF} (hdg : decode y.by pc = .ok (.iinc k z, len)) (e0 : xop E prog y (.iinc k z) len r1 r2 r3 (pc, AL, st, AH) = some (g, .inl st')) (hg : g) (hlen : len = 3)
    (h : xP p l e R s m args below meth c Qf N0 κ cA D n0 k0 rf st') : xP p l e R s m args below meth c Qf N0 κ cA D n0 k0 rf (pc, AL, st, AH) := by
  subst hlen
  unfold xop at e0
  dsimp only at e0
  split at e0
  · rename_i v hv
    cases e0
    obtain ⟨j, hj⟩ := xal_get (N0 := N0) (κ := κ) hv (fun q => nomatch q) (fun z q => nomatch q)
    have hl : k < AL.length := by
      unfold xld at hv
      cases hq : AL[k]? with
      | none => rw [hq] at hv; cases hv
      | some u => exact (List.getElem?_eq_some_iff.mp hq).1
    exact xP_row h (fun ls H locs g kk => lv_iinc hx hb hdg g.2.1 hj rfl (by rw [← g.2.2]; exact hl) rfl (fun ls' h' => kk ls' (xG_set1 (v := .int (v + Int32.ofInt z)) hκ g hl (fun z q => nomatch q) rfl h')))
  · cases e0

theorem xs_iadd (hκ : ∀ k, (κ k).category = 1) (hκ2 : ∀ k, (∃ a, κ k = .ref a) ∨ κ k = .null) (hx : p.tables.exec = Jvm.exec) (hb : c.code = y.by) {len r1 r2 r3 : Nat} {pc : Nat} {AL : List (Option Value)} {st : List Value} {AH : xH} {g : Prop} {st' : xF} (hdg : decode y.by pc = .ok (.iadd, len)) (e0 : xop E prog y (.iadd) len r1 r2 r3 (pc, AL, st, AH) = some (g, .inl st')) (hg : g) (hlen : len = 1)
    (h : xP p l e R s m args below meth c Qf N0 κ cA D n0 k0 rf st') : xP p l e R s m args below meth c Qf N0 κ cA D n0 k0 rf (pc, AL, st, AH) := by
  subst hlen
  unfold xop at e0
  dsimp only at e0
  split at e0
  · cases e0
    exact xP_row h (fun ls H locs g kk => lv_iadd hx hb hdg (kk ls g))
  · cases e0

theorem xs_isub (hκ : ∀ k, (κ k).category = 1) (hκ2 : ∀ k, (∃ a, κ k = .ref a) ∨ κ k = .null) (hx : p.tables.exec = Jvm.exec) (hb : c.code = y.by) {len r1 r2 r3 : Nat} {pc : Nat} {AL : List (Option Value)} {st : List Value} {AH : xH} {g : Prop} {st' : xF} (hdg : decode y.by pc = .ok (.isub, len)) (e0 : xop E prog y (.isub) len r1 r2 r3 (pc, AL, st, AH) = some (g, .inl st')) (hg : g) (hlen : len = 1)
    (h : xP p l e R s m args below meth c Qf N0 κ cA D n0 k0 rf st') : xP p l e R s m args below meth c Qf N0 κ cA D n0 k0 rf (pc, AL, st, AH) := by
  subst hlen
  unfold xop at e0
  dsimp only at e0
  split at e0
  · cases e0
    exact xP_row h (fun ls H locs g kk => lv_isub hx hb hdg (kk ls g))
  · cases e0

theorem xs_imul (hκ : ∀ k, (κ k).category = 1) (hκ2 : ∀ k, (∃ a, κ k = .ref a) ∨ κ k = .null) (hx : p.tables.exec = Jvm.exec) (hb : c.code = y.by) {len r1 r2 r3 : Nat} {pc : Nat} {AL : List (Option Value)} {st : List Value} {AH : xH} {g : Prop} {st' : xF} (hdg : decode y.by pc = .ok (.imul, len)) (e0 : xop E prog y (.imul) len r1 r2 r3 (pc, AL, st, AH) = some (g, .inl st')) (hg : g) (hlen : len = 1)
    (h : xP p l e R s m args below meth c Qf N0 κ cA D n0 k0 rf st') : xP p l e R s m args below meth c Qf N0 κ cA D n0 k0 rf (pc, AL, st, AH) := by
  subst hlen
  unfold xop at e0
  dsimp only at e0
  split at e0
  · cases e0
    exact xP_row h (fun ls H locs g kk => lv_imul hx hb hdg (kk ls g))
  · cases e0

theorem xs_iand (hκ : ∀ k, (κ k).category = 1) (hκ2 : ∀ k, (∃ a, κ k = .ref a) ∨ κ k = .null) (hx : p.tables.exec = Jvm.exec) (hb : c.code = y.by) {len r1 r2 r3 : Nat} {pc : Nat} {AL : List (Option Value)} {st : List Value} {AH : xH} {g : Prop} {st' : xF} (hdg : decode y.by pc = .ok (.iand, len)) (e0 : xop E prog y (.iand) len r1 r2 r3 (pc, AL, st, AH) = some (g, .inl st')) (hg : g) (hlen : len = 1)
    (h : xP p l e R s m args below meth c Qf N0 κ cA D n0 k0 rf st') : xP p l e R s m args below meth c Qf N0 κ cA D n0 k0 rf (pc, AL, st, AH) := by
  subst hlen
  unfold xop at e0
  dsimp only at e0
  split at e0
  · cases e0
    exact xP_row h (fun ls H locs g kk => lv_iand hx hb hdg (kk ls g))
  · cases e0

theorem xs_ior (hκ : ∀ k, (κ k).category = 1) (hκ2 : ∀ k, (∃ a, κ k = .ref a) ∨ κ k = .null) (hx : p.tables.exec = Jvm.exec) (hb : c.code = y.by) {len r1 r2 r3 : Nat} {pc : Nat} {AL : List (Option Value)} {st : List Value} {AH : xH} {g : Prop} {st' : xF} (hdg : decode y.by pc = .ok (.ior, len)) (e0 : xop E prog y (.ior) len r1 r2 r3 (pc, AL, st, AH) = some (g, .inl st')) (hg : g) (hlen : len = 1)
    (h : xP p l e R s m args below meth c Qf N0 κ cA D n0 k0 rf st') : xP p l e R s m args below meth c Qf N0 κ cA D n0 k0 rf (pc, AL, st, AH) := by
  subst hlen
  unfold xop at e0
  dsimp only at e0
  split at e0
  · cases e0
    exact xP_row h (fun ls H locs g kk => lv_ior hx hb hdg (kk ls g))
  · cases e0

theorem xs_ishl (hκ : ∀ k, (κ k).category = 1) (hκ2 : ∀ k, (∃ a, κ k = .ref a) ∨ κ k = .null) (hx : p.tables.exec = Jvm.exec) (hb : c.code = y.by) {len r1 r2 r3 : Nat} {pc : Nat} {AL : List (Option Value)} {st : List Value} {AH : xH} {g : Prop} {st' : xF} (hdg : decode y.by pc = .ok (.ishl, len)) (e0 : xop E prog y (.ishl) len r1 r2 r3 (pc, AL, st, AH) = some (g, .inl st')) (hg : g) (hlen : len = 1)
    (h : xP p l e R s m args below meth c Qf N0 κ cA D n0 k0 rf st') : xP p l e R s m args below meth c Qf N0 κ cA D n0 k0 rf (pc, AL, st, AH) := by
  subst hlen
  unfold xop at e0
  dsimp only at e0
  split at e0
  · cases e0
    exact xP_row h (fun ls H locs g kk => lv_ishl hx hb hdg (kk ls g))
  · cases e0

theorem xs_ishr (hκ : ∀ k, (κ k).category = 1) (hκ2 : ∀ k, (∃ a, κ k = .ref a) ∨ κ k = .null) (hx : p.tables.exec = Jvm.exec) (hb : c.code = y.by) {len r1 r2 r3 : Nat} {pc : Nat} {AL : List (Option Value)} {st : List Value} {AH : xH} {g : Prop} {st' : xF} (hdg : decode y.by pc = .ok (.ishr, len)) (e0 : xop E prog y (.ishr) len r1 r2 r3 (pc, AL, st, AH) = some (g, .inl st')) (hg : g) (hlen : len = 1)
    (h : xP p l e R s m args below meth c Qf N0 κ cA D n0 k0 rf st') : xP p l e R s m args below meth c Qf N0 κ cA D n0 k0 rf (pc, AL, st, AH) := by
  subst hlen
  unfold xop at e0
  dsimp only at e0
  split at e0
  · cases e0
    exact xP_row h (fun ls H locs g kk => lv_ishr hx hb hdg (kk ls g))
  · cases e0

theorem xs_iushr (hκ : ∀ k, (κ k).category = 1) (hκ2 : ∀ k, (∃ a, κ k = .ref a) ∨ κ k = .null) (hx : p.tables.exec = Jvm.exec) (hb : c.code = y.by) {len r1 r2 r3 : Nat} {pc : Nat} {AL : List (Option Value)} {st : List Value} {AH : xH} {g : Prop} {st' : xF} (hdg : decode y.by pc = .ok (.iushr, len)) (e0 : xop E prog y (.iushr) len r1 r2 r3 (pc, AL, st, AH) = some (g, .inl st')) (hg : g) (hlen : len = 1)
    (h : xP p l e R s m args below meth c Qf N0 κ cA D n0 k0 rf st') : xP p l e R s m args below meth c Qf N0 κ cA D n0 k0 rf (pc, AL, st, AH) := by
  subst hlen
  unfold xop at e0
  dsimp only at e0
  split at e0
  · cases e0
    exact xP_row h (fun ls H locs g kk => lv_iushr hx hb hdg rfl (kk ls g))
  · cases e0

theorem xs_ladd (hκ : ∀ k, (κ k).category = 1) (hκ2 : ∀ k, (∃ a, κ k = .ref a) ∨ κ k = .null) (hx : p.tables.exec = Jvm.exec) (hb : c.code = y.by) {len r1 r2 r3 : Nat} {pc : Nat} {AL : List (Option Value)} {st : List Value} {AH : xH} {g : Prop} {st' : xF} (hdg : decode y.by pc = .ok (.ladd, len)) (e0 : xop E prog y (.ladd) len r1 r2 r3 (pc, AL, st, AH) = some (g, .inl st')) (hg : g) (hlen : len = 1)
    (h : xP p l e R s m args below meth c Qf N0 κ cA D n0 k0 rf st') : xP p l e R s m args below meth c Qf N0 κ cA D n0 k0 rf (pc, AL, st, AH) := by
  subst hlen
  unfold xop at e0
  dsimp only at e0
  split at e0
  · cases e0
    exact xP_row h (fun ls H locs g kk => lv_ladd hx hb hdg (kk ls g))
  · cases e0

theorem xs_lsub (hκ : ∀ k, (κ k).category = 1) (hκ2 : ∀ k, (∃ a, κ k = .ref a) ∨ κ k = .null) (hx : p.tables.exec = Jvm.exec) (hb : c.code = y.by) {len r1 r2 r3 : Nat} {pc : Nat} {AL : List (Option Value)} {st : List Value} {AH : xH} {g : Prop} {st' : xF} (hdg : decode y.by pc = .ok (.lsub, len)) (e0 : xop E prog y (.lsub) len r1 r2 r3 (pc, AL, st, AH) = some (g, .inl st')) (hg : g) (hlen : len = 1)
    (h : xP p l e R s m args below meth c Qf N0 κ cA D n0 k0 rf st') : xP p l e R s m args below meth c Qf N0 κ cA D n0 k0 rf (pc, AL, st, AH) := by
  subst hlen
  unfold xop at e0
  dsimp only at e0
  split at e0
  · cases e0
    exact xP_row h (fun ls H locs g kk => lv_lsub hx hb hdg (kk ls g))
  · cases e0

theorem xs_lmul (hκ : ∀ k, (κ k).category = 1) (hκ2 : ∀ k, (∃ a, κ k = .ref a) ∨ κ k = .null) (hx : p.tables.exec = Jvm.exec) (hb : c.code = y.by) {len r1 r2 r3 : Nat} {pc : Nat} {AL : List (Option Value)} {st : List Value} {AH : xH} {g : Prop} {st' : xF} (hdg : decode y.by pc = .ok (.lmul, len)) (e0 : xop E prog y (.lmul) len r1 r2 r3 (pc, AL, st, AH) = some (g, .inl st')) (hg : g) (hlen : len = 1)
    (h : xP p l e R s m args below meth c Qf N0 κ cA D n0 k0 rf st') : xP p l e R s m args below meth c Qf N0 κ cA D n0 k0 rf (pc, AL, st, AH) := by
  subst hlen
  unfold xop at e0
  dsimp only at e0
  split at e0
  · cases e0
    exact xP_row h (fun ls H locs g kk => lv_lmul hx hb hdg (kk ls g))
  · cases e0

theorem xs_lcmp (hκ : ∀ k, (κ k).category = 1) (hκ2 : ∀ k, (∃ a, κ k = .ref a) ∨ κ k = .null) (hx : p.tables.exec = Jvm.exec) (hb : c.code = y.by) {len r1 r2 r3 : Nat} {pc : Nat} {AL : List (Option Value)} {st : List Value} {AH : xH} {g : Prop} {st' : xF} (hdg : decode y.by pc = .ok (.lcmp, len)) (e0 : xop E prog y (.lcmp) len r1 r2 r3 (pc, AL, st, AH) = some (g, .inl st')) (hg : g) (hlen : len = 1)
    (h : xP p l e R s m args below meth c Qf N0 κ cA D n0 k0 rf st') : xP p l e R s m args below meth c Qf N0 κ cA D n0 k0 rf (pc, AL, st, AH) := by
  subst hlen
  unfold xop at e0
  dsimp only at e0
  split at e0
  · cases e0
    exact xP_row h (fun ls H locs g kk => W.lcmp hx hb hdg (kk ls g))
  · cases e0

theorem xs_idiv (hκ : ∀ k, (κ k).category = 1) (hκ2 : ∀ k, (∃ a, κ k = .ref a) ∨ κ k = .null) (hx : p.tables.exec = Jvm.exec) (hb : c.code = y.by) {len r1 r2 r3 : Nat} {pc : Nat} {AL : List (Option Value)} {st : List Value} {AH : xH} {g : Prop} {st' : xF} (hdg : decode y.by pc = .ok (.idiv, len)) (e0 : xop E prog y (.idiv) len r1 r2 r3 (pc, AL, st, AH) = some (g, .inl st')) (hg : g) (hlen : len = 1)
    (h : xP p l e R s m args below meth c Qf N0 κ cA D n0 k0 rf st') : xP p l e R s m args below meth c Qf N0 κ cA D n0 k0 rf (pc, AL, st, AH) := by
  subst hlen
  unfold xop at e0
  dsimp only at e0
  split at e0
  · cases e0
    exact xP_row h (fun ls H locs g kk => lv_idiv hx hb hdg hg (kk ls g))
  · cases e0

theorem xs_irem (hκ : ∀ k, (κ k).category = 1) (hκ2 : ∀ k, (∃ a, κ k = .ref a) ∨ κ k = .null) (hx : p.tables.exec = Jvm.exec) (hb : c.code = y.by) {len r1 r2 r3 : Nat} {pc : Nat} {AL : List (Option Value)} {st : List Value} {AH : xH} {g : Prop} {st' : xF} (hdg : decode y.by pc = .ok (.irem, len)) (e0 : xop E prog y (.irem) len r1 r2 r3 (pc, AL, st, AH) = some (g, .inl st')) (hg : g) (hlen : len = 1)
    (h : xP p l e R s m args below meth c Qf N0 κ cA D n0 k0 rf st') : xP p l e R s m args below meth c Qf N0 κ cA D n0 k0 rf (pc, AL, st, AH) := by
  subst hlen
  unfold xop at e0
  dsimp only at e0
  split at e0
  · cases e0
    exact xP_row h (fun ls H locs g kk => lv_irem hx hb hdg hg (kk ls g))
  · cases e0

theorem xs_ddiv (hκ : ∀ k, (κ k).category = 1) (hκ2 : ∀ k, (∃ a, κ k = .ref a) ∨ κ k = .null) (hx : p.tables.exec = Jvm.exec) (hb : c.code = y.by) {len r1 r2 r3 : Nat} {pc : Nat} {AL : List (Option Value)} {st : List Value} {AH : xH} {g : Prop} {st' : xF} (hdg : decode y.by pc = .ok (.ddiv, len)) (e0 : xop E prog y (.ddiv) len r1 r2 r3 (pc, AL, st, AH) = some (g, .inl st')) (hg : g) (hlen : len = 1)
    (h : xP p l e R s m args below meth c Qf N0 κ cA D n0 k0 rf st') : xP p l e R s m args below meth c Qf N0 κ cA D n0 k0 rf (pc, AL, st, AH) := by
  subst hlen
  unfold xop at e0
  dsimp only at e0
  split at e0
  · cases e0
    exact xP_row h (fun ls H locs g kk => lv_ddiv hx hb hdg hg (kk ls g))
  · cases e0

theorem xs_ineg (hκ : ∀ k, (κ k).category = 1) (hκ2 : ∀ k, (∃ a, κ k = .ref a) ∨ κ k = .null) (hx : p.tables.exec = Jvm.exec) (hb : c.code = y.by) {len r1 r2 r3 : Nat} {pc : Nat} {AL : List (Option Value)} {st : List Value} {AH : xH} {g : Prop} {st' : xF} (hdg : decode y.by pc = .ok (.ineg, len)) (e0 : xop E prog y (.ineg) len r1 r2 r3 (pc, AL, st, AH) = some (g, .inl st')) (hg : g) (hlen : len = 1)
    (h : xP p l e R s m args below meth c Qf N0 κ cA D n0 k0 rf st') : xP p l e R s m args below meth c Qf N0 κ cA D n0 k0 rf (pc, AL, st, AH) := by
  subst hlen
  unfold xop at e0
  dsimp only at e0
  split at e0
  · cases e0
    exact xP_row h (fun ls H locs g kk => lv_ineg hx hb hdg (kk ls g))
  · cases e0

theorem xs_i2l (hκ : ∀ k, (κ k).category = 1) (hκ2 : ∀ k, (∃ a, κ k = .ref a) ∨ κ k = .null) (hx : p.tables.exec = Jvm.exec) (hb : c.code = y.by) {len r1 r2 r3 : Nat} {pc : Nat} {AL : List (Option Value)} {st : List Value} {AH : xH} {g : Prop} {st' : xF} (hdg : decode y.by pc = .ok (.i2l, len)) (e0 : xop E prog y (.i2l) len r1 r2 r3 (pc, AL, st, AH) = some (g, .inl st')) (hg : g) (hlen : len = 1)
    (h : xP p l e R s m args below meth c Qf N0 κ cA D n0 k0 rf st') : xP p l e R s m args below meth c Qf N0 κ cA D n0 k0 rf (pc, AL, st, AH) := by
  subst hlen
  unfold xop at e0
  dsimp only at e0
  split at e0
  · cases e0
    exact xP_row h (fun ls H locs g kk => lv_i2l hx hb hdg rfl (kk ls g))
  · cases e0

theorem xs_l2i (hκ : ∀ k, (κ k).category = 1) (hκ2 : ∀ k, (∃ a, κ k = .ref a) ∨ κ k = .null) (hx : p.tables.exec = Jvm.exec) (hb : c.code = y.by) {len r1 r2 r3 : Nat} {pc : Nat} {AL : List (Option Value)} {st : List Value} {AH : xH} {g : Prop} {st' : xF} (hdg : decode y.by pc = .ok (.l2i, len)) (e0 : xop E prog y (.l2i) len r1 r2 r3 (pc, AL, st, AH) = some (g, .inl st')) (hg : g) (hlen : len = 1)
    (h : xP p l e R s m args below meth c Qf N0 κ cA D n0 k0 rf st') : xP p l e R s m args below meth c Qf N0 κ cA D n0 k0 rf (pc, AL, st, AH) := by
  subst hlen
  unfold xop at e0
  dsimp only at e0
  split at e0
  · cases e0
    exact xP_row h (fun ls H locs g kk => lv_l2i hx hb hdg rfl (kk ls g))
  · cases e0

theorem xs_i2b (hκ : ∀ k, (κ k).category = 1) (hκ2 : ∀ k, (∃ a, κ k = .ref a) ∨ κ k = .null) (hx : p.tables.exec = Jvm.exec) (hb : c.code = y.by) {len r1 r2 r3 : Nat} {pc : Nat} {AL : List (Option Value)} {st : List Value} {AH : xH} {g : Prop} {st' : xF} (hdg : decode y.by pc = .ok (.i2b, len)) (e0 : xop E prog y (.i2b) len r1 r2 r3 (pc, AL, st, AH) = some (g, .inl st')) (hg : g) (hlen : len = 1)
    (h : xP p l e R s m args below meth c Qf N0 κ cA D n0 k0 rf st') : xP p l e R s m args below meth c Qf N0 κ cA D n0 k0 rf (pc, AL, st, AH) := by
  subst hlen
  unfold xop at e0
  dsimp only at e0
  split at e0
  · cases e0
    exact xP_row h (fun ls H locs g kk => lv_i2b hx hb hdg rfl (kk ls g))
  · cases e0

theorem xs_i2c (hκ : ∀ k, (κ k).category = 1) (hκ2 : ∀ k, (∃ a, κ k = .ref a) ∨ κ k = .null) (hx : p.tables.exec = Jvm.exec) (hb : c.code = y.by) {len r1 r2 r3 : Nat} {pc : Nat} {AL : List (Option Value)} {st : List Value} {AH : xH} {g : Prop} {st' : xF} (hdg : decode y.by pc = .ok (.i2c, len)) (e0 : xop E prog y (.i2c) len r1 r2 r3 (pc, AL, st, AH) = some (g, .inl st')) (hg : g) (hlen : len = 1)
    (h : xP p l e R s m args below meth c Qf N0 κ cA D n0 k0 rf st') : xP p l e R s m args below meth c Qf N0 κ cA D n0 k0 rf (pc, AL, st, AH) := by
  subst hlen
  unfold xop at e0
  dsimp only at e0
  split at e0
  · cases e0
    exact xP_row h (fun ls H locs g kk => lv_i2c hx hb hdg rfl (kk ls g))
  · cases e0

theorem xs_i2d (hκ : ∀ k, (κ k).category = 1) (hκ2 : ∀ k, (∃ a, κ k = .ref a) ∨ κ k = .null) (hx : p.tables.exec = Jvm.exec) (hb : c.code = y.by) {len r1 r2 r3 : Nat} {pc : Nat} {AL : List (Option Value)} {st : List Value} {AH : xH} {g : Prop} {st' : xF} (hdg : decode y.by pc = .ok (.i2d, len)) (e0 : xop E prog y (.i2d) len r1 r2 r3 (pc, AL, st, AH) = some (g, .inl st')) (hg : g) (hlen : len = 1)
    (h : xP p l e R s m args below meth c Qf N0 κ cA D n0 k0 rf st') : xP p l e R s m args below meth c Qf N0 κ cA D n0 k0 rf (pc, AL, st, AH) := by
  subst hlen
  unfold xop at e0
  dsimp only at e0
  split at e0
  · cases e0
    exact xP_row h (fun ls H locs g kk => lv_i2d hx hb hdg (kk ls g))
  · cases e0

theorem xs_dcmp (hκ : ∀ k, (κ k).category = 1) (hκ2 : ∀ k, (∃ a, κ k = .ref a) ∨ κ k = .null) (hx : p.tables.exec = Jvm.exec) (hb : c.code = y.by) {op : CmpOp} {len r1 r2 r3 : Nat} {pc : Nat} {AL : List (Option Value)} {st : List Value} {AH : xH} {g : Prop} {st' : xF} (hdg : decode y.by pc = .ok (.dcmp op, len)) (e0 : xop E prog y (.dcmp op) len r1 r2 r3 (pc, AL, st, AH) = some (g, .inl st')) (hg : g) (hlen : len = 1)
    (h : xP p l e R s m args below meth c Qf N0 κ cA D n0 k0 rf st') : xP p l e R s m args below meth c Qf N0 κ cA D n0 k0 rf (pc, AL, st, AH) := by
  subst hlen
  unfold xop at e0
  dsimp only at e0
  split at e0
  · cases e0
    exact xP_row h (fun ls H locs g kk => lv_dcmp hx hb hdg (kk ls g))
  · cases e0

theorem xcat1 {v : Value} (h : ¬ xcat v = true) (hκ : ∀ k, (κ k).category = 1) : (xm N0 κ v).category = 1 := by
  rw [xm_cat hκ]
  rcases lv_cat v with q | q
  · exact q
  · exact absurd ((xcat_iff v).mpr q) h

theorem xs_dup (hκ : ∀ k, (κ k).category = 1) (hκ2 : ∀ k, (∃ a, κ k = .ref a) ∨ κ k = .null) (hx : p.tables.exec = Jvm.exec) (hb : c.code = y.by) {len r1 r2 r3 : Nat} {pc : Nat} {AL : List (Option Value)} {st : List Value} {AH : xH} {g : Prop} {st' : xF} (hdg : decode y.by pc = .ok (.dup, len)) (e0 : xop E prog y (.dup) len r1 r2 r3 (pc, AL, st, AH) = some (g, .inl st')) (hg : g) (hlen : len = 1)
    (h : xP p l e R s m args below meth c Qf N0 κ cA D n0 k0 rf st') : xP p l e R s m args below meth c Qf N0 κ cA D n0 k0 rf (pc, AL, st, AH) := by
  subst hlen
  unfold xop at e0
  dsimp only at e0
  split at e0
  · split at e0
    · cases e0
    · rename_i hc
      cases e0
      exact xP_row h (fun ls H locs g kk => lv_dup hx hb hdg (xcat1 hc hκ) (kk ls g))
  · cases e0

theorem xs_dup_x1 (hκ : ∀ k, (κ k).category = 1) (hκ2 : ∀ k, (∃ a, κ k = .ref a) ∨ κ k = .null) (hx : p.tables.exec = Jvm.exec) (hb : c.code = y.by) {len r1 r2 r3 : Nat} {pc : Nat} {AL : List (Option Value)} {st : List Value} {AH : xH} {g : Prop} {st' : xF} (hdg : decode y.by pc = .ok (.dup_x1, len)) (e0 : xop E prog y (.dup_x1) len r1 r2 r3 (pc, AL, st, AH) = some (g, .inl st')) (hg : g) (hlen : len = 1)
    (h : xP p l e R s m args below meth c Qf N0 κ cA D n0 k0 rf st') : xP p l e R s m args below meth c Qf N0 κ cA D n0 k0 rf (pc, AL, st, AH) := by
  subst hlen
  unfold xop at e0
  dsimp only at e0
  split at e0
  · split at e0
    · cases e0
    · rename_i hc
      cases e0
      exact xP_row h (fun ls H locs g kk => lv_dup_x1 hx hb hdg (xcat1 (fun q => hc (Or.inr q)) hκ) (xcat1 (fun q => hc (Or.inl q)) hκ) (kk ls g))
  · cases e0

theorem xs_aconst_null (hκ : ∀ k, (κ k).category = 1) (hκ2 : ∀ k, (∃ a, κ k = .ref a) ∨ κ k = .null) (hx : p.tables.exec = Jvm.exec) (hb : c.code = y.by) {len r1 r2 r3 : Nat} {pc : Nat} {AL : List (Option Value)} {st : List Value} {AH : xH} {g : Prop} {st' : xF} (hdg : decode y.by pc = .ok (.aconst_null, len)) (e0 : xop E prog y (.aconst_null) len r1 r2 r3 (pc, AL, st, AH) = some (g, .inl st')) (hg : g) (hlen : len = 1)
    (h : xP p l e R s m args below meth c Qf N0 κ cA D n0 k0 rf st') : xP p l e R s m args below meth c Qf N0 κ cA D n0 k0 rf (pc, AL, st, AH) := by
  subst hlen
  unfold xop at e0
  dsimp only at e0
  cases e0
  exact xP_row h (fun ls H locs g kk => lv_null hx hb hdg (kk ls g))

theorem xs_pop (hκ : ∀ k, (κ k).category = 1) (hκ2 : ∀ k, (∃ a, κ k = .ref a) ∨ κ k = .null) (hx : p.tables.exec = Jvm.exec) (hb : c.code = y.by) {len r1 r2 r3 : Nat} {pc : Nat} {AL : List (Option Value)} {st : List Value} {AH : xH} {g : Prop} {st' : xF} (hdg : decode y.by pc = .ok (.pop, len)) (e0 : xop E prog y (.pop) len r1 r2 r3 (pc, AL, st, AH) = some (g, .inl st')) (hg : g) (hlen : len = 1)
    (h : xP p l e R s m args below meth c Qf N0 κ cA D n0 k0 rf st') : xP p l e R s m args below meth c Qf N0 κ cA D n0 k0 rf (pc, AL, st, AH) := by
  subst hlen
  unfold xop at e0
  dsimp only at e0
  split at e0
  · split at e0
    · cases e0
    · rename_i hc
      cases e0
      exact xP_row h (fun ls H locs g kk => lv_pop hx hb hdg (xcat1 hc hκ) (kk ls g))
  · cases e0

theorem xs_dup2 (hκ : ∀ k, (κ k).category = 1) (hκ2 : ∀ k, (∃ a, κ k = .ref a) ∨ κ k = .null) (hx : p.tables.exec = Jvm.exec) (hb : c.code = y.by) {len r1 r2 r3 : Nat} {pc : Nat} {AL : List (Option Value)} {st : List Value} {AH : xH} {g : Prop} {st' : xF} (hdg : decode y.by pc = .ok (.dup2, len)) (e0 : xop E prog y (.dup2) len r1 r2 r3 (pc, AL, st, AH) = some (g, .inl st')) (hg : g) (hlen : len = 1)
    (h : xP p l e R s m args below meth c Qf N0 κ cA D n0 k0 rf st') : xP p l e R s m args below meth c Qf N0 κ cA D n0 k0 rf (pc, AL, st, AH) := by
  subst hlen
  unfold xop at e0
  dsimp only at e0
  split at e0
  · split at e0
    · cases e0
    · rename_i hc
      cases e0
      exact xP_row h (fun ls H locs g kk => lv_dup2_11 hx hb hdg (xcat1 (fun q => hc (Or.inr q)) hκ) (xcat1 (fun q => hc (Or.inl q)) hκ) (kk ls g))
  · cases e0

theorem xs_goto (hκ : ∀ k, (κ k).category = 1) (hκ2 : ∀ k, (∃ a, κ k = .ref a) ∨ κ k = .null) (hx : p.tables.exec = Jvm.exec) (hb : c.code = y.by) {off : Int} {len r1 r2 r3 : Nat} {pc : Nat} {AL : List (Option Value)} {st : List Value} {AH : xH} {g : Prop} {st' : xF} (hdg : decode y.by pc = .ok (.goto off, len)) (e0 : xop E prog y (.goto off) len r1 r2 r3 (pc, AL, st, AH) = some (g, .inl st')) (hg : g) (hlen : len = 3)
    (h : xP p l e R s m args below meth c Qf N0 κ cA D n0 k0 rf st') : xP p l e R s m args below meth c Qf N0 κ cA D n0 k0 rf (pc, AL, st, AH) := by
  subst hlen
  unfold xop at e0
  dsimp only at e0
  cases e0
  exact xP_row h (fun ls H locs g kk => lv_goto hx hb hdg (xtgt_eq hg) (kk ls g))

theorem xs_tableswitch (hκ : ∀ k, (κ k).category = 1) (hx : p.tables.exec = Jvm.exec) (hb : c.code = y.by) {d lo hi : Int} {offs : Array Int} {len r1 r2 r3 : Nat} {pc : Nat} {AL : List (Option Value)} {st : List Value} {AH : xH} {g : Prop} {st' : xF} (hdg : decode y.by pc = .ok (.tableswitch d lo hi offs, len)) (e0 : xop E prog y (.tableswitch d lo hi offs) len r1 r2 r3 (pc, AL, st, AH) = some (g, .inl st')) (hg : g)
    (h : xP p l e R s m args below meth c Qf N0 κ cA D n0 k0 rf st') : xP p l e R s m args below meth c Qf N0 κ cA D n0 k0 rf (pc, AL, st, AH) := by
  unfold xop at e0
  dsimp only at e0
  split at e0
  · rename_i x st
    cases e0
    obtain ⟨h1, h2, h3, h4⟩ := hg
    refine xP_row h (fun ls H locs g kk => ?_)
    by_cases q : x.toInt < lo ∨ hi < x.toInt
    · rw [if_pos q] at kk
      exact lv_tableOut hx hb hdg q (xtgt_eq h1) (kk ls g)
    · rw [if_neg q] at kk
      have q1 : ¬ x.toInt < lo := fun z => q (Or.inl z)
      have q2 : ¬ hi < x.toInt := fun z => q (Or.inr z)
      have hlt : (x.toInt - lo).toNat < offs.size := by omega
      have ho : offs[(x.toInt - lo).toNat]? = some (offs.getD (x.toInt - lo).toNat d) := by
        rw [Array.getD_eq_getD_getElem?, Array.getElem?_eq_getElem hlt]; rfl
      have hm : offs.getD (x.toInt - lo).toNat d ∈ offs.toList := by
        have := Array.mem_of_getElem? ho
        exact Array.mem_toList_iff.mpr this
      have ht : 0 ≤ (pc : Int) + offs.getD (x.toInt - lo).toNat d := by
        have := List.all_eq_true.mp h2 _ hm
        exact of_decide_eq_true this
      exact lv_tableIn hx hb hdg q1 q2 ho (xtgt_eq ht) (kk ls g)
  · cases e0
theorem xs_lookupswitch (hκ : ∀ k, (κ k).category = 1) (hx : p.tables.exec = Jvm.exec) (hb : c.code = y.by) {d : Int} {ps : Array (Int × Int)} {len r1 r2 r3 : Nat} {pc : Nat} {AL : List (Option Value)} {st : List Value} {AH : xH} {g : Prop} {st' : xF} (hdg : decode y.by pc = .ok (.lookupswitch d ps, len)) (e0 : xop E prog y (.lookupswitch d ps) len r1 r2 r3 (pc, AL, st, AH) = some (g, .inl st')) (hg : g)
    (h : xP p l e R s m args below meth c Qf N0 κ cA D n0 k0 rf st') : xP p l e R s m args below meth c Qf N0 κ cA D n0 k0 rf (pc, AL, st, AH) := by
  unfold xop at e0
  dsimp only at e0
  split at e0
  · rename_i x st
    cases e0
    exact xP_row h (fun ls H locs g kk => lv_lookup hx hb hdg hg.2 rfl (xtgt_eq hg.1) (kk ls g))
  · cases e0

theorem xs_if (hx : p.tables.exec = Jvm.exec) (hb : c.code = y.by) {cc : Jvm.ClassFile.Cond} {off : Int} {len r1 r2 r3 : Nat} {pc : Nat} {AL : List (Option Value)} {st : List Value} {AH : xH} {g cq : Prop} {sa sb : xF} (hdg : decode y.by pc = .ok (.ifCond cc off, len)) (e0 : xop E prog y (.ifCond cc off) len r1 r2 r3 (pc, AL, st, AH) = some (g, .inr (.inl (cq, sa, sb)))) (hg : g) (hlen : len = 3)
    (ha : cq → xP p l e R s m args below meth c Qf N0 κ cA D n0 k0 rf sa) (hb2 : ¬ cq → xP p l e R s m args below meth c Qf N0 κ cA D n0 k0 rf sb) : xP p l e R s m args below meth c Qf N0 κ cA D n0 k0 rf (pc, AL, st, AH) := by
  subst hlen
  unfold xop at e0
  dsimp only at e0
  split at e0
  · cases e0
    intro q1 q2
    refine ⟨?_, fun ls H locs gg => ?_⟩
    · rename_i x2 x1 _
      by_cases hq : xcnd cc x1 0
      · exact (ha hq q1 q2).1
      · exact (hb2 hq q1 q2).1
    · cases cc
      · exact lv_if_eq hx hb hdg (xtgt_eq hg) (fun q => (ha q q1 q2).2 ls H locs gg) (fun q => (hb2 q q1 q2).2 ls H locs gg)
      · exact lv_if_ne hx hb hdg (xtgt_eq hg) (fun q => (ha q q1 q2).2 ls H locs gg) (fun q => (hb2 (fun z => z q) q1 q2).2 ls H locs gg)
      · exact lv_if_lt hx hb hdg (xtgt_eq hg) (fun q => (ha q q1 q2).2 ls H locs gg) (fun q => (hb2 q q1 q2).2 ls H locs gg)
      · exact lv_if_ge hx hb hdg (xtgt_eq hg) (fun q => (ha q q1 q2).2 ls H locs gg) (fun q => (hb2 q q1 q2).2 ls H locs gg)
      · exact lv_if_gt hx hb hdg (xtgt_eq hg) (fun q => (ha q q1 q2).2 ls H locs gg) (fun q => (hb2 q q1 q2).2 ls H locs gg)
      · exact lv_if_le hx hb hdg (xtgt_eq hg) (fun q => (ha q q1 q2).2 ls H locs gg) (fun q => (hb2 q q1 q2).2 ls H locs gg)
  · cases e0

theorem xs_icmp (hx : p.tables.exec = Jvm.exec) (hb : c.code = y.by) {cc : Jvm.ClassFile.Cond} {off : Int} {len r1 r2 r3 : Nat} {pc : Nat} {AL : List (Option Value)} {st : List Value} {AH : xH} {g cq : Prop} {sa sb : xF} (hdg : decode y.by pc = .ok (.if_icmp cc off, len)) (e0 : xop E prog y (.if_icmp cc off) len r1 r2 r3 (pc, AL, st, AH) = some (g, .inr (.inl (cq, sa, sb)))) (hg : g) (hlen : len = 3)
    (ha : cq → xP p l e R s m args below meth c Qf N0 κ cA D n0 k0 rf sa) (hb2 : ¬ cq → xP p l e R s m args below meth c Qf N0 κ cA D n0 k0 rf sb) : xP p l e R s m args below meth c Qf N0 κ cA D n0 k0 rf (pc, AL, st, AH) := by
  subst hlen
  unfold xop at e0
  dsimp only at e0
  split at e0
  · cases e0
    intro q1 q2
    refine ⟨?_, fun ls H locs gg => ?_⟩
    · rename_i x2 x1 _
      by_cases hq : xcnd cc x1 x2
      · exact (ha hq q1 q2).1
      · exact (hb2 hq q1 q2).1
    · cases cc
      · exact lv_icmp_eq hx hb hdg (xtgt_eq hg) (fun q => (ha q q1 q2).2 ls H locs gg) (fun q => (hb2 q q1 q2).2 ls H locs gg)
      · exact lv_icmp_ne hx hb hdg (xtgt_eq hg) (fun q => (ha q q1 q2).2 ls H locs gg) (fun q => (hb2 (fun z => z q) q1 q2).2 ls H locs gg)
      · exact lv_icmp_lt hx hb hdg (xtgt_eq hg) (fun q => (ha q q1 q2).2 ls H locs gg) (fun q => (hb2 q q1 q2).2 ls H locs gg)
      · exact lv_icmp_ge hx hb hdg (xtgt_eq hg) (fun q => (ha q q1 q2).2 ls H locs gg) (fun q => (hb2 q q1 q2).2 ls H locs gg)
      · exact lv_icmp_gt hx hb hdg (xtgt_eq hg) (fun q => (ha q q1 q2).2 ls H locs gg) (fun q => (hb2 q q1 q2).2 ls H locs gg)
      · exact lv_icmp_le hx hb hdg (xtgt_eq hg) (fun q => (ha q q1 q2).2 ls H locs gg) (fun q => (hb2 q q1 q2).2 ls H locs gg)
  · cases e0

end XSTEP
