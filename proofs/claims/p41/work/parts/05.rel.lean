/-! ===== abstract cells and the heap: cell i lies at N0 + i ===== -/
def xTE : u_T := fun _ => ("", "", "", false)
abbrev xcls : List vw_C := [(RX0, TX0, 14), (RX1, TX1, 17), (RX2, TX2, 6), (RX3, TX3, 1), (RX4, TX4, 3), (RX5, TX5, 3), (RX6, TX6, 2), (RX7, TX7, 7), (RX8, TX8, 7), (RX9, TX9, 3), (RX10, TX10, 9), (RJ4, TJ4, 4), (RJ0, TJ0, 4), ("java/lang/IllegalStateException", xTE, 0), ("java/lang/IllegalArgumentException", xTE, 0), ("java/lang/IndexOutOfBoundsException", xTE, 0)]
def xm (N0 : Nat) (κ : Nat → Value) : Value → Value
  | .ref i => .ref (N0 + i)
  | .retAddr k => κ k
  | v => v
/-- a row of references lies elsewhere -/
def xvA (N0 : Nat) (a : vp_A) : vp_A := match a with
  | (n, .inr (.inr (.inr (.inr f)))) => (n, .inr (.inr (.inr (.inr (fun j => (f j).map (fun q => N0 + q))))))
  | a => a
def xcv (N0 : Nat) (κ : Nat → Value) (cA : FieldType → ClassId) : xC → va_E
  | .inl (ty, a) => .inl (cA ty, xvA N0 a)
  | .inr (ci, fs) => .inr (ci, fs.map (xm N0 κ))
def xws (N0 : Nat) (κ : Nat → Value) (cA : FieldType → ClassId) (H : xH) : va_W := (List.range H.2.1).map (fun i => (N0 + i, xcv N0 κ cA (H.1 i)))
def xtys (cA : FieldType → ClassId) : List (ClassId × FieldType) := [(cA .int, .int), (cA .long, .long), (cA .byte, .byte), (cA .char, .array .int), (cA .boolean, .object RX9)]
def xJ (H : xH) : Prop := ∀ i : Nat, H.2.1 ≤ i → H.1 i = xnil
/-- what the locals hold for sure -/
def xal (N0 : Nat) (κ : Nat → Value) (AL : List (Option Value)) : List (Nat × Value) := (List.range AL.length).filterMap (fun i => match xld AL i with | some v => if xcat v then (match xld AL (i + 1) with | some (.float _) => some (i, xm N0 κ v) | _ => none) else (match v with | .float _ => none | _ => some (i, xm N0 κ v)) | none => none)
theorem xal_mem {N0 : Nat} {κ : Nat → Value} {AL : List (Option Value)} {q : Nat × Value} : q ∈ xal N0 κ AL ↔ ∃ v, xld AL q.1 = some v ∧ q.2 = xm N0 κ v ∧ (xcat v = true → ∃ z, xld AL (q.1 + 1) = some (.float z)) ∧ ∀ z, v ≠ .float z := by
  unfold xal
  rw [List.mem_filterMap]
  constructor
  · rintro ⟨i, hi, h⟩
    split at h
    · rename_i v hv
      split at h
      · rename_i hc
        split at h
        · rename_i z hz
          cases h
          exact ⟨v, hv, rfl, fun _ => ⟨z, hz⟩, fun z' e => by subst e; cases hc⟩
        · cases h
      · rename_i hc
        split at h
        · cases h
        · rename_i hn
          cases h
          exact ⟨v, hv, rfl, fun h => absurd h hc, fun z e => hn z e⟩
    · cases h
  · rintro ⟨v, hv, h2, h3, h4⟩
    obtain ⟨i, w⟩ := q
    dsimp only at hv h2 h3
    subst h2
    refine ⟨i, List.mem_range.mpr ?_, ?_⟩
    · unfold xld at hv
      cases hq : AL[i]? with
      | none => rw [hq] at hv; cases hv
      | some u => exact (List.getElem?_eq_some_iff.mp hq).1
    · rw [hv]
      dsimp only
      by_cases hc : xcat v = true
      · rw [if_pos hc]
        obtain ⟨z, hz⟩ := h3 hc
        rw [hz]
      · rw [if_neg hc]
        split
        · exact absurd rfl (h4 _)
        · rfl
theorem xld_set {AL : List (Option Value)} {i j : Nat} {v : Option Value} : xld (AL.set i v) j = if i = j ∧ i < AL.length then v else xld AL j := by
  unfold xld
  by_cases h : i = j
  · subst h
    by_cases hl : i < AL.length
    · rw [if_pos ⟨rfl, hl⟩, List.getElem?_set_self hl]; rfl
    · rw [if_neg (fun q => hl q.2), List.set_eq_of_length_le (by omega)]
  · rw [if_neg (fun q => h q.1), List.getElem?_set_ne h]
theorem xm_cat {N0 : Nat} {κ : Nat → Value} (hκ : ∀ k, (κ k).category = 1) (v : Value) : (xm N0 κ v).category = v.category := by
  cases v <;> first | rfl | exact hκ _
theorem xcat_iff (v : Value) : xcat v = true ↔ v.category = 2 := by cases v <;> simp [xcat, Value.category]
/-- a store of one slot -/
theorem xal_set1 {N0 : Nat} {κ : Nat → Value} (hκ : ∀ k, (κ k).category = 1) {AL : List (Option Value)} {i : Nat} {v : Value} (hi : i < AL.length) (hv : ∀ z, v ≠ .float z) (hc : xcat v = false) {ls : Array Slot} {nL : Nat} (h : lv_has ls nL ((i, xm N0 κ v) :: (xal N0 κ AL).filter (fun q => !(q.1 == i) && !(q.1 + 1 == i && q.2.category == 2)))) : lv_has ls nL (xal N0 κ (AL.set i (some v))) := by
  refine ⟨h.1, h.2.1, fun q hq => h.2.2 q ?_⟩
  obtain ⟨w, h1, h2, h3, h4⟩ := xal_mem.mp hq
  rw [xld_set] at h1
  by_cases e : i = q.1
  · rw [if_pos ⟨e, hi⟩] at h1
    cases h1
    obtain ⟨a, b⟩ := q
    dsimp only at e h2
    rw [← e, h2]
    exact List.mem_cons_self
  · rw [if_neg (fun z => e z.1)] at h1
    have h5 : q.1 + 1 = i → xcat w = true → False := by
      intro a b
      obtain ⟨z, hz⟩ := h3 b
      rw [xld_set, if_pos ⟨a.symm, hi⟩] at hz
      exact hv z (Option.some.inj hz)
    refine List.mem_cons_of_mem _ (List.mem_filter.mpr ⟨xal_mem.mpr ⟨w, h1, h2, fun b => ?_, h4⟩, ?_⟩)
    · obtain ⟨z, hz⟩ := h3 b
      rw [xld_set, if_neg (fun q => h5 q.1.symm b)] at hz
      exact ⟨z, hz⟩
    · simp only [Bool.and_eq_true, Bool.not_eq_true', beq_eq_false_iff_ne, ne_eq, Bool.and_eq_false_iff]
      refine ⟨fun a => e a.symm, ?_⟩
      by_cases a : q.1 + 1 = i
      · right
        rw [h2, xm_cat hκ]
        intro b
        exact h5 a ((xcat_iff w).mpr b)
      · exact Or.inl a
/-- a store of two slots -/
theorem xal_set2 {N0 : Nat} {κ : Nat → Value} (hκ : ∀ k, (κ k).category = 1) {AL : List (Option Value)} {i : Nat} {v : Value} (hi : i + 1 < AL.length) (hc : xcat v = true) {ls : Array Slot} {nL : Nat} (h : lv_has ls nL ((i, xm N0 κ v) :: (xal N0 κ AL).filter (fun q => !(q.1 == i) && (!(q.1 == i + 1) && !(q.1 + 1 == i && q.2.category == 2))))) : lv_has ls nL (xal N0 κ ((AL.set i (some v)).set (i + 1) (some xmk))) := by
  have hv : ∀ z, v ≠ .float z := fun z e => by subst e; cases hc
  refine ⟨h.1, h.2.1, fun q hq => h.2.2 q ?_⟩
  obtain ⟨w, h1, h2, h3, h4⟩ := xal_mem.mp hq
  rw [xld_set, List.length_set] at h1
  by_cases e1 : i + 1 = q.1
  · rw [if_pos ⟨e1, hi⟩] at h1
    cases h1
    exact absurd rfl (h4 0)
  · rw [if_neg (fun z => e1 z.1), xld_set] at h1
    by_cases e : i = q.1
    · rw [if_pos ⟨e, by omega⟩] at h1
      cases h1
      obtain ⟨a, b⟩ := q
      dsimp only at e h2
      rw [← e, h2]
      exact List.mem_cons_self
    · rw [if_neg (fun z => e z.1)] at h1
      have h5 : q.1 + 1 = i → xcat w = true → False := by
        intro a b
        obtain ⟨z, hz⟩ := h3 b
        rw [xld_set, if_neg (by omega), xld_set, if_pos ⟨a.symm, by omega⟩] at hz
        exact hv z (Option.some.inj hz)
      refine List.mem_cons_of_mem _ (List.mem_filter.mpr ⟨xal_mem.mpr ⟨w, h1, h2, fun b => ?_, h4⟩, ?_⟩)
      · obtain ⟨z, hz⟩ := h3 b
        rw [xld_set, if_neg (by omega), xld_set, if_neg (fun q => h5 q.1.symm b)] at hz
        exact ⟨z, hz⟩
      · simp only [Bool.and_eq_true, Bool.not_eq_true', beq_eq_false_iff_ne, ne_eq, Bool.and_eq_false_iff]
        refine ⟨fun a => e a.symm, fun a => e1 a.symm, ?_⟩
        by_cases a : q.1 + 1 = i
        · right
          rw [h2, xm_cat hκ]
          intro b
          exact h5 a ((xcat_iff w).mpr b)
        · exact Or.inl a
/-- a local is forgotten -/
theorem xal_none {N0 : Nat} {κ : Nat → Value} {AL : List (Option Value)} {i : Nat} {ls : Array Slot} {nL : Nat} {w : Value} (hi : i < AL.length) (h : lv_has ls nL ((i, w) :: (xal N0 κ AL).filter (fun q => !(q.1 == i) && !(q.1 + 1 == i && q.2.category == 2)))) (hκ : ∀ k, (κ k).category = 1) : lv_has ls nL (xal N0 κ (AL.set i none)) := by
  refine ⟨h.1, h.2.1, fun q hq => h.2.2 q ?_⟩
  obtain ⟨w, h1, h2, h3, h4⟩ := xal_mem.mp hq
  rw [xld_set] at h1
  by_cases e : i = q.1
  · rw [if_pos ⟨e, hi⟩] at h1
    cases h1
  · rw [if_neg (fun z => e z.1)] at h1
    have h5 : q.1 + 1 = i → xcat w = true → False := by
      intro a b
      obtain ⟨z, hz⟩ := h3 b
      rw [xld_set, if_pos ⟨a.symm, hi⟩] at hz
      cases hz
    refine List.mem_cons_of_mem _ (List.mem_filter.mpr ⟨xal_mem.mpr ⟨w, h1, h2, fun b => ?_, h4⟩, ?_⟩)
    · obtain ⟨z, hz⟩ := h3 b
      rw [xld_set, if_neg (fun q => h5 q.1.symm b)] at hz
      exact ⟨z, hz⟩
    · simp only [Bool.and_eq_true, Bool.not_eq_true', beq_eq_false_iff_ne, ne_eq, Bool.and_eq_false_iff]
      refine ⟨fun a => e a.symm, ?_⟩
      by_cases a : q.1 + 1 = i
      · right
        rw [h2, xm_cat hκ]
        intro b
        exact h5 a ((xcat_iff w).mpr b)
      · exact Or.inl a
theorem xal_at {N0 : Nat} {κ : Nat → Value} {AL : List (Option Value)} {i : Nat} {v : Value} {ls : Array Slot} {nL : Nat} (h : lv_has ls nL (xal N0 κ AL)) (hv : xld AL i = some v) (hc : xcat v = true → ∃ z, xld AL (i + 1) = some (.float z)) (hn : ∀ z, v ≠ .float z) : ls[i]? = some (.val (xm N0 κ v)) := h.2.2 (i, xm N0 κ v) (xal_mem.mpr ⟨v, hv, rfl, hc, hn⟩)
theorem xal_get {N0 : Nat} {κ : Nat → Value} {AL : List (Option Value)} {i : Nat} {v : Value} (hv : xld AL i = some v) (hc : xcat v = true → ∃ z, xld AL (i + 1) = some (.float z)) (hn : ∀ z, v ≠ .float z) : ∃ k : Nat, (xal N0 κ AL)[k]? = some (i, xm N0 κ v) := List.getElem?_of_mem (xal_mem.mpr ⟨v, hv, rfl, hc, hn⟩)
/-! cells -/
theorem xws_get {N0 : Nat} {κ : Nat → Value} {cA : FieldType → ClassId} {H : xH} {i : Nat} (h : i < H.2.1) : (xws N0 κ cA H)[i]? = some (N0 + i, xcv N0 κ cA (H.1 i)) := by
  unfold xws
  rw [List.getElem?_map, List.getElem?_range h]
  rfl
theorem xws_len {N0 : Nat} {κ : Nat → Value} {cA : FieldType → ClassId} {H : xH} : (xws N0 κ cA H).length = H.2.1 := by
  unfold xws
  rw [List.length_map, List.length_range]
theorem xws_set {N0 : Nat} {κ : Nat → Value} {cA : FieldType → ClassId} {H : xH} {i : Nat} {c : xC} (h : i < H.2.1) : xws N0 κ cA (xset H i c) = (xws N0 κ cA H).set i (N0 + i, xcv N0 κ cA c) := by
  apply List.ext_getElem?
  intro j
  by_cases hj : j < H.2.1
  · rw [xws_get (H := xset H i c) hj]
    by_cases e : i = j
    · subst e
      rw [List.getElem?_set_self (by rw [xws_len]; exact h)]
      simp [xset, xup]
    · rw [List.getElem?_set_ne e, xws_get hj]
      simp [xset, xup, Ne.symm e]
  · rw [List.getElem?_eq_none (by rw [xws_len]; exact Nat.le_of_not_lt hj), List.getElem?_eq_none (by rw [List.length_set, xws_len]; exact Nat.le_of_not_lt hj)]
theorem xws_new {N0 : Nat} {κ : Nat → Value} {cA : FieldType → ClassId} {H : xH} {c : xC} {k : Nat} : xws N0 κ cA (xnew H c k) = xws N0 κ cA H ++ [(N0 + H.2.1, xcv N0 κ cA c)] := by
  unfold xws xnew
  dsimp only
  rw [List.range_succ, List.map_append]
  congr 1
  · refine List.map_congr_left (fun i hi => ?_)
    have := List.mem_range.mp hi
    have h2 : xup H.1 H.2.1 c i = H.1 i := by unfold xup; rw [if_neg (by omega)]
    rw [h2]
  · simp [xup]
theorem xJ_set {H : xH} {a : Nat} {c : xC} (h : xJ H) (ha : a < H.2.1) : xJ (xset H a c) := by
  intro i hi
  have h1 : H.2.1 ≤ i := hi
  show xup H.1 a c i = xnil
  unfold xup
  rw [if_neg (by omega)]
  exact h i h1
theorem xJ_new {H : xH} {c : xC} {k : Nat} (h : xJ H) : xJ (xnew H c k) := by
  intro i hi
  have h1 : H.2.1 + 1 ≤ i := hi
  show xup H.1 H.2.1 c i = xnil
  unfold xup
  rw [if_neg (by omega)]
  exact h i (by omega)
theorem xJ_lt {H : xH} (h : xJ H) {a : Nat} (hn : H.1 a ≠ xnil) : a < H.2.1 := Nat.lt_of_not_le fun q => hn (h a q)
theorem xfls_at {H : xH} (h : xJ H) {a ci k : Nat} (hk : k < (xfls H a ci).length) (hc : ci < 13) : a < H.2.1 ∧ H.1 a = .inr (ci, xfls H a ci) := by
  have e : H.1 a = .inr (ci, xfls H a ci) := by
    unfold xfls at hk ⊢
    cases q : H.1 a with
    | inl x => rw [q] at hk; exact absurd hk (Nat.not_lt_zero _)
    | inr x =>
      obtain ⟨c, fs⟩ := x
      rw [q] at hk
      dsimp only at hk ⊢
      by_cases e : c = ci
      · rw [if_pos e, e]
      · rw [if_neg e] at hk; exact absurd hk (Nat.not_lt_zero _)
  refine ⟨xJ_lt h ?_, e⟩
  rw [e]
  intro q
  have h9 := (Prod.mk.inj (Sum.inr.inj q)).1
  omega
theorem vp_in_pos {i : Int32} {n : Nat} (h : vp_in i n) : 0 < n := Nat.pos_of_ne_zero fun e => h (Or.inr (by rw [e]; exact Nat.zero_le _))
theorem xarI_at {H : xH} (h : xJ H) {a : Nat} (hn : 0 < xlenI H a) : a < H.2.1 ∧ H.1 a = xarI (xlenI H a) (xfnI H a) := by
  have e : H.1 a = xarI (xlenI H a) (xfnI H a) := by
    unfold xlenI xfnI at *
    split at hn
    · rename_i q; rw [q]
    · exact absurd hn (Nat.lt_irrefl _)
  exact ⟨xJ_lt h (by rw [e]; intro q; cases q), e⟩
theorem xarJ_at {H : xH} (h : xJ H) {a : Nat} (hn : 0 < xlenJ H a) : a < H.2.1 ∧ H.1 a = xarJ (xlenJ H a) (xfnJ H a) := by
  have e : H.1 a = xarJ (xlenJ H a) (xfnJ H a) := by
    unfold xlenJ xfnJ at *
    split at hn
    · rename_i q; rw [q]
    · exact absurd hn (Nat.lt_irrefl _)
  exact ⟨xJ_lt h (by rw [e]; intro q; cases q), e⟩
theorem xarB_at {H : xH} (h : xJ H) {a : Nat} (hn : 0 < xlenB H a) : a < H.2.1 ∧ H.1 a = xarB (xlenB H a) (xfnB H a) := by
  have e : H.1 a = xarB (xlenB H a) (xfnB H a) := by
    unfold xlenB xfnB at *
    split at hn
    · rename_i q; rw [q]
    · exact absurd hn (Nat.lt_irrefl _)
  exact ⟨xJ_lt h (by rw [e]; intro q; cases q), e⟩
theorem xvA_1 (N0 : Nat) (x : vp_A) : (xvA N0 x).1 = x.1 := by
  obtain ⟨n, f | f | f | f | f⟩ := x <;> rfl
/-- which kind of row a tag tells -/
def xtgs (ty : FieldType) : Nat := match ty with | .int => 0 | .long => 1 | .byte => 2 | .char => 3 | _ => 4
theorem xlen_at {H : xH} (h : xJ H) {a n : Nat} (hn : xlen H a = some n) : a < H.2.1 ∧ ∃ (ty : FieldType) (x : vp_A), (ty = .int ∨ ty = .long ∨ ty = .byte ∨ ty = .char ∨ ty = .boolean) ∧ H.1 a = .inl (ty, x) ∧ x.1 = n := by
  have e : ∃ (ty : FieldType) (x : vp_A), (ty = .int ∨ ty = .long ∨ ty = .byte ∨ ty = .char ∨ ty = .boolean) ∧ H.1 a = .inl (ty, x) ∧ x.1 = n := by
    unfold xlen at hn
    split at hn
    · rename_i q; cases hn; exact ⟨_, _, Or.inl rfl, q, rfl⟩
    · rename_i q; cases hn; exact ⟨_, _, Or.inr (Or.inl rfl), q, rfl⟩
    · rename_i q; cases hn; exact ⟨_, _, Or.inr (Or.inr (Or.inl rfl)), q, rfl⟩
    · rename_i q; cases hn; exact ⟨_, _, Or.inr (Or.inr (Or.inr (Or.inl rfl))), q, rfl⟩
    · rename_i q; cases hn; exact ⟨_, _, Or.inr (Or.inr (Or.inr (Or.inr rfl))), q, rfl⟩
    · cases hn
  obtain ⟨ty, x, h1, h2, h3⟩ := e
  exact ⟨xJ_lt h (by rw [h2]; intro q; cases q), ty, x, h1, h2, h3⟩
theorem xarQ_at {H : xH} (h : xJ H) {a : Nat} (hn : 0 < xlenQ H a) : a < H.2.1 ∧ (H.1 a = xarA (xlenQ H a) (xfnQ H a) ∨ H.1 a = xarR (xlenQ H a) (xfnQ H a)) := by
  have e : H.1 a = xarA (xlenQ H a) (xfnQ H a) ∨ H.1 a = xarR (xlenQ H a) (xfnQ H a) := by
    unfold xlenQ xfnQ at *
    split at hn
    · rename_i q; rw [q]; exact Or.inl rfl
    · rename_i q; rw [q]; exact Or.inr rfl
    · exact absurd hn (Nat.lt_irrefl _)
  exact ⟨xJ_lt h (by rcases e with e | e <;> rw [e] <;> intro q <;> cases q), e⟩
theorem xarA_at {H : xH} (h : xJ H) {a : Nat} (hn : 0 < xlenA H a) : a < H.2.1 ∧ H.1 a = xarA (xlenA H a) (xfnQ H a) := by
  have e : H.1 a = xarA (xlenA H a) (xfnQ H a) := by
    unfold xlenA xfnQ at *
    split at hn
    · rename_i q; rw [q]
    · exact absurd hn (Nat.lt_irrefl _)
  exact ⟨xJ_lt h (by rw [e]; intro q; cases q), e⟩
theorem xarR_at {H : xH} (h : xJ H) {a : Nat} (hn : 0 < xlenR H a) : a < H.2.1 ∧ H.1 a = xarR (xlenR H a) (xfnQ H a) := by
  have e : H.1 a = xarR (xlenR H a) (xfnQ H a) := by
    unfold xlenR xfnQ at *
    split at hn
    · rename_i q; rw [q]
    · exact absurd hn (Nat.lt_irrefl _)
  exact ⟨xJ_lt h (by rw [e]; intro q; cases q), e⟩
theorem xisA_at {H : xH} (h : xJ H) {a : Nat} (hn : xisA H a) : a < H.2.1 ∧ H.1 a = xarB (xlenB H a) (xfnB H a) := by
  obtain ⟨n, f, q⟩ := hn
  have e : H.1 a = xarB (xlenB H a) (xfnB H a) := by
    unfold xlenB xfnB
    rw [q]
  exact ⟨xJ_lt h (by rw [e]; intro q; cases q), e⟩
theorem xcl_at {H : xH} (h : xJ H) {a ci : Nat} (hc : xcl H a = ci) (hi : ci < 16) : a < H.2.1 ∧ ∃ fs, H.1 a = .inr (ci, fs) := by
  have e : ∃ fs, H.1 a = .inr (ci, fs) := by
    unfold xcl at hc
    cases q : H.1 a with
    | inl w => rw [q] at hc; dsimp only at hc; omega
    | inr w => obtain ⟨w1, w2⟩ := w; rw [q] at hc; dsimp only at hc; exact ⟨w2, by rw [hc]⟩
  obtain ⟨fs, e⟩ := e
  refine ⟨xJ_lt h (fun q => ?_), fs, e⟩
  rw [e] at q
  have h9 := (Prod.mk.inj (Sum.inr.inj q)).1
  omega
/-- the locals at the entry -/
theorem xent_mem {N0 : Nat} {κ : Nat → Value} (hκ : ∀ k, (κ k).category = 1) : ∀ (vs : List Value) (n j : Nat) (v : Value), xld (xent vs) j = some v → (∀ z, v ≠ .float z) → (n + j, xm N0 κ v) ∈ lv_args n (vs.map (xm N0 κ))
  | [], _, _, _, h, _ => by simp [xent, xld] at h
  | u :: vs, n, j, v, h, hn => by
    have h1 : (xm N0 κ u).category = u.category := xm_cat hκ u
    by_cases hc : xcat u = true
    · have hc2 : u.category = 2 := (xcat_iff u).mp hc
      simp only [xent, if_pos hc] at h
      match j, h with
      | 0, h => cases h; exact List.mem_cons_self
      | 1, h => cases h; exact absurd rfl (hn 0)
      | j + 2, h =>
        have h5 : xld (xent vs) j = some v := h
        have h6 := xent_mem (N0 := N0) (κ := κ) hκ vs (n + 2) j v h5 hn
        rw [show n + 2 + j = n + (j + 2) by omega] at h6
        show _ ∈ (n, xm N0 κ u) :: lv_args (if (xm N0 κ u).category = 2 then n + 2 else n + 1) (vs.map (xm N0 κ))
        rw [h1, if_pos hc2]
        exact List.mem_cons_of_mem _ h6
    · have hc1 : u.category = 1 := by
        rcases lv_cat u with q | q
        · exact q
        · exact absurd ((xcat_iff u).mpr q) hc
      simp only [xent, if_neg hc] at h
      match j, h with
      | 0, h => cases h; exact List.mem_cons_self
      | j + 1, h =>
        have h5 : xld (xent vs) j = some v := h
        have h6 := xent_mem (N0 := N0) (κ := κ) hκ vs (n + 1) j v h5 hn
        rw [show n + 1 + j = n + (j + 1) by omega] at h6
        show _ ∈ (n, xm N0 κ u) :: lv_args (if (xm N0 κ u).category = 2 then n + 2 else n + 1) (vs.map (xm N0 κ))
        rw [h1, if_neg (by omega)]
        exact List.mem_cons_of_mem _ h6
theorem xld_app {l : List (Option Value)} {k j : Nat} {v : Value} (h : xld (l ++ List.replicate k none) j = some v) : xld l j = some v := by
  unfold xld at *
  by_cases hl : j < l.length
  · rwa [List.getElem?_append_left hl] at h
  · rw [List.getElem?_append_right (by omega)] at h
    by_cases h2 : j - l.length < k
    · rw [List.getElem?_replicate, if_pos h2] at h; cases h
    · rw [List.getElem?_replicate, if_neg h2] at h; cases h
theorem xent_len (N0 : Nat) (κ : Nat → Value) (hκ : ∀ k, (κ k).category = 1) : ∀ (vs : List Value), (lg_sl (vs.map (xm N0 κ))).length = (xent vs).length
  | [] => rfl
  | u :: vs => by
    have h1 : (xm N0 κ u).category = u.category := xm_cat hκ u
    have ih := xent_len N0 κ hκ vs
    unfold lg_sl at *
    rw [List.map_cons, List.flatMap_cons, List.length_append, ih, h1]
    by_cases hc : xcat u = true
    · rw [if_pos ((xcat_iff u).mp hc)]
      simp only [xent, if_pos hc, List.length_cons, List.length_nil]
      omega
    · rw [if_neg (fun q => hc ((xcat_iff u).mpr q))]
      simp only [xent, if_neg hc, List.length_cons, List.length_nil]
      omega
theorem xentry_has {N0 : Nat} {κ : Nat → Value} (hκ : ∀ k, (κ k).category = 1) {vs : List Value} {n : Nat} {ls : Array Slot} (h : lv_has ls n (lv_args 0 (vs.map (xm N0 κ)))) : lv_has ls n (xal N0 κ (xentry n vs)) := by
  refine ⟨h.1, h.2.1, fun q hq => h.2.2 q ?_⟩
  obtain ⟨w, h1, h2, h3, h4⟩ := xal_mem.mp hq
  have h5 := xent_mem (N0 := N0) (κ := κ) hκ vs 0 q.1 w (xld_app h1) h4
  rw [Nat.zero_add, ← h2] at h5
  exact h5
