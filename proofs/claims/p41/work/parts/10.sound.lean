/-! ===== the whole: what the machine of cells does, the model does ===== -/
section XTHR
variable {p : Program} {l : Launch} {e : Env} {R : Room} {s : State} {m : MethodId} {args : Array Value} {below : List Frame} {meth : Method} {c : Code} {Qf : State → Prop}
variable {N0 : Nat} {κ : Nat → Value} {cA : FieldType → ClassId} {D : va_G} {n0 k0 : Nat} {rf : xR} {E : xE} {prog : Nat → xM} {y : xM}
/-- q is a thing of the exception's class ci -/
def xTX (s : State) (H : Heap) (q : Addr) (ce : Cell) (ci : Nat) : Prop := H[q]? = some ce ∧ ce.vm = .none ∧ s.vm.findClass (xen ci) = some ce.cls ∧ 13 ≤ ci ∧ ci < 16
/-- rows of handlers, as the tables have them -/
def xokH (own : String) (y : xM) : Prop := ∀ q ∈ y.hh, Jvm.Cond.classLink own q.2.2.2.1 (xen q.2.2.2.2) ∈ lw_tbl ∧ q.2.2.2.1 ≠ 0 ∧ 13 ≤ q.2.2.2.2 ∧ q.2.2.2.2 < 13 ∧ Jvm.Cond.castable (xen q.2.2.2.2) (xen q.2.2.2.2) ∈ lw_tbl
theorem xthr_s (hκ : ∀ k, (κ k).category = 1) (hL : xL s args E N0 κ cA D) (hx : p.tables.exec = Jvm.exec) (hb : c.code = y.by) {own : String} (hown : s.vm.findClass own = some m.cls)
    (hdec : ∀ pc i len r1 r2 r3 r4, y.cd pc = some (i, len, r1, r2, r3, r4) → decode y.by pc = .ok (i, len) ∧ ((∀ k, i = .astore k → len = 2) ∧ ∀ k, i = .astore_n k → len = 1))
    (htab : ¬ y.hh = [] → c.exceptionTable.toList = Jvm.tableOf (xh4 y)) (hhw : xokH own y)
    (hthr : ∀ ci AH, (Sum.inr ci, AH) = rf → ∀ AL ls H locs pc rest q ce, y.hh = [] → xG s c N0 κ cA D AH AL H locs ls → xTX s H q ce ci → vx_W p l e R s m args below meth c H locs (AH.2.1 - n0) (AH.2.2 - k0) Qf (F0 m pc ls rest) q)
    {pc : Nat} {AL : List (Option Value)} {ci : Nat} {AH : xH} (h : xthr y (fun r => r = rf) (xP p l e R s m args below meth c Qf N0 κ cA D n0 k0 rf) pc AL ci AH) (h1 : n0 ≤ AH.2.1) (h2 : k0 ≤ AH.2.2) :
    (AH.2.1 ≤ rf.2.2.1 ∧ AH.2.2 ≤ rf.2.2.2) ∧ ∀ (ls : Array Slot) (H : Heap) (locs : List Loc) (rest : List Value) (q : Addr) (ce : Cell), xG s c N0 κ cA D AH AL H locs ls → xTX s H q ce ci → vx_W p l e R s m args below meth c H locs (AH.2.1 - n0) (AH.2.2 - k0) Qf (F0 m pc ls rest) q := by
  unfold xthr at h
  split at h
  · rename_i h0
    have h : ((Sum.inr ci, AH) : xR) = rf := h
    refine ⟨by rw [← h]; exact ⟨Nat.le_refl _, Nat.le_refl _⟩, fun ls H locs rest q ce g hq => hthr ci AH h AL ls H locs pc rest q ce h0 g hq⟩
  · rename_i h0
    split at h
    · rename_i p0 k0' hh
      obtain ⟨hk, hp⟩ := h
      obtain ⟨hm, hw⟩ := hp h1 h2
      refine ⟨hm, fun ls H locs rest q ce g hq => ?_⟩
      unfold xhand at hh
      split at hh
      · rename_i x hf
        obtain ⟨px, as, bs, hsp, hpre⟩ := List.find?_eq_some_iff_append.mp hf
        have hmem : x ∈ y.hh := by rw [hsp]; exact List.mem_append_right _ List.mem_cons_self
        obtain ⟨w1, w2, w3, w4, w5⟩ := hhw x hmem
        simp only [Bool.and_eq_true, Nat.ble_eq, Nat.blt_eq, Nat.beq_eq] at px
        obtain ⟨⟨px1, px2⟩, px3⟩ := px
        subst px3
        have htb : c.exceptionTable.toList = Jvm.tableOf (as.map fun q => (q.1, q.2.1, q.2.2.1, q.2.2.2.1)) ++ (⟨x.1, x.2.1, x.2.2.1, x.2.2.2.1⟩ : ExceptionTableEntry) :: Jvm.tableOf (bs.map fun q => (q.1, q.2.1, q.2.2.1, q.2.2.2.1)) := by
          rw [htab h0]
          unfold xh4
          rw [hsp]
          simp [Jvm.tableOf]
        obtain ⟨hc1, hc2, hc3, hc4, hc5⟩ := hq
        refine vx_catch (own := own) (name := xen x.2.2.2.2) (E := xen x.2.2.2.2) hown _ _ _ htb (fun z hz => ?_) ?_ w2 (hL.1 _ w1 rfl) (hL.1 _ w5 rfl) hc1 hc2 hc3 ?_
        · unfold Jvm.tableOf at hz
          rw [List.map_map] at hz
          obtain ⟨a, ha, rfl⟩ := List.mem_map.mp hz
          have hpa := hpre a ha
          simp only [Bool.not_eq_true', Bool.and_eq_false_iff, Function.comp] at hpa ⊢
          have hma : a ∈ y.hh := by rw [hsp]; exact List.mem_append_left _ ha
          obtain ⟨v1, v2, v3, v4, v5⟩ := hhw a hma
          rcases hpa with (z1 | z1) | z1
          · left
            simp [covers]
            left
            exact Nat.lt_of_not_le fun z2 => by rw [Nat.ble_eq_true_of_le z2] at z1; cases z1
          · left
            simp [covers]
            right
            exact Nat.le_of_not_lt fun z2 => by rw [Nat.blt_eq.mpr z2] at z1; cases z1
          · right
            exact absurd v4 (Nat.not_lt.mpr v3)
        · simp [covers]
          omega
        · split at hh
          · rename_i k r hcd
            obtain ⟨r1, r2, r3, r4, r5⟩ := r
            cases hh
            obtain ⟨d1, d2, d3⟩ := hdec _ _ _ _ _ _ _ hcd
            have e2 := d2 _ rfl
            subst e2
            exact lv_astore hx hb d1 g.2.1 (by rw [← g.2.2]; exact hk) rfl (fun ls' h' => hw ls' H locs ⟨g.1, xal_none hk h' hκ, by rw [List.length_set]; exact g.2.2⟩)
          · rename_i k r hcd
            obtain ⟨r1, r2, r3, r4, r5⟩ := r
            cases hh
            obtain ⟨d1, d2, d3⟩ := hdec _ _ _ _ _ _ _ hcd
            have e2 := d3 _ rfl
            subst e2
            exact lv_astore_n hx hb d1 rfl g.2.1 (by rw [← g.2.2]; exact hk) rfl (fun ls' h' => hw ls' H locs ⟨g.1, xal_none hk h' hκ, by rw [List.length_set]; exact g.2.2⟩)
          · cases hh
      · cases hh
    · exact h.elim
end XTHR
