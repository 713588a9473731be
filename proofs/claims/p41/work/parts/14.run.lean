/-! ===== running the machine by equations ===== -/
def xr (E : xE) (d : Nat) (y : xM) (Q : xR → Prop) (st : xF) : Prop := xRn E xprog (xcall E xprog d) y Q st
/-- behind a call -/
def xk (E : xE) (d : Nat) (y : xM) (Q : xR → Prop) (pc nx : Nat) (ls : List (Option Value)) (rest : List Value) : xR → Prop := fun r => match r with
  | (.inl (some v), H) => xr E d y Q (nx, ls, v :: rest, H)
  | (.inl none, H) => xr E d y Q (nx, ls, rest, H)
  | (.inr ci, H) => xthr y Q (xr E d y Q) pc ls ci H
section XR
variable {E : xE} {d : Nat} {y : xM} {Q : xR → Prop} {st st' : xF} {g : Prop}
theorem xr_S : xr E d y Q st = xS E xprog (xcall E xprog d) y Q (xr E d y Q) st := propext ⟨xRn_out (xcall_mono d), xRn_in (xcall_mono d)⟩
theorem xr_n1 (h : xact E xprog y st = some (True, .inl st')) : xr E d y Q st = xr E d y Q st' := by
  rw [xr_S]; unfold xS; rw [h]; exact true_and _
theorem xr_n2 (h : xact E xprog y st = some (g, .inl st')) (hg : g) : xr E d y Q st = xr E d y Q st' := by
  rw [xr_S]; unfold xS; rw [h]; exact propext ⟨fun q => q.2, fun q => ⟨hg, q⟩⟩
theorem xr_n3 {g' : Prop} (h : xact E xprog y st = some (g, .inl st')) (hg : g ↔ g') : xr E d y Q st = (g' ∧ xr E d y Q st') := by
  rw [xr_S]; unfold xS; rw [h]; exact propext ⟨fun q => ⟨hg.mp q.1, q.2⟩, fun q => ⟨hg.mpr q.1, q.2⟩⟩
theorem xr_eq {x z : Int32} {sa sb : xF} (h : xact E xprog y st = some (g, .inr (.inl (x = z, sa, sb)))) (hg : g) : xr E d y Q st = if x = z then xr E d y Q sa else xr E d y Q sb := by
  rw [xr_S]; unfold xS; rw [h]
  by_cases q : x = z
  · rw [if_pos q]; exact propext ⟨fun w => w.2.1 q, fun w => ⟨hg, fun _ => w, fun n => absurd q n⟩⟩
  · rw [if_neg q]; exact propext ⟨fun w => w.2.2 q, fun w => ⟨hg, fun n => absurd n q, fun _ => w⟩⟩
theorem xr_ne {x z : Int32} {sa sb : xF} (h : xact E xprog y st = some (g, .inr (.inl (¬ x = z, sa, sb)))) (hg : g) : xr E d y Q st = if x = z then xr E d y Q sb else xr E d y Q sa := by
  rw [xr_S]; unfold xS; rw [h]
  by_cases q : x = z
  · rw [if_pos q]; exact propext ⟨fun w => w.2.2 (fun n => n q), fun w => ⟨hg, fun n => absurd q n, fun _ => w⟩⟩
  · rw [if_neg q]; exact propext ⟨fun w => w.2.1 q, fun w => ⟨hg, fun _ => w, fun n => absurd q n⟩⟩
theorem xr_lt {x z : Int32} {sa sb : xF} (h : xact E xprog y st = some (g, .inr (.inl (x < z, sa, sb)))) (hg : g) : xr E d y Q st = if x < z then xr E d y Q sa else xr E d y Q sb := by
  rw [xr_S]; unfold xS; rw [h]
  by_cases q : x < z
  · rw [if_pos q]; exact propext ⟨fun w => w.2.1 q, fun w => ⟨hg, fun _ => w, fun n => absurd q n⟩⟩
  · rw [if_neg q]; exact propext ⟨fun w => w.2.2 q, fun w => ⟨hg, fun n => absurd n q, fun _ => w⟩⟩
theorem xlt_le {x z : Int32} : ¬ x < z ↔ z ≤ x := by rw [Int32.lt_iff_toInt_lt, Int32.le_iff_toInt_le]; omega
theorem xr_le {x z : Int32} {sa sb : xF} (h : xact E xprog y st = some (g, .inr (.inl (z ≤ x, sa, sb)))) (hg : g) : xr E d y Q st = if x < z then xr E d y Q sb else xr E d y Q sa := by
  rw [xr_S]; unfold xS; rw [h]
  by_cases q : x < z
  · rw [if_pos q]; exact propext ⟨fun w => w.2.2 (fun n => xlt_le.mpr n q), fun w => ⟨hg, fun n => absurd q (xlt_le.mpr n), fun _ => w⟩⟩
  · rw [if_neg q]; exact propext ⟨fun w => w.2.1 (xlt_le.mp q), fun w => ⟨hg, fun _ => w, fun n => absurd (xlt_le.mp q) n⟩⟩
theorem xr_r2 {v : Option Value} (h : xact E xprog y st = some (g, .inr (.inr (.inl v)))) (hg : g) : xr E d y Q st = Q (.inl v, st.2.2.2) := by
  rw [xr_S]; unfold xS; rw [h]; exact propext ⟨fun q => q.2, fun q => ⟨hg, q⟩⟩
theorem xr_r3 {v : Option Value} (h : xact E xprog y st = some (g, .inr (.inr (.inl v)))) : xr E d y Q st = (g ∧ Q (.inl v, st.2.2.2)) := by
  rw [xr_S]; unfold xS; rw [h]
theorem xr_c2 {k mn nx : Nat} {as rest : List Value} {g' : Prop} (h : xact E xprog y st = some (g, .inr (.inr (.inr (.inl (k, mn, as, rest)))))) (hg : g ↔ g') (hn : nx = st.1 + 3) : xr E d y Q st = (g' ∧ xcall E xprog d mn as st.2.2.2 (xk E d y Q st.1 nx st.2.1 rest)) := by
  subst hn
  rw [xr_S]; unfold xS; rw [h]
  have e : ∀ F : xR → Prop, (∀ r, F r = xk E d y Q st.1 (st.1 + 3) st.2.1 rest r) → (g ∧ xcall E xprog d mn as st.2.2.2 F) = (g' ∧ xcall E xprog d mn as st.2.2.2 (xk E d y Q st.1 (st.1 + 3) st.2.1 rest)) := fun F hF => by
    rw [funext hF]; exact propext ⟨fun q => ⟨hg.mp q.1, q.2⟩, fun q => ⟨hg.mpr q.1, q.2⟩⟩
  exact e _ (fun r => by
    obtain ⟨v | ci, H⟩ := r
    · cases v <;> rfl
    · rfl)
theorem xr_c1 {k mn nx : Nat} {as rest : List Value} (h : xact E xprog y st = some (g, .inr (.inr (.inr (.inl (k, mn, as, rest)))))) (hg : g) (hn : nx = st.1 + 3) : xr E d y Q st = xcall E xprog d mn as st.2.2.2 (xk E d y Q st.1 nx st.2.1 rest) := by
  rw [xr_c2 (g' := True) h ⟨fun _ => trivial, fun _ => hg⟩ hn]; exact true_and _
theorem xr_t {ci : Nat} {g' : Prop} (h : xact E xprog y st = some (g, .inr (.inr (.inr (.inr ci))))) (hg : g) : xr E d y Q st = xthr y Q (xr E d y Q) st.1 st.2.1 ci st.2.2.2 := by
  rw [xr_S]; unfold xS; rw [h]; exact propext ⟨fun q => q.2, fun q => ⟨hg, q⟩⟩
theorem xr_r4 {v : Option Value} {g' : Prop} (h : xact E xprog y st = some (g, .inr (.inr (.inl v)))) (hg : g ↔ g') : xr E d y Q st = (g' ∧ Q (.inl v, st.2.2.2)) := by
  rw [xr_S]; unfold xS; rw [h]; exact propext ⟨fun q => ⟨hg.mp q.1, q.2⟩, fun q => ⟨hg.mpr q.1, q.2⟩⟩
theorem xr_al1 {n : Option Nat} {p : Nat} {ls : List (Option Value)} {rs : List Value} {H : xH} (h : xact E xprog y st = (match n with | some n => xnx (p + 1) ls (.int (nI n) :: rs) H | none => none)) : xr E d y Q st = (n.isSome = true ∧ xr E d y Q (p + 1, ls, .int (nI (n.getD 0)) :: rs, H)) := by
  cases n with
  | none =>
    rw [xr_S]; unfold xS; rw [h]
    exact propext ⟨fun q => q.elim, fun q => nomatch q.1⟩
  | some n => rw [xr_n1 h]; exact propext ⟨fun q => ⟨rfl, q⟩, fun q => q.2⟩
theorem xk_v {pc nx : Nat} {ls : List (Option Value)} {rest : List Value} {v : Value} {H : xH} : xk E d y Q pc nx ls rest (.inl (some v), H) = xr E d y Q (nx, ls, v :: rest, H) := rfl
theorem xk_n {pc nx : Nat} {ls : List (Option Value)} {rest : List Value} {H : xH} : xk E d y Q pc nx ls rest (.inl none, H) = xr E d y Q (nx, ls, rest, H) := rfl
theorem xk_x {pc nx ci : Nat} {ls : List (Option Value)} {rest : List Value} {H : xH} (h : y.hh = []) : xk E d y Q pc nx ls rest (.inr ci, H) = Q (.inr ci, H) := by
  show xthr y Q (xr E d y Q) pc ls ci H = _
  unfold xthr
  rw [if_pos h]
theorem xcall_in {n : Nat} {as : List Value} {H : xH} (h : (xent as).length ≤ (xprog n).ml) : xcall E xprog (d + 1) n as H Q = xr E d (xprog n) Q (0, xentry (xprog n).ml as, [], H) := propext ⟨fun q => q.2, fun q => ⟨h, q⟩⟩
end XR
