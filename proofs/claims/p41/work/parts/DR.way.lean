/-! ===== the law's reckoning is made: which way a thing goes ===== -/
section WAY
variable {E : xE} {d D : Nat} {Q : xR → Prop} {H X Z : xH} {p v n m i c s0 s1 rk ru rc tn k cx cy : Nat} {x : Int32} {ak au : List Nat} {fk fu : Nat → Nat → Int32} {P : List (Nat × Nat × Nat) × List (Nat × Nat)}
/-- what stands so far: kettles ak, customs au, of P -/
def siP (H : xH) (p s0 s1 rk ru rc : Nat) (ak au : List Nat) (P : List (Nat × Nat × Nat) × List (Nat × Nat)) : Prop :=
  H.1 p = simF s0 s1 0 0 0 rk ru rc .null ∧ H.1 rk = rowL ak ∧ H.1 ru = rowL au ∧ H.1 rc = rowL [] ∧ ak.length = P.1.length ∧ au.length = P.2.length ∧
  (∀ i (h : i < ak.length), ak[i] < H.2.1 ∧ H.1 ak[i] = xarI 5 (f5 (P.1.getD i (0, 0, 0)).1 (P.1.getD i (0, 0, 0)).2.1 (P.1.getD i (0, 0, 0)).2.2)) ∧
  (∀ i (h : i < au.length), au[i] < H.2.1 ∧ H.1 au[i] = xarI 2 (f2 (P.2.getD i (0, 0)).1 (P.2.getD i (0, 0)).2)) ∧ p < H.2.1 ∧ rk < H.2.1 ∧ ru < H.2.1 ∧ rc < H.2.1
theorem siP_atk (h : siP H p s0 s1 rk ru rc ak au P) (h6 : P.1.length ≤ 6) {X Y : Int32} : xcall E xprog (d + 1) 110 [.ref rk, .int X, .int Y] H Q = Q (.inl (some (.int (kAt (fun k => f5 (P.1.getD k (0, 0, 0)).1 (P.1.getD k (0, 0, 0)).2.1 (P.1.getD k (0, 0, 0)).2.2 0) (fun k => f5 (P.1.getD k (0, 0, 0)).1 (P.1.getD k (0, 0, 0)).2.1 (P.1.getD k (0, 0, 0)).2.2 1) X Y 0 P.1.length))), H) := by
  obtain ⟨h1, h2, h3, h4, h5, h6', h7, -⟩ := h
  rw [← h5]
  exact f_S_at (wd := 5) (q := fun k => ak.getD k 0) (f := fun k => f5 (P.1.getD k (0, 0, 0)).1 (P.1.getD k (0, 0, 0)).2.1 (P.1.getD k (0, 0, 0)).2.2) h2 (by omega) (by omega) (by omega) fun k hk => by
    have e : ak.getD k 0 = ak[k] := gD hk
    show ak[k]? = some (ak.getD k 0) ∧ H.1 (ak.getD k 0) = _
    rw [e]
    exact ⟨List.getElem?_eq_getElem hk, (h7 k hk).2⟩
theorem siP_atu (h : siP H p s0 s1 rk ru rc ak au P) (h6 : P.2.length ≤ 6) {X Y : Int32} : xcall E xprog (d + 1) 110 [.ref ru, .int X, .int Y] H Q = Q (.inl (some (.int (kAt (fun k => f2 (P.2.getD k (0, 0)).1 (P.2.getD k (0, 0)).2 0) (fun k => f2 (P.2.getD k (0, 0)).1 (P.2.getD k (0, 0)).2 1) X Y 0 P.2.length))), H) := by
  obtain ⟨h1, h2, h3, h4, h5, h6', h7, h8, -⟩ := h
  rw [← h6']
  exact f_S_at (wd := 2) (q := fun k => au.getD k 0) (f := fun k => f2 (P.2.getD k (0, 0)).1 (P.2.getD k (0, 0)).2) h3 (by omega) (by omega) (by omega) fun k hk => by
    have e : au.getD k 0 = au[k] := gD hk
    show au[k]? = some (au.getD k 0) ∧ H.1 (au.getD k 0) = _
    rw [e]
    exact ⟨List.getElem?_eq_getElem hk, (h8 k hk).2⟩
end WAY
