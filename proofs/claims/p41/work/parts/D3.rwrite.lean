/-! ===== a rule's objects write it ===== -/
section RWRITE
variable {E : xE} {d D : Nat} {Q : xR → Prop} {H X H0 : xH} {p v n m q a b lo hi k fr dp r cb sl u : Nat} {x y : Int32} {jk : Option Value} {L T : List Nat} {ym : xM}
/-- text i's letters -/
def txL (i : Nat) : List Nat := (xtb.getD i []).map (fun c => c.toNatClampNeg)
theorem txL_st (H : xH) {i : Nat} (hi : i < 43) : stV H (.retAddr (100 + 2 * i)) (txL i) := by
  refine Or.inl ⟨i, hi, rfl, by unfold txL; rw [List.length_map]; rfl, fun j hj => ?_⟩
  have hj2 : j < tln i := by unfold txL at hj; rw [List.length_map] at hj; exact hj
  obtain ⟨n, h1, h2, h3⟩ := (tx_ok i hi).2 j hj2
  show tch i j = nI ((txL i).getD j 0)
  have : (txL i).getD j 0 = (tch i j).toNatClampNeg := by
    have hg : ∀ l : List Int32, j < l.length → (l.map (fun c => c.toNatClampNeg)).getD j 0 = (l.getD j 0).toNatClampNeg := by
      intro l hl
      rw [List.getD_eq_getElem?_getD, List.getD_eq_getElem?_getD, List.getElem?_map, List.getElem?_eq_getElem hl]
      rfl
    exact hg _ hj2
  rw [this, h3, ncl (by omega)]
theorem txL_is : txL 0 = wby 16 ∧ txL 1 = wby 17 ∧ txL 2 = wby 18 ∧ txL 3 = wby 19 ∧ txL 4 = wby 20 ∧ txL 5 = wby 21 ∧ txL 6 = wby 22 ∧ txL 7 = wby 23 ∧ txL 8 = wby 24 ∧ txL 9 = wby 25 := by
  unfold txL; rw [xtb_is]; decide +kernel
theorem txL_sg : txL 10 = [43] ∧ txL 11 = [45] ∧ txL 12 = [42] ∧ txL 13 = [47] ∧ txL 14 = [37] ∧ txL 15 = [60] ∧ txL 16 = [62] ∧ txL 17 = [61] ∧ txL 18 = 32 :: (wby 12 ++ [32]) ∧ txL 19 = 32 :: (wby 11 ++ [32]) := by
  unfold txL; rw [xtb_is]; decide +kernel
theorem txL_ru : txL 32 = [] ∧ txL 33 = [45] ∧ txL 34 = wby 13 ++ [32] ∧ txL 35 = wby 14 ++ [40] ∧ txL 36 = wby 15 ++ [40] ∧ txL 37 = [44] ∧ txL 38 = [41] ∧ txL 39 = [40] ∧ txL 40 = wby 8 ++ [32] ∧ txL 41 = 32 :: (wby 9 ++ [32]) ∧ txL 42 = 32 :: (wby 10 ++ [32]) := by
  unfold txL; rw [xtb_is]; decide +kernel
theorem txL_len : ∀ i, i < 43 → ¬ i = 26 → ¬ i = 27 → (txL i).length ≤ 10 := by
  unfold txL; rw [xtb_is]; decide +kernel
theorem sbAt_fr {e f : Nat} (h : sbAt lo cb sl H q L) (hx : ∀ a, a < H.2.1 → X.1 a = H.1 a) (h1 : H.2.1 ≤ X.2.1) (h2 : X.2.1 ≤ H.2.1 + e) (h3 : X.2.2 ≤ H.2.2 + f) : sbAt lo (cb + e) (sl + f) X q L := by
  obtain ⟨a1, a2, v, m, g, b1, b2, b3, b4, b5, b6, b7, b8, b9, c1, c2⟩ := h
  exact ⟨a1, by omega, v, m, g, b1, by omega, b3, (hx q a2).trans b4, (hx v b2).trans b5, b6, b7, b8, b9, by omega, by omega⟩
/-- from a state to a state, the builder gets T -/
def rnT (E : xE) (D : Nat) (y : xM) (lo q : Nat) (H0 : xH) (s t : Nat × List (Option Value) × List Value) (T : List Nat) (u : Nat) : Prop :=
  ∀ (H : xH) (L : List Nat) (cb sl : Nat), (∀ a, a < lo → H.1 a = H0.1 a) → sbAt lo cb sl H q L → L.length + T.length ≤ 50000 → ∃ X cb' sl', (∀ Q, xr E D y Q (s.1, s.2.1, s.2.2, H) = xr E D y Q (t.1, t.2.1, t.2.2, X)) ∧ sbAt lo cb' sl' X q (L ++ T) ∧ (∀ a, a < lo → X.1 a = H0.1 a) ∧ H.2.1 ≤ X.2.1 ∧ cb' ≤ cb + 60 * u ∧ sl' ≤ sl + 120 * u
variable {s t w : Nat × List (Option Value) × List Value}
theorem rn_tr {T1 T2 : List Nat} {u1 u2 : Nat} (h1 : rnT E D ym lo q H0 s t T1 u1) (h2 : rnT E D ym lo q H0 t w T2 u2) : rnT E D ym lo q H0 s w (T1 ++ T2) (u1 + u2) := by
  intro H L cb sl hf hs hl
  rw [List.length_append] at hl
  obtain ⟨X, cb1, sl1, e1, e2, e3, e4, e5, e6⟩ := h1 H L cb sl hf hs (by omega)
  obtain ⟨Y, cb2, sl2, f1, f2, f3, f4, f5, f6⟩ := h2 X (L ++ T1) cb1 sl1 e3 e2 (by rw [List.length_append]; omega)
  refine ⟨Y, cb2, sl2, fun Q => (e1 Q).trans (f1 Q), ?_, f3, by omega, by omega, by omega⟩
  rw [← List.append_assoc]; exact f2
theorem rn_mono {u2 : Nat} (h : rnT E D ym lo q H0 s t T u) (hu : u ≤ u2) : rnT E D ym lo q H0 s t T u2 := by
  intro H L cb sl hf hs hl
  obtain ⟨X, cb1, sl1, e1, e2, e3, e4, e5, e6⟩ := h H L cb sl hf hs hl
  exact ⟨X, cb1, sl1, e1, e2, e3, e4, by omega, by omega⟩
theorem rn_0 (h : ∀ (H : xH) (Q : xR → Prop), (∀ a, a < lo → H.1 a = H0.1 a) → xcl H q = 11 → xr E D ym Q (s.1, s.2.1, s.2.2, H) = xr E D ym Q (t.1, t.2.1, t.2.2, H)) : rnT E D ym lo q H0 s t [] 0 := by
  intro H L cb sl hf hs hl
  exact ⟨H, cb, sl, fun Q => h H Q hf (sb_cl hs), by rw [List.append_nil]; exact hs, hf, Nat.le_refl _, by omega, by omega⟩
theorem rn_c {i : Nat} (hi : i < 43) (h : ∀ (H X : xH) (Q : xR → Prop), (∀ a, a < lo → H.1 a = H0.1 a) → xcl H q = 11 → (∀ Q, xcall E xprog (d + 6) 148 [.ref q, .retAddr (100 + 2 * i)] H Q = Q (.inl (some (.ref q)), X)) → xr E (d + 6) ym Q (s.1, s.2.1, s.2.2, H) = xr E (d + 6) ym Q (t.1, t.2.1, t.2.2, X)) : rnT E (d + 6) ym lo q H0 s t (txL i) 0 := by
  intro H L cb sl hf hs hl
  obtain ⟨X, e1, e2, e3, e4⟩ := sb_appS (E := E) (d := d + 1) hs (txL_st H hi) hl
  exact ⟨X, cb, sl, fun Q => h H X Q hf (sb_cl hs) e1, e2, fun a ha => (e3 a ha).trans (hf a ha), e4, by omega, by omega⟩
/-- nodes, at the most -/
def wN : Nat → Nat | 0 => 0 | n + 1 => 1 + 3 * wN n
/-- what is written -/
def wrt (E : xE) : Nat → Nat → Nat → Bool → List Nat
  | 0, _, _, _ => []
  | n + 1, fr, dp, free =>
    if rud E fr dp = 0 then dcL (run E fr dp)
    else if rud E fr dp = 1 then txL (run E fr dp)
    else if rud E fr dp = 2 then txL 33 ++ wrt E n (fr * 2 + 3) (dp + 1) false
    else if rud E fr dp = 3 then txL 34 ++ wrt E n (fr * 2 + 3) (dp + 1) false
    else if rud E fr dp = 14 then txL 35 ++ (wrt E n (fr * 2 + 3) (dp + 1) true ++ (txL 37 ++ (wrt E n (fr * 2 + 4) (dp + 1) true ++ txL 38)))
    else if rud E fr dp = 15 then txL 36 ++ (wrt E n (fr * 2 + 3) (dp + 1) true ++ (txL 37 ++ (wrt E n (fr * 2 + 4) (dp + 1) true ++ txL 38)))
    else if rud E fr dp = 16 then (if free = true then [] else txL 39) ++ (txL 40 ++ (wrt E n (fr * 2 + 3) (dp + 1) true ++ (txL 41 ++ (wrt E n (fr * 2 + 4) (dp + 1) true ++ (txL 42 ++ (wrt E n (fr * 2 + 5) (dp + 1) true ++ (if free = true then [] else txL 38)))))))
    else (if free = true then [] else txL 39) ++ (wrt E n (fr * 2 + 3) (dp + 1) false ++ (txL (10 + (rud E fr dp - 4)) ++ (wrt E n (fr * 2 + 4) (dp + 1) false ++ (if free = true then [] else txL 38))))
theorem wrt_len : ∀ (n fr dp : Nat) (free : Bool), (wrt E n fr dp free).length ≤ 25 * wN n
  | 0, _, _, _ => Nat.zero_le _
  | n + 1, fr, dp, free => by
    have hd := rud_le (E := E) fr dp
    have c1 := wrt_len n (fr * 2 + 3) (dp + 1)
    have c2 := wrt_len n (fr * 2 + 4) (dp + 1)
    have c3 := wrt_len n (fr * 2 + 5) (dp + 1)
    have ht := fun i hi h1 h2 => txL_len i hi h1 h2
    have l33 := txL_len 33 (by decide) (by decide) (by decide)
    have l34 := txL_len 34 (by decide) (by decide) (by decide)
    have l35 := txL_len 35 (by decide) (by decide) (by decide)
    have l36 := txL_len 36 (by decide) (by decide) (by decide)
    obtain ⟨-, -, -, -, -, l37, l38, l39, l40, l41, l42⟩ := txL_ru
    have w8 : (wby 8).length = 2 := rfl
    have w9 : (wby 9).length = 4 := rfl
    have w10 : (wby 10).length = 4 := rfl
    have c1t := c1 true; have c1f := c1 false; have c2t := c2 true; have c2f := c2 false; have c3t := c3 true
    unfold wrt wN
    by_cases h0 : rud E fr dp = 0
    · rw [if_pos h0]
      have := (dc_ok (run_0 h0)).2.1
      omega
    rw [if_neg h0]
    by_cases h1 : rud E fr dp = 1
    · rw [if_pos h1]
      have := run_1 h1
      have := txL_len (run E fr dp) (by omega) (by omega) (by omega)
      omega
    rw [if_neg h1]
    by_cases h2 : rud E fr dp = 2
    · rw [if_pos h2, List.length_append]; omega
    rw [if_neg h2]
    by_cases h3 : rud E fr dp = 3
    · rw [if_pos h3, List.length_append]; omega
    rw [if_neg h3]
    by_cases h4 : rud E fr dp = 14
    · rw [if_pos h4]
      simp only [List.length_append, l37, l38, List.length_cons, List.length_nil]; omega
    rw [if_neg h4]
    by_cases h5 : rud E fr dp = 15
    · rw [if_pos h5]
      simp only [List.length_append, l37, l38, List.length_cons, List.length_nil]; omega
    rw [if_neg h5]
    by_cases h6 : rud E fr dp = 16
    · rw [if_pos h6]
      cases free <;> simp [l38, l39, l40, l41, l42, w8, w9, w10] <;> omega
    · rw [if_neg h6]
      have := txL_len (10 + (rud E fr dp - 4)) (by omega) (by omega) (by omega)
      cases free <;> simp [l38, l39] <;> omega
end RWRITE
