/-! ===== what the two readings have in common: clippers ===== -/
section REL3
variable {kd nu st : Nat → Int32} {vl : Nat → Int64} {T : Nat → Nat} {l EE x ln : Nat} {e f w : Int32 × Int32} {k km : bkS}
theorem ntM_2 {n : Int32} : ntM T l (ntM T l f n x) n x = ntM T l f n x := by
  by_cases p : ¬ f.1 = 0 ∧ (f.2 < mzF T l x ∨ f.1 < n)
  · have e1 : ntM T l f n x = f := if_pos p
    rw [e1, e1]
  · have e1 : ntM T l f n x = (n, mzF T l x) := if_neg p
    rw [e1]
    exact if_neg (fun w => w.2.elim (fun v => Int32.lt_irrefl v) (fun v => Int32.lt_irrefl v))
theorem nmF_is {ns : Nat → Int64} {v : Int64} : ∀ m i (f : Int32 × Int32), nmF T l ns v x i m f = if ¬ nAt ns v i m = 0 then ntM T l f 2 x else f := by
  intro m
  induction m with
  | zero => intro i f; exact (if_neg (fun h => h rfl)).symm
  | succ m ih =>
    intro i f
    unfold nmF nAt
    by_cases p : ns i = v
    · rw [if_pos p, if_pos p, if_pos (by decide), ih, ntM_2, ite_self]
    · rw [if_neg p, if_neg p, ih]
theorem nAt_eq {vx : Int64} {mx : Int64} {n : Nat} (h : ∀ c, c < n → ((k.2.1 c = vx) ↔ (km.2.1 c = mx))) : ∀ m i, i + m = n → ((nAt k.2.1 vx i m = 0) ↔ (nAt km.2.1 mx i m = 0)) := by
  intro m
  induction m with
  | zero => intro i hi; exact Iff.rfl
  | succ m ih =>
    intro i hi
    unfold nAt
    by_cases p : k.2.1 i = vx
    · rw [if_pos p, if_pos ((h i (by omega)).mp p)]
    · rw [if_neg p, if_neg (fun w => p ((h i (by omega)).mpr w))]
      exact ih (i + 1) (by omega)
theorem add_tau : ∀ (A B : List (Int32 × Int32)) (u : rus) (m : mos), al2 A B → u.2.2 = m.2 → u.2.2 + A.length ≤ 400 → (∀ j, j < u.2.2 → tau (u.1 j) (u.2.1 j) (m.1 (2 * j)) (m.1 (2 * j + 1))) →
    (addL u A).2.2 = u.2.2 + A.length ∧ (addM m B).2 = u.2.2 + A.length ∧ ∀ j, j < u.2.2 + A.length → tau ((addL u A).1 j) ((addL u A).2.1 j) ((addM m B).1 (2 * j)) ((addM m B).1 (2 * j + 1))
  | [], [], u, m, _, h1, _, h3 => ⟨rfl, h1.symm, h3⟩
  | [], _ :: _, _, _, h, _, _, _ => h.elim
  | _ :: _, [], _, _, h, _, _, _ => h.elim
  | a :: A, b :: B, u, m, h, h1, h2, h3 => by
    have h2' : u.2.2 + (A.length + 1) ≤ 400 := h2
    have e1 : addR u a.1 a.2 = (upd u.1 u.2.2 a.1, upd u.2.1 u.2.2 a.2, u.2.2 + 1) := if_pos (by omega)
    have r := add_tau A B (upd u.1 u.2.2 a.1, upd u.2.1 u.2.2 a.2, u.2.2 + 1) (putM m b.1 b.2) h.2 (by show u.2.2 + 1 = m.2 + 1; omega) (by show u.2.2 + 1 + A.length ≤ 400; omega) (fun j hj => by
      have hj' : j < u.2.2 + 1 := hj
      show tau (upd u.1 u.2.2 a.1 j) (upd u.2.1 u.2.2 a.2 j) (upd (upd m.1 (2 * m.2) b.1) (2 * m.2 + 1) b.2 (2 * j)) (upd (upd m.1 (2 * m.2) b.1) (2 * m.2 + 1) b.2 (2 * j + 1))
      by_cases q : j = u.2.2
      · subst q
        rw [upd_s, upd_s, ← h1, upd_o (by omega), upd_s, upd_s]
        exact h.1
      · rw [upd_o q, upd_o q, upd_o (by omega), upd_o (by omega), upd_o (by omega), upd_o (by omega)]
        exact h3 j (by omega))
    have e2 : u.2.2 + 1 + A.length = u.2.2 + (A.length + 1) := by omega
    show (addL (addR u a.1 a.2) A).2.2 = u.2.2 + (A.length + 1) ∧ (addM (putM m b.1 b.2) B).2 = u.2.2 + (A.length + 1) ∧ ∀ j, j < u.2.2 + (A.length + 1) → tau ((addL (addR u a.1 a.2) A).1 j) ((addL (addR u a.1 a.2) A).2.1 j) ((addM (putM m b.1 b.2) B).1 (2 * j)) ((addM (putM m b.1 b.2) B).1 (2 * j + 1))
    rw [e1, ← e2]
    exact r
theorem add_keep : ∀ (A : List (Int32 × Int32)) (u : rus), ∀ j, j < u.2.2 → (addL u A).1 j = u.1 j
  | [], _, _, _ => rfl
  | a :: A, u, j, hj => by
    show (addL (addR u a.1 a.2) A).1 j = u.1 j
    unfold addR
    by_cases p : u.2.2 < 400
    · rw [if_pos p]
      have := add_keep A (upd u.1 u.2.2 a.1, upd u.2.1 u.2.2 a.2, u.2.2 + 1) j (by show j < u.2.2 + 1; omega)
      rw [this]
      exact upd_o (by omega)
    · rw [if_neg p]
      exact add_keep A u j hj
theorem hst_le (k : Int32) (h : Nat) : hst k h ≤ h + 1 := by
  unfold hst
  repeat' split
  all_goals omega
theorem hok_hgt : ∀ (A : List (Int32 × Int32)) (u : rus) (h : Nat), h ≤ u.2.2 → u.2.2 + A.length ≤ 400 → hok A h 1 → hgt (addL u A).1 u.2.2 A.length h
  | [], _, _, _, _, h3 => h3.symm
  | a :: A, u, h, h1, h2, h3 => by
    have h2' : u.2.2 + (A.length + 1) ≤ 400 := h2
    have e1 : addR u a.1 a.2 = (upd u.1 u.2.2 a.1, upd u.2.1 u.2.2 a.2, u.2.2 + 1) := if_pos (by omega)
    have r := hok_hgt A (upd u.1 u.2.2 a.1, upd u.2.1 u.2.2 a.2, u.2.2 + 1) (hst a.1 h) (by have := hst_le a.1 h; show hst a.1 h ≤ u.2.2 + 1; omega) (by show u.2.2 + 1 + A.length ≤ 400; omega) h3.2
    have e2 : (addL (addR u a.1 a.2) A).1 u.2.2 = a.1 := by
      rw [e1, add_keep A _ u.2.2 (by show u.2.2 < u.2.2 + 1; omega)]
      exact upd_s
    show hnd ((addL (addR u a.1 a.2) A).1 u.2.2) ≤ h ∧ h < 400 ∧ hgt (addL (addR u a.1 a.2) A).1 (u.2.2 + 1) A.length (hst ((addL (addR u a.1 a.2) A).1 u.2.2) h)
    rw [e2, e1]
    exact ⟨h3.1, by omega, r⟩
theorem hgt_cong {p q : Nat → Int32} : ∀ m i h, (∀ j, i ≤ j → j < i + m → q j = p j) → hgt p i m h → hgt q i m h
  | 0, _, _, _, h => h
  | m + 1, i, h, hc, hh => by
    obtain ⟨h1, h2, h3⟩ := hh
    have e := hc i (Nat.le_refl _) (by omega)
    refine ⟨by rw [e]; exact h1, h2, ?_⟩
    rw [e]
    exact hgt_cong m (i + 1) _ (fun j a b => hc j (by omega) (by omega)) h3
theorem maS_6 {k : bkS} {c : Nat} : (maS k).1 6 c = upd (k.1 6) k.2.2.2.2.2.1 (nI k.2.2.2.2.2.2) c := rfl
end REL3
