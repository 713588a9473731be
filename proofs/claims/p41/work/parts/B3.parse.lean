/-! ===== the class reads a tree's tokens ===== -/
section PARSE
variable {kd nu : Nat → Int32} {E : xE}
/-- the tokens L stand at x -/
def sg (kd nu : Nat → Int32) (x : Nat) (L : List tok) : Prop := ∀ j, j < L.length → kd (x + j) = nI (L.getD j (false, 0, 0)).2.1 ∧ ((L.getD j (false, 0, 0)).2.1 = 2 → nu (x + j) = nI (L.getD j (false, 0, 0)).2.2)
theorem sg_app {x : Nat} {A B : List tok} : sg kd nu x (A ++ B) → sg kd nu x A ∧ sg kd nu (x + A.length) B := by
  intro h
  refine ⟨fun j hj => ?_, fun j hj => ?_⟩
  · have := h j (by simp; omega)
    rw [List.getD_eq_getElem?_getD, List.getElem?_append_left hj, ← List.getD_eq_getElem?_getD] at this
    exact this
  · have := h (A.length + j) (by simp; omega)
    rw [List.getD_eq_getElem?_getD, List.getElem?_append_right (by omega), ← List.getD_eq_getElem?_getD, show A.length + j - A.length = j by omega, ← Nat.add_assoc] at this
    exact this
theorem sg_cons {x : Nat} {t : tok} {B : List tok} (h : sg kd nu x (t :: B)) : kd x = nI t.2.1 ∧ (t.2.1 = 2 → nu x = nI t.2.2) ∧ sg kd nu (x + 1) B := by
  obtain ⟨h1, h2⟩ := sg_app (A := [t]) h
  have := h1 0 (by simp)
  exact ⟨this.1, this.2, h2⟩
theorem seq_ok {p q : Nat → pq} {x y : Nat} {A B : List (Int32 × Int32)} (h : p x = (true, y, A, B)) : seqP p q x = ((q y).1, (q y).2.1, A ++ (q y).2.2.1, B ++ (q y).2.2.2) := by
  unfold seqP
  rw [h]
  exact if_pos rfl
theorem tok_ok {k : Int32} {x : Nat} (h : kd x = k) : tokP kd k x = (true, x + 1, [], []) := if_pos h
theorem mrk_ok {p : Nat → pq} {x y : Nat} {A B : List (Int32 × Int32)} {a b : Int32 × Int32} (h : p x = (true, y, A, B)) : mrkP p a b x = (true, y, A ++ [a], B ++ [b]) := by
  unfold mrkP
  rw [h]
  rfl
/-- it is read: to y, with the steps A -/
def rdn (p : pq) (y : Nat) (A : List (Int32 × Int32)) : Prop := ∃ B, p = (true, y, A, B)
theorem seq_rd {p q : Nat → pq} {x y z : Nat} {A A' : List (Int32 × Int32)} (h : rdn (p x) y A) (h2 : rdn (q y) z A') : rdn (seqP p q x) z (A ++ A') := by
  obtain ⟨B, e⟩ := h
  obtain ⟨B', e'⟩ := h2
  exact ⟨B ++ B', by rw [seq_ok e, e']⟩
theorem tok_rd {k : Int32} {x : Nat} (h : kd x = k) : rdn (tokP kd k x) (x + 1) [] := ⟨[], tok_ok h⟩
theorem mrk_rd {p : Nat → pq} {x y : Nat} {A : List (Int32 × Int32)} {a b : Int32 × Int32} (h : rdn (p x) y A) : rdn (mrkP p a b x) y (A ++ [a]) := by
  obtain ⟨B, e⟩ := h
  exact ⟨B ++ [b], mrk_ok e⟩
theorem lv_up {n lv dp x y : Nat} {A : List (Int32 × Int32)} (hl : lv < 5) (h : rdn (pv kd nu n (lv + 1) dp x) y A) (hk : ¬ lvo (kd y) = lv) : rdn (pv kd nu (n + 1) lv dp x) y A := by
  have h2 : rdn (lopP kd (pv kd nu n (lv + 1) dp) lv (if lv = 2 then 1 else 400) y) y [] := by
    split <;> exact ⟨[], by unfold lopP; rw [if_neg hk]; rfl⟩
  have h3 := seq_rd (q := lopP kd (pv kd nu n (lv + 1) dp) lv (if lv = 2 then 1 else 400)) h h2
  rw [List.append_nil] at h3
  unfold pv
  rw [if_pos hl]
  exact h3
theorem lv_ups {s dp x y : Nat} {A : List (Int32 × Int32)} (hs : s ≤ 5) : ∀ (k n : Nat), k ≤ s → rdn (pv kd nu n s dp x) y A → (∀ lv, s - k ≤ lv → lv < s → ¬ lvo (kd y) = lv) → rdn (pv kd nu (n + k) (s - k) dp x) y A
  | 0, _, _, h, _ => h
  | k + 1, n, hk, h, hv => by
    have h1 := lv_ups hs k n (by omega) h (fun lv a b => hv lv (by omega) b)
    rw [show s - k = s - (k + 1) + 1 by omega] at h1
    exact lv_up (by omega) h1 (hv _ (Nat.le_refl _) (by omega))
theorem lv_bin {n lv dp x y z : Nat} {A A' : List (Int32 × Int32)} (hl : lv < 5) (h : rdn (pv kd nu n (lv + 1) dp x) y A) (hk : lvo (kd y) = lv) (h2 : rdn (pv kd nu n (lv + 1) dp (y + 1)) z A') (hz : ¬ lvo (kd z) = lv) : rdn (pv kd nu (n + 1) lv dp x) z (A ++ (A' ++ [(kd y, 0)])) := by
  have h4 : rdn (rndP kd (pv kd nu n (lv + 1) dp) y) z (A' ++ [(kd y, 0)]) := by
    obtain ⟨B, e⟩ := h2
    unfold rndP
    rw [e, if_pos rfl]
    exact ⟨_, rfl⟩
  have h5 : ∀ t, rdn (lopP kd (pv kd nu n (lv + 1) dp) lv t z) z [] := by
    intro t
    cases t with
    | zero => exact ⟨[], rfl⟩
    | succ t => exact ⟨[], by unfold lopP; rw [if_neg hz]; rfl⟩
  have h6 : rdn (lopP kd (pv kd nu n (lv + 1) dp) lv (if lv = 2 then 1 else 400) y) z (A' ++ [(kd y, 0)]) := by
    have : ∀ t, rdn (lopP kd (pv kd nu n (lv + 1) dp) lv (t + 1) y) z (A' ++ [(kd y, 0)]) := by
      intro t
      unfold lopP
      rw [if_pos hk]
      have h7 := seq_rd h4 (h5 t)
      rw [List.append_nil] at h7
      exact h7
    split
    · exact this 0
    · exact this 399
  unfold pv
  rw [if_pos hl]
  exact seq_rd h h6
/-- a rule that is no if -/
theorem lv_6 {n dp x y : Nat} {A : List (Int32 × Int32)} (h : rdn (pv kd nu n 0 dp x) y A) (hk : ¬ kd x = 108) : rdn (pv kd nu (n + 1) 6 dp x) y A := by
  unfold pv
  rw [if_neg (by omega), if_neg (by omega), if_neg hk]
  exact h
theorem lv_if {n dp x y1 y2 y3 : Nat} {A1 A2 A3 : List (Int32 × Int32)} (hd : dp < 6) (h0 : kd x = 108) (h1 : rdn (pv kd nu n 6 (dp + 1) (x + 1)) y1 A1) (k1 : kd y1 = 109) (h2 : rdn (pv kd nu n 6 (dp + 1) (y1 + 1)) y2 A2) (k2 : kd y2 = 110) (h3 : rdn (pv kd nu n 6 (dp + 1) (y2 + 1)) y3 A3) : rdn (pv kd nu (n + 1) 6 dp x) y3 (A1 ++ (A2 ++ (A3 ++ [(108, 0)]))) := by
  unfold pv
  rw [if_neg (by omega), if_neg (by omega), if_pos h0, if_neg (by omega)]
  have := mrk_rd (a := (108, 0)) (b := (303, 0)) (seq_rd (tok_rd (kd := kd) h0) (seq_rd h1 (seq_rd (tok_rd (kd := kd) k1) (seq_rd h2 (seq_rd (tok_rd (kd := kd) k2) h3)))))
  simpa using this
theorem lv_num {n dp x : Nat} (h : kd x = 2) : rdn (pv kd nu (n + 1) 5 dp x) (x + 1) [(2, nu x)] := by
  unfold pv
  rw [if_neg (by omega), if_pos rfl, if_pos h]
  exact ⟨_, rfl⟩
theorem lv_mea {n dp x k : Nat} (h : kd x = nI (116 + k)) (hk : k < 10) : rdn (pv kd nu (n + 1) 5 dp x) (x + 1) [(nI (116 + k), 0)] := by
  have h2 : ¬ nI (116 + k) = 2 ∧ (¬ nI (116 + k) < 116 ∧ ¬ (125 : Int32) < nI (116 + k)) := by
    rcases (show k = 0 ∨ k = 1 ∨ k = 2 ∨ k = 3 ∨ k = 4 ∨ k = 5 ∨ k = 6 ∨ k = 7 ∨ k = 8 ∨ k = 9 by omega) with r | r | r | r | r | r | r | r | r | r <;> subst r <;> decide
  unfold pv
  rw [if_neg (by omega), if_pos rfl, h, if_neg h2.1, if_pos h2.2]
  exact ⟨_, rfl⟩
theorem lv_lm {n dp x y1 y2 : Nat} {k : Int32} {A1 A2 : List (Int32 × Int32)} (hk : k = 114 ∨ k = 115) (hd : dp < 6) (h0 : kd x = k) (k0 : kd (x + 1) = 40) (h1 : rdn (pv kd nu n 6 (dp + 1) (x + 1 + 1)) y1 A1) (k1 : kd y1 = 44) (h2 : rdn (pv kd nu n 6 (dp + 1) (y1 + 1)) y2 A2) (k2 : kd y2 = 41) : rdn (pv kd nu (n + 1) 5 dp x) (y2 + 1) (A1 ++ (A2 ++ [(k, 0)])) := by
  have c : ¬ k = 2 ∧ ¬ (¬ k < 116 ∧ ¬ (125 : Int32) < k) := by rcases hk with r | r <;> subst r <;> decide
  unfold pv
  rw [if_neg (by omega), if_pos rfl, h0, if_neg c.1, if_neg c.2, if_pos hk, if_pos hd]
  have := mrk_rd (a := (k, 0)) (b := (mcd k, 0)) (seq_rd (tok_rd (kd := kd) h0) (seq_rd (tok_rd (kd := kd) k0) (seq_rd h1 (seq_rd (tok_rd (kd := kd) k1) (seq_rd h2 (tok_rd (kd := kd) k2))))))
  simpa using this
theorem lv_neg {n dp x y : Nat} {A : List (Int32 × Int32)} (hd : dp < 6) (h0 : kd x = 45) (h1 : rdn (pv kd nu n 5 (dp + 1) (x + 1)) y A) : rdn (pv kd nu (n + 1) 5 dp x) y (A ++ [(4, 0)]) := by
  unfold pv
  rw [if_neg (by omega), if_pos rfl, h0, if_neg (by decide), if_neg (by decide), if_neg (by decide), if_neg (by omega), if_pos rfl]
  have := mrk_rd (a := (4, 0)) (b := (302, 0)) (seq_rd (tok_rd (kd := kd) h0) h1)
  simpa using this
theorem lv_not {n dp x y : Nat} {A : List (Int32 × Int32)} (hd : dp < 6) (h0 : kd x = 113) (h1 : rdn (pv kd nu n 5 (dp + 1) (x + 1)) y A) : rdn (pv kd nu (n + 1) 5 dp x) y (A ++ [(113, 0)]) := by
  unfold pv
  rw [if_neg (by omega), if_pos rfl, h0, if_neg (by decide), if_neg (by decide), if_neg (by decide), if_neg (by omega), if_neg (by decide), if_pos rfl]
  have := mrk_rd (a := (113, 0)) (b := (213, 0)) (seq_rd (tok_rd (kd := kd) h0) h1)
  simpa using this
theorem lv_par {n dp x y : Nat} {A : List (Int32 × Int32)} (hd : dp < 6) (h0 : kd x = 40) (h1 : rdn (pv kd nu n 6 (dp + 1) (x + 1)) y A) (k1 : kd y = 41) : rdn (pv kd nu (n + 1) 5 dp x) (y + 1) A := by
  unfold pv
  rw [if_neg (by omega), if_pos rfl, h0, if_neg (by decide), if_neg (by decide), if_neg (by decide), if_neg (by omega), if_neg (by decide), if_neg (by decide)]
  have := seq_rd (tok_rd (kd := kd) h0) (seq_rd h1 (tok_rd (kd := kd) k1))
  simpa using this
/-- from a value up to a rule, where no sign follows -/
theorem lv_val {n dp x y : Nat} {A : List (Int32 × Int32)} (h : rdn (pv kd nu n 5 dp x) y A) (hk : lvo (kd y) = 5) (h0 : ¬ kd x = 108) : rdn (pv kd nu (n + 6) 6 dp x) y A :=
  lv_6 (lv_ups (s := 5) (by omega) 5 n (by omega) h (fun lv _ b => by omega)) h0
/-- two values with a sign between -/
theorem lv_two {n dp x y z : Nat} {A A' : List (Int32 × Int32)} (h : rdn (pv kd nu n 5 dp x) y A) (hw : lvo (kd y) < 5) (h2 : rdn (pv kd nu n 5 dp (y + 1)) z A') (hz : lvo (kd z) = 5) (h0 : ¬ kd x = 108) : rdn (pv kd nu (n + 6) 6 dp x) z (A ++ (A' ++ [(kd y, 0)])) := by
  generalize hg : lvo (kd y) = w at hw
  have a1 := lv_ups (s := 5) (by omega) (4 - w) n (by omega) h (fun lv a b => by omega)
  have a2 := lv_ups (s := 5) (by omega) (4 - w) n (by omega) h2 (fun lv a b => by omega)
  rw [show 5 - (4 - w) = w + 1 by omega] at a1 a2
  have b1 := lv_bin hw a1 hg a2 (by omega)
  have b2 := lv_ups (s := w) (by omega) w _ (Nat.le_refl _) b1 (fun lv a b => by omega)
  rw [Nat.sub_self, show n + (4 - w) + 1 + w = n + 5 by omega] at b2
  exact lv_6 b2 h0
theorem lvo_5 : lvo 41 = 5 ∧ lvo 44 = 5 ∧ lvo 59 = 5 ∧ lvo 109 = 5 ∧ lvo 110 = 5 := by decide
theorem sgk_lv {k : Nat} (h1 : ¬ k < 4) (h2 : k < 14) : lvo (nI (sgk k)) < 5 := by
  rcases sgk_in h1 h2 with r | r | r | r | r | r | r | r | r | r <;> rw [r] <;> decide
/-- the first token of what stands in brackets, if it must, is no if -/
theorem rtk_1 : ∀ (n fr dp : Nat) (bl : Bool), dp + n = 4 → n = 0 ∨ ∃ t r, rtk E n fr dp false bl = t :: r ∧ ¬ t.2.1 = 108 ∧ t.1 = bl ∧ t.2.1 < 126
  | 0, _, _, _, _ => Or.inl rfl
  | n + 1, fr, dp, bl, hd => by
    right
    unfold rtk
    by_cases h0 : rud E fr dp = 0
    · rw [if_pos h0]; exact ⟨_, _, rfl, by show ¬ 2 = 108; omega, rfl, by show 2 < 126; omega⟩
    rw [if_neg h0]
    by_cases h1 : rud E fr dp = 1
    · have := run_1 (E := E) h1
      rw [if_pos h1]; exact ⟨_, _, rfl, by show ¬ 116 + run E fr dp = 108; omega, rfl, by show 116 + run E fr dp < 126; omega⟩
    rw [if_neg h1]
    by_cases h2 : rud E fr dp = 2
    · rw [if_pos h2]; exact ⟨_, _, rfl, by show ¬ 45 = 108; omega, rfl, by show 45 < 126; omega⟩
    rw [if_neg h2]
    by_cases h3 : rud E fr dp = 3
    · rw [if_pos h3]; exact ⟨_, _, rfl, by show ¬ 113 = 108; omega, rfl, by show 113 < 126; omega⟩
    rw [if_neg h3]
    by_cases h4 : rud E fr dp = 14
    · rw [if_pos h4]; exact ⟨_, _, rfl, by show ¬ 114 = 108; omega, rfl, by show 114 < 126; omega⟩
    rw [if_neg h4]
    by_cases h5 : rud E fr dp = 15
    · rw [if_pos h5]; exact ⟨_, _, rfl, by show ¬ 115 = 108; omega, rfl, by show 115 < 126; omega⟩
    rw [if_neg h5]
    by_cases h6 : rud E fr dp = 16
    · rw [if_pos h6, if_neg (by decide)]; exact ⟨_, _, rfl, by show ¬ 40 = 108; omega, rfl, by show 40 < 126; omega⟩
    · rw [if_neg h6, if_neg (by decide)]; exact ⟨_, _, rfl, by show ¬ 40 = 108; omega, rfl, by show 40 < 126; omega⟩
theorem no108 {k : Nat} (h : ¬ k = 108) (hk : k < 126) : ¬ nI k = 108 := fun e => h (nI_inj (y := 108) (by omega) (by omega) e)
/-- a tree's tokens are read -/
theorem rd_tree : ∀ (m fr dt : Nat), dt + m = 4 →
    (∀ (D n x : Nat) (bl : Bool), D + 2 * m ≤ 8 → 8 * m + 2 ≤ n → sg kd nu x (rtk E m fr dt true bl) → lvo (kd (x + (rtk E m fr dt true bl).length)) = 5 → m = 0 ∨ rdn (pv kd nu n 6 D x) (x + (rtk E m fr dt true bl).length) (pfx E m fr dt)) ∧
    (∀ (D n x : Nat) (bl : Bool), D + 2 * m ≤ 7 → 8 * m + 3 ≤ n → sg kd nu x (rtk E m fr dt false bl) → m = 0 ∨ rdn (pv kd nu n 5 D x) (x + (rtk E m fr dt false bl).length) (pfx E m fr dt))
  | 0, _, _, _ => ⟨fun _ _ _ _ _ _ _ _ => Or.inl rfl, fun _ _ _ _ _ _ _ => Or.inl rfl⟩
  | m + 1, fr, dt, hd => by
    have hdo := rud_le (E := E) fr dt
    -- the parts
    have m0 : 2 ≤ rud E fr dt → ¬ m = 0 := fun h2 z => absurd (rud_leaf (E := E) (fr := fr) (dp := dt) (by omega)) (by omega)
    have subF : 2 ≤ rud E fr dt → ∀ (fr' D n x : Nat) (bl : Bool), D + 2 * m ≤ 8 → 8 * m + 2 ≤ n → sg kd nu x (rtk E m fr' (dt + 1) true bl) → lvo (kd (x + (rtk E m fr' (dt + 1) true bl).length)) = 5 → rdn (pv kd nu n 6 D x) (x + (rtk E m fr' (dt + 1) true bl).length) (pfx E m fr' (dt + 1)) :=
      fun h2 fr' D n x bl a b c e => ((rd_tree m fr' (dt + 1) (by omega)).1 D n x bl a b c e).resolve_left (m0 h2)
    have subV : 2 ≤ rud E fr dt → ∀ (fr' D n x : Nat) (bl : Bool), D + 2 * m ≤ 7 → 8 * m + 3 ≤ n → sg kd nu x (rtk E m fr' (dt + 1) false bl) → rdn (pv kd nu n 5 D x) (x + (rtk E m fr' (dt + 1) false bl).length) (pfx E m fr' (dt + 1)) :=
      fun h2 fr' D n x bl a b c => ((rd_tree m fr' (dt + 1) (by omega)).2 D n x bl a b c).resolve_left (m0 h2)
    -- what is the same with and without brackets
    have same : rud E fr dt < 4 ∨ rud E fr dt = 14 ∨ rud E fr dt = 15 → ∀ (D n x : Nat) (bl free : Bool), D + 2 * (m + 1) ≤ 8 → 8 * m + 4 ≤ n → sg kd nu x (rtk E (m + 1) fr dt free bl) → rdn (pv kd nu n 5 D x) (x + (rtk E (m + 1) fr dt free bl).length) (pfx E (m + 1) fr dt) ∧ ¬ kd x = 108 := by
      intro hs D n x bl free hD hn hg
      obtain ⟨n, rfl⟩ : ∃ n', n = n' + 1 := ⟨n - 1, by omega⟩
      unfold rtk at hg ⊢
      unfold pfx
      by_cases h0 : rud E fr dt = 0
      · rw [if_pos h0] at hg ⊢
        rw [if_pos h0]
        obtain ⟨a, b, -⟩ := sg_cons hg
        have a : kd x = 2 := a
        have := lv_num (nu := nu) (n := n) (dp := D) a
        rw [b rfl] at this
        exact ⟨this, by rw [a]; decide⟩
      rw [if_neg h0] at hg ⊢
      rw [if_neg h0]
      by_cases h1 : rud E fr dt = 1
      · rw [if_pos h1] at hg ⊢
        rw [if_pos h1]
        obtain ⟨a, -, -⟩ := sg_cons hg
        have := run_1 (E := E) h1
        exact ⟨lv_mea a this, by rw [a]; exact no108 (by show ¬ 116 + run E fr dt = 108; omega) (by show 116 + run E fr dt < 126; omega)⟩
      rw [if_neg h1] at hg ⊢
      rw [if_neg h1]
      by_cases h2 : rud E fr dt = 2
      · rw [if_pos h2] at hg ⊢
        rw [if_pos h2]
        obtain ⟨a, -, c⟩ := sg_cons hg
        have a : kd x = 45 := a
        have := lv_neg (nu := nu) (n := n) (dp := D) (by omega) a (subV (by omega) _ (D + 1) n (x + 1) false (by omega) (by omega) c)
        rw [List.length_cons, show x + ((rtk E m (fr * 2 + 3) (dt + 1) false false).length + 1) = x + 1 + (rtk E m (fr * 2 + 3) (dt + 1) false false).length by omega]
        exact ⟨this, by rw [a]; decide⟩
      rw [if_neg h2] at hg ⊢
      rw [if_neg h2]
      by_cases h3 : rud E fr dt = 3
      · rw [if_pos h3] at hg ⊢
        rw [if_pos h3]
        obtain ⟨a, -, c⟩ := sg_cons hg
        have a : kd x = 113 := a
        have := lv_not (nu := nu) (n := n) (dp := D) (by omega) a (subV (by omega) _ (D + 1) n (x + 1) true (by omega) (by omega) c)
        rw [List.length_cons, show x + ((rtk E m (fr * 2 + 3) (dt + 1) false true).length + 1) = x + 1 + (rtk E m (fr * 2 + 3) (dt + 1) false true).length by omega]
        exact ⟨this, by rw [a]; decide⟩
      rw [if_neg h3] at hg ⊢
      rw [if_neg h3]
      have lm : ∀ k : Nat, (k = 114 ∨ k = 115) → sg kd nu x ((bl, k, 0) :: (false, 40, 0) :: (rtk E m (fr * 2 + 3) (dt + 1) true false ++ (false, 44, 0) :: (rtk E m (fr * 2 + 4) (dt + 1) true false ++ [(false, 41, 0)]))) → rdn (pv kd nu (n + 1) 5 D x) (x + ((bl, k, 0) :: (false, 40, 0) :: (rtk E m (fr * 2 + 3) (dt + 1) true false ++ (false, 44, 0) :: (rtk E m (fr * 2 + 4) (dt + 1) true false ++ [(false, 41, 0)]))).length) (pfx E m (fr * 2 + 3) (dt + 1) ++ (pfx E m (fr * 2 + 4) (dt + 1) ++ [(nI k, 0)])) ∧ ¬ kd x = 108 := by
        intro k hk hg
        obtain ⟨a, -, c⟩ := sg_cons hg
        obtain ⟨a2, -, c2⟩ := sg_cons c
        obtain ⟨c3, c4⟩ := sg_app c2
        obtain ⟨a5, -, c5⟩ := sg_cons c4
        obtain ⟨c6, c7⟩ := sg_app c5
        obtain ⟨a8, -, -⟩ := sg_cons c7
        have a5 : kd (x + 1 + 1 + (rtk E m (fr * 2 + 3) (dt + 1) true false).length) = 44 := a5
        have a8 : kd (x + 1 + 1 + (rtk E m (fr * 2 + 3) (dt + 1) true false).length + 1 + (rtk E m (fr * 2 + 4) (dt + 1) true false).length) = 41 := a8
        have a : kd x = nI k := a
        have r1 := subF (by omega) _ (D + 1) n _ _ (by omega) (by omega) c3 (by rw [a5]; decide)
        have r2 := subF (by omega) _ (D + 1) n _ _ (by omega) (by omega) c6 (by rw [a8]; decide)
        have hk' : nI k = 114 ∨ nI k = 115 := by rcases hk with r | r <;> subst r <;> decide
        have := lv_lm hk' (show D < 6 by omega) a a2 r1 a5 r2 a8
        refine ⟨?_, by rw [a]; exact no108 (by omega) (by omega)⟩
        simp only [List.length_cons, List.length_append, List.length_nil]
        rw [show x + ((rtk E m (fr * 2 + 3) (dt + 1) true false).length + ((rtk E m (fr * 2 + 4) (dt + 1) true false).length + (0 + 1) + 1) + 1 + 1) = x + 1 + 1 + (rtk E m (fr * 2 + 3) (dt + 1) true false).length + 1 + (rtk E m (fr * 2 + 4) (dt + 1) true false).length + 1 by omega]
        exact this
      by_cases h4 : rud E fr dt = 14
      · rw [if_pos h4] at hg ⊢
        rw [if_pos h4]
        exact lm 114 (Or.inl rfl) hg
      rw [if_neg h4] at hg ⊢
      rw [if_neg h4]
      by_cases h5 : rud E fr dt = 15
      · rw [if_pos h5] at hg ⊢
        rw [if_pos h5]
        exact lm 115 (Or.inr rfl) hg
      · omega
    -- without brackets
    have free : ∀ (D n x : Nat) (bl : Bool), D + 2 * (m + 1) ≤ 8 → 8 * (m + 1) + 2 ≤ n → sg kd nu x (rtk E (m + 1) fr dt true bl) → lvo (kd (x + (rtk E (m + 1) fr dt true bl).length)) = 5 → rdn (pv kd nu n 6 D x) (x + (rtk E (m + 1) fr dt true bl).length) (pfx E (m + 1) fr dt) := by
      intro D n x bl hD hn hg hv
      by_cases hs : rud E fr dt < 4 ∨ rud E fr dt = 14 ∨ rud E fr dt = 15
      · obtain ⟨n, rfl⟩ : ∃ n', n = n' + 6 := ⟨n - 6, by omega⟩
        obtain ⟨a, b⟩ := same hs D n x bl true hD (by omega) hg
        exact lv_val a hv b
      have q2 : 2 ≤ rud E fr dt := by omega
      unfold rtk at hg hv ⊢
      unfold pfx
      have n0 : ¬ rud E fr dt = 0 := by omega
      have n1 : ¬ rud E fr dt = 1 := by omega
      have n2 : ¬ rud E fr dt = 2 := by omega
      have n3 : ¬ rud E fr dt = 3 := by omega
      have n4 : ¬ rud E fr dt = 14 := by omega
      have n5 : ¬ rud E fr dt = 15 := by omega
      rw [if_neg n0, if_neg n1, if_neg n2, if_neg n3, if_neg n4, if_neg n5] at hg hv ⊢
      rw [if_neg n0, if_neg n1, if_neg n2, if_neg n3, if_neg n4, if_neg n5]
      by_cases h6 : rud E fr dt = 16
      · rw [if_pos h6, if_pos rfl] at hg hv ⊢
        rw [if_pos h6]
        obtain ⟨n, rfl⟩ : ∃ n', n = n' + 1 := ⟨n - 1, by omega⟩
        obtain ⟨a, -, c⟩ := sg_cons hg
        obtain ⟨c1, c2⟩ := sg_app c
        obtain ⟨a3, -, c3⟩ := sg_cons c2
        obtain ⟨c4, c5⟩ := sg_app c3
        obtain ⟨a6, -, c6⟩ := sg_cons c5
        have a : kd x = 108 := a
        have a3 : kd (x + 1 + (rtk E m (fr * 2 + 3) (dt + 1) true true).length) = 109 := a3
        have a6 : kd (x + 1 + (rtk E m (fr * 2 + 3) (dt + 1) true true).length + 1 + (rtk E m (fr * 2 + 4) (dt + 1) true true).length) = 110 := a6
        have e : x + ((bl, 108, 0) :: (rtk E m (fr * 2 + 3) (dt + 1) true true ++ (true, 109, 0) :: (rtk E m (fr * 2 + 4) (dt + 1) true true ++ (true, 110, 0) :: rtk E m (fr * 2 + 5) (dt + 1) true true))).length = x + 1 + (rtk E m (fr * 2 + 3) (dt + 1) true true).length + 1 + (rtk E m (fr * 2 + 4) (dt + 1) true true).length + 1 + (rtk E m (fr * 2 + 5) (dt + 1) true true).length := by
          simp only [List.length_cons, List.length_append]; omega
        rw [e] at hv ⊢
        exact lv_if (by omega) a (subF q2 _ (D + 1) n _ _ (by omega) (by omega) c1 (by rw [a3]; decide)) a3 (subF q2 _ (D + 1) n _ _ (by omega) (by omega) c4 (by rw [a6]; decide)) a6 (subF q2 _ (D + 1) n _ _ (by omega) (by omega) c6 hv)
      · rw [if_neg h6, if_pos rfl] at hg hv ⊢
        rw [if_neg h6]
        obtain ⟨n, rfl⟩ : ∃ n', n = n' + 6 := ⟨n - 6, by omega⟩
        obtain ⟨c1, c2⟩ := sg_app hg
        obtain ⟨a3, -, c3⟩ := sg_cons c2
        have a3 : kd (x + (rtk E m (fr * 2 + 3) (dt + 1) false bl).length) = nI (sgk (rud E fr dt)) := a3
        have hx : ¬ kd x = 108 := by
          rcases rtk_1 (E := E) m (fr * 2 + 3) (dt + 1) bl (by omega) with z | ⟨t, r, z1, z2, z3, z4⟩
          · exact absurd z (m0 q2)
          · rw [z1] at c1
            rw [(sg_cons c1).1]
            exact no108 z2 z4
        have e : x + (rtk E m (fr * 2 + 3) (dt + 1) false bl ++ (sgb (rud E fr dt), sgk (rud E fr dt), 0) :: rtk E m (fr * 2 + 4) (dt + 1) false (sgb (rud E fr dt))).length = x + (rtk E m (fr * 2 + 3) (dt + 1) false bl).length + 1 + (rtk E m (fr * 2 + 4) (dt + 1) false (sgb (rud E fr dt))).length := by
          simp only [List.length_cons, List.length_append]; omega
        rw [e] at hv ⊢
        have := lv_two (subV q2 _ D n x bl (by omega) (by omega) c1) (by rw [a3]; exact sgk_lv (by omega) (by omega)) (subV q2 _ D n _ _ (by omega) (by omega) c3) hv hx
        rw [a3] at this
        exact this
    refine ⟨fun D n x bl a b c e => Or.inr (free D n x bl a b c e), fun D n x bl hD hn hg => Or.inr ?_⟩
    by_cases hs : rud E fr dt < 4 ∨ rud E fr dt = 14 ∨ rud E fr dt = 15
    · exact (same hs D n x bl false (by omega) (by omega) hg).1
    obtain ⟨n, rfl⟩ : ∃ n', n = n' + 1 := ⟨n - 1, by omega⟩
    have e2 : rtk E (m + 1) fr dt false bl = (bl, 40, 0) :: (rtk E (m + 1) fr dt true false ++ [(false, 41, 0)]) := by
      unfold rtk
      have n0 : ¬ rud E fr dt = 0 := by omega
      have n1 : ¬ rud E fr dt = 1 := by omega
      have n2 : ¬ rud E fr dt = 2 := by omega
      have n3 : ¬ rud E fr dt = 3 := by omega
      have n4 : ¬ rud E fr dt = 14 := by omega
      have n5 : ¬ rud E fr dt = 15 := by omega
      rw [if_neg n0, if_neg n1, if_neg n2, if_neg n3, if_neg n4, if_neg n5, if_neg n0, if_neg n1, if_neg n2, if_neg n3, if_neg n4, if_neg n5]
      by_cases h6 : rud E fr dt = 16
      · rw [if_pos h6, if_pos h6, if_neg (by decide), if_pos rfl]
        simp
      · rw [if_neg h6, if_neg h6, if_neg (by decide), if_pos rfl]
        simp
    rw [e2] at hg ⊢
    obtain ⟨a, -, c⟩ := sg_cons hg
    obtain ⟨c1, c2⟩ := sg_app c
    obtain ⟨a3, -, -⟩ := sg_cons c2
    have a3 : kd (x + 1 + (rtk E (m + 1) fr dt true false).length) = 41 := a3
    have := lv_par (show D < 6 by omega) a (free (D + 1) n (x + 1) false (by omega) (by omega) c1 (by rw [a3]; decide)) a3
    rw [show x + ((bl, 40, 0) :: (rtk E (m + 1) fr dt true false ++ [(false, 41, 0)])).length = x + 1 + (rtk E (m + 1) fr dt true false).length + 1 by simp only [List.length_cons, List.length_append, List.length_nil]; omega]
    exact this
end PARSE
