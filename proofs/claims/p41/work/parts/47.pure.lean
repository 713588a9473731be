/-! ===== a rule's reading, in pure words: ok, the next token, what the class adds, what the model puts ===== -/
section PURE
variable {kd nu : Nat → Int32} {E : Nat}
abbrev pq : Type := Bool × Nat × List (Int32 × Int32) × List (Int32 × Int32)
def okP (i : Nat) : pq := (true, i, [], [])
def noP (i : Nat) : pq := (false, i, [], [])
def seqP (p q : Nat → pq) (i : Nat) : pq := if (p i).1 = true then ((q (p i).2.1).1, (q (p i).2.1).2.1, (p i).2.2.1 ++ (q (p i).2.1).2.2.1, (p i).2.2.2 ++ (q (p i).2.1).2.2.2) else p i
def tokP (kd : Nat → Int32) (k : Int32) (i : Nat) : pq := if kd i = k then okP (i + 1) else noP i
def mrkP (p : Nat → pq) (a b : Int32 × Int32) (i : Nat) : pq := ((p i).1, (p i).2.1, (p i).2.2.1 ++ [a], if (p i).1 = true then (p i).2.2.2 ++ [b] else (p i).2.2.2)
/-- a sign's level -/
def lvo (k : Int32) : Nat := if k = 111 then 0 else if k = 112 then 1 else if k = 60 ∨ k = 61 ∨ k = 62 then 2 else if k = 43 ∨ k = 45 then 3 else if k = 37 ∨ k = 42 ∨ k = 47 then 4 else 5
/-- a sign in the model -/
def mcd (k : Int32) : Int32 := if k = 111 then 211 else if k = 112 then 212 else if k = 114 then 214 else if k = 115 then 215 else k
def rndP (kd : Nat → Int32) (p : Nat → pq) (i : Nat) : pq := if (p (i + 1)).1 = true then (true, (p (i + 1)).2.1, (p (i + 1)).2.2.1 ++ [(kd i, 0)], (p (i + 1)).2.2.2 ++ [(mcd (kd i), 0)]) else p (i + 1)
def lopP (kd : Nat → Int32) (p : Nat → pq) (lv : Nat) : Nat → Nat → pq
  | 0, i => okP i
  | t + 1, i => if lvo (kd i) = lv then seqP (rndP kd p) (lopP kd p lv t) i else okP i
/-- levels: 0 to 4 joined, 5 a value, 6 a rule -/
def pv (kd nu : Nat → Int32) : Nat → Nat → Nat → Nat → pq
  | 0, _, _, i => noP i
  | n + 1, lv, dp, i =>
    if lv < 5 then seqP (pv kd nu n (lv + 1) dp) (lopP kd (pv kd nu n (lv + 1) dp) lv (if lv = 2 then 1 else 400)) i
    else if lv = 5 then
      if kd i = 2 then (true, i + 1, [(2, nu i)], [(300, nu i)])
      else if ¬ kd i < 116 ∧ ¬ 125 < kd i then (true, i + 1, [(kd i, 0)], [(301, kd i - 116)])
      else if kd i = 114 ∨ kd i = 115 then
        mrkP (seqP (tokP kd (kd i)) (if dp < 6 then seqP (tokP kd 40) (seqP (pv kd nu n 6 (dp + 1)) (seqP (tokP kd 44) (seqP (pv kd nu n 6 (dp + 1)) (tokP kd 41)))) else noP)) (kd i, 0) (mcd (kd i), 0) i
      else if 6 ≤ dp then noP i
      else if kd i = 45 then mrkP (seqP (tokP kd 45) (pv kd nu n 5 (dp + 1))) (4, 0) (302, 0) i
      else if kd i = 113 then mrkP (seqP (tokP kd 113) (pv kd nu n 5 (dp + 1))) (113, 0) (213, 0) i
      else seqP (tokP kd 40) (seqP (pv kd nu n 6 (dp + 1)) (tokP kd 41)) i
    else if kd i = 108 then
      if 6 ≤ dp then noP i
      else mrkP (seqP (tokP kd 108) (seqP (pv kd nu n 6 (dp + 1)) (seqP (tokP kd 109) (seqP (pv kd nu n 6 (dp + 1)) (seqP (tokP kd 110) (pv kd nu n 6 (dp + 1))))))) (108, 0) (303, 0) i
    else pv kd nu n 0 dp i
/-- lists, place by place -/
def al2 : List (Int32 × Int32) → List (Int32 × Int32) → Prop
  | [], [] => True
  | a :: x, b :: y => tau a.1 a.2 b.1 b.2 ∧ al2 x y
  | _, _ => False
theorem al2_app : ∀ {x y x' y' : List (Int32 × Int32)}, al2 x y → al2 x' y' → al2 (x ++ x') (y ++ y')
  | [], [], _, _, _, h => h
  | _ :: _, _ :: _, _, _, h, h' => ⟨h.1, al2_app h.2 h'⟩
  | [], _ :: _, _, _, h, _ => h.elim
  | _ :: _, [], _, _, h, _ => h.elim
theorem al2_len : ∀ {x y : List (Int32 × Int32)}, al2 x y → y.length = x.length
  | [], [], _ => rfl
  | _ :: _, _ :: _, h => congrArg (· + 1) (al2_len h.2)
  | [], _ :: _, h => h.elim
  | _ :: _, [], h => h.elim
/-- heights over a list of steps -/
def hok : List (Int32 × Int32) → Nat → Nat → Prop
  | [], h, h' => h' = h
  | a :: x, h, h' => hnd a.1 ≤ h ∧ hok x (hst a.1 h) h'
theorem hok_app : ∀ {x y : List (Int32 × Int32)} {h h1 h2 : Nat}, hok x h h1 → hok y h1 h2 → hok (x ++ y) h h2
  | [], _, _, _, _, e, h => by
    have e' : _ = _ := e
    subst e'
    exact h
  | _ :: _, _, _, _, _, h, h' => ⟨h.1, hok_app h.2 h'⟩
/-- a reader that keeps within the tokens, and what it gives if it is ok -/
def gdP (E sl nd dl : Nat) (p : Nat → pq) : Prop := ∀ i, i ≤ E → i ≤ (p i).2.1 ∧ (p i).2.1 ≤ E ∧ ((p i).1 = true → (p i).2.2.1.length + sl ≤ (p i).2.1 - i ∧ al2 (p i).2.2.1 (p i).2.2.2 ∧ ∀ h, nd ≤ h → hok (p i).2.2.1 h (h + dl))
theorem gd_no {sl nd dl : Nat} : gdP E sl nd dl noP := fun _ hi => ⟨Nat.le_refl _, hi, fun h => absurd h Bool.false_ne_true⟩
theorem gd_ok : gdP E 0 0 0 okP := fun i hi => ⟨Nat.le_refl _, hi, fun _ => ⟨by show 0 + 0 ≤ i - i; omega, trivial, fun _ _ => rfl⟩⟩
theorem gd_tok (hE : kd E = 0 ∨ kd E = 1) {k : Int32} (h0 : ¬ k = 0) (h1 : ¬ k = 1) : gdP E 1 0 0 (tokP kd k) := by
  intro i hi
  unfold tokP
  by_cases p : kd i = k
  · rw [if_pos p]
    have : i ≠ E := fun e => by
      subst e
      rw [p] at hE
      exact hE.elim h0 h1
    exact ⟨by show i ≤ i + 1; omega, by show i + 1 ≤ E; omega, fun _ => ⟨by show 0 + 1 ≤ i + 1 - i; omega, trivial, fun _ _ => rfl⟩⟩
  · rw [if_neg p]
    exact ⟨Nat.le_refl _, hi, fun h => absurd h Bool.false_ne_true⟩
theorem gd_seq {p q : Nat → pq} {a b c a' b' c' : Nat} (hp : gdP E a b c p) (hq : gdP E a' b' c' q) (hb : b' ≤ b + c) : gdP E (a + a') b (c + c') (seqP p q) := by
  intro i hi
  obtain ⟨p1, p2, p3⟩ := hp i hi
  unfold seqP
  by_cases w : (p i).1 = true
  · rw [if_pos w]
    obtain ⟨r1, r2, r3⟩ := p3 w
    obtain ⟨q1, q2, q3⟩ := hq _ p2
    refine ⟨Nat.le_trans p1 q1, q2, fun h => ?_⟩
    obtain ⟨s1, s2, s3⟩ := q3 h
    refine ⟨?_, al2_app r2 s2, fun h hh => ?_⟩
    · show ((p i).2.2.1 ++ (q (p i).2.1).2.2.1).length + (a + a') ≤ (q (p i).2.1).2.1 - i
      rw [List.length_append]
      omega
    · have := s3 (h + c) (by omega)
      rw [Nat.add_assoc] at this
      exact hok_app (r3 h hh) this
  · rw [if_neg w]
    exact ⟨p1, p2, fun h => absurd h w⟩
theorem gd_mrk {p : Nat → pq} {sl nd dl dl' : Nat} {x y : Int32 × Int32} (hp : gdP E (sl + 1) nd dl p) (ht : tau x.1 x.2 y.1 y.2) (hn : ∀ h, nd ≤ h → hnd x.1 ≤ h + dl ∧ hst x.1 (h + dl) = h + dl') : gdP E sl nd dl' (mrkP p x y) := by
  intro i hi
  obtain ⟨p1, p2, p3⟩ := hp i hi
  refine ⟨p1, p2, fun w => ?_⟩
  have w' : (p i).1 = true := w
  obtain ⟨r1, r2, r3⟩ := p3 w'
  show ((p i).2.2.1 ++ [x]).length + sl ≤ (p i).2.1 - i ∧ al2 ((p i).2.2.1 ++ [x]) (if (p i).1 = true then (p i).2.2.2 ++ [y] else (p i).2.2.2) ∧ ∀ h, nd ≤ h → hok ((p i).2.2.1 ++ [x]) h (h + dl')
  rw [if_pos w', List.length_append]
  refine ⟨by show (p i).2.2.1.length + 1 + sl ≤ _; omega, al2_app r2 ⟨ht, trivial⟩, fun h hh => ?_⟩
  obtain ⟨n1, n2⟩ := hn h hh
  exact hok_app (r3 h hh) ⟨n1, n2.symm⟩
theorem lv_tau {k : Int32} (h : lvo k < 5) : tau k 0 (mcd k) 0 ∧ ¬ k = 0 ∧ ¬ k = 1 ∧ hnd k = 2 ∧ ∀ n, hst k n = n - 1 := by
  have w : k = 111 ∨ k = 112 ∨ k = 60 ∨ k = 61 ∨ k = 62 ∨ k = 43 ∨ k = 45 ∨ k = 37 ∨ k = 42 ∨ k = 47 := by
    unfold lvo at h
    by_cases h1 : k = 111
    · exact Or.inl h1
    by_cases h2 : k = 112
    · exact Or.inr (Or.inl h2)
    rw [if_neg h1, if_neg h2] at h
    by_cases h3 : k = 60 ∨ k = 61 ∨ k = 62
    · rcases h3 with h3 | h3 | h3 <;> simp [h3]
    rw [if_neg h3] at h
    by_cases h4 : k = 43 ∨ k = 45
    · rcases h4 with h4 | h4 <;> simp [h4]
    rw [if_neg h4] at h
    by_cases h5 : k = 37 ∨ k = 42 ∨ k = 47
    · rcases h5 with h5 | h5 | h5 <;> simp [h5]
    rw [if_neg h5] at h
    exact absurd h (by decide)
  rcases w with w | w | w | w | w | w | w | w | w | w <;> subst w <;> refine ⟨by unfold tau mcd; decide, by decide, by decide, by decide, fun n => rfl⟩
theorem gd_rnd (hE : kd E = 0 ∨ kd E = 1) {p : Nat → pq} (hp : gdP E 0 0 1 p) {i : Nat} (hi : i ≤ E) {lv : Nat} (hl : lv < 5) (hk : lvo (kd i) = lv) : i + 1 ≤ (rndP kd p i).2.1 ∧ (rndP kd p i).2.1 ≤ E ∧ ((rndP kd p i).1 = true → (rndP kd p i).2.2.1.length ≤ (rndP kd p i).2.1 - i ∧ al2 (rndP kd p i).2.2.1 (rndP kd p i).2.2.2 ∧ ∀ h, 1 ≤ h → hok (rndP kd p i).2.2.1 h h) := by
  obtain ⟨t1, t2, t3, t4, t5⟩ := lv_tau (k := kd i) (by omega)
  have : i ≠ E := fun e => by
    subst e
    exact hE.elim t2 t3
  obtain ⟨p1, p2, p3⟩ := hp (i + 1) (by omega)
  unfold rndP
  by_cases w : (p (i + 1)).1 = true
  · rw [if_pos w]
    obtain ⟨r1, r2, r3⟩ := p3 w
    refine ⟨p1, p2, fun _ => ⟨?_, al2_app r2 ⟨t1, trivial⟩, fun h hh => ?_⟩⟩
    · show ((p (i + 1)).2.2.1 ++ [(kd i, (0 : Int32))]).length ≤ (p (i + 1)).2.1 - i
      rw [List.length_append]
      show (p (i + 1)).2.2.1.length + 1 ≤ _
      omega
    · refine hok_app (r3 h (by omega)) ⟨?_, ?_⟩
      · show hnd (kd i) ≤ h + 1
        omega
      · show h = hst (kd i) (h + 1)
        rw [t5]
        omega
  · rw [if_neg w]
    exact ⟨p1, p2, fun h => absurd h w⟩
theorem gd_lop (hE : kd E = 0 ∨ kd E = 1) {p : Nat → pq} (hp : gdP E 0 0 1 p) {lv : Nat} (hl : lv < 5) : ∀ t, gdP E 0 1 0 (lopP kd p lv t)
  | 0 => fun i hi => by
    obtain ⟨a, b, c⟩ := gd_ok (E := E) i hi
    exact ⟨a, b, fun h => ⟨(c h).1, (c h).2.1, fun h' _ => (c h).2.2 h' (Nat.zero_le _)⟩⟩
  | t + 1 => fun i hi => by
    have ht := gd_lop hE hp hl t
    unfold lopP
    by_cases k : lvo (kd i) = lv
    · rw [if_pos k]
      obtain ⟨r1, r2, r3⟩ := gd_rnd hE hp hi hl k
      unfold seqP
      by_cases w : (rndP kd p i).1 = true
      · rw [if_pos w]
        obtain ⟨s1, s2, s3⟩ := r3 w
        obtain ⟨q1, q2, q3⟩ := ht _ r2
        refine ⟨by show i ≤ (lopP kd p lv t (rndP kd p i).2.1).2.1; omega, q2, fun h => ?_⟩
        obtain ⟨u1, u2, u3⟩ := q3 h
        refine ⟨?_, al2_app s2 u2, fun h hh => hok_app (s3 h hh) (u3 h hh)⟩
        show ((rndP kd p i).2.2.1 ++ (lopP kd p lv t (rndP kd p i).2.1).2.2.1).length + 0 ≤ (lopP kd p lv t (rndP kd p i).2.1).2.1 - i
        rw [List.length_append]
        omega
      · rw [if_neg w]
        exact ⟨by omega, r2, fun h => absurd h w⟩
    · rw [if_neg k]
      obtain ⟨a, b, c⟩ := gd_ok (E := E) i hi
      exact ⟨a, b, fun h => ⟨(c h).1, (c h).2.1, fun h' _ => (c h).2.2 h' (Nat.zero_le _)⟩⟩
theorem gd_le {sl sl' nd dl : Nat} {p : Nat → pq} (h : gdP E sl nd dl p) (l : sl' ≤ sl) : gdP E sl' nd dl p := fun i hi => by
  obtain ⟨a, b, c⟩ := h i hi
  exact ⟨a, b, fun w => ⟨by have := (c w).1; omega, (c w).2⟩⟩
theorem gd_pv (hE : kd E = 0 ∨ kd E = 1) : ∀ n lv dp, lv ≤ 6 → gdP E 0 0 1 (pv kd nu n lv dp)
  | 0, _, _, _ => fun i hi => ⟨Nat.le_refl _, hi, fun h => absurd h Bool.false_ne_true⟩
  | n + 1, lv, dp, hl => by
    have ih := gd_pv hE n
    have r6 := ih 6 (dp + 1) (by omega)
    have t := fun (k : Int32) h0 h1 => gd_tok (kd := kd) hE (k := k) h0 h1
    intro i hi
    unfold pv
    by_cases c5 : lv < 5
    · rw [if_pos c5]
      have h1 := ih (lv + 1) dp (by omega)
      exact gd_seq h1 (gd_lop hE h1 c5 _) (by omega) i hi
    rw [if_neg c5]
    have ne : ∀ k : Int32, ¬ k = 0 → ¬ k = 1 → kd i = k → i + 1 ≤ E := by
      intro k h0 h1 e
      have : i ≠ E := fun e' => by
        subst e'
        rw [e] at hE
        exact hE.elim h0 h1
      omega
    by_cases c6 : lv = 5
    · rw [if_pos c6]
      by_cases k2 : kd i = 2
      · rw [if_pos k2]
        have := ne 2 (by decide) (by decide) k2
        exact ⟨by show i ≤ i + 1; omega, this, fun _ => ⟨by show 1 + 0 ≤ i + 1 - i; omega, ⟨Or.inl ⟨rfl, rfl, rfl⟩, trivial⟩, fun h _ => ⟨Nat.zero_le _, rfl⟩⟩⟩
      rw [if_neg k2]
      by_cases kw : ¬ kd i < 116 ∧ ¬ 125 < kd i
      · rw [if_pos kw]
        have hw := ms_is kw.1 kw.2
        have : ∃ n, n < 10 ∧ kd i = nI (116 + n) ∧ kd i - 116 = nI n := by
          rcases hw with w | w | w | w | w | w | w | w | w | w <;> rw [w]
          · exact ⟨0, by omega, rfl, rfl⟩
          · exact ⟨1, by omega, rfl, rfl⟩
          · exact ⟨2, by omega, rfl, rfl⟩
          · exact ⟨3, by omega, rfl, rfl⟩
          · exact ⟨4, by omega, rfl, rfl⟩
          · exact ⟨5, by omega, rfl, rfl⟩
          · exact ⟨6, by omega, rfl, rfl⟩
          · exact ⟨7, by omega, rfl, rfl⟩
          · exact ⟨8, by omega, rfl, rfl⟩
          · exact ⟨9, by omega, rfl, rfl⟩
        obtain ⟨m, m1, m2, m3⟩ := this
        have hE' := ne (kd i) (fun e => kw.1 (by rw [e]; decide)) (fun e => kw.1 (by rw [e]; decide)) rfl
        refine ⟨by show i ≤ i + 1; omega, hE', fun _ => ⟨by show 1 + 0 ≤ i + 1 - i; omega, ⟨Or.inr (Or.inl ⟨m, m1, m2, rfl, m3⟩), trivial⟩, fun h _ => ⟨?_, ?_⟩⟩⟩
        · show hnd (kd i) ≤ h
          unfold hnd
          rw [if_pos (Or.inr kw)]
          exact Nat.zero_le _
        · show h + 1 = hst (kd i) h
          unfold hst
          rw [if_pos (Or.inr kw)]
      rw [if_neg kw]
      by_cases kl : kd i = 114 ∨ kd i = 115
      · rw [if_pos kl]
        have hk : ∃ k, kd i = k ∧ (k = 114 ∨ k = 115) := ⟨_, rfl, kl⟩
        obtain ⟨k, k0, k1⟩ := hk
        rw [k0]
        have body : gdP E 3 0 2 (if dp < 6 then seqP (tokP kd 40) (seqP (pv kd nu n 6 (dp + 1)) (seqP (tokP kd 44) (seqP (pv kd nu n 6 (dp + 1)) (tokP kd 41)))) else noP) := by
          split
          · exact gd_seq (t 40 (by decide) (by decide)) (gd_seq r6 (gd_seq (t 44 (by decide) (by decide)) (gd_seq r6 (t 41 (by decide) (by decide)) (by omega)) (by omega)) (by omega)) (by omega)
          · exact gd_no
        have hz : ¬ k = 0 ∧ ¬ k = 1 := by rcases k1 with e | e <;> subst e <;> decide
        refine gd_mrk (sl := 0) (nd := 0) (dl := 2) (gd_le (sl := 4) (gd_seq (t k hz.1 hz.2) body (by omega)) (by omega)) ?_ ?_ i hi
        · rcases k1 with e | e <;> subst e <;> (unfold tau mcd; decide)
        · intro h _
          rcases k1 with e | e <;> subst e <;> exact ⟨by show 2 ≤ h + 2; omega, by show h + 2 - 1 = h + 1; omega⟩
      rw [if_neg kl]
      by_cases k6 : 6 ≤ dp
      · rw [if_pos k6]
        exact gd_no i hi
      rw [if_neg k6]
      by_cases km : kd i = 45
      · rw [if_pos km]
        refine gd_mrk (sl := 0) (nd := 0) (dl := 1) (gd_le (sl := 1) (gd_seq (t 45 (by decide) (by decide)) (ih 5 (dp + 1) (by omega)) (by omega)) (by omega)) ?_ ?_ i hi
        · exact Or.inr (Or.inr (Or.inl ⟨rfl, rfl⟩))
        · intro h _
          exact ⟨by show 1 ≤ h + 1; omega, rfl⟩
      rw [if_neg km]
      by_cases kn : kd i = 113
      · rw [if_pos kn]
        refine gd_mrk (sl := 0) (nd := 0) (dl := 1) (gd_le (sl := 1) (gd_seq (t 113 (by decide) (by decide)) (ih 5 (dp + 1) (by omega)) (by omega)) (by omega)) ?_ ?_ i hi
        · exact Or.inr (Or.inr (Or.inr (Or.inl ⟨rfl, rfl⟩)))
        · intro h _
          exact ⟨by show 1 ≤ h + 1; omega, rfl⟩
      rw [if_neg kn]
      exact gd_le (sl := 2) (gd_seq (t 40 (by decide) (by decide)) (gd_seq r6 (t 41 (by decide) (by decide)) (by omega)) (by omega)) (by omega) i hi
    rw [if_neg c6]
    by_cases ki : kd i = 108
    · rw [if_pos ki]
      by_cases k6 : 6 ≤ dp
      · rw [if_pos k6]
        exact gd_no i hi
      rw [if_neg k6]
      refine gd_mrk (sl := 0) (nd := 0) (dl := 3) (gd_le (sl := 3) (gd_seq (t 108 (by decide) (by decide)) (gd_seq r6 (gd_seq (t 109 (by decide) (by decide)) (gd_seq r6 (gd_seq (t 110 (by decide) (by decide)) r6 (by omega)) (by omega)) (by omega)) (by omega)) (by omega)) (by omega)) ?_ ?_ i hi
      · exact Or.inr (Or.inr (Or.inr (Or.inr (Or.inl ⟨rfl, rfl⟩))))
      · intro h _
        exact ⟨by show 3 ≤ h + 3; omega, by show h + 3 - 2 = h + 1; omega⟩
    · rw [if_neg ki]
      exact ih 0 dp (by omega) i hi
end PURE
