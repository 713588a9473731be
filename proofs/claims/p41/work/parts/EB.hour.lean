/-! ===== what an hour does to the bay ===== -/
section HOUR1
variable {E : xE} {b a a' a1 a1' : Nat → Nat → Int32} {s t : Nat → Int32} {nk nc nn c co ro n i j k m : Nat} {rs re : Nat → Nat} {v x y z : Int32} {f g h : Nat → Int32}
theorem sumP_c (hfg : ∀ k, i ≤ k → k < i + m → f k = g k) : sumP f i m z = sumP g i m z := by
  induction m generalizing i z with
  | zero => rfl
  | succ m ih =>
    show sumP f (i + 1) m (z + f i) = sumP g (i + 1) m (z + g i)
    rw [hfg i (by omega) (by omega)]
    exact ih fun k h1 h2 => hfg k (by omega) (by omega)
theorem sumP_0 (h0 : ∀ k, i ≤ k → k < i + m → f k = 0) : sumP f i m z = z := by
  induction m generalizing i z with
  | zero => rfl
  | succ m ih =>
    show sumP f (i + 1) m (z + f i) = z
    rw [h0 i (by omega) (by omega), show z + 0 = z by grind]
    exact ih fun k h1 h2 => h0 k (by omega) (by omega)
theorem sumP_a : ∀ m i z w, sumP (fun k => f k + g k) i m (z + w) = sumP f i m z + sumP g i m w
  | 0, _, _, _ => rfl
  | m + 1, i, z, w => by
    show sumP (fun k => f k + g k) (i + 1) m (z + w + (f i + g i)) = sumP f (i + 1) m (z + f i) + sumP g (i + 1) m (w + g i)
    rw [← sumP_a m (i + 1) (z + f i) (w + g i)]
    congr 1
    grind
theorem sumP_1 {q : Nat} {w : Int32} (h0 : i ≤ q) (h1 : q < i + m) (hf : ∀ k, i ≤ k → k < i + m → f k = if k = q then w else 0) : sumP f i m z = z + w := by
  induction m generalizing i z with
  | zero => omega
  | succ m ih =>
    show sumP f (i + 1) m (z + f i) = z + w
    by_cases e : i = q
    · rw [hf i (by omega) (by omega), if_pos e]
      exact sumP_0 fun k h2 h3 => by rw [hf k (by omega) (by omega), if_neg (by omega)]
    · rw [hf i (by omega) (by omega), if_neg e, show z + 0 = z by grind]
      exact ih (by omega) (by omega) fun k h2 h3 => hf k (by omega) (by omega)
theorem i_p0 (x : Int32) : x + 0 = x := by grind
theorem i_cm (x y : Int32) : x + y = y + x := by grind
theorem i_rg (z v S u : Int32) : z + v + S = z + (S + (u + v - u)) := by grind
theorem i_r2 (x y z : Int32) : x - z = (y - z) + (x - y) := by grind
theorem i_z0 (x : Int32) : 0 + x = x := by grind
/-- what clippers do to kettles -/
def kRel (a a' : Nat → Nat → Int32) (nk : Nat) : Prop := ∀ k, k < nk → (a' 0 k = a 0 k ∧ a' 2 k = a 2 k) ∨ (a 0 k = 0 ∧ a' 0 k = 5 ∧ a' 2 k = a 2 k + 1)
theorem saI_rcd (h6 : nk ≤ 6) : ∀ (m i : Nat) (p : bst), ∃ tk : Nat → Int32, (∀ c, i ≤ c → c < i + m → rcd p.1 (saI b t s nk nc rs re i m p).1 b t nk nc c (tk c)) ∧ (∀ j q, 3 ≤ j → ¬ (i ≤ q ∧ q < i + m) → (saI b t s nk nc rs re i m p).1 j q = p.1 j q) ∧ kRel p.1 (saI b t s nk nc rs re i m p).1 nk ∧ sumP (fun k => (saI b t s nk nc rs re i m p).1 2 k - p.1 2 k) 0 nk 0 = sumP tk i m 0 ∧ ∀ z, saW b t s nk nc rs re i m p z = z + sumP (fun c => (saI b t s nk nc rs re i m p).1 7 c - p.1 7 c) i m 0
  | 0, i, p => ⟨fun _ => 0, fun c h1 h2 => by omega, fun _ _ _ _ => rfl, fun k hk => Or.inl ⟨rfl, rfl⟩, sumP_0 fun k _ _ => i_ss _, fun z => (i_p0 z).symm⟩
  | m + 1, i, p => by
    obtain ⟨tk, r1, r2, r3⟩ := sa_rcd (b := b) (t := t) (s := s) (nk := nk) (nc := nc) (rs := rs) (re := re) (c := i) (p := p)
    have w1 := (sa_1 (b := b) (t := t) (s := s) (nk := nk) (nc := nc) (rs := rs) (re := re) (c := i) (p := p)).2
    obtain ⟨tk', q1, q2, q3, q4, q5⟩ := saI_rcd h6 m (i + 1) (saC b t s nk nc rs re i p)
    have e0 : saI b t s nk nc rs re i (m + 1) p = saI b t s nk nc rs re (i + 1) m (saC b t s nk nc rs re i p) := rfl
    have e1 : ∀ z, saW b t s nk nc rs re i (m + 1) p z = saW b t s nk nc rs re (i + 1) m (saC b t s nk nc rs re i p) (z + saV b t s nk nc rs re i p) := fun z => rfl
    rw [e0]
    generalize hA : saC b t s nk nc rs re i p = A at r1 r2 r3 w1 q1 q2 q3 q4 q5 e1
    generalize hF : saI b t s nk nc rs re (i + 1) m A = F at q1 q2 q3 q4 q5
    have hi : ∀ j, 3 ≤ j → F.1 j i = A.1 j i := fun j hj => q2 j i hj (by omega)
    have rK : kRel p.1 A.1 nk ∧ sumP (fun k => A.1 2 k - p.1 2 k) 0 nk 0 = tk := by
      rcases r3 with ⟨z1, z2, z3⟩ | ⟨z1, k, z2, z3, z4, z5⟩
      · refine ⟨fun k hk => Or.inl ⟨by rw [z2], by rw [z3]⟩, ?_⟩
        rw [z1]
        exact sumP_0 fun k _ _ => by show A.1 2 k - p.1 2 k = 0; rw [z3, i_ss]
      · rw [ncl (show k < 2147483648 by omega)] at z2 z4 z5
        refine ⟨fun j hj => ?_, ?_⟩
        · by_cases e : j = k
          · subst e
            exact Or.inr ⟨z2, by rw [z4, upd_s], by rw [z5, upd_s]⟩
          · exact Or.inl ⟨by rw [z4, upd_o e], by rw [z5, upd_o e]⟩
        · rw [z1, sumP_1 (q := k) (w := 1) (by omega) (by omega) fun j _ _ => ?_]
          · rfl
          · show A.1 2 j - p.1 2 j = _
            by_cases e : j = k
            · subst e; rw [z5, upd_s, if_pos rfl, i_sc]
            · rw [z5, upd_o e, if_neg e, i_ss]
    refine ⟨fun c => if c = i then tk else tk' c, fun c h1 h2 => ?_, fun j q hj hq => ?_, fun k hk => ?_, ?_, fun z => ?_⟩
    · show rcd p.1 F.1 b t nk nc c (if c = i then tk else tk' c)
      by_cases e : c = i
      · subst e
        rw [if_pos rfl]
        exact rcd_congr r1 (fun _ _ _ => rfl) fun j h3 _ => (hi j h3).symm
      · rw [if_neg e]
        exact rcd_congr (q1 c (by omega) (by omega)) (fun j h3 _ => r2 j c h3 e) fun _ _ _ => rfl
    · exact (q2 j q hj (by omega)).trans (r2 j q hj (by omega))
    · rcases rK.1 k hk with ⟨z1, z2⟩ | ⟨z1, z2, z3⟩
      · rw [← z1, ← z2]; exact q3 k hk
      · rcases q3 k hk with ⟨y1, y2⟩ | ⟨y1, y2, y3⟩
        · exact Or.inr ⟨z1, y1.trans z2, y2.trans z3⟩
        · rw [z2] at y1; exact absurd y1 (by decide)
    · have e2 : sumP (fun k => F.1 2 k - p.1 2 k) 0 nk 0 = sumP (fun k => A.1 2 k - p.1 2 k) 0 nk 0 + sumP (fun k => F.1 2 k - A.1 2 k) 0 nk 0 := by
        rw [← sumP_a]
        exact sumP_c fun k _ _ => i_r2 _ _ _
      rw [e2, rK.2, q4]
      show tk + sumP tk' (i + 1) m 0 = sumP (fun c => if c = i then tk else tk' c) (i + 1) m (0 + if i = i then tk else tk' i)
      rw [if_pos rfl, sumP_z]
      rw [sumP_c (f := fun c => if c = i then tk else tk' c) (g := tk') fun c h1 h2 => if_neg (by omega)]
      exact i_cm _ _
    · rw [e1, q5]
      show _ = z + sumP (fun c => F.1 7 c - p.1 7 c) (i + 1) m (0 + (F.1 7 i - p.1 7 i))
      have h7 : A.1 7 i = p.1 7 i + saV b t s nk nc rs re i p := by rw [w1, upd_s]
      rw [sumP_z, hi 7 (by omega), h7]
      generalize saV b t s nk nc rs re i p = sv'
      rw [sumP_c (f := fun c => F.1 7 c - p.1 7 c) (g := fun c => F.1 7 c - A.1 7 c) fun c h1 h2 => by show _ - _ = _ - _; rw [r2 7 c (by omega) (by omega)]]
      exact i_rg _ _ _ _
/-- an hour -/
theorem hr_rcd {x : bhr} (h6 : nk ≤ 6) : ∃ tk : Nat → Int32, (∀ c, c < nn → rcd x.1.1 (hrC b s nk nc nn rs re x).1.1 b x.2 nk nc c (tk c)) ∧
    (∀ k, k < nk → ((hrC b s nk nc nn rs re x).1.1 2 k - x.1.1 2 k = 0 ∧ (hrC b s nk nc nn rs re x).1.1 0 k = if 0 < x.1.1 0 k then x.1.1 0 k - 1 else x.1.1 0 k) ∨ ((hrC b s nk nc nn rs re x).1.1 2 k - x.1.1 2 k = 1 ∧ x.1.1 0 k = 0 ∧ (hrC b s nk nc nn rs re x).1.1 0 k = 5)) ∧
    sumP (fun k => (hrC b s nk nc nn rs re x).1.1 2 k - x.1.1 2 k) 0 nk 0 = sumP tk 0 nn 0 ∧ phV b x.2 s nk nc nn rs re x.1 = sumP (fun c => (hrC b s nk nc nn rs re x).1.1 7 c - x.1.1 7 c) 0 nn 0 := by
  obtain ⟨tk, q1, q2, q3, q4, q5⟩ := saI_rcd (b := b) (t := x.2) (s := s) (nc := nc) (rs := rs) (re := re) h6 nn 0 (upr x.1.1 1 (fil (x.1.1 0) 0 nk (x.1.1 1)), x.1.2)
  have p1 := saI_1 (b := b) (t := x.2) (s := s) (nk := nk) (nc := nc) (rs := rs) (re := re) nn 0 (upr x.1.1 1 (fil (x.1.1 0) 0 nk (x.1.1 1)), x.1.2)
  have e0 : (hrC b s nk nc nn rs re x).1.1 = upr (saI b x.2 s nk nc rs re 0 nn (upr x.1.1 1 (fil (x.1.1 0) 0 nk (x.1.1 1)), x.1.2)).1 0 (dcr ((saI b x.2 s nk nc rs re 0 nn (upr x.1.1 1 (fil (x.1.1 0) 0 nk (x.1.1 1)), x.1.2)).1 1) 0 nk ((saI b x.2 s nk nc rs re 0 nn (upr x.1.1 1 (fil (x.1.1 0) 0 nk (x.1.1 1)), x.1.2)).1 0)) := rfl
  have e1 : phV b x.2 s nk nc nn rs re x.1 = saW b x.2 s nk nc rs re 0 nn (upr x.1.1 1 (fil (x.1.1 0) 0 nk (x.1.1 1)), x.1.2) 0 := rfl
  rw [e0, e1, q5]
  generalize saI b x.2 s nk nc rs re 0 nn (upr x.1.1 1 (fil (x.1.1 0) 0 nk (x.1.1 1)), x.1.2) = F at q1 q2 q3 q4 p1
  have p2 : F.1 1 = fil (x.1.1 0) 0 nk (x.1.1 1) := p1
  rw [p2]
  refine ⟨tk, fun c hc => rcd_congr (q1 c (by omega) (by omega)) (fun j h3 _ => ?_) (fun j h3 _ => ?_), fun k hk => ?_, q4, ?_⟩
  · show upr _ 1 _ j c = _
    unfold upr; rw [if_neg (by omega)]
  · show _ = upr _ 0 _ j c
    unfold upr; rw [if_neg (by omega)]
  · have hd : upr F.1 0 (dcr (fil (x.1.1 0) 0 nk (x.1.1 1)) 0 nk (F.1 0)) 0 k = if 0 < x.1.1 0 k then F.1 0 k - 1 else F.1 0 k := by
      show dcr (fil (x.1.1 0) 0 nk (x.1.1 1)) 0 nk (F.1 0) k = _
      rw [dcr_g, (fil_in (g := x.1.1 0) nk 0 (x.1.1 1) k).1 ⟨by omega, by omega⟩]
      by_cases e : 0 < x.1.1 0 k
      · rw [if_pos ⟨by omega, by omega, e⟩, if_pos e]
      · rw [if_neg (fun q => e q.2.2), if_neg e]
    rw [hd]
    rcases q3 k hk with ⟨z1, z2⟩ | ⟨z1, z2, z3⟩
    · have z1' : F.1 0 k = x.1.1 0 k := z1
      have z2' : F.1 2 k = x.1.1 2 k := z2
      refine Or.inl ⟨?_, by rw [z1']⟩
      show F.1 2 k - x.1.1 2 k = 0
      rw [z2', i_ss]
    · have z1' : x.1.1 0 k = 0 := z1
      have z3' : F.1 2 k = x.1.1 2 k + 1 := z3
      refine Or.inr ⟨?_, z1', by rw [z1', if_neg b00]; exact z2⟩
      show F.1 2 k - x.1.1 2 k = 1
      rw [z3', i_sc]
  · show 0 + sumP (fun c => F.1 7 c - x.1.1 7 c) 0 nn 0 = sumP (fun c => F.1 7 c - x.1.1 7 c) 0 nn 0
    exact i_z0 _
end HOUR1
