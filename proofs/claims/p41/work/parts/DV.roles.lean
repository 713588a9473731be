/-! ===== the law's reckoning is made: its roles ===== -/
section ROLES
variable {E : xE} {d D : Nat} {H X Z : xH} {p v n m i j c e r q s0 s1 rk ru rc rr tn k cx cy z lo hi N nk nc nn : Nat} {x : Int32} {ak au ac : List Nat} {P : kcL} {g : Nat → Option Nat} {ad ro : Nat → Nat}
def adF (p rk ru rc rr : Nat) (ak au ac : List Nat) (r : Nat) : Nat := if r = 1 then p else if r = 2 then rk else if r = 3 then ru else if r = 4 then rc else if r = 5 then rr else if r < 20 then ak.getD (r - 10) 0 else if r < 30 then ac.getD (r - 20) 0 else au.getD (r - 30) 0
def roF (ad : Nat → Nat) (nk nc nn n : Nat) : Nat := ((List.range 40).find? fun r => decide ((1 ≤ r ∧ r ≤ 5) ∨ (10 ≤ r ∧ r < 10 + nk) ∨ (20 ≤ r ∧ r < 20 + nn) ∨ (30 ≤ r ∧ r < 30 + nc)) && decide (ad r = n)).getD 0
theorem ro_f (h : ¬ roF ad nk nc nn n = 0) : ad (roF ad nk nc nn n) = n ∧ jU nk nc nn (roF ad nk nc nn n) := by
  unfold roF at h ⊢
  cases hf : (List.range 40).find? fun r => decide ((1 ≤ r ∧ r ≤ 5) ∨ (10 ≤ r ∧ r < 10 + nk) ∨ (20 ≤ r ∧ r < 20 + nn) ∨ (30 ≤ r ∧ r < 30 + nc)) && decide (ad r = n) with
  | none => rw [hf] at h; exact absurd rfl h
  | some q =>
    have := List.find?_some hf
    simp only [Bool.and_eq_true, decide_eq_true_eq] at this
    exact ⟨this.2, this.1⟩
theorem ro_0 (h : ∀ r, jU nk nc nn r → ¬ ad r = n) : roF ad nk nc nn n = 0 := by
  by_cases z : roF ad nk nc nn n = 0
  · exact z
  · obtain ⟨e1, e2⟩ := ro_f z
    exact absurd e1 (h _ e2)
theorem ro_sp (hk : nk ≤ 6) (hc : nc ≤ 6) (hn : nn ≤ 6) (inj : ∀ r q, jU nk nc nn r → jU nk nc nn q → ad r = ad q → r = q) (hr : jU nk nc nn r) : roF ad nk nc nn (ad r) = r := by
  have h0 : r < 40 := by unfold jU at hr; omega
  unfold roF
  cases hf : (List.range 40).find? fun q => decide ((1 ≤ q ∧ q ≤ 5) ∨ (10 ≤ q ∧ q < 10 + nk) ∨ (20 ≤ q ∧ q < 20 + nn) ∨ (30 ≤ q ∧ q < 30 + nc)) && decide (ad q = ad r) with
  | none =>
    have := List.find?_eq_none.mp hf r (List.mem_range.mpr h0)
    exact absurd (show (decide ((1 ≤ r ∧ r ≤ 5) ∨ (10 ≤ r ∧ r < 10 + nk) ∨ (20 ≤ r ∧ r < 20 + nn) ∨ (30 ≤ r ∧ r < 30 + nc)) && decide (ad r = ad r)) = true by rw [Bool.and_eq_true]; exact ⟨decide_eq_true hr, decide_eq_true rfl⟩) this
  | some q =>
    have := List.find?_some hf
    simp only [Bool.and_eq_true, decide_eq_true_eq] at this
    exact inj q r this.1 hr this.2
theorem jOK_of (hk : nk ≤ 6) (hc : nc ≤ 6) (hn : nn ≤ 6) (inj : ∀ r q, jU nk nc nn r → jU nk nc nn q → ad r = ad q → r = q) (rng : ∀ r, jU nk nc nn r → lo ≤ ad r ∧ ad r < hi) : jOK ad (roF ad nk nc nn) nk nc nn lo hi := by
  refine ⟨hk, hc, hn, fun r hr => ro_sp hk hc hn inj hr, fun n hn => ?_⟩
  obtain ⟨e1, e2⟩ := ro_f hn
  have := rng _ e2
  rw [e1] at this
  exact ⟨e1, e2, this.1, this.2⟩
theorem pw_inj {L : List Nat} (h : L.Pairwise (· < ·)) (hi : i < L.length) (hj : j < L.length) (e : L.getD i 0 = L.getD j 0) : i = j := by
  rw [gD hi, gD hj] at e
  have h' := List.pairwise_iff_getElem.mp h
  rcases Nat.lt_trichotomy i j with q | q | q
  · have := h' i j hi hj q; omega
  · exact q
  · have := h' j i hj hi q; omega
/-- what kind of thing it is -/
def kdC : xC → Nat
  | .inr _ => 1
  | .inl (.char, _) => 2
  | .inl (.boolean, _) => 3
  | .inl (_, n, _) => 4 + n
theorem rowL_is {L : List Nat} {f : Nat → Nat} (h : ∀ k, k < L.length → f k = L.getD k 0) : rowL L = xarA L.length (fun k => if k < L.length then some (f k) else none) := by
  unfold rowL
  congr 1
  funext k
  by_cases e : k < L.length
  · rw [if_pos e, h k e, gD e, List.getElem?_eq_getElem e]
  · rw [if_neg e, List.getElem?_eq_none (by omega)]
theorem f5_kf (k : Nat) : f5 (drKx E k) (drKy E k) (drKz E k) = kf (drB E) (drA E) k := by
  funext j
  unfold f5 kf
  by_cases e0 : j = 0
  · rw [if_pos e0, if_pos e0]; rfl
  by_cases e1 : j = 1
  · rw [if_neg e0, if_neg e0, if_pos e1, if_pos e1]; rfl
  by_cases e2 : j = 2
  · rw [if_neg e0, if_neg e0, if_neg e1, if_neg e1, if_pos e2, if_pos e2]; rfl
  rw [if_neg e0, if_neg e0, if_neg e1, if_neg e1, if_neg e2, if_neg e2]
  repeat' split
  all_goals rfl
theorem f2_uf (k : Nat) : f2 (drUx E k) (drUy E k) = uf (drB E) k := by
  funext j
  unfold f2 uf
  by_cases e0 : j = 0
  · rw [if_pos e0, if_pos e0]; rfl
  by_cases e1 : j = 1
  · rw [if_neg e0, if_neg e0, if_pos e1, if_pos e1]; rfl
  rw [if_neg e0, if_neg e0, if_neg e1, if_neg e1]
theorem f9_cf (k : Nat) : f9 (drX E k) (drY E k) (drZ E k) = cf (drB E) (drA E) k := by
  funext j
  unfold f9 cf
  by_cases e0 : j = 0
  · rw [if_pos e0, if_pos e0]; rfl
  by_cases e1 : j = 1
  · rw [if_neg e0, if_neg e0, if_pos e1, if_pos e1]; rfl
  by_cases e2 : j = 2
  · rw [if_neg e0, if_neg e0, if_neg e1, if_neg e1, if_pos e2, if_pos e2]; rfl
  rw [if_neg e0, if_neg e0, if_neg e1, if_neg e1, if_neg e2, if_neg e2]
  by_cases e3 : j = 3
  · subst e3; rfl
  by_cases e4 : j = 4
  · subst e4; rfl
  rw [if_neg e3, if_neg e4]
  unfold drA
  rw [if_neg e3, if_neg e4]
  split
  all_goals rfl
theorem siC_C (h : siC E H p rk ru rc rr ak au ac g (drN E)) : ∀ r, jU (drP E).1.length (drP E).2.length (drN E) r → H.1 (adF p rk ru rc rr ak au ac r) = jC (adF p rk ru rc rr ak au ac) (drB E) (drS E) (drP E).1.length (drP E).2.length (drN E) g (drA E) (fun _ => 0) r := by
  obtain ⟨⟨c1, c2, c3, c4, c5⟩, ⟨l1, l2, l3⟩, k1, k2, k3, hq, w, hg⟩ := h
  obtain ⟨o1, o2, -⟩ := drP_ok (E := E)
  obtain ⟨n1, n6⟩ := drN_b (E := E)
  intro r hr
  unfold jU at hr
  rcases (show r = 1 ∨ r = 2 ∨ r = 3 ∨ r = 4 ∨ r = 5 ∨ (10 ≤ r ∧ r < 10 + (drP E).1.length) ∨ (20 ≤ r ∧ r < 20 + drN E) ∨ (30 ≤ r ∧ r < 30 + (drP E).2.length) by omega) with e | e | e | e | e | e | e | e
  · subst e; exact c1
  · subst e
    refine c2.trans ?_
    rw [← l1]
    refine (rowL_is (f := fun k => adF p rk ru rc rr ak au ac (10 + k)) fun k hk => ?_)
    show adF p rk ru rc rr ak au ac (10 + k) = _
    unfold adF
    rw [if_neg (by omega), if_neg (by omega), if_neg (by omega), if_neg (by omega), if_neg (by omega), if_pos (by omega), Nat.add_sub_cancel_left]
  · subst e
    refine c3.trans ?_
    rw [← l2]
    refine (rowL_is (f := fun k => adF p rk ru rc rr ak au ac (30 + k)) fun k hk => ?_)
    show adF p rk ru rc rr ak au ac (30 + k) = _
    unfold adF
    rw [if_neg (by omega), if_neg (by omega), if_neg (by omega), if_neg (by omega), if_neg (by omega), if_neg (by omega), if_neg (by omega), Nat.add_sub_cancel_left]
  · subst e
    refine c4.trans ?_
    rw [← l3]
    refine (rowL_is (f := fun k => adF p rk ru rc rr ak au ac (20 + k)) fun k hk => ?_)
    show adF p rk ru rc rr ak au ac (20 + k) = _
    unfold adF
    rw [if_neg (by omega), if_neg (by omega), if_neg (by omega), if_neg (by omega), if_neg (by omega), if_neg (by omega), if_pos (by omega), Nat.add_sub_cancel_left]
  · subst e; exact c5
  · rw [jC_hi (by omega), if_pos (show r < 20 by omega), ← f5_kf]
    unfold adF
    rw [if_neg (by omega), if_neg (by omega), if_neg (by omega), if_neg (by omega), if_neg (by omega), if_pos (by omega), gD (show r - 10 < ak.length by omega)]
    exact k1 _ _
  · rw [jC_hi (by omega), if_neg (show ¬ r < 20 by omega), if_pos (show r < 30 by omega), ← f9_cf]
    unfold adF
    rw [if_neg (by omega), if_neg (by omega), if_neg (by omega), if_neg (by omega), if_neg (by omega), if_neg (by omega), if_pos (by omega), gD (show r - 20 < ac.length by omega)]
    exact k3 _ _
  · rw [jC_hi (by omega), if_neg (show ¬ r < 20 by omega), if_neg (show ¬ r < 30 by omega), ← f2_uf]
    unfold adF
    rw [if_neg (by omega), if_neg (by omega), if_neg (by omega), if_neg (by omega), if_neg (by omega), if_neg (by omega), if_neg (by omega), gD (show r - 30 < au.length by omega)]
    exact k2 _ _
theorem siC_Q (h : siC E H p rk ru rc rr ak au ac g (drN E)) : ∀ r, jU (drP E).1.length (drP E).2.length (drN E) r → siQ p rk ru rc rr ak au ac (adF p rk ru rc rr ak au ac r) := by
  obtain ⟨-, ⟨l1, l2, l3⟩, -⟩ := h
  obtain ⟨o1, o2, -⟩ := drP_ok (E := E)
  obtain ⟨n1, n6⟩ := drN_b (E := E)
  intro r hr
  unfold jU at hr
  rcases (show r = 1 ∨ r = 2 ∨ r = 3 ∨ r = 4 ∨ r = 5 ∨ (10 ≤ r ∧ r < 10 + (drP E).1.length) ∨ (20 ≤ r ∧ r < 20 + drN E) ∨ (30 ≤ r ∧ r < 30 + (drP E).2.length) by omega) with e | e | e | e | e | e | e | e
  · subst e; exact Or.inl rfl
  · subst e; exact Or.inr (Or.inl rfl)
  · subst e; exact Or.inr (Or.inr (Or.inl rfl))
  · subst e; exact Or.inr (Or.inr (Or.inr (Or.inl rfl)))
  · subst e; exact Or.inr (Or.inr (Or.inr (Or.inr (Or.inl rfl))))
  · refine Or.inr (Or.inr (Or.inr (Or.inr (Or.inr (Or.inl ?_)))))
    unfold adF
    rw [if_neg (by omega), if_neg (by omega), if_neg (by omega), if_neg (by omega), if_neg (by omega), if_pos (by omega), gD (show r - 10 < ak.length by omega)]
    exact List.getElem_mem _
  · refine Or.inr (Or.inr (Or.inr (Or.inr (Or.inr (Or.inr (Or.inr ?_))))))
    unfold adF
    rw [if_neg (by omega), if_neg (by omega), if_neg (by omega), if_neg (by omega), if_neg (by omega), if_neg (by omega), if_pos (by omega), gD (show r - 20 < ac.length by omega)]
    exact List.getElem_mem _
  · refine Or.inr (Or.inr (Or.inr (Or.inr (Or.inr (Or.inr (Or.inl ?_))))))
    unfold adF
    rw [if_neg (by omega), if_neg (by omega), if_neg (by omega), if_neg (by omega), if_neg (by omega), if_neg (by omega), if_neg (by omega), gD (show r - 30 < au.length by omega)]
    exact List.getElem_mem _
theorem siC_J (h : siC E H p rk ru rc rr ak au ac g (drN E)) : ∀ r q, jU (drP E).1.length (drP E).2.length (drN E) r → jU (drP E).1.length (drP E).2.length (drN E) q → adF p rk ru rc rr ak au ac r = adF p rk ru rc rr ak au ac q → r = q := by
  have hC := siC_C h
  obtain ⟨-, ⟨l1, l2, l3⟩, -, -, -, -, ⟨w1, w2, w3, w4, w5, w6⟩, -⟩ := h
  obtain ⟨o1, o2, -⟩ := drP_ok (E := E)
  obtain ⟨n1, n6⟩ := drN_b (E := E)
  have kk : ∀ r, jU (drP E).1.length (drP E).2.length (drN E) r → kdC (H.1 (adF p rk ru rc rr ak au ac r)) = if r = 1 then 1 else if r < 5 then 2 else if r = 5 then 3 else if r < 20 then 9 else if r < 30 then 13 else 6 := by
    intro r hr
    rw [hC r hr]
    unfold jU at hr
    rcases (show r = 1 ∨ r = 2 ∨ r = 3 ∨ r = 4 ∨ r = 5 ∨ (10 ≤ r ∧ r < 20) ∨ (20 ≤ r ∧ r < 30) ∨ 30 ≤ r by omega) with e | e | e | e | e | e | e | e
    · subst e; rfl
    · subst e; rfl
    · subst e; rfl
    · subst e; rfl
    · subst e; rfl
    · rw [jC_hi (by omega), if_pos (show r < 20 by omega), if_neg (by omega), if_neg (by omega), if_neg (by omega), if_pos (by omega)]; rfl
    · rw [jC_hi (by omega), if_neg (show ¬ r < 20 by omega), if_pos (show r < 30 by omega), if_neg (by omega), if_neg (by omega), if_neg (by omega), if_neg (by omega), if_pos (by omega)]; rfl
    · rw [jC_hi (by omega), if_neg (show ¬ r < 20 by omega), if_neg (show ¬ r < 30 by omega), if_neg (by omega), if_neg (by omega), if_neg (by omega), if_neg (by omega), if_neg (by omega)]; rfl
  intro r q hr hq e
  have e2 := kk r hr
  rw [e, kk q hq] at e2
  unfold jU at hr hq
  have a2 : adF p rk ru rc rr ak au ac 2 = rk := rfl
  have a3 : adF p rk ru rc rr ak au ac 3 = ru := rfl
  have a4 : adF p rk ru rc rr ak au ac 4 = rc := rfl
  have ek : ∀ r, 10 ≤ r → r < 20 → adF p rk ru rc rr ak au ac r = ak.getD (r - 10) 0 := fun r h1 h2 => by
    unfold adF
    rw [if_neg (by omega), if_neg (by omega), if_neg (by omega), if_neg (by omega), if_neg (by omega), if_pos (by omega)]
  have ec : ∀ r, 20 ≤ r → r < 30 → adF p rk ru rc rr ak au ac r = ac.getD (r - 20) 0 := fun r h1 h2 => by
    unfold adF
    rw [if_neg (by omega), if_neg (by omega), if_neg (by omega), if_neg (by omega), if_neg (by omega), if_neg (by omega), if_pos (by omega)]
  have eu : ∀ r, 30 ≤ r → adF p rk ru rc rr ak au ac r = au.getD (r - 30) 0 := fun r h1 => by
    unfold adF
    rw [if_neg (by omega), if_neg (by omega), if_neg (by omega), if_neg (by omega), if_neg (by omega), if_neg (by omega), if_neg (by omega)]
  have ho : (r = 1 ∧ q = 1) ∨ (2 ≤ r ∧ r ≤ 4 ∧ 2 ≤ q ∧ q ≤ 4) ∨ (r = 5 ∧ q = 5) ∨ (10 ≤ r ∧ r < 20 ∧ 10 ≤ q ∧ q < 20) ∨ (20 ≤ r ∧ r < 30 ∧ 20 ≤ q ∧ q < 30) ∨ (30 ≤ r ∧ 30 ≤ q) := by
    clear e kk hC
    revert e2
    repeat' split
    all_goals omega
  rcases ho with h | h | h | h | h | h
  · omega
  · rcases (show r = 2 ∨ r = 3 ∨ r = 4 by omega) with u | u | u <;> rcases (show q = 2 ∨ q = 3 ∨ q = 4 by omega) with y | y | y <;> subst u <;> subst y <;> simp only [a2, a3, a4] at e <;> omega
  · omega
  · rw [ek r (by omega) (by omega), ek q (by omega) (by omega)] at e
    have := pw_inj w1 (show r - 10 < ak.length by omega) (show q - 10 < ak.length by omega) e
    omega
  · rw [ec r (by omega) (by omega), ec q (by omega) (by omega)] at e
    have := pw_inj w3 (show r - 20 < ac.length by omega) (show q - 20 < ac.length by omega) e
    omega
  · rw [eu r (by omega), eu q (by omega)] at e
    have := pw_inj w2 (show r - 30 < au.length by omega) (show q - 30 < au.length by omega) e
    omega
/-- the rules' objects stand, from lo on -/
def jL (E : xE) (ro : Nat → Nat) (ru : Nat → Option Nat) (nn lo hi : Nat) (H : xH) : Prop := ∀ c, c < nn → ∃ p l h, ru c = some p ∧ ruH E H l h 4 (5 + 11 * c) 0 p ∧ h ≤ hi ∧ lo ≤ l ∧ ∀ n, l ≤ n → n < h → ro n = 0
theorem jL_R {ru : Nat → Option Nat} (h : jL E ro ru nn lo hi H) : jR E ro ru nn hi H := fun c hc => by
  obtain ⟨p, l, q, h1, h2, h3, h4, h5⟩ := h c hc
  exact ⟨p, l, q, h1, h2, h3, h5⟩
theorem jL_fr {ru : Nat → Option Nat} (h : jL E ro ru nn lo hi H) (hx : ∀ n, lo ≤ n → n < hi → X.1 n = H.1 n) : jL E ro ru nn lo hi X := fun c hc => by
  obtain ⟨p, l, q, h1, h2, h3, h4, h5⟩ := h c hc
  exact ⟨p, l, q, h1, ruH_fr h2 (fun a ha1 ha2 => hx a (by omega) (by omega)) (Nat.le_refl _) (Nat.le_refl _), h3, h4, h5⟩
/-- the law's reckoning made -/
theorem f_S_init (hE : E.1 ≤ 260) (hp : H.1 p = .inr (10, [.int 0, .int 0, .int 0, .int 0, .int 0, .null, .null, .null, .null])) (hlp : p < H.2.1) : ∃ X ad ro ru, (∀ Q, xcall E xprog (d + 6) 111 [.ref p, .retAddr 0] H Q = Q (.inl none, jH ad ro (drB E) (drS E) (drP E).1.length (drP E).2.length (drN E) ru X (drA E) (fun _ => 0))) ∧ jOK ad ro (drP E).1.length (drP E).2.length (drN E) p X.2.1 ∧ jL E ro ru (drN E) p X.2.1 X ∧ ad 1 = p ∧ H.2.1 ≤ X.2.1 ∧ X.2.1 ≤ H.2.1 + 1300 ∧ X.2.2 ≤ H.2.2 + 4000 ∧ (∀ a, a < H.2.1 → ¬ a = p → X.1 a = H.1 a) ∧ ∀ a, a < p → ro a = 0 := by
  obtain ⟨A, a1, a2, a3, a4, a5, a6, a7, a8⟩ := si_1 (d := d) hE hp hlp
  have hT : drT E ≤ 10 := by
    have := bel_lt (v := cel E 2) (n := 11) (by omega)
    unfold drT; omega
  obtain ⟨n1, n6⟩ := drN_b (E := E)
  obtain ⟨B, rk, ru, ak, au, j4, j5, j6, b1, b2, b3, b4, b5, b6⟩ := l_S_things (d := d) (p := p) (rc := H.2.1 + 2) hE hT (drT E) 0 A H.2.1 (H.2.1 + 1) [] [] ([], []) none none none (by omega) ⟨⟨a2, a3, a4, a5, rfl, rfl, fun i h => absurd h (Nat.not_lt_zero _), fun i h => absurd h (Nat.not_lt_zero _), by omega, by omega, by omega, by omega⟩, List.Pairwise.nil, List.Pairwise.nil, by omega, by omega, by omega, by omega, by omega, by omega, fun q hq => (by cases hq), fun q hq => (by cases hq)⟩ ⟨by decide, by decide, fun _ h => absurd h (Nat.not_lt_zero _), fun _ h => absurd h (Nat.not_lt_zero _), fun _ _ h => absurd h (Nat.not_lt_zero _), fun _ _ h => absurd h (Nat.not_lt_zero _), fun _ _ h => absurd h (Nat.not_lt_zero _)⟩
  obtain ⟨C, c1, c2, c3, c4, c5⟩ := si_8 (d := d) (tn := drT E) (j4 := j4) (j5 := j5) (j6 := j6) hE b2
  obtain ⟨X, rc, ac, g, x1, x2, x3, x4, x5, x6⟩ := l_S_clips (d := d) (tn := drT E) hE (drN E) 0 C _ _ _ j5 j6 (by omega) c2
  have hk : cN 4 = 200 := by decide
  have hm1 : drN E * (3 + cN 4) ≤ 6 * 203 := by rw [hk]; exact Nat.mul_le_mul_right _ n6
  have hm2 : drN E * (19 + 3 * cN 4) ≤ 6 * 619 := by rw [hk]; exact Nat.mul_le_mul_right _ n6
  obtain ⟨o1, o2, -⟩ := drP_ok (E := E)
  have hJ := jOK_of (lo := p) (hi := X.2.1) o1 o2 n6 (siC_J x2) (fun r hr => x2.2.2.2.2.2.1 _ (siC_Q x2 r hr))
  refine ⟨X, adF p rk ru rc B.2.1 ak au ac, roF (adF p rk ru rc B.2.1 ak au ac) (drP E).1.length (drP E).2.length (drN E), g, fun Q => ?_, hJ, fun c hc => ?_, rfl, by omega, by omega, by omega, fun a ha hap => (x6 a (by omega) hap (by omega)).trans ((c5 a (by omega) hap).trans ((b6 a (by omega) hap).trans (a8 a ha hap))), fun a ha => ?_⟩
  · rw [jH_of hJ (siC_C x2), e_S_init]
    exact (a1 Q).trans ((b1 Q).trans ((c1 Q).trans (x1 Q)))
  · obtain ⟨q, l, h, g1, g2, g3, g5, g4⟩ := x2.2.2.2.2.2.2.2 c hc
    exact ⟨q, l, h, g1, g2, g3, g5, fun n h1 h2 => ro_0 fun r hr e => g4 n h1 h2 (e ▸ siC_Q x2 r hr)⟩
  · refine ro_0 fun r hr e => ?_
    have := x2.2.2.2.2.2.1 _ (siC_Q x2 r hr)
    omega
end ROLES
