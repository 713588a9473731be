/-! ===== the law's reckoning is made: all its clippers ===== -/
section CLIPS2
variable {E : xE} {d D : Nat} {H X Z : xH} {p v n m i c e a s0 s1 rk ru rc rr tn k cx cy z lo N : Nat} {x : Int32} {ak au ac : List Nat} {P : kcL} {g : Nat → Option Nat} {j4 j5 j6 : Option Value}
/-- the places that have a role -/
def siQ (p rk ru rc rr : Nat) (ak au ac : List Nat) (q : Nat) : Prop := q = p ∨ q = rk ∨ q = ru ∨ q = rc ∨ q = rr ∨ q ∈ ak ∨ q ∈ au ∨ q ∈ ac
def siC (E : xE) (H : xH) (p rk ru rc rr : Nat) (ak au ac : List Nat) (g : Nat → Option Nat) (c : Nat) : Prop :=
  (H.1 p = simF (drC E) (drR E) 0 0 0 rk ru rc (.ref rr) ∧ H.1 rk = rowL ak ∧ H.1 ru = rowL au ∧ H.1 rc = rowL ac ∧ H.1 rr = xarR (drN E) g) ∧
  (ak.length = (drP E).1.length ∧ au.length = (drP E).2.length ∧ ac.length = c) ∧
  (∀ i (h : i < ak.length), H.1 ak[i] = xarI 5 (f5 (drKx E i) (drKy E i) (drKz E i))) ∧
  (∀ i (h : i < au.length), H.1 au[i] = xarI 2 (f2 (drUx E i) (drUy E i))) ∧
  (∀ i (h : i < ac.length), H.1 ac[i] = xarI 9 (f9 (drX E i) (drY E i) (drZ E i))) ∧
  (∀ q, siQ p rk ru rc rr ak au ac q → p ≤ q ∧ q < H.2.1) ∧
  (ak.Pairwise (· < ·) ∧ au.Pairwise (· < ·) ∧ ac.Pairwise (· < ·) ∧ ¬ rk = ru ∧ ¬ rk = rc ∧ ¬ ru = rc) ∧
  ∀ k, k < c → ∃ q l h, g k = some q ∧ ruH E H l h 4 (5 + 11 * k) 0 q ∧ h ≤ H.2.1 ∧ p ≤ l ∧ ∀ n, l ≤ n → n < h → ¬ siQ p rk ru rc rr ak au ac n
theorem drN_b : 1 ≤ drN E ∧ drN E ≤ 6 := by
  have := bel_lt (v := cel E 14) (n := 6) (by omega)
  unfold drN; omega
theorem si_c (hE : E.1 ≤ 260) (h : siC E H p rk ru rc rr ak au ac g c) (hc : c < drN E) : ∃ X rc' ac' g' j5', (∀ Q, xr E (d + 5) m_S_init Q (278, [some (.ref p), some (.retAddr 0), some (.int (nI tn)), some (.int (nI (drN E))), some (.int (nI c)), j5, j6], [], H) = xr E (d + 5) m_S_init Q (278, [some (.ref p), some (.retAddr 0), some (.int (nI tn)), some (.int (nI (drN E))), some (.int (nI (c + 1))), j5', j6], [], X)) ∧ siC E X p rk ru rc' rr ak au ac' g' (c + 1) ∧ H.2.1 ≤ X.2.1 ∧ X.2.1 ≤ H.2.1 + 3 + cN 4 ∧ X.2.2 ≤ H.2.2 + 19 + 3 * cN 4 ∧ ∀ a, a < H.2.1 → ¬ a = p → ¬ a = rr → X.1 a = H.1 a := by
  obtain ⟨⟨c1, c2, c3, c4, c5⟩, ⟨l1, l2, l3⟩, k1, k2, k3, hq, ⟨w1, w2, w3, w4, w5, w6⟩, hg⟩ := h
  obtain ⟨n1, n6⟩ := drN_b (E := E)
  have qp := hq p (Or.inl rfl)
  have qk := hq rk (Or.inr (Or.inl rfl))
  have qu := hq ru (Or.inr (Or.inr (Or.inl rfl)))
  have qc := hq rc (Or.inr (Or.inr (Or.inr (Or.inl rfl))))
  have qr := hq rr (Or.inr (Or.inr (Or.inr (Or.inr (Or.inl rfl)))))
  have qak := fun q hm => hq q (Or.inr (Or.inr (Or.inr (Or.inr (Or.inr (Or.inl hm))))))
  have qau := fun q hm => hq q (Or.inr (Or.inr (Or.inr (Or.inr (Or.inr (Or.inr (Or.inl hm)))))))
  have qac := fun q hm => hq q (Or.inr (Or.inr (Or.inr (Or.inr (Or.inr (Or.inr (Or.inr hm)))))))
  have nC : ∀ {q : Nat} {C : FieldType × vp_A}, H.1 q = .inl C → ¬ q = p := fun e q => by rw [q, c1] at e; cases e
  have nR : ∀ {q m : Nat} {f : Nat → Int32}, H.1 q = xarI m f → ¬ q = rr := fun e q => by rw [q, c5] at e; cases e
  have nA : ∀ {q m : Nat} {f : Nat → Option Nat}, H.1 q = xarA m f → ¬ q = rr := fun e q => by rw [q, c5] at e; cases e
  have hA : ∀ Q, xr E (d + 5) m_S_init Q (278, [some (.ref p), some (.retAddr 0), some (.int (nI tn)), some (.int (nI (drN E))), some (.int (nI c)), j5, j6], [], H) = _ := fun Q => si_ca (Q := Q) hE c1 qp.2 c4 qc.2 (by omega) (fun q hm => by
    obtain ⟨i, hi, e⟩ := List.getElem_of_mem hm
    rw [← e]; exact ⟨(qac _ (List.getElem_mem hi)).2, xisI_of (k3 i hi)⟩) hc n6
  obtain ⟨K, hK⟩ : ∃ K, K = xset (xnew (xnew H (xarI 9 (f9 (drX E c) (drY E c) (drZ E c))) 9) (rowL (ac ++ [H.2.1])) (ac.length + 1)) p (simF (drC E) (drR E) 0 0 0 rk ru (H.2.1 + 1) (.ref rr)) := ⟨_, rfl⟩
  rw [← hK] at hA
  have fK : ∀ a, a < H.2.1 → ¬ a = p → K.1 a = H.1 a := fun a ha hap => by rw [hK]; exact s3_f ha hap
  have K0 : K.1 H.2.1 = xarI 9 (f9 (drX E c) (drY E c) (drZ E c)) := by rw [hK]; exact s3_0 qp.2
  have K1 : K.1 (H.2.1 + 1) = rowL (ac ++ [H.2.1]) := by rw [hK]; exact s3_1 qp.2
  have Kp : K.1 p = simF (drC E) (drR E) 0 0 0 rk ru (H.2.1 + 1) (.ref rr) := by rw [hK]; exact xset_s p rfl
  have K2 : K.2.1 = H.2.1 + 2 := by rw [hK]; rfl
  have K3 : K.2.2 = H.2.2 + 9 + (ac.length + 1) := by rw [hK]; rfl
  clear hK
  obtain ⟨X, x1, x2, x3, x4, x5, x6⟩ := si_cb (d := d) (tn := tn) (x := cel E (9 + c)) (j6 := j6) hE Kp (by omega) ((fK rr qr.2 (nC c5)).trans c5) (by omega) hc n6
  have hX : ∀ a, a < K.2.1 → ¬ a = rr → (xset X rr (xarR (drN E) (va_up g c (some K.2.1)))).1 a = K.1 a := fun a ha har => (xset_o _ har).trans (x3 a ha)
  have hXH : ∀ a, a < H.2.1 → ¬ a = p → ¬ a = rr → (xset X rr (xarR (drN E) (va_up g c (some K.2.1)))).1 a = H.1 a := fun a ha hap har => (hX a (by omega) har).trans (fK a ha hap)
  have hnr : ¬ p = rr := fun q => by rw [← q, c1] at c5; cases c5
  have lX : (xset X rr (xarR (drN E) (va_up g c (some K.2.1)))).2.1 = X.2.1 := rfl
  have fwd : ∀ q, siQ p rk ru (H.2.1 + 1) rr ak au (ac ++ [H.2.1]) q → siQ p rk ru rc rr ak au ac q ∨ q = H.2.1 ∨ q = H.2.1 + 1 := by
    intro q h
    rcases h with h | h | h | h | h | h | h | h
    · exact Or.inl (Or.inl h)
    · exact Or.inl (Or.inr (Or.inl h))
    · exact Or.inl (Or.inr (Or.inr (Or.inl h)))
    · exact Or.inr (Or.inr h)
    · exact Or.inl (Or.inr (Or.inr (Or.inr (Or.inr (Or.inl h)))))
    · exact Or.inl (Or.inr (Or.inr (Or.inr (Or.inr (Or.inr (Or.inl h))))))
    · exact Or.inl (Or.inr (Or.inr (Or.inr (Or.inr (Or.inr (Or.inr (Or.inl h)))))))
    · rcases List.mem_append.mp h with h | h
      · exact Or.inl (Or.inr (Or.inr (Or.inr (Or.inr (Or.inr (Or.inr (Or.inr h)))))))
      · exact Or.inr (Or.inl (List.mem_singleton.mp h))
  refine ⟨xset X rr (xarR (drN E) (va_up g c (some K.2.1))), H.2.1 + 1, ac ++ [H.2.1], va_up g c (some K.2.1), some (.int (cel E (9 + c))), fun Q => (hA Q).trans (x1 Q), ⟨⟨?_, ?_, ?_, ?_, xset_s rr rfl⟩, ⟨l1, l2, by simp [l3]⟩, fun i hi => ?_, fun i hi => ?_, fun i hi => ?_, fun q hqq => ?_, ⟨w1, w2, pw_sn w3 fun q hm => (qac q hm).2, w4, by omega, by omega⟩, fun k hk => ?_⟩, by rw [lX]; omega, by rw [lX]; omega, ?_, hXH⟩
  · exact (hX p (by omega) hnr).trans Kp
  · exact (hXH rk qk.2 (nC c2) (nA c2)).trans c2
  · exact (hXH ru qu.2 (nC c3) (nA c3)).trans c3
  · exact (hX _ (by omega) (by omega)).trans K1
  · exact (hXH _ (qak _ (List.getElem_mem hi)).2 (nC (k1 i hi)) (nR (k1 i hi))).trans (k1 i hi)
  · exact (hXH _ (qau _ (List.getElem_mem hi)).2 (nC (k2 i hi)) (nR (k2 i hi))).trans (k2 i hi)
  · by_cases e : i < ac.length
    · rw [List.getElem_append_left e]
      exact (hXH _ (qac _ (List.getElem_mem e)).2 (nC (k3 i e)) (nR (k3 i e))).trans (k3 i e)
    · simp only [List.length_append, List.length_cons, List.length_nil] at hi
      rw [List.getElem_append_right (by omega)]
      obtain rfl : i = c := by omega
      simp only [List.getElem_singleton]
      exact (hX _ (by omega) (by omega)).trans K0
  · rw [lX]
    rcases fwd q hqq with h | h | h
    · have := hq q h; omega
    · omega
    · omega
  · by_cases e : k = c
    · subst e
      refine ⟨K.2.1, K.2.1, X.2.1, by unfold va_up; rw [if_pos rfl], ruH_fr x2 (fun a ha _ => xset_o _ (by omega)) (Nat.le_refl _) (Nat.le_refl _), Nat.le_refl _, by omega, fun n h1 h2 hs => ?_⟩
      rcases fwd n hs with h | h | h
      · have := hq n h; omega
      · omega
      · omega
    · obtain ⟨q, l, h, g1, g2, g3, g5, g4⟩ := hg k (by omega)
      refine ⟨q, l, h, by unfold va_up; rw [if_neg e]; exact g1, ruH_fr g2 (fun a ha1 ha2 => hXH a (by omega) (fun q => g4 a ha1 ha2 (Or.inl q)) (fun q => g4 a ha1 ha2 (Or.inr (Or.inr (Or.inr (Or.inr (Or.inl q))))))) (Nat.le_refl _) (Nat.le_refl _), by rw [lX]; omega, g5, fun n h1 h2 hs => ?_⟩
      rcases fwd n hs with h | h | h
      · exact g4 n h1 h2 h
      · omega
      · omega
  · show X.2.2 ≤ _
    omega
theorem l_S_clips (hE : E.1 ≤ 260) : ∀ (m c : Nat) (H : xH) (rc : Nat) (ac : List Nat) (g : Nat → Option Nat) (j5 j6 : Option Value), c + m = drN E → siC E H p rk ru rc rr ak au ac g c → ∃ X rc' ac' g', (∀ Q, xr E (d + 5) m_S_init Q (278, [some (.ref p), some (.retAddr 0), some (.int (nI tn)), some (.int (nI (drN E))), some (.int (nI c)), j5, j6], [], H) = Q (.inl none, X)) ∧ siC E X p rk ru rc' rr ak au ac' g' (drN E) ∧ H.2.1 ≤ X.2.1 ∧ X.2.1 ≤ H.2.1 + m * (3 + cN 4) ∧ X.2.2 ≤ H.2.2 + m * (19 + 3 * cN 4) ∧ ∀ a, a < H.2.1 → ¬ a = p → ¬ a = rr → X.1 a = H.1 a
  | 0, c, H, rc, ac, g, j5, j6, hc, h => by
    obtain rfl : c = drN E := by omega
    refine ⟨H, rc, ac, g, fun Q => ?_, h, Nat.le_refl _, by omega, by omega, fun _ _ _ _ => rfl⟩
    rw [s_S_init_278]
    simp only [↓reduceIte, s_S_init_280, s_S_init_281, s_S_init_428, nge (Nat.le_refl (drN E)) (show drN E < 2147483648 by have := drN_b (E := E); omega)]
  | m + 1, c, H, rc, ac, g, j5, j6, hc, h => by
    obtain ⟨Y, rc1, ac1, g1, j51, y1, y2, y3, y4, y5, y6⟩ := si_c (d := d) (tn := tn) (j5 := j5) (j6 := j6) hE h (by omega)
    obtain ⟨X, rc2, ac2, g2, x1, x2, x3, x4, x5, x6⟩ := l_S_clips hE m (c + 1) Y rc1 ac1 g1 j51 j6 (by omega) y2
    refine ⟨X, rc2, ac2, g2, fun Q => (y1 Q).trans (x1 Q), x2, by omega, ?_, ?_, fun a ha h1 h2 => (x6 a (by omega) h1 h2).trans (y6 a ha h1 h2)⟩
    · rw [Nat.succ_mul]; omega
    · rw [Nat.succ_mul]; omega
/-- from the things to the clippers -/
theorem si_8 (hE : E.1 ≤ 260) (h : siW H p (drC E) (drR E) rk ru rc ak au (drP E)) : ∃ X, (∀ Q, xr E (d + 5) m_S_init Q (253, [some (.ref p), some (.retAddr 0), some (.int (nI tn)), some (.int (nI tn)), j4, j5, j6], [], H) = xr E (d + 5) m_S_init Q (278, [some (.ref p), some (.retAddr 0), some (.int (nI tn)), some (.int (nI (drN E))), some (.int (nI 0)), j5, j6], [], X)) ∧ siC E X p rk ru rc H.2.1 ak au [] (fun _ => none) 0 ∧ X.2.1 = H.2.1 + 1 ∧ X.2.2 ≤ H.2.2 + 6 ∧ ∀ a, a < H.2.1 → ¬ a = p → X.1 a = H.1 a := by
  obtain ⟨⟨h1, h2, h3, h4, h5, h6, h7, h8, h9, hA, hB, hC⟩, g1, g2, g3, g4, g5, g6, g7, g8, g9, gA⟩ := h
  obtain ⟨n1, n6⟩ := drN_b (E := E)
  have hce : ∀ (Q : xR → Prop), xcall E xprog (d + 5) 168 [.retAddr 0, .int 14] H Q = Q (.inl (some (.int (cel E 14))), H) := fun Q => f_L_cell (k := 14) hE (by omega)
  have hb : ∀ (Q : xR → Prop), xcall E xprog (d + 5) 167 [.int (cel E 14), .int 6] H Q = Q (.inl (some (.int (nI (bel (cel E 14) 6)))), H) := fun Q => f_L_below _ (n := 6) (by omega) (by omega)
  have hf : ∀ a, a < H.2.1 → ¬ a = p → (xset (xnew H (xarR (drN E) (fun _ => none)) (drN E)) p (simF (drC E) (drR E) 0 0 0 rk ru rc (.ref H.2.1))).1 a = H.1 a := fun a ha hap => (xset_o _ hap).trans (by rw [xnew_g, if_neg (by omega)])
  have hp2 : (xnew H (xarR (drN E) (fun _ => none)) (drN E)).1 p = simF (drC E) (drR E) 0 0 0 rk ru rc .null := by rw [xnew_g, if_neg (by omega)]; exact h1
  refine ⟨xset (xnew H (xarR (drN E) (fun _ => none)) (drN E)) p (simF (drC E) (drR E) 0 0 0 rk ru rc (.ref H.2.1)), fun Q => ?_, ⟨⟨xset_s p rfl, (hf rk hA (by omega)).trans h2, (hf ru hB (by omega)).trans h3, (hf rc hC (by omega)).trans h4, ?_⟩, ⟨h5, h6, rfl⟩, fun i hi => ?_, fun i hi => ?_, fun i hi => absurd hi (Nat.not_lt_zero _), fun q hq => ?_, ⟨g1, g2, List.Pairwise.nil, g3, g4, g5⟩, fun k hk => absurd hk (Nat.not_lt_zero _)⟩, rfl, ?_, hf⟩
  · simp only [↓reduceIte, s_S_init_253, s_S_init_254, s_S_init_255, s_S_init_257, s_S_init_260, s_S_init_262, s_S_init_265, s_S_init_266, s_S_init_267, s_S_init_268, s_S_init_269, s_S_init_272, s_S_init_275, s_S_init_276, not_false_eq_true, Nat.reduceLT, Nat.reduceAdd, true_and, and_true, if_true, if_false, ite_true, ite_false, xnb_0, xnb_1, xnb_b, xk_v, xk_n, hce, hb, show (1 : Int32) + nI (bel (cel E 14) 6) = nI (drN E) from nI_ad 1 _, nI_n0 (drN E) (by omega), ncl (show drN E < 2147483648 by omega), show (drN E * 4 ≤ 536870912) = True from eq_true (by omega), xf_of hp2, xll_10, xlg_10_0, xlg_10_1, xlg_10_2, xlg_10_3, xlg_10_4, xlg_10_5, xlg_10_6, xlg_10_7, xlg_10_8, xls_10_0, xls_10_1, xls_10_2, xls_10_3, xls_10_4, xls_10_5, xls_10_6, xls_10_7, xls_10_8]
    rfl
  · rw [xset_o _ (by omega)]; exact if_pos rfl
  · have := g9 ak[i] (List.getElem_mem hi)
    exact (hf _ (h7 i hi).1 (by omega)).trans (h7 i hi).2
  · have := gA au[i] (List.getElem_mem hi)
    exact (hf _ (h8 i hi).1 (by omega)).trans (h8 i hi).2
  · have lk := li_lt fun i hi => (h7 i hi).1
    have lu := li_lt fun i hi => (h8 i hi).1
    show p ≤ q ∧ q < H.2.1 + 1
    rcases hq with q1 | q1 | q1 | q1 | q1 | q1 | q1 | q1
    · omega
    · omega
    · omega
    · omega
    · omega
    · have := lk q q1; have := g9 q q1; omega
    · have := lu q q1; have := gA q q1; omega
    · cases q1
  · show H.2.2 + drN E ≤ _
    omega
end CLIPS2
