/-! ===== the law's reckoning is made: its things ===== -/
section THINGS
variable {E : xE} {d D : Nat} {H X Z : xH} {p v n m i c e a s0 s1 rk ru rc tn k cx cy z lo : Nat} {x : Int32} {ak au : List Nat} {P : kcL} {C D' F : xC}
/-- what stands so far, with every place by itself -/
def siW (H : xH) (p s0 s1 rk ru rc : Nat) (ak au : List Nat) (P : kcL) : Prop :=
  siP H p s0 s1 rk ru rc ak au P ∧ ak.Pairwise (· < ·) ∧ au.Pairwise (· < ·) ∧ ¬ rk = ru ∧ ¬ rk = rc ∧ ¬ ru = rc ∧ p < rk ∧ p < ru ∧ p < rc ∧ (∀ q ∈ ak, p < q) ∧ ∀ q ∈ au, p < q
theorem s3_f (ha : a < H.2.1) (hp : ¬ a = p) : (xset (xnew (xnew H C c) D' e) p F).1 a = H.1 a := by
  rw [xset_o _ hp]
  show (if a = H.2.1 + 1 then _ else if a = H.2.1 then _ else H.1 a) = _
  rw [if_neg (by omega), if_neg (by omega)]
theorem s3_0 (hp : p < H.2.1) : (xset (xnew (xnew H C c) D' e) p F).1 H.2.1 = C := by
  rw [xset_o _ (by omega)]
  show (if H.2.1 = H.2.1 + 1 then _ else if H.2.1 = H.2.1 then C else _) = _
  rw [if_neg (by omega), if_pos rfl]
theorem s3_1 (hp : p < H.2.1) : (xset (xnew (xnew H C c) D' e) p F).1 (H.2.1 + 1) = D' := by
  rw [xset_o _ (by omega)]
  exact if_pos rfl
theorem gD_l {α : Type} {L : List α} {v d : α} (h : i < L.length) : (L ++ [v]).getD i d = L.getD i d := by
  rw [gD (show i < (L ++ [v]).length by simp; omega), gD h, List.getElem_append_left h]
theorem gD_r {α : Type} {L : List α} {v d : α} (h : i = L.length) : (L ++ [v]).getD i d = v := by
  subst h
  rw [gD (show L.length < (L ++ [v]).length by simp)]
  simp
theorem pw_sn {L : List Nat} (h : L.Pairwise (· < ·)) (hv : ∀ q ∈ L, q < v) : (L ++ [v]).Pairwise (· < ·) := by
  rw [List.pairwise_append]
  exact ⟨h, List.pairwise_singleton _ _, fun q hq w hw => by rw [List.mem_singleton] at hw; rw [hw]; exact hv q hq⟩
theorem li_lt {L : List Nat} (h : ∀ i (_ : i < L.length), L[i] < v) : ∀ q ∈ L, q < v := fun q hq => by
  obtain ⟨i, hi, e⟩ := List.getElem_of_mem hq
  rw [← e]; exact h i hi
theorem siW_k (h : siW H p s0 s1 rk ru rc ak au P) : siW (xset (xnew (xnew H (xarI 5 (f5 cx cy z)) 5) (rowL (ak ++ [H.2.1])) (ak.length + 1)) p (simF s0 s1 0 0 0 (H.2.1 + 1) ru rc .null)) p s0 s1 (H.2.1 + 1) ru rc (ak ++ [H.2.1]) au (P.1 ++ [(cx, cy, z)], P.2) := by
  obtain ⟨⟨h1, h2, h3, h4, h5, h6, h7, h8, h9, hA, hB, hC⟩, g1, g2, g3, g4, g5, g6, g7, g8, g9, gA⟩ := h
  have lk := li_lt fun i hi => (h7 i hi).1
  refine ⟨⟨xset_s p rfl, s3_1 h9, (s3_f hB (by omega)).trans h3, (s3_f hC (by omega)).trans h4, by simp [h5], h6, fun i hi => ?_, fun i hi => ?_, by show p < H.2.1 + 1 + 1; omega, by show H.2.1 + 1 < H.2.1 + 1 + 1; omega, by show ru < H.2.1 + 1 + 1; omega, by show rc < H.2.1 + 1 + 1; omega⟩, pw_sn g1 lk, g2, by omega, by omega, g5, by omega, g7, g8, fun q hq => ?_, gA⟩
  · by_cases e : i < ak.length
    · have q1 := g9 ak[i] (List.getElem_mem e)
      obtain ⟨q2, q3⟩ := h7 i e
      rw [List.getElem_append_left e]
      refine ⟨by show ak[i] < H.2.1 + 1 + 1; omega, ?_⟩
      show _ = xarI 5 (f5 ((P.1 ++ [(cx, cy, z)]).getD i (0, 0, 0)).1 ((P.1 ++ [(cx, cy, z)]).getD i (0, 0, 0)).2.1 ((P.1 ++ [(cx, cy, z)]).getD i (0, 0, 0)).2.2)
      rw [gD_l (by omega), s3_f q2 (by omega), q3]
    · simp only [List.length_append, List.length_cons, List.length_nil] at hi
      rw [List.getElem_append_right (by omega)]
      have e2 : i = P.1.length := by omega
      simp only [List.getElem_singleton]
      refine ⟨by show H.2.1 < H.2.1 + 1 + 1; omega, ?_⟩
      show _ = xarI 5 (f5 ((P.1 ++ [(cx, cy, z)]).getD i (0, 0, 0)).1 ((P.1 ++ [(cx, cy, z)]).getD i (0, 0, 0)).2.1 ((P.1 ++ [(cx, cy, z)]).getD i (0, 0, 0)).2.2)
      rw [gD_r e2, s3_0 h9]
  · have q1 := gA au[i] (List.getElem_mem hi)
    obtain ⟨q2, q3⟩ := h8 i hi
    exact ⟨by show au[i] < H.2.1 + 1 + 1; omega, by rw [s3_f q2 (by omega), q3]⟩
  · rcases List.mem_append.mp hq with q1 | q1
    · exact g9 q q1
    · rw [List.mem_singleton] at q1; omega
theorem siW_u (h : siW H p s0 s1 rk ru rc ak au P) : siW (xset (xnew (xnew H (xarI 2 (f2 cx cy)) 2) (rowL (au ++ [H.2.1])) (au.length + 1)) p (simF s0 s1 0 0 0 rk (H.2.1 + 1) rc .null)) p s0 s1 rk (H.2.1 + 1) rc ak (au ++ [H.2.1]) (P.1, P.2 ++ [(cx, cy)]) := by
  obtain ⟨⟨h1, h2, h3, h4, h5, h6, h7, h8, h9, hA, hB, hC⟩, g1, g2, g3, g4, g5, g6, g7, g8, g9, gA⟩ := h
  have lk := li_lt fun i hi => (h8 i hi).1
  refine ⟨⟨xset_s p rfl, (s3_f hA (by omega)).trans h2, s3_1 h9, (s3_f hC (by omega)).trans h4, h5, by simp [h6], fun i hi => ?_, fun i hi => ?_, by show p < H.2.1 + 1 + 1; omega, by show rk < H.2.1 + 1 + 1; omega, by show H.2.1 + 1 < H.2.1 + 1 + 1; omega, by show rc < H.2.1 + 1 + 1; omega⟩, g1, pw_sn g2 lk, by omega, g4, by omega, g6, by omega, g8, g9, fun q hq => ?_⟩
  · have q1 := g9 ak[i] (List.getElem_mem hi)
    obtain ⟨q2, q3⟩ := h7 i hi
    exact ⟨by show ak[i] < H.2.1 + 1 + 1; omega, by rw [s3_f q2 (by omega), q3]⟩
  · by_cases e : i < au.length
    · have q1 := gA au[i] (List.getElem_mem e)
      obtain ⟨q2, q3⟩ := h8 i e
      rw [List.getElem_append_left e]
      refine ⟨by show au[i] < H.2.1 + 1 + 1; omega, ?_⟩
      show _ = xarI 2 (f2 ((P.2 ++ [(cx, cy)]).getD i (0, 0)).1 ((P.2 ++ [(cx, cy)]).getD i (0, 0)).2)
      rw [gD_l (by omega), s3_f q2 (by omega), q3]
    · simp only [List.length_append, List.length_cons, List.length_nil] at hi
      rw [List.getElem_append_right (by omega)]
      have e2 : i = P.2.length := by omega
      simp only [List.getElem_singleton]
      refine ⟨by show H.2.1 < H.2.1 + 1 + 1; omega, ?_⟩
      show _ = xarI 2 (f2 ((P.2 ++ [(cx, cy)]).getD i (0, 0)).1 ((P.2 ++ [(cx, cy)]).getD i (0, 0)).2)
      rw [gD_r e2, s3_0 h9]
  · rcases List.mem_append.mp hq with q1 | q1
    · exact gA q q1
    · rw [List.mem_singleton] at q1; omega
theorem siW_I (h : siW H p s0 s1 rk ru rc ak au P) : (∀ q ∈ ak, q < H.2.1 ∧ xisI H q) ∧ ∀ q ∈ au, q < H.2.1 ∧ xisI H q := by
  obtain ⟨⟨h1, h2, h3, h4, h5, h6, h7, h8, h9, hA, hB, hC⟩, -⟩ := h
  refine ⟨fun q hq => ?_, fun q hq => ?_⟩
  · obtain ⟨i, hi, e⟩ := List.getElem_of_mem hq
    rw [← e]; exact ⟨(h7 i hi).1, xisI_of (h7 i hi).2⟩
  · obtain ⟨i, hi, e⟩ := List.getElem_of_mem hq
    rw [← e]; exact ⟨(h8 i hi).1, xisI_of (h8 i hi).2⟩
theorem si_w (hW : siW H p s0 s1 rk ru rc ak au P) (hP : drO E P) (hx : x = cel E (3 + k)) (hcx : cx = bel (cel E (3 + k) >>> (1 &&& 31)) (drC E)) (hcy : cy = bel (cel E (3 + k) >>> (4 &&& 31)) (drR E)) : ∃ X rk' ru' ak' au', (∀ Q, xr E (d + 5) m_S_init Q (113, [some (.ref p), some (.retAddr 0), some (.int (nI tn)), some (.int (nI k)), some (.int x), some (.int (nI cx)), some (.int (nI cy))], [], H) = xr E (d + 5) m_S_init Q (247, [some (.ref p), some (.retAddr 0), some (.int (nI tn)), some (.int (nI k)), some (.int x), some (.int (nI cx)), some (.int (nI cy))], [], X)) ∧ siW X p s0 s1 rk' ru' rc ak' au' (dr1 E k P) ∧ H.2.1 ≤ X.2.1 ∧ X.2.1 ≤ H.2.1 + 2 ∧ X.2.2 ≤ H.2.2 + 12 ∧ ∀ a, a < H.2.1 → ¬ a = p → X.1 a = H.1 a := by
  obtain ⟨o1, o2, o3, o4, -⟩ := id hP
  have cb := drC_b (E := E)
  have rb := drR_b (E := E)
  have bx := bel_lt (v := cel E (3 + k) >>> (1 &&& 31)) (n := drC E) (by omega)
  have by' := bel_lt (v := cel E (3 + k) >>> (4 &&& 31)) (n := drR E) (by omega)
  have b3 := bel_lt (v := x) (n := 3) (by omega)
  obtain ⟨iK, iU⟩ := siW_I hW
  have hb3 : ∀ (Q : xR → Prop), xcall E xprog (d + 5) 167 [.int x, .int 3] H Q = Q (.inl (some (.int (nI (bel x 3)))), H) := fun Q => f_L_below x (n := 3) (by omega) (by omega)
  have hdr : dr1 E k P = if hasK P.1 cx cy = true ∨ hasU P.2 cx cy = true then P else if 0 < bel x 3 ∧ P.1.length < 6 then (P.1 ++ [(cx, cy, 1 + bel (x >>> (6 &&& 31)) 30)], P.2) else if P.2.length < 6 then (P.1, P.2 ++ [(cx, cy)]) else P := by
    rw [hx, hcx, hcy]; rfl
  rw [hdr]
  rw [← hcx] at bx
  rw [← hcy] at by'
  clear hdr hx hcx hcy
  have hatK := fun (Q : xR → Prop) => siP_atk (E := E) (d := d + 4) (Q := Q) hW.1 o1 (X := nI cx) (Y := nI cy)
  have hatU := fun (Q : xR → Prop) => siP_atu (E := E) (d := d + 4) (Q := Q) hW.1 o2 (X := nI cx) (Y := nI cy)
  have hK := has_K (K := P.1) (x := cx) (y := cy) o1 (fun i hi => by have := o3 i hi; omega) (by omega) (by omega) (f := fun k => f5 (P.1.getD k (0, 0, 0)).1 (P.1.getD k (0, 0, 0)).2.1 (P.1.getD k (0, 0, 0)).2.2) (fun i hi => by rw [gD hi]; exact ⟨rfl, rfl⟩)
  have hU := has_U (K := P.2) (x := cx) (y := cy) o2 (fun i hi => by have := o4 i hi; omega) (by omega) (by omega) (f := fun k => f2 (P.2.getD k (0, 0)).1 (P.2.getD k (0, 0)).2) (fun i hi => by rw [gD hi]; exact ⟨rfl, rfl⟩)
  obtain ⟨⟨h1, h2, h3, h4, h5, h6, h7, h8, h9, hA, hB, hC⟩, g1, g2, g3, g4, g5, g6, g7, g8, g9, gA⟩ := id hW
  by_cases a1 : hasK P.1 cx cy = true
  · rw [if_pos (Or.inl a1)]
    rw [eq_false (not_not_intro a1)] at hK
    refine ⟨H, rk, ru, ak, au, fun Q => ?_, hW, Nat.le_refl _, by omega, by omega, fun _ _ _ => rfl⟩
    simp only [↓reduceIte, s_S_init_113, s_S_init_114, s_S_init_117, s_S_init_119, s_S_init_121, s_S_init_124, not_false_eq_true, Nat.reduceLT, Nat.reduceAdd, true_and, and_true, if_true, if_false, ite_true, ite_false, xnb_0, xnb_1, xnb_b, xk_v, xk_n, xf_of h1, xll_10, xlg_10_0, xlg_10_1, xlg_10_2, xlg_10_3, xlg_10_4, xlg_10_5, xlg_10_6, xlg_10_7, xlg_10_8, hatK, hK]
  by_cases a2 : hasU P.2 cx cy = true
  · rw [if_pos (Or.inr a2)]
    rw [eq_true a1] at hK
    rw [eq_false (not_not_intro a2)] at hU
    refine ⟨H, rk, ru, ak, au, fun Q => ?_, hW, Nat.le_refl _, by omega, by omega, fun _ _ _ => rfl⟩
    simp only [↓reduceIte, s_S_init_113, s_S_init_114, s_S_init_117, s_S_init_119, s_S_init_121, s_S_init_124, s_S_init_127, s_S_init_128, s_S_init_131, s_S_init_133, s_S_init_135, s_S_init_138, s_S_init_141, not_false_eq_true, Nat.reduceLT, Nat.reduceAdd, true_and, and_true, if_true, if_false, ite_true, ite_false, xnb_0, xnb_1, xnb_b, xk_v, xk_n, xf_of h1, xll_10, xlg_10_0, xlg_10_1, xlg_10_2, xlg_10_3, xlg_10_4, xlg_10_5, xlg_10_6, xlg_10_7, xlg_10_8, hatK, hK, hatU, hU]
  rw [if_neg (fun h => h.elim a1 a2)]
  rw [eq_true a1] at hK
  rw [eq_true a2] at hU
  have toU : ¬ (0 < bel x 3 ∧ P.1.length < 6) → ∀ Q, xr E (d + 5) m_S_init Q (113, [some (.ref p), some (.retAddr 0), some (.int (nI tn)), some (.int (nI k)), some (.int x), some (.int (nI cx)), some (.int (nI cy))], [], H) = xr E (d + 5) m_S_init Q (213, [some (.ref p), some (.retAddr 0), some (.int (nI tn)), some (.int (nI k)), some (.int x), some (.int (nI cx)), some (.int (nI cy))], [], H) := by
    intro hn Q
    by_cases e : 0 < bel x 3
    · simp only [↓reduceIte, s_S_init_113, s_S_init_114, s_S_init_117, s_S_init_119, s_S_init_121, s_S_init_124, s_S_init_127, s_S_init_128, s_S_init_131, s_S_init_133, s_S_init_135, s_S_init_138, s_S_init_141, s_S_init_144, s_S_init_146, s_S_init_147, s_S_init_150, s_S_init_153, s_S_init_154, s_S_init_157, s_S_init_158, s_S_init_160, not_false_eq_true, Nat.reduceLT, Nat.reduceAdd, true_and, and_true, if_true, if_false, ite_true, ite_false, xnb_0, xnb_1, xnb_b, xk_v, xk_n, xf_of h1, xll_10, xlg_10_0, xlg_10_1, xlg_10_2, xlg_10_3, xlg_10_4, xlg_10_5, xlg_10_6, xlg_10_7, xlg_10_8, hatK, hK, hatU, hU, hb3, show ((0 : Int32) < nI (bel x 3)) = True from nlt (i := 0) e (by omega), xln_A h2, Option.isSome_some, Option.getD_some, show (nI ak.length < (6 : Int32)) = False from nge (i := ak.length) (n := 6) (by omega) (by omega)]
    · simp only [↓reduceIte, s_S_init_113, s_S_init_114, s_S_init_117, s_S_init_119, s_S_init_121, s_S_init_124, s_S_init_127, s_S_init_128, s_S_init_131, s_S_init_133, s_S_init_135, s_S_init_138, s_S_init_141, s_S_init_144, s_S_init_146, s_S_init_147, s_S_init_150, s_S_init_153, s_S_init_154, s_S_init_157, s_S_init_158, s_S_init_160, not_false_eq_true, Nat.reduceLT, Nat.reduceAdd, true_and, and_true, if_true, if_false, ite_true, ite_false, xnb_0, xnb_1, xnb_b, xk_v, xk_n, xf_of h1, xll_10, xlg_10_0, xlg_10_1, xlg_10_2, xlg_10_3, xlg_10_4, xlg_10_5, xlg_10_6, xlg_10_7, xlg_10_8, hatK, hK, hatU, hU, hb3, show ((0 : Int32) < nI (bel x 3)) = False from nge (i := 0) (n := bel x 3) (by omega) (by omega)]
  by_cases a3 : 0 < bel x 3 ∧ P.1.length < 6
  · rw [if_pos a3]
    refine ⟨_, H.2.1 + 1, ru, ak ++ [H.2.1], au, fun Q => ?_, siW_k hW (cx := cx) (cy := cy) (z := 1 + bel (x >>> (6 &&& 31)) 30), ?_, ?_, ?_, fun a ha hap => s3_f ha hap⟩
    · refine Eq.trans (b := xr E (d + 5) m_S_init Q (163, [some (.ref p), some (.retAddr 0), some (.int (nI tn)), some (.int (nI k)), some (.int x), some (.int (nI cx)), some (.int (nI cy))], [], H)) ?_ (si_k h1 h9 h2 hA (by omega) iK)
      simp only [↓reduceIte, s_S_init_113, s_S_init_114, s_S_init_117, s_S_init_119, s_S_init_121, s_S_init_124, s_S_init_127, s_S_init_128, s_S_init_131, s_S_init_133, s_S_init_135, s_S_init_138, s_S_init_141, s_S_init_144, s_S_init_146, s_S_init_147, s_S_init_150, s_S_init_153, s_S_init_154, s_S_init_157, s_S_init_158, s_S_init_160, not_false_eq_true, Nat.reduceLT, Nat.reduceAdd, true_and, and_true, if_true, if_false, ite_true, ite_false, xnb_0, xnb_1, xnb_b, xk_v, xk_n, xf_of h1, xll_10, xlg_10_0, xlg_10_1, xlg_10_2, xlg_10_3, xlg_10_4, xlg_10_5, xlg_10_6, xlg_10_7, xlg_10_8, hatK, hK, hatU, hU, hb3, show ((0 : Int32) < nI (bel x 3)) = True from nlt (i := 0) a3.1 (by omega), xln_A h2, Option.isSome_some, Option.getD_some, show (nI ak.length < (6 : Int32)) = True from nlt (i := ak.length) (n := 6) (by omega) (by omega)]
    · show H.2.1 ≤ H.2.1 + 1 + 1; omega
    · show H.2.1 + 1 + 1 ≤ H.2.1 + 2; omega
    · show H.2.2 + 5 + (ak.length + 1) ≤ H.2.2 + 12; omega
  rw [if_neg a3]
  by_cases a4 : P.2.length < 6
  · rw [if_pos a4]
    refine ⟨_, rk, H.2.1 + 1, ak, au ++ [H.2.1], fun Q => ?_, siW_u hW (cx := cx) (cy := cy), ?_, ?_, ?_, fun a ha hap => s3_f ha hap⟩
    · refine (toU a3 Q).trans (Eq.trans (b := xr E (d + 5) m_S_init Q (223, [some (.ref p), some (.retAddr 0), some (.int (nI tn)), some (.int (nI k)), some (.int x), some (.int (nI cx)), some (.int (nI cy))], [], H)) ?_ (si_u h1 h9 h3 hB (by omega) iU))
      simp only [↓reduceIte, s_S_init_213, s_S_init_214, s_S_init_217, s_S_init_218, s_S_init_220, not_false_eq_true, Nat.reduceLT, Nat.reduceAdd, true_and, and_true, if_true, if_false, ite_true, ite_false, xnb_0, xnb_1, xnb_b, xk_v, xk_n, xf_of h1, xll_10, xlg_10_0, xlg_10_1, xlg_10_2, xlg_10_3, xlg_10_4, xlg_10_5, xlg_10_6, xlg_10_7, xlg_10_8, xln_A h3, Option.isSome_some, Option.getD_some, show (nI au.length < (6 : Int32)) = True from nlt (i := au.length) (n := 6) (by omega) (by omega)]
    · show H.2.1 ≤ H.2.1 + 1 + 1; omega
    · show H.2.1 + 1 + 1 ≤ H.2.1 + 2; omega
    · show H.2.2 + 2 + (au.length + 1) ≤ H.2.2 + 12; omega
  · rw [if_neg a4]
    refine ⟨H, rk, ru, ak, au, fun Q => (toU a3 Q).trans ?_, hW, Nat.le_refl _, by omega, by omega, fun _ _ _ => rfl⟩
    simp only [↓reduceIte, s_S_init_213, s_S_init_214, s_S_init_217, s_S_init_218, s_S_init_220, not_false_eq_true, Nat.reduceLT, Nat.reduceAdd, true_and, and_true, if_true, if_false, ite_true, ite_false, xnb_0, xnb_1, xnb_b, xk_v, xk_n, xf_of h1, xll_10, xlg_10_0, xlg_10_1, xlg_10_2, xlg_10_3, xlg_10_4, xlg_10_5, xlg_10_6, xlg_10_7, xlg_10_8, xln_A h3, Option.isSome_some, Option.getD_some, show (nI au.length < (6 : Int32)) = False from nge (i := au.length) (n := 6) (by omega) (by omega)]
theorem l_S_things (hE : E.1 ≤ 260) (ht : tn ≤ 10) : ∀ (m k : Nat) (H : xH) (rk ru : Nat) (ak au : List Nat) (P : kcL) (j4 j5 j6 : Option Value), k + m = tn → siW H p (drC E) (drR E) rk ru rc ak au P → drO E P → ∃ X rk' ru' ak' au' j4' j5' j6', (∀ Q, xr E (d + 5) m_S_init Q (73, [some (.ref p), some (.retAddr 0), some (.int (nI tn)), some (.int (nI k)), j4, j5, j6], [], H) = xr E (d + 5) m_S_init Q (253, [some (.ref p), some (.retAddr 0), some (.int (nI tn)), some (.int (nI tn)), j4', j5', j6'], [], X)) ∧ siW X p (drC E) (drR E) rk' ru' rc ak' au' (drI E k m P) ∧ H.2.1 ≤ X.2.1 ∧ X.2.1 ≤ H.2.1 + 2 * m ∧ X.2.2 ≤ H.2.2 + 12 * m ∧ ∀ a, a < H.2.1 → ¬ a = p → X.1 a = H.1 a
  | 0, k, H, rk, ru, ak, au, P, j4, j5, j6, hk, hW, hP => by
    obtain rfl : k = tn := by omega
    refine ⟨H, rk, ru, ak, au, j4, j5, j6, fun Q => ?_, hW, Nat.le_refl _, by omega, by omega, fun _ _ _ => rfl⟩
    rw [s_S_init_73]
    simp only [↓reduceIte, s_S_init_74, s_S_init_75, nge (Nat.le_refl k) (show k < 2147483648 by omega)]
  | m + 1, k, H, rk, ru, ak, au, P, j4, j5, j6, hk, hW, hP => by
    obtain ⟨Y, rk1, ru1, ak1, au1, y1, y2, y3, y4, y5, y6⟩ := si_w (E := E) (d := d) (tn := tn) (k := k) hW hP rfl rfl rfl
    obtain ⟨X, rk2, ru2, ak2, au2, j4', j5', j6', x1, x2, x3, x4, x5, x6⟩ := l_S_things hE ht m (k + 1) Y rk1 ru1 ak1 au1 _ (some (.int (cel E (3 + k)))) (some (.int (nI (bel (cel E (3 + k) >>> (1 &&& 31)) (drC E))))) (some (.int (nI (bel (cel E (3 + k) >>> (4 &&& 31)) (drR E))))) (by omega) y2 (dr1_ok hP)
    refine ⟨X, rk2, ru2, ak2, au2, j4', j5', j6', fun Q => ?_, x2, by omega, by omega, by omega, fun a ha hap => (x6 a (by omega) hap).trans (y6 a ha hap)⟩
    rw [si_2 hE hW.1.1 (by omega) ht, y1, si_9]
    exact x1 Q
end THINGS
