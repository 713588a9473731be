/-! ===== the checksum ===== -/
section DIGEST
variable {E : xE} {d D n n' Ln Mn : Nat} {Q : xR → Prop} {X X1 H : xH} {Kb Ks Kt K l : Nat} {ep th k v : Int32} {La Ma : List Value} {T : Nat → Nat} {tp : Nat → Int32} {b : Nat → Nat → Int32} {nm : Nat → Int64} {s : Nat → Int32} {a a' : Nat → Nat → Int32} {t t' : Nat → Int32} {g : Nat → Nat → Int32} {q : Nat → Int32} {co ro nk nc nn cnt : Nat} {rs re : Nat → Nat} {nw kp wc sk ms : Nat → Int32} {sz ea h : Int32} {W : Int32 → Int64 → Prop}
variable {R : Nat} {u v : Int64}
def dg (u : Int64) (x : Int32) : Int64 := u * 31 + x.toInt64
def dgC (a b : Nat → Nat → Int32) (t : Nat → Int32) (nk : Nat) (y : Int32) : Nat → Nat → Int64 → Int64
  | _, 0, u => u
  | i, m + 1, u => dgC a b t nk y (i + 1) m (dg u (aroC a t b nk (nI i) y))
def dgR (a b : Nat → Nat → Int32) (t : Nat → Int32) (nk co : Nat) : Nat → Nat → Int64 → Int64
  | _, 0, u => u
  | i, m + 1, u => dgR a b t nk co (i + 1) m (dgC a b t nk (nI i) 0 co u)
def dgK (a : Nat → Nat → Int32) : Nat → Nat → Int64 → Int64
  | _, 0, u => u
  | i, m + 1, u => dgK a (i + 1) m (dg (dg u (a 0 i)) (a 2 i))
def dgS (a : Nat → Nat → Int32) (i : Nat) (u : Int64) : Int64 := dg (dg (dg (dg (dg (dg u (a 3 i)) (a 4 i)) (a 5 i)) (a 6 i)) (a 7 i)) (a 8 i)
def dgP (a : Nat → Nat → Int32) (tv : Nat → Int32) : Nat → Nat → Int64 → Int64
  | _, 0, u => u
  | i, m + 1, u => dgP a tv (i + 1) m (dg (dgS a i u) (tv i))
theorem f_T_dgW (x : Int32) : xcall E xprog (d + 1) 110 [.long u, .int x] X Q = Q (.inl (some (.long (dg u x))), X) := by
  rw [e_T_digestWith]
  simp only [s_T_digestWith_0, s_T_digestWith_1, s_T_digestWith_4, s_T_digestWith_5, s_T_digestWith_6, s_T_digestWith_7, s_T_digestWith_8, dg]
theorem l1_T_dA (hc : X.1 0 = tgC Kb Ks ep) (hB : kB X Kb b nm s) (hY : kY X 43 Kb a t) (hn : s 2 = nI nk) (hk : nk ≤ 6) (h0 : s 0 = nI co) (hco : co ≤ 12) (w : Int64) (y : Int32) : ∀ m i u, i + m = co →
    xr E (d + 2) m_T_digestAromas Q (20, [some (.ref 0), some (.long w), some xmk, some (.long u), some xmk, some (.int y), some (.int (nI i))], [], X) = xr E (d + 2) m_T_digestAromas Q (54, [some (.ref 0), some (.long w), some xmk, some (.long (dgC a b t nk y i m u)), some xmk, some (.int y), some (.int (nI co))], [], X) := by
  have y0 := hY.1
  have b0 := hB.1
  unfold tgC at hc
  intro m
  induction m with
  | zero =>
    intro i u hi
    have e : i = co := by omega
    subst e
    rw [s_T_digestAromas_20]
    simp only [s_T_digestAromas_22, s_T_digestAromas_23, s_T_digestAromas_26, s_T_digestAromas_29, not_false_eq_true, Nat.reduceLT, Nat.reduceAdd, true_and, and_true, if_true, if_false, ite_true, ite_false, xnb_0, xnb_1, xnb_b, xk_v, xk_n, xf_of hc, xll_8, xlg_8_0, xlg_8_1, xlg_8_2, xlg_8_3, xlg_8_4, xlg_8_5, xlg_8_6, xf_of b0, xll_1, xlg_1_0, xlg_1_1, xlg_1_2, xlg_1_3, xlg_1_4, xlg_1_5, xlg_1_6, xlg_1_7, xlg_1_8, xlg_1_9, xlg_1_10, xlg_1_11, xlg_1_12, xlg_1_13, xlg_1_14, xlg_1_15, xlg_1_16, h0, nge (Nat.le_refl i) (by omega), dgC]
  | succ m ih =>
    intro i u hi
    rw [s_T_digestAromas_20]
    simp only [s_T_digestAromas_22, s_T_digestAromas_23, s_T_digestAromas_26, s_T_digestAromas_29, s_T_digestAromas_32, s_T_digestAromas_33, s_T_digestAromas_34, s_T_digestAromas_37, s_T_digestAromas_39, s_T_digestAromas_41, s_T_digestAromas_44, s_T_digestAromas_47, s_T_digestAromas_48, s_T_digestAromas_51, not_false_eq_true, Nat.reduceLT, Nat.reduceAdd, true_and, and_true, if_true, if_false, ite_true, ite_false, xnb_0, xnb_1, xnb_b, xk_v, xk_n, xf_of hc, xll_8, xlg_8_0, xlg_8_1, xlg_8_2, xlg_8_3, xlg_8_4, xlg_8_5, xlg_8_6, xf_of b0, xc_of y0, xll_1, xlg_1_0, xlg_1_1, xlg_1_2, xlg_1_3, xlg_1_4, xlg_1_5, xlg_1_6, xlg_1_7, xlg_1_8, xlg_1_9, xlg_1_10, xlg_1_11, xlg_1_12, xlg_1_13, xlg_1_14, xlg_1_15, xlg_1_16, h0, nlt (show i < co by omega) (by omega), f_Bay_aroma hB hY nk hn hk, f_T_dgW, nI_1, ih (i + 1) _ (by omega), dgC]
theorem l2_T_dA (hc : X.1 0 = tgC Kb Ks ep) (hB : kB X Kb b nm s) (hY : kY X 43 Kb a t) (hn : s 2 = nI nk) (hk : nk ≤ 6) (h0 : s 0 = nI co) (hco : co ≤ 12) (h1 : s 1 = nI ro) (hro : ro ≤ 12) (w : Int64) : ∀ m i u (j : Option Value), i + m = ro →
    xr E (d + 2) m_T_digestAromas Q (5, [some (.ref 0), some (.long w), some xmk, some (.long u), some xmk, some (.int (nI i)), j], [], X) = Q (.inl (some (.long (dgR a b t nk co i m u))), X) := by
  have b0 := hB.1
  have hc' := hc
  unfold tgC at hc
  intro m
  induction m with
  | zero =>
    intro i u j hi
    rw [s_T_digestAromas_5]
    simp only [s_T_digestAromas_7, s_T_digestAromas_8, s_T_digestAromas_11, s_T_digestAromas_14, s_T_digestAromas_60, s_T_digestAromas_61, not_false_eq_true, Nat.reduceLT, Nat.reduceAdd, true_and, and_true, if_true, if_false, ite_true, ite_false, xnb_0, xnb_1, xnb_b, xk_v, xk_n, xf_of hc, xll_8, xlg_8_0, xlg_8_1, xlg_8_2, xlg_8_3, xlg_8_4, xlg_8_5, xlg_8_6, xf_of b0, xll_1, xlg_1_0, xlg_1_1, xlg_1_2, xlg_1_3, xlg_1_4, xlg_1_5, xlg_1_6, xlg_1_7, xlg_1_8, xlg_1_9, xlg_1_10, xlg_1_11, xlg_1_12, xlg_1_13, xlg_1_14, xlg_1_15, xlg_1_16, h1, nge (show ro ≤ i by omega) (by omega), dgR]
  | succ m ih =>
    intro i u j hi
    have z := fun (Q : xR → Prop) => l1_T_dA (E := E) (d := d) (Q := Q) hc' hB hY hn hk h0 hco w (nI i) co 0 u (by omega)
    rw [show nI 0 = (0 : Int32) from rfl] at z
    rw [s_T_digestAromas_5]
    simp only [s_T_digestAromas_7, s_T_digestAromas_8, s_T_digestAromas_11, s_T_digestAromas_14, s_T_digestAromas_17, s_T_digestAromas_18, not_false_eq_true, Nat.reduceLT, Nat.reduceAdd, true_and, and_true, if_true, if_false, ite_true, ite_false, xnb_0, xnb_1, xnb_b, xk_v, xk_n, xf_of hc, xll_8, xlg_8_0, xlg_8_1, xlg_8_2, xlg_8_3, xlg_8_4, xlg_8_5, xlg_8_6, xf_of b0, xll_1, xlg_1_0, xlg_1_1, xlg_1_2, xlg_1_3, xlg_1_4, xlg_1_5, xlg_1_6, xlg_1_7, xlg_1_8, xlg_1_9, xlg_1_10, xlg_1_11, xlg_1_12, xlg_1_13, xlg_1_14, xlg_1_15, xlg_1_16, h1, nlt (show i < ro by omega) (by omega), z, s_T_digestAromas_54, s_T_digestAromas_57, nI_1, ih (i + 1) _ _ (by omega), dgR]
theorem f_T_dA (hc : X.1 0 = tgC Kb Ks ep) (hB : kB X Kb b nm s) (hY : kY X 43 Kb a t) (hn : s 2 = nI nk) (hk : nk ≤ 6) (h0 : s 0 = nI co) (hco : co ≤ 12) (h1 : s 1 = nI ro) (hro : ro ≤ 12) : xcall E xprog (d + 3) 107 [.ref 0, .long u] X Q = Q (.inl (some (.long (dgR a b t nk co 0 ro u))), X) := by
  have z := fun (Q : xR → Prop) => l2_T_dA (E := E) (d := d) (Q := Q) hc hB hY hn hk h0 hco h1 hro u ro 0 u none (by omega)
  rw [show nI 0 = (0 : Int32) from rfl] at z
  rw [e_T_digestAromas]
  simp only [s_T_digestAromas_0, s_T_digestAromas_1, s_T_digestAromas_2, s_T_digestAromas_3, z]
theorem l_T_dK (hc : X.1 0 = tgC Kb Ks ep) (hB : kB X Kb b nm s) (hY : kY X 43 Kb a t) (hn : s 2 = nI nk) (hk : nk ≤ 6) (w : Int64) : ∀ m i u, i + m = nk →
    xr E (d + 1) m_T_digestKettles Q (5, [some (.ref 0), some (.long w), some xmk, some (.long u), some xmk, some (.int (nI i))], [], X) = Q (.inl (some (.long (dgK a i m u))), X) := by
  have b0 := hB.1
  unfold tgC at hc
  obtain ⟨y0, y1, y2, y3, y4, y5, y6, y7, y8, y9⟩ := id hY
  intro m
  induction m with
  | zero =>
    intro i u hi
    rw [s_T_digestKettles_5]
    simp only [s_T_digestKettles_7, s_T_digestKettles_8, s_T_digestKettles_11, s_T_digestKettles_14, s_T_digestKettles_53, s_T_digestKettles_54, not_false_eq_true, Nat.reduceLT, Nat.reduceAdd, true_and, and_true, if_true, if_false, ite_true, ite_false, xnb_0, xnb_1, xnb_b, xk_v, xk_n, xf_of hc, xll_8, xlg_8_0, xlg_8_1, xlg_8_2, xlg_8_3, xlg_8_4, xlg_8_5, xlg_8_6, xf_of b0, xll_1, xlg_1_0, xlg_1_1, xlg_1_2, xlg_1_3, xlg_1_4, xlg_1_5, xlg_1_6, xlg_1_7, xlg_1_8, xlg_1_9, xlg_1_10, xlg_1_11, xlg_1_12, xlg_1_13, xlg_1_14, xlg_1_15, xlg_1_16, hn, nge (show nk ≤ i by omega) (by omega), dgK]
  | succ m ih =>
    intro i u hi
    rw [s_T_digestKettles_5]
    simp only [s_T_digestKettles_7, s_T_digestKettles_8, s_T_digestKettles_11, s_T_digestKettles_14, s_T_digestKettles_17, s_T_digestKettles_18, s_T_digestKettles_19, s_T_digestKettles_22, s_T_digestKettles_25, s_T_digestKettles_27, s_T_digestKettles_28, s_T_digestKettles_31, s_T_digestKettles_32, s_T_digestKettles_33, s_T_digestKettles_34, s_T_digestKettles_37, s_T_digestKettles_40, s_T_digestKettles_42, s_T_digestKettles_43, s_T_digestKettles_46, s_T_digestKettles_47, s_T_digestKettles_50, not_false_eq_true, Nat.reduceLT, Nat.reduceAdd, true_and, and_true, if_true, if_false, ite_true, ite_false, xnb_0, xnb_1, xnb_b, xk_v, xk_n, xf_of hc, xll_8, xlg_8_0, xlg_8_1, xlg_8_2, xlg_8_3, xlg_8_4, xlg_8_5, xlg_8_6, xf_of b0, xll_1, xlg_1_0, xlg_1_1, xlg_1_2, xlg_1_3, xlg_1_4, xlg_1_5, xlg_1_6, xlg_1_7, xlg_1_8, xlg_1_9, xlg_1_10, xlg_1_11, xlg_1_12, xlg_1_13, xlg_1_14, xlg_1_15, xlg_1_16, xf_of y0, xc_of y0, xIl_of y1, xIf_of y1, xIl_of y2, xIf_of y2, xIl_of y3, xIf_of y3, xIl_of y4, xIf_of y4, xIl_of y5, xIf_of y5, xIl_of y6, xIf_of y6, xIl_of y7, xIf_of y7, xIl_of y8, xIf_of y8, xIl_of y9, xIf_of y9, xll_0, xlg_0_0, xlg_0_1, xlg_0_2, xlg_0_3, xlg_0_4, xlg_0_5, xlg_0_6, xlg_0_7, xlg_0_8, xlg_0_9, xlg_0_10, xlg_0_11, xlg_0_12, xlg_0_13, hn, nlt (show i < nk by omega) (by omega), nvp (show i < 6 by omega) (by omega), ncl (show i < 2147483648 by omega), f_T_dgW, nI_1, ih (i + 1) _ (by omega), dgK]
theorem f_T_dK (hc : X.1 0 = tgC Kb Ks ep) (hB : kB X Kb b nm s) (hY : kY X 43 Kb a t) (hn : s 2 = nI nk) (hk : nk ≤ 6) : xcall E xprog (d + 2) 108 [.ref 0, .long u] X Q = Q (.inl (some (.long (dgK a 0 nk u))), X) := by
  have z := fun (Q : xR → Prop) => l_T_dK (E := E) (d := d) (Q := Q) hc hB hY hn hk u nk 0 u (by omega)
  rw [show nI 0 = (0 : Int32) from rfl] at z
  rw [e_T_digestKettles]
  simp only [s_T_digestKettles_0, s_T_digestKettles_1, s_T_digestKettles_2, s_T_digestKettles_3, z]
/-- what a rule tells does not hang on the teller -/
theorem tvC_eq (hT : kTwo b s g q co ro nk nc nn cnt rs re) {c : Nat} (hc : c < nn) (ms sk ms' sk' : Nat → Int32) : tvC a b t s nk rs re c ms sk = tvC a b t s nk rs re c ms' sk' := by
  unfold tvC
  rw [← te_same hT hc ms ms sk sk, ← te_same hT hc ms' ms sk' sk]
theorem l_T_dP (hc : X.1 0 = tgC Kb Ks ep) (hB : kB X Kb b nm s) (hK : Kb < 26) (hT : kTwo b s g q co ro nk nc nn cnt rs re) (w : Int64) (m0 k0 : Nat → Int32) : ∀ m i u (ms sk : Nat → Int32) (h : Int32), i + m = nn → ∃ (ms' sk' : Nat → Int32) (h' : Int32), ∀ Q,
    xr E (d + 4) m_T_digestClippers Q (5, [some (.ref 0), some (.long w), some xmk, some (.long u), some xmk, some (.int (nI i))], [], sH X 43 Kb a t ms sk h) = Q (.inl (some (.long (dgP a (fun c => tvC a b t s nk rs re c m0 k0) i m u))), sH X 43 Kb a t ms' sk' h') := by
  have hs : s 4 = nI nn := hT.2.2.1.2.2.2.2.1
  have h6 : nn ≤ 6 := hT.2.1.2.1
  have hc1 : ∀ (ms sk : Nat → Int32) (h : Int32), (sH X 43 Kb a t ms sk h).1 0 = tgC Kb Ks ep := fun ms sk h => z_0 hc
  have hB1 : ∀ (ms sk : Nat → Int32) (h : Int32), kB (sH X 43 Kb a t ms sk h) Kb b nm s := fun ms sk h => sH_kB hB hK (by omega)
  have b0 := fun (ms sk : Nat → Int32) (h : Int32) => (hB1 ms sk h).1
  have hY1 : ∀ (ms sk : Nat → Int32) (h : Int32), kY (sH X 43 Kb a t ms sk h) 43 Kb a t := fun ms sk h => sH_kY (by omega)
  unfold tgC at hc1
  intro m
  induction m with
  | zero =>
    intro i u ms sk h hi
    refine ⟨ms, sk, h, fun Q => ?_⟩
    rw [s_T_digestClippers_5]
    simp only [s_T_digestClippers_7, s_T_digestClippers_8, s_T_digestClippers_11, s_T_digestClippers_14, s_T_digestClippers_127, s_T_digestClippers_128, not_false_eq_true, Nat.reduceLT, Nat.reduceAdd, true_and, and_true, if_true, if_false, ite_true, ite_false, xnb_0, xnb_1, xnb_b, xk_v, xk_n, xf_of (hc1 _ _ _), xll_8, xlg_8_0, xlg_8_1, xlg_8_2, xlg_8_3, xlg_8_4, xlg_8_5, xlg_8_6, xf_of (b0 _ _ _), xll_1, xlg_1_0, xlg_1_1, xlg_1_2, xlg_1_3, xlg_1_4, xlg_1_5, xlg_1_6, xlg_1_7, xlg_1_8, xlg_1_9, xlg_1_10, xlg_1_11, xlg_1_12, xlg_1_13, xlg_1_14, xlg_1_15, xlg_1_16, hs, nge (show nn ≤ i by omega) (by omega), dgP]
  | succ m ih =>
    intro i u ms sk h hi
    obtain ⟨ms1, sk1, h1, r1⟩ := g_Bay_tell (E := E) (d := d) (hB1 ms sk h) hK (hY1 ms sk h) sH_kT hT.2.2.1 (show i < nn by omega)
    simp only [sH_sH] at r1
    rw [tvC_eq hT (show i < nn by omega) ms sk m0 k0] at r1
    obtain ⟨ms2, sk2, h2, r2⟩ := ih (i + 1) (dg (dgS a i u) (tvC a b t s nk rs re i m0 k0)) ms1 sk1 h1 (by omega)
    refine ⟨ms2, sk2, h2, fun Q => ?_⟩
    obtain ⟨y0, y1, y2, y3, y4, y5, y6, y7, y8, y9⟩ := hY1 ms sk h
    rw [s_T_digestClippers_5]
    simp only [s_T_digestClippers_7, s_T_digestClippers_8, s_T_digestClippers_11, s_T_digestClippers_14, s_T_digestClippers_17, s_T_digestClippers_18, s_T_digestClippers_19, s_T_digestClippers_22, s_T_digestClippers_25, s_T_digestClippers_27, s_T_digestClippers_28, s_T_digestClippers_31, s_T_digestClippers_32, s_T_digestClippers_33, s_T_digestClippers_34, s_T_digestClippers_37, s_T_digestClippers_40, s_T_digestClippers_42, s_T_digestClippers_43, s_T_digestClippers_46, s_T_digestClippers_47, s_T_digestClippers_48, s_T_digestClippers_49, s_T_digestClippers_52, s_T_digestClippers_55, s_T_digestClippers_57, s_T_digestClippers_58, s_T_digestClippers_61, s_T_digestClippers_62, s_T_digestClippers_63, s_T_digestClippers_64, s_T_digestClippers_67, s_T_digestClippers_70, s_T_digestClippers_72, s_T_digestClippers_73, s_T_digestClippers_76, s_T_digestClippers_77, s_T_digestClippers_78, s_T_digestClippers_79, s_T_digestClippers_82, s_T_digestClippers_85, s_T_digestClippers_87, s_T_digestClippers_88, s_T_digestClippers_91, s_T_digestClippers_92, s_T_digestClippers_93, s_T_digestClippers_94, s_T_digestClippers_97, s_T_digestClippers_100, s_T_digestClippers_102, s_T_digestClippers_103, s_T_digestClippers_106, s_T_digestClippers_107, s_T_digestClippers_108, s_T_digestClippers_109, s_T_digestClippers_112, s_T_digestClippers_114, s_T_digestClippers_117, s_T_digestClippers_120, s_T_digestClippers_121, s_T_digestClippers_124, not_false_eq_true, Nat.reduceLT, Nat.reduceAdd, true_and, and_true, if_true, if_false, ite_true, ite_false, xnb_0, xnb_1, xnb_b, xk_v, xk_n, xf_of (hc1 _ _ _), xll_8, xlg_8_0, xlg_8_1, xlg_8_2, xlg_8_3, xlg_8_4, xlg_8_5, xlg_8_6, xf_of (b0 _ _ _), xll_1, xlg_1_0, xlg_1_1, xlg_1_2, xlg_1_3, xlg_1_4, xlg_1_5, xlg_1_6, xlg_1_7, xlg_1_8, xlg_1_9, xlg_1_10, xlg_1_11, xlg_1_12, xlg_1_13, xlg_1_14, xlg_1_15, xlg_1_16, xf_of y0, xc_of y0, xIl_of y1, xIf_of y1, xIl_of y2, xIf_of y2, xIl_of y3, xIf_of y3, xIl_of y4, xIf_of y4, xIl_of y5, xIf_of y5, xIl_of y6, xIf_of y6, xIl_of y7, xIf_of y7, xIl_of y8, xIf_of y8, xIl_of y9, xIf_of y9, xll_0, xlg_0_0, xlg_0_1, xlg_0_2, xlg_0_3, xlg_0_4, xlg_0_5, xlg_0_6, xlg_0_7, xlg_0_8, xlg_0_9, xlg_0_10, xlg_0_11, xlg_0_12, xlg_0_13, hs, nlt (show i < nn by omega) (by omega), nvp (show i < 6 by omega) (by omega), ncl (show i < 2147483648 by omega), f_T_dgW, r1, nI_1]
    exact r2 Q
theorem f_T_dP (hc : X.1 0 = tgC Kb Ks ep) (hB : kB X Kb b nm s) (hK : Kb < 26) (hT : kTwo b s g q co ro nk nc nn cnt rs re) (m0 k0 ms sk : Nat → Int32) (h : Int32) (u : Int64) : ∃ (ms' sk' : Nat → Int32) (h' : Int32), ∀ Q,
    xcall E xprog (d + 5) 109 [.ref 0, .long u] (sH X 43 Kb a t ms sk h) Q = Q (.inl (some (.long (dgP a (fun c => tvC a b t s nk rs re c m0 k0) 0 nn u))), sH X 43 Kb a t ms' sk' h') := by
  obtain ⟨ms', sk', h', z⟩ := l_T_dP (E := E) (d := d) (a := a) (t := t) hc hB hK hT u m0 k0 nn 0 u ms sk h (by omega)
  rw [show nI 0 = (0 : Int32) from rfl] at z
  refine ⟨ms', sk', h', fun Q => ?_⟩
  rw [e_T_digestClippers]
  simp only [s_T_digestClippers_0, s_T_digestClippers_1, s_T_digestClippers_2, s_T_digestClippers_3, z]
def dg0 (co ro nk nn : Nat) (t : Nat → Int32) : Int64 := dg (dg (dg (dg (dg (dg (dg 1901 (nI co)) (nI ro)) (nI nk)) (nI nn)) (t 0)) (t 1)) (t 2)
def dgV (a b : Nat → Nat → Int32) (t : Nat → Int32) (co ro nk nn : Nat) (tv : Nat → Int32) : Int64 := dgP a tv 0 nn (dgK a 0 nk (dgR a b t nk co 0 ro (dg0 co ro nk nn t)))
theorem c_T_digest (hc : X.1 0 = tgC Kb Ks ep) (hB : kB X Kb b nm s) (hK : Kb < 26) (hY : kY X 43 Kb a t) (hTT : kT X ms sk h) (hT : kTwo b s g q co ro nk nc nn cnt rs re) (m0 k0 : Nat → Int32) : ∃ (ms' sk' : Nat → Int32) (h' : Int32), ∀ Q,
    xcall E xprog (d + 6) 106 [.ref 0] X Q = Q (.inl (some (.long (dgV a b t co ro nk nn (fun c => tvC a b t s nk rs re c m0 k0)))), sH X 43 Kb a t ms' sk' h') := by
  obtain ⟨h1, h2, h3, ⟨e1, e2, e3, e4, e5, e6⟩, _⟩ := id hT
  have hs : s 4 = nI nn := h3.2.2.2.2.1
  obtain ⟨ms', sk', h', z⟩ := f_T_dP (E := E) (d := d) (a := a) (t := t) hc hB hK hT m0 k0 ms sk h (dgK a 0 nk (dgR a b t nk co 0 ro (dg0 co ro nk nn t)))
  rw [← sH_of hY hTT] at z
  refine ⟨ms', sk', h', fun Q => ?_⟩
  have z1 := fun (Q : xR → Prop) => f_T_dA (E := E) (d := d + 2) (Q := Q) (u := dg0 co ro nk nn t) hc hB hY h3.1 h3.2.1 e1 e4 e2 e6
  have z2 := fun (Q : xR → Prop) (u : Int64) => f_T_dK (E := E) (d := d + 3) (Q := Q) (u := u) hc hB hY h3.1 h3.2.1
  unfold dg0 at z1 z
  have b0 := hB.1
  have y0 := hY.1
  unfold tgC at hc
  rw [e_T_digest]
  simp only [s_T_digest_0, s_T_digest_3, s_T_digest_4, s_T_digest_5, s_T_digest_6, s_T_digest_9, s_T_digest_12, s_T_digest_15, s_T_digest_16, s_T_digest_17, s_T_digest_18, s_T_digest_21, s_T_digest_24, s_T_digest_27, s_T_digest_28, s_T_digest_29, s_T_digest_30, s_T_digest_33, s_T_digest_36, s_T_digest_39, s_T_digest_40, s_T_digest_41, s_T_digest_42, s_T_digest_45, s_T_digest_48, s_T_digest_51, s_T_digest_52, s_T_digest_53, s_T_digest_54, s_T_digest_57, s_T_digest_60, s_T_digest_63, s_T_digest_64, s_T_digest_65, s_T_digest_66, s_T_digest_69, s_T_digest_72, s_T_digest_75, s_T_digest_76, s_T_digest_77, s_T_digest_78, s_T_digest_81, s_T_digest_84, s_T_digest_87, s_T_digest_88, s_T_digest_89, s_T_digest_90, s_T_digest_93, s_T_digest_94, s_T_digest_95, s_T_digest_96, s_T_digest_99, s_T_digest_100, s_T_digest_101, s_T_digest_102, s_T_digest_105, not_false_eq_true, Nat.reduceLT, Nat.reduceAdd, true_and, and_true, if_true, if_false, ite_true, ite_false, xnb_0, xnb_1, xnb_b, xk_v, xk_n, xf_of hc, xc_of hc, xll_8, xlg_8_0, xlg_8_1, xlg_8_2, xlg_8_3, xlg_8_4, xlg_8_5, xlg_8_6, xf_of b0, xll_1, xlg_1_0, xlg_1_1, xlg_1_2, xlg_1_3, xlg_1_4, xlg_1_5, xlg_1_6, xlg_1_7, xlg_1_8, xlg_1_9, xlg_1_10, xlg_1_11, xlg_1_12, xlg_1_13, xlg_1_14, xlg_1_15, xlg_1_16, xf_of y0, xll_0, xlg_0_0, xlg_0_1, xlg_0_2, xlg_0_3, xlg_0_4, xlg_0_5, xlg_0_6, xlg_0_7, xlg_0_8, xlg_0_9, xlg_0_10, xlg_0_11, xlg_0_12, xlg_0_13, e1, e2, h3.1, hs, f_T_dgW, z1, z2, z, dgV, dg0]
theorem mH_n1 (hR : 77 < H.2.1) {c : xC} {k : Nat} : xnew (mH H K th sz ea tp nw kp wc sk) c k = mH (xnew H c k) K th sz ea tp nw kp wc sk := by
  refine Prod.ext (funext fun n => ?_) rfl
  by_cases p : n = H.2.1
  · rw [mH_o n (by omega), xnew_g, xnew_g, if_pos p]
    exact if_pos p
  · rw [xnew_g, if_neg (show ¬ n = (mH H K th sz ea tp nw kp wc sk).2.1 from p)]
    by_cases p2 : n < 63 ∨ (64 < n ∧ n < 74) ∨ 77 < n
    · rw [mH_o n p2, mH_o n p2, xnew_g, if_neg p]
    · rcases (show n = 63 ∨ n = 64 ∨ n = 74 ∨ n = 75 ∨ n = 76 ∨ n = 77 by omega) with r | r | r | r | r | r <;> subst r <;> rfl
theorem mH_w1 (hR : 77 < H.2.1) {c c' : xC} {k : Nat} : xset (mH (xnew H c k) K th sz ea tp nw kp wc sk) H.2.1 c' = mH (xnew H c' k) K th sz ea tp nw kp wc sk := by
  refine Prod.ext (funext fun n => ?_) rfl
  by_cases p : n = H.2.1
  · rw [mH_o n (by omega), xset_s n p, xnew_g, if_pos p]
  · rw [xset_o n p]
    by_cases p2 : n < 63 ∨ (64 < n ∧ n < 74) ∨ 77 < n
    · rw [mH_o n p2, mH_o n p2, xnew_g, xnew_g, if_neg p, if_neg p]
    · rcases (show n = 63 ∨ n = 64 ∨ n = 74 ∨ n = 75 ∨ n = 76 ∨ n = 77 by omega) with r | r | r | r | r | r <;> subst r <;> rfl
theorem mH_g1 (hR : 77 < H.2.1) {c : xC} {k : Nat} : (mH (xnew H c k) K th sz ea tp nw kp wc sk).1 H.2.1 = c := by rw [mH_o _ (by omega), xnew_g, if_pos rfl]
theorem mH_21 : (mH H K th sz ea tp nw kp wc sk).2.1 = H.2.1 := rfl
theorem mH_l1 (hR : 77 < H.2.1) {N k : Nat} {f : Nat → Int32} : xlenI (mH (xnew H (xarI N f) k) K th sz ea tp nw kp wc sk) H.2.1 = N := xIl_of (mH_g1 hR)
theorem mH_f1 (hR : 77 < H.2.1) {N k : Nat} {f : Nat → Int32} : xfnI (mH (xnew H (xarI N f) k) K th sz ea tp nw kp wc sk) H.2.1 = f := xIf_of (mH_g1 hR)
theorem kM_n1 (hM : kM H K g q) (hR : K + 8 < H.2.1) {c : xC} {k : Nat} : kM (xnew H c k) K g q := kM_eq hM (fun n h1 h2 => by rw [xnew_g, if_neg (by omega)])
/-- the seven numbers -/
def d7 (co ro nk nn : Nat) (t : Nat → Int32) : Nat → Int32 := upd (upd (upd (upd (upd (upd (upd (fun _ => 0) 0 (nI co)) 1 (nI ro)) 2 (nI nk)) 3 (nI nn)) 4 (t 0)) 5 (t 1)) 6 (t 2)
theorem l1_M_dg (hR : 77 < H.2.1) {f7 : Nat → Int32} : ∀ m i u (j : Option Value), i + m = 7 → ∃ (j' : Option Value) (u' : Int64), (∀ Q, xr E d m_M_digest Q (93, [some (.ref 63), some (.ref H.2.1), some (.long u), some xmk, some (.ref H.2.1), some (.int 7), some (.int (nI i)), j], [], (mH (xnew H (xarI 7 f7) 7) K th sz ea tp (nwO nn a t) kp wc sk)) = xr E d m_M_digest Q (123, [some (.ref 63), some (.ref H.2.1), some (.long u'), some xmk, some (.ref H.2.1), some (.int 7), some (.int (nI 7)), j'], [], (mH (xnew H (xarI 7 f7) 7) K th sz ea tp (nwO nn a t) kp wc sk))) ∧ u' = Nat.rec (motive := fun _ => Nat → Int64 → Int64) (fun _ u => u) (fun _ f i u => f (i + 1) (dg u (f7 i))) m i u := by
  intro m
  induction m with
  | zero =>
    intro i u j hi
    have e : i = 7 := by omega
    subst e
    refine ⟨j, u, fun Q => ?_, rfl⟩
    rw [s_M_digest_93]
    simp only [s_M_digest_95, s_M_digest_97, not_false_eq_true, Nat.reduceLT, Nat.reduceAdd, true_and, and_true, if_true, if_false, ite_true, ite_false, xnb_0, xnb_1, xnb_b, xk_v, xk_n, show (nI 7 < 7) = False from eq_false (by decide)]
  | succ m ih =>
    intro i u j hi
    obtain ⟨j', u', r1, r2⟩ := ih (i + 1) (dg u (f7 i)) (some (.int (f7 i))) (by omega)
    refine ⟨j', u', fun Q => ?_, r2⟩
    rw [s_M_digest_93]
    simp only [s_M_digest_95, s_M_digest_97, s_M_digest_100, s_M_digest_102, s_M_digest_104, s_M_digest_105, s_M_digest_107, s_M_digest_108, s_M_digest_111, s_M_digest_112, s_M_digest_114, s_M_digest_115, s_M_digest_116, s_M_digest_117, s_M_digest_120, not_false_eq_true, Nat.reduceLT, Nat.reduceAdd, true_and, and_true, if_true, if_false, ite_true, ite_false, xnb_0, xnb_1, xnb_b, xk_v, xk_n, eq_true (show nI i < 7 by rw [show (7 : Int32) = nI 7 from rfl, n_lt (by omega) (by omega)]; omega), mH_l1 hR, mH_f1 hR, nvp (show i < 7 by omega) (by omega), ncl (show i < 2147483648 by omega), nI_1]
    exact r1 Q
theorem l2_M_dg (hM : kM H K g q) (hK : mK K) (hT : kTwo b s g q co ro nk nc nn cnt rs re) (ha : bOK a nk) (w R : Nat) (y : Int32) (j6 : Int32) (j7 : Option Value) : ∀ m i u, i + m = co →
    xr E (d + 2) m_M_digest Q (141, [some (.ref 63), some (.ref R), some (.long u), some xmk, some (.int y), some (.int (nI i)), some (.int j6), j7], [], mH H K th sz ea tp (nwO nn a t) kp wc sk) = xr E (d + 2) m_M_digest Q (175, [some (.ref 63), some (.ref R), some (.long (dgC a b t nk y i m u)), some xmk, some (.int y), some (.int (nI co)), some (.int j6), j7], [], mH H K th sz ea tp (nwO nn a t) kp wc sk) := by
  have k6 := hT.1.2.2.2.1
  have q0 : q 0 = nI co := hT.1.1.trans hT.2.2.2.1.1
  have hco := hT.2.2.2.1.2.2.2.1
  have z := fun (Q : xR → Prop) (x y : Int32) => f_M_aroma (E := E) (d := d) (Q := Q) (th := th) (sz := sz) (ea := ea) (tp := tp) (kp := kp) (wc := wc) (sk := sk) (nw := nwO nn a t) hM hK nk hT.1 a t (fun k hk => ⟨nw_k0 (by omega), ha k hk⟩) rfl rfl x y
  intro m
  induction m with
  | zero =>
    intro i u hi
    have e : i = co := by omega
    subst e
    rw [s_M_digest_141]
    simp only [s_M_digest_143, s_M_digest_144, s_M_digest_147, s_M_digest_150, mF, mC, ml_64, mf_64, mw_63, mw_64, ml_74, mf_74, mw_74, ml_75, mf_75, mw_75, ml_76, mf_76, mw_76, ml_77, mf_77, mw_77, xll_11, xlg_11_0, xlg_11_1, xlg_11_2, xlg_11_3, xlg_11_4, xlg_11_5, xlg_11_6, xlg_11_7, xlg_11_8, xls_11_0, xls_11_1, xls_11_2, xls_11_3, xls_11_4, xls_11_5, xls_11_6, xls_11_7, xls_11_8, nF hM hK, nC hM hK, nl_0 hM hK, nl_1 hM hK, nl_2 hM hK, nl_3 hM hK, nl_4 hM hK, nl_5 hM hK, nl_6 hM hK, nl_7 hM hK, nf_0 hM hK, nf_1 hM hK, nf_2 hM hK, nf_3 hM hK, nf_4 hM hK, nf_5 hM hK, nf_6 hM hK, nf_7 hM hK, xll_9, xlg_9_0, xlg_9_1, xlg_9_2, xlg_9_3, xlg_9_4, xlg_9_5, xlg_9_6, xlg_9_7, xlg_9_8, xlg_9_9, xlg_9_10, xlg_9_11, xlg_9_12, xlg_9_13, not_false_eq_true, Nat.reduceLT, Nat.reduceAdd, true_and, and_true, if_true, if_false, ite_true, ite_false, xnb_0, xnb_1, xnb_b, xk_v, xk_n, q0, nge (Nat.le_refl i) (by omega), dgC]
  | succ m ih =>
    intro i u hi
    rw [s_M_digest_141]
    simp only [s_M_digest_143, s_M_digest_144, s_M_digest_147, s_M_digest_150, s_M_digest_153, s_M_digest_154, s_M_digest_157, s_M_digest_158, s_M_digest_159, s_M_digest_161, s_M_digest_163, s_M_digest_166, s_M_digest_167, s_M_digest_168, s_M_digest_169, s_M_digest_172, mF, mC, ml_64, mf_64, mw_63, mw_64, ml_74, mf_74, mw_74, ml_75, mf_75, mw_75, ml_76, mf_76, mw_76, ml_77, mf_77, mw_77, xll_11, xlg_11_0, xlg_11_1, xlg_11_2, xlg_11_3, xlg_11_4, xlg_11_5, xlg_11_6, xlg_11_7, xlg_11_8, xls_11_0, xls_11_1, xls_11_2, xls_11_3, xls_11_4, xls_11_5, xls_11_6, xls_11_7, xls_11_8, nF hM hK, nC hM hK, nl_0 hM hK, nl_1 hM hK, nl_2 hM hK, nl_3 hM hK, nl_4 hM hK, nl_5 hM hK, nl_6 hM hK, nl_7 hM hK, nf_0 hM hK, nf_1 hM hK, nf_2 hM hK, nf_3 hM hK, nf_4 hM hK, nf_5 hM hK, nf_6 hM hK, nf_7 hM hK, xll_9, xlg_9_0, xlg_9_1, xlg_9_2, xlg_9_3, xlg_9_4, xlg_9_5, xlg_9_6, xlg_9_7, xlg_9_8, xlg_9_9, xlg_9_10, xlg_9_11, xlg_9_12, xlg_9_13, not_false_eq_true, Nat.reduceLT, Nat.reduceAdd, true_and, and_true, if_true, if_false, ite_true, ite_false, xnb_0, xnb_1, xnb_b, xk_v, xk_n, q0, nlt (show i < co by omega) (by omega), z, nI_1]
    exact ih (i + 1) _ (by omega)
theorem l3_M_dg (hM : kM H K g q) (hK : mK K) (hT : kTwo b s g q co ro nk nc nn cnt rs re) (ha : bOK a nk) (R : Nat) (j6 : Int32) (j7 : Option Value) : ∀ m i u (j5 : Int32), i + m = ro → ∃ j5' : Int32, ∀ Q,
    xr E (d + 2) m_M_digest Q (126, [some (.ref 63), some (.ref R), some (.long u), some xmk, some (.int (nI i)), some (.int j5), some (.int j6), j7], [], mH H K th sz ea tp (nwO nn a t) kp wc sk) = xr E (d + 2) m_M_digest Q (181, [some (.ref 63), some (.ref R), some (.long (dgR a b t nk co i m u)), some xmk, some (.int (nI ro)), some (.int j5'), some (.int j6), j7], [], mH H K th sz ea tp (nwO nn a t) kp wc sk) := by
  have q1 : q 1 = nI ro := hT.1.2.1.trans hT.2.2.2.1.2.1
  have hro := hT.2.2.2.1.2.2.2.2.2
  intro m
  induction m with
  | zero =>
    intro i u j5 hi
    have e : i = ro := by omega
    subst e
    refine ⟨j5, fun Q => ?_⟩
    rw [s_M_digest_126]
    simp only [s_M_digest_128, s_M_digest_129, s_M_digest_132, s_M_digest_135, mF, mC, ml_64, mf_64, mw_63, mw_64, ml_74, mf_74, mw_74, ml_75, mf_75, mw_75, ml_76, mf_76, mw_76, ml_77, mf_77, mw_77, xll_11, xlg_11_0, xlg_11_1, xlg_11_2, xlg_11_3, xlg_11_4, xlg_11_5, xlg_11_6, xlg_11_7, xlg_11_8, xls_11_0, xls_11_1, xls_11_2, xls_11_3, xls_11_4, xls_11_5, xls_11_6, xls_11_7, xls_11_8, nF hM hK, nC hM hK, nl_0 hM hK, nl_1 hM hK, nl_2 hM hK, nl_3 hM hK, nl_4 hM hK, nl_5 hM hK, nl_6 hM hK, nl_7 hM hK, nf_0 hM hK, nf_1 hM hK, nf_2 hM hK, nf_3 hM hK, nf_4 hM hK, nf_5 hM hK, nf_6 hM hK, nf_7 hM hK, xll_9, xlg_9_0, xlg_9_1, xlg_9_2, xlg_9_3, xlg_9_4, xlg_9_5, xlg_9_6, xlg_9_7, xlg_9_8, xlg_9_9, xlg_9_10, xlg_9_11, xlg_9_12, xlg_9_13, not_false_eq_true, Nat.reduceLT, Nat.reduceAdd, true_and, and_true, if_true, if_false, ite_true, ite_false, xnb_0, xnb_1, xnb_b, xk_v, xk_n, q1, nge (Nat.le_refl i) (by omega), dgR]
  | succ m ih =>
    intro i u j5 hi
    obtain ⟨j5', r⟩ := ih (i + 1) (dgC a b t nk (nI i) 0 co u) (nI co) (by omega)
    have z := fun (Q : xR → Prop) => l2_M_dg (E := E) (d := d) (Q := Q) (th := th) (sz := sz) (ea := ea) (tp := tp) (kp := kp) (wc := wc) (sk := sk) (t := t) hM hK hT ha 0 R (nI i) j6 j7 co 0 u (by omega)
    rw [show nI 0 = (0 : Int32) from rfl] at z
    refine ⟨j5', fun Q => ?_⟩
    rw [s_M_digest_126]
    simp only [s_M_digest_128, s_M_digest_129, s_M_digest_132, s_M_digest_135, s_M_digest_138, s_M_digest_139, mF, mC, ml_64, mf_64, mw_63, mw_64, ml_74, mf_74, mw_74, ml_75, mf_75, mw_75, ml_76, mf_76, mw_76, ml_77, mf_77, mw_77, xll_11, xlg_11_0, xlg_11_1, xlg_11_2, xlg_11_3, xlg_11_4, xlg_11_5, xlg_11_6, xlg_11_7, xlg_11_8, xls_11_0, xls_11_1, xls_11_2, xls_11_3, xls_11_4, xls_11_5, xls_11_6, xls_11_7, xls_11_8, nF hM hK, nC hM hK, nl_0 hM hK, nl_1 hM hK, nl_2 hM hK, nl_3 hM hK, nl_4 hM hK, nl_5 hM hK, nl_6 hM hK, nl_7 hM hK, nf_0 hM hK, nf_1 hM hK, nf_2 hM hK, nf_3 hM hK, nf_4 hM hK, nf_5 hM hK, nf_6 hM hK, nf_7 hM hK, xll_9, xlg_9_0, xlg_9_1, xlg_9_2, xlg_9_3, xlg_9_4, xlg_9_5, xlg_9_6, xlg_9_7, xlg_9_8, xlg_9_9, xlg_9_10, xlg_9_11, xlg_9_12, xlg_9_13, not_false_eq_true, Nat.reduceLT, Nat.reduceAdd, true_and, and_true, if_true, if_false, ite_true, ite_false, xnb_0, xnb_1, xnb_b, xk_v, xk_n, q1, nlt (show i < ro by omega) (by omega), z, s_M_digest_175, s_M_digest_178, nI_1]
    exact r Q
theorem l4_M_dg (hM : kM H K g q) (hK : mK K) (hT : kTwo b s g q co ro nk nc nn cnt rs re) (R : Nat) (j5 j6 : Int32) (j7 : Option Value) : ∀ m i u, i + m = nk →
    xr E (d + 1) m_M_digest Q (184, [some (.ref 63), some (.ref R), some (.long u), some xmk, some (.int (nI i)), some (.int j5), some (.int j6), j7], [], mH H K th sz ea tp (nwO nn a t) kp wc sk) = xr E (d + 1) m_M_digest Q (232, [some (.ref 63), some (.ref R), some (.long (dgK a i m u)), some xmk, some (.int (nI nk)), some (.int j5), some (.int j6), j7], [], mH H K th sz ea tp (nwO nn a t) kp wc sk) := by
  have k6 := hT.1.2.2.2.1
  have q2 : q 2 = nI nk := hT.1.2.2.1
  intro m
  induction m with
  | zero =>
    intro i u hi
    have e : i = nk := by omega
    subst e
    rw [s_M_digest_184]
    simp only [s_M_digest_186, s_M_digest_187, s_M_digest_190, s_M_digest_193, mF, mC, ml_64, mf_64, mw_63, mw_64, ml_74, mf_74, mw_74, ml_75, mf_75, mw_75, ml_76, mf_76, mw_76, ml_77, mf_77, mw_77, xll_11, xlg_11_0, xlg_11_1, xlg_11_2, xlg_11_3, xlg_11_4, xlg_11_5, xlg_11_6, xlg_11_7, xlg_11_8, xls_11_0, xls_11_1, xls_11_2, xls_11_3, xls_11_4, xls_11_5, xls_11_6, xls_11_7, xls_11_8, nF hM hK, nC hM hK, nl_0 hM hK, nl_1 hM hK, nl_2 hM hK, nl_3 hM hK, nl_4 hM hK, nl_5 hM hK, nl_6 hM hK, nl_7 hM hK, nf_0 hM hK, nf_1 hM hK, nf_2 hM hK, nf_3 hM hK, nf_4 hM hK, nf_5 hM hK, nf_6 hM hK, nf_7 hM hK, xll_9, xlg_9_0, xlg_9_1, xlg_9_2, xlg_9_3, xlg_9_4, xlg_9_5, xlg_9_6, xlg_9_7, xlg_9_8, xlg_9_9, xlg_9_10, xlg_9_11, xlg_9_12, xlg_9_13, not_false_eq_true, Nat.reduceLT, Nat.reduceAdd, true_and, and_true, if_true, if_false, ite_true, ite_false, xnb_0, xnb_1, xnb_b, xk_v, xk_n, q2, nge (Nat.le_refl i) (by omega), dgK]
  | succ m ih =>
    intro i u hi
    rw [s_M_digest_184]
    simp only [s_M_digest_186, s_M_digest_187, s_M_digest_190, s_M_digest_193, s_M_digest_196, s_M_digest_197, s_M_digest_200, s_M_digest_201, s_M_digest_202, s_M_digest_204, s_M_digest_205, s_M_digest_208, s_M_digest_209, s_M_digest_210, s_M_digest_211, s_M_digest_212, s_M_digest_215, s_M_digest_216, s_M_digest_217, s_M_digest_219, s_M_digest_220, s_M_digest_223, s_M_digest_224, s_M_digest_225, s_M_digest_226, s_M_digest_229, mF, mC, ml_64, mf_64, mw_63, mw_64, ml_74, mf_74, mw_74, ml_75, mf_75, mw_75, ml_76, mf_76, mw_76, ml_77, mf_77, mw_77, xll_11, xlg_11_0, xlg_11_1, xlg_11_2, xlg_11_3, xlg_11_4, xlg_11_5, xlg_11_6, xlg_11_7, xlg_11_8, xls_11_0, xls_11_1, xls_11_2, xls_11_3, xls_11_4, xls_11_5, xls_11_6, xls_11_7, xls_11_8, nF hM hK, nC hM hK, nl_0 hM hK, nl_1 hM hK, nl_2 hM hK, nl_3 hM hK, nl_4 hM hK, nl_5 hM hK, nl_6 hM hK, nl_7 hM hK, nf_0 hM hK, nf_1 hM hK, nf_2 hM hK, nf_3 hM hK, nf_4 hM hK, nf_5 hM hK, nf_6 hM hK, nf_7 hM hK, xll_9, xlg_9_0, xlg_9_1, xlg_9_2, xlg_9_3, xlg_9_4, xlg_9_5, xlg_9_6, xlg_9_7, xlg_9_8, xlg_9_9, xlg_9_10, xlg_9_11, xlg_9_12, xlg_9_13, not_false_eq_true, Nat.reduceLT, Nat.reduceAdd, true_and, and_true, if_true, if_false, ite_true, ite_false, xnb_0, xnb_1, xnb_b, xk_v, xk_n, q2, nlt (show i < nk by omega) (by omega), c_ke_0 i (show i < 6 by omega), c_ke_1 i (show i < 6 by omega), nw_k0 (show i < 6 by omega), nw_k1 (show i < 6 by omega), nI_1]
    exact ih (i + 1) _ (by omega)
theorem l5_M_dg (hi : v = u) (R c : Nat) (hc : c < nn) (h6 : nn ≤ 6) (j6 : Int32) (j7 : Option Value) :
    xr E (d + 1) m_M_digest Q (250, [some (.ref 63), some (.ref R), some (.long u), some xmk, some (.int (nI c)), some (.int 0), some (.int j6), j7], [], mH H K th sz ea tp (nwO nn a t) kp wc sk) = xr E (d + 1) m_M_digest Q (279, [some (.ref 63), some (.ref R), some (.long (dgS a c u)), some xmk, some (.int (nI c)), some (.int 6), some (.int j6), j7], [], mH H K th sz ea tp (nwO nn a t) kp wc sk) := by
  rw [s_M_digest_250]
  simp only [s_M_digest_252, s_M_digest_254, s_M_digest_257, s_M_digest_258, s_M_digest_261, s_M_digest_262, s_M_digest_263, s_M_digest_265, s_M_digest_267, s_M_digest_270, s_M_digest_271, s_M_digest_272, s_M_digest_273, s_M_digest_276, mF, mC, ml_64, mf_64, mw_63, mw_64, ml_74, mf_74, mw_74, ml_75, mf_75, mw_75, ml_76, mf_76, mw_76, ml_77, mf_77, mw_77, xll_11, xlg_11_0, xlg_11_1, xlg_11_2, xlg_11_3, xlg_11_4, xlg_11_5, xlg_11_6, xlg_11_7, xlg_11_8, xls_11_0, xls_11_1, xls_11_2, xls_11_3, xls_11_4, xls_11_5, xls_11_6, xls_11_7, xls_11_8, not_false_eq_true, Nat.reduceLT, Nat.reduceAdd, true_and, and_true, if_true, if_false, ite_true, ite_false, xnb_0, xnb_1, xnb_b, xk_v, xk_n, show ((0 : Int32) < 6) = True from eq_true (by decide), c_cl_0 c (show c < 6 by omega), nw_c0 hc, show (0 : Int32) + 1 = 1 from rfl]
  rw [s_M_digest_250]
  simp only [s_M_digest_252, s_M_digest_254, s_M_digest_257, s_M_digest_258, s_M_digest_261, s_M_digest_262, s_M_digest_263, s_M_digest_265, s_M_digest_267, s_M_digest_270, s_M_digest_271, s_M_digest_272, s_M_digest_273, s_M_digest_276, mF, mC, ml_64, mf_64, mw_63, mw_64, ml_74, mf_74, mw_74, ml_75, mf_75, mw_75, ml_76, mf_76, mw_76, ml_77, mf_77, mw_77, xll_11, xlg_11_0, xlg_11_1, xlg_11_2, xlg_11_3, xlg_11_4, xlg_11_5, xlg_11_6, xlg_11_7, xlg_11_8, xls_11_0, xls_11_1, xls_11_2, xls_11_3, xls_11_4, xls_11_5, xls_11_6, xls_11_7, xls_11_8, not_false_eq_true, Nat.reduceLT, Nat.reduceAdd, true_and, and_true, if_true, if_false, ite_true, ite_false, xnb_0, xnb_1, xnb_b, xk_v, xk_n, show ((1 : Int32) < 6) = True from eq_true (by decide), c_cl_1 c (show c < 6 by omega), nw_c1 hc, show (1 : Int32) + 1 = 2 from rfl]
  rw [s_M_digest_250]
  simp only [s_M_digest_252, s_M_digest_254, s_M_digest_257, s_M_digest_258, s_M_digest_261, s_M_digest_262, s_M_digest_263, s_M_digest_265, s_M_digest_267, s_M_digest_270, s_M_digest_271, s_M_digest_272, s_M_digest_273, s_M_digest_276, mF, mC, ml_64, mf_64, mw_63, mw_64, ml_74, mf_74, mw_74, ml_75, mf_75, mw_75, ml_76, mf_76, mw_76, ml_77, mf_77, mw_77, xll_11, xlg_11_0, xlg_11_1, xlg_11_2, xlg_11_3, xlg_11_4, xlg_11_5, xlg_11_6, xlg_11_7, xlg_11_8, xls_11_0, xls_11_1, xls_11_2, xls_11_3, xls_11_4, xls_11_5, xls_11_6, xls_11_7, xls_11_8, not_false_eq_true, Nat.reduceLT, Nat.reduceAdd, true_and, and_true, if_true, if_false, ite_true, ite_false, xnb_0, xnb_1, xnb_b, xk_v, xk_n, show ((2 : Int32) < 6) = True from eq_true (by decide), c_cl_2 c (show c < 6 by omega), nw_c2 hc, show (2 : Int32) + 1 = 3 from rfl]
  rw [s_M_digest_250]
  simp only [s_M_digest_252, s_M_digest_254, s_M_digest_257, s_M_digest_258, s_M_digest_261, s_M_digest_262, s_M_digest_263, s_M_digest_265, s_M_digest_267, s_M_digest_270, s_M_digest_271, s_M_digest_272, s_M_digest_273, s_M_digest_276, mF, mC, ml_64, mf_64, mw_63, mw_64, ml_74, mf_74, mw_74, ml_75, mf_75, mw_75, ml_76, mf_76, mw_76, ml_77, mf_77, mw_77, xll_11, xlg_11_0, xlg_11_1, xlg_11_2, xlg_11_3, xlg_11_4, xlg_11_5, xlg_11_6, xlg_11_7, xlg_11_8, xls_11_0, xls_11_1, xls_11_2, xls_11_3, xls_11_4, xls_11_5, xls_11_6, xls_11_7, xls_11_8, not_false_eq_true, Nat.reduceLT, Nat.reduceAdd, true_and, and_true, if_true, if_false, ite_true, ite_false, xnb_0, xnb_1, xnb_b, xk_v, xk_n, show ((3 : Int32) < 6) = True from eq_true (by decide), c_cl_3 c (show c < 6 by omega), nw_c3 hc, show (3 : Int32) + 1 = 4 from rfl]
  rw [s_M_digest_250]
  simp only [s_M_digest_252, s_M_digest_254, s_M_digest_257, s_M_digest_258, s_M_digest_261, s_M_digest_262, s_M_digest_263, s_M_digest_265, s_M_digest_267, s_M_digest_270, s_M_digest_271, s_M_digest_272, s_M_digest_273, s_M_digest_276, mF, mC, ml_64, mf_64, mw_63, mw_64, ml_74, mf_74, mw_74, ml_75, mf_75, mw_75, ml_76, mf_76, mw_76, ml_77, mf_77, mw_77, xll_11, xlg_11_0, xlg_11_1, xlg_11_2, xlg_11_3, xlg_11_4, xlg_11_5, xlg_11_6, xlg_11_7, xlg_11_8, xls_11_0, xls_11_1, xls_11_2, xls_11_3, xls_11_4, xls_11_5, xls_11_6, xls_11_7, xls_11_8, not_false_eq_true, Nat.reduceLT, Nat.reduceAdd, true_and, and_true, if_true, if_false, ite_true, ite_false, xnb_0, xnb_1, xnb_b, xk_v, xk_n, show ((4 : Int32) < 6) = True from eq_true (by decide), c_cl_4 c (show c < 6 by omega), nw_c4 hc, show (4 : Int32) + 1 = 5 from rfl]
  rw [s_M_digest_250]
  simp only [s_M_digest_252, s_M_digest_254, s_M_digest_257, s_M_digest_258, s_M_digest_261, s_M_digest_262, s_M_digest_263, s_M_digest_265, s_M_digest_267, s_M_digest_270, s_M_digest_271, s_M_digest_272, s_M_digest_273, s_M_digest_276, mF, mC, ml_64, mf_64, mw_63, mw_64, ml_74, mf_74, mw_74, ml_75, mf_75, mw_75, ml_76, mf_76, mw_76, ml_77, mf_77, mw_77, xll_11, xlg_11_0, xlg_11_1, xlg_11_2, xlg_11_3, xlg_11_4, xlg_11_5, xlg_11_6, xlg_11_7, xlg_11_8, xls_11_0, xls_11_1, xls_11_2, xls_11_3, xls_11_4, xls_11_5, xls_11_6, xls_11_7, xls_11_8, not_false_eq_true, Nat.reduceLT, Nat.reduceAdd, true_and, and_true, if_true, if_false, ite_true, ite_false, xnb_0, xnb_1, xnb_b, xk_v, xk_n, show ((5 : Int32) < 6) = True from eq_true (by decide), c_cl_5 c (show c < 6 by omega), nw_c5 hc, show (5 : Int32) + 1 = 6 from rfl]
  rw [s_M_digest_250]
  simp only [s_M_digest_252, s_M_digest_254, mF, mC, ml_64, mf_64, mw_63, mw_64, ml_74, mf_74, mw_74, ml_75, mf_75, mw_75, ml_76, mf_76, mw_76, ml_77, mf_77, mw_77, xll_11, xlg_11_0, xlg_11_1, xlg_11_2, xlg_11_3, xlg_11_4, xlg_11_5, xlg_11_6, xlg_11_7, xlg_11_8, xls_11_0, xls_11_1, xls_11_2, xls_11_3, xls_11_4, xls_11_5, xls_11_6, xls_11_7, xls_11_8, not_false_eq_true, Nat.reduceLT, Nat.reduceAdd, true_and, and_true, if_true, if_false, ite_true, ite_false, xnb_0, xnb_1, xnb_b, xk_v, xk_n, show ((6 : Int32) < 6) = False from eq_false (by decide)]
  rfl
theorem l6_M_dg (hM : kM H K g q) (hK : mK K) (hT : kTwo b s g q co ro nk nc nn cnt rs re) (hS : kSt a t co ro nk nn n) (m0 k0 : Nat → Int32) (R : Nat) (j6 : Int32) (j7 : Option Value) : ∀ m i u (j5 : Int32) (f : Nat → Int32), i + m = nn → ∃ f', ∀ Q,
    xr E (d + 7) m_M_digest Q (235, [some (.ref 63), some (.ref R), some (.long u), some xmk, some (.int (nI i)), some (.int j5), some (.int j6), j7], [], mH H K th sz ea tp (nwO nn a t) kp wc f) = Q (.inl (some (.long (dgP a (fun c => tvC a b t s nk rs re c m0 k0) i m u))), mH H K th sz ea tp (nwO nn a t) kp wc f') := by
  have h6 := hT.2.1.2.1
  have q4 := hT.2.1.1
  intro m
  induction m with
  | zero =>
    intro i u j5 f hi
    refine ⟨f, fun Q => ?_⟩
    rw [s_M_digest_235]
    simp only [s_M_digest_237, s_M_digest_238, s_M_digest_241, s_M_digest_244, s_M_digest_299, s_M_digest_300, mF, mC, ml_64, mf_64, mw_63, mw_64, ml_74, mf_74, mw_74, ml_75, mf_75, mw_75, ml_76, mf_76, mw_76, ml_77, mf_77, mw_77, xll_11, xlg_11_0, xlg_11_1, xlg_11_2, xlg_11_3, xlg_11_4, xlg_11_5, xlg_11_6, xlg_11_7, xlg_11_8, xls_11_0, xls_11_1, xls_11_2, xls_11_3, xls_11_4, xls_11_5, xls_11_6, xls_11_7, xls_11_8, nF hM hK, nC hM hK, nl_0 hM hK, nl_1 hM hK, nl_2 hM hK, nl_3 hM hK, nl_4 hM hK, nl_5 hM hK, nl_6 hM hK, nl_7 hM hK, nf_0 hM hK, nf_1 hM hK, nf_2 hM hK, nf_3 hM hK, nf_4 hM hK, nf_5 hM hK, nf_6 hM hK, nf_7 hM hK, xll_9, xlg_9_0, xlg_9_1, xlg_9_2, xlg_9_3, xlg_9_4, xlg_9_5, xlg_9_6, xlg_9_7, xlg_9_8, xlg_9_9, xlg_9_10, xlg_9_11, xlg_9_12, xlg_9_13, not_false_eq_true, Nat.reduceLT, Nat.reduceAdd, true_and, and_true, if_true, if_false, ite_true, ite_false, xnb_0, xnb_1, xnb_b, xk_v, xk_n, q4, nge (show nn ≤ i by omega) (by omega), dgP]
  | succ m ih =>
    intro i u j5 f hi
    obtain ⟨f1, r1⟩ := g_M_rule (E := E) (d := d) (th := th) (sz := sz) (ea := ea) (tp := tp) (kp := kp) (wc := wc) (sk := k0) hM hK hT hS (show i < nn by omega) m0 f
    obtain ⟨f2, r2⟩ := ih (i + 1) (dg (dgS a i u) (tvC a b t s nk rs re i m0 k0)) 6 f1 (by omega)
    have z := fun (Q : xR → Prop) => l5_M_dg (E := E) (d := d + 6) (Q := Q) (H := H) (K := K) (th := th) (sz := sz) (ea := ea) (tp := tp) (kp := kp) (wc := wc) (sk := f) (a := a) (t := t) (u := u) rfl R i (show i < nn by omega) h6 j6 j7
    refine ⟨f2, fun Q => ?_⟩
    rw [s_M_digest_235]
    simp only [s_M_digest_237, s_M_digest_238, s_M_digest_241, s_M_digest_244, s_M_digest_247, s_M_digest_248, mF, mC, ml_64, mf_64, mw_63, mw_64, ml_74, mf_74, mw_74, ml_75, mf_75, mw_75, ml_76, mf_76, mw_76, ml_77, mf_77, mw_77, xll_11, xlg_11_0, xlg_11_1, xlg_11_2, xlg_11_3, xlg_11_4, xlg_11_5, xlg_11_6, xlg_11_7, xlg_11_8, xls_11_0, xls_11_1, xls_11_2, xls_11_3, xls_11_4, xls_11_5, xls_11_6, xls_11_7, xls_11_8, nF hM hK, nC hM hK, nl_0 hM hK, nl_1 hM hK, nl_2 hM hK, nl_3 hM hK, nl_4 hM hK, nl_5 hM hK, nl_6 hM hK, nl_7 hM hK, nf_0 hM hK, nf_1 hM hK, nf_2 hM hK, nf_3 hM hK, nf_4 hM hK, nf_5 hM hK, nf_6 hM hK, nf_7 hM hK, xll_9, xlg_9_0, xlg_9_1, xlg_9_2, xlg_9_3, xlg_9_4, xlg_9_5, xlg_9_6, xlg_9_7, xlg_9_8, xlg_9_9, xlg_9_10, xlg_9_11, xlg_9_12, xlg_9_13, not_false_eq_true, Nat.reduceLT, Nat.reduceAdd, true_and, and_true, if_true, if_false, ite_true, ite_false, xnb_0, xnb_1, xnb_b, xk_v, xk_n, q4, nlt (show i < nn by omega) (by omega), z, s_M_digest_279, s_M_digest_280, s_M_digest_283, s_M_digest_284, s_M_digest_285, s_M_digest_287, s_M_digest_290, s_M_digest_291, s_M_digest_292, s_M_digest_293, s_M_digest_296, r1, nI_1]
    exact r2 Q
theorem c_M_digest (hM : kM H K g q) (hK : mK K) (hR : 77 < H.2.1) (hR2 : K + 8 < H.2.1) (hT : kTwo b s g q co ro nk nc nn cnt rs re) (hS : kSt a t co ro nk nn n) (m0 k0 f : Nat → Int32) : ∃ f', ∀ Q,
    xcall E xprog (d + 8) 218 [.ref 63] (mH H K th sz ea tp (nwO nn a t) kp wc f) Q = Q (.inl (some (.long (dgV a b t co ro nk nn (fun c => tvC a b t s nk rs re c m0 k0)))), mH (xnew H (xarI 7 (d7 co ro nk nn t)) 7) K 0 sz ea tp (nwO nn a t) kp wc f') := by
  obtain ⟨h1, h2, h3, ⟨e1, e2, e3, e4, e5, e6⟩, _⟩ := id hT
  have q0 : q 0 = nI co := h1.1.trans e1
  have q1 : q 1 = nI ro := h1.2.1.trans e2
  have q2 : q 2 = nI nk := h1.2.2.1
  have q4 : q 4 = nI nn := h2.1
  have hM2 : kM (xnew H (xarI 7 (d7 co ro nk nn t)) 7) K g q := kM_n1 hM hR2
  have hal : ∀ (Q : xR → Prop) ls, xr E (d + 7) m_M_digest Q (87, ls, [.ref H.2.1], mH (xnew H (xarI 7 (d7 co ro nk nn t)) 7) K 0 sz ea tp (nwO nn a t) kp wc f) = xr E (d + 7) m_M_digest Q (88, ls, [.int 7], mH (xnew H (xarI 7 (d7 co ro nk nn t)) 7) K 0 sz ea tp (nwO nn a t) kp wc f) := fun Q ls => xr_len (y := m_M_digest) (pc := 87) rfl (xlen_of (mH_g1 hR))
  obtain ⟨j7, u1, r1, r1'⟩ := l1_M_dg (E := E) (d := d + 7) (K := K) (th := 0) (sz := sz) (ea := ea) (tp := tp) (nn := nn) (a := a) (t := t) (kp := kp) (wc := wc) (sk := f) hR (f7 := d7 co ro nk nn t) 7 0 1901 none (by omega)
  have e7 : u1 = dg0 co ro nk nn t := r1'
  subst e7
  obtain ⟨j5, r3⟩ := l3_M_dg (E := E) (d := d + 5) (th := 0) (sz := sz) (ea := ea) (tp := tp) (kp := kp) (wc := wc) (sk := f) (t := t) hM2 hK hT (kSt_b hS) H.2.1 (nI 7) j7 ro 0 (dg0 co ro nk nn t) 7 (by omega)
  have r4 := fun (Q : xR → Prop) => l4_M_dg (E := E) (d := d + 6) (Q := Q) (th := 0) (sz := sz) (ea := ea) (tp := tp) (kp := kp) (wc := wc) (sk := f) (a := a) (t := t) hM2 hK hT H.2.1 j5 (nI 7) j7 nk 0 (dgR a b t nk co 0 ro (dg0 co ro nk nn t)) (by omega)
  obtain ⟨f', r6⟩ := l6_M_dg (E := E) (d := d) (th := 0) (sz := sz) (ea := ea) (tp := tp) (kp := kp) (wc := wc) hM2 hK hT hS m0 k0 H.2.1 (nI 7) j7 nn 0 (dgK a 0 nk (dgR a b t nk co 0 ro (dg0 co ro nk nn t))) j5 f (by omega)
  rw [show nI 0 = (0 : Int32) from rfl] at r1 r3 r4 r6
  refine ⟨f', fun Q => ?_⟩
  have hfin : xr E (d + 7) m_M_digest Q (78, [some (.ref 63), some (.ref H.2.1), none, none, none, none, none, none], [], mH (xnew H (xarI 7 (d7 co ro nk nn t)) 7) K 0 sz ea tp (nwO nn a t) kp wc f) = Q (.inl (some (.long (dgV a b t co ro nk nn (fun c => tvC a b t s nk rs re c m0 k0)))), mH (xnew H (xarI 7 (d7 co ro nk nn t)) 7) K 0 sz ea tp (nwO nn a t) kp wc f') := by
    simp only [s_M_digest_78, s_M_digest_81, s_M_digest_82, s_M_digest_83, s_M_digest_85, hal, s_M_digest_88, s_M_digest_90, s_M_digest_91, r1, s_M_digest_123, s_M_digest_124]
    refine (r3 Q).trans ?_
    simp only [s_M_digest_181, s_M_digest_182, r4, s_M_digest_232, s_M_digest_233]
    exact r6 Q
  rw [e_M_digest]
  simp only [s_M_digest_0, s_M_digest_1, s_M_digest_2, s_M_digest_5, s_M_digest_7, s_M_digest_9, s_M_digest_10, s_M_digest_11, s_M_digest_12, s_M_digest_15, s_M_digest_18, s_M_digest_19, s_M_digest_20, s_M_digest_21, s_M_digest_22, s_M_digest_25, s_M_digest_28, s_M_digest_29, s_M_digest_30, s_M_digest_31, s_M_digest_32, s_M_digest_35, s_M_digest_38, s_M_digest_39, s_M_digest_40, s_M_digest_41, s_M_digest_42, s_M_digest_45, s_M_digest_48, s_M_digest_49, s_M_digest_50, s_M_digest_51, s_M_digest_52, s_M_digest_55, s_M_digest_56, s_M_digest_57, s_M_digest_58, s_M_digest_59, s_M_digest_60, s_M_digest_61, s_M_digest_64, s_M_digest_65, s_M_digest_66, s_M_digest_67, s_M_digest_68, s_M_digest_70, s_M_digest_71, s_M_digest_74, s_M_digest_75, s_M_digest_76, s_M_digest_77, mF, mC, ml_64, mf_64, mw_63, mw_64, ml_74, mf_74, mw_74, ml_75, mf_75, mw_75, ml_76, mf_76, mw_76, ml_77, mf_77, mw_77, xll_11, xlg_11_0, xlg_11_1, xlg_11_2, xlg_11_3, xlg_11_4, xlg_11_5, xlg_11_6, xlg_11_7, xlg_11_8, xls_11_0, xls_11_1, xls_11_2, xls_11_3, xls_11_4, xls_11_5, xls_11_6, xls_11_7, xls_11_8, nF hM hK, nC hM hK, nl_0 hM hK, nl_1 hM hK, nl_2 hM hK, nl_3 hM hK, nl_4 hM hK, nl_5 hM hK, nl_6 hM hK, nl_7 hM hK, nf_0 hM hK, nf_1 hM hK, nf_2 hM hK, nf_3 hM hK, nf_4 hM hK, nf_5 hM hK, nf_6 hM hK, nf_7 hM hK, xll_9, xlg_9_0, xlg_9_1, xlg_9_2, xlg_9_3, xlg_9_4, xlg_9_5, xlg_9_6, xlg_9_7, xlg_9_8, xlg_9_9, xlg_9_10, xlg_9_11, xlg_9_12, xlg_9_13, not_false_eq_true, Nat.reduceLT, Nat.reduceAdd, true_and, and_true, if_true, if_false, ite_true, ite_false, xnb_0, xnb_1, xnb_b, xk_v, xk_n, show ((7 : Int32) < 0) = False from eq_false (by decide), show (0 : Int32).toNatClampNeg = 0 from rfl, show (1 : Int32).toNatClampNeg = 1 from rfl, show (2 : Int32).toNatClampNeg = 2 from rfl, show (3 : Int32).toNatClampNeg = 3 from rfl, show (4 : Int32).toNatClampNeg = 4 from rfl, show (5 : Int32).toNatClampNeg = 5 from rfl, show (6 : Int32).toNatClampNeg = 6 from rfl, show (7 : Int32).toNatClampNeg = 7 from rfl, show (7 * 4 ≤ 536870912) = True from eq_true (by decide), mH_21, mH_n1 hR, mH_w1 hR, mH_l1 hR, mH_f1 hR, nF (kM_n1 hM hR2) hK, nC (kM_n1 hM hR2) hK, q0, q1, q2, q4, show vp_in (0 : Int32) 7 = True from nvp (i := 0) (by omega) (by omega), show vp_in (1 : Int32) 7 = True from nvp (i := 1) (by omega) (by omega), show vp_in (2 : Int32) 7 = True from nvp (i := 2) (by omega) (by omega), show vp_in (3 : Int32) 7 = True from nvp (i := 3) (by omega) (by omega), show vp_in (4 : Int32) 7 = True from nvp (i := 4) (by omega) (by omega), show vp_in (5 : Int32) 7 = True from nvp (i := 5) (by omega) (by omega), show vp_in (6 : Int32) 7 = True from nvp (i := 6) (by omega) (by omega), show vp_in (0 : Int32) 51 = True from nvp (i := 0) (by omega) (by omega), show vp_in (1 : Int32) 51 = True from nvp (i := 1) (by omega) (by omega), show vp_in (2 : Int32) 51 = True from nvp (i := 2) (by omega) (by omega), nw_0, nw_1, nw_2]
  exact hfin
theorem st_digest (hI : IV n X) : ∃ (v : Int64) (X1 X2 : xH), (∀ Q, xcall E xprog (d + 8) 106 [.ref 0] X Q = Q (.inl (some (.long v)), X1)) ∧ (∀ Q, xcall E xprog (d + 8) 218 [.ref 63] X1 Q = Q (.inl (some (.long v)), X2)) ∧ IVk n 0 X2 ∧ X2.2 = (X.2.1 + 1, X.2.2 + 7) := by
  obtain ⟨Kb, Ks, K, l, ep, th, T, tp, b, nm, s, a, t, g, q, co, ro, nk, nc, nn, cnt, rs, re, hD⟩ := hI
  obtain ⟨hc, hKK, _, hB, _, hY, ⟨ms, sk, hh, hTT⟩, _⟩ := id hD.1
  have h2 := hD.2.2.2.2.1
  have hS := hD.2.2.2.2.2
  have hW := h2.2.2.1
  have hR : kRk b s g q nk := h2.1
  have hs : s 4 = nI nn := hW.2.2.2.2.1
  have hk : s 2 = nI nk := hW.1
  have h6 : nn ≤ 6 := hW.2.2.2.2.2.1
  have k6 : nk ≤ 6 := hW.2.1
  have x0 := x0_of hc
  have hX := sH_of hY hTT
  obtain ⟨f, hf⟩ := hD.2.1.2.2.2.2.2
  have h78 := hD.2.1.2.2.2.2.1
  obtain ⟨ms', sk', h', z⟩ := c_T_digest (E := E) (d := d + 2) hc hB (by omega) hY hTT h2 ms sk
  have e : ∀ m, 63 ≤ m → m < X.2.1 → (sH X 43 Kb a t ms' sk' h').1 m = X.1 m := fun m h1 _ => sH_o (by omega) m (by omega)
  obtain ⟨⟨kp, wc, msk, m1⟩, m2, m3, m4⟩ := ivD_go (X1 := sH X 43 Kb a t ms' sk' h') (a' := a) (t' := t) (f := f) hD (ivC_sH hD.1) (fun m h1 h2 h3 => e m h1 h2) ((e 78 (by omega) h78).trans hf) (Nat.le_refl _)
  have hD1 := m4 n th kp wc msk hS
  rw [← m1] at hD1
  obtain ⟨f', r⟩ := c_M_digest (E := E) (d := d) (H := sH X 43 Kb a t ms' sk' h') (th := th) (sz := nI l) (ea := ep) (tp := tp) (kp := kp) (wc := wc) m2 m3 (show 77 < X.2.1 by omega) (show K + 8 < X.2.1 from hD.2.1.2.2.2.1) h2 hS ms sk msk
  obtain ⟨kp2, wc2, sk2, n1, n2⟩ := ivD_th (ivD_new (c := xarI 7 (d7 co ro nk nn t)) (k := 7) hD1)
  refine ⟨_, _, _, z, fun Q => (congrArg (fun Z => xcall E xprog (d + 8) 218 [.ref 63] Z Q) m1).trans (r Q), ⟨Kb, Ks, K, l, ep, T, tp, b, nm, s, a, t, g, q, co, ro, nk, nc, nn, cnt, rs, re, n2 0 kp wc f'⟩, rfl⟩
end DIGEST
