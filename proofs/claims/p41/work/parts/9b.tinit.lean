/-! ===== the tokens' words; the reader ===== -/
section TINIT
variable {E : xE} {d : Nat} {Q : xR → Prop} {H Y : xH} {R t : Nat}
abbrev wst := Nat × Int64 × (Nat → Int64)
def twS (c : Int32) (p : wst) : wst := if c = 32 then (if p.1 < 26 then (p.1 + 1, 0, vp_updL p.2.2 p.1 p.2.1) else p) else (p.1, p.2.1 * 32 + (c &&& 31).toInt64, p.2.2)
def twW : Nat → Nat → wst → wst
  | _, 0, p => p
  | j, m + 1, p => twW (j + 1) m (twS (tch 26 j) p)
def iTo (H : xH) (R t : Nat) (f : Nat → Int64) : xH := xnew (xnew (xnew (xnew (xnew H (.inr (7, [.ref t, .ref (R + 1), .ref (R + 2), .ref (R + 3), .ref (R + 4), .int 0, .int 0])) 7) (xarJ 26 f) 26) (xarI 401 (fun _ => 0)) 401) (xarI 401 (fun _ => 0)) 401) (xarJ 401 (fun _ => 0)) 401
theorem iTo_g (hR : H.2.1 = R) {f : Nat → Int64} : (iTo H R t f).1 (R + 1) = xarJ 26 f := by
  subst hR
  unfold iTo
  simp only [xnew_g, xnew_n]
  rw [if_neg (by omega), if_neg (by omega), if_neg (by omega), if_pos trivial]
theorem iTo_0 (hR : H.2.1 = R) {f : Nat → Int64} : (iTo H R t f).1 R = .inr (7, [.ref t, .ref (R + 1), .ref (R + 2), .ref (R + 3), .ref (R + 4), .int 0, .int 0]) := by
  subst hR
  unfold iTo
  simp only [xnew_g, xnew_n]
  rw [if_neg (by omega), if_neg (by omega), if_neg (by omega), if_neg (by omega), if_pos trivial]
theorem iTo_w (hR : H.2.1 = R) {f f' : Nat → Int64} : xset (iTo H R t f) (R + 1) (xarJ 26 f') = iTo H R t f' := by
  subst hR
  unfold iTo
  rw [xnw_o _ (by simp only [xnew_n]; omega), xnw_o _ (by simp only [xnew_n]; omega), xnw_o _ (by simp only [xnew_n]; omega), xnw_s _ (by simp only [xnew_n])]
theorem l_To_init (hR : H.2.1 = R) : ∀ m j (p : wst) (j6 : Option Value), j + m = tln 26 → p.1 ≤ 26 → xr E (d + 4) m_To_init Q (51, [some (.ref R), some (.ref t), some (.int (nI p.1)), some (.long p.2.1), some xmk, some (.int (nI j)), j6], [], iTo H R t p.2.2) = Q (.inl none, iTo H R t (twW j m p).2.2) := by
  have hl : tln 26 ≤ 200 := (tx_ok 26 (by decide)).1
  have l1 : ∀ (Q : xR → Prop) (Z : xH), xcall E xprog (d + 4) 136 [.retAddr 152] Z Q = Q (.inl (some (.int (nI (tln 26)))), Z) := fun Q Z => f_JS_length (d := d + 2) (i := 26) (by decide)
  have l2 : ∀ (Q : xR → Prop) (Z : xH) (j : Nat), j < tln 26 → xcall E xprog (d + 4) 137 [.retAddr 152, .int (nI j)] Z Q = Q (.inl (some (.int (tch 26 j))), Z) := fun Q Z j hj => f_JS_charAt (i := 26) (by decide) hj
  have l3 : (∃ i, xisT 152 = some i) = True := eq_true ⟨26, xT_i (i := 26) (by decide)⟩
  intro m
  induction m with
  | zero =>
    intro j p j6 hj hp
    rw [s_To_init_51]
    simp only [s_To_init_53, s_To_init_55, s_To_init_58, s_To_init_111, not_false_eq_true, Nat.reduceLT, Nat.reduceAdd, true_and, and_true, if_true, if_false, ite_true, ite_false, xnb_0, xnb_1, xnb_b, xk_v, xk_n, l1, l3, nge (show tln 26 ≤ j by omega) (by omega), twW]
  | succ m ih =>
    intro j p j6 hj hp
    have l4 := fun (Q : xR → Prop) (Z : xH) => l2 Q Z j (by omega)
    rw [s_To_init_51]
    by_cases c : tch 26 j = 32
    · by_cases w : p.1 < 26
      · have e : twS (tch 26 j) p = (p.1 + 1, 0, vp_updL p.2.2 p.1 p.2.1) := (if_pos c).trans (if_pos w)
        simp only [s_To_init_53, s_To_init_55, s_To_init_58, s_To_init_61, s_To_init_63, s_To_init_65, s_To_init_68, s_To_init_70, s_To_init_72, s_To_init_74, s_To_init_77, s_To_init_78, s_To_init_80, s_To_init_83, s_To_init_84, s_To_init_87, s_To_init_88, s_To_init_90, s_To_init_93, s_To_init_94, s_To_init_97, s_To_init_98, s_To_init_99, s_To_init_100, s_To_init_103, s_To_init_104, s_To_init_105, s_To_init_108, not_false_eq_true, Nat.reduceLT, Nat.reduceAdd, true_and, and_true, if_true, if_false, ite_true, ite_false, xnb_0, xnb_1, xnb_b, xk_v, xk_n, l1, l3, l4, nlt (show j < tln 26 by omega) (by omega), eq_true c, show (nI p.1 < 26) = True from eq_true (by rw [show (26 : Int32) = nI 26 from rfl, n_lt (by omega) (by omega)]; exact w), xf_of (iTo_0 hR), xll_7, xlg_7_0, xlg_7_1, xlg_7_2, xlg_7_3, xlg_7_4, xlg_7_5, xlg_7_6, xJl_of (iTo_g hR), xJf_of (iTo_g hR), nvp (show p.1 < 26 by omega) (by omega), ncl (show p.1 < 2147483648 by omega), iTo_w hR, nI_1]
        refine (ih (j + 1) (p.1 + 1, 0, vp_updL p.2.2 p.1 p.2.1) _ (by omega) w).trans ?_
        simp only [twW, e]
      · have e : twS (tch 26 j) p = p := (if_pos c).trans (if_neg w)
        simp only [s_To_init_53, s_To_init_55, s_To_init_58, s_To_init_61, s_To_init_63, s_To_init_65, s_To_init_68, s_To_init_70, s_To_init_72, s_To_init_74, s_To_init_77, s_To_init_78, s_To_init_80, s_To_init_83, s_To_init_84, s_To_init_87, s_To_init_88, s_To_init_90, s_To_init_93, s_To_init_94, s_To_init_97, s_To_init_98, s_To_init_99, s_To_init_100, s_To_init_103, s_To_init_104, s_To_init_105, s_To_init_108, not_false_eq_true, Nat.reduceLT, Nat.reduceAdd, true_and, and_true, if_true, if_false, ite_true, ite_false, xnb_0, xnb_1, xnb_b, xk_v, xk_n, l1, l3, l4, nlt (show j < tln 26 by omega) (by omega), eq_true c, show (nI p.1 < 26) = False from eq_false (by rw [show (26 : Int32) = nI 26 from rfl, n_lt (by omega) (by omega)]; exact w), nI_1]
        refine (ih (j + 1) p _ (by omega) hp).trans ?_
        simp only [twW, e]
    · have e : twS (tch 26 j) p = (p.1, p.2.1 * 32 + (tch 26 j &&& 31).toInt64, p.2.2) := if_neg c
      simp only [s_To_init_53, s_To_init_55, s_To_init_58, s_To_init_61, s_To_init_63, s_To_init_65, s_To_init_68, s_To_init_70, s_To_init_72, s_To_init_74, s_To_init_77, s_To_init_78, s_To_init_80, s_To_init_83, s_To_init_84, s_To_init_87, s_To_init_88, s_To_init_90, s_To_init_93, s_To_init_94, s_To_init_97, s_To_init_98, s_To_init_99, s_To_init_100, s_To_init_103, s_To_init_104, s_To_init_105, s_To_init_108, not_false_eq_true, Nat.reduceLT, Nat.reduceAdd, true_and, and_true, if_true, if_false, ite_true, ite_false, xnb_0, xnb_1, xnb_b, xk_v, xk_n, l1, l3, l4, nlt (show j < tln 26 by omega) (by omega), eq_false c, f_To_wordWith, nI_1]
      refine (ih (j + 1) (p.1, p.2.1 * 32 + (tch 26 j &&& 31).toInt64, p.2.2) _ (by omega) hp).trans ?_
      simp only [twW, e]
def wd0 : Nat → Int64 := (twW 0 (tln 26) (0, 0, fun _ => 0)).2.2
theorem f_To_init (hR : H.2.1 = R) : xcall E xprog (d + 5) 52 [.ref R, .ref t] (xnew H (.inr (7, xdef 7)) 7) Q = Q (.inl none, iTo H R t wd0) := by
  have z := fun (Q : xR → Prop) => l_To_init (E := E) (d := d) (Q := Q) (H := H) (t := t) rfl (tln 26) 0 (0, 0, fun _ => 0) none (by omega) (by omega)
  rw [show nI 0 = (0 : Int32) from rfl] at z
  unfold iTo at z
  rw [e_To_init]
  subst hR
  simp (disch := (first | omega | (simp only [xnew_n, xset_2]; done) | (simp only [xnew_n, xset_2]; omega))) only [s_To_init_0, s_To_init_1, s_To_init_4, s_To_init_5, s_To_init_6, s_To_init_9, s_To_init_10, s_To_init_12, s_To_init_14, s_To_init_17, s_To_init_18, s_To_init_21, s_To_init_23, s_To_init_26, s_To_init_27, s_To_init_30, s_To_init_32, s_To_init_35, s_To_init_36, s_To_init_39, s_To_init_41, s_To_init_44, s_To_init_45, s_To_init_46, s_To_init_47, s_To_init_48, s_To_init_49, xdef_7, xnw_s, xnw_o, xnf_s, xnf_o, xnc_s, xnc_o, xnew_n, xset_2, not_false_eq_true, Nat.reduceLT, Nat.reduceAdd, true_and, and_true, if_true, if_false, ite_true, ite_false, xnb_0, xnb_1, xnb_b, xk_v, xk_n, Nat.add_assoc, xll_7, xlg_7_0, xlg_7_1, xlg_7_2, xlg_7_3, xlg_7_4, xlg_7_5, xlg_7_6, xls_7_0, xls_7_1, xls_7_2, xls_7_3, xls_7_4, xls_7_5, xls_7_6, show (¬ (26 : Int32) < 0 ∧ 26 * 8 ≤ 536870912) = True from eq_true (by decide), show (¬ (401 : Int32) < 0 ∧ 401 * 4 ≤ 536870912) = True from eq_true (by decide), show (¬ (401 : Int32) < 0 ∧ 401 * 8 ≤ 536870912) = True from eq_true (by decide), show (26 : Int32).toNatClampNeg = 26 from by decide, show (401 : Int32).toNatClampNeg = 401 from by decide]
  simp only [Nat.add_assoc, Nat.reduceAdd] at z ⊢
  exact z Q
def iBR (H : xH) (R t : Nat) : xH := xnew (iTo (xnew H (.inr (2, [.ref (R + 1), .ref (R + 6), .int 0, .int 0, .int 0, .int 0])) 6) (R + 1) t wd0) (.inr (3, [.ref (R + 1)])) 1
theorem f_BR_init (hR : H.2.1 = R) : xcall E xprog (d + 6) 27 [.ref R, .ref t] (xnew H (.inr (2, xdef 2)) 6) Q = Q (.inl none, iBR H R t) := by
  subst hR
  have z := fun (Q : xR → Prop) (c : xC) => f_To_init (E := E) (d := d) (Q := Q) (H := xnew H c 6) (t := t) (R := H.2.1 + 1) rfl
  have z2 := fun (Q : xR → Prop) (c : xC) => f_RR_init (E := E) (d := d + 4) (Q := Q) (H := iTo (xnew H c 6) (H.2.1 + 1) t wd0) (R := H.2.1 + 6) rfl (H.2.1 + 1)
  simp only [iTo, Nat.add_assoc, Nat.reduceAdd] at z2
  rw [e_BR_init]
  simp (disch := (first | omega | (simp only [xnew_n, xset_2]; done) | (simp only [xnew_n, xset_2]; omega))) only [s_BR_init_0, s_BR_init_1, s_BR_init_4, s_BR_init_5, s_BR_init_8, s_BR_init_9, s_BR_init_10, s_BR_init_13, s_BR_init_16, s_BR_init_17, s_BR_init_20, s_BR_init_21, s_BR_init_22, s_BR_init_25, s_BR_init_28, s_BR_init_31, xdef_2, z, iTo, z2, xnw_s, xnw_o, xnf_s, xnf_o, xnc_s, xnc_o, xnew_n, xset_2, not_false_eq_true, Nat.reduceLT, Nat.reduceAdd, true_and, and_true, if_true, if_false, ite_true, ite_false, xnb_0, xnb_1, xnb_b, xk_v, xk_n, Nat.add_assoc, xll_2, xlg_2_0, xlg_2_1, xlg_2_2, xlg_2_3, xlg_2_4, xlg_2_5, xls_2_0, xls_2_1, xls_2_2, xls_2_3, xls_2_4, xls_2_5, iBR]
end TINIT
