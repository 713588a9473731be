/-! ===== builders made, read, and turned into texts ===== -/
section MADE
variable {E : xE} {d : Nat} {Q : xR → Prop} {H : xH} {p v n m q a b lo cb sl k : Nat} {f g : Nat → Int32} {L M : List Nat} {sv : Value}
theorem xnw_2 {c e : xC} : xset (xnew H c n) H.2.1 e = xnew H e n := by
  refine Prod.ext (funext fun a => ?_) rfl
  show (if a = H.2.1 then _ else if a = H.2.1 then _ else _) = if a = H.2.1 then _ else _
  split <;> rfl
abbrev sb0 : xC := .inr (11, [.null, .int 0, .int 0, .int 0])
theorem sb_init (hp : H.1 p = sb0) (hlp : p < H.2.1) : ∃ X, (∀ Q, xcall E xprog (d + 2) 146 [.ref p] H Q = Q (.inl none, X)) ∧ sbAt p H.2.1 H.2.2 X p [] ∧ (∀ a, a < p → X.1 a = H.1 a) ∧ H.2.1 ≤ X.2.1 := by
  have hp2 : (xnew H (xarB 16 (fun _ => 0)) 16).1 p = sb0 := by rw [xnew_g, if_neg (by omega)]; exact hp
  have hp3 : ∀ c, (xset (xnew H (xarB 16 (fun _ => 0)) 16) p c).1 p = c := fun c => xset_s p rfl
  refine ⟨xset (xnew H (xarB 16 (fun _ => 0)) 16) p (sbF H.2.1 0), fun Q => ?_, ⟨Nat.le_refl _, by show p < H.2.1 + 1; omega, H.2.1, 16, fun _ => 0, by omega, by show H.2.1 < H.2.1 + 1; omega, by omega, xset_s p rfl, ?_, fun _ _ => rfl, fun j hj => absurd hj (Nat.not_lt_zero _), by decide, by decide, by show H.2.1 + 1 ≤ H.2.1 + 16; omega, by show H.2.2 + 16 ≤ H.2.2 + 2 * 16; omega⟩, fun a ha => ?_, by show H.2.1 ≤ H.2.1 + 1; omega⟩
  · rw [e_SB_init]
    simp only [s_SB_init_0, s_SB_init_1, s_SB_init_3, s_SB_init_6, e_AB_init, s_AB_init_0, s_AB_init_1, s_AB_init_4, s_AB_init_7, s_AB_init_10, s_AB_init_11, s_AB_init_12, s_AB_init_14, s_AB_init_17, s_AB_init_18, s_AB_init_19, s_AB_init_22, s_AB_init_25, s_AB_init_26, s_AB_init_38, not_false_eq_true, Nat.reduceLT, Nat.reduceAdd, true_and, and_true, if_true, if_false, ite_true, ite_false, xnb_0, xnb_1, xnb_b, xk_v, xk_n, show ((16 : Int32) < 0) = False from eq_false (by decide), show (16 : Int32).toNatClampNeg = 16 from rfl, xf_of hp2, xf_of (hp3 _), xll_11, xlg_11_0, xlg_11_1, xlg_11_2, xlg_11_3, xls_11_0, xls_11_1, xls_11_2, xls_11_3, xst_2, show ((1 : Int32) = 0) = False from eq_false (by decide), show (16 * 1 ≤ 536870912) = True from eq_true (by decide)]
    rfl
  · rw [xset_o _ (by omega), xnew_g, if_pos rfl]
  · rw [xset_o _ (by omega), xnew_g, if_neg (by omega)]
/-- a builder of a constant text -/
theorem sb_initS {i : Nat} (hi : i < 43) (h1 : tln i = L.length) (h2 : byL (fun j => tch i j) L) (hn : L.length ≤ 24) (hp : H.1 p = sb0) (hlp : p < H.2.1) : ∃ X, (∀ Q, xcall E xprog (d + 8) 147 [.ref p, .retAddr (100 + 2 * i)] H Q = Q (.inl none, X)) ∧ sbAt p H.2.1 H.2.2 X p L ∧ (∀ a, a < p → X.1 a = H.1 a) ∧ H.2.1 ≤ X.2.1 := by
  have hsv : ∀ H : xH, stV H (.retAddr (100 + 2 * i)) L := fun H => Or.inl ⟨i, hi, rfl, h1, h2⟩
  have hlen := fun (Q : xR → Prop) => st_len (E := E) (d := d + 4) (Q := Q) (hsv H)
  have hcod : ∀ (Z : xH) (Q : xR → Prop), _ := fun Z Q => st_cod (E := E) (d := d + 5) (Q := Q) (hsv Z)
  have hq0 : xset H p sb0 = H := by
    refine Prod.ext (funext fun a => ?_) rfl
    show (if a = p then sb0 else H.1 a) = H.1 a
    split
    · next e => rw [e, hp]
    · rfl
  have hp2 : (xnew H (xarB (L.length + 16) (fun _ => 0)) (L.length + 16)).1 p = sb0 := by rw [xnew_g, if_neg (by omega)]; exact hp
  have hs0 : sbAt p H.2.1 H.2.2 (xset (xnew H (xarB (L.length + 16) (fun _ => 0)) (L.length + 16)) p (sbF H.2.1 0)) p [] := by
    refine ⟨Nat.le_refl _, by show p < H.2.1 + 1; omega, H.2.1, L.length + 16, fun _ => 0, by omega, by show H.2.1 < H.2.1 + 1; omega, by omega, xset_s p rfl, ?_, fun _ _ => rfl, fun j hj => absurd hj (Nat.not_lt_zero _), Nat.zero_le _, by show _ ≤ 2 * 0 + 40; omega, by show H.2.1 + 1 ≤ _; omega, by show H.2.2 + (L.length + 16) ≤ _; omega⟩
    rw [xset_o _ (by omega), xnew_g, if_pos rfl]
  obtain ⟨X, e1, e2, e3, e4⟩ := sb_appS (E := E) (d := d) hs0 (hsv _) (by show 0 + L.length ≤ 50000; omega)
  have hap : ∀ Q : xR → Prop, xcall E xprog (d + 6) 152 [.ref p, .retAddr (100 + 2 * i)] (xset (xnew H (xarB (L.length + 16) (fun _ => 0)) (L.length + 16)) p (sbF H.2.1 0)) Q = Q (.inl (some (.ref p)), X) := by
    intro Q
    rw [e_SB_appB (ha := (st_rok (hsv H)).2)]
    simp only [s_SB_appB_0, s_SB_appB_1, s_SB_appB_2, s_SB_appB_5, not_false_eq_true, Nat.reduceLT, Nat.reduceAdd, true_and, and_true, if_true, if_false, ite_true, ite_false, xnb_0, xnb_1, xnb_b, xk_v, xk_n, (st_rok (hsv H)).2, sb_cl hs0, e1]
  have hap2 : ∀ Q : xR → Prop, xcall E xprog (d + 6) 152 [.ref p, .retAddr (100 + 2 * i)] (xset (xnew H (xarB (L.length + 16) (fun _ => 0)) (L.length + 16)) p (.inr (11, [.ref H.2.1, .int 0, .int 0, .int 0]))) Q = Q (.inl (some (.ref p)), X) := hap
  have hcl : xcl (xset (xnew H (xarB (L.length + 16) (fun _ => 0)) (L.length + 16)) p (.inr (11, [.ref H.2.1, .int 0, .int 0, .int 0]))) p = 11 := sb_cl hs0
  refine ⟨X, fun Q => ?_, e2, fun a ha => (e3 a ha).trans ?_, Nat.le_trans (Nat.le_succ _) e4⟩
  · rw [e_SB_initS]
    simp only [s_SB_initS_0, s_SB_initS_1, s_SB_initS_2, s_SB_initS_5, e_AB_initS, s_AB_initS_0, s_AB_initS_1, s_AB_initS_4, s_AB_initS_5, s_AB_initS_8, s_AB_initS_9, s_AB_initS_10, s_AB_initS_12, s_AB_initS_15, s_AB_initS_16, s_AB_initS_18, s_AB_initS_19, s_AB_initS_22, s_AB_initS_24, s_AB_initS_25, s_AB_initS_26, s_AB_initS_29, s_AB_initS_31, s_AB_initS_32, s_AB_initS_34, s_AB_initS_37, s_AB_initS_38, s_AB_initS_40, s_AB_initS_43, s_AB_initS_44, s_AB_initS_46, s_AB_initS_49, s_AB_initS_53, s_AB_initS_56, s_AB_initS_57, s_AB_initS_58, s_AB_initS_61, s_AB_initS_62, not_false_eq_true, Nat.reduceLT, Nat.reduceAdd, true_and, and_true, if_true, if_false, ite_true, ite_false, xnb_0, xnb_1, xnb_b, xk_v, xk_n, xT_i hi, hlen, hcod, ↓reduceIte, show (nI L.length < 2147483631) = True from nlt (i := L.length) (n := 2147483631) (by omega) (by omega), xf_of hp, xll_11, xlg_11_0, xlg_11_1, xlg_11_2, xlg_11_3, xls_11_0, xls_11_1, xls_11_2, xls_11_3, hq0, show nI L.length + 16 = nI (L.length + 16) from nI_ad _ 16, nI_n0 (L.length + 16) (by omega), ncl (show L.length + 16 < 2147483648 by omega), show (L.length + 16) * 1 ≤ 536870912 by omega, xf_of hp2, sb_cl hs0, show (∃ j, some i = some j) = True from eq_true ⟨i, rfl⟩, hap2, hcl]
  · rw [xset_o _ (by omega), xnew_g, if_neg (by omega)]
theorem f_AB_length (hp : H.1 p = sbF v n) : xcall E xprog (d + 1) 122 [.ref p] H Q = Q (.inl (some (.int (nI n))), H) := by
  rw [e_AB_length]
  simp only [s_AB_length_0, s_AB_length_1, s_AB_length_4, xf_of hp, xll_11, xlg_11_0, xlg_11_1, xlg_11_2, xlg_11_3, not_false_eq_true, Nat.reduceLT, Nat.reduceAdd, true_and, and_true, if_true, if_false, ite_true, ite_false, xnb_0, xnb_1, xnb_b, xk_v, xk_n]
theorem f_SB_length (hp : H.1 p = sbF v n) : xcall E xprog (d + 2) 154 [.ref p] H Q = Q (.inl (some (.int (nI n))), H) := by
  rw [e_SB_length]
  simp only [s_SB_length_0, s_SB_length_1, s_SB_length_4, xf_of hp, xc_of hp, xll_11, xlg_11_0, xlg_11_1, xlg_11_2, xlg_11_3, not_false_eq_true, Nat.reduceLT, Nat.reduceAdd, true_and, and_true, if_true, if_false, ite_true, ite_false, xnb_0, xnb_1, xnb_b, xk_v, xk_n, f_AB_length hp]
theorem sb_length (hs : sbAt lo cb sl H p L) : xcall E xprog (d + 2) 154 [.ref p] H Q = Q (.inl (some (.int (nI L.length))), H) := by
  obtain ⟨h1, h2, v, m, f, h3, h4, h5, h6, -⟩ := hs
  exact f_SB_length h6
theorem sb_charAt (hs : sbAt lo cb sl H p L) (hl : L.length ≤ 50000) (hk : k < L.length) (h128 : ∀ c ∈ L, c < 128) : xcall E xprog (d + 4) 153 [.ref p, .int (nI k)] H Q = Q (.inl (some (.int (nI (L.getD k 0)))), H) := by
  obtain ⟨h1, h2, v, m, f, h3, h4, h5, h6, h7, h8, h9, h10, h11, h12, h13⟩ := hs
  have hc := ch_ok (L.getD k 0) (by rw [List.getD_eq_getElem?_getD, List.getElem?_eq_getElem hk]; exact h128 _ (List.getElem_mem hk))
  rw [e_SB_charAt]
  simp only [s_SB_charAt_0, s_SB_charAt_1, s_SB_charAt_2, s_SB_charAt_5, e_AB_charAt, s_AB_charAt_0, s_AB_charAt_1, s_AB_charAt_4, s_AB_charAt_5, s_AB_charAt_6, s_AB_charAt_9, s_AB_charAt_10, s_AB_charAt_11, s_AB_charAt_14, s_AB_charAt_15, s_AB_charAt_16, s_AB_charAt_17, s_AB_charAt_18, s_AB_charAt_21, s_AB_charAt_23, s_AB_charAt_24, s_AB_charAt_26, s_AB_charAt_29, s_AB_charAt_30, s_AB_charAt_33, s_AB_charAt_34, s_AB_charAt_35, s_AB_charAt_36, s_AB_charAt_39, s_AB_charAt_40, s_AB_charAt_41, s_AB_charAt_42, s_AB_charAt_43, not_false_eq_true, Nat.reduceLT, Nat.reduceAdd, true_and, and_true, if_true, if_false, ite_true, ite_false, xnb_0, xnb_1, xnb_b, xk_v, xk_n, xf_of h6, xc_of h6, xll_11, xlg_11_0, xlg_11_1, xlg_11_2, xlg_11_3, xln_B h7, Option.isSome_some, Option.getD_some, sb_shr0, nge (show L.length ≤ m by omega) (by omega), f_JS_checkIndex hk (show L.length < 2147483648 by omega), xBl_of h7, xBf_of h7, nvp (show k < m by omega) (by omega), ncl (show k < 2147483648 by omega), h9 k hk, hc.1, hc.2.1]
theorem st_charAt (ha : H.1 a = .inr (12, [.ref b, .int 0, .int 0, .int 0])) (hb : H.1 b = xarB L.length f) (hf : byL f L) (hl : L.length ≤ 50000) (hk : k < L.length) (h128 : ∀ c ∈ L, c < 128) : xcall E xprog (d + 4) 137 [.ref a, .int (nI k)] H Q = Q (.inl (some (.int (nI (L.getD k 0)))), H) := by
  have hc := ch_ok (L.getD k 0) (by rw [List.getD_eq_getElem?_getD, List.getElem?_eq_getElem hk]; exact h128 _ (List.getElem_mem hk))
  rw [e_JS_charAtR]
  simp only [s_JS_charAtR_0, s_JS_charAtR_1, s_JS_charAtR_4, s_JS_charAtR_7, s_JS_charAtR_8, s_JS_charAtR_11, s_JS_charAtR_12, s_JS_charAtR_15, s_JS_charAtR_16, s_JS_charAtR_17, s_JS_charAtR_20, e_JL_charAtR, s_JL_charAtR_0, s_JL_charAtR_1, s_JL_charAtR_2, s_JL_charAtR_3, s_JL_charAtR_6, s_JL_charAtR_7, s_JL_charAtR_8, s_JL_charAtR_9, s_JL_charAtR_12, s_JL_charAtR_13, s_JL_charAtR_14, not_false_eq_true, Nat.reduceLT, Nat.reduceAdd, true_and, and_true, if_true, if_false, ite_true, ite_false, xnb_0, xnb_1, xnb_b, xk_v, xk_n, xf_of ha, xc_of ha, xll_12, xlg_12_0, xlg_12_1, xlg_12_2, xlg_12_3, f_JS_isLatin1R ha, k1_0, xln_B hb, Option.isSome_some, Option.getD_some, f_JS_checkIndex hk (show L.length < 2147483648 by omega), xBl_of hb, xBf_of hb, nvp hk (by omega), ncl (show k < 2147483648 by omega), hf k hk, hc.1, hc.2.1]
theorem f_JA_copyR (hv : H.1 v = xarB m f) (hb : xbok m f) (h : n ≤ m) (hm : m ≤ 1000000) (hl : v < H.2.1) : ∃ g, (∀ Q, xcall E xprog (d + 3) 162 [.ref v, .int 0, .int (nI n)] H Q = Q (.inl (some (.ref H.2.1)), xnew H (xarB n g) n)) ∧ xbok n g ∧ ∀ j, j < n → g j = f j := by
  by_cases e : n = m
  · subst e
    refine ⟨f, fun Q => ?_, hb, fun _ _ => rfl⟩
    rw [e_JA_copyOfRange]
    simp only [s_JA_copyOfRange_0, s_JA_copyOfRange_1, s_JA_copyOfRange_4, s_JA_copyOfRange_5, s_JA_copyOfRange_6, s_JA_copyOfRange_7, s_JA_copyOfRange_10, s_JA_copyOfRange_11, s_JA_copyOfRange_12, s_JA_copyOfRange_13, s_JA_copyOfRange_16, s_JA_copyOfRange_17, s_JA_copyOfRange_18, s_JA_copyOfRange_21, s_JA_copyOfRange_24, not_false_eq_true, Nat.reduceLT, Nat.reduceAdd, true_and, and_true, if_true, if_false, ite_true, ite_false, xnb_0, xnb_1, xnb_b, xk_v, xk_n, xln_B hv, Option.isSome_some, Option.getD_some, xBl_of hv, xBf_of hv, xisA_of hv, eq_true hb, xisA_of (show (xnew H (xarB n f) n).1 H.2.1 = xarB n f from if_pos rfl)]
  · have hv2 : (xnew H (xarB n (fun _ => 0)) n).1 v = xarB m f := by rw [xnew_g, if_neg (by omega)]; exact hv
    have hn2 : (xnew H (xarB n (fun _ => 0)) n).1 H.2.1 = xarB n (fun _ => 0) := by rw [xnew_g, if_pos rfl]
    refine ⟨va_cpy f (fun _ => 0) 0 0 n, fun Q => ?_, ?_, fun j hj => (pk_cpy_in (by omega) (by omega)).trans (by rw [show 0 + (j - 0) = j by omega])⟩
    · have hck : ∀ Q : xR → Prop, xcall E xprog (d + 1) 161 [.int 0, .int (nI n)] H Q = Q (.inl none, H) := by
        intro Q
        rw [e_JA_checkLength]
        simp only [s_JA_checkLength_0, s_JA_checkLength_1, s_JA_checkLength_2, s_JA_checkLength_37, not_false_eq_true, Nat.reduceLT, Nat.reduceAdd, true_and, and_true, if_true, if_false, ite_true, ite_false, xnb_0, xnb_1, xnb_b, xk_v, xk_n, nI_n0 n (by omega)]
      rw [e_JA_copyOfRange]
      simp only [s_JA_copyOfRange_0, s_JA_copyOfRange_1, s_JA_copyOfRange_4, s_JA_copyOfRange_5, s_JA_copyOfRange_6, s_JA_copyOfRange_7, s_JA_copyOfRange_10, s_JA_copyOfRange_11, s_JA_copyOfRange_12, s_JA_copyOfRange_13, s_JA_copyOfRange_16, s_JA_copyOfRange_17, s_JA_copyOfRange_18, s_JA_copyOfRange_21, s_JA_copyOfRange_24, e_JA_copyOfRangeByte, s_JA_copyOfRangeByte_0, s_JA_copyOfRangeByte_1, s_JA_copyOfRangeByte_2, s_JA_copyOfRangeByte_5, s_JA_copyOfRangeByte_6, s_JA_copyOfRangeByte_7, s_JA_copyOfRangeByte_8, s_JA_copyOfRangeByte_9, s_JA_copyOfRangeByte_10, s_JA_copyOfRangeByte_12, s_JA_copyOfRangeByte_14, s_JA_copyOfRangeByte_15, s_JA_copyOfRangeByte_16, s_JA_copyOfRangeByte_18, s_JA_copyOfRangeByte_19, s_JA_copyOfRangeByte_20, s_JA_copyOfRangeByte_21, s_JA_copyOfRangeByte_22, s_JA_copyOfRangeByte_23, s_JA_copyOfRangeByte_24, s_JA_copyOfRangeByte_27, s_JA_copyOfRangeByte_30, s_JA_copyOfRangeByte_32, not_false_eq_true, Nat.reduceLT, Nat.reduceAdd, true_and, and_true, if_true, if_false, ite_true, ite_false, xnb_0, xnb_1, xnb_b, xk_v, xk_n, xln_B hv, Option.isSome_some, Option.getD_some, eq_false (nI_ne (a := n) (b := m) (by omega) (by omega) e), hck, Int32.sub_zero, nI_n0 n (by omega), ncl (show n < 2147483648 by omega), show n * 1 ≤ 536870912 by omega, xln_B hv2, nge (show n ≤ m by omega) (by omega), nlt (show n < m by omega) (by omega), xBl_of hv2, xBf_of hv2, xBl_of hn2, xBf_of hn2, xisA_of hv2, xisA_of hn2, eq_true hb, show (0 : Int32).toNatClampNeg = 0 from rfl, show ((0 : Int32) < 0) = False from eq_false (by decide), Nat.zero_add, Nat.le_refl, eq_true h, xnw_2]
    · intro j hj
      unfold va_cpy
      split
      · exact hb _ (by omega)
      · rfl
/-- the builder's text -/
theorem sb_toS (hs : sbAt lo cb sl H p L) (hl : L.length ≤ 50000) : ∃ X, (∀ Q, xcall E xprog (d + 6) 151 [.ref p] H Q = Q (.inl (some (.ref H.2.1)), X)) ∧ stV X (.ref H.2.1) L ∧ X.2.1 = H.2.1 + 2 ∧ X.2.2 = H.2.2 + 4 + L.length ∧ ∀ a, a < H.2.1 → X.1 a = H.1 a := by
  obtain ⟨h1, h2, v, m, f, h3, h4, h5, h6, h7, h8, h9, h10, h11, h12, h13⟩ := hs
  have hq : ∀ {c : Nat} {C : xC}, c < H.2.1 → (xnew H C 4).1 c = H.1 c := fun hc => by rw [xnew_g, if_neg (by omega)]
  have hn0 : (xnew H (.inr (12, xdef 12)) 4).1 H.2.1 = .inr (12, [.null, .int 0, .int 0, .int 0]) := by rw [xnew_g, if_pos rfl]; rfl
  have hp2 : (xnew H (.inr (12, xdef 12)) 4).1 p = sbF v L.length := (hq h2).trans h6
  have hv2 : (xnew H (.inr (12, xdef 12)) 4).1 v = xarB m f := (hq h4).trans h7
  have hq0 : xset (xnew H (.inr (12, xdef 12)) 4) H.2.1 (.inr (12, [.null, .int 0, .int 0, .int 0])) = xnew H (.inr (12, xdef 12)) 4 := by
    refine Prod.ext (funext fun a => ?_) rfl
    show (if a = H.2.1 then _ else if a = H.2.1 then _ else _) = if a = H.2.1 then _ else _
    split <;> rfl
  obtain ⟨g, c1, c2, c3⟩ := f_JA_copyR (E := E) (d := d) (n := L.length) hv2 h8 h10 (by omega) (by show v < H.2.1 + 1; omega)
  have hn1 : (xnew (xnew H (.inr (12, xdef 12)) 4) (xarB L.length g) L.length).1 H.2.1 = .inr (12, [.null, .int 0, .int 0, .int 0]) := by
    rw [xnew_g, if_neg (by show ¬ H.2.1 = H.2.1 + 1; omega)]; exact hn0
  have hl1 := fun (Q : xR → Prop) => f_SB_length (E := E) (d := d + 1) (Q := Q) hp2
  have hl2 := fun (Q : xR → Prop) => f_AB_isLatin1 (E := E) (d := d + 2) (Q := Q) hp2
  refine ⟨xset (xnew (xnew H (.inr (12, xdef 12)) 4) (xarB L.length g) L.length) H.2.1 (stF (H.2.1 + 1)), fun Q => ?_, Or.inr ⟨H.2.1, H.2.1 + 1, g, rfl, xset_s _ rfl, ?_, fun j hj => (c3 j hj).trans (h9 j hj), c2, ?_, ?_⟩, rfl, rfl, fun a ha => ?_⟩
  · rw [e_SB_toString]
    simp only [s_SB_toString_0, s_SB_toString_3, s_SB_toString_4, s_SB_toString_5, s_SB_toString_8, e_JS_init, s_JS_init_0, s_JS_init_1, s_JS_init_2, s_JS_init_3, s_JS_init_6, e_JS_initA, s_JS_initA_0, s_JS_initA_1, s_JS_initA_4, s_JS_initA_5, s_JS_initA_8, s_JS_initA_9, s_JS_initA_10, s_JS_initA_13, s_JS_initA_15, s_JS_initA_16, s_JS_initA_19, s_JS_initA_22, s_JS_initA_23, s_JS_initA_24, s_JS_initA_27, s_JS_initA_28, s_JS_initA_29, s_JS_initA_30, s_JS_initA_32, s_JS_initA_35, s_JS_initA_38, s_JS_initA_41, s_JS_initA_44, s_JS_initA_47, s_JS_initA_48, s_JS_initA_51, s_JS_initA_54, s_JS_initA_55, s_JS_initA_56, s_JS_initA_57, s_JS_initA_79, s_JS_initA_80, s_JS_initA_81, s_JS_initA_84, s_JS_initA_85, s_JS_initA_86, s_JS_initA_87, s_JS_initA_89, s_JS_initA_90, s_JS_initA_91, s_JS_initA_94, s_JS_initA_97, e_AB_getValue, s_AB_getValue_0, s_AB_getValue_1, s_AB_getValue_4, not_false_eq_true, Nat.reduceLT, Nat.reduceAdd, true_and, and_true, if_true, if_false, ite_true, ite_false, xnb_0, xnb_1, xnb_b, xk_v, xk_n, xf_of hp2, xc_of hp2, xf_of hn0, xf_of hn1, xll_11, xlg_11_0, xlg_11_1, xlg_11_2, xlg_11_3, xll_12, xlg_12_0, xlg_12_1, xlg_12_2, xlg_12_3, xls_12_0, xls_12_1, xls_12_2, xls_12_3, hl1, hl2, k1_0, hq0, c1]
    rfl
  · rw [xset_o _ (by omega)]; exact if_pos rfl
  · show H.2.1 < H.2.1 + 1 + 1; omega
  · show H.2.1 + 1 < H.2.1 + 1 + 1; omega
  · rw [xset_o _ (by omega), xnew_g, if_neg (by show ¬ a = H.2.1 + 1; omega), xnew_g, if_neg (by omega)]
end MADE
