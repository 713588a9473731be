/-! ===== the tape is fed ===== -/
section FEED
variable {E : xE} {d D n n' Ln Mn : Nat} {Q : xR → Prop} {X X1 H : xH} {Kb Ks Kt K l : Nat} {ep th k v : Int32} {La Ma : List Value} {T : Nat → Nat} {tp : Nat → Int32} {b : Nat → Nat → Int32} {nm : Nat → Int64} {s : Nat → Int32} {a a' : Nat → Nat → Int32} {t t' : Nat → Int32} {g : Nat → Nat → Int32} {q : Nat → Int32} {co ro nk nc nn cnt : Nat} {rs re : Nat → Nat} {nw kp wc sk ms : Nat → Int32} {sz ea h : Int32} {W : Int32 → Int64 → Prop}
variable {tp' r : Nat → Int32} {x : Int32} {T' : Nat → Nat}
/-- the byte of x that comes j-th -/
def bv (x : Int32) (j : Nat) : Nat := (x.toBitVec.toNat >>> (24 - 8 * j)) % 256
theorem bv_lt {j : Nat} : bv x j < 256 := Nat.mod_lt _ (by decide)
theorem by_ss (x : BitVec 32) (s : Nat) (hs : s ≤ 24) : (x.sshiftRight s).setWidth 8 = (x >>> s).setWidth 8 := by
  apply BitVec.eq_of_getLsbD_eq
  intro i hi
  simp only [BitVec.getLsbD_setWidth, BitVec.getLsbD_sshiftRight, BitVec.getLsbD_ushiftRight]
  rw [decide_eq_true hi, decide_eq_false (show ¬ 32 ≤ i by omega), if_pos (show s + i < 32 by omega)]
  rfl
theorem by_us (x : BitVec 32) (s : Nat) : (x >>> s).setWidth 8 = (BitVec.ofNat 32 ((x.toNat >>> s) % 256)).setWidth 8 := by
  apply BitVec.eq_of_toNat_eq
  simp only [BitVec.toNat_setWidth, BitVec.toNat_ushiftRight, BitVec.toNat_ofNat]
  omega
theorem i8_of {y z : Int32} (h : y.toBitVec.setWidth 8 = z.toBitVec.setWidth 8) : y.toInt8 = z.toInt8 := by
  apply Int8.toBitVec_inj.mp
  rw [Int32.toBitVec_toInt8, Int32.toBitVec_toInt8, BitVec.signExtend_eq_setWidth_of_le _ (by decide), BitVec.signExtend_eq_setWidth_of_le _ (by decide)]
  exact h
theorem nar_b (y : Int32) : vp_nar .byte y = y.toInt8.toInt32 := rfl
theorem i8_i8 (y : Int32) : y.toInt8.toInt32.toInt8 = y.toInt8 := by
  apply i8_of
  rw [Int8.toBitVec_toInt32, Int32.toBitVec_toInt8]
  apply BitVec.eq_of_getLsbD_eq
  intro i hi
  simp only [BitVec.getLsbD_setWidth, BitVec.getLsbD_signExtend]
  simp [hi, show i < 32 by omega]
theorem by_c {y : Int32} {j : Nat} (h : y.toBitVec.setWidth 8 = (x.toBitVec >>> (24 - 8 * j)).setWidth 8) : vp_nar .byte y.toInt8.toInt32 = sb (bv x j) := by
  rw [nar_b, i8_i8]
  unfold sb
  rw [show y.toInt8 = (nI (bv x j)).toInt8 from i8_of (h.trans (by_us _ _))]
theorem cb_0 : vp_nar .byte ((x.toUInt32 >>> ((24 : Int32).toUInt32 &&& Int32.toUInt32 31)).toInt32.toInt8.toInt32) = sb (bv x 0) := by_c (j := 0) rfl
theorem cb_1 : vp_nar .byte ((x.toUInt32 >>> ((16 : Int32).toUInt32 &&& Int32.toUInt32 31)).toInt32.toInt8.toInt32) = sb (bv x 1) := by_c (j := 1) rfl
theorem cb_2 : vp_nar .byte ((x.toUInt32 >>> ((8 : Int32).toUInt32 &&& Int32.toUInt32 31)).toInt32.toInt8.toInt32) = sb (bv x 2) := by_c (j := 2) rfl
theorem cb_3 : vp_nar .byte ((x.toUInt32 >>> ((0 : Int32).toUInt32 &&& Int32.toUInt32 31)).toInt32.toInt8.toInt32) = sb (bv x 3) := by_c (j := 3) rfl
theorem mb_j (j : Nat) (hj : j < 4) : vp_nar .byte ((x >>> ((24 - 8 * nI j) &&& 31)).toInt8.toInt32) = sb (bv x j) := by
  rcases (show j = 0 ∨ j = 1 ∨ j = 2 ∨ j = 3 by omega) with z | z | z | z <;> subst z
  · exact by_c (j := 0) (by_ss x.toBitVec 24 (by decide))
  · exact by_c (j := 1) (by_ss x.toBitVec 16 (by decide))
  · exact by_c (j := 2) (by_ss x.toBitVec 8 (by decide))
  · exact by_c (j := 3) (by_ss x.toBitVec 0 (by decide))
/-- the heap with the class's tape -/
def tH (X : xH) (tp : Nat → Int32) (l : Nat) : xH := xset (xset X 2 (xarB 1600 tp)) 1 (.inr (6, [.ref 2, .int (nI l)]))
theorem tH_1 : (tH X tp l).1 1 = .inr (6, [.ref 2, .int (nI l)]) := xset_s 1 rfl
theorem tH_2 : (tH X tp l).1 2 = xarB 1600 tp := (xset_o 2 (by decide)).trans (xset_s 2 rfl)
theorem tH_o (m : Nat) (h : ¬ m = 1 ∧ ¬ m = 2) : (tH X tp l).1 m = X.1 m := (xset_o m h.1).trans (xset_o m h.2)
theorem tH_w2 : xset (tH X tp l) 2 (xarB 1600 tp') = tH X tp' l := by
  refine Prod.ext (funext fun n => ?_) rfl
  by_cases p : n = 2
  · subst p
    rw [xset_s 2 rfl, tH_2]
  · rw [xset_o n p]
    by_cases p1 : n = 1
    · subst p1
      rw [tH_1, tH_1]
    · rw [tH_o n ⟨p1, p⟩, tH_o n ⟨p1, p⟩]
theorem tH_w1 {j : Nat} : xset (tH X tp l) 1 (.inr (6, [.ref 2, .int (nI j)])) = tH X tp j := by
  refine Prod.ext (funext fun n => ?_) rfl
  by_cases p : n = 1
  · subst p
    rw [xset_s 1 rfl, tH_1]
  · rw [xset_o n p]
    by_cases p1 : n = 2
    · subst p1
      rw [tH_2, tH_2]
    · rw [tH_o n ⟨p, p1⟩, tH_o n ⟨p, p1⟩]
theorem tH_of (h1 : X.1 1 = .inr (6, [.ref 2, .int (nI l)])) (h2 : X.1 2 = xarB 1600 tp) : X = tH X tp l := by
  refine Prod.ext (funext fun n => ?_) rfl
  by_cases p : n = 1
  · subst p
    rw [tH_1, h1]
  · by_cases p1 : n = 2
    · subst p1
      rw [tH_2, h2]
    · rw [tH_o n ⟨p, p1⟩]
theorem tH_F : xfls (tH X tp l) 1 6 = [.ref 2, .int (nI l)] := xf_of tH_1
theorem tH_C : xcl (tH X tp l) 1 = 6 := xc_of tH_1
theorem tH_l : xlenB (tH X tp l) 2 = 1600 := xBl_of tH_2
theorem tH_f : xfnB (tH X tp l) 2 = tp := xBf_of tH_2
def apR (x : Int32) (l : Nat) (tp : Nat → Int32) : Nat → Int32 := upd (upd (upd (upd tp l (sb (bv x 0))) (l + 1) (sb (bv x 1))) (l + 1 + 1) (sb (bv x 2))) (l + 1 + 1 + 1) (sb (bv x 3))
theorem f_Ta_append (hl : l + 4 ≤ 1600) : xcall E xprog (d + 1) 51 [.ref 1, .int x] (tH X tp l) Q = Q (.inl none, tH X (apR x l tp) (l + 4)) := by
  have al : ∀ ls st (tp : Nat → Int32) (l : Nat), xr E d m_Ta_append Q (15, ls, .ref 2 :: st, tH X tp l) = xr E d m_Ta_append Q (16, ls, .int (nI 1600) :: st, tH X tp l) := fun ls st tp l => xr_len (y := m_Ta_append) (pc := 15) rfl (xlenB_of tH_2)
  rw [e_Ta_append, s_Ta_append_0, s_Ta_append_2, s_Ta_append_3]
  simp only [s_Ta_append_4, s_Ta_append_7, s_Ta_append_8, s_Ta_append_11, s_Ta_append_12, s_Ta_append_16, s_Ta_append_19, s_Ta_append_20, s_Ta_append_23, s_Ta_append_24, s_Ta_append_27, s_Ta_append_28, s_Ta_append_29, s_Ta_append_30, s_Ta_append_31, s_Ta_append_32, s_Ta_append_33, s_Ta_append_34, s_Ta_append_37, s_Ta_append_38, s_Ta_append_39, s_Ta_append_42, s_Ta_append_45, not_false_eq_true, Nat.reduceLT, Nat.reduceAdd, true_and, and_true, if_true, if_false, ite_true, ite_false, xnb_0, xnb_1, xnb_b, xk_v, xk_n, show ((24 : Int32) < 0) = False from eq_false (by decide), tH_F, tH_C, tH_l, tH_f, tH_w1, tH_w2, xll_6, xlg_6_0, xlg_6_1, xls_6_0, xls_6_1, al, nlt (show l < 1600 by omega) (by omega), nvp (show l < 1600 by omega) (by omega), ncl (show l < 2147483648 by omega), cb_0, nI_1, show (24 : Int32) + (-8) = 16 from rfl]
  rw [s_Ta_append_3]
  simp only [s_Ta_append_4, s_Ta_append_7, s_Ta_append_8, s_Ta_append_11, s_Ta_append_12, s_Ta_append_16, s_Ta_append_19, s_Ta_append_20, s_Ta_append_23, s_Ta_append_24, s_Ta_append_27, s_Ta_append_28, s_Ta_append_29, s_Ta_append_30, s_Ta_append_31, s_Ta_append_32, s_Ta_append_33, s_Ta_append_34, s_Ta_append_37, s_Ta_append_38, s_Ta_append_39, s_Ta_append_42, s_Ta_append_45, not_false_eq_true, Nat.reduceLT, Nat.reduceAdd, true_and, and_true, if_true, if_false, ite_true, ite_false, xnb_0, xnb_1, xnb_b, xk_v, xk_n, show ((16 : Int32) < 0) = False from eq_false (by decide), tH_F, tH_C, tH_l, tH_f, tH_w1, tH_w2, xll_6, xlg_6_0, xlg_6_1, xls_6_0, xls_6_1, al, nlt (show l + 1 < 1600 by omega) (by omega), nvp (show l + 1 < 1600 by omega) (by omega), ncl (show l + 1 < 2147483648 by omega), cb_1, nI_1, show (16 : Int32) + (-8) = 8 from rfl]
  rw [s_Ta_append_3]
  simp only [s_Ta_append_4, s_Ta_append_7, s_Ta_append_8, s_Ta_append_11, s_Ta_append_12, s_Ta_append_16, s_Ta_append_19, s_Ta_append_20, s_Ta_append_23, s_Ta_append_24, s_Ta_append_27, s_Ta_append_28, s_Ta_append_29, s_Ta_append_30, s_Ta_append_31, s_Ta_append_32, s_Ta_append_33, s_Ta_append_34, s_Ta_append_37, s_Ta_append_38, s_Ta_append_39, s_Ta_append_42, s_Ta_append_45, not_false_eq_true, Nat.reduceLT, Nat.reduceAdd, true_and, and_true, if_true, if_false, ite_true, ite_false, xnb_0, xnb_1, xnb_b, xk_v, xk_n, show ((8 : Int32) < 0) = False from eq_false (by decide), tH_F, tH_C, tH_l, tH_f, tH_w1, tH_w2, xll_6, xlg_6_0, xlg_6_1, xls_6_0, xls_6_1, al, nlt (show l + 1 + 1 < 1600 by omega) (by omega), nvp (show l + 1 + 1 < 1600 by omega) (by omega), ncl (show l + 1 + 1 < 2147483648 by omega), cb_2, nI_1, show (8 : Int32) + (-8) = 0 from rfl]
  rw [s_Ta_append_3]
  simp only [s_Ta_append_4, s_Ta_append_7, s_Ta_append_8, s_Ta_append_11, s_Ta_append_12, s_Ta_append_16, s_Ta_append_19, s_Ta_append_20, s_Ta_append_23, s_Ta_append_24, s_Ta_append_27, s_Ta_append_28, s_Ta_append_29, s_Ta_append_30, s_Ta_append_31, s_Ta_append_32, s_Ta_append_33, s_Ta_append_34, s_Ta_append_37, s_Ta_append_38, s_Ta_append_39, s_Ta_append_42, s_Ta_append_45, not_false_eq_true, Nat.reduceLT, Nat.reduceAdd, true_and, and_true, if_true, if_false, ite_true, ite_false, xnb_0, xnb_1, xnb_b, xk_v, xk_n, Int32.lt_irrefl, tH_F, tH_C, tH_l, tH_f, tH_w1, tH_w2, xll_6, xlg_6_0, xlg_6_1, xls_6_0, xls_6_1, al, nlt (show l + 1 + 1 + 1 < 1600 by omega) (by omega), nvp (show l + 1 + 1 + 1 < 1600 by omega) (by omega), ncl (show l + 1 + 1 + 1 < 2147483648 by omega), cb_3, nI_1, show (0 : Int32) + (-8) = -8 from rfl]
  rw [s_Ta_append_3]
  simp only [s_Ta_append_4, s_Ta_append_48, show ((-8 : Int32) < 0) = True from eq_true (by decide), if_true]
  rfl
def fdR (a b c e f : Int32) (l : Nat) (tp : Nat → Int32) : Nat → Int32 := apR f (l + 4 + 4 + 4 + 4) (apR e (l + 4 + 4 + 4) (apR c (l + 4 + 4) (apR b (l + 4) (apR a l tp))))
theorem c_T_feed_o (hc : X.1 0 = tgC Kb Ks ep) (ht : X.1 1 = .inr (6, [.ref 2, .int (nI l)])) (hl : l < 2147483648) (h : 1580 < l) (p0 p1 p2 p3 p4 : Int32) : xcall E xprog (d + 2) 69 [.ref 0, .int p0, .int p1, .int p2, .int p3, .int p4] X Q = Q (.inr 12, xnew X (.inr (12, [])) 6) := by
  unfold tgC at hc
  rw [e_T_feed]
  simp only [s_T_feed_0, s_T_feed_1, s_T_feed_4, s_T_feed_7, s_T_feed_10, s_T_feed_13, xf_of hc, xf_of ht, xll_8, xlg_8_0, xlg_8_1, xlg_8_2, xlg_8_3, xlg_8_4, xlg_8_5, xlg_8_6, xll_6, xlg_6_0, xlg_6_1, not_false_eq_true, Nat.reduceLT, Nat.reduceAdd, true_and, and_true, if_true, if_false, ite_true, ite_false, xnb_0, xnb_1, xnb_b, xk_v, xk_n, show ((1580 : Int32) < nI l) = True from eq_true (by rw [show (1580 : Int32) = nI 1580 from rfl, n_lt (by omega) hl]; exact h), t_T_feed_22]
theorem c_T_feed_i (hc : X.1 0 = tgC Kb Ks ep) (h : l + 20 ≤ 1600) (p0 p1 p2 p3 p4 : Int32) : xcall E xprog (d + 2) 69 [.ref 0, .int p0, .int p1, .int p2, .int p3, .int p4] (tH X tp l) Q = Q (.inl (some (.int (nI (l + 20)))), tH X (fdR p0 p1 p2 p3 p4 l tp) (l + 20)) := by
  have hc1 : ∀ tp l, (tH X tp l).1 0 = tgC Kb Ks ep := fun tp l => (tH_o 0 (by decide)).trans hc
  have z := fun (Q : xR → Prop) (x : Int32) (tp : Nat → Int32) (l : Nat) (hl : l + 4 ≤ 1600) => f_Ta_append (E := E) (d := d) (Q := Q) (X := X) (tp := tp) (x := x) hl
  unfold tgC at hc1
  rw [e_T_feed]
  simp only [s_T_feed_0, s_T_feed_1, s_T_feed_4, s_T_feed_7, s_T_feed_10, s_T_feed_13, s_T_feed_23, s_T_feed_24, s_T_feed_27, s_T_feed_28, s_T_feed_31, s_T_feed_32, s_T_feed_35, s_T_feed_36, s_T_feed_39, s_T_feed_40, s_T_feed_43, s_T_feed_44, s_T_feed_47, s_T_feed_48, s_T_feed_51, s_T_feed_53, s_T_feed_56, s_T_feed_57, s_T_feed_60, s_T_feed_62, s_T_feed_65, s_T_feed_66, s_T_feed_69, s_T_feed_72, xf_of (hc1 _ _), tH_F, tH_C, xll_8, xlg_8_0, xlg_8_1, xlg_8_2, xlg_8_3, xlg_8_4, xlg_8_5, xlg_8_6, xll_6, xlg_6_0, xlg_6_1, not_false_eq_true, Nat.reduceLT, Nat.reduceAdd, true_and, and_true, if_true, if_false, ite_true, ite_false, xnb_0, xnb_1, xnb_b, xk_v, xk_n, show ((1580 : Int32) < nI l) = False from eq_false (by rw [show (1580 : Int32) = nI 1580 from rfl, n_lt (by omega) (by omega)]; omega), fun Q x tp => z Q x tp l (by omega), fun Q x tp => z Q x tp (l + 4) (by omega), fun Q x tp => z Q x tp (l + 4 + 4) (by omega), fun Q x tp => z Q x tp (l + 4 + 4 + 4) (by omega), fun Q x tp => z Q x tp (l + 4 + 4 + 4 + 4) (by omega)]
  rfl
def mdW (r : Nat → Int32) (l : Nat) : Nat → Nat → (Nat → Int32) → Nat → Int32
  | _, 0, tp => tp
  | i, m + 1, tp => mdW r l (i + 1) m (upd tp (l + i) (sb (bv (r (i / 4)) (i % 4))))
def row5 (a b c e f : Int32) : Nat → Int32 := upd (upd (upd (upd (upd (fun _ => 0) 0 a) 1 b) 2 c) 3 e) 4 f
theorem md_fd (a b c e f : Int32) : mdW (row5 a b c e f) l 0 20 tp = fdR a b c e f l tp := rfl
theorem byt_u {v j : Nat} (h : byt T tp) (hv : v < 256) : byt (fun i => if i = j then v else T i) (upd tp j (sb v)) := by
  intro i
  show (if i = j then v else T i) < 256 ∧ upd tp j (sb v) i = sb (if i = j then v else T i)
  by_cases p : i = j
  · rw [if_pos p, p, upd_s]
    exact ⟨hv, rfl⟩
  · rw [if_neg p, upd_o p]
    exact h i
theorem byt_md : ∀ m i (T : Nat → Nat) (tp : Nat → Int32), byt T tp → ∃ T', byt T' (mdW r l i m tp)
  | 0, _, T, _, h => ⟨T, h⟩
  | m + 1, i, _, _, h => byt_md m (i + 1) _ _ (byt_u h bv_lt)
theorem k20_d : ∀ i, i < 20 → nI i / 4 = nI (i / 4) ∧ nI i - nI i / 4 * 4 = nI (i % 4) := by decide +kernel
theorem l_M_feed (hR : 77 < H.2.1) (hl : l + 20 ≤ 1600) (p0 p1 p2 p3 p4 : Int32) : ∀ m i (tp : Nat → Int32), i + m = 20 →
    xr E d m_M_feed Q (54, [some (.ref 63), some (.int p0), some (.int p1), some (.int p2), some (.int p3), some (.int p4), some (.ref H.2.1), some (.int (nI i))], [], mH (xnew H (xarI 5 r) 5) K th (nI l) ea tp nw kp wc sk) = xr E d m_M_feed Q (98, [some (.ref 63), some (.int p0), some (.int p1), some (.int p2), some (.int p3), some (.int p4), some (.ref H.2.1), some (.int (nI 20))], [], mH (xnew H (xarI 5 r) 5) K th (nI l) ea (mdW r l i m tp) nw kp wc sk) := by
  intro m
  induction m with
  | zero =>
    intro i tp hi
    have e : i = 20 := by omega
    subst e
    rw [s_M_feed_54]
    simp only [s_M_feed_56, s_M_feed_58, not_false_eq_true, Nat.reduceLT, Nat.reduceAdd, true_and, and_true, if_true, if_false, ite_true, ite_false, xnb_0, xnb_1, xnb_b, xk_v, xk_n, show (nI 20 < 20) = False from eq_false (by decide), mdW]
  | succ m ih =>
    intro i tp hi
    have e1 : (nI i < 20) = True := eq_true (by rw [show (20 : Int32) = nI 20 from rfl, n_lt (by omega) (by omega)]; omega)
    have e2 := (k20_d i (by omega)).1
    have e3 : nI i - nI (i / 4) * 4 = nI (i % 4) := by rw [← e2]; exact (k20_d i (by omega)).2
    have e4 : nI l + nI i = nI (l + i) := nI_ad l i
    have e5 := mb_j (x := r (i / 4)) (i % 4) (Nat.mod_lt _ (by decide))
    rw [s_M_feed_54]
    simp only [s_M_feed_56, s_M_feed_58, s_M_feed_61, s_M_feed_62, s_M_feed_65, s_M_feed_66, s_M_feed_69, s_M_feed_71, s_M_feed_72, s_M_feed_74, s_M_feed_76, s_M_feed_77, s_M_feed_78, s_M_feed_79, s_M_feed_81, s_M_feed_83, s_M_feed_85, s_M_feed_86, s_M_feed_87, s_M_feed_88, s_M_feed_89, s_M_feed_90, s_M_feed_91, s_M_feed_92, s_M_feed_95, mF, mC, ml_64, mf_64, mw_63, mw_64, ml_74, mf_74, mw_74, ml_75, mf_75, mw_75, ml_76, mf_76, mw_76, ml_77, mf_77, mw_77, xll_11, xlg_11_0, xlg_11_1, xlg_11_2, xlg_11_3, xlg_11_4, xlg_11_5, xlg_11_6, xlg_11_7, xlg_11_8, xls_11_0, xls_11_1, xls_11_2, xls_11_3, xls_11_4, xls_11_5, xls_11_6, xls_11_7, xls_11_8, not_false_eq_true, Nat.reduceLT, Nat.reduceAdd, true_and, and_true, if_true, if_false, ite_true, ite_false, xnb_0, xnb_1, xnb_b, xk_v, xk_n, e1, e2, e3, e4, e5, mH_l1 hR, mH_f1 hR, show ((4 : Int32) = 0) = False from eq_false (by decide), nvp (show i / 4 < 5 by omega) (by omega), ncl (show i / 4 < 2147483648 by omega), nvp (show l + i < 1600 by omega) (by omega), ncl (show l + i < 2147483648 by omega), nI_1]
    exact ih (i + 1) _ (by omega)
theorem c_M_feed_o (hl : l ≤ 1600) (h : 1580 < l) (p0 p1 p2 p3 p4 : Int32) : xcall E xprog (d + 2) 154 [.ref 63, .int p0, .int p1, .int p2, .int p3, .int p4] (mH H K th (nI l) ea tp nw kp wc sk) Q = Q (.inl (some (.int 0)), mH H K 1 (nI l) ea tp nw kp wc sk) := by
  have e : nI l + 20 = nI (l + 20) := nI_ad l 20
  rw [e_M_feed]
  simp only [s_M_feed_0, s_M_feed_1, s_M_feed_2, s_M_feed_5, s_M_feed_6, s_M_feed_9, s_M_feed_11, s_M_feed_12, s_M_feed_15, s_M_feed_18, s_M_feed_19, s_M_feed_20, s_M_feed_23, mF, mC, ml_64, mf_64, mw_63, mw_64, ml_74, mf_74, mw_74, ml_75, mf_75, mw_75, ml_76, mf_76, mw_76, ml_77, mf_77, mw_77, xll_11, xlg_11_0, xlg_11_1, xlg_11_2, xlg_11_3, xlg_11_4, xlg_11_5, xlg_11_6, xlg_11_7, xlg_11_8, xls_11_0, xls_11_1, xls_11_2, xls_11_3, xls_11_4, xls_11_5, xls_11_6, xls_11_7, xls_11_8, not_false_eq_true, Nat.reduceLT, Nat.reduceAdd, true_and, and_true, if_true, if_false, ite_true, ite_false, xnb_0, xnb_1, xnb_b, xk_v, xk_n, e, show ((1600 : Int32) < nI (l + 20)) = True from eq_true (by rw [show (1600 : Int32) = nI 1600 from rfl, n_lt (by omega) (by omega)]; omega), e_M_fail, s_M_fail_0, s_M_fail_1, s_M_fail_2, s_M_fail_5, s_M_fail_6]
theorem c_M_feed_i (hR : 77 < H.2.1) (h : l + 20 ≤ 1600) (p0 p1 p2 p3 p4 : Int32) : xcall E xprog (d + 2) 154 [.ref 63, .int p0, .int p1, .int p2, .int p3, .int p4] (mH H K th (nI l) ea tp nw kp wc sk) Q = Q (.inl (some (.int (nI (l + 20)))), mH (xnew H (xarI 5 (row5 p0 p1 p2 p3 p4)) 5) K 0 (nI (l + 20)) ea (fdR p0 p1 p2 p3 p4 l tp) nw kp wc sk) := by
  have e : nI l + 20 = nI (l + 20) := nI_ad l 20
  have z := fun (Q : xR → Prop) => l_M_feed (E := E) (d := d + 1) (Q := Q) (K := K) (th := 0) (ea := ea) (nw := nw) (kp := kp) (wc := wc) (sk := sk) (r := row5 p0 p1 p2 p3 p4) hR h p0 p1 p2 p3 p4 20 0 tp (by omega)
  rw [md_fd, show nI 0 = (0 : Int32) from rfl] at z
  unfold row5 at z
  rw [e_M_feed]
  simp only [s_M_feed_0, s_M_feed_1, s_M_feed_2, s_M_feed_5, s_M_feed_6, s_M_feed_9, s_M_feed_11, s_M_feed_12, s_M_feed_15, s_M_feed_24, s_M_feed_25, s_M_feed_27, s_M_feed_28, s_M_feed_29, s_M_feed_30, s_M_feed_31, s_M_feed_32, s_M_feed_33, s_M_feed_34, s_M_feed_35, s_M_feed_36, s_M_feed_37, s_M_feed_38, s_M_feed_39, s_M_feed_40, s_M_feed_41, s_M_feed_43, s_M_feed_44, s_M_feed_45, s_M_feed_46, s_M_feed_48, s_M_feed_49, s_M_feed_51, s_M_feed_52, mF, mC, ml_64, mf_64, mw_63, mw_64, ml_74, mf_74, mw_74, ml_75, mf_75, mw_75, ml_76, mf_76, mw_76, ml_77, mf_77, mw_77, xll_11, xlg_11_0, xlg_11_1, xlg_11_2, xlg_11_3, xlg_11_4, xlg_11_5, xlg_11_6, xlg_11_7, xlg_11_8, xls_11_0, xls_11_1, xls_11_2, xls_11_3, xls_11_4, xls_11_5, xls_11_6, xls_11_7, xls_11_8, not_false_eq_true, Nat.reduceLT, Nat.reduceAdd, true_and, and_true, if_true, if_false, ite_true, ite_false, xnb_0, xnb_1, xnb_b, xk_v, xk_n, e, show ((1600 : Int32) < nI (l + 20)) = False from eq_false (by rw [show (1600 : Int32) = nI 1600 from rfl, n_lt (by omega) (by omega)]; omega), show ((5 : Int32) < 0) = False from eq_false (by decide), show (0 : Int32).toNatClampNeg = 0 from rfl, show (1 : Int32).toNatClampNeg = 1 from rfl, show (2 : Int32).toNatClampNeg = 2 from rfl, show (3 : Int32).toNatClampNeg = 3 from rfl, show (4 : Int32).toNatClampNeg = 4 from rfl, show (5 : Int32).toNatClampNeg = 5 from rfl, show (5 * 4 ≤ 536870912) = True from eq_true (by decide), mH_21, mH_n1 hR, mH_w1 hR, mH_l1 hR, mH_f1 hR, show vp_in (0 : Int32) 5 = True from nvp (i := 0) (by omega) (by omega), show vp_in (1 : Int32) 5 = True from nvp (i := 1) (by omega) (by omega), show vp_in (2 : Int32) 5 = True from nvp (i := 2) (by omega) (by omega), show vp_in (3 : Int32) 5 = True from nvp (i := 3) (by omega) (by omega), show vp_in (4 : Int32) 5 = True from nvp (i := 4) (by omega) (by omega)]
  rw [z Q]
  simp only [s_M_feed_98, s_M_feed_99, s_M_feed_100, s_M_feed_103, s_M_feed_105, s_M_feed_106, s_M_feed_109, s_M_feed_110, s_M_feed_113, mF, mC, ml_64, mf_64, mw_63, mw_64, ml_74, mf_74, mw_74, ml_75, mf_75, mw_75, ml_76, mf_76, mw_76, ml_77, mf_77, mw_77, xll_11, xlg_11_0, xlg_11_1, xlg_11_2, xlg_11_3, xlg_11_4, xlg_11_5, xlg_11_6, xlg_11_7, xlg_11_8, xls_11_0, xls_11_1, xls_11_2, xls_11_3, xls_11_4, xls_11_5, xls_11_6, xls_11_7, xls_11_8, not_false_eq_true, Nat.reduceLT, Nat.reduceAdd, true_and, and_true, if_true, if_false, ite_true, ite_false, xnb_0, xnb_1, xnb_b, xk_v, xk_n, e, row5]
theorem ivC_fd (h : ivC X Kb Ks l ep tp b nm s a t) (tp' : Nat → Int32) (j : Nat) : ivC (tH X tp' j) Kb Ks j ep tp' b nm s a t := by
  obtain ⟨h1, h2, ⟨er, ep', cc, cr, ct, nx, kd, st, vl, wd, h3, h3'⟩, h4, ⟨b', nm', s', h5⟩, h6, ⟨ms, sk, hh, h7⟩, ⟨Kt, a', t', h8⟩⟩ := h
  have o : ∀ m, ¬ m = 1 ∧ ¬ m = 2 → (tH X tp' j).1 m = X.1 m := fun m hm => tH_o m hm
  refine ⟨(o 0 (by omega)).trans h1, h2, ⟨er, ep', cc, cr, ct, nx, kd, st, vl, wd, ?_, h3'⟩, kB_eq h4 (fun m _ p => o m (by omega)), ⟨b', nm', s', kB_eq h5 (fun m _ p => o m (by omega))⟩, kY_eq h6 (fun m _ p => o m (by omega)), ⟨ms, sk, hh, kT_eq h7 (fun m _ p => o m (by omega))⟩, ⟨Kt, a', t', kY_eq h8 (fun m _ p => o m (by omega))⟩⟩
  obtain ⟨_, _, t2, t3, t4, t5, t6, t7, t8⟩ := h3
  exact ⟨tH_1, tH_2, (o 3 (by omega)).trans t2, (o 4 (by omega)).trans t3, (o 5 (by omega)).trans t4, (o 6 (by omega)).trans t5, (o 7 (by omega)).trans t6, (o 8 (by omega)).trans t7, (o 9 (by omega)).trans t8⟩
theorem st_feed (hI : IV n X) (p0 p1 p2 p3 p4 : Int32) : ∃ (k v : Int32) (X1 X2 : xH), (∀ Q, xcall E xprog (d + 3) 231 [.ref 0, .int p0, .int p1, .int p2, .int p3, .int p4, .ref 78] X Q = Q (.inl (some (.int k)), X1)) ∧ (∀ Q, xcall E xprog (d + 3) 154 [.ref 63, .int p0, .int p1, .int p2, .int p3, .int p4] X1 Q = Q (.inl (some (.int v)), X2)) ∧ IVk n k X2 ∧
    (k = 0 → ∃ f : Nat → Int64, X2.1 78 = xarJ 1 f ∧ wI v (f 0)) ∧ (X2.2 = (X.2.1 + 1, X.2.2 + 5) ∨ X2.2 = (X.2.1 + 1, X.2.2 + 6)) := by
  obtain ⟨Kb, Ks, K, l, ep, th, T, tp, b, nm, s, a, t, g, q, co, ro, nk, nc, nn, cnt, rs, re, hD⟩ := hI
  obtain ⟨hc, _, ⟨_, _, _, _, _, _, _, _, _, _, ⟨ht, ht2, _⟩, _⟩, _⟩ := id hD.1
  have hl : l ≤ 1600 := hD.2.2.2.1
  have x0 := x0_of hc
  by_cases h : 1580 < l
  · obtain ⟨kp, wc, sk, m1, m2⟩ := ivD_th (ivD_new (c := .inr (12, [])) (k := 6) hD)
    refine ⟨1, 0, xnew X (.inr (12, [])) 6, _, fun Q => x_feed_12 p0 p1 p2 p3 p4 x0 (fun Q => c_T_feed_o (d := d) hc ht (by omega) h p0 p1 p2 p3 p4), fun Q => ?_, ⟨Kb, Ks, K, l, ep, T, tp, b, nm, s, a, t, g, q, co, ro, nk, nc, nn, cnt, rs, re, m2 1 kp wc sk⟩, fun h => absurd h (by decide), Or.inr rfl⟩
    exact (congrArg (fun Z => xcall E xprog (d + 3) 154 [.ref 63, .int p0, .int p1, .int p2, .int p3, .int p4] Z Q) m1).trans (c_M_feed_o (d := d + 1) hl h p0 p1 p2 p3 p4)
  · obtain ⟨⟨kp, wc, sk, m1⟩, m3, m4, m5, m6, f, hf⟩ := hD.2.1
    have m1' : xset (tH X (fdR p0 p1 p2 p3 p4 l tp) (l + 20)) 78 (xarJ 1 (vp_updL f 0 (nI (l + 20)).toInt64)) = mH (xset (tH X (fdR p0 p1 p2 p3 p4 l tp) (l + 20)) 78 (xarJ 1 (vp_updL f 0 (nI (l + 20)).toInt64))) K th (nI l) ep tp (nwO nn a t) kp wc sk := mH_of m1 (fun n h1 _ => by rw [xset_o n (by omega), tH_o n (by omega)])
    have hf1 : (tH X (fdR p0 p1 p2 p3 p4 l tp) (l + 20)).1 78 = xarJ 1 f := (tH_o 78 (by decide)).trans hf
    obtain ⟨T', hT'⟩ := byt_md (r := row5 p0 p1 p2 p3 p4) (l := l) 20 0 T tp hD.2.2.1
    rw [md_fd] at hT'
    have hk : kM (xset (tH X (fdR p0 p1 p2 p3 p4 l tp) (l + 20)) 78 (xarJ 1 (vp_updL f 0 (nI (l + 20)).toInt64))) K g q := kM_eq m3 (fun n h1 h2 => by rw [xset_o n (by rcases m4 with z | z <;> omega), tH_o n (by rcases m4 with z | z <;> omega)])
    refine ⟨0, nI (l + 20), _, _, fun Q => w_feed p0 p1 p2 p3 p4 x0 (fun Q => (congrArg (fun Z => xcall E xprog (d + 2) 69 [.ref 0, .int p0, .int p1, .int p2, .int p3, .int p4] Z Q) (tH_of ht ht2)).trans (c_T_feed_i (d := d) (l := l) hc (by omega) p0 p1 p2 p3 p4)) hf1, fun Q => (congrArg (fun Z => xcall E xprog (d + 3) 154 [.ref 63, .int p0, .int p1, .int p2, .int p3, .int p4] Z Q) m1').trans (c_M_feed_i (d := d + 1) (l := l) (show 77 < (xset (tH X (fdR p0 p1 p2 p3 p4 l tp) (l + 20)) 78 (xarJ 1 (vp_updL f 0 (nI (l + 20)).toInt64))).2.1 from by show 77 < X.2.1; omega) (by omega) p0 p1 p2 p3 p4), ⟨Kb, Ks, K, l + 20, ep, T', fdR p0 p1 p2 p3 p4 l tp, b, nm, s, a, t, g, q, co, ro, nk, nc, nn, cnt, rs, re, ?_, ⟨⟨kp, wc, sk, mH_mH.symm⟩, mH_kM (kM_n1 hk m5) m4, m4, ?_, ?_, vp_updL f 0 (nI (l + 20)).toInt64, ?_⟩, hT', by omega, hD.2.2.2.2⟩, fun _ => ⟨vp_updL f 0 (nI (l + 20)).toInt64, ?_, updL_s⟩, Or.inl rfl⟩
    · exact ivC_eq (ivC_fd hD.1 (fdR p0 p1 p2 p3 p4 l tp) (l + 20)) (fun n hn => by rw [mH_o n (by omega), xnew_g]; exact (if_neg (show ¬ n = X.2.1 by omega)).trans (xset_o n (by omega)))
    · show K + 8 < X.2.1 + 1
      omega
    · show 78 < X.2.1 + 1
      omega
    · rw [mH_o 78 (by omega), xnew_g]
      exact (if_neg (show ¬ 78 = X.2.1 by omega)).trans (xset_s 78 rfl)
    · rw [mH_o 78 (by omega), xnew_g]
      exact (if_neg (show ¬ 78 = X.2.1 by omega)).trans (xset_s 78 rfl)
end FEED
