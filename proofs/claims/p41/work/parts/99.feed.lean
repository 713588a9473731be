/-! ===== the tape is fed ===== -/
section FEED
variable {E : xE} {d D n n' Ln Mn j : Nat} {Q : xR → Prop} {X X1 X' H : xH} {Kb Ks Kt K l : Nat} {ep th k v : Int32} {T : Nat → Nat} {tp : Nat → Int32} {b : Nat → Nat → Int32} {nm : Nat → Int64} {s : Nat → Int32} {a a' : Nat → Nat → Int32} {t t' : Nat → Int32} {co ro nk nc nn cnt : Nat} {rs re : Nat → Nat} {ms sk : Nat → Int32} {sz ea h : Int32} {h' : Int32} {q : Nat → Int32}
variable {tp' r : Nat → Int32} {x : Int32} {T' : Nat → Nat}
/-- the byte of x that comes j-th -/
def bv (x : Int32) (j : Nat) : Nat := (x.toBitVec.toNat >>> (24 - 8 * j)) % 256
theorem bv_lt {j : Nat} : bv x j < 256 := Nat.mod_lt _ (by decide)
theorem by_ss (x : BitVec 32) (s : Nat) (hs : s ≤ 24) : (x.sshiftRight s).setWidth 8 = (x >>> s).setWidth 8 := by
  apply BitVec.eq_of_getLsbD_eq
  intro i hi
  simp only [BitVec.getLsbD_setWidth, BitVec.getLsbD_sshiftRight, BitVec.getLsbD_ushiftRight]
  rw [decide_eq_true hi, decide_eq_false (show ¬ 32 ≤ i by omega), if_pos (show s + i < 32 by omega)]
  rfl
theorem by_us (x : BitVec 32) (s : Nat) : (x >>> s).setWidth 8 = (BitVec.ofNat 32 ((x.toNat >>> s) % 256)).setWidth 8 := by
  apply BitVec.eq_of_toNat_eq
  simp only [BitVec.toNat_setWidth, BitVec.toNat_ushiftRight, BitVec.toNat_ofNat]
  omega
theorem i8_of {y z : Int32} (h : y.toBitVec.setWidth 8 = z.toBitVec.setWidth 8) : y.toInt8 = z.toInt8 := by
  apply Int8.toBitVec_inj.mp
  rw [Int32.toBitVec_toInt8, Int32.toBitVec_toInt8, BitVec.signExtend_eq_setWidth_of_le _ (by decide), BitVec.signExtend_eq_setWidth_of_le _ (by decide)]
  exact h
theorem nar_b (y : Int32) : vp_nar .byte y = y.toInt8.toInt32 := rfl
theorem i8_i8 (y : Int32) : y.toInt8.toInt32.toInt8 = y.toInt8 := by
  apply i8_of
  rw [Int8.toBitVec_toInt32, Int32.toBitVec_toInt8]
  apply BitVec.eq_of_getLsbD_eq
  intro i hi
  simp only [BitVec.getLsbD_setWidth, BitVec.getLsbD_signExtend]
  simp [hi, show i < 32 by omega]
theorem by_c {y : Int32} {j : Nat} (h : y.toBitVec.setWidth 8 = (x.toBitVec >>> (24 - 8 * j)).setWidth 8) : vp_nar .byte y.toInt8.toInt32 = sb (bv x j) := by
  rw [nar_b, i8_i8]
  unfold sb
  rw [show y.toInt8 = (nI (bv x j)).toInt8 from i8_of (h.trans (by_us _ _))]
theorem cb_0 : vp_nar .byte ((x.toUInt32 >>> ((24 : Int32).toUInt32 &&& Int32.toUInt32 31)).toInt32.toInt8.toInt32) = sb (bv x 0) := by_c (j := 0) rfl
theorem cb_1 : vp_nar .byte ((x.toUInt32 >>> ((16 : Int32).toUInt32 &&& Int32.toUInt32 31)).toInt32.toInt8.toInt32) = sb (bv x 1) := by_c (j := 1) rfl
theorem cb_2 : vp_nar .byte ((x.toUInt32 >>> ((8 : Int32).toUInt32 &&& Int32.toUInt32 31)).toInt32.toInt8.toInt32) = sb (bv x 2) := by_c (j := 2) rfl
theorem cb_3 : vp_nar .byte ((x.toUInt32 >>> ((0 : Int32).toUInt32 &&& Int32.toUInt32 31)).toInt32.toInt8.toInt32) = sb (bv x 3) := by_c (j := 3) rfl
theorem mb_j (j : Nat) (hj : j < 4) : vp_nar .byte ((x >>> ((24 - 8 * nI j) &&& 31)).toInt8.toInt32) = sb (bv x j) := by
  rcases (show j = 0 ∨ j = 1 ∨ j = 2 ∨ j = 3 by omega) with z | z | z | z <;> subst z
  · exact by_c (j := 0) (by_ss x.toBitVec 24 (by decide))
  · exact by_c (j := 1) (by_ss x.toBitVec 16 (by decide))
  · exact by_c (j := 2) (by_ss x.toBitVec 8 (by decide))
  · exact by_c (j := 3) (by_ss x.toBitVec 0 (by decide))
/-- the heap with the class's tape -/
def tH (X : xH) (tp : Nat → Int32) (l : Nat) : xH := xset (xset X 2 (xarB 1600 tp)) 1 (.inr (6, [.ref 2, .int (nI l)]))
theorem tH_1 : (tH X tp l).1 1 = .inr (6, [.ref 2, .int (nI l)]) := xset_s 1 rfl
theorem tH_2 : (tH X tp l).1 2 = xarB 1600 tp := (xset_o 2 (by decide)).trans (xset_s 2 rfl)
theorem tH_o (m : Nat) (h : ¬ m = 1 ∧ ¬ m = 2) : (tH X tp l).1 m = X.1 m := (xset_o m h.1).trans (xset_o m h.2)
theorem tH_w2 : xset (tH X tp l) 2 (xarB 1600 tp') = tH X tp' l := by
  refine Prod.ext (funext fun n => ?_) rfl
  by_cases p : n = 2
  · subst p
    rw [xset_s 2 rfl, tH_2]
  · rw [xset_o n p]
    by_cases p1 : n = 1
    · subst p1
      rw [tH_1, tH_1]
    · rw [tH_o n ⟨p1, p⟩, tH_o n ⟨p1, p⟩]
theorem tH_w1 {j : Nat} : xset (tH X tp l) 1 (.inr (6, [.ref 2, .int (nI j)])) = tH X tp j := by
  refine Prod.ext (funext fun n => ?_) rfl
  by_cases p : n = 1
  · subst p
    rw [xset_s 1 rfl, tH_1]
  · rw [xset_o n p]
    by_cases p1 : n = 2
    · subst p1
      rw [tH_2, tH_2]
    · rw [tH_o n ⟨p, p1⟩, tH_o n ⟨p, p1⟩]
theorem tH_of (h1 : X.1 1 = .inr (6, [.ref 2, .int (nI l)])) (h2 : X.1 2 = xarB 1600 tp) : X = tH X tp l := by
  refine Prod.ext (funext fun n => ?_) rfl
  by_cases p : n = 1
  · subst p
    rw [tH_1, h1]
  · by_cases p1 : n = 2
    · subst p1
      rw [tH_2, h2]
    · rw [tH_o n ⟨p, p1⟩]
theorem tH_F : xfls (tH X tp l) 1 6 = [.ref 2, .int (nI l)] := xf_of tH_1
theorem tH_C : xcl (tH X tp l) 1 = 6 := xc_of tH_1
theorem tH_l : xlenB (tH X tp l) 2 = 1600 := xBl_of tH_2
theorem tH_f : xfnB (tH X tp l) 2 = tp := xBf_of tH_2
def apR (x : Int32) (l : Nat) (tp : Nat → Int32) : Nat → Int32 := upd (upd (upd (upd tp l (sb (bv x 0))) (l + 1) (sb (bv x 1))) (l + 1 + 1) (sb (bv x 2))) (l + 1 + 1 + 1) (sb (bv x 3))
theorem f_Ta_append (hl : l + 4 ≤ 1600) : xcall E xprog (d + 1) 50 [.ref 1, .int x] (tH X tp l) Q = Q (.inl none, tH X (apR x l tp) (l + 4)) := by
  have al : ∀ ls st (tp : Nat → Int32) (l : Nat), xr E d m_Ta_append Q (15, ls, .ref 2 :: st, tH X tp l) = xr E d m_Ta_append Q (16, ls, .int (nI 1600) :: st, tH X tp l) := fun ls st tp l => xr_len (y := m_Ta_append) (pc := 15) rfl (xlenB_of tH_2)
  rw [e_Ta_append, s_Ta_append_0, s_Ta_append_2, s_Ta_append_3]
  simp only [s_Ta_append_4, s_Ta_append_7, s_Ta_append_8, s_Ta_append_11, s_Ta_append_12, s_Ta_append_16, s_Ta_append_19, s_Ta_append_20, s_Ta_append_23, s_Ta_append_24, s_Ta_append_27, s_Ta_append_28, s_Ta_append_29, s_Ta_append_30, s_Ta_append_31, s_Ta_append_32, s_Ta_append_33, s_Ta_append_34, s_Ta_append_37, s_Ta_append_38, s_Ta_append_39, s_Ta_append_42, s_Ta_append_45, not_false_eq_true, Nat.reduceLT, Nat.reduceAdd, true_and, and_true, if_true, if_false, ite_true, ite_false, xnb_0, xnb_1, xnb_b, xk_v, xk_n, show ((24 : Int32) < 0) = False from eq_false (by decide), tH_F, tH_C, tH_l, tH_f, tH_w1, tH_w2, xll_6, xlg_6_0, xlg_6_1, xls_6_0, xls_6_1, al, nlt (show l < 1600 by omega) (by omega), nvp (show l < 1600 by omega) (by omega), ncl (show l < 2147483648 by omega), cb_0, nI_1, show (24 : Int32) + (-8) = 16 from rfl]
  rw [s_Ta_append_3]
  simp only [s_Ta_append_4, s_Ta_append_7, s_Ta_append_8, s_Ta_append_11, s_Ta_append_12, s_Ta_append_16, s_Ta_append_19, s_Ta_append_20, s_Ta_append_23, s_Ta_append_24, s_Ta_append_27, s_Ta_append_28, s_Ta_append_29, s_Ta_append_30, s_Ta_append_31, s_Ta_append_32, s_Ta_append_33, s_Ta_append_34, s_Ta_append_37, s_Ta_append_38, s_Ta_append_39, s_Ta_append_42, s_Ta_append_45, not_false_eq_true, Nat.reduceLT, Nat.reduceAdd, true_and, and_true, if_true, if_false, ite_true, ite_false, xnb_0, xnb_1, xnb_b, xk_v, xk_n, show ((16 : Int32) < 0) = False from eq_false (by decide), tH_F, tH_C, tH_l, tH_f, tH_w1, tH_w2, xll_6, xlg_6_0, xlg_6_1, xls_6_0, xls_6_1, al, nlt (show l + 1 < 1600 by omega) (by omega), nvp (show l + 1 < 1600 by omega) (by omega), ncl (show l + 1 < 2147483648 by omega), cb_1, nI_1, show (16 : Int32) + (-8) = 8 from rfl]
  rw [s_Ta_append_3]
  simp only [s_Ta_append_4, s_Ta_append_7, s_Ta_append_8, s_Ta_append_11, s_Ta_append_12, s_Ta_append_16, s_Ta_append_19, s_Ta_append_20, s_Ta_append_23, s_Ta_append_24, s_Ta_append_27, s_Ta_append_28, s_Ta_append_29, s_Ta_append_30, s_Ta_append_31, s_Ta_append_32, s_Ta_append_33, s_Ta_append_34, s_Ta_append_37, s_Ta_append_38, s_Ta_append_39, s_Ta_append_42, s_Ta_append_45, not_false_eq_true, Nat.reduceLT, Nat.reduceAdd, true_and, and_true, if_true, if_false, ite_true, ite_false, xnb_0, xnb_1, xnb_b, xk_v, xk_n, show ((8 : Int32) < 0) = False from eq_false (by decide), tH_F, tH_C, tH_l, tH_f, tH_w1, tH_w2, xll_6, xlg_6_0, xlg_6_1, xls_6_0, xls_6_1, al, nlt (show l + 1 + 1 < 1600 by omega) (by omega), nvp (show l + 1 + 1 < 1600 by omega) (by omega), ncl (show l + 1 + 1 < 2147483648 by omega), cb_2, nI_1, show (8 : Int32) + (-8) = 0 from rfl]
  rw [s_Ta_append_3]
  simp only [s_Ta_append_4, s_Ta_append_7, s_Ta_append_8, s_Ta_append_11, s_Ta_append_12, s_Ta_append_16, s_Ta_append_19, s_Ta_append_20, s_Ta_append_23, s_Ta_append_24, s_Ta_append_27, s_Ta_append_28, s_Ta_append_29, s_Ta_append_30, s_Ta_append_31, s_Ta_append_32, s_Ta_append_33, s_Ta_append_34, s_Ta_append_37, s_Ta_append_38, s_Ta_append_39, s_Ta_append_42, s_Ta_append_45, not_false_eq_true, Nat.reduceLT, Nat.reduceAdd, true_and, and_true, if_true, if_false, ite_true, ite_false, xnb_0, xnb_1, xnb_b, xk_v, xk_n, Int32.lt_irrefl, tH_F, tH_C, tH_l, tH_f, tH_w1, tH_w2, xll_6, xlg_6_0, xlg_6_1, xls_6_0, xls_6_1, al, nlt (show l + 1 + 1 + 1 < 1600 by omega) (by omega), nvp (show l + 1 + 1 + 1 < 1600 by omega) (by omega), ncl (show l + 1 + 1 + 1 < 2147483648 by omega), cb_3, nI_1, show (0 : Int32) + (-8) = -8 from rfl]
  rw [s_Ta_append_3]
  simp only [s_Ta_append_4, s_Ta_append_48, show ((-8 : Int32) < 0) = True from eq_true (by decide), if_true]
  rfl
def fdR (a b c e f : Int32) (l : Nat) (tp : Nat → Int32) : Nat → Int32 := apR f (l + 4 + 4 + 4 + 4) (apR e (l + 4 + 4 + 4) (apR c (l + 4 + 4) (apR b (l + 4) (apR a l tp))))
theorem c_T_feed_i (hc : X.1 0 = tgC Kb Ks ep) (h : l + 20 ≤ 1600) (p0 p1 p2 p3 p4 : Int32) : xcall E xprog (d + 2) 68 [.ref 0, .int p0, .int p1, .int p2, .int p3, .int p4] (tH X tp l) Q = Q (.inl (some (.int (nI (l + 20)))), tH X (fdR p0 p1 p2 p3 p4 l tp) (l + 20)) := by
  have hc1 : ∀ tp l, (tH X tp l).1 0 = tgC Kb Ks ep := fun tp l => (tH_o 0 (by decide)).trans hc
  have z := fun (Q : xR → Prop) (x : Int32) (tp : Nat → Int32) (l : Nat) (hl : l + 4 ≤ 1600) => f_Ta_append (E := E) (d := d) (Q := Q) (X := X) (tp := tp) (x := x) hl
  unfold tgC at hc1
  rw [e_T_feed]
  simp only [s_T_feed_0, s_T_feed_1, s_T_feed_4, s_T_feed_7, s_T_feed_10, s_T_feed_13, s_T_feed_23, s_T_feed_24, s_T_feed_27, s_T_feed_28, s_T_feed_31, s_T_feed_32, s_T_feed_35, s_T_feed_36, s_T_feed_39, s_T_feed_40, s_T_feed_43, s_T_feed_44, s_T_feed_47, s_T_feed_48, s_T_feed_51, s_T_feed_53, s_T_feed_56, s_T_feed_57, s_T_feed_60, s_T_feed_62, s_T_feed_65, s_T_feed_66, s_T_feed_69, s_T_feed_72, xf_of (hc1 _ _), tH_F, tH_C, xll_8, xlg_8_0, xlg_8_1, xlg_8_2, xlg_8_3, xlg_8_4, xlg_8_5, xlg_8_6, xll_6, xlg_6_0, xlg_6_1, not_false_eq_true, Nat.reduceLT, Nat.reduceAdd, true_and, and_true, if_true, if_false, ite_true, ite_false, xnb_0, xnb_1, xnb_b, xk_v, xk_n, show ((1580 : Int32) < nI l) = False from eq_false (by rw [show (1580 : Int32) = nI 1580 from rfl, n_lt (by omega) (by omega)]; omega), fun Q x tp => z Q x tp l (by omega), fun Q x tp => z Q x tp (l + 4) (by omega), fun Q x tp => z Q x tp (l + 4 + 4) (by omega), fun Q x tp => z Q x tp (l + 4 + 4 + 4) (by omega), fun Q x tp => z Q x tp (l + 4 + 4 + 4 + 4) (by omega)]
  rfl
end FEED
