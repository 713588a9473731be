/-! ===== the law: an hour, kettles behind it, the loop ===== -/
section LAW4
variable {E : xE} {d D : Nat} {Q : xR → Prop} {H H' W X Z : xH} {ad ro : Nat → Nat} {b a a' a2 : Nat → Nat → Int32} {s t t' t2 ms sk : Nat → Int32} {nk nc nn lo hi co rw' n cnt Kb Ks c i j q1 q2 q3 : Nat} {ru : Nat → Option Nat} {nm : Nat → Int64} {rs re : Nat → Nat} {ep h : Int32} {x y v z w v4 v5 v6 v9 v10 v11 v12 v13 : Int32} {u3 u4 u5 u6 u7 u8 u9 u10 u11 u12 u13 u14 u15 u16 u17 u18 u19 u20 u21 u22 : Option Value}
variable {st k : Nat}
theorem hrV_1 {x : bhr} : hrV b s nk nc nn rs re 1 x 0 = 0 + phV b x.2 s nk nc nn rs re x.1 := rfl
theorem lw_4 (hS : jS E ad ro nk nc nn lo hi b s cnt rs re co rw') (hI : jI E ro ru nk nn lo hi Kb Ks ep b nm s co rw' n W a t) (hy : kWy a nn) (hn : n < 999990) (hN : ktN W q1 q2 nk a nk) (hA : waN W q3 nn a t nn) (h1 : hi ≤ q1) (h2 : hi ≤ q2) (h3 : hi ≤ q3) (l1 : q1 < W.2.1) (l2 : q2 < W.2.1) (l3 : q3 < W.2.1) : ∃ X, (∀ Q, xr E (d + 156) m_L_law Q (627, [some (.retAddr 0), some (.ref 0), some (.ref (ad 1)), some (.int (nI i)), some (.int (v4)), some (.int (nI nn)), some (.int (v6)), some (.ref (q1)), some (.ref (q2)), some (.ref (q3)), some (.int (nI nn)), u11, u12, u13, u14, u15, u16, u17, u18, u19, u20, u21, u22], [], (jH ad ro b s nk nc nn ru W a t)) = xr E (d + 156) m_L_law Q (654, [some (.retAddr 0), some (.ref 0), some (.ref (ad 1)), some (.int (nI i)), some (.int (v4)), some (.int (nI nn)), some (.int (v6)), some (.ref (q1)), some (.ref (q2)), some (.ref (q3)), some (.int (t 2)), some (.int (phV b t s nk nc nn rs re (a, fun _ => 0, fun _ => 0, 0))), some (.int (0)), some (.int (0)), some (.int (nI 0)), u15, u16, u17, u18, u19, u20, u21, u22], [], (jH ad ro b s nk nc nn ru X (hrC b s nk nc nn rs re (bx a t)).1.1 (phT t)))) ∧ jI E ro ru nk nn lo hi Kb Ks ep b nm s co rw' (n + 6) X (hrC b s nk nc nn rs re (bx a t)).1.1 (phT t) ∧ kWy (hrC b s nk nc nn rs re (bx a t)).1.1 nn ∧ ktN X q1 q2 nk a nk ∧ waN X q3 nn a t nn ∧ W.2.1 ≤ X.2.1 ∧ X.2.1 ≤ W.2.1 + 7 ∧ X.2.2 ≤ W.2.2 + 70 := by
  have hz := jS_z hS
  obtain ⟨hj, hlo, hlz, hB, hW, hR, hn1, hd1, hd2⟩ := id hS
  obtain ⟨w1, w2, w3, w4, w5, w6, -⟩ := id hW
  have lohi : lo < hi := by
    have o := (hS.1.2.2.2.2 (ad 1) (by rw [hS.1.2.2.2.1 1 (Or.inl ⟨by omega, by omega⟩)]; omega)).2.2
    omega
  obtain ⟨s0, s1, hco, hro, h6, -⟩ := id hB
  obtain ⟨z1, -, z3, z4, -⟩ := cls_J (ad := ad) (nk := nk) (nc := nc) (nn := nn) (ru := ru) (a2 := a) (t2 := t) (b2 := b) (s2 := s) hI.1 hz
  have c1 : xcl (jH ad ro b s nk nc nn ru W a t) 0 = 8 := xc_of z1
  have g1 := fun (Q : xR → Prop) => c_T_hour (E := E) (d := d + 155) (Q := Q) z1 z4
  obtain ⟨Y, y1, y2, y3, y4⟩ := jc_sail (E := E) (d := d + 148) (ad := ad) (ru := ru) (a2 := a) (t2 := t) (b2 := b) (s2 := s) hI.1 hz hW hR (j := 1) (by omega) (by omega)
  have k1 : kSt (hrC b s nk nc nn rs re (bx a t)).1.1 (phT t) co rw' nk nn (n + 6) := hr_S (x := bx a t) h6 s0 s1 hco hro w6 hI.2.2.2 hn
  have hI1 : jI E ro ru nk nn lo hi Kb Ks ep b nm s co rw' (n + 6) Y (hrC b s nk nc nn rs re (bx a t)).1.1 (phT t) := jI_op hI hlo y2 y3 y4 k1
  obtain ⟨X, x1, x2, x3, x4, x5⟩ := c_S_pass (E := E) (d := d + 150) (x := bx a t) (ru := ru) (H := Y) hR hj hB hI.2.2.2 hn (jL_R hI1.2.1) hI1.2.2.1
  have c2 : xcl (jH ad ro b s nk nc nn ru Y a t) (ad 1) = 10 := xc_of (j_1 hj)
  have y1' : ∀ Q, xcall E xprog (d + 156) 99 [.ref 0, .int 1] (jH ad ro b s nk nc nn ru W a t) Q = Q (.inl (some (.int (0 + phV b t s nk nc nn rs re (a, fun _ => 0, fun _ => 0, 0)))), jH ad ro b s nk nc nn ru Y a t) := y1
  have x1' : ∀ Q, xcall E xprog (d + 156) 117 [.ref (ad 1)] (jH ad ro b s nk nc nn ru Y a t) Q = Q (.inl (some (.int (phV b t s nk nc nn rs re (a, fun _ => 0, fun _ => 0, 0)))), jH ad ro b s nk nc nn ru X (hrC b s nk nc nn rs re (bx a t)).1.1 (phT t)) := x1
  have y31 : Y.2.1 = W.2.1 := by rw [y3]
  have y32 : Y.2.2 = W.2.2 := by rw [y3]
  have fr : ∀ n, 63 ≤ n → n < W.2.1 → X.1 n = W.1 n := fun n h1 h2 => (x2 n (by omega)).trans (y4 n h1)
  obtain ⟨f, g, f1, f2, f3⟩ := hN
  obtain ⟨gw, a1, a2⟩ := hA
  refine ⟨X, fun Q => ?_, jI_up hS hI1 x2 x3, hr_way (x := bx a t) h6 hI.2.2.2 hy, ⟨f, g, (fr q1 (by omega) l1).trans f1, (fr q2 (by omega) l2).trans f2, f3⟩, ⟨gw, (fr q3 (by omega) l3).trans a1, fun j hj => ?_⟩, by omega, by omega, by omega⟩
  · simp only [↓reduceIte, s_L_law_627, s_L_law_628, s_L_law_631, s_L_law_633, s_L_law_634, s_L_law_635, s_L_law_638, s_L_law_640, s_L_law_641, s_L_law_644, s_L_law_645, s_L_law_646, s_L_law_648, s_L_law_649, s_L_law_651, s_L_law_652, not_false_eq_true, Nat.reduceLT, Nat.reduceAdd, true_and, and_true, if_true, if_false, ite_true, ite_false, xnb_0, xnb_1, xnb_b, xk_v, xk_n, c1, g1, y1', c2, x1', i_z0]
    rfl
  · obtain ⟨r, r1, r2, r3, r4⟩ := a2 j hj
    exact ⟨r, r1, r2, by omega, (fr r (by omega) r3).trans r4⟩
/-- a kettle behind an hour -/
theorem lw_6 (hS : jS E ad ro nk nc nn lo hi b s cnt rs re co rw') (hI : jI E ro ru nk nn lo hi Kb Ks ep b nm s co rw' n W a' t') (hS0 : kSt a t co rw' nk nn j) (hK : ∀ k, k < nk → (a' 2 k - a 2 k = 0 ∧ a' 0 k = if 0 < a 0 k then a 0 k - 1 else a 0 k) ∨ (a' 2 k - a 2 k = 1 ∧ a 0 k = 0 ∧ a' 0 k = 5)) (hN : ktN W q1 q2 nk a nk) (h1 : hi ≤ q1) (h2 : hi ≤ q2) : ∀ (m k : Nat) (v14 : Int32) (u16 u17 u18 u19 u20 u21 u22 : Option Value), k + m = nk → ∃ k16 k17 k18 k19 k20 k21 k22, ∀ Q, xr E (d + 156) m_L_law Q (1054, [some (.retAddr 0), some (.ref 0), some (.ref (ad 1)), some (.int (nI i)), some (.int (v4)), some (.int (nI nn)), some (.int (v6)), some (.ref (q1)), some (.ref (q2)), some (.ref (q3)), some (.int (v10)), some (.int (v11)), some (.int (v12)), some (.int (v13)), some (.int (v14)), some (.int (nI k)), u16, u17, u18, u19, u20, u21, u22], [], (jH ad ro b s nk nc nn ru W a' t')) = xr E (d + 156) m_L_law Q (1143, [some (.retAddr 0), some (.ref 0), some (.ref (ad 1)), some (.int (nI i)), some (.int (v4)), some (.int (nI nn)), some (.int (v6)), some (.ref (q1)), some (.ref (q2)), some (.ref (q3)), some (.int (v10)), some (.int (v11)), some (.int (v12)), some (.int (v13)), some (.int (sumP (fun k => a' 2 k - a 2 k) k m v14)), some (.int (nI nk)), k16, k17, k18, k19, k20, k21, k22], [], (jH ad ro b s nk nc nn ru W a' t'))
  | 0, k, v14, u16, u17, u18, u19, u20, u21, u22, hk => by
    obtain rfl : k = nk := by omega
    have h6 := hS.1.1
    obtain ⟨f, g, f1, g1, fg⟩ := hN
    have p1 := (j_out (nk := k) (b := b) (s := s) (ru := ru) (H := W) (a := a') (t := t') hS.1 h1).trans f1
    refine ⟨u16, u17, u18, u19, u20, u21, u22, fun Q => ?_⟩
    rw [s_L_law_1054]
    simp only [↓reduceIte, s_L_law_1056, s_L_law_1058, s_L_law_1059, not_false_eq_true, Nat.reduceLT, Nat.reduceAdd, true_and, and_true, if_true, if_false, ite_true, ite_false, xnb_0, xnb_1, xnb_b, xk_v, xk_n, xln_I p1, Option.isSome_some, Option.getD_some, nge (Nat.le_refl k) (show k < 2147483648 by omega), sumP]
  | m + 1, k, v14, u16, u17, u18, u19, u20, u21, u22, hk => by
    have hk' : k < nk := by omega
    have hz := jS_z hS
    obtain ⟨hj, hlo, hlz, hB, hW, hR, hn1, hd1, hd2⟩ := id hS
    obtain ⟨w1, w2, w3, w4, w5, w6, -⟩ := id hW
    obtain ⟨z1, -, z3, z4, -⟩ := cls_J (ad := ad) (nk := nk) (nc := nc) (nn := nn) (ru := ru) (a2 := a') (t2 := t') (b2 := b) (s2 := s) hI.1 hz
    obtain ⟨f, g, f1, g1, fg⟩ := id hN
    have p1 := (j_out (b := b) (s := s) (ru := ru) (H := W) (a := a') (t := t') hj h1).trans f1
    have p2 := (j_out (b := b) (s := s) (ru := ru) (H := W) (a := a') (t := t') hj h2).trans g1
    have c1 : xcl (jH ad ro b s nk nc nn ru W a' t') 0 = 8 := xc_of z1
    have e1 := fun (Q : xR → Prop) => c_T_visitsTo_i (E := E) (d := d + 153) (Q := Q) z1 z3 z4 w1 w2 hk'
    have e2 := fun (Q : xR → Prop) => c_T_becalmedFor_i (E := E) (d := d + 153) (Q := Q) z1 z3 z4 w1 w2 hk'
    obtain ⟨fk, gk⟩ := fg k hk'
    obtain ⟨zc, zc1, zc2⟩ := hS0.1 k hk'
    obtain ⟨k16, k17, k18, k19, k20, k21, k22, ih⟩ := lw_6 hS hI hS0 hK hN h1 h2 m (k + 1) (v14 + (a' 2 k - a 2 k)) (some (.int (a' 2 k - a 2 k))) u17 u18 u19 u20 u21 u22 (by omega)
    refine ⟨k16, k17, k18, k19, k20, k21, k22, fun Q => Eq.trans ?_ (ih Q)⟩
    have s00 : ((0 : Int32) < 0) = False := eq_false (by decide)
    have s10 : ((1 : Int32) < 0) = False := eq_false (by decide)
    have s11 : ((1 : Int32) < 1) = False := eq_false (by decide)
    have s01 : ((0 : Int32) < 1) = True := eq_true (by decide)
    rw [s_L_law_1054]
    rcases hK k hk' with ⟨h3, h4⟩ | ⟨h3, h4, h5⟩
    · have mx : (if 0 < a 0 k - 1 then a 0 k - 1 else 0) = a' 0 k := by
        rw [h4, zc2]
        by_cases z0 : zc = 0
        · subst z0; decide
        · have ez : nI zc - 1 = nI (zc - 1) := nI_s1 (by omega)
          rw [ez, if_pos (show (0 : Int32) < nI zc from of_eq_true (nlt (i := 0) (by omega) (by omega)))]
          by_cases z1 : zc = 1
          · subst z1; decide
          · rw [if_pos (show (0 : Int32) < nI (zc - 1) from of_eq_true (nlt (i := 0) (by omega) (by omega)))]
      by_cases e0 : a 0 k = 0
      · simp only [↓reduceIte, s_L_law_1056, s_L_law_1058, s_L_law_1059, s_L_law_1062, s_L_law_1063, s_L_law_1065, s_L_law_1068, s_L_law_1070, s_L_law_1072, s_L_law_1073, s_L_law_1074, s_L_law_1076, s_L_law_1078, s_L_law_1080, s_L_law_1081, s_L_law_1083, s_L_law_1085, s_L_law_1088, s_L_law_1090, s_L_law_1092, s_L_law_1094, s_L_law_1095, s_L_law_1098, s_L_law_1099, s_L_law_1102, s_L_law_1103, s_L_law_1106, s_L_law_1107, s_L_law_1109, s_L_law_1112, s_L_law_1114, s_L_law_1117, s_L_law_1118, s_L_law_1121, s_L_law_1122, s_L_law_1124, s_L_law_1126, s_L_law_1127, s_L_law_1128, s_L_law_1129, s_L_law_1132, s_L_law_1135, s_L_law_1136, s_L_law_1137, s_L_law_1140, not_false_eq_true, Nat.reduceLT, Nat.reduceAdd, true_and, and_true, if_true, if_false, ite_true, ite_false, xnb_0, xnb_1, xnb_b, xk_v, xk_n, xln_I p1, Option.isSome_some, Option.getD_some, nlt hk' (show nk < 2147483648 by omega), c1, e1, e2, xIl_of p1, xIf_of p1, xIl_of p2, xIf_of p2, fk, gk, nvp hk' (show nk < 2147483648 by omega), ncl (show k < 2147483648 by omega), h3, s00, s10, eq_true e0, mx, show nI k + 1 = nI (k + 1) from nI_ad k 1]
      · simp only [↓reduceIte, s_L_law_1056, s_L_law_1058, s_L_law_1059, s_L_law_1062, s_L_law_1063, s_L_law_1065, s_L_law_1068, s_L_law_1070, s_L_law_1072, s_L_law_1073, s_L_law_1074, s_L_law_1076, s_L_law_1078, s_L_law_1080, s_L_law_1081, s_L_law_1083, s_L_law_1085, s_L_law_1088, s_L_law_1090, s_L_law_1092, s_L_law_1094, s_L_law_1095, s_L_law_1098, s_L_law_1099, s_L_law_1102, s_L_law_1103, s_L_law_1106, s_L_law_1107, s_L_law_1109, s_L_law_1112, s_L_law_1114, s_L_law_1117, s_L_law_1118, s_L_law_1121, s_L_law_1122, s_L_law_1124, s_L_law_1126, s_L_law_1127, s_L_law_1128, s_L_law_1129, s_L_law_1132, s_L_law_1135, s_L_law_1136, s_L_law_1137, s_L_law_1140, not_false_eq_true, Nat.reduceLT, Nat.reduceAdd, true_and, and_true, if_true, if_false, ite_true, ite_false, xnb_0, xnb_1, xnb_b, xk_v, xk_n, xln_I p1, Option.isSome_some, Option.getD_some, nlt hk' (show nk < 2147483648 by omega), c1, e1, e2, xIl_of p1, xIf_of p1, xIl_of p2, xIf_of p2, fk, gk, nvp hk' (show nk < 2147483648 by omega), ncl (show k < 2147483648 by omega), h3, s00, s10, eq_false e0, mx, show nI k + 1 = nI (k + 1) from nI_ad k 1]
    · simp only [↓reduceIte, s_L_law_1056, s_L_law_1058, s_L_law_1059, s_L_law_1062, s_L_law_1063, s_L_law_1065, s_L_law_1068, s_L_law_1070, s_L_law_1072, s_L_law_1073, s_L_law_1074, s_L_law_1076, s_L_law_1078, s_L_law_1080, s_L_law_1081, s_L_law_1083, s_L_law_1085, s_L_law_1088, s_L_law_1090, s_L_law_1092, s_L_law_1094, s_L_law_1095, s_L_law_1098, s_L_law_1099, s_L_law_1102, s_L_law_1103, s_L_law_1106, s_L_law_1107, s_L_law_1109, s_L_law_1112, s_L_law_1114, s_L_law_1117, s_L_law_1118, s_L_law_1121, s_L_law_1122, s_L_law_1124, s_L_law_1126, s_L_law_1127, s_L_law_1128, s_L_law_1129, s_L_law_1132, s_L_law_1135, s_L_law_1136, s_L_law_1137, s_L_law_1140, not_false_eq_true, Nat.reduceLT, Nat.reduceAdd, true_and, and_true, if_true, if_false, ite_true, ite_false, xnb_0, xnb_1, xnb_b, xk_v, xk_n, xln_I p1, Option.isSome_some, Option.getD_some, nlt hk' (show nk < 2147483648 by omega), c1, e1, e2, xIl_of p1, xIf_of p1, xIl_of p2, xIf_of p2, fk, gk, nvp hk' (show nk < 2147483648 by omega), ncl (show k < 2147483648 by omega), h3, s10, s11, s01, h4, h5, show nI k + 1 = nI (k + 1) from nI_ad k 1]
/-- one time more -/
theorem lw_t (hE : E.1 ≤ 260) (hS : jS E ad ro nk nc nn lo hi b s cnt rs re co rw') (hI : jI E ro ru nk nn lo hi Kb Ks ep b nm s co rw' n H a t) (hy : kWy a nn) (hn : n + 366 < 999990) (h30 : i < 30) (u4 u5 u6 u7 u8 u9 u10 u11 u12 u13 u14 u15 u16 u17 u18 u19 u20 u21 u22 : Option Value) : ∃ X a' t' n' k4 k5 k6 k7 k8 k9 k10 k11 k12 k13 k14 k15 k16 k17 k18 k19 k20 k21 k22, (∀ Q, xr E (d + 156) m_L_law Q (40, [some (.retAddr 0), some (.ref 0), some (.ref (ad 1)), some (.int (nI i)), u4, u5, u6, u7, u8, u9, u10, u11, u12, u13, u14, u15, u16, u17, u18, u19, u20, u21, u22], [], (jH ad ro b s nk nc nn ru H a t)) = xr E (d + 156) m_L_law Q (40, [some (.retAddr 0), some (.ref 0), some (.ref (ad 1)), some (.int (nI (i + 1))), k4, k5, k6, k7, k8, k9, k10, k11, k12, k13, k14, k15, k16, k17, k18, k19, k20, k21, k22], [], (jH ad ro b s nk nc nn ru X a' t'))) ∧ jI E ro ru nk nn lo hi Kb Ks ep b nm s co rw' n' X a' t' ∧ kWy a' nn ∧ n' ≤ n + 366 ∧ H.2.1 ≤ X.2.1 ∧ X.2.1 ≤ H.2.1 + 440 ∧ X.2.2 ≤ H.2.2 + 4400 := by
  obtain ⟨X1, a1, t1, n1, v4, s1, i1, y1, m1, l1, l1', l1''⟩ := lw_1 (d := d) (u4 := u4) (u5 := u5) (u6 := u6) (u7 := u7) (u8 := u8) (u9 := u9) (u10 := u10) (u11 := u11) (u12 := u12) (u13 := u13) (u14 := u14) (u15 := u15) (u16 := u16) (u17 := u17) (u18 := u18) (u19 := u19) (u20 := u20) (u21 := u21) (u22 := u22) hE hS hI hy (by omega) h30
  have h6 := hS.1.1
  have h62 := hS.1.2.2.1
  obtain ⟨X2, s2, i2, k2, l2, l2'⟩ := lw_2a (d := d) (i := i) (v4 := v4) (u5 := u5) (u6 := u6) (u7 := u7) (u8 := u8) (u9 := u9) (u10 := u10) (u11 := u11) (u12 := u12) (u13 := u13) (u14 := u14) (u15 := u15) (u16 := u16) (u17 := u17) (u18 := u18) (u19 := u19) (u20 := u20) (u21 := u21) (u22 := u22) hS i1
  have hh := i1.2.2.1
  obtain ⟨X3, st, s3, i3, k3, st6, st0, l3⟩ := lw_2c (d := d) (i := i) (v4 := v4) (u10 := u10) (u11 := u11) (u12 := u12) (u13 := u13) (u14 := u14) (u15 := u15) (u16 := u16) (u17 := u17) (u18 := u18) (u19 := u19) (u20 := u20) (u21 := u21) (u22 := u22) hS hh (show hi ≤ X1.2.1 + 1 by omega) (by omega) nk 0 0 X2 (by omega) i2 k2 (by omega) (by omega) (by omega) (fun _ j hj => absurd hj (Nat.not_lt_zero _))
  have l31 : X3.2.1 = X2.2.1 := by rw [l3]
  have l32 : X3.2.2 = X2.2.2 := by rw [l3]
  obtain ⟨X4, s4, i4, k4, w4, l4, l4'⟩ := lw_3a (d := d) (i := i) (st := st) (v4 := v4) (v9 := nI nk) (u10 := u10) (u11 := u11) (u12 := u12) (u13 := u13) (u14 := u14) (u15 := u15) (u16 := u16) (u17 := u17) (u18 := u18) (u19 := u19) (u20 := u20) (u21 := u21) (u22 := u22) hS i3 k3 (by omega) (by omega)
  obtain ⟨X5, k11, k12, k13, k14, k15, k16, k17, s5, i5, k5, w5, l5, l5', l5''⟩ := lw_3f (d := d) (i := i) (st := st) (v4 := v4) (u18 := u18) (u19 := u19) (u20 := u20) (u21 := u21) (u22 := u22) hS y1 (by omega) st0 (q1 := X1.2.1) (q2 := X1.2.1 + 1) (q3 := X3.2.1) (by omega) (by omega) (by omega) nn 0 X4 u11 u12 u13 u14 u15 u16 u17 (by omega) i4 k4 w4 (by omega)
  obtain ⟨X6, s6, i6, y6, k6, w6, l6, l6', l6''⟩ := lw_4 (d := d) (i := i) (v4 := v4) (v6 := nI st) (u11 := k11) (u12 := k12) (u13 := k13) (u14 := k14) (u15 := k15) (u16 := k16) (u17 := k17) (u18 := u18) (u19 := u19) (u20 := u20) (u21 := u21) (u22 := u22) hS i5 y1 (by omega) k5 w5 hh (by omega) (by omega) (by omega) (by omega) (by omega)
  obtain ⟨tk, r1, r2, r3, r4⟩ := hr_rcd (b := b) (s := s) (nk := nk) (nc := nc) (nn := nn) (rs := rs) (re := re) (x := bx a1 t1) h6
  obtain ⟨g15, g16, g17, g18, g19, g20, g21, g22, s7⟩ := lw_5e (d := d) (i := i) (v4 := v4) (v6 := nI st) (v10 := t1 2) (v11 := phV b t1 s nk nc nn rs re (a1, fun _ => 0, fun _ => 0, 0)) (q1 := X1.2.1) (q2 := X1.2.1 + 1) hS i6 i1.2.2.2 r1 w6 (by omega) nn 0 0 0 k15 k16 k17 u18 u19 u20 u21 u22 (by omega)
  obtain ⟨e16, e17, e18, e19, e20, e21, e22, s8⟩ := lw_6 (d := d) (i := i) (q3 := X3.2.1) (v4 := v4) (v6 := nI st) (v10 := t1 2) (v11 := phV b t1 s nk nc nn rs re (a1, fun _ => 0, fun _ => 0, 0)) (v12 := sumP (fun c => (hrC b s nk nc nn rs re (bx a1 t1)).1.1 7 c - a1 7 c) 0 nn 0) (v13 := sumP tk 0 nn 0) hS i6 i1.2.2.2 r2 k6 hh (by omega) nk 0 0 g16 g17 g18 g19 g20 g21 g22 (by omega)
  have hz := jS_z hS
  obtain ⟨z1, -, z3, z4, -⟩ := cls_J (ad := ad) (nk := nk) (nc := nc) (nn := nn) (ru := ru) (a2 := (hrC b s nk nc nn rs re (bx a1 t1)).1.1) (t2 := phT t1) (b2 := b) (s2 := s) i6.1 hz
  have c1 := xc_of z1
  have gh := fun (Q : xR → Prop) => c_T_hour (E := E) (d := d + 155) (Q := Q) z1 z4
  refine ⟨X6, _, _, n1 + 6, some (.int v4), some (.int (nI nn)), some (.int (nI st)), some (.ref X1.2.1), some (.ref (X1.2.1 + 1)), some (.ref X3.2.1), some (.int (t1 2)), some (.int (phV b t1 s nk nc nn rs re (a1, fun _ => 0, fun _ => 0, 0))), some (.int (sumP (fun c => (hrC b s nk nc nn rs re (bx a1 t1)).1.1 7 c - a1 7 c) 0 nn 0)), some (.int (sumP tk 0 nn 0)), some (.int (sumP (fun k => (hrC b s nk nc nn rs re (bx a1 t1)).1.1 2 k - a1 2 k) 0 nk 0)), some (.int (nI nk)), e16, e17, e18, e19, e20, e21, e22, fun Q => (s1 Q).trans ((s2 Q).trans ((s3 Q).trans ((s4 Q).trans ((s5 Q).trans ((s6 Q).trans ((s7 Q).trans (Eq.trans ?_ ((s8 Q).trans ?_)))))))), i6, y6, by omega, by omega, by omega, by omega⟩
  · simp only [↓reduceIte, s_L_law_1048, s_L_law_1049, s_L_law_1051, s_L_law_1052]
    rfl
  · have r4' : phV b t1 s nk nc nn rs re (a1, fun _ => 0, fun _ => 0, 0) = sumP (fun c => (hrC b s nk nc nn rs re (bx a1 t1)).1.1 7 c - a1 7 c) 0 nn 0 := r4
    have r3' : sumP (fun k => (hrC b s nk nc nn rs re (bx a1 t1)).1.1 2 k - a1 2 k) 0 nk 0 = sumP tk 0 nn 0 := r3
    rw [r3', r4']
    have th : phT t1 2 = t1 2 + 1 := rfl
    simp only [↓reduceIte, s_L_law_1143, s_L_law_1145, s_L_law_1147, s_L_law_1150, s_L_law_1152, s_L_law_1154, s_L_law_1157, s_L_law_1158, s_L_law_1161, s_L_law_1163, s_L_law_1164, s_L_law_1165, s_L_law_1168, s_L_law_1169, s_L_law_1170, s_L_law_1173, not_false_eq_true, Nat.reduceLT, Nat.reduceAdd, true_and, and_true, if_true, if_false, ite_true, ite_false, xnb_0, xnb_1, xnb_b, xk_v, xk_n, c1, gh, th, show nI i + 1 = nI (i + 1) from nI_ad i 1]
set_option maxRecDepth 20000 in
theorem lw_loop (hE : E.1 ≤ 260) (hS : jS E ad ro nk nc nn lo hi b s cnt rs re co rw') : ∀ (m i n : Nat) (H : xH) (a : Nat → Nat → Int32) (t : Nat → Int32) (u4 u5 u6 u7 u8 u9 u10 u11 u12 u13 u14 u15 u16 u17 u18 u19 u20 u21 u22 : Option Value), i + m = 30 → jI E ro ru nk nn lo hi Kb Ks ep b nm s co rw' n H a t → kWy a nn → n + 366 * m < 999990 → ∃ X, (∀ Q, xr E (d + 156) m_L_law Q (40, [some (.retAddr 0), some (.ref 0), some (.ref (ad 1)), some (.int (nI i)), u4, u5, u6, u7, u8, u9, u10, u11, u12, u13, u14, u15, u16, u17, u18, u19, u20, u21, u22], [], (jH ad ro b s nk nc nn ru H a t)) = Q (.inl (some (.int 1)), X)) ∧ X.2.1 ≤ H.2.1 + 440 * m + 6 ∧ X.2.2 ≤ H.2.2 + 4400 * m + 60
  | 0, i, n, H, a, t, u4, u5, u6, u7, u8, u9, u10, u11, u12, u13, u14, u15, u16, u17, u18, u19, u20, u21, u22, hi', hI, hy, hn => by
    obtain rfl : i = 30 := by omega
    obtain ⟨X, x1, x2, x3⟩ := f_S_isSame (E := E) (d := d + 150) (ru := ru) hS hI
    have c1 : xcl (jH ad ro b s nk nc nn ru H a t) (ad 1) = 10 := xc_of (j_1 hS.1)
    have x1' : ∀ Q, xcall E xprog (d + 156) 119 [.ref (ad 1), .ref 0] (jH ad ro b s nk nc nn ru H a t) Q = _ := x1
    refine ⟨(jH ad ro b s nk nc nn ru X a t), fun Q => ?_, (show X.2.1 ≤ _ by omega), (show X.2.2 ≤ _ by omega)⟩
    · rw [s_L_law_40]
      simp only [↓reduceIte, s_L_law_41, s_L_law_43, s_L_law_1176, s_L_law_1177, s_L_law_1178, s_L_law_1181, not_false_eq_true, Nat.reduceLT, Nat.reduceAdd, true_and, and_true, if_true, if_false, ite_true, ite_false, xnb_0, xnb_1, xnb_b, xk_v, xk_n, show (nI 30 < (30 : Int32)) = False from eq_false (by decide), c1, x1']
  | m + 1, i, n, H, a, t, u4, u5, u6, u7, u8, u9, u10, u11, u12, u13, u14, u15, u16, u17, u18, u19, u20, u21, u22, hi', hI, hy, hn => by
    obtain ⟨Y, a', t', n', k4, k5, k6, k7, k8, k9, k10, k11, k12, k13, k14, k15, k16, k17, k18, k19, k20, k21, k22, y1, y2, y3, y4, y5, y6, y7⟩ := lw_t (d := d) (i := i) hE hS hI hy (by omega) (by omega) u4 u5 u6 u7 u8 u9 u10 u11 u12 u13 u14 u15 u16 u17 u18 u19 u20 u21 u22
    obtain ⟨X, x1, x2, x3⟩ := lw_loop hE hS m (i + 1) n' Y a' t' k4 k5 k6 k7 k8 k9 k10 k11 k12 k13 k14 k15 k16 k17 k18 k19 k20 k21 k22 (by omega) y2 y3 (by omega)
    exact ⟨X, fun Q => (y1 Q).trans (x1 Q), by omega, by omega⟩
end LAW4
