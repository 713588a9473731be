/-! ===== something is done to both ===== -/
section ACT
variable {E : xE} {d D : Nat} {Q : xR → Prop} {H H' X Z : xH} {ad ro : Nat → Nat} {b a a' a2 : Nat → Nat → Int32} {s t t' t2 ms sk : Nat → Int32} {nk nc nn lo hi co rw' n cnt Kb Ks c i j : Nat} {ru : Nat → Option Nat} {nm : Nat → Int64} {rs re : Nat → Nat} {ep h : Int32} {x y v z w : Int32} {j3 j4 j5 j6 j7 : Option Value}

/-- ways stand -/
def kWy (a : Nat → Nat → Int32) (nn : Nat) : Prop := ∀ c, c < nn → ∃ w, w ≤ 9 ∧ a 6 c = nI w
theorem spd_b (hS : kSt a t co rw' nk nn n) (hc : c < nn) : ∃ v, 2 ≤ v ∧ v ≤ 10 ∧ spdC a t c = nI v := by
  obtain ⟨x, y, l, p, h1, h2, h3, h4, h5, h6, h7, h8⟩ := hS.2.1 c hc
  unfold spdC
  rw [h7]
  have e1 : nI l / 5 = nI (l / 5) := nI_dv (y := 5) (by omega) (by omega) (by omega)
  have e2 : (10 : Int32) - nI (l / 5) = nI (10 - l / 5) := pk_sub (a := 10) (b := l / 5) (by omega)
  rw [e1, e2]
  by_cases z : t 1 = 0
  · rw [if_pos z]
    exact ⟨(10 - l / 5) / 2, by omega, by omega, nI_dv (y := 2) (by omega) (by omega) (by omega)⟩
  · rw [if_neg z]
    exact ⟨10 - l / 5, by omega, by omega, rfl⟩
theorem rcd_way {tk : Int32} (h : rcd a a' b t nk nc c tk) (hS : kSt a t co rw' nk nn n) (hy : kWy a nn) (hc : c < nn) : ∃ w, w ≤ 9 ∧ a' 6 c = nI w := by
  obtain ⟨w, hw, e⟩ := hy c hc
  obtain ⟨v, v1, v2, v3⟩ := spd_b hS hc
  rw [h.2.1, e, v3, nI_ad]
  have g0 : (nI (w + v) < 10) = (w + v < 10) := nI_lq (y := 10) (by omega) (by omega)
  by_cases g : w + v < 10
  · rw [if_pos (g0.symm ▸ g)]
    exact ⟨w + v, by omega, by grind⟩
  · rw [if_neg (fun q => g (g0 ▸ q))]
    exact ⟨w + v - 10, by omega, pk_sub (a := w + v) (b := 10) (by omega)⟩
theorem hr_way {x : bhr} (h6 : nk ≤ 6) (hS : kSt x.1.1 x.2 co rw' nk nn n) (hy : kWy x.1.1 nn) : kWy (hrC b s nk nc nn rs re x).1.1 nn := by
  obtain ⟨tk, q1, -⟩ := hr_rcd (b := b) (s := s) (nk := nk) (nc := nc) (nn := nn) (rs := rs) (re := re) (x := x) h6
  exact fun c hc => rcd_way (q1 c hc) hS hy hc
theorem hr_wayI (hB : kBo b s co rw' nk nn) (hn6 : nn ≤ 6) : ∀ m (x : bhr) (n : Nat), kSt x.1.1 x.2 co rw' nk nn n → n + 6 * m < 999990 → kWy x.1.1 nn → kWy (hrI b s nk nc nn rs re m x).1.1 nn
  | 0, _, _, _, _, h => h
  | m + 1, x, n, hS, hn, hy => by
    obtain ⟨s0, s1, hco, hro, h6, -⟩ := id hB
    exact hr_wayI hB hn6 m _ (n + 6) (hr_S h6 s0 s1 hco hro hn6 hS (by omega)) (by omega) (hr_way h6 hS hy)
theorem act_sw {q : Nat} (hq : q < 8) : xtgt 21 (if (nI q).toInt < 0 ∨ 3 < (nI q).toInt then 234 else (#[31, 31, 82, 145] : Array Int).getD ((nI q).toInt - 0).toNat 234) = if q < 2 then 52 else if q = 2 then 103 else if q = 3 then 166 else 255 := by
  rcases (show q = 0 ∨ q = 1 ∨ q = 2 ∨ q = 3 ∨ q = 4 ∨ q = 5 ∨ q = 6 ∨ q = 7 by omega) with e | e | e | e | e | e | e | e <;> subst e <;> rfl
theorem blw (v : Int32) {n : Nat} (h0 : 0 < n) (h : n < 2147483648) : ∀ (Z : xH) (Q : xR → Prop), xcall E xprog (d + 8) 167 [.int v, .int (nI n)] Z Q = Q (.inl (some (.int (nI (bel v n)))), Z) := fun Z Q => f_L_below v h0 h
theorem act_0 (hS : jS E ad ro nk nc nn lo hi b s cnt rs re co rw') : xr E (d + 8) m_L_act Q (0, [some (.ref 0), some (.ref (ad 1)), some (.int x), none, none, none, none, none, none, none], [], (jH ad ro b s nk nc nn ru H a t)) = xr E (d + 8) m_L_act Q (if bel (x >>> (9 &&& 31)) 8 < 2 then 52 else if bel (x >>> (9 &&& 31)) 8 = 2 then 103 else if bel (x >>> (9 &&& 31)) 8 = 3 then 166 else 255, [some (.ref 0), some (.ref (ad 1)), some (.int x), some (.int (nI (bel (x >>> (1 &&& 31)) nn))), none, none, none, none, none, none], [], (jH ad ro b s nk nc nn ru H a t)) := by
  obtain ⟨hj, hlo, -, hB, hW, hR, hn1, -⟩ := hS
  have hn6 := hj.2.2.1
  have r1 := j_1 (b := b) (s := s) (ru := ru) (H := H) (a := a) (t := t) hj
  have r4 := j_4 (b := b) (s := s) (ru := ru) (H := H) (a := a) (t := t) hj
  have b1 := blw (E := E) (d := d) (x >>> (1 &&& 31)) (n := nn) (by omega) (by omega)
  have b2 : ∀ (Z : xH) (Q : xR → Prop), xcall E xprog (d + 8) 167 [.int (x >>> (9 &&& 31)), .int 8] Z Q = Q (.inl (some (.int (nI (bel (x >>> (9 &&& 31)) 8)))), Z) := blw (x >>> (9 &&& 31)) (n := 8) (by omega) (by omega)
  rw [← act_sw (bel_lt (by omega))]
  simp only [s_L_act_0, s_L_act_1, s_L_act_2, s_L_act_3, s_L_act_4, s_L_act_7, s_L_act_8, s_L_act_11, s_L_act_12, s_L_act_13, s_L_act_15, s_L_act_16, s_L_act_18, s_L_act_21, not_false_eq_true, Nat.reduceLT, Nat.reduceAdd, true_and, and_true, if_true, if_false, ite_true, ite_false, xnb_0, xnb_1, xnb_b, xk_v, xk_n, xf_of r1, xll_10, xlg_10_0, xlg_10_1, xlg_10_2, xlg_10_3, xlg_10_4, xlg_10_5, xlg_10_6, xlg_10_7, xlg_10_8, xln_A r4, Option.isSome_some, Option.getD_some, b1, b2]
theorem act_w (hS : jS E ad ro nk nc nn lo hi b s cnt rs re co rw') (hI : jI E ro ru nk nn lo hi Kb Ks ep b nm s co rw' n H a t) (hy : kWy a nn) (hn : n + 360 < 999990) : ∃ X a' t' n', (∀ Q, xr E (d + 8) m_L_act Q (52, [some (.ref 0), some (.ref (ad 1)), some (.int x), some (.int (nI (bel (x >>> (1 &&& 31)) nn))), none, none, none, none, none, none], [], (jH ad ro b s nk nc nn ru H a t)) = Q (.inl (some (.int 1)), jH ad ro b s nk nc nn ru X a' t')) ∧ jI E ro ru nk nn lo hi Kb Ks ep b nm s co rw' n' X a' t' ∧ kWy a' nn ∧ n' ≤ n + 360 ∧ H.2.1 ≤ X.2.1 ∧ X.2.1 ≤ H.2.1 + 420 ∧ X.2.2 ≤ H.2.2 + 4200 ∧ ∀ m, 63 ≤ m → m < H.2.1 → X.1 m = H.1 m := by
  have hz := jS_z hS
  obtain ⟨hj, hlo, -, hB, hW, hR, hn1, -⟩ := id hS
  have b1 : ∀ (Z : xH) (Q : xR → Prop), xcall E xprog (d + 8) 167 [.int (x >>> (2 &&& 31)), .int 4] Z Q = Q (.inl (some (.int (nI (bel (x >>> (2 &&& 31)) 4)))), Z) := blw _ (n := 4) (by omega) (by omega)
  have b2 : ∀ (Z : xH) (Q : xR → Prop), xcall E xprog (d + 8) 167 [.int (x >>> (4 &&& 31)), .int 4] Z Q = Q (.inl (some (.int (nI (bel (x >>> (4 &&& 31)) 4)))), Z) := blw _ (n := 4) (by omega) (by omega)
  have l1 := bel_lt (v := x >>> (2 &&& 31)) (n := 4) (by omega)
  have l2 := bel_lt (v := x >>> (4 &&& 31)) (n := 4) (by omega)
  generalize bel (x >>> (2 &&& 31)) 4 = w at b1 l1
  generalize bel (x >>> (4 &&& 31)) 4 = f at b2 l2
  obtain ⟨X, x1, x2, x3, x4⟩ := jc_wind (E := E) (d := d + 6) (ad := ad) (nk := nk) (nc := nc) (nn := nn) (ru := ru) (r := nI w) (f := nI f) (a2 := a) (t2 := tri (nI w) (nI f) (t 2)) (b2 := b) (s2 := s) hI.1 hz (fun q => q.elim (fun e => by rw [nI_n0 w (by omega)] at e; exact e) (fun e => e (by rw [show (nI w < (4 : Int32)) = True from nlt (n := 4) l1 (by omega)]; trivial))) (fun q => q.elim (fun e => by rw [nI_n0 f (by omega)] at e; exact e) (fun e => by rw [show ((3 : Int32) < nI f) = False from nge (i := 3) (n := f) (by omega) (by omega)] at e; exact e))
  have g0 : xfls (jH ad ro b s nk nc nn ru H a t) (ad 1) 10 = [.int (s 0), .int (s 1), .int (t 2), .int (t 0), .int (t 1), .ref (ad 2), .ref (ad 3), .ref (ad 4), .ref (ad 5)] := xf_of (j_1 hj)
  have g1 : xfls (jH ad ro b s nk nc nn ru H a (tri (nI w) (t 1) (t 2))) (ad 1) 10 = [.int (s 0), .int (s 1), .int (t 2), .int (nI w), .int (t 1), .ref (ad 2), .ref (ad 3), .ref (ad 4), .ref (ad 5)] := xf_of (j_1 hj)
  have g2 : xfls (jH ad ro b s nk nc nn ru H a (tri (nI w) (nI f) (t 2))) (ad 1) 10 = [.int (s 0), .int (s 1), .int (t 2), .int (nI w), .int (nI f), .ref (ad 2), .ref (ad 3), .ref (ad 4), .ref (ad 5)] := xf_of (j_1 hj)
  have w1 : xset (jH ad ro b s nk nc nn ru H a t) (ad 1) (.inr (10, [.int (s 0), .int (s 1), .int (t 2), .int (nI w), .int (t 1), .ref (ad 2), .ref (ad 3), .ref (ad 4), .ref (ad 5)])) = (jH ad ro b s nk nc nn ru H a (tri (nI w) (t 1) (t 2))) := jw_s (b := b) (s := s) (ru := ru) (H := H) (a := a) (t := t) (t' := tri (nI w) (t 1) (t 2)) hj
  have w2 : xset (jH ad ro b s nk nc nn ru H a (tri (nI w) (t 1) (t 2))) (ad 1) (.inr (10, [.int (s 0), .int (s 1), .int (t 2), .int (nI w), .int (nI f), .ref (ad 2), .ref (ad 3), .ref (ad 4), .ref (ad 5)])) = (jH ad ro b s nk nc nn ru H a (tri (nI w) (nI f) (t 2))) := jw_s (b := b) (s := s) (ru := ru) (H := H) (a := a) (t := tri (nI w) (t 1) (t 2)) (t' := tri (nI w) (nI f) (t 2)) hj
  have hcl : xcl (jH ad ro b s nk nc nn ru H a (tri (nI w) (nI f) (t 2))) 0 = 8 := xc_of (cls_J (ad := ad) (nk := nk) (nc := nc) (nn := nn) (ru := ru) (a2 := a) (t2 := tri (nI w) (nI f) (t 2)) (b2 := b) (s2 := s) hI.1 hz).1
  have k1 : kSt a (tri (nI w) (nI f) (t 2)) co rw' nk nn n := ⟨hI.2.2.2.1, hI.2.2.2.2.1, w, f, by omega, by omega, rfl, rfl⟩
  refine ⟨X, a, tri (nI w) (nI f) (t 2), n, fun Q => ?_, jI_op hI hlo x2 x3 x4 k1, hy, by omega, by rw [x3]; exact Nat.le_refl _, by rw [x3]; omega, by rw [x3]; omega, fun m hm _ => x4 m hm⟩
  simp only [↓reduceIte, s_L_act_52, s_L_act_53, s_L_act_56, s_L_act_58, s_L_act_59, s_L_act_60, s_L_act_61, s_L_act_62, s_L_act_63, s_L_act_66, s_L_act_69, s_L_act_70, s_L_act_71, s_L_act_72, s_L_act_73, s_L_act_74, s_L_act_77, s_L_act_80, s_L_act_81, s_L_act_82, s_L_act_85, s_L_act_86, s_L_act_89, s_L_act_92, s_L_act_94, s_L_act_97, s_L_act_98, s_L_act_101, s_L_act_102, not_false_eq_true, Nat.reduceLT, Nat.reduceAdd, true_and, and_true, if_true, if_false, ite_true, ite_false, xnb_0, xnb_1, xnb_b, xk_v, xk_n, g0, g1, g2, w1, w2, xll_10, xlg_10_0, xlg_10_1, xlg_10_2, xlg_10_3, xlg_10_4, xlg_10_5, xlg_10_6, xlg_10_7, xlg_10_8, xls_10_0, xls_10_1, xls_10_2, xls_10_3, xls_10_4, xls_10_5, xls_10_6, xls_10_7, xls_10_8, b1, b2, hcl, x1]
theorem act_j (hS : jS E ad ro nk nc nn lo hi b s cnt rs re co rw') (hI : jI E ro ru nk nn lo hi Kb Ks ep b nm s co rw' n H a t) (hy : kWy a nn) (hn : n + 360 < 999990) : ∃ X a' t' n', (∀ Q, xr E (d + 8) m_L_act Q (103, [some (.ref 0), some (.ref (ad 1)), some (.int x), some (.int (nI (bel (x >>> (1 &&& 31)) nn))), none, none, none, none, none, none], [], (jH ad ro b s nk nc nn ru H a t)) = Q (.inl (some (.int 1)), jH ad ro b s nk nc nn ru X a' t')) ∧ jI E ro ru nk nn lo hi Kb Ks ep b nm s co rw' n' X a' t' ∧ kWy a' nn ∧ n' ≤ n + 360 ∧ H.2.1 ≤ X.2.1 ∧ X.2.1 ≤ H.2.1 + 420 ∧ X.2.2 ≤ H.2.2 + 4200 ∧ ∀ m, 63 ≤ m → m < H.2.1 → X.1 m = H.1 m := by
  have hz := jS_z hS
  obtain ⟨hj, hlo, -, hB, hW, hR, hn1, -⟩ := id hS
  obtain ⟨w1, w2, w3, w4, w5, w6, -⟩ := id hW
  have hc := bel_lt (v := x >>> (1 &&& 31)) (n := nn) (by omega)
  obtain ⟨X0, hX0⟩ : ∃ c, c = bel (x >>> (1 &&& 31)) nn := ⟨_, rfl⟩
  rw [← hX0] at hc
  obtain ⟨px, py, l, pp, h1, h2, h3, h4, h5, h6, h7, h8⟩ := hI.2.2.2.2.1 X0 hc
  have r1 := j_1 (b := b) (s := s) (ru := ru) (H := H) (a := a) (t := t) hj
  have r4 := j_4 (b := b) (s := s) (ru := ru) (H := H) (a := a) (t := t) hj
  have rc := j_c (b := b) (s := s) (ru := ru) (H := H) (a := a) (t := t) hj hc
  rw [← hX0]
  by_cases e : l = 0
  · have e5 : a 5 X0 = 0 := by rw [h7, e]; rfl
    refine ⟨H, a, t, n, fun Q => ?_, hI, hy, by omega, Nat.le_refl _, by omega, by omega, fun _ _ _ => rfl⟩
    simp only [↓reduceIte, s_L_act_103, s_L_act_104, s_L_act_107, s_L_act_108, s_L_act_109, s_L_act_110, s_L_act_111, s_L_act_113, s_L_act_115, s_L_act_118, s_L_act_119, not_false_eq_true, Nat.reduceLT, Nat.reduceAdd, true_and, and_true, if_true, if_false, ite_true, ite_false, xnb_0, xnb_1, xnb_b, xk_v, xk_n, xf_of r1, xll_10, xlg_10_0, xlg_10_1, xlg_10_2, xlg_10_3, xlg_10_4, xlg_10_5, xlg_10_6, xlg_10_7, xlg_10_8, (xA_of r4).1, (xA_of r4).2.1, nvp hc (show nn < 2147483648 by omega), ncl (show X0 < 2147483648 by omega), if_pos hc, xrf_s, xIl_of rc, xIf_of rc, ic_5, v9_5, cf_5, e5]
  · have b1 : ∀ (Z : xH) (Q : xR → Prop), xcall E xprog (d + 8) 167 [.int (x >>> (4 &&& 31)), .int (nI l)] Z Q = Q (.inl (some (.int (nI (bel (x >>> (4 &&& 31)) l)))), Z) := blw _ (by omega) (by omega)
    have l1 := bel_lt (v := x >>> (4 &&& 31)) (n := l) (by omega)
    generalize bel (x >>> (4 &&& 31)) l = u at b1 l1
    have v1 : ¬ nI (1 + u) < 1 := by rw [nI_l1 (1 + u) (by omega)]; omega
    have v2 : ¬ a 5 X0 < nI (1 + u) := by rw [h7, nI_lq (by omega) (by omega)]; omega
    have k1 : kSt (upr a 5 (upd (a 5) X0 (a 5 X0 - nI (1 + u)))) t co rw' nk nn n := kSt_5 hI.2.2.2 ⟨l - (1 + u), by omega, by rw [h7]; exact pk_sub (by omega)⟩
    obtain ⟨X, x1, x2, x3, x4⟩ := jc_jett (E := E) (d := d + 6) (ad := ad) (nk := nk) (nc := nc) (ru := ru) (a2 := upr a 5 (upd (a 5) X0 (a 5 X0 - nI (1 + u)))) (t2 := t) (b2 := b) (s2 := s) hI.1 hz w5 w6 hc v1 v2
    have wj : xset (jH ad ro b s nk nc nn ru H a t) (ad (20 + X0)) (xarI 9 (upd (cf b a X0) 5 (a 5 X0 - nI (1 + u)))) = (jH ad ro b s nk nc nn ru H (upr a 5 (upd (a 5) X0 (a 5 X0 - nI (1 + u)))) t) := jw_c hj hc (by omega) (by omega)
    have hcl : xcl (jH ad ro b s nk nc nn ru H (upr a 5 (upd (a 5) X0 (a 5 X0 - nI (1 + u)))) t) 0 = 8 := xc_of (cls_J (ad := ad) (nk := nk) (nc := nc) (nn := nn) (ru := ru) (a2 := upr a 5 (upd (a 5) X0 (a 5 X0 - nI (1 + u)))) (t2 := t) (b2 := b) (s2 := s) hI.1 hz).1
    refine ⟨X, _, t, n, fun Q => ?_, jI_op hI hlo x2 x3 x4 k1, hy, by omega, by rw [x3]; exact Nat.le_refl _, by rw [x3]; omega, by rw [x3]; omega, fun m hm _ => x4 m hm⟩
    have hnz : (nI l = 0) = False := eq_false fun q => e (nI_inj (x := l) (y := 0) (by omega) (by omega) q)
    rw [h7] at wj x1 hcl ⊢
    simp only [↓reduceIte, s_L_act_103, s_L_act_104, s_L_act_107, s_L_act_108, s_L_act_109, s_L_act_110, s_L_act_111, s_L_act_113, s_L_act_115, s_L_act_118, s_L_act_119, s_L_act_120, s_L_act_121, s_L_act_122, s_L_act_123, s_L_act_124, s_L_act_126, s_L_act_129, s_L_act_130, s_L_act_132, s_L_act_133, s_L_act_136, s_L_act_137, s_L_act_138, s_L_act_139, s_L_act_140, s_L_act_141, s_L_act_143, s_L_act_144, s_L_act_145, s_L_act_146, s_L_act_147, s_L_act_149, s_L_act_152, s_L_act_154, s_L_act_156, s_L_act_157, s_L_act_160, s_L_act_161, s_L_act_164, s_L_act_165, not_false_eq_true, Nat.reduceLT, Nat.reduceAdd, true_and, and_true, if_true, if_false, ite_true, ite_false, xnb_0, xnb_1, xnb_b, xk_v, xk_n, xf_of r1, xll_10, xlg_10_0, xlg_10_1, xlg_10_2, xlg_10_3, xlg_10_4, xlg_10_5, xlg_10_6, xlg_10_7, xlg_10_8, (xA_of r4).1, (xA_of r4).2.1, nvp hc (show nn < 2147483648 by omega), ncl (show X0 < 2147483648 by omega), if_pos hc, xrf_s, xIl_of rc, xIf_of rc, ic_5, v9_5, cf_5, h7, hnz, b1, show (1 : Int32) + nI u = nI (1 + u) from nI_ad 1 u, wj, hcl, x1]
theorem act_k (hS : jS E ad ro nk nc nn lo hi b s cnt rs re co rw') (hI : jI E ro ru nk nn lo hi Kb Ks ep b nm s co rw' n H a t) (hy : kWy a nn) (hn : n + 360 < 999990) : ∃ X a' t' n', (∀ Q, xr E (d + 8) m_L_act Q (166, [some (.ref 0), some (.ref (ad 1)), some (.int x), some (.int (nI (bel (x >>> (1 &&& 31)) nn))), none, none, none, none, none, none], [], (jH ad ro b s nk nc nn ru H a t)) = Q (.inl (some (.int 1)), jH ad ro b s nk nc nn ru X a' t')) ∧ jI E ro ru nk nn lo hi Kb Ks ep b nm s co rw' n' X a' t' ∧ kWy a' nn ∧ n' ≤ n + 360 ∧ H.2.1 ≤ X.2.1 ∧ X.2.1 ≤ H.2.1 + 420 ∧ X.2.2 ≤ H.2.2 + 4200 ∧ ∀ m, 63 ≤ m → m < H.2.1 → X.1 m = H.1 m := by
  have hz := jS_z hS
  obtain ⟨hj, hlo, -, hB, hW, hR, hn1, -⟩ := id hS
  obtain ⟨w1, w2, w3, w4, w5, w6, -⟩ := id hW
  have r1 := j_1 (b := b) (s := s) (ru := ru) (H := H) (a := a) (t := t) hj
  have r2 := j_2 (b := b) (s := s) (ru := ru) (H := H) (a := a) (t := t) hj
  by_cases e : nk = 0
  · refine ⟨H, a, t, n, fun Q => ?_, hI, hy, by omega, Nat.le_refl _, by omega, by omega, fun _ _ _ => rfl⟩
    simp only [↓reduceIte, s_L_act_166, s_L_act_167, s_L_act_170, s_L_act_171, s_L_act_174, s_L_act_175, not_false_eq_true, Nat.reduceLT, Nat.reduceAdd, true_and, and_true, if_true, if_false, ite_true, ite_false, xnb_0, xnb_1, xnb_b, xk_v, xk_n, xf_of r1, xll_10, xlg_10_0, xlg_10_1, xlg_10_2, xlg_10_3, xlg_10_4, xlg_10_5, xlg_10_6, xlg_10_7, xlg_10_8, xln_A r2, Option.isSome_some, Option.getD_some, show (nI nk = 0) = True from eq_true (by rw [e]; rfl)]
  · have b1 := blw (E := E) (d := d) (x >>> (3 &&& 31)) (n := nk) (by omega) (by omega)
    have hk := bel_lt (v := x >>> (3 &&& 31)) (n := nk) (by omega)
    generalize bel (x >>> (3 &&& 31)) nk = k at b1 hk
    have b2 : ∀ (Z : xH) (Q : xR → Prop), xcall E xprog (d + 8) 167 [.int x, .int 2] Z Q = Q (.inl (some (.int (nI (bel x 2)))), Z) := blw x (n := 2) (by omega) (by omega)
    have b3 : ∀ (Z : xH) (Q : xR → Prop), xcall E xprog (d + 8) 167 [.int (x >>> (5 &&& 31)), .int 21] Z Q = Q (.inl (some (.int (nI (bel (x >>> (5 &&& 31)) 21)))), Z) := blw _ (n := 21) (by omega) (by omega)
    have b4 : ∀ (Z : xH) (Q : xR → Prop), xcall E xprog (d + 8) 167 [.int (x >>> (5 &&& 31)), .int 2] Z Q = Q (.inl (some (.int (nI (bel (x >>> (5 &&& 31)) 2)))), Z) := blw _ (n := 2) (by omega) (by omega)
    have l0 := bel_lt (v := x) (n := 2) (by omega)
    have l3 := bel_lt (v := x >>> (5 &&& 31)) (n := 21) (by omega)
    have l4 := bel_lt (v := x >>> (5 &&& 31)) (n := 2) (by omega)
    have rk := j_k (b := b) (s := s) (ru := ru) (H := H) (a := a) (t := t) hj hk
    have hz0 : (nI (bel x 2) = 0) = (bel x 2 = 0) := nI_q (y := 0) (by omega) (by omega)
    obtain ⟨v, hv, hv2⟩ : ∃ v, v ≤ 20 ∧ v = if bel x 2 = 0 then bel (x >>> (5 &&& 31)) 21 else bel (x >>> (5 &&& 31)) 2 := ⟨_, by split <;> omega, rfl⟩
    have k1 : kSt (upr a 0 (upd (a 0) k (nI v))) t co rw' nk nn n := kSt_0 hI.2.2.2 fun j hj => by
      by_cases q : j = k
      · subst q; rw [upd_s]; exact ⟨v, hv, rfl⟩
      · rw [upd_o q]; exact hI.2.2.2.1 j hj
    obtain ⟨X, x1, x2, x3, x4⟩ := jc_calm (E := E) (d := d + 6) (ad := ad) (nc := nc) (nn := nn) (ru := ru) (v := nI v) (a2 := upr a 0 (upd (a 0) k (nI v))) (t2 := t) (b2 := b) (s2 := s) hI.1 hz w1 w2 hk (fun q => q.elim (fun e => by rw [nI_n0 v (by omega)] at e; exact e) (fun e => by rw [show ((20 : Int32) < nI v) = False from nge (i := 20) (n := v) hv (by omega)] at e; exact e))
    have wj : xset (jH ad ro b s nk nc nn ru H a t) (ad (10 + k)) (xarI 5 (upd (kf b a k) 3 (nI v))) = (jH ad ro b s nk nc nn ru H (upr a 0 (upd (a 0) k (nI v))) t) := jw_k hj hk (Or.inl ⟨rfl, rfl⟩)
    have hcl : xcl (jH ad ro b s nk nc nn ru H (upr a 0 (upd (a 0) k (nI v))) t) 0 = 8 := xc_of (cls_J (ad := ad) (nk := nk) (nc := nc) (nn := nn) (ru := ru) (a2 := upr a 0 (upd (a 0) k (nI v))) (t2 := t) (b2 := b) (s2 := s) hI.1 hz).1
    have r1' : xfls (jH ad ro b s nk nc nn ru H (upr a 0 (upd (a 0) k (nI v))) t) (ad 1) 10 = [.int (s 0), .int (s 1), .int (t 2), .int (t 0), .int (t 1), .ref (ad 2), .ref (ad 3), .ref (ad 4), .ref (ad 5)] := xf_of (j_1 hj)
    have r2' := j_2 (b := b) (s := s) (ru := ru) (H := H) (a := upr a 0 (upd (a 0) k (nI v))) (t := t) hj
    have rk' := j_k (b := b) (s := s) (ru := ru) (H := H) (a := upr a 0 (upd (a 0) k (nI v))) (t := t) hj hk
    have rk3 : kf b (upr a 0 (upd (a 0) k (nI v))) k 3 = nI v := upd_s
    refine ⟨X, _, t, n, fun Q => ?_, jI_op hI hlo x2 x3 x4 k1, hy, by omega, by rw [x3]; exact Nat.le_refl _, by rw [x3]; omega, by rw [x3]; omega, fun m hm _ => x4 m hm⟩
    have hnz : (nI nk = 0) = False := eq_false fun q => e (nI_inj (x := nk) (y := 0) (by omega) (by omega) q)
    by_cases c2 : bel x 2 = 0
    · rw [if_pos c2] at hv2
      rw [← hv2] at b3
      simp only [↓reduceIte, s_L_act_166, s_L_act_167, s_L_act_170, s_L_act_171, s_L_act_174, s_L_act_175, s_L_act_176, s_L_act_177, s_L_act_178, s_L_act_179, s_L_act_180, s_L_act_183, s_L_act_184, s_L_act_187, s_L_act_189, s_L_act_190, s_L_act_193, s_L_act_195, s_L_act_196, s_L_act_197, s_L_act_198, s_L_act_200, s_L_act_201, s_L_act_204, s_L_act_206, s_L_act_207, s_L_act_208, s_L_act_209, s_L_act_210, s_L_act_211, s_L_act_212, s_L_act_213, s_L_act_216, s_L_act_219, s_L_act_221, s_L_act_224, s_L_act_225, s_L_act_228, s_L_act_229, s_L_act_230, s_L_act_232, s_L_act_233, s_L_act_236, s_L_act_238, s_L_act_239, s_L_act_240, s_L_act_241, s_L_act_244, s_L_act_246, s_L_act_249, s_L_act_250, s_L_act_253, s_L_act_254, not_false_eq_true, Nat.reduceLT, Nat.reduceAdd, true_and, and_true, if_true, if_false, ite_true, ite_false, xnb_0, xnb_1, xnb_b, xk_v, xk_n, xf_of r1, xll_10, xlg_10_0, xlg_10_1, xlg_10_2, xlg_10_3, xlg_10_4, xlg_10_5, xlg_10_6, xlg_10_7, xlg_10_8, xln_A r2, Option.isSome_some, Option.getD_some, (xA_of r2).1, (xA_of r2).2.1, nvp hk (show nk < 2147483648 by omega), ncl (show k < 2147483648 by omega), if_pos hk, xrf_s, xIl_of rk, xIf_of rk, ic_3, v5_3, kf_3, hnz, b1, b2, b3, hz0, eq_true c2, wj, hcl, r1', (xA_of r2').1, (xA_of r2').2.1, xIl_of rk', xIf_of rk', rk3, x1]
    · rw [if_neg c2] at hv2
      rw [← hv2] at b4
      simp only [↓reduceIte, s_L_act_166, s_L_act_167, s_L_act_170, s_L_act_171, s_L_act_174, s_L_act_175, s_L_act_176, s_L_act_177, s_L_act_178, s_L_act_179, s_L_act_180, s_L_act_183, s_L_act_184, s_L_act_187, s_L_act_189, s_L_act_190, s_L_act_193, s_L_act_195, s_L_act_196, s_L_act_197, s_L_act_198, s_L_act_200, s_L_act_201, s_L_act_204, s_L_act_206, s_L_act_207, s_L_act_208, s_L_act_209, s_L_act_210, s_L_act_211, s_L_act_212, s_L_act_213, s_L_act_216, s_L_act_219, s_L_act_221, s_L_act_224, s_L_act_225, s_L_act_228, s_L_act_229, s_L_act_230, s_L_act_232, s_L_act_233, s_L_act_236, s_L_act_238, s_L_act_239, s_L_act_240, s_L_act_241, s_L_act_244, s_L_act_246, s_L_act_249, s_L_act_250, s_L_act_253, s_L_act_254, not_false_eq_true, Nat.reduceLT, Nat.reduceAdd, true_and, and_true, if_true, if_false, ite_true, ite_false, xnb_0, xnb_1, xnb_b, xk_v, xk_n, xf_of r1, xll_10, xlg_10_0, xlg_10_1, xlg_10_2, xlg_10_3, xlg_10_4, xlg_10_5, xlg_10_6, xlg_10_7, xlg_10_8, xln_A r2, Option.isSome_some, Option.getD_some, (xA_of r2).1, (xA_of r2).2.1, nvp hk (show nk < 2147483648 by omega), ncl (show k < 2147483648 by omega), if_pos hk, xrf_s, xIl_of rk, xIf_of rk, ic_3, v5_3, kf_3, hnz, b1, b2, b4, hz0, eq_false c2, wj, hcl, r1', (xA_of r2').1, (xA_of r2').2.1, xIl_of rk', xIf_of rk', rk3, x1]
theorem act_s (hS : jS E ad ro nk nc nn lo hi b s cnt rs re co rw') (hI : jI E ro ru nk nn lo hi Kb Ks ep b nm s co rw' n H a t) (hy : kWy a nn) (hn : n + 360 < 999990) : ∃ X a' t' n', (∀ Q, xr E (d + 8) m_L_act Q (255, [some (.ref 0), some (.ref (ad 1)), some (.int x), some (.int (nI (bel (x >>> (1 &&& 31)) nn))), none, none, none, none, none, none], [], (jH ad ro b s nk nc nn ru H a t)) = Q (.inl (some (.int 1)), jH ad ro b s nk nc nn ru X a' t')) ∧ jI E ro ru nk nn lo hi Kb Ks ep b nm s co rw' n' X a' t' ∧ kWy a' nn ∧ n' ≤ n + 360 ∧ H.2.1 ≤ X.2.1 ∧ X.2.1 ≤ H.2.1 + 420 ∧ X.2.2 ≤ H.2.2 + 4200 ∧ ∀ m, 63 ≤ m → m < H.2.1 → X.1 m = H.1 m := by
  have hz := jS_z hS
  obtain ⟨hj, hlo, -, hB, hW, hR, hn1, -⟩ := id hS
  have hn6 := hj.2.2.1
  have b1 : ∀ (Z : xH) (Q : xR → Prop), xcall E xprog (d + 8) 167 [.int x, .int 4] Z Q = Q (.inl (some (.int (nI (bel x 4)))), Z) := blw x (n := 4) (by omega) (by omega)
  have b2 : ∀ (Z : xH) (Q : xR → Prop), xcall E xprog (d + 8) 167 [.int (x >>> (2 &&& 31)), .int 60] Z Q = Q (.inl (some (.int (nI (bel (x >>> (2 &&& 31)) 60)))), Z) := blw _ (n := 60) (by omega) (by omega)
  have b3 : ∀ (Z : xH) (Q : xR → Prop), xcall E xprog (d + 8) 167 [.int (x >>> (2 &&& 31)), .int 6] Z Q = Q (.inl (some (.int (nI (bel (x >>> (2 &&& 31)) 6)))), Z) := blw _ (n := 6) (by omega) (by omega)
  have l0 := bel_lt (v := x) (n := 4) (by omega)
  have l2 := bel_lt (v := x >>> (2 &&& 31)) (n := 60) (by omega)
  have l3 := bel_lt (v := x >>> (2 &&& 31)) (n := 6) (by omega)
  have hz0 : (nI (bel x 4) = 0) = (bel x 4 = 0) := nI_q (y := 0) (by omega) (by omega)
  obtain ⟨v, hv, hv1, hv2⟩ : ∃ v, v ≤ 60 ∧ 1 ≤ v ∧ v = 1 + if bel x 4 = 0 then bel (x >>> (2 &&& 31)) 60 else bel (x >>> (2 &&& 31)) 6 := ⟨_, by split <;> omega, by omega, rfl⟩
  obtain ⟨X, x1, x2, x3, x4⟩ := jc_sail (E := E) (d := d) (ad := ad) (nk := nk) (nc := nc) (nn := nn) (ru := ru) (a2 := a) (t2 := t) (b2 := b) (s2 := s) hI.1 hz hW hR hv1 hv
  have k1 : kSt (hrI b s nk nc nn rs re v (bx a t)).1.1 (hrI b s nk nc nn rs re v (bx a t)).2 co rw' nk nn (n + 6 * v) := hr_SI hB hn6 v (bx a t) n hI.2.2.2 (by omega)
  have hI1 := jI_op hI hlo x2 x3 x4 k1
  obtain ⟨Y, y1, y2, y3, y4, y5⟩ := f_S_behind (E := E) (d := d + 1) (x := bx a t) (ru := ru) (H := X) hR hj hB (hh := v) (by omega) hI.2.2.2 (by omega) (jL_R hI1.2.1) hI1.2.2.1
  have hcl : xcl (jH ad ro b s nk nc nn ru H a t) 0 = 8 := xc_of (cls_J (ad := ad) (nk := nk) (nc := nc) (nn := nn) (ru := ru) (a2 := a) (t2 := t) (b2 := b) (s2 := s) hI.1 hz).1
  have hcm : xcl (jH ad ro b s nk nc nn ru X a t) (ad 1) = 10 := xc_of (j_1 hj)
  have x31 : X.2.1 = H.2.1 := by rw [x3]
  have x32 : X.2.2 = H.2.2 := by rw [x3]
  refine ⟨Y, _, _, n + 6 * v, fun Q => ?_, jI_up hS hI1 y2 y3, hr_wayI hB hn6 v (bx a t) n hI.2.2.2 (by omega) hy, by omega, by omega, by omega, by omega, fun m hm h2 => (y2 m (by omega)).trans (x4 m hm)⟩
  have y1' : ∀ Q, xcall E xprog (d + 8) 118 [.ref (ad 1), .int (nI v)] (jH ad ro b s nk nc nn ru X a t) Q = _ := y1
  by_cases c2 : bel x 4 = 0
  · rw [if_pos c2] at hv2
    simp only [↓reduceIte, s_L_act_255, s_L_act_256, s_L_act_257, s_L_act_258, s_L_act_259, s_L_act_260, s_L_act_261, s_L_act_264, s_L_act_267, s_L_act_269, s_L_act_272, s_L_act_274, s_L_act_277, s_L_act_278, s_L_act_280, s_L_act_281, s_L_act_283, s_L_act_286, s_L_act_287, s_L_act_289, s_L_act_292, s_L_act_295, s_L_act_296, s_L_act_299, s_L_act_300, not_false_eq_true, Nat.reduceLT, Nat.reduceAdd, true_and, and_true, if_true, if_false, ite_true, ite_false, xnb_0, xnb_1, xnb_b, xk_v, xk_n, b1, b2, hz0, eq_true c2, show (1 : Int32) + nI (bel (x >>> (2 &&& 31)) 60) = nI v by rw [hv2]; exact nI_ad 1 _, hcl, hcm, x1, y1']
  · rw [if_neg c2] at hv2
    simp only [↓reduceIte, s_L_act_255, s_L_act_256, s_L_act_257, s_L_act_258, s_L_act_259, s_L_act_260, s_L_act_261, s_L_act_264, s_L_act_267, s_L_act_269, s_L_act_272, s_L_act_274, s_L_act_277, s_L_act_278, s_L_act_280, s_L_act_281, s_L_act_283, s_L_act_286, s_L_act_287, s_L_act_289, s_L_act_292, s_L_act_295, s_L_act_296, s_L_act_299, s_L_act_300, not_false_eq_true, Nat.reduceLT, Nat.reduceAdd, true_and, and_true, if_true, if_false, ite_true, ite_false, xnb_0, xnb_1, xnb_b, xk_v, xk_n, b1, b3, hz0, eq_false c2, show (1 : Int32) + nI (bel (x >>> (2 &&& 31)) 6) = nI v by rw [hv2]; exact nI_ad 1 _, hcl, hcm, x1, y1']
theorem f_L_act (hS : jS E ad ro nk nc nn lo hi b s cnt rs re co rw') (hI : jI E ro ru nk nn lo hi Kb Ks ep b nm s co rw' n H a t) (hy : kWy a nn) (hn : n + 360 < 999990) : ∃ X a' t' n', (∀ Q, xcall E xprog (d + 9) 170 [.ref 0, .ref (ad 1), .int x] (jH ad ro b s nk nc nn ru H a t) Q = Q (.inl (some (.int 1)), jH ad ro b s nk nc nn ru X a' t')) ∧ jI E ro ru nk nn lo hi Kb Ks ep b nm s co rw' n' X a' t' ∧ kWy a' nn ∧ n' ≤ n + 360 ∧ H.2.1 ≤ X.2.1 ∧ X.2.1 ≤ H.2.1 + 420 ∧ X.2.2 ≤ H.2.2 + 4200 ∧ ∀ m, 63 ≤ m → m < H.2.1 → X.1 m = H.1 m := by
  have a0 := fun (Q : xR → Prop) => act_0 (E := E) (d := d) (Q := Q) (x := x) (H := H) (a := a) (t := t) (ru := ru) hS
  have fin : ∀ pc, (if bel (x >>> (9 &&& 31)) 8 < 2 then 52 else if bel (x >>> (9 &&& 31)) 8 = 2 then 103 else if bel (x >>> (9 &&& 31)) 8 = 3 then 166 else 255) = pc → (∃ X a' t' n', (∀ Q, xr E (d + 8) m_L_act Q (pc, [some (.ref 0), some (.ref (ad 1)), some (.int x), some (.int (nI (bel (x >>> (1 &&& 31)) nn))), none, none, none, none, none, none], [], (jH ad ro b s nk nc nn ru H a t)) = Q (.inl (some (.int 1)), jH ad ro b s nk nc nn ru X a' t')) ∧ jI E ro ru nk nn lo hi Kb Ks ep b nm s co rw' n' X a' t' ∧ kWy a' nn ∧ n' ≤ n + 360 ∧ H.2.1 ≤ X.2.1 ∧ X.2.1 ≤ H.2.1 + 420 ∧ X.2.2 ≤ H.2.2 + 4200 ∧ ∀ m, 63 ≤ m → m < H.2.1 → X.1 m = H.1 m) → ∃ X a' t' n', (∀ Q, xcall E xprog (d + 9) 170 [.ref 0, .ref (ad 1), .int x] (jH ad ro b s nk nc nn ru H a t) Q = Q (.inl (some (.int 1)), jH ad ro b s nk nc nn ru X a' t')) ∧ jI E ro ru nk nn lo hi Kb Ks ep b nm s co rw' n' X a' t' ∧ kWy a' nn ∧ n' ≤ n + 360 ∧ H.2.1 ≤ X.2.1 ∧ X.2.1 ≤ H.2.1 + 420 ∧ X.2.2 ≤ H.2.2 + 4200 ∧ ∀ m, 63 ≤ m → m < H.2.1 → X.1 m = H.1 m := by
    intro pc hpc ⟨X, a', t', n', g1, g2⟩
    refine ⟨X, a', t', n', fun Q => ?_, g2⟩
    rw [e_L_act, a0, hpc]
    exact g1 Q
  by_cases c0 : bel (x >>> (9 &&& 31)) 8 < 2
  · exact fin 52 (if_pos c0) (act_w hS hI hy hn)
  by_cases c2 : bel (x >>> (9 &&& 31)) 8 = 2
  · exact fin 103 (by rw [if_neg c0, if_pos c2]) (act_j hS hI hy hn)
  by_cases c3 : bel (x >>> (9 &&& 31)) 8 = 3
  · exact fin 166 (by rw [if_neg c0, if_neg c2, if_pos c3]) (act_k hS hI hy hn)
  · exact fin 255 (by rw [if_neg c0, if_neg c2, if_neg c3]) (act_s hS hI hy hn)
end ACT
