/-! ===== the law: what is done, and what kettles are ===== -/
section LAW1
variable {E : xE} {d D : Nat} {Q : xR → Prop} {H H' W X Z : xH} {ad ro : Nat → Nat} {b a a' a2 : Nat → Nat → Int32} {s t t' t2 ms sk : Nat → Int32} {nk nc nn lo hi co rw' n cnt Kb Ks c i j q1 q2 q3 : Nat} {ru : Nat → Option Nat} {nm : Nat → Int64} {rs re : Nat → Nat} {ep h : Int32} {x y v z w v4 v5 v6 v9 v10 v11 v12 v13 : Int32} {u3 u4 u5 u6 u7 u8 u9 u10 u11 u12 u13 u14 u15 u16 u17 u18 u19 u20 u21 u22 : Option Value}

theorem lw_1 (hE : E.1 ≤ 260) (hS : jS E ad ro nk nc nn lo hi b s cnt rs re co rw') (hI : jI E ro ru nk nn lo hi Kb Ks ep b nm s co rw' n H a t) (hy : kWy a nn) (hn : n + 360 < 999990) (h30 : i < 30) : ∃ X a' t' n' v4, (∀ Q, xr E (d + 156) m_L_law Q (40, [some (.retAddr 0), some (.ref 0), some (.ref (ad 1)), some (.int (nI i)), u4, u5, u6, u7, u8, u9, u10, u11, u12, u13, u14, u15, u16, u17, u18, u19, u20, u21, u22], [], (jH ad ro b s nk nc nn ru H a t)) = xr E (d + 156) m_L_law Q (93, [some (.retAddr 0), some (.ref 0), some (.ref (ad 1)), some (.int (nI i)), some (.int (v4)), u5, u6, u7, u8, u9, u10, u11, u12, u13, u14, u15, u16, u17, u18, u19, u20, u21, u22], [], (jH ad ro b s nk nc nn ru X a' t'))) ∧ jI E ro ru nk nn lo hi Kb Ks ep b nm s co rw' n' X a' t' ∧ kWy a' nn ∧ n' ≤ n + 360 ∧ H.2.1 ≤ X.2.1 ∧ X.2.1 ≤ H.2.1 + 420 ∧ X.2.2 ≤ H.2.2 + 4200 := by
  have h16 : nI i / 16 = nI (i / 16) := nI_dv (y := 16) (by omega) (by omega) (by omega)
  have h16b : nI i - nI (i / 16) * 16 = nI (i % 16) := by
    rw [← h16]; exact nI_md (y := 16) (by omega) (by omega) (by omega)
  have hc : ∀ (Q : xR → Prop), xcall E xprog (d + 156) 168 [.retAddr 0, .int (nI (i % 16))] (jH ad ro b s nk nc nn ru H a t) Q = Q (.inl (some (.int (cel E (i % 16)))), (jH ad ro b s nk nc nn ru H a t)) := fun Q => f_L_cell hE (by omega)
  have hb : ∀ (v : Int32) (Q : xR → Prop), xcall E xprog (d + 156) 167 [.int v, .int 3] (jH ad ro b s nk nc nn ru H a t) Q = Q (.inl (some (.int (nI (bel v 3)))), (jH ad ro b s nk nc nn ru H a t)) := fun v Q => f_L_below v (n := 3) (by omega) (by omega)
  have hbl := fun v => bel_lt (v := v) (n := 3) (by omega)
  have hz0 : ∀ v, (nI (bel v 3) = 0) = (bel v 3 = 0) := fun v => nI_q (y := 0) (by have := hbl v; omega) (by omega)
  have hlt : (nI i < (30 : Int32)) = True := nlt (n := 30) h30 (by omega)
  obtain ⟨x, hx⟩ : ∃ x, x = (cel E (i % 16) >>> ((nI (i / 16) * 3) &&& 31)) + 607 * nI i := ⟨_, rfl⟩
  by_cases e : bel (x >>> (7 &&& 31)) 3 = 0
  · obtain ⟨X, a', t', n', x1, x2, x3, x4, x5, x6, x7, x8⟩ := f_L_act (E := E) (d := d + 147) (x := x) hS hI hy hn
    refine ⟨X, a', t', n', x, fun Q => ?_, x2, x3, x4, x5, x6, x7⟩
    rw [s_L_law_40]
    rw [hx] at e x1 ⊢
    simp only [↓reduceIte, s_L_law_41, s_L_law_43, s_L_law_46, s_L_law_47, s_L_law_48, s_L_law_50, s_L_law_51, s_L_law_54, s_L_law_55, s_L_law_57, s_L_law_58, s_L_law_59, s_L_law_60, s_L_law_61, s_L_law_64, s_L_law_65, s_L_law_66, s_L_law_67, s_L_law_69, s_L_law_71, s_L_law_73, s_L_law_74, s_L_law_75, s_L_law_78, s_L_law_81, s_L_law_82, s_L_law_83, s_L_law_85, s_L_law_88, not_false_eq_true, Nat.reduceLT, Nat.reduceAdd, true_and, and_true, if_true, if_false, ite_true, ite_false, xnb_0, xnb_1, xnb_b, xk_v, xk_n, hlt, h16, h16b, show ((16 : Int32) = 0) = False from eq_false (by decide), hc, hb, hz0, eq_true e, x1, show ((1 : Int32) = 0) = False from eq_false (by decide)]
  · refine ⟨H, a, t, n, x, fun Q => ?_, hI, hy, by omega, Nat.le_refl _, by omega, by omega⟩
    rw [s_L_law_40]
    rw [hx] at e ⊢
    simp only [↓reduceIte, s_L_law_41, s_L_law_43, s_L_law_46, s_L_law_47, s_L_law_48, s_L_law_50, s_L_law_51, s_L_law_54, s_L_law_55, s_L_law_57, s_L_law_58, s_L_law_59, s_L_law_60, s_L_law_61, s_L_law_64, s_L_law_65, s_L_law_66, s_L_law_67, s_L_law_69, s_L_law_71, s_L_law_73, s_L_law_74, s_L_law_75, s_L_law_78, not_false_eq_true, Nat.reduceLT, Nat.reduceAdd, true_and, and_true, if_true, if_false, ite_true, ite_false, xnb_0, xnb_1, xnb_b, xk_v, xk_n, hlt, h16, h16b, show ((16 : Int32) = 0) = False from eq_false (by decide), hc, hb, hz0, eq_false e]
/-- what has been noted of kettles -/
def ktN (W : xH) (q1 q2 nk : Nat) (a : Nat → Nat → Int32) (k : Nat) : Prop := ∃ f g, W.1 q1 = xarI nk f ∧ W.1 q2 = xarI nk g ∧ ∀ j, j < k → f j = a 0 j ∧ g j = a 2 j
theorem lw_2a (hS : jS E ad ro nk nc nn lo hi b s cnt rs re co rw') (hI : jI E ro ru nk nn lo hi Kb Ks ep b nm s co rw' n H a t) : ∃ X, (∀ Q, xr E (d + 156) m_L_law Q (93, [some (.retAddr 0), some (.ref 0), some (.ref (ad 1)), some (.int (nI i)), some (.int (v4)), u5, u6, u7, u8, u9, u10, u11, u12, u13, u14, u15, u16, u17, u18, u19, u20, u21, u22], [], (jH ad ro b s nk nc nn ru H a t)) = xr E (d + 156) m_L_law Q (121, [some (.retAddr 0), some (.ref 0), some (.ref (ad 1)), some (.int (nI i)), some (.int (v4)), some (.int (nI nn)), some (.int (nI 0)), some (.ref (H.2.1)), some (.ref (H.2.1 + 1)), some (.int (nI 0)), u10, u11, u12, u13, u14, u15, u16, u17, u18, u19, u20, u21, u22], [], (jH ad ro b s nk nc nn ru X a t))) ∧ jI E ro ru nk nn lo hi Kb Ks ep b nm s co rw' n X a t ∧ ktN X H.2.1 (H.2.1 + 1) nk a 0 ∧ X.2.1 = H.2.1 + 2 ∧ X.2.2 ≤ H.2.2 + 12 := by
  have hz := jS_z hS
  obtain ⟨hj, hlo, -, hB, hW, hR, hn1, -⟩ := id hS
  obtain ⟨w1, w2, w3, w4, w5, w6, -⟩ := id hW
  have q1 := fun (Z : xH) (hc : cls Z Kb Ks ep b nm s a t) (Q : xR → Prop) => c_T_clippers (E := E) (d := d + 155) (Q := Q) (cls_J (ad := ad) (nk := nk) (nc := nc) (nn := nn) (ru := ru) (a2 := a) (t2 := t) (b2 := b) (s2 := s) hc hz).1 (cls_J hc hz).2.2.1
  have q2 := fun (Z : xH) (hc : cls Z Kb Ks ep b nm s a t) (Q : xR → Prop) => c_T_kettles (E := E) (d := d + 155) (Q := Q) (cls_J (ad := ad) (nk := nk) (nc := nc) (nn := nn) (ru := ru) (a2 := a) (t2 := t) (b2 := b) (s2 := s) hc hz).1 (cls_J hc hz).2.2.1
  rw [w5] at q1
  rw [w1] at q2
  have hI1 : jI E ro ru nk nn lo hi Kb Ks ep b nm s co rw' n (xnew H (xarI nk (fun _ => 0)) nk) a t := jI_up hS hI (fun n hn => by rw [xnew_g, if_neg (by omega)]) (Nat.le_succ _)
  have hI2 : jI E ro ru nk nn lo hi Kb Ks ep b nm s co rw' n (xnew (xnew H (xarI nk (fun _ => 0)) nk) (xarI nk (fun _ => 0)) nk) a t := jI_up hS hI1 (fun n hn => by rw [xnew_g, if_neg (by omega)]) (Nat.le_succ _)
  have c1 : xcl (jH ad ro b s nk nc nn ru H a t) 0 = 8 := xc_of (cls_J hI.1 hz).1
  have c2 : xcl (jH ad ro b s nk nc nn ru (xnew H (xarI nk (fun _ => 0)) nk) a t) 0 = 8 := xc_of (cls_J hI1.1 hz).1
  refine ⟨_, fun Q => ?_, hI2, ⟨fun _ => 0, fun _ => 0, ?_, if_pos rfl, fun j hj => absurd hj (Nat.not_lt_zero _)⟩, rfl, ?_⟩
  · simp only [↓reduceIte, s_L_law_93, s_L_law_94, s_L_law_97, s_L_law_99, s_L_law_100, s_L_law_102, s_L_law_103, s_L_law_106, s_L_law_108, s_L_law_110, s_L_law_111, s_L_law_114, s_L_law_116, s_L_law_118, s_L_law_119, not_false_eq_true, Nat.reduceLT, Nat.reduceAdd, true_and, and_true, if_true, if_false, ite_true, ite_false, xnb_0, xnb_1, xnb_b, xk_v, xk_n, c1, c2, q1 H hI.1, q2 H hI.1, q2 _ hI1.1, nI_n0 nk (by omega), ncl (show nk < 2147483648 by omega), show (nk * 4 ≤ 536870912) = True from eq_true (by omega), j_new hj hI.2.2.1, j_new hj hI1.2.2.1]
    rfl
  · show (if H.2.1 = H.2.1 + 1 then _ else if H.2.1 = H.2.1 then _ else _) = _
    rw [if_neg (by omega), if_pos rfl]
  · show H.2.2 + nk + nk ≤ _
    omega
theorem cus_own {k : Nat} (hd : ∀ i j, i < nk → j < nc → ¬ (b 2 i = b 5 j ∧ b 3 i = b 6 j)) (hk : k < nk) : ∀ m i, i + m = nc → cAt (b 5) (b 6) (b 2 k) (b 3 k) i m = 0
  | 0, i, h1 => rfl
  | m + 1, i, h1 => by
    unfold cAt
    rw [if_neg (fun q => hd k i hk (by omega) ⟨q.1.symm, q.2.symm⟩)]
    exact cus_own hd hk m (i + 1) (by omega)
/-- a kettle is noted -/
theorem lw_2b (hS : jS E ad ro nk nc nn lo hi b s cnt rs re co rw') (hI : jI E ro ru nk nn lo hi Kb Ks ep b nm s co rw' n W a t) {k st : Nat} (hk : k < nk) (hN : ktN W q1 q2 nk a k) (hq1 : hi ≤ q1) (hq2 : hi ≤ q2) (hq : ¬ q1 = q2) (hq3 : q1 < W.2.1) (hq4 : q2 < W.2.1) (hst : st ≤ k) (hs0 : st = 0 → ∀ j, j < k → ¬ a 0 j = 0) : ∃ X st', (∀ Q, xr E (d + 156) m_L_law Q (121, [some (.retAddr 0), some (.ref 0), some (.ref (ad 1)), some (.int (nI i)), some (.int (v4)), some (.int (nI nn)), some (.int (nI st)), some (.ref (q1)), some (.ref (q2)), some (.int (nI k)), u10, u11, u12, u13, u14, u15, u16, u17, u18, u19, u20, u21, u22], [], (jH ad ro b s nk nc nn ru W a t)) = xr E (d + 156) m_L_law Q (121, [some (.retAddr 0), some (.ref 0), some (.ref (ad 1)), some (.int (nI i)), some (.int (v4)), some (.int (nI nn)), some (.int (nI st')), some (.ref (q1)), some (.ref (q2)), some (.int (nI (k + 1))), u10, u11, u12, u13, u14, u15, u16, u17, u18, u19, u20, u21, u22], [], (jH ad ro b s nk nc nn ru X a t))) ∧ jI E ro ru nk nn lo hi Kb Ks ep b nm s co rw' n X a t ∧ ktN X q1 q2 nk a (k + 1) ∧ st' ≤ k + 1 ∧ (st' = 0 → ∀ j, j < k + 1 → ¬ a 0 j = 0) ∧ X.2 = W.2 := by
  have hz := jS_z hS
  obtain ⟨hj, hlo, hlz, hB, hW, hR, hn1, hd1, hd2⟩ := id hS
  obtain ⟨w1, w2, w3, w4, w5, w6, -⟩ := id hW
  obtain ⟨f, g, f1, g1, fg⟩ := hN
  have lohi : lo < hi := by
    have o := (hS.1.2.2.2.2 (ad 1) (by rw [hS.1.2.2.2.1 1 (Or.inl ⟨by omega, by omega⟩)]; omega)).2.2
    omega
  have hup : ∀ (C D : xC), jI E ro ru nk nn lo hi Kb Ks ep b nm s co rw' n (xset (xset W q1 C) q2 D) a t := fun C D => ⟨cls_eq hI.1 fun n hn => (xset_o n (by omega)).trans (xset_o n (by omega)), jL_fr hI.2.1 fun n _ h2 => (xset_o n (by omega)).trans (xset_o n (by omega)), hI.2.2.1, hI.2.2.2⟩
  have hup1 : ∀ (C : xC), jI E ro ru nk nn lo hi Kb Ks ep b nm s co rw' n (xset W q1 C) a t := fun C => ⟨cls_eq hI.1 fun n hn => (xset_o n (by omega)), jL_fr hI.2.1 fun n _ h2 => (xset_o n (by omega)), hI.2.2.1, hI.2.2.2⟩
  obtain ⟨W1, hW1⟩ : ∃ W1, W1 = xset W q1 (xarI nk (upd f k (a 0 k))) := ⟨_, rfl⟩
  obtain ⟨W2, hW2⟩ : ∃ W2, W2 = xset W1 q2 (xarI nk (upd g k (a 2 k))) := ⟨_, rfl⟩
  have hI1 : jI E ro ru nk nn lo hi Kb Ks ep b nm s co rw' n W1 a t := by rw [hW1]; exact hup1 _
  have hI2 : jI E ro ru nk nn lo hi Kb Ks ep b nm s co rw' n W2 a t := by rw [hW2, hW1]; exact hup _ _
  have e1 : xset (jH ad ro b s nk nc nn ru W a t) q1 (xarI nk (upd f k (a 0 k))) = (jH ad ro b s nk nc nn ru W1 a t) := by rw [j_set hj hq1, hW1]
  have e2 : xset (jH ad ro b s nk nc nn ru W1 a t) q2 (xarI nk (upd g k (a 2 k))) = (jH ad ro b s nk nc nn ru W2 a t) := by rw [j_set hj hq2, hW2]
  have m1 : W1.1 q2 = xarI nk g := by rw [hW1, xset_o _ (by omega)]; exact g1
  have m2 : W2.1 q1 = xarI nk (upd f k (a 0 k)) := by rw [hW2, xset_o _ (by omega), hW1]; exact xset_s _ rfl
  have m3 : W2.1 q2 = xarI nk (upd g k (a 2 k)) := by rw [hW2]; exact xset_s _ rfl
  have m4 : W2.2 = W.2 := by rw [hW2, hW1]; rfl
  obtain ⟨z1, -, z3, z4, -⟩ := cls_J (ad := ad) (nk := nk) (nc := nc) (nn := nn) (ru := ru) (a2 := a) (t2 := t) (b2 := b) (s2 := s) hI.1 hz
  obtain ⟨y1, -, y3, y4, -⟩ := cls_J (ad := ad) (nk := nk) (nc := nc) (nn := nn) (ru := ru) (a2 := a) (t2 := t) (b2 := b) (s2 := s) hI1.1 hz
  obtain ⟨x1, -, x3, x4, -⟩ := cls_J (ad := ad) (nk := nk) (nc := nc) (nn := nn) (ru := ru) (a2 := a) (t2 := t) (b2 := b) (s2 := s) hI2.1 hz
  have r1 := j_1 (b := b) (s := s) (ru := ru) (H := W2) (a := a) (t := t) hj
  have r2 := j_2 (b := b) (s := s) (ru := ru) (H := W2) (a := a) (t := t) hj
  have rk := j_k (k := k) (b := b) (s := s) (ru := ru) (H := W2) (a := a) (t := t) hj hk
  have p1 := (j_out (b := b) (s := s) (ru := ru) (H := W) (a := a) (t := t) hj hq1).trans f1
  have p2 := (j_out (b := b) (s := s) (ru := ru) (H := W1) (a := a) (t := t) hj hq2).trans m1
  have p3 := (j_out (b := b) (s := s) (ru := ru) (H := W2) (a := a) (t := t) hj hq1).trans m2
  have c1 : xcl (jH ad ro b s nk nc nn ru W a t) 0 = 8 := xc_of z1
  have c2 : xcl (jH ad ro b s nk nc nn ru W1 a t) 0 = 8 := xc_of y1
  have c3 : xcl (jH ad ro b s nk nc nn ru W2 a t) 0 = 8 := xc_of x1
  have q1' := fun (Q : xR → Prop) => c_T_becalmedFor_i (E := E) (d := d + 153) (Q := Q) z1 z3 z4 w1 w2 hk
  have q2' := fun (Q : xR → Prop) => c_T_visitsTo_i (E := E) (d := d + 153) (Q := Q) y1 y3 y4 w1 w2 hk
  have q3 := fun (Q : xR → Prop) => c_T_hasSteam (E := E) (d := d + 153) (Q := Q) x1 x3 x4 w1 w2 (b 2 k) (b 3 k)
  have q4 := fun (Q : xR → Prop) => c_T_hasCustoms (E := E) (d := d + 153) (Q := Q) x1 x3 w3 w4 (b 2 k) (b 3 k)
  simp only [if_neg (cel_k hB hk), ste_own hd1 w2 hk] at q3
  simp only [if_neg (cel_k hB hk), cus_own hd2 hk nc 0 (by omega)] at q4
  obtain ⟨zc, zc1, zc2⟩ := hI.2.2.2.1 k hk
  have k0 : (a 0 k < 0) = False := by rw [zc2]; exact nI_n0 zc (by omega)
  have k20 : ((20 : Int32) < a 0 k) = False := by rw [zc2]; exact nge (i := 20) (n := zc) zc1 (by omega)
  have us : upd f k (a 0 k) k = a 0 k := upd_s
  have hN2 : ktN W2 q1 q2 nk a (k + 1) := ⟨_, _, m2, m3, fun j hj => by
    by_cases e : j = k
    · subst e; exact ⟨upd_s, upd_s⟩
    · rw [upd_o e, upd_o e]; exact fg j (by omega)⟩
  clear hW1 hW2
  by_cases e : a 0 k = 0
  · simp only [if_pos e] at q3
    refine ⟨W2, st + 1, fun Q => ?_, hI2, hN2, by omega, fun h => by omega, m4⟩
    rw [s_L_law_121]
    simp only [↓reduceIte, s_L_law_123, s_L_law_125, s_L_law_126, s_L_law_129, s_L_law_131, s_L_law_133, s_L_law_134, s_L_law_136, s_L_law_139, s_L_law_140, s_L_law_142, s_L_law_144, s_L_law_145, s_L_law_147, s_L_law_150, s_L_law_151, s_L_law_153, s_L_law_155, s_L_law_157, s_L_law_158, s_L_law_161, s_L_law_162, s_L_law_165, s_L_law_166, s_L_law_167, s_L_law_169, s_L_law_171, s_L_law_173, s_L_law_174, s_L_law_177, s_L_law_179, s_L_law_181, s_L_law_182, s_L_law_184, s_L_law_187, s_L_law_188, s_L_law_189, s_L_law_192, s_L_law_194, s_L_law_195, s_L_law_196, s_L_law_197, s_L_law_198, s_L_law_201, s_L_law_203, s_L_law_204, s_L_law_205, s_L_law_206, s_L_law_209, s_L_law_211, s_L_law_213, s_L_law_214, s_L_law_217, s_L_law_218, s_L_law_221, s_L_law_222, s_L_law_225, s_L_law_226, s_L_law_227, s_L_law_230, s_L_law_232, s_L_law_233, s_L_law_234, s_L_law_235, s_L_law_236, s_L_law_239, s_L_law_241, s_L_law_242, s_L_law_243, s_L_law_244, s_L_law_247, s_L_law_250, s_L_law_251, s_L_law_252, s_L_law_255, not_false_eq_true, Nat.reduceLT, Nat.reduceAdd, true_and, and_true, if_true, if_false, ite_true, ite_false, xnb_0, xnb_1, xnb_b, xk_v, xk_n, xln_I p1, Option.isSome_some, Option.getD_some, nlt hk (show nk < 2147483648 by omega), c1, c2, c3, q1', q2', q3, q4, xIl_of p1, xIf_of p1, xIl_of p2, xIf_of p2, xIl_of p3, xIf_of p3, e1, e2, us, nvp hk (show nk < 2147483648 by omega), ncl (show k < 2147483648 by omega), eq_true e, k0, k20, xf_of r1, xll_10, xlg_10_0, xlg_10_1, xlg_10_2, xlg_10_3, xlg_10_4, xlg_10_5, xlg_10_6, xlg_10_7, xlg_10_8, (xA_of r2).1, (xA_of r2).2.1, if_pos hk, xrf_s, xIl_of rk, xIf_of rk, ic_0, ic_1, v5_0, v5_1, kf_0, kf_1, show nI k + 1 = nI (k + 1) from nI_ad k 1, show nI st + 1 = nI (st + 1) from nI_ad st 1]
  · simp only [if_neg e] at q3
    refine ⟨W2, st, fun Q => ?_, hI2, hN2, by omega, fun h j hj => ?_, m4⟩
    · rw [s_L_law_121]
      simp only [↓reduceIte, s_L_law_123, s_L_law_125, s_L_law_126, s_L_law_129, s_L_law_131, s_L_law_133, s_L_law_134, s_L_law_136, s_L_law_139, s_L_law_140, s_L_law_142, s_L_law_144, s_L_law_145, s_L_law_147, s_L_law_150, s_L_law_151, s_L_law_153, s_L_law_155, s_L_law_157, s_L_law_158, s_L_law_161, s_L_law_162, s_L_law_165, s_L_law_166, s_L_law_167, s_L_law_169, s_L_law_171, s_L_law_173, s_L_law_174, s_L_law_177, s_L_law_179, s_L_law_181, s_L_law_182, s_L_law_184, s_L_law_187, s_L_law_188, s_L_law_189, s_L_law_192, s_L_law_194, s_L_law_195, s_L_law_196, s_L_law_197, s_L_law_198, s_L_law_201, s_L_law_203, s_L_law_204, s_L_law_205, s_L_law_206, s_L_law_209, s_L_law_211, s_L_law_213, s_L_law_214, s_L_law_217, s_L_law_218, s_L_law_221, s_L_law_222, s_L_law_225, s_L_law_226, s_L_law_227, s_L_law_230, s_L_law_232, s_L_law_233, s_L_law_234, s_L_law_235, s_L_law_236, s_L_law_239, s_L_law_241, s_L_law_242, s_L_law_243, s_L_law_244, s_L_law_247, s_L_law_250, s_L_law_251, s_L_law_252, s_L_law_255, not_false_eq_true, Nat.reduceLT, Nat.reduceAdd, true_and, and_true, if_true, if_false, ite_true, ite_false, xnb_0, xnb_1, xnb_b, xk_v, xk_n, xln_I p1, Option.isSome_some, Option.getD_some, nlt hk (show nk < 2147483648 by omega), c1, c2, c3, q1', q2', q3, q4, xIl_of p1, xIf_of p1, xIl_of p2, xIf_of p2, xIl_of p3, xIf_of p3, e1, e2, us, nvp hk (show nk < 2147483648 by omega), ncl (show k < 2147483648 by omega), eq_false e, k0, k20, xf_of r1, xll_10, xlg_10_0, xlg_10_1, xlg_10_2, xlg_10_3, xlg_10_4, xlg_10_5, xlg_10_6, xlg_10_7, xlg_10_8, (xA_of r2).1, (xA_of r2).2.1, if_pos hk, xrf_s, xIl_of rk, xIf_of rk, ic_0, ic_1, v5_0, v5_1, kf_0, kf_1, show nI k + 1 = nI (k + 1) from nI_ad k 1, show nI st + 0 = nI st from i_p0 _]
    · by_cases g : j = k
      · subst g; exact e
      · exact hs0 h j (by omega)
theorem lw_2c (hS : jS E ad ro nk nc nn lo hi b s cnt rs re co rw') (hq1 : hi ≤ q1) (hq2 : hi ≤ q2) (hq : ¬ q1 = q2) : ∀ (m k st : Nat) (W : xH), k + m = nk → jI E ro ru nk nn lo hi Kb Ks ep b nm s co rw' n W a t → ktN W q1 q2 nk a k → q1 < W.2.1 → q2 < W.2.1 → st ≤ k → (st = 0 → ∀ j, j < k → ¬ a 0 j = 0) → ∃ X st', (∀ Q, xr E (d + 156) m_L_law Q (121, [some (.retAddr 0), some (.ref 0), some (.ref (ad 1)), some (.int (nI i)), some (.int (v4)), some (.int (nI nn)), some (.int (nI st)), some (.ref (q1)), some (.ref (q2)), some (.int (nI k)), u10, u11, u12, u13, u14, u15, u16, u17, u18, u19, u20, u21, u22], [], (jH ad ro b s nk nc nn ru W a t)) = xr E (d + 156) m_L_law Q (258, [some (.retAddr 0), some (.ref 0), some (.ref (ad 1)), some (.int (nI i)), some (.int (v4)), some (.int (nI nn)), some (.int (nI st')), some (.ref (q1)), some (.ref (q2)), some (.int (nI nk)), u10, u11, u12, u13, u14, u15, u16, u17, u18, u19, u20, u21, u22], [], (jH ad ro b s nk nc nn ru X a t))) ∧ jI E ro ru nk nn lo hi Kb Ks ep b nm s co rw' n X a t ∧ ktN X q1 q2 nk a nk ∧ st' ≤ nk ∧ (st' = 0 → ∀ j, j < nk → ¬ a 0 j = 0) ∧ X.2 = W.2
  | 0, k, st, W, hk, hI, hN, h1, h2, h3, h4 => by
    obtain rfl : k = nk := by omega
    have w2 := hS.1.1
    obtain ⟨f, g, f1, g1, fg⟩ := id hN
    have p1 := (j_out (nk := k) (b := b) (s := s) (ru := ru) (H := W) (a := a) (t := t) hS.1 hq1).trans f1
    refine ⟨W, st, fun Q => ?_, hI, hN, h3, h4, rfl⟩
    rw [s_L_law_121]
    simp only [↓reduceIte, s_L_law_123, s_L_law_125, s_L_law_126, not_false_eq_true, Nat.reduceLT, Nat.reduceAdd, true_and, and_true, if_true, if_false, ite_true, ite_false, xnb_0, xnb_1, xnb_b, xk_v, xk_n, xln_I p1, Option.isSome_some, Option.getD_some, nge (Nat.le_refl k) (show k < 2147483648 by omega)]
  | m + 1, k, st, W, hk, hI, hN, h1, h2, h3, h4 => by
    obtain ⟨Y, st1, y1, y2, y3, y4, y5, y6⟩ := lw_2b (d := d) (i := i) (v4 := v4) (u10 := u10) (u11 := u11) (u12 := u12) (u13 := u13) (u14 := u14) (u15 := u15) (u16 := u16) (u17 := u17) (u18 := u18) (u19 := u19) (u20 := u20) (u21 := u21) (u22 := u22) hS hI (by omega) hN hq1 hq2 hq h1 h2 h3 h4
    obtain ⟨X, st2, x1, x2, x3, x4, x5, x6⟩ := lw_2c hS hq1 hq2 hq m (k + 1) st1 Y (by omega) y2 y3 (by rw [y6]; exact h1) (by rw [y6]; exact h2) y4 y5
    exact ⟨X, st2, fun Q => (y1 Q).trans (x1 Q), x2, x3, x4, x5, x6.trans y6⟩
end LAW1
