/-! ===== the class is taught ===== -/
section TTEACH
variable {E : xE} {d : Nat} {Q : xR → Prop} {H : xH} {K : Nat} {tp : Nat → Int32} {L : Int32} {er : Int32} {ep : Int32} {cc : Int32} {cr : Int32} {cnt : Int32} {nx : Int32} {kd : Nat → Int32} {st : Nat → Int32} {vl : Nat → Int64} {wd : Nat → Int64} {b : Nat → Nat → Int32} {nm : Nat → Int64} {s : Nat → Int32}
variable {H' : xH} {T : Nat → Nat} {l : Nat} {Kb Ks : Nat} {ep0 : Int32} {a : Nat → Nat → Int32} {t ms sk : Nat → Int32} {h : Int32} {B : Nat}
def rT (H : xH) (tp : Nat → Int32) (L er ep cc cr cnt nx : Int32) (kd st : Nat → Int32) (vl wd : Nat → Int64) : Prop :=
  H.1 1 = .inr (6, [.ref 2, .int L]) ∧ H.1 2 = xarB 1600 tp ∧ H.1 3 = .inr (2, [.ref 4, .ref 9, .int er, .int ep, .int cc, .int cr]) ∧ H.1 4 = .inr (7, [.ref 1, .ref 5, .ref 6, .ref 7, .ref 8, .int cnt, .int nx]) ∧
  H.1 5 = xarJ 26 wd ∧ H.1 6 = xarI 401 kd ∧ H.1 7 = xarI 401 st ∧ H.1 8 = xarJ 401 vl ∧ H.1 9 = .inr (3, [.ref 4])
def tgC (Kb Ks : Nat) (ep : Int32) : xC := .inr (8, [.ref 1, .ref 3, .ref 43, .ref 53, .ref Kb, .ref Ks, .int ep])
theorem rH_of (hT : rT H tp L er ep cc cr cnt nx kd st vl wd) (hB : kB H K b nm s) : H = (rH H K tp L er ep cc cr cnt nx kd st vl wd b nm s) := by
  obtain ⟨t0, t1, t2, t3, t4, t5, t6, t7, t8⟩ := hT
  obtain ⟨b0, b1, b2, b3, b4, b5, b6, b7, b8, b9, b10, b11, b12, b13, b14⟩ := hB
  refine Prod.ext ?_ rfl
  funext n
  unfold rH
  dsimp only
  by_cases p : n = 1
  · rw [if_pos p, p]; exact t0
  rw [if_neg p]
  by_cases p : n = 2
  · rw [if_pos p, p]; exact t1
  rw [if_neg p]
  by_cases p : n = 3
  · rw [if_pos p, p]; exact t2
  rw [if_neg p]
  by_cases p : n = 4
  · rw [if_pos p, p]; exact t3
  rw [if_neg p]
  by_cases p : n = 5
  · rw [if_pos p, p]; exact t4
  rw [if_neg p]
  by_cases p : n = 6
  · rw [if_pos p, p]; exact t5
  rw [if_neg p]
  by_cases p : n = 7
  · rw [if_pos p, p]; exact t6
  rw [if_neg p]
  by_cases p : n = 8
  · rw [if_pos p, p]; exact t7
  rw [if_neg p]
  by_cases p : n = 9
  · rw [if_pos p, p]; exact t8
  rw [if_neg p]
  by_cases p : n = K
  · rw [if_pos p, p]; exact b0
  rw [if_neg p]
  by_cases p : n = K + 1
  · rw [if_pos p, p]; exact b1
  rw [if_neg p]
  by_cases p : n = K + 2
  · rw [if_pos p, p]; exact b2
  rw [if_neg p]
  by_cases p : n = K + 3
  · rw [if_pos p, p]; exact b3
  rw [if_neg p]
  by_cases p : n = K + 4
  · rw [if_pos p, p]; exact b4
  rw [if_neg p]
  by_cases p : n = K + 5
  · rw [if_pos p, p]; exact b5
  rw [if_neg p]
  by_cases p : n = K + 6
  · rw [if_pos p, p]; exact b6
  rw [if_neg p]
  by_cases p : n = K + 7
  · rw [if_pos p, p]; exact b7
  rw [if_neg p]
  by_cases p : n = K + 8
  · rw [if_pos p, p]; exact b8
  rw [if_neg p]
  by_cases p : n = K + 9
  · rw [if_pos p, p]; exact b9
  rw [if_neg p]
  by_cases p : n = K + 10
  · rw [if_pos p, p]; exact b10
  rw [if_neg p]
  by_cases p : n = K + 11
  · rw [if_pos p, p]; exact b11
  rw [if_neg p]
  by_cases p : n = K + 12
  · rw [if_pos p, p]; exact b12
  rw [if_neg p]
  by_cases p : n = K + 13
  · rw [if_pos p, p]; exact b13
  rw [if_neg p]
  by_cases p : n = K + 14
  · rw [if_pos p, p]; exact b14
  rw [if_neg p]
theorem rH_rT : rT (rH H K tp L er ep cc cr cnt nx kd st vl wd b nm s) tp L er ep cc cr cnt nx kd st vl wd := ⟨rH_c0, rH_c1, rH_c2, rH_c3, rH_c4, rH_c5, rH_c6, rH_c7, rH_c8⟩
theorem rT_eq (hT : rT H tp L er ep cc cr cnt nx kd st vl wd) (e : ∀ n, 1 ≤ n → n ≤ 9 → H'.1 n = H.1 n) : rT H' tp L er ep cc cr cnt nx kd st vl wd := by
  unfold rT
  rw [e 1 (by omega) (by omega), e 2 (by omega) (by omega), e 3 (by omega) (by omega), e 4 (by omega) (by omega), e 5 (by omega) (by omega), e 6 (by omega) (by omega), e 7 (by omega) (by omega), e 8 (by omega) (by omega), e 9 (by omega) (by omega)]
  exact hT
theorem kB_eq (hB : kB H K b nm s) (e : ∀ n, K ≤ n → n ≤ K + 14 → H'.1 n = H.1 n) : kB H' K b nm s := by
  unfold kB
  rw [e K (by omega) (by omega), e (K + 1) (by omega) (by omega), e (K + 2) (by omega) (by omega), e (K + 3) (by omega) (by omega), e (K + 4) (by omega) (by omega), e (K + 5) (by omega) (by omega), e (K + 6) (by omega) (by omega), e (K + 7) (by omega) (by omega), e (K + 8) (by omega) (by omega), e (K + 9) (by omega) (by omega), e (K + 10) (by omega) (by omega), e (K + 11) (by omega) (by omega), e (K + 12) (by omega) (by omega), e (K + 13) (by omega) (by omega), e (K + 14) (by omega) (by omega)]
  exact hB
theorem kY_eq (hY : kY H B K a t) (e : ∀ n, B ≤ n → n ≤ B + 9 → H'.1 n = H.1 n) : kY H' B K a t := by
  unfold kY
  rw [e B (by omega) (by omega), e (B + 1) (by omega) (by omega), e (B + 2) (by omega) (by omega), e (B + 3) (by omega) (by omega), e (B + 4) (by omega) (by omega), e (B + 5) (by omega) (by omega), e (B + 6) (by omega) (by omega), e (B + 7) (by omega) (by omega), e (B + 8) (by omega) (by omega), e (B + 9) (by omega) (by omega)]
  exact hY
theorem kT_eq (hT : kT H ms sk h) (e : ∀ n, 40 ≤ n → n ≤ 42 → H'.1 n = H.1 n) : kT H' ms sk h := by
  unfold kT
  rw [e 40 (by omega) (by omega), e 41 (by omega) (by omega), e 42 (by omega) (by omega)]
  exact hT
theorem r0_w (hK : 9 < K) {c : xC} : xset (rH H K tp L er ep cc cr cnt nx kd st vl wd b nm s) 0 c = (rH (xset H 0 c) K tp L er ep cc cr cnt nx kd st vl wd b nm s) := by
  refine Prod.ext (funext fun n => ?_) rfl
  by_cases p : n = 0
  · subst p
    rw [rH_o hK 0 (Or.inl rfl)]
    rfl
  · rw [xset_o n p]
    unfold rH
    dsimp only
    rw [xset_o n p]
theorem r0_f (hK : 9 < K) {fs : List Value} : xfls (rH (xset H 0 (.inr (8, fs))) K tp L er ep cc cr cnt nx kd st vl wd b nm s) 0 8 = fs := xf_of ((rH_o hK 0 (Or.inl rfl)).trans rfl)
theorem x0_2 {c c' : xC} : xset (xset H 0 c) 0 c' = xset H 0 c' := by
  refine Prod.ext (funext fun n => ?_) rfl
  by_cases p : n = 0
  · rw [xset_s n p, xset_s n p]
  · rw [xset_o n p, xset_o n p, xset_o n p]
theorem x0_i {c : xC} (hc : H.1 0 = c) : H = xset H 0 c := by
  refine Prod.ext (funext fun n => ?_) rfl
  by_cases p : n = 0
  · rw [xset_s n p, p, hc]
  · rw [xset_o n p]
theorem f_T_teach (hc : H.1 0 = tgC Kb Ks ep0) (hR : rT H tp (nI l) er ep cc cr cnt nx kd st vl wd) (hs : kB H Ks b nm s) (hk : (Kb = 10 ∧ Ks = 25) ∨ (Kb = 25 ∧ Ks = 10)) (hY : kY H 43 Kb a t) (hT : kT H ms sk h)
    (hb : byt T tp) (hl : l ≤ 1600) (hN : ∀ x, x ≤ lst T l wd → kdT T l wd x = 2 → ∃ m, m ≤ 9999 ∧ (vaT T l x).toInt32 = nI m) :
    ∃ (H' : xH) (er' ep' cc' cr' cnt' nx' : Int32) (kd' st' : Nat → Int32) (vl' : Nat → Int64), (∀ Q, xcall E xprog (d + 154) 70 [.ref 0] H Q = Q (.inl (some (.int (rdP (kdA T l wd kd) (fun i => (vlA T l wd vl i).toInt32) (stA T l wd st) (vlA T l wd vl) 401 0 0 (0, -1) (cc, cr) ((b, nm, (6, 6), 0, 0, 0, 0) : bkS)).2.1.1)), H')) ∧ H'.2 = H.2 ∧ (∀ n, 52 < n → H'.1 n = H.1 n) ∧
      rT H' tp 0 er' ep' cc' cr' cnt' nx' kd' st' vl' wd ∧ kT H' ms sk h ∧ kB H' Ks (rdP (kdA T l wd kd) (fun i => (vlA T l wd vl i).toInt32) (stA T l wd st) (vlA T l wd vl) 401 0 0 (0, -1) (cc, cr) ((b, nm, (6, 6), 0, 0, 0, 0) : bkS)).2.2.2.1 (rdP (kdA T l wd kd) (fun i => (vlA T l wd vl i).toInt32) (stA T l wd st) (vlA T l wd vl) 401 0 0 (0, -1) (cc, cr) ((b, nm, (6, 6), 0, 0, 0, 0) : bkS)).2.2.2.2.1 (sxK (rdP (kdA T l wd kd) (fun i => (vlA T l wd vl i).toInt32) (stA T l wd st) (vlA T l wd vl) 401 0 0 (0, -1) (cc, cr) ((b, nm, (6, 6), 0, 0, 0, 0) : bkS)).2.2.2) ∧ (∀ n, Kb ≤ n → n ≤ Kb + 14 → H'.1 n = H.1 n) ∧
      (¬ (rdP (kdA T l wd kd) (fun i => (vlA T l wd vl i).toInt32) (stA T l wd st) (vlA T l wd vl) 401 0 0 (0, -1) (cc, cr) ((b, nm, (6, 6), 0, 0, 0, 0) : bkS)).2.1.1 = 0 → H'.1 0 = tgC Kb Ks (rdP (kdA T l wd kd) (fun i => (vlA T l wd vl i).toInt32) (stA T l wd st) (vlA T l wd vl) 401 0 0 (0, -1) (cc, cr) ((b, nm, (6, 6), 0, 0, 0, 0) : bkS)).2.1.2 ∧ kY H' 43 Kb a t) ∧ ((rdP (kdA T l wd kd) (fun i => (vlA T l wd vl i).toInt32) (stA T l wd st) (vlA T l wd vl) 401 0 0 (0, -1) (cc, cr) ((b, nm, (6, 6), 0, 0, 0, 0) : bkS)).2.1.1 = 0 → H'.1 0 = tgC Ks Kb (rdP (kdA T l wd kd) (fun i => (vlA T l wd vl i).toInt32) (stA T l wd st) (vlA T l wd vl) 401 0 0 (0, -1) (cc, cr) ((b, nm, (6, 6), 0, 0, 0, 0) : bkS)).2.1.2 ∧ kY H' 43 Ks (bg2 (bg1 a 0 6) (rdP (kdA T l wd kd) (fun i => (vlA T l wd vl i).toInt32) (stA T l wd st) (vlA T l wd vl) 401 0 0 (0, -1) (cc, cr) ((b, nm, (6, 6), 0, 0, 0, 0) : bkS)).2.2.2.1 0 6) (tri 0 0 0)) := by
  have hK : 9 < Ks := by omega
  have hr := fun (X : xH) (Q : xR → Prop) => f_BR_read (E := E) (d := d) (Q := Q) (H := X) (K := Ks) (tp := tp) (er := er) (ep := ep) (cc := cc) (cr := cr) (cnt := cnt) (nx := nx) (kd := kd) (st := st) (vl := vl) (wd := wd) (b := b) (nm := nm) (s := s) hK hb hl hN
  have e0 : H = rH (xset H 0 (tgC Kb Ks ep0)) Ks tp (nI l) er ep cc cr cnt nx kd st vl wd b nm s := by
    rw [← x0_i hc]
    exact rH_of hR hs
  have st1 : ∀ Q, xcall E xprog (d + 154) 70 [.ref 0] H Q = xcall E xprog (d + 154) 70 [.ref 0] (rH (xset H 0 (tgC Kb Ks ep0)) Ks tp (nI l) er ep cc cr cnt nx kd st vl wd b nm s) Q := fun Q => by rw [← e0]
  generalize hrd : (rdP (kdA T l wd kd) (fun i => (vlA T l wd vl i).toInt32) (stA T l wd st) (vlA T l wd vl) 401 0 0 (0, -1) (cc, cr) ((b, nm, (6, 6), 0, 0, 0, 0) : bkS)) = rd at hr ⊢
  have out : ∀ (c : xC) L er ep cc cr cnt nx kd st vl b nm s n, 9 < n → (n < Ks ∨ Ks + 14 < n) → (rH (xset H 0 c) Ks tp L er ep cc cr cnt nx kd st vl wd b nm s).1 n = H.1 n := fun c L er ep cc cr cnt nx kd st vl b nm s n h1 h2 => by
    rw [rH_o hK n (by omega), xset_o n (by omega)]
  by_cases z : rd.2.1.1 = 0
  · have kY1 := kY_eq (H' := (rH (xset H 0 (tgC Ks Kb rd.2.1.2)) Ks tp 0 rd.2.1.1 rd.2.1.2 rd.2.2.1.1 rd.2.2.1.2 (nI (lst T l wd + 1)) (nI rd.1) (kdA T l wd kd) (stA T l wd st) (vlA T l wd vl) wd rd.2.2.2.1 rd.2.2.2.2.1 (sxK rd.2.2.2))) hY (fun n h1 h2 => out _ _ _ _ _ _ _ _ _ _ _ _ _ _ n (by omega) (by omega))
    have kT1 := kT_eq (H' := (rH (xset H 0 (tgC Ks Kb rd.2.1.2)) Ks tp 0 rd.2.1.1 rd.2.1.2 rd.2.2.1.1 rd.2.2.1.2 (nI (lst T l wd + 1)) (nI rd.1) (kdA T l wd kd) (stA T l wd st) (vlA T l wd vl) wd rd.2.2.2.1 rd.2.2.2.2.1 (sxK rd.2.2.2))) hT (fun n h1 h2 => out _ _ _ _ _ _ _ _ _ _ _ _ _ _ n (by omega) (by omega))
    have kB1 : kB (rH (xset H 0 (tgC Ks Kb rd.2.1.2)) Ks tp 0 rd.2.1.1 rd.2.1.2 rd.2.2.1.1 rd.2.2.1.2 (nI (lst T l wd + 1)) (nI rd.1) (kdA T l wd kd) (stA T l wd st) (vlA T l wd vl) wd rd.2.2.2.1 rd.2.2.2.2.1 (sxK rd.2.2.2)) Ks rd.2.2.2.1 rd.2.2.2.2.1 (sxK rd.2.2.2) := rH_kB hK
    have bg := fun (Q : xR → Prop) => f_Bay_begin (E := E) (d := d + 152) (Q := Q) (K := Kb) (a := a) (t := t) (ms := ms) (sk := sk) (h := h) kB1 (by omega) (show 42 < 43 by omega)
    rw [← sH_of kY1 kT1] at bg
    have hx : xcl (rH (xset H 0 (tgC Ks Kb rd.2.1.2)) Ks tp 0 rd.2.1.1 rd.2.1.2 rd.2.2.1.1 rd.2.2.1.2 (nI (lst T l wd + 1)) (nI rd.1) (kdA T l wd kd) (stA T l wd st) (vlA T l wd vl) wd rd.2.2.2.1 rd.2.2.2.2.1 (sxK rd.2.2.2)) 43 = 0 := xc_of kY1.1
    simp only [tgC, sxK] at hx bg
    refine ⟨sH (rH (xset H 0 (tgC Ks Kb rd.2.1.2)) Ks tp 0 rd.2.1.1 rd.2.1.2 rd.2.2.1.1 rd.2.2.1.2 (nI (lst T l wd + 1)) (nI rd.1) (kdA T l wd kd) (stA T l wd st) (vlA T l wd vl) wd rd.2.2.2.1 rd.2.2.2.2.1 (sxK rd.2.2.2)) 43 Ks (bg2 (bg1 a 0 6) rd.2.2.2.1 0 6) (tri 0 0 0) ms sk h, rd.2.1.1, rd.2.1.2, rd.2.2.1.1, rd.2.2.1.2, nI (lst T l wd + 1), nI rd.1, kdA T l wd kd, stA T l wd st, vlA T l wd vl, fun Q => ?_, rfl, fun n hn => ?_, ?_, ?_, ?_, fun n h1 h2 => ?_, fun h => absurd z h, fun _ => ⟨?_, ?_⟩⟩
    · rw [st1, e_T_teach]
      simp only [s_T_teach_0, s_T_teach_1, s_T_teach_4, s_T_teach_5, s_T_teach_8, s_T_teach_11, s_T_teach_12, s_T_teach_13, s_T_teach_14, s_T_teach_17, s_T_teach_20, s_T_teach_23, s_T_teach_24, s_T_teach_27, s_T_teach_28, s_T_teach_31, s_T_teach_32, s_T_teach_35, s_T_teach_36, s_T_teach_39, s_T_teach_40, s_T_teach_41, s_T_teach_42, s_T_teach_45, s_T_teach_48, s_T_teach_49, s_T_teach_50, s_T_teach_53, s_T_teach_54, s_T_teach_57, s_T_teach_58, s_T_teach_61, s_T_teach_64, s_T_teach_65, tgC, r0_f hK, r0_w hK, x0_2, xll_8, xlg_8_0, xlg_8_1, xlg_8_2, xlg_8_3, xlg_8_4, xlg_8_5, xlg_8_6, xls_8_0, xls_8_1, xls_8_2, xls_8_3, xls_8_4, xls_8_5, xls_8_6, xll_2, xlg_2_0, xlg_2_1, xlg_2_2, xlg_2_3, xlg_2_4, xlg_2_5, xll_6, xlg_6_0, xlg_6_1, xls_6_0, xls_6_1, rF_1, rC_1, rl_2, rf_2, rF_3, rC_3, rF_4, rC_4, rl_5, rf_5, rl_6, rf_6, rl_7, rf_7, rl_8, rf_8, rF_9, rC_9, rF_K hK, rC_K hK, rF_K1 hK, rC_K1 hK, rl_K2 hK, rf_K2 hK, rl_K3 hK, rf_K3 hK, rl_K4 hK, rf_K4 hK, rl_K5 hK, rf_K5 hK, rl_K6 hK, rf_K6 hK, rl_K7 hK, rf_K7 hK, rl_K8 hK, rf_K8 hK, rl_K9 hK, rf_K9 hK, rl_K10 hK, rf_K10 hK, rl_K11 hK, rf_K11 hK, rl_K12 hK, rf_K12 hK, rl_K13 hK, rf_K13 hK, rl_K14 hK, rf_K14 hK, rw_1, rw_2, rw_3, rw_4, rw_5, rw_6, rw_7, rw_8, rw_K hK, rw_K1 hK, rw_b0 hK, rw_b1 hK, rw_b2 hK, rw_b3 hK, rw_b4 hK, rw_b5 hK, rw_b6 hK, rw_b7 hK, rw_b8 hK, rw_b9 hK, rw_b10 hK, rw_b11 hK, rw_nm hK, six_0, six_1, six_2, six_3, six_4, six_5, not_false_eq_true, Nat.reduceLT, Nat.reduceAdd, true_and, and_true, if_true, if_false, ite_true, ite_false, xnb_0, xnb_1, xnb_b, xk_v, xk_n, hr, eq_true z, sxK, hx, bg]
    · rw [sH_o (by omega) n (by omega)]
      exact out _ _ _ _ _ _ _ _ _ _ _ _ _ _ n (by omega) (by omega)
    · exact rT_eq (H := (rH (xset H 0 (tgC Ks Kb rd.2.1.2)) Ks tp 0 rd.2.1.1 rd.2.1.2 rd.2.2.1.1 rd.2.2.1.2 (nI (lst T l wd + 1)) (nI rd.1) (kdA T l wd kd) (stA T l wd st) (vlA T l wd vl) wd rd.2.2.2.1 rd.2.2.2.2.1 (sxK rd.2.2.2))) rH_rT (fun n h1 h2 => sH_o (by omega) n (by omega))
    · exact sH_kT
    · exact kB_eq kB1 (fun n h1 h2 => sH_o (by omega) n (by omega))
    · rw [sH_o (by omega) n (by omega)]
      exact out _ _ _ _ _ _ _ _ _ _ _ _ _ _ n (by omega) (by omega)
    · rw [sH_o (by omega) 0 (by omega), rH_o hK 0 (Or.inl rfl)]
      rfl
    · exact sH_kY (by omega)
  · refine ⟨(rH (xset H 0 (tgC Kb Ks rd.2.1.2)) Ks tp 0 rd.2.1.1 rd.2.1.2 rd.2.2.1.1 rd.2.2.1.2 (nI (lst T l wd + 1)) (nI rd.1) (kdA T l wd kd) (stA T l wd st) (vlA T l wd vl) wd rd.2.2.2.1 rd.2.2.2.2.1 (sxK rd.2.2.2)), rd.2.1.1, rd.2.1.2, rd.2.2.1.1, rd.2.2.1.2, nI (lst T l wd + 1), nI rd.1, kdA T l wd kd, stA T l wd st, vlA T l wd vl, fun Q => ?_, rfl, fun n hn => ?_, ?_, ?_, ?_, fun n h1 h2 => ?_, fun _ => ⟨?_, ?_⟩, fun h => absurd h z⟩
    · rw [st1, e_T_teach]
      simp only [s_T_teach_0, s_T_teach_1, s_T_teach_4, s_T_teach_5, s_T_teach_8, s_T_teach_11, s_T_teach_12, s_T_teach_13, s_T_teach_14, s_T_teach_17, s_T_teach_20, s_T_teach_23, s_T_teach_24, s_T_teach_27, s_T_teach_28, s_T_teach_31, s_T_teach_32, s_T_teach_35, s_T_teach_36, s_T_teach_39, s_T_teach_40, s_T_teach_41, s_T_teach_42, s_T_teach_45, s_T_teach_48, s_T_teach_49, s_T_teach_50, s_T_teach_53, s_T_teach_54, s_T_teach_57, s_T_teach_58, s_T_teach_61, s_T_teach_64, s_T_teach_65, tgC, r0_f hK, r0_w hK, x0_2, xll_8, xlg_8_0, xlg_8_1, xlg_8_2, xlg_8_3, xlg_8_4, xlg_8_5, xlg_8_6, xls_8_0, xls_8_1, xls_8_2, xls_8_3, xls_8_4, xls_8_5, xls_8_6, xll_2, xlg_2_0, xlg_2_1, xlg_2_2, xlg_2_3, xlg_2_4, xlg_2_5, xll_6, xlg_6_0, xlg_6_1, xls_6_0, xls_6_1, rF_1, rC_1, rl_2, rf_2, rF_3, rC_3, rF_4, rC_4, rl_5, rf_5, rl_6, rf_6, rl_7, rf_7, rl_8, rf_8, rF_9, rC_9, rF_K hK, rC_K hK, rF_K1 hK, rC_K1 hK, rl_K2 hK, rf_K2 hK, rl_K3 hK, rf_K3 hK, rl_K4 hK, rf_K4 hK, rl_K5 hK, rf_K5 hK, rl_K6 hK, rf_K6 hK, rl_K7 hK, rf_K7 hK, rl_K8 hK, rf_K8 hK, rl_K9 hK, rf_K9 hK, rl_K10 hK, rf_K10 hK, rl_K11 hK, rf_K11 hK, rl_K12 hK, rf_K12 hK, rl_K13 hK, rf_K13 hK, rl_K14 hK, rf_K14 hK, rw_1, rw_2, rw_3, rw_4, rw_5, rw_6, rw_7, rw_8, rw_K hK, rw_K1 hK, rw_b0 hK, rw_b1 hK, rw_b2 hK, rw_b3 hK, rw_b4 hK, rw_b5 hK, rw_b6 hK, rw_b7 hK, rw_b8 hK, rw_b9 hK, rw_b10 hK, rw_b11 hK, rw_nm hK, six_0, six_1, six_2, six_3, six_4, six_5, not_false_eq_true, Nat.reduceLT, Nat.reduceAdd, true_and, and_true, if_true, if_false, ite_true, ite_false, xnb_0, xnb_1, xnb_b, xk_v, xk_n, hr, eq_false z, sxK]
    · exact out _ _ _ _ _ _ _ _ _ _ _ _ _ _ n (by omega) (by omega)
    · exact rH_rT
    · exact kT_eq hT (fun n h1 h2 => out _ _ _ _ _ _ _ _ _ _ _ _ _ _ n (by omega) (by omega))
    · exact rH_kB hK
    · exact out _ _ _ _ _ _ _ _ _ _ _ _ _ _ n (by omega) (by omega)
    · rw [rH_o hK 0 (Or.inl rfl)]
      rfl
    · exact kY_eq hY (fun n h1 h2 => out _ _ _ _ _ _ _ _ _ _ _ _ _ _ n (by omega) (by omega))
end TTEACH
