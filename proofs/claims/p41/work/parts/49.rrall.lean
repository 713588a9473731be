/-! ===== the class's rule reader, all of it ===== -/
section RRALL
variable {E : xE} {d : Nat} {Q : xR → Prop} {H : xH} {K : Nat} {tp : Nat → Int32} {L : Int32} {er : Int32} {ep : Int32} {cc : Int32} {cr : Int32} {cnt : Int32} {nx : Int32} {kd : Nat → Int32} {st : Nat → Int32} {vl : Nat → Int64} {wd : Nat → Int64} {b : Nat → Nat → Int32} {nm : Nat → Int64} {s : Nat → Int32}
variable {EE : Nat} {s0 s1 s2 s3 s4 : Int32}
theorem g_RR_readJoined (hK : 9 < K) (hc : EE ≤ 400) (hE : kd EE = 0 ∨ kd EE = 1) {nu : Nat → Int32} (D0 n lv dp : Nat) (hl : lv < 5)
    (hr : ∀ (Q : xR → Prop) (i : Nat) (u : rus), i ≤ EE → u.2.2 ≤ 400 → xcall E xprog (D0 + 6) 38 [.ref 9, .ref (K + 1), .int (nI (lv + 1)), .int (nI dp)] (rH H K tp L er ep cc cr (nI (EE + 1)) (nI i) kd st vl wd (upr (upr b 0 u.1) 1 u.2.1) nm (six s0 s1 s2 s3 s4 (nI u.2.2))) Q = Q (.inl (some (.int (bI (pv kd nu n (lv + 1) dp i).1))), (rH H K tp L er ep cc cr (nI (EE + 1)) (nI (pv kd nu n (lv + 1) dp i).2.1) kd st vl wd (upr (upr b 0 (addL u (pv kd nu n (lv + 1) dp i).2.2.1).1) 1 (addL u (pv kd nu n (lv + 1) dp i).2.2.1).2.1) nm (six s0 s1 s2 s3 s4 (nI (addL u (pv kd nu n (lv + 1) dp i).2.2.1).2.2))))) : ∀ (Q : xR → Prop) (i : Nat) (u : rus), i ≤ EE → u.2.2 ≤ 400 → xcall E xprog (D0 + 7) 38 [.ref 9, .ref (K + 1), .int (nI lv), .int (nI dp)] (rH H K tp L er ep cc cr (nI (EE + 1)) (nI i) kd st vl wd (upr (upr b 0 u.1) 1 u.2.1) nm (six s0 s1 s2 s3 s4 (nI u.2.2))) Q = Q (.inl (some (.int (bI (pv kd nu (n + 1) lv dp i).1))), (rH H K tp L er ep cc cr (nI (EE + 1)) (nI (pv kd nu (n + 1) lv dp i).2.1) kd st vl wd (upr (upr b 0 (addL u (pv kd nu (n + 1) lv dp i).2.2.1).1) 1 (addL u (pv kd nu (n + 1) lv dp i).2.2.1).2.1) nm (six s0 s1 s2 s3 s4 (nI (addL u (pv kd nu (n + 1) lv dp i).2.2.1).2.2)))) := by
  intro Q i u hi hu
  have hG := gd_pv (nu := nu) hE n (lv + 1) dp (by omega)
  have h1 := fun (Q : xR → Prop) => hr Q i u hi hu
  have q5 : (nI lv < 5) = True := nlt (n := 5) hl (by omega)
  have q2 : (nI lv = 2) = (lv = 2) := n_eq (b := 2) (by omega) (by omega)
  rw [e_RR_readJoined, pv_j hl]
  by_cases w : (pv kd nu n (lv + 1) dp i).1 = true
  · have hi2 := (hG i hi).2.1
    have h2 := fun (T : Nat) (hT : T ≤ 400) (j6 : Option Value) => l_RR_readJoined (Q := Q) (E := E) (K := K) (H := H) (tp := tp) (L := L) (er := er) (ep := ep) (cc := cc) (cr := cr) (kd := kd) (st := st) (vl := vl) (wd := wd) (b := b) (nm := nm) (EE := EE) (s0 := s0) (s1 := s1) (s2 := s2) (s3 := s3) (s4 := s4) hK hc hE (D0 + 3) lv dp T hT hl (pv kd nu n (lv + 1) dp) hG hr T 0 (pv kd nu n (lv + 1) dp i).2.1 (addL u (pv kd nu n (lv + 1) dp i).2.2.1) j6 (by omega) hi2 (addL_h hu)
    by_cases z : lv = 2
    · have h3 := h2 1 (by omega) none
      subst z
      simp only [s_RR_readJoined_0, s_RR_readJoined_1, s_RR_readJoined_2, s_RR_readJoined_5, s_RR_readJoined_6, s_RR_readJoined_7, s_RR_readJoined_8, s_RR_readJoined_11, s_RR_readJoined_12, s_RR_readJoined_13, s_RR_readJoined_14, s_RR_readJoined_15, s_RR_readJoined_16, s_RR_readJoined_17, s_RR_readJoined_18, s_RR_readJoined_21, s_RR_readJoined_24, s_RR_readJoined_25, s_RR_readJoined_26, s_RR_readJoined_27, s_RR_readJoined_28, s_RR_readJoined_31, s_RR_readJoined_32, s_RR_readJoined_35, s_RR_readJoined_38, s_RR_readJoined_40, s_RR_readJoined_41, q5, q2, h1, w, bI_t, k1_0, nI_1, rF_9, rC_9, not_false_eq_true, Nat.reduceLT, Nat.reduceAdd, true_and, and_true, if_true, if_false, ite_true, ite_false, xnb_0, xnb_1, xnb_b, xk_v, xk_n, seqP, addL_app]
      exact h3
    · have h3 := h2 400 (by omega) none
      simp only [s_RR_readJoined_0, s_RR_readJoined_1, s_RR_readJoined_2, s_RR_readJoined_5, s_RR_readJoined_6, s_RR_readJoined_7, s_RR_readJoined_8, s_RR_readJoined_11, s_RR_readJoined_12, s_RR_readJoined_13, s_RR_readJoined_14, s_RR_readJoined_15, s_RR_readJoined_16, s_RR_readJoined_17, s_RR_readJoined_18, s_RR_readJoined_21, s_RR_readJoined_24, s_RR_readJoined_25, s_RR_readJoined_26, s_RR_readJoined_27, s_RR_readJoined_28, s_RR_readJoined_31, s_RR_readJoined_32, s_RR_readJoined_35, s_RR_readJoined_38, s_RR_readJoined_40, s_RR_readJoined_41, q5, q2, z, h1, w, bI_t, k1_0, nI_1, rF_9, rC_9, not_false_eq_true, Nat.reduceLT, Nat.reduceAdd, true_and, and_true, if_true, if_false, ite_true, ite_false, xnb_0, xnb_1, xnb_b, xk_v, xk_n, seqP, addL_app]
      exact h3
  · have w' := b_ff w
    simp only [s_RR_readJoined_0, s_RR_readJoined_1, s_RR_readJoined_2, s_RR_readJoined_5, s_RR_readJoined_6, s_RR_readJoined_7, s_RR_readJoined_8, s_RR_readJoined_11, s_RR_readJoined_12, s_RR_readJoined_13, s_RR_readJoined_14, s_RR_readJoined_15, s_RR_readJoined_16, s_RR_readJoined_17, s_RR_readJoined_18, s_RR_readJoined_21, s_RR_readJoined_24, s_RR_readJoined_25, s_RR_readJoined_26, s_RR_readJoined_27, s_RR_readJoined_28, s_RR_readJoined_31, s_RR_readJoined_32, s_RR_readJoined_35, s_RR_readJoined_38, s_RR_readJoined_40, s_RR_readJoined_41, q5, q2, h1, w', bI_f, k1_0, nI_1, rF_9, rC_9, not_false_eq_true, Nat.reduceLT, Nat.reduceAdd, true_and, and_true, if_true, if_false, ite_true, ite_false, xnb_0, xnb_1, xnb_b, xk_v, xk_n, seqP, Bool.false_eq_true]
theorem RR_all (hK : 9 < K) (hc : EE ≤ 400) (hE : kd EE = 0 ∨ kd EE = 1) {nu : Nat → Int32} (hnu : ∀ i, (vl i).toInt32 = nu i) : ∀ n, ∀ (D dp : Nat), dp ≤ 6 → 3 * n + 4 ≤ D →
    (∀ lv, lv < 5 → 7 * (7 - dp) - 1 - lv ≤ n → ∀ (Q : xR → Prop) (i : Nat) (u : rus), i ≤ EE → u.2.2 ≤ 400 → xcall E xprog D 38 [.ref 9, .ref (K + 1), .int (nI lv), .int (nI dp)] (rH H K tp L er ep cc cr (nI (EE + 1)) (nI i) kd st vl wd (upr (upr b 0 u.1) 1 u.2.1) nm (six s0 s1 s2 s3 s4 (nI u.2.2))) Q = Q (.inl (some (.int (bI (pv kd nu n lv dp i).1))), (rH H K tp L er ep cc cr (nI (EE + 1)) (nI (pv kd nu n lv dp i).2.1) kd st vl wd (upr (upr b 0 (addL u (pv kd nu n lv dp i).2.2.1).1) 1 (addL u (pv kd nu n lv dp i).2.2.1).2.1) nm (six s0 s1 s2 s3 s4 (nI (addL u (pv kd nu n lv dp i).2.2.1).2.2))))) ∧
    (7 * (7 - dp) - 6 ≤ n → ∀ (Q : xR → Prop) (i : Nat) (u : rus), i ≤ EE → u.2.2 ≤ 400 → xcall E xprog D 39 [.ref 9, .ref (K + 1), .int (nI dp)] (rH H K tp L er ep cc cr (nI (EE + 1)) (nI i) kd st vl wd (upr (upr b 0 u.1) 1 u.2.1) nm (six s0 s1 s2 s3 s4 (nI u.2.2))) Q = Q (.inl (some (.int (bI (pv kd nu n 5 dp i).1))), (rH H K tp L er ep cc cr (nI (EE + 1)) (nI (pv kd nu n 5 dp i).2.1) kd st vl wd (upr (upr b 0 (addL u (pv kd nu n 5 dp i).2.2.1).1) 1 (addL u (pv kd nu n 5 dp i).2.2.1).2.1) nm (six s0 s1 s2 s3 s4 (nI (addL u (pv kd nu n 5 dp i).2.2.1).2.2))))) ∧
    (7 * (7 - dp) ≤ n → ∀ (Q : xR → Prop) (i : Nat) (u : rus), i ≤ EE → u.2.2 ≤ 400 → xcall E xprog D 37 [.ref 9, .ref (K + 1), .int (nI dp)] (rH H K tp L er ep cc cr (nI (EE + 1)) (nI i) kd st vl wd (upr (upr b 0 u.1) 1 u.2.1) nm (six s0 s1 s2 s3 s4 (nI u.2.2))) Q = Q (.inl (some (.int (bI (pv kd nu n 6 dp i).1))), (rH H K tp L er ep cc cr (nI (EE + 1)) (nI (pv kd nu n 6 dp i).2.1) kd st vl wd (upr (upr b 0 (addL u (pv kd nu n 6 dp i).2.2.1).1) 1 (addL u (pv kd nu n 6 dp i).2.2.1).2.1) nm (six s0 s1 s2 s3 s4 (nI (addL u (pv kd nu n 6 dp i).2.2.1).2.2))))) := by
  intro n
  induction n with
  | zero =>
    intro D dp hd hD
    exact ⟨fun lv hl h => absurd h (by omega), fun h => absurd h (by omega), fun h => absurd h (by omega)⟩
  | succ n ih =>
    intro D dp hd hD
    obtain ⟨D0, rfl⟩ : ∃ D0, D = D0 + 7 := ⟨D - 7, by omega⟩
    have i1 := ih (D0 + 6) dp hd (by omega)
    have i0 := ih (D0 + 5) dp hd (by omega)
    have i2 : dp < 6 → _ := fun h : dp < 6 => ih (D0 + 6) (dp + 1) (by omega) (by omega)
    refine ⟨fun lv hl hn => ?_, fun hn => ?_, fun hn => ?_⟩
    · refine g_RR_readJoined hK hc hE D0 n lv dp hl ?_
      by_cases z : lv + 1 < 5
      · exact i1.1 (lv + 1) z (by omega)
      · have : lv = 4 := by omega
        subst this
        intro Q i u hi hu
        have h1 := i0.2.1 (by omega) 
        rw [show nI (4 + 1) = 5 from rfl, e_RR_readJoined]
        have h2 := fun (Q : xR → Prop) => h1 Q i u hi hu
        simp only [s_RR_readJoined_0, s_RR_readJoined_1, s_RR_readJoined_2, s_RR_readJoined_5, s_RR_readJoined_6, s_RR_readJoined_7, s_RR_readJoined_8, s_RR_readJoined_11, show ((5 : Int32) < 5) = False from by decide, h2, bI_n, rF_9, rC_9, not_false_eq_true, Nat.reduceLT, Nat.reduceAdd, true_and, and_true, if_true, if_false, ite_true, ite_false, xnb_0, xnb_1, xnb_b, xk_v, xk_n]
    · exact g_RR_readValue hK hc hE hnu D0 n dp hd (fun h => (i2 h).2.2 (by omega)) (fun h => (i2 h).2.1 (by omega))
    · exact g_RR_readRule hK hc hE D0 n dp hd (fun h => (i2 h).2.2 (by omega)) (i1.1 0 (by omega) (by omega))
/-- a clipper's rule, whole -/
theorem f_RR_readRule (hK : 9 < K) (hc : EE ≤ 400) (hE : kd EE = 0 ∨ kd EE = 1) {nu : Nat → Int32} (hnu : ∀ i, (vl i).toInt32 = nu i) : ∀ (Q : xR → Prop) (i : Nat) (u : rus), i ≤ EE → u.2.2 ≤ 400 → xcall E xprog (d + 151) 37 [.ref 9, .ref (K + 1), .int 0] (rH H K tp L er ep cc cr (nI (EE + 1)) (nI i) kd st vl wd (upr (upr b 0 u.1) 1 u.2.1) nm (six s0 s1 s2 s3 s4 (nI u.2.2))) Q = Q (.inl (some (.int (bI (pv kd nu 49 6 0 i).1))), (rH H K tp L er ep cc cr (nI (EE + 1)) (nI (pv kd nu 49 6 0 i).2.1) kd st vl wd (upr (upr b 0 (addL u (pv kd nu 49 6 0 i).2.2.1).1) 1 (addL u (pv kd nu 49 6 0 i).2.2.1).2.1) nm (six s0 s1 s2 s3 s4 (nI (addL u (pv kd nu 49 6 0 i).2.2.1).2.2)))) := by
  intro Q i u hi hu
  exact (RR_all hK hc hE hnu 49 (d + 151) 0 (by omega) (by omega)).2.2 (by omega) Q i u hi hu
end RRALL
