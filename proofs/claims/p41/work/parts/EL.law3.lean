/-! ===== the law: what an hour has made of clippers ===== -/
section LAW3
variable {E : xE} {d D : Nat} {Q : xR → Prop} {H H' W X Z : xH} {ad ro : Nat → Nat} {b a a' a2 : Nat → Nat → Int32} {s t t' t2 ms sk : Nat → Int32} {nk nc nn lo hi co rw' n cnt Kb Ks c i j q1 q2 q3 : Nat} {ru : Nat → Option Nat} {nm : Nat → Int64} {rs re : Nat → Nat} {ep h : Int32} {x y v z w v4 v5 v6 v9 v10 v11 v12 v13 : Int32} {u3 u4 u5 u6 u7 u8 u9 u10 u11 u12 u13 u14 u15 u16 u17 u18 u19 u20 u21 u22 : Option Value}
variable {st k : Nat}
theorem cel_c (hB : kBo b s co rw' nk nn) (hS : kSt a t co rw' nk nn n) (hc : c < nn) : ¬ celC s (a 3 c) (a 4 c) = 0 := by
  obtain ⟨s0, s1, hco, hro, -⟩ := hB
  obtain ⟨x, y, l, p, h1, h2, h3, h4, h5, h6, -⟩ := hS.2.1 c hc
  unfold celC xb
  rw [h5, h6, s0, s1, if_pos ⟨of_eq_false (nI_n0 x (by omega)), of_eq_true (nlt h1 (by omega)), of_eq_false (nI_n0 y (by omega)), of_eq_true (nlt h2 (by omega))⟩]
  decide
theorem xab_i (x : Int32) : (if 0 ≤ x then x else 0 - x) = xabs x := rfl
theorem stp_i : xabs (a' 3 c - a 3 c) + xabs (a' 4 c - a 4 c) = stpN a a' c := rfl
theorem lw_5a (hS : jS E ad ro nk nc nn lo hi b s cnt rs re co rw') (hI : jI E ro ru nk nn lo hi Kb Ks ep b nm s co rw' n W a' t') (hS0 : kSt a t co rw' nk nn j) (hr : rcd a a' b t nk nc c z) (hA : waN W q3 nn a t nn) (hc : c < nn) (hhi : hi ≤ q3) : xr E (d + 156) m_L_law Q (654, [some (.retAddr 0), some (.ref 0), some (.ref (ad 1)), some (.int (nI i)), some (.int (v4)), some (.int (nI nn)), some (.int (v6)), some (.ref (q1)), some (.ref (q2)), some (.ref (q3)), some (.int (v10)), some (.int (v11)), some (.int (v12)), some (.int (v13)), some (.int (nI c)), u15, u16, u17, u18, u19, u20, u21, u22], [], (jH ad ro b s nk nc nn ru W a' t')) = xr E (d + 156) m_L_law Q (766, [some (.retAddr 0), some (.ref 0), some (.ref (ad 1)), some (.int (nI i)), some (.int (v4)), some (.int (nI nn)), some (.int (v6)), some (.ref (q1)), some (.ref (q2)), some (.ref (q3)), some (.int (v10)), some (.int (v11)), some (.int (v12)), some (.int (v13)), some (.int (nI c)), some (.int (a' 3 c)), some (.int (a' 4 c)), some (.int (stpN a a' c)), some (.int (if a 6 c + spdC a t c < 10 then 0 else 1)), some (.int (a' 7 c - a 7 c)), some (.int (a' 8 c - a 8 c)), u21, u22], [], (jH ad ro b s nk nc nn ru W a' t')) := by
  have hz := jS_z hS
  obtain ⟨hj, hlo, hlz, hB, hW, hR, hn1, hd1, hd2⟩ := id hS
  obtain ⟨w1, w2, w3, w4, w5, w6, -⟩ := id hW
  obtain ⟨z1, -, z3, z4, -⟩ := cls_J (ad := ad) (nk := nk) (nc := nc) (nn := nn) (ru := ru) (a2 := a') (t2 := t') (b2 := b) (s2 := s) hI.1 hz
  obtain ⟨gw, a1, a2⟩ := hA
  obtain ⟨r, g1, g2, g3, g4⟩ := a2 c hc
  have c1 : xcl (jH ad ro b s nk nc nn ru W a' t') 0 = 8 := xc_of z1
  have p3 := (j_out (b := b) (s := s) (ru := ru) (H := W) (a := a') (t := t') hj hhi).trans a1
  have p4 := (j_out (b := b) (s := s) (ru := ru) (H := W) (a := a') (t := t') hj (show hi ≤ r by omega)).trans g4
  have h1 := fun (Q : xR → Prop) => c_T_columnOf_i (E := E) (d := d + 154) (Q := Q) z1 z3 z4 w5 w6 hc
  have h2 := fun (Q : xR → Prop) => c_T_rowOf_i (E := E) (d := d + 154) (Q := Q) z1 z3 z4 w5 w6 hc
  have h3 := fun (Q : xR → Prop) => c_T_pointsOf_i (E := E) (d := d + 154) (Q := Q) z1 z3 z4 w5 w6 hc
  have h4 := fun (Q : xR → Prop) => c_T_sipsOf_i (E := E) (d := d + 154) (Q := Q) z1 z3 z4 w5 w6 hc
  rw [s_L_law_654]
  by_cases e : a 6 c + spdC a t c < 10
  · simp only [if_pos e]
    simp only [↓reduceIte, s_L_law_656, s_L_law_658, s_L_law_661, s_L_law_662, s_L_law_664, s_L_law_667, s_L_law_669, s_L_law_670, s_L_law_672, s_L_law_675, s_L_law_677, s_L_law_679, s_L_law_681, s_L_law_683, s_L_law_684, s_L_law_685, s_L_law_686, s_L_law_687, s_L_law_690, s_L_law_692, s_L_law_694, s_L_law_696, s_L_law_697, s_L_law_698, s_L_law_699, s_L_law_700, s_L_law_703, s_L_law_704, s_L_law_706, s_L_law_708, s_L_law_710, s_L_law_711, s_L_law_712, s_L_law_713, s_L_law_715, s_L_law_717, s_L_law_718, s_L_law_720, s_L_law_721, s_L_law_722, s_L_law_724, s_L_law_727, s_L_law_728, s_L_law_731, s_L_law_732, s_L_law_734, s_L_law_735, s_L_law_737, s_L_law_740, s_L_law_742, s_L_law_744, s_L_law_745, s_L_law_746, s_L_law_747, s_L_law_748, s_L_law_750, s_L_law_751, s_L_law_753, s_L_law_756, s_L_law_758, s_L_law_760, s_L_law_761, s_L_law_762, s_L_law_763, s_L_law_764, not_false_eq_true, Nat.reduceLT, Nat.reduceAdd, true_and, and_true, if_true, if_false, ite_true, ite_false, xnb_0, xnb_1, xnb_b, xk_v, xk_n, nlt hc (show nn < 2147483648 by omega), c1, h1, h2, h3, h4, (xA_of p3).1, (xA_of p3).2.1, (xA_of p3).2.2, nvp hc (show nn < 2147483648 by omega), ncl (show c < 2147483648 by omega), g1, xrf_s, xIl_of p4, xIf_of p4, ic_0, ic_1, ic_2, ic_3, ic_4, ic_5, ic_6, v7_0, v7_1, v7_2, v7_3, v7_4, v7_5, v7_6, wsq_0, wsq_1, wsq_2, wsq_3, wsq_4, wsq_5, wsq_6, xab_i, stp_i, show ((9 : Int32) < a 6 c + spdC a t c) = False from by rw [lt_10]; exact eq_false (fun q => q e)]
  · simp only [if_neg e]
    simp only [↓reduceIte, s_L_law_656, s_L_law_658, s_L_law_661, s_L_law_662, s_L_law_664, s_L_law_667, s_L_law_669, s_L_law_670, s_L_law_672, s_L_law_675, s_L_law_677, s_L_law_679, s_L_law_681, s_L_law_683, s_L_law_684, s_L_law_685, s_L_law_686, s_L_law_687, s_L_law_690, s_L_law_692, s_L_law_694, s_L_law_696, s_L_law_697, s_L_law_698, s_L_law_699, s_L_law_700, s_L_law_703, s_L_law_704, s_L_law_706, s_L_law_708, s_L_law_710, s_L_law_711, s_L_law_712, s_L_law_713, s_L_law_715, s_L_law_717, s_L_law_718, s_L_law_720, s_L_law_721, s_L_law_722, s_L_law_724, s_L_law_727, s_L_law_728, s_L_law_731, s_L_law_732, s_L_law_734, s_L_law_735, s_L_law_737, s_L_law_740, s_L_law_742, s_L_law_744, s_L_law_745, s_L_law_746, s_L_law_747, s_L_law_748, s_L_law_750, s_L_law_751, s_L_law_753, s_L_law_756, s_L_law_758, s_L_law_760, s_L_law_761, s_L_law_762, s_L_law_763, s_L_law_764, not_false_eq_true, Nat.reduceLT, Nat.reduceAdd, true_and, and_true, if_true, if_false, ite_true, ite_false, xnb_0, xnb_1, xnb_b, xk_v, xk_n, nlt hc (show nn < 2147483648 by omega), c1, h1, h2, h3, h4, (xA_of p3).1, (xA_of p3).2.1, (xA_of p3).2.2, nvp hc (show nn < 2147483648 by omega), ncl (show c < 2147483648 by omega), g1, xrf_s, xIl_of p4, xIf_of p4, ic_0, ic_1, ic_2, ic_3, ic_4, ic_5, ic_6, v7_0, v7_1, v7_2, v7_3, v7_4, v7_5, v7_6, wsq_0, wsq_1, wsq_2, wsq_3, wsq_4, wsq_5, wsq_6, xab_i, stp_i, show ((9 : Int32) < a 6 c + spdC a t c) = True from by rw [lt_10]; exact eq_true e]
/-- a clipper's leaf behind an hour, ahead of its taking more -/
theorem lf_b (hS0 : kSt a t co rw' nk nn n) (hc : c < nn) : (∃ l, l ≤ 30 ∧ a 5 c = nI l) ∧ (∃ l, l ≤ 30 ∧ lfA a a' c = nI l) ∧ (∃ l, l ≤ 30 ∧ lfB a a' b c = nI l) ∧ ¬ a 5 c < lfA a a' c := by
  obtain ⟨px, py, l, pp, h1, h2, h3, h4, h5, h6, h7, h8⟩ := hS0.2.1 c hc
  have hp : ∃ l', l' ≤ l ∧ lfP (nI l) = nI l' := by
    have e1 : nI l / 4 = nI (l / 4) := nI_dv (y := 4) (by omega) (by omega) (by omega)
    have e2 : nI l - nI (l / 4) = nI (l - l / 4) := pk_sub (by omega)
    unfold lfP
    by_cases e : l = 0
    · subst e
      exact ⟨0, by omega, by decide⟩
    · have e3 : nI (l - l / 4) - 1 = nI (l - l / 4 - 1) := nI_s1 (by omega)
      rw [e1, e2, e3]
      split
      · exact ⟨_, by omega, rfl⟩
      · exact ⟨0, by omega, rfl⟩
  obtain ⟨l', p1, p2⟩ := hp
  have hA : (∃ l', l' ≤ l ∧ lfA a a' c = nI l') := by
    unfold lfA
    rw [h7]
    split
    · exact ⟨l', p1, p2⟩
    · exact ⟨l, Nat.le_refl _, rfl⟩
  obtain ⟨la, la1, la2⟩ := hA
  refine ⟨⟨l, h3, h7⟩, ⟨la, by omega, la2⟩, ?_, ?_⟩
  · unfold lfB
    split
    · exact ⟨0, by omega, rfl⟩
    · exact ⟨la, by omega, la2⟩
  · rw [h7, la2]
    exact of_eq_false (nge la1 (by omega))
theorem lw_5b (hS : jS E ad ro nk nc nn lo hi b s cnt rs re co rw') (hI : jI E ro ru nk nn lo hi Kb Ks ep b nm s co rw' n W a' t') (hS0 : kSt a t co rw' nk nn j) (hr : rcd a a' b t nk nc c z) (hA : waN W q3 nn a t nn) (hc : c < nn) (hhi : hi ≤ q3) : xr E (d + 156) m_L_law Q (766, [some (.retAddr 0), some (.ref 0), some (.ref (ad 1)), some (.int (nI i)), some (.int (v4)), some (.int (nI nn)), some (.int (v6)), some (.ref (q1)), some (.ref (q2)), some (.ref (q3)), some (.int (v10)), some (.int (v11)), some (.int (v12)), some (.int (v13)), some (.int (nI c)), some (.int (a' 3 c)), some (.int (a' 4 c)), some (.int (stpN a a' c)), some (.int (if a 6 c + spdC a t c < 10 then 0 else 1)), some (.int (a' 7 c - a 7 c)), some (.int (a' 8 c - a 8 c)), u21, u22], [], (jH ad ro b s nk nc nn ru W a' t')) = xr E (d + 156) m_L_law Q (877, [some (.retAddr 0), some (.ref 0), some (.ref (ad 1)), some (.int (nI i)), some (.int (v4)), some (.int (nI nn)), some (.int (v6)), some (.ref (q1)), some (.ref (q2)), some (.ref (q3)), some (.int (v10)), some (.int (v11)), some (.int (v12)), some (.int (v13)), some (.int (nI c)), some (.int (a' 3 c)), some (.int (a' 4 c)), some (.int (stpN a a' c)), some (.int (if a 6 c + spdC a t c < 10 then 0 else 1)), some (.int (a' 7 c - a 7 c)), some (.int (a' 8 c - a 8 c)), u21, u22], [], (jH ad ro b s nk nc nn ru W a' t')) := by
  have hz := jS_z hS
  obtain ⟨hj, hlo, hlz, hB, hW, hR, hn1, hd1, hd2⟩ := id hS
  obtain ⟨w1, w2, w3, w4, w5, w6, -⟩ := id hW
  obtain ⟨z1, -, z3, z4, -⟩ := cls_J (ad := ad) (nk := nk) (nc := nc) (nn := nn) (ru := ru) (a2 := a') (t2 := t') (b2 := b) (s2 := s) hI.1 hz
  obtain ⟨gw, a1, a2⟩ := hA
  obtain ⟨r, g1, g2, g3, g4⟩ := a2 c hc
  have c1 : xcl (jH ad ro b s nk nc nn ru W a' t') 0 = 8 := xc_of z1
  have p3 := (j_out (b := b) (s := s) (ru := ru) (H := W) (a := a') (t := t') hj hhi).trans a1
  have p4 := (j_out (b := b) (s := s) (ru := ru) (H := W) (a := a') (t := t') hj (show hi ≤ r by omega)).trans g4
  obtain ⟨⟨l, l1, l2⟩, ⟨la, la1, la2⟩, ⟨lb, lb1, lb2⟩, lc⟩ := lf_b (a' := a') (b := b) hS0 hc
  obtain ⟨r1, r2, r3, r4, r5⟩ := hr
  have h1 := fun (Q : xR → Prop) => c_T_wayOf_i (E := E) (d := d + 154) (Q := Q) z1 z3 z4 w5 w6 hc
  have h2 := fun (Q : xR → Prop) => c_T_isHome_i (E := E) (d := d + 153) (Q := Q) z1 z3 z4 w5 w6 hc
  have h3 := fun (Q : xR → Prop) => c_T_hasCustoms (E := E) (d := d + 153) (Q := Q) z1 z3 w3 w4 (a' 3 c) (a' 4 c)
  simp only [if_neg (cel_c hB hI.2.2.2 hc)] at h3
  have k1 : ((if a 6 c + spdC a t c < 10 then (0 : Int32) else 1) = 0) = (a 6 c + spdC a t c < 10) := by
    split
    · next e => exact (eq_true rfl).trans (eq_true e).symm
    · next e => exact (eq_false (by decide)).trans (eq_false e).symm
  have k2 : (a' 7 c - a 7 c < 0) = False := by
    rw [r4]
    split
    · rw [la2]; exact nI_n0 la (by omega)
    · exact eq_false (by decide)
  have k3 : (a 5 c < a' 7 c - a 7 c) = False := by
    rw [r4]
    split
    · exact eq_false lc
    · rw [l2]; exact nI_n0 l (by omega)
  have s10 : ((1 : Int32) < 1) = False := eq_false (by decide)
  have s01 : ((0 : Int32) < 1) = True := eq_true (by decide)
  have s00 : ((0 : Int32) < 0) = False := eq_false (by decide)
  have p10 : ((1 : Int32) = 0) = False := eq_false (by decide)
  have hom : (0 < a' 7 c - a 7 c) → a' 3 c = b 7 c ∧ a' 4 c = b 8 c := by
    rw [r4]
    split
    · next e => exact fun _ => e.2
    · intro q; exact absurd q (by decide)
  have w6' : (a' 6 c = a 6 c + spdC a t c - if a 6 c + spdC a t c < 10 then 0 else 10) := r2
  -- from the way on
  have part2 : ∀ (Q : xR → Prop), xr E (d + 156) m_L_law Q (818, [some (.retAddr 0), some (.ref 0), some (.ref (ad 1)), some (.int (nI i)), some (.int (v4)), some (.int (nI nn)), some (.int (v6)), some (.ref (q1)), some (.ref (q2)), some (.ref (q3)), some (.int (v10)), some (.int (v11)), some (.int (v12)), some (.int (v13)), some (.int (nI c)), some (.int (a' 3 c)), some (.int (a' 4 c)), some (.int (stpN a a' c)), some (.int (if a 6 c + spdC a t c < 10 then 0 else 1)), some (.int (a' 7 c - a 7 c)), some (.int (a' 8 c - a 8 c)), u21, u22], [], (jH ad ro b s nk nc nn ru W a' t')) = xr E (d + 156) m_L_law Q (877, [some (.retAddr 0), some (.ref 0), some (.ref (ad 1)), some (.int (nI i)), some (.int (v4)), some (.int (nI nn)), some (.int (v6)), some (.ref (q1)), some (.ref (q2)), some (.ref (q3)), some (.int (v10)), some (.int (v11)), some (.int (v12)), some (.int (v13)), some (.int (nI c)), some (.int (a' 3 c)), some (.int (a' 4 c)), some (.int (stpN a a' c)), some (.int (if a 6 c + spdC a t c < 10 then 0 else 1)), some (.int (a' 7 c - a 7 c)), some (.int (a' 8 c - a 8 c)), u21, u22], [], (jH ad ro b s nk nc nn ru W a' t')) := by
    intro Q
    have sip : ∀ (Q : xR → Prop), xr E (d + 156) m_L_law Q (849, [some (.retAddr 0), some (.ref 0), some (.ref (ad 1)), some (.int (nI i)), some (.int (v4)), some (.int (nI nn)), some (.int (v6)), some (.ref (q1)), some (.ref (q2)), some (.ref (q3)), some (.int (v10)), some (.int (v11)), some (.int (v12)), some (.int (v13)), some (.int (nI c)), some (.int (a' 3 c)), some (.int (a' 4 c)), some (.int (stpN a a' c)), some (.int (if a 6 c + spdC a t c < 10 then 0 else 1)), some (.int (a' 7 c - a 7 c)), some (.int (a' 8 c - a 8 c)), u21, u22], [], (jH ad ro b s nk nc nn ru W a' t')) = xr E (d + 156) m_L_law Q (877, [some (.retAddr 0), some (.ref 0), some (.ref (ad 1)), some (.int (nI i)), some (.int (v4)), some (.int (nI nn)), some (.int (v6)), some (.ref (q1)), some (.ref (q2)), some (.ref (q3)), some (.int (v10)), some (.int (v11)), some (.int (v12)), some (.int (v13)), some (.int (nI c)), some (.int (a' 3 c)), some (.int (a' 4 c)), some (.int (stpN a a' c)), some (.int (if a 6 c + spdC a t c < 10 then 0 else 1)), some (.int (a' 7 c - a 7 c)), some (.int (a' 8 c - a 8 c)), u21, u22], [], (jH ad ro b s nk nc nn ru W a' t')) := by
      intro Q
      by_cases e1 : 0 < stpN a a' c
      · by_cases e2 : cAt (b 5) (b 6) (a' 3 c) (a' 4 c) 0 nc = 0
        · rw [if_neg (fun q => q.2 e2)] at r3
          simp only [↓reduceIte, s_L_law_849, s_L_law_851, s_L_law_853, s_L_law_856, s_L_law_857, s_L_law_859, s_L_law_861, s_L_law_864, s_L_law_867, s_L_law_868, s_L_law_871, s_L_law_872, not_false_eq_true, Nat.reduceLT, Nat.reduceAdd, true_and, and_true, if_true, if_false, ite_true, ite_false, xnb_0, xnb_1, xnb_b, xk_v, xk_n, c1, h3, eq_true e1, eq_true e2, r3]
        · rw [if_pos ⟨e1, e2⟩] at r3
          simp only [↓reduceIte, s_L_law_849, s_L_law_851, s_L_law_853, s_L_law_856, s_L_law_857, s_L_law_859, s_L_law_861, s_L_law_864, s_L_law_867, s_L_law_868, s_L_law_871, s_L_law_872, not_false_eq_true, Nat.reduceLT, Nat.reduceAdd, true_and, and_true, if_true, if_false, ite_true, ite_false, xnb_0, xnb_1, xnb_b, xk_v, xk_n, c1, h3, eq_true e1, eq_false e2, r3]
      · rw [if_neg (fun q => e1 q.1)] at r3
        simp only [↓reduceIte, s_L_law_849, s_L_law_851, s_L_law_853, s_L_law_856, s_L_law_857, s_L_law_859, s_L_law_861, s_L_law_864, s_L_law_867, s_L_law_868, s_L_law_871, s_L_law_872, not_false_eq_true, Nat.reduceLT, Nat.reduceAdd, true_and, and_true, if_true, if_false, ite_true, ite_false, xnb_0, xnb_1, xnb_b, xk_v, xk_n, c1, h3, eq_false e1, r3]
    by_cases e3 : 0 < a' 7 c - a 7 c
    · have hx : xb (a' 3 c = b 7 c ∧ a' 4 c = b 8 c) = 1 := if_pos (hom e3)
      rw [hx] at h2
      refine Eq.trans ?_ (sip Q)
      simp only [↓reduceIte, s_L_law_818, s_L_law_820, s_L_law_823, s_L_law_825, s_L_law_827, s_L_law_829, s_L_law_830, s_L_law_831, s_L_law_832, s_L_law_835, s_L_law_837, s_L_law_840, s_L_law_841, s_L_law_843, s_L_law_846, not_false_eq_true, Nat.reduceLT, Nat.reduceAdd, true_and, and_true, if_true, if_false, ite_true, ite_false, xnb_0, xnb_1, xnb_b, xk_v, xk_n, c1, h2, k2, k3, eq_true e3, p10, (xA_of p3).1, (xA_of p3).2.1, (xA_of p3).2.2, nvp hc (show nn < 2147483648 by omega), ncl (show c < 2147483648 by omega), g1, xrf_s, xIl_of p4, xIf_of p4, ic_0, ic_1, ic_2, ic_3, ic_4, ic_5, ic_6, v7_0, v7_1, v7_2, v7_3, v7_4, v7_5, v7_6, wsq_0, wsq_1, wsq_2, wsq_3, wsq_4, wsq_5, wsq_6]
    · refine Eq.trans ?_ (sip Q)
      simp only [↓reduceIte, s_L_law_818, s_L_law_820, s_L_law_823, s_L_law_825, s_L_law_827, s_L_law_829, s_L_law_830, s_L_law_831, s_L_law_832, s_L_law_835, s_L_law_837, not_false_eq_true, Nat.reduceLT, Nat.reduceAdd, true_and, and_true, if_true, if_false, ite_true, ite_false, xnb_0, xnb_1, xnb_b, xk_v, xk_n, c1, k2, k3, eq_false e3, (xA_of p3).1, (xA_of p3).2.1, (xA_of p3).2.2, nvp hc (show nn < 2147483648 by omega), ncl (show c < 2147483648 by omega), g1, xrf_s, xIl_of p4, xIf_of p4, ic_0, ic_1, ic_2, ic_3, ic_4, ic_5, ic_6, v7_0, v7_1, v7_2, v7_3, v7_4, v7_5, v7_6, wsq_0, wsq_1, wsq_2, wsq_3, wsq_4, wsq_5, wsq_6]
  refine Eq.trans ?_ (part2 Q)
  by_cases e : a 6 c + spdC a t c < 10
  · have hs0 : stpN a a' c = 0 := r1.elim id (fun q => absurd e q.2)
    simp only [if_pos e] at w6' ⊢
    rw [hs0]
    simp only [↓reduceIte, s_L_law_766, s_L_law_768, s_L_law_770, s_L_law_773, s_L_law_774, s_L_law_777, s_L_law_778, s_L_law_781, s_L_law_782, s_L_law_784, s_L_law_787, s_L_law_789, s_L_law_791, s_L_law_792, s_L_law_793, s_L_law_794, s_L_law_796, s_L_law_798, s_L_law_799, s_L_law_801, s_L_law_802, s_L_law_803, s_L_law_805, s_L_law_808, s_L_law_810, s_L_law_813, s_L_law_814, s_L_law_815, not_false_eq_true, Nat.reduceLT, Nat.reduceAdd, true_and, and_true, if_true, if_false, ite_true, ite_false, xnb_0, xnb_1, xnb_b, xk_v, xk_n, c1, h1, s00, w6', (xA_of p3).1, (xA_of p3).2.1, (xA_of p3).2.2, nvp hc (show nn < 2147483648 by omega), ncl (show c < 2147483648 by omega), g1, xrf_s, xIl_of p4, xIf_of p4, ic_0, ic_1, ic_2, ic_3, ic_4, ic_5, ic_6, v7_0, v7_1, v7_2, v7_3, v7_4, v7_5, v7_6, wsq_0, wsq_1, wsq_2, wsq_3, wsq_4, wsq_5, wsq_6]
  · simp only [if_neg e] at w6' ⊢
    rcases r1 with hs0 | ⟨hs0, -⟩
    · rw [hs0]
      simp only [↓reduceIte, s_L_law_766, s_L_law_768, s_L_law_770, s_L_law_773, s_L_law_774, s_L_law_777, s_L_law_778, s_L_law_781, s_L_law_782, s_L_law_784, s_L_law_787, s_L_law_789, s_L_law_791, s_L_law_792, s_L_law_793, s_L_law_794, s_L_law_796, s_L_law_798, s_L_law_799, s_L_law_801, s_L_law_802, s_L_law_803, s_L_law_805, s_L_law_808, s_L_law_810, s_L_law_813, s_L_law_814, s_L_law_815, not_false_eq_true, Nat.reduceLT, Nat.reduceAdd, true_and, and_true, if_true, if_false, ite_true, ite_false, xnb_0, xnb_1, xnb_b, xk_v, xk_n, c1, h1, p10, show ((1 : Int32) < 0) = False from eq_false (by decide), w6', (xA_of p3).1, (xA_of p3).2.1, (xA_of p3).2.2, nvp hc (show nn < 2147483648 by omega), ncl (show c < 2147483648 by omega), g1, xrf_s, xIl_of p4, xIf_of p4, ic_0, ic_1, ic_2, ic_3, ic_4, ic_5, ic_6, v7_0, v7_1, v7_2, v7_3, v7_4, v7_5, v7_6, wsq_0, wsq_1, wsq_2, wsq_3, wsq_4, wsq_5, wsq_6]
    · rw [hs0]
      simp only [↓reduceIte, s_L_law_766, s_L_law_768, s_L_law_770, s_L_law_773, s_L_law_774, s_L_law_777, s_L_law_778, s_L_law_781, s_L_law_782, s_L_law_784, s_L_law_787, s_L_law_789, s_L_law_791, s_L_law_792, s_L_law_793, s_L_law_794, s_L_law_796, s_L_law_798, s_L_law_799, s_L_law_801, s_L_law_802, s_L_law_803, s_L_law_805, s_L_law_808, s_L_law_810, s_L_law_813, s_L_law_814, s_L_law_815, not_false_eq_true, Nat.reduceLT, Nat.reduceAdd, true_and, and_true, if_true, if_false, ite_true, ite_false, xnb_0, xnb_1, xnb_b, xk_v, xk_n, c1, h1, p10, s10, w6', (xA_of p3).1, (xA_of p3).2.1, (xA_of p3).2.2, nvp hc (show nn < 2147483648 by omega), ncl (show c < 2147483648 by omega), g1, xrf_s, xIl_of p4, xIf_of p4, ic_0, ic_1, ic_2, ic_3, ic_4, ic_5, ic_6, v7_0, v7_1, v7_2, v7_3, v7_4, v7_5, v7_6, wsq_0, wsq_1, wsq_2, wsq_3, wsq_4, wsq_5, wsq_6]
theorem lw_5c (hS : jS E ad ro nk nc nn lo hi b s cnt rs re co rw') (hI : jI E ro ru nk nn lo hi Kb Ks ep b nm s co rw' n W a' t') (hS0 : kSt a t co rw' nk nn j) (hr : rcd a a' b t nk nc c z) (hA : waN W q3 nn a t nn) (hc : c < nn) (hhi : hi ≤ q3) : xr E (d + 156) m_L_law Q (877, [some (.retAddr 0), some (.ref 0), some (.ref (ad 1)), some (.int (nI i)), some (.int (v4)), some (.int (nI nn)), some (.int (v6)), some (.ref (q1)), some (.ref (q2)), some (.ref (q3)), some (.int (v10)), some (.int (v11)), some (.int (v12)), some (.int (v13)), some (.int (nI c)), some (.int (a' 3 c)), some (.int (a' 4 c)), some (.int (stpN a a' c)), some (.int (if a 6 c + spdC a t c < 10 then 0 else 1)), some (.int (a' 7 c - a 7 c)), some (.int (a' 8 c - a 8 c)), u21, u22], [], (jH ad ro b s nk nc nn ru W a' t')) = xr E (d + 156) m_L_law Q (953, [some (.retAddr 0), some (.ref 0), some (.ref (ad 1)), some (.int (nI i)), some (.int (v4)), some (.int (nI nn)), some (.int (v6)), some (.ref (q1)), some (.ref (q2)), some (.ref (q3)), some (.int (v10)), some (.int (v11)), some (.int (v12)), some (.int (v13)), some (.int (nI c)), some (.int (a' 3 c)), some (.int (a' 4 c)), some (.int (stpN a a' c)), some (.int (if a 6 c + spdC a t c < 10 then 0 else 1)), some (.int (a' 7 c - a 7 c)), some (.int (a' 8 c - a 8 c)), some (.int (lfB a a' b c)), u22], [], (jH ad ro b s nk nc nn ru W a' t')) := by
  have hz := jS_z hS
  obtain ⟨hj, hlo, hlz, hB, hW, hR, hn1, hd1, hd2⟩ := id hS
  obtain ⟨w1, w2, w3, w4, w5, w6, -⟩ := id hW
  obtain ⟨z1, -, z3, z4, -⟩ := cls_J (ad := ad) (nk := nk) (nc := nc) (nn := nn) (ru := ru) (a2 := a') (t2 := t') (b2 := b) (s2 := s) hI.1 hz
  obtain ⟨gw, a1, a2⟩ := hA
  obtain ⟨r, g1, g2, g3, g4⟩ := a2 c hc
  have c1 : xcl (jH ad ro b s nk nc nn ru W a' t') 0 = 8 := xc_of z1
  have p3 := (j_out (b := b) (s := s) (ru := ru) (H := W) (a := a') (t := t') hj hhi).trans a1
  have p4 := (j_out (b := b) (s := s) (ru := ru) (H := W) (a := a') (t := t') hj (show hi ≤ r by omega)).trans g4
  obtain ⟨r1, r2, r3, r4, r5⟩ := hr
  have h2 := fun (Q : xR → Prop) => c_T_isHome_i (E := E) (d := d + 153) (Q := Q) z1 z3 z4 w5 w6 hc
  have p10 : ((1 : Int32) = 0) = False := eq_false (by decide)
  have p40 : ((4 : Int32) = 0) = False := eq_false (by decide)
  have st1 : ∀ (Q : xR → Prop), xr E (d + 156) m_L_law Q (877, [some (.retAddr 0), some (.ref 0), some (.ref (ad 1)), some (.int (nI i)), some (.int (v4)), some (.int (nI nn)), some (.int (v6)), some (.ref (q1)), some (.ref (q2)), some (.ref (q3)), some (.int (v10)), some (.int (v11)), some (.int (v12)), some (.int (v13)), some (.int (nI c)), some (.int (a' 3 c)), some (.int (a' 4 c)), some (.int (stpN a a' c)), some (.int (if a 6 c + spdC a t c < 10 then 0 else 1)), some (.int (a' 7 c - a 7 c)), some (.int (a' 8 c - a 8 c)), u21, u22], [], (jH ad ro b s nk nc nn ru W a' t')) = xr E (d + 156) m_L_law Q (917, [some (.retAddr 0), some (.ref 0), some (.ref (ad 1)), some (.int (nI i)), some (.int (v4)), some (.int (nI nn)), some (.int (v6)), some (.ref (q1)), some (.ref (q2)), some (.ref (q3)), some (.int (v10)), some (.int (v11)), some (.int (v12)), some (.int (v13)), some (.int (nI c)), some (.int (a' 3 c)), some (.int (a' 4 c)), some (.int (stpN a a' c)), some (.int (if a 6 c + spdC a t c < 10 then 0 else 1)), some (.int (a' 7 c - a 7 c)), some (.int (a' 8 c - a 8 c)), some (.int (lfA a a' c)), u22], [], (jH ad ro b s nk nc nn ru W a' t')) := by
    intro Q
    unfold lfA lfP
    by_cases e : 0 < a' 8 c - a 8 c
    · simp only [if_pos e]
      simp only [↓reduceIte, s_L_law_877, s_L_law_879, s_L_law_882, s_L_law_883, s_L_law_885, s_L_law_887, s_L_law_888, s_L_law_889, s_L_law_890, s_L_law_892, s_L_law_894, s_L_law_895, s_L_law_896, s_L_law_897, s_L_law_898, s_L_law_899, s_L_law_900, s_L_law_901, s_L_law_902, s_L_law_905, s_L_law_908, s_L_law_910, s_L_law_912, s_L_law_913, s_L_law_914, s_L_law_915, not_false_eq_true, Nat.reduceLT, Nat.reduceAdd, true_and, and_true, if_true, if_false, ite_true, ite_false, xnb_0, xnb_1, xnb_b, xk_v, xk_n, eq_true e, p40, (xA_of p3).1, (xA_of p3).2.1, (xA_of p3).2.2, nvp hc (show nn < 2147483648 by omega), ncl (show c < 2147483648 by omega), g1, xrf_s, xIl_of p4, xIf_of p4, ic_0, ic_1, ic_2, ic_3, ic_4, ic_5, ic_6, v7_0, v7_1, v7_2, v7_3, v7_4, v7_5, v7_6, wsq_0, wsq_1, wsq_2, wsq_3, wsq_4, wsq_5, wsq_6]
    · simp only [if_neg e]
      simp only [↓reduceIte, s_L_law_877, s_L_law_879, s_L_law_882, s_L_law_883, s_L_law_885, s_L_law_887, s_L_law_888, s_L_law_889, s_L_law_890, s_L_law_892, s_L_law_894, s_L_law_895, s_L_law_896, s_L_law_897, s_L_law_898, s_L_law_899, s_L_law_900, s_L_law_901, s_L_law_902, s_L_law_905, s_L_law_908, s_L_law_910, s_L_law_912, s_L_law_913, s_L_law_914, s_L_law_915, not_false_eq_true, Nat.reduceLT, Nat.reduceAdd, true_and, and_true, if_true, if_false, ite_true, ite_false, xnb_0, xnb_1, xnb_b, xk_v, xk_n, eq_false e, (xA_of p3).1, (xA_of p3).2.1, (xA_of p3).2.2, nvp hc (show nn < 2147483648 by omega), ncl (show c < 2147483648 by omega), g1, xrf_s, xIl_of p4, xIf_of p4, ic_0, ic_1, ic_2, ic_3, ic_4, ic_5, ic_6, v7_0, v7_1, v7_2, v7_3, v7_4, v7_5, v7_6, wsq_0, wsq_1, wsq_2, wsq_3, wsq_4, wsq_5, wsq_6]
  rw [st1]
  by_cases e1 : 0 < stpN a a' c
  · by_cases e2 : a' 3 c = b 7 c ∧ a' 4 c = b 8 c
    · have hx : xb (a' 3 c = b 7 c ∧ a' 4 c = b 8 c) = 1 := if_pos e2
      have hl : lfB a a' b c = 0 := if_pos ⟨e1, e2⟩
      rw [hx] at h2
      rw [if_pos ⟨e1, e2⟩] at r4
      rw [hl, r4]
      simp only [↓reduceIte, s_L_law_917, s_L_law_919, s_L_law_922, s_L_law_923, s_L_law_925, s_L_law_928, s_L_law_931, s_L_law_933, s_L_law_935, s_L_law_938, s_L_law_939, s_L_law_940, s_L_law_941, s_L_law_943, s_L_law_946, s_L_law_948, not_false_eq_true, Nat.reduceLT, Nat.reduceAdd, true_and, and_true, if_true, if_false, ite_true, ite_false, xnb_0, xnb_1, xnb_b, xk_v, xk_n, c1, h2, eq_true e1, p10]
    · have hx : xb (a' 3 c = b 7 c ∧ a' 4 c = b 8 c) = 0 := if_neg e2
      have hl : lfB a a' b c = lfA a a' c := if_neg fun q => e2 q.2
      rw [hx] at h2
      rw [if_neg (fun q => e2 q.2)] at r4
      rw [hl, r4]
      simp only [↓reduceIte, s_L_law_917, s_L_law_919, s_L_law_922, s_L_law_923, s_L_law_925, s_L_law_928, s_L_law_931, s_L_law_933, s_L_law_935, s_L_law_938, s_L_law_939, s_L_law_940, s_L_law_941, s_L_law_943, s_L_law_946, s_L_law_948, not_false_eq_true, Nat.reduceLT, Nat.reduceAdd, true_and, and_true, if_true, if_false, ite_true, ite_false, xnb_0, xnb_1, xnb_b, xk_v, xk_n, c1, h2, eq_true e1, show ((0 : Int32) < 0) = False from eq_false (by decide)]
  · have hl : lfB a a' b c = lfA a a' c := if_neg fun q => e1 q.1
    rw [if_neg (fun q => e1 q.1)] at r4
    rw [hl, r4]
    simp only [↓reduceIte, s_L_law_917, s_L_law_919, s_L_law_922, s_L_law_923, s_L_law_925, s_L_law_928, s_L_law_931, s_L_law_933, s_L_law_935, s_L_law_938, s_L_law_939, s_L_law_940, s_L_law_941, s_L_law_943, s_L_law_946, s_L_law_948, not_false_eq_true, Nat.reduceLT, Nat.reduceAdd, true_and, and_true, if_true, if_false, ite_true, ite_false, xnb_0, xnb_1, xnb_b, xk_v, xk_n, eq_false e1, show ((0 : Int32) < 0) = False from eq_false (by decide)]
theorem lw_5d (hS : jS E ad ro nk nc nn lo hi b s cnt rs re co rw') (hI : jI E ro ru nk nn lo hi Kb Ks ep b nm s co rw' n W a' t') (hS0 : kSt a t co rw' nk nn j) (hr : rcd a a' b t nk nc c z) (hA : waN W q3 nn a t nn) (hc : c < nn) (hhi : hi ≤ q3) : ∃ k22, ∀ Q, xr E (d + 156) m_L_law Q (953, [some (.retAddr 0), some (.ref 0), some (.ref (ad 1)), some (.int (nI i)), some (.int (v4)), some (.int (nI nn)), some (.int (v6)), some (.ref (q1)), some (.ref (q2)), some (.ref (q3)), some (.int (v10)), some (.int (v11)), some (.int (v12)), some (.int (v13)), some (.int (nI c)), some (.int (a' 3 c)), some (.int (a' 4 c)), some (.int (stpN a a' c)), some (.int (if a 6 c + spdC a t c < 10 then 0 else 1)), some (.int (a' 7 c - a 7 c)), some (.int (a' 8 c - a 8 c)), some (.int (lfB a a' b c)), u22], [], (jH ad ro b s nk nc nn ru W a' t')) = xr E (d + 156) m_L_law Q (654, [some (.retAddr 0), some (.ref 0), some (.ref (ad 1)), some (.int (nI i)), some (.int (v4)), some (.int (nI nn)), some (.int (v6)), some (.ref (q1)), some (.ref (q2)), some (.ref (q3)), some (.int (v10)), some (.int (v11)), some (.int (v12 + (a' 7 c - a 7 c))), some (.int (v13 + z)), some (.int (nI (c + 1))), some (.int (a' 3 c)), some (.int (a' 4 c)), some (.int (stpN a a' c)), some (.int (if a 6 c + spdC a t c < 10 then 0 else 1)), some (.int (a' 7 c - a 7 c)), some (.int (a' 8 c - a 8 c)), some (.int (lfB a a' b c)), k22], [], (jH ad ro b s nk nc nn ru W a' t')) := by
  have hz := jS_z hS
  obtain ⟨hj, hlo, hlz, hB, hW, hR, hn1, hd1, hd2⟩ := id hS
  obtain ⟨w1, w2, w3, w4, w5, w6, -⟩ := id hW
  obtain ⟨z1, -, z3, z4, -⟩ := cls_J (ad := ad) (nk := nk) (nc := nc) (nn := nn) (ru := ru) (a2 := a') (t2 := t') (b2 := b) (s2 := s) hI.1 hz
  obtain ⟨gw, a1, a2⟩ := hA
  obtain ⟨r, g1, g2, g3, g4⟩ := a2 c hc
  have c1 : xcl (jH ad ro b s nk nc nn ru W a' t') 0 = 8 := xc_of z1
  have p3 := (j_out (b := b) (s := s) (ru := ru) (H := W) (a := a') (t := t') hj hhi).trans a1
  have p4 := (j_out (b := b) (s := s) (ru := ru) (H := W) (a := a') (t := t') hj (show hi ≤ r by omega)).trans g4
  obtain ⟨-, -, ⟨lb, lb1, lb2⟩, -⟩ := lf_b (a' := a') (b := b) hS0 hc
  obtain ⟨r1, r2, r3, r4, r5⟩ := hr
  have h1 := fun (Q : xR → Prop) => c_T_leafOf_i (E := E) (d := d + 154) (Q := Q) z1 z3 z4 w5 w6 hc
  have h2 := fun (Q : xR → Prop) => f_S_atk (E := E) (d := d + 155) (Q := Q) (x := a' 3 c) (y := a' 4 c) (b := b) (s := s) (ru := ru) (H := W) (a := a') (t := t') hj
  have m1 := j_1 (b := b) (s := s) (ru := ru) (H := W) (a := a') (t := t') hj
  refine ⟨some (.int (a' 5 c - lfB a a' b c)), fun Q => ?_⟩
  rw [lb2] at r5
  rw [lb2]
  rcases r5 with ⟨t0, l0⟩ | ⟨t0, l0, l1, k, hk, hat⟩
  · rw [l0] at h1 ⊢
    rw [t0]
    simp only [↓reduceIte, s_L_law_953, s_L_law_954, s_L_law_956, s_L_law_959, s_L_law_961, s_L_law_962, s_L_law_964, s_L_law_966, s_L_law_969, s_L_law_971, s_L_law_973, s_L_law_976, s_L_law_978, s_L_law_981, s_L_law_982, s_L_law_985, s_L_law_987, s_L_law_989, s_L_law_992, s_L_law_995, s_L_law_997, s_L_law_1000, s_L_law_1002, s_L_law_1004, s_L_law_1007, s_L_law_1008, s_L_law_1010, s_L_law_1013, s_L_law_1015, s_L_law_1018, s_L_law_1019, s_L_law_1020, s_L_law_1022, s_L_law_1024, s_L_law_1027, s_L_law_1028, s_L_law_1031, s_L_law_1032, s_L_law_1033, s_L_law_1035, s_L_law_1037, s_L_law_1039, s_L_law_1040, s_L_law_1042, s_L_law_1045, not_false_eq_true, Nat.reduceLT, Nat.reduceAdd, true_and, and_true, if_true, if_false, ite_true, ite_false, xnb_0, xnb_1, xnb_b, xk_v, xk_n, c1, h1, i_ss, show ((0 : Int32) < 0) = False from eq_false (by decide), show ((6 : Int32) < 0) = False from eq_false (by decide), show nI c + 1 = nI (c + 1) from nI_ad c 1]
  · rw [hat] at h2
    have k0 := nI_n0 k (show k < 2147483648 by omega)
    rw [t0]
    have e6 : nI lb + 6 = nI (lb + 6) := nI_ad lb 6
    rw [e6] at l1
    have c30 : (nI (lb + 6) < (30 : Int32)) = (lb + 6 < 30) := nI_lq (y := 30) (by omega) (by omega)
    have l0' : lb < 30 := by
      have : (nI lb < (30 : Int32)) = (lb < 30) := nI_lq (y := 30) (by omega) (by omega)
      rw [this] at l0; exact l0
    by_cases g : lb + 6 < 30
    · rw [if_pos (c30 ▸ g)] at l1
      rw [l1] at h1 ⊢
      have mo : nI (lb + 6) - nI lb = 6 := by rw [pk_sub (show lb ≤ lb + 6 by omega), Nat.add_sub_cancel_left]; rfl
      simp only [↓reduceIte, s_L_law_953, s_L_law_954, s_L_law_956, s_L_law_959, s_L_law_961, s_L_law_962, s_L_law_964, s_L_law_966, s_L_law_969, s_L_law_971, s_L_law_973, s_L_law_976, s_L_law_978, s_L_law_981, s_L_law_982, s_L_law_985, s_L_law_987, s_L_law_989, s_L_law_992, s_L_law_995, s_L_law_997, s_L_law_1000, s_L_law_1002, s_L_law_1004, s_L_law_1007, s_L_law_1008, s_L_law_1010, s_L_law_1013, s_L_law_1015, s_L_law_1018, s_L_law_1019, s_L_law_1020, s_L_law_1022, s_L_law_1024, s_L_law_1027, s_L_law_1028, s_L_law_1031, s_L_law_1032, s_L_law_1033, s_L_law_1035, s_L_law_1037, s_L_law_1039, s_L_law_1040, s_L_law_1042, s_L_law_1045, not_false_eq_true, Nat.reduceLT, Nat.reduceAdd, true_and, and_true, if_true, if_false, ite_true, ite_false, xnb_0, xnb_1, xnb_b, xk_v, xk_n, c1, h1, h2, mo, k0, xf_of m1, xll_10, xlg_10_0, xlg_10_1, xlg_10_2, xlg_10_3, xlg_10_4, xlg_10_5, xlg_10_6, xlg_10_7, xlg_10_8, show ((6 : Int32) < 0) = False from eq_false (by decide), show ((6 : Int32) < 6) = False from eq_false (by decide), show ((0 : Int32) < 6) = True from eq_true (by decide), show nI c + 1 = nI (c + 1) from nI_ad c 1]
    · rw [if_neg (fun q => g (c30 ▸ q))] at l1
      rw [l1] at h1 ⊢
      have mo : (30 : Int32) - nI lb = nI (30 - lb) := pk_sub (a := 30) (b := lb) (by omega)
      have m1' : (nI (30 - lb) < 0) = False := nI_n0 _ (by omega)
      have m2' : ((6 : Int32) < nI (30 - lb)) = False := nge (i := 6) (n := 30 - lb) (by omega) (by omega)
      have m3' : ((0 : Int32) < nI (30 - lb)) = True := nlt (i := 0) (n := 30 - lb) (by omega) (by omega)
      by_cases g2 : nI (30 - lb) < (6 : Int32)
      · simp only [↓reduceIte, s_L_law_953, s_L_law_954, s_L_law_956, s_L_law_959, s_L_law_961, s_L_law_962, s_L_law_964, s_L_law_966, s_L_law_969, s_L_law_971, s_L_law_973, s_L_law_976, s_L_law_978, s_L_law_981, s_L_law_982, s_L_law_985, s_L_law_987, s_L_law_989, s_L_law_992, s_L_law_995, s_L_law_997, s_L_law_1000, s_L_law_1002, s_L_law_1004, s_L_law_1007, s_L_law_1008, s_L_law_1010, s_L_law_1013, s_L_law_1015, s_L_law_1018, s_L_law_1019, s_L_law_1020, s_L_law_1022, s_L_law_1024, s_L_law_1027, s_L_law_1028, s_L_law_1031, s_L_law_1032, s_L_law_1033, s_L_law_1035, s_L_law_1037, s_L_law_1039, s_L_law_1040, s_L_law_1042, s_L_law_1045, not_false_eq_true, Nat.reduceLT, Nat.reduceAdd, true_and, and_true, if_true, if_false, ite_true, ite_false, xnb_0, xnb_1, xnb_b, xk_v, xk_n, c1, h1, h2, mo, m1', m2', m3', eq_true g2, k0, xf_of m1, xll_10, xlg_10_0, xlg_10_1, xlg_10_2, xlg_10_3, xlg_10_4, xlg_10_5, xlg_10_6, xlg_10_7, xlg_10_8, show ((30 : Int32) < 30) = False from eq_false (by decide), show nI c + 1 = nI (c + 1) from nI_ad c 1]
      · simp only [↓reduceIte, s_L_law_953, s_L_law_954, s_L_law_956, s_L_law_959, s_L_law_961, s_L_law_962, s_L_law_964, s_L_law_966, s_L_law_969, s_L_law_971, s_L_law_973, s_L_law_976, s_L_law_978, s_L_law_981, s_L_law_982, s_L_law_985, s_L_law_987, s_L_law_989, s_L_law_992, s_L_law_995, s_L_law_997, s_L_law_1000, s_L_law_1002, s_L_law_1004, s_L_law_1007, s_L_law_1008, s_L_law_1010, s_L_law_1013, s_L_law_1015, s_L_law_1018, s_L_law_1019, s_L_law_1020, s_L_law_1022, s_L_law_1024, s_L_law_1027, s_L_law_1028, s_L_law_1031, s_L_law_1032, s_L_law_1033, s_L_law_1035, s_L_law_1037, s_L_law_1039, s_L_law_1040, s_L_law_1042, s_L_law_1045, not_false_eq_true, Nat.reduceLT, Nat.reduceAdd, true_and, and_true, if_true, if_false, ite_true, ite_false, xnb_0, xnb_1, xnb_b, xk_v, xk_n, c1, h1, h2, mo, m1', m2', m3', eq_false g2, k0, xf_of m1, xll_10, xlg_10_0, xlg_10_1, xlg_10_2, xlg_10_3, xlg_10_4, xlg_10_5, xlg_10_6, xlg_10_7, xlg_10_8, show nI c + 1 = nI (c + 1) from nI_ad c 1]
theorem lw_5e (hS : jS E ad ro nk nc nn lo hi b s cnt rs re co rw') (hI : jI E ro ru nk nn lo hi Kb Ks ep b nm s co rw' n W a' t') (hS0 : kSt a t co rw' nk nn j) {tk : Nat → Int32} (hr : ∀ c, c < nn → rcd a a' b t nk nc c (tk c)) (hA : waN W q3 nn a t nn) (hhi : hi ≤ q3) : ∀ (m c : Nat) (v12 v13 : Int32) (u15 u16 u17 u18 u19 u20 u21 u22 : Option Value), c + m = nn → ∃ k15 k16 k17 k18 k19 k20 k21 k22, ∀ Q, xr E (d + 156) m_L_law Q (654, [some (.retAddr 0), some (.ref 0), some (.ref (ad 1)), some (.int (nI i)), some (.int (v4)), some (.int (nI nn)), some (.int (v6)), some (.ref (q1)), some (.ref (q2)), some (.ref (q3)), some (.int (v10)), some (.int (v11)), some (.int (v12)), some (.int (v13)), some (.int (nI c)), u15, u16, u17, u18, u19, u20, u21, u22], [], (jH ad ro b s nk nc nn ru W a' t')) = xr E (d + 156) m_L_law Q (1048, [some (.retAddr 0), some (.ref 0), some (.ref (ad 1)), some (.int (nI i)), some (.int (v4)), some (.int (nI nn)), some (.int (v6)), some (.ref (q1)), some (.ref (q2)), some (.ref (q3)), some (.int (v10)), some (.int (v11)), some (.int (sumP (fun c => a' 7 c - a 7 c) c m v12)), some (.int (sumP tk c m v13)), some (.int (nI nn)), k15, k16, k17, k18, k19, k20, k21, k22], [], (jH ad ro b s nk nc nn ru W a' t'))
  | 0, c, v12, v13, u15, u16, u17, u18, u19, u20, u21, u22, hc => by
    obtain rfl : c = nn := by omega
    have h6 := hS.1.2.2.1
    refine ⟨u15, u16, u17, u18, u19, u20, u21, u22, fun Q => ?_⟩
    rw [s_L_law_654]
    simp only [↓reduceIte, s_L_law_656, s_L_law_658, nge (Nat.le_refl c) (show c < 2147483648 by omega), sumP]
  | m + 1, c, v12, v13, u15, u16, u17, u18, u19, u20, u21, u22, hc => by
    have hc' : c < nn := by omega
    obtain ⟨l22, h4⟩ := lw_5d (d := d) (i := i) (v4 := v4) (v6 := v6) (v10 := v10) (v11 := v11) (v12 := v12) (v13 := v13) (q1 := q1) (q2 := q2) (u22 := u22) hS hI hS0 (hr c hc') hA hc' hhi
    obtain ⟨k15, k16, k17, k18, k19, k20, k21, k22, ih⟩ := lw_5e hS hI hS0 hr hA hhi m (c + 1) (v12 + (a' 7 c - a 7 c)) (v13 + tk c) _ _ _ _ _ _ _ _ (by omega)
    exact ⟨k15, k16, k17, k18, k19, k20, k21, k22, fun Q => (lw_5a hS hI hS0 (hr c hc') hA hc' hhi).trans ((lw_5b hS hI hS0 (hr c hc') hA hc' hhi).trans ((lw_5c hS hI hS0 (hr c hc') hA hc' hhi).trans ((h4 Q).trans (ih Q))))⟩
end LAW3
