/-! ===== a reckoning is made, and its text ===== -/
section BUILD
variable {E : xE} {d D : Nat} {Q : xR → Prop} {H X Y Z : xH} {p q v n m i j k r l c Kb Ks : Nat} {b a : Nat → Nat → Int32} {s t : Nat → Int32} {nm : Nat → Int64} {x ep : Int32} {ad ro : Nat → Nat} {ru : Nat → Option Nat} {lo hi : Nat}
/-- the tokens of the drawn bay's text -/
abbrev drB_T (E : xE) : List tok := bookT E (drC E) (drR E) (drKx E) (drKy E) (drKz E) (drUx E) (drUy E) (drX E) (drY E) (drZ E) (drP E).1.length (drP E).2.length (drN E)
theorem mk_sim (hE : E.1 ≤ 260) (d : Nat) (X : xH) : ∃ (ad ro : Nat → Nat) (ru : Nat → Option Nat) (hi q : Nat) (Z2 X3 : xH) (cb sl : Nat), (∀ Q, xcall E xprog (d + 11) 111 [.ref X.2.1, .retAddr 0] (xnew X (.inr (10, xdef 10)) 9) Q = Q (.inl none, Z2)) ∧ xcl Z2 X.2.1 = 10 ∧
    (∀ Q, xcall E xprog (d + 11) 112 [.ref X.2.1] Z2 Q = Q (.inl (some (.ref q)), X3)) ∧ sbAt q cb sl X3 q (txt (drB_T E)) ∧ (∀ n, n < X.2.1 → X3.1 n = X.1 n) ∧
    (jOK ad ro (drP E).1.length (drP E).2.length (drN E) X.2.1 hi ∧ (∀ a, a < X.2.1 → ro a = 0) ∧ ad 1 = X.2.1 ∧ hi ≤ q) ∧ (∀ r, jU (drP E).1.length (drP E).2.length (drN E) r → X3.1 (ad r) = jC ad (drB E) (drS E) (drP E).1.length (drP E).2.length (drN E) ru (drA E) (fun _ => 0) r) ∧ jL E ro ru (drN E) X.2.1 hi X3 ∧
    (txt (drB_T E)).length ≤ 50000 ∧ X.2.1 < q ∧ X3.2.1 ≤ X.2.1 + 117000 ∧ X3.2.2 ≤ X.2.2 + 240000 := by
  obtain ⟨X2, ad, ro, ru, a1, a2, a3, a4, a5, a6, a7, a8, a9⟩ := f_S_init (d := d + 5) (H := xnew X (.inr (10, xdef 10)) 9) (p := X.2.1) hE (if_pos rfl) (Nat.lt_succ_self _)
  have a5' : X.2.1 + 1 ≤ X2.2.1 := a5
  have a6' : X2.2.1 ≤ X.2.1 + 1 + 1300 := a6
  have a7' : X2.2.2 ≤ X.2.2 + 9 + 4000 := a7
  have hC := fun r hr => j_r (r := r) (b := drB E) (s := drS E) (ru := ru) (H := X2) (a := drA E) (t := fun _ => 0) a2 hr
  obtain ⟨X3, cb, sl, b1, b2, b3, b4, b5, b6, b7⟩ := f_S_text (E := E) (d := d) (b := drB E) (s := drS E) (ru := ru) (H := X2) (a := drA E) (t := fun _ => 0) a2 (Nat.le_refl _) (jL_R a3) dr_kNm
  rw [a4] at b1
  obtain ⟨-, s2, v, m, f, -, -, -, s3, s4, -, -, -, s5, s6, s7⟩ := id b2
  have hlt : ∀ r, jU (drP E).1.length (drP E).2.length (drN E) r → ad r < X2.2.1 := fun r hr => j_lt a2 hr
  refine ⟨ad, ro, ru, X2.2.1, X2.2.1, _, X3, cb, sl, a1, xc_of (show (jH ad ro (drB E) (drS E) (drP E).1.length (drP E).2.length (drN E) ru X2 (drA E) (fun _ => 0)).1 X.2.1 = _ from by rw [← a4]; exact j_1 a2), b1, b2, fun n hn => ?_, ⟨a2, a9, a4, Nat.le_refl _⟩, fun r hr => ?_, fun c hc => ?_, b7, by omega, by omega, by omega⟩
  · rw [b3 n (by omega)]
    show (if ro n = 0 then X2.1 n else _) = _
    rw [if_pos (a9 n hn), a8 n (Nat.lt_succ_of_lt hn) (by omega), xnew_g, if_neg (by omega)]
  · rw [b3 _ (hlt r hr)]
    exact hC r hr
  · obtain ⟨p, l, h, g1, g2, g3, g4, g5⟩ := a3 c hc
    exact ⟨p, l, h, g1, ruH_fr g2 (fun a ha1 ha2 => (b3 a (by omega)).trans (if_pos (g5 a ha1 ha2))) (Nat.le_refl _) (Nat.le_refl _), g3, g4, g5⟩
end BUILD
section TOT
variable {E : xE} {d : Nat} {Q : xR → Prop} {H X : xH} {p v n m q i lo cb sl : Nat} {L : List Nat} {f g : Nat → Int32}
theorem sb_toT (hs : sbAt lo cb sl H p L) (hl : L.length ≤ 50000) : ∃ X g, (∀ Q, xcall E xprog (d + 6) 151 [.ref p] H Q = Q (.inl (some (.ref H.2.1)), X)) ∧ X.1 H.2.1 = stF (H.2.1 + 1) ∧ X.1 (H.2.1 + 1) = xarB L.length g ∧ byL g L ∧ X.2.1 = H.2.1 + 2 ∧ X.2.2 = H.2.2 + 4 + L.length ∧ ∀ a, a < H.2.1 → X.1 a = H.1 a := by
  obtain ⟨h1, h2, v, m, f, h3, h4, h5, h6, h7, h8, h9, h10, h11, h12, h13⟩ := hs
  have hq : ∀ {c : Nat} {C : xC}, c < H.2.1 → (xnew H C 4).1 c = H.1 c := fun hc => by rw [xnew_g, if_neg (by omega)]
  have hn0 : (xnew H (.inr (12, xdef 12)) 4).1 H.2.1 = .inr (12, [.null, .int 0, .int 0, .int 0]) := by rw [xnew_g, if_pos rfl]; rfl
  have hp2 : (xnew H (.inr (12, xdef 12)) 4).1 p = sbF v L.length := (hq h2).trans h6
  have hv2 : (xnew H (.inr (12, xdef 12)) 4).1 v = xarB m f := (hq h4).trans h7
  have hq0 : xset (xnew H (.inr (12, xdef 12)) 4) H.2.1 (.inr (12, [.null, .int 0, .int 0, .int 0])) = xnew H (.inr (12, xdef 12)) 4 := by
    refine Prod.ext (funext fun a => ?_) rfl
    show (if a = H.2.1 then _ else if a = H.2.1 then _ else _) = if a = H.2.1 then _ else _
    split <;> rfl
  obtain ⟨g, c1, c2, c3⟩ := f_JA_copyR (E := E) (d := d) (n := L.length) hv2 h8 h10 (by omega) (by show v < H.2.1 + 1; omega)
  have hn1 : (xnew (xnew H (.inr (12, xdef 12)) 4) (xarB L.length g) L.length).1 H.2.1 = .inr (12, [.null, .int 0, .int 0, .int 0]) := by
    rw [xnew_g, if_neg (by show ¬ H.2.1 = H.2.1 + 1; omega)]; exact hn0
  have hl1 := fun (Q : xR → Prop) => f_SB_length (E := E) (d := d + 1) (Q := Q) hp2
  have hl2 := fun (Q : xR → Prop) => f_AB_isLatin1 (E := E) (d := d + 2) (Q := Q) hp2
  refine ⟨xset (xnew (xnew H (.inr (12, xdef 12)) 4) (xarB L.length g) L.length) H.2.1 (stF (H.2.1 + 1)), g, fun Q => ?_, xset_s _ rfl, ?_, fun j hj => (c3 j hj).trans (h9 j hj), rfl, rfl, fun a ha => ?_⟩
  · rw [e_SB_toString]
    simp only [s_SB_toString_0, s_SB_toString_3, s_SB_toString_4, s_SB_toString_5, s_SB_toString_8, e_JS_init, s_JS_init_0, s_JS_init_1, s_JS_init_2, s_JS_init_3, s_JS_init_6, e_JS_initA, s_JS_initA_0, s_JS_initA_1, s_JS_initA_4, s_JS_initA_5, s_JS_initA_8, s_JS_initA_9, s_JS_initA_10, s_JS_initA_13, s_JS_initA_15, s_JS_initA_16, s_JS_initA_19, s_JS_initA_22, s_JS_initA_23, s_JS_initA_24, s_JS_initA_27, s_JS_initA_28, s_JS_initA_29, s_JS_initA_30, s_JS_initA_32, s_JS_initA_35, s_JS_initA_38, s_JS_initA_41, s_JS_initA_44, s_JS_initA_47, s_JS_initA_48, s_JS_initA_51, s_JS_initA_54, s_JS_initA_55, s_JS_initA_56, s_JS_initA_57, s_JS_initA_79, s_JS_initA_80, s_JS_initA_81, s_JS_initA_84, s_JS_initA_85, s_JS_initA_86, s_JS_initA_87, s_JS_initA_89, s_JS_initA_90, s_JS_initA_91, s_JS_initA_94, s_JS_initA_97, e_AB_getValue, s_AB_getValue_0, s_AB_getValue_1, s_AB_getValue_4, not_false_eq_true, Nat.reduceLT, Nat.reduceAdd, true_and, and_true, if_true, if_false, ite_true, ite_false, xnb_0, xnb_1, xnb_b, xk_v, xk_n, xf_of hp2, xc_of hp2, xf_of hn0, xf_of hn1, xll_11, xlg_11_0, xlg_11_1, xlg_11_2, xlg_11_3, xll_12, xlg_12_0, xlg_12_1, xlg_12_2, xlg_12_3, xls_12_0, xls_12_1, xls_12_2, xls_12_3, hl1, hl2, k1_0, hq0, c1]
    rfl
  · rw [xset_o _ (by omega)]; exact if_pos rfl
  · rw [xset_o _ (by omega), xnew_g, if_neg (by show ¬ a = H.2.1 + 1; omega), xnew_g, if_neg (by omega)]
end TOT
section BUILD2
variable {E : xE} {d D : Nat} {Q : xR → Prop} {H X Y Z : xH} {p q v n m i j k r l c Kb Ks : Nat} {b a : Nat → Nat → Int32} {s t : Nat → Int32} {nm : Nat → Int64} {x ep : Int32} {ad ro : Nat → Nat} {ru : Nat → Option Nat} {lo hi : Nat}
/-- whether the bay is too long -/
theorem f_L_isTooLong (hE : E.1 ≤ 260) (X : xH) (hlong : 1580 < (txt (drB_T E)).length ∨ 400 < (drB_T E).length) : ∃ Y, (∀ Q, xcall E xprog (d + 12) 172 [.retAddr 0] X Q = Q (.inl (some (.int 1)), Y)) ∧ (∀ n, n < X.2.1 → Y.1 n = X.1 n) ∧ Y.2.1 ≤ X.2.1 + 117000 ∧ Y.2.2 ≤ X.2.2 + 240000 := by
  obtain ⟨ad, ro, ru, hi, q, Z2, X3, cb, sl, a1, a2, a3, a4, a5, -, -, -, a9, -, aA, aB⟩ := mk_sim (E := E) hE d X
  have hcl : xcl X3 q = 11 := by
    obtain ⟨-, -, v, m, f, -, -, -, s3, -⟩ := id a4
    exact xc_of s3
  have e1 := fun (Q : xR → Prop) => sb_length (E := E) (d := d + 9) (Q := Q) a4
  obtain ⟨lo1, lo2, -⟩ := lnO_book (E := E) dr_bay
  have e2 := fun (Q : xR → Prop) => f_L_isOver (E := E) (d := d + 6) (Q := Q) a4 a9 (txt_128 _ lo1)
  have e3 := cnt_all (drB_T E) 0 0 0 lo1 lo2 (Or.inl rfl)
  rw [Nat.zero_add] at e3
  refine ⟨X3, fun Q => ?_, a5, aA, aB⟩
  rw [e_L_isTooLong]
  by_cases e : 1580 < (txt (drB_T E)).length
  · simp only [↓reduceIte, s_L_isTooLong_0, s_L_isTooLong_3, s_L_isTooLong_4, s_L_isTooLong_5, s_L_isTooLong_8, s_L_isTooLong_11, s_L_isTooLong_12, s_L_isTooLong_13, s_L_isTooLong_16, s_L_isTooLong_19, s_L_isTooLong_22, s_L_isTooLong_23, s_L_isTooLong_26, s_L_isTooLong_29, s_L_isTooLong_30, s_L_isTooLong_33, s_L_isTooLong_34, not_false_eq_true, Nat.reduceLT, Nat.reduceAdd, true_and, and_true, if_true, if_false, ite_true, ite_false, xnb_0, xnb_1, xnb_b, xk_v, xk_n, a1, a2, a3, hcl, e1, show ((1580 : Int32) < nI (txt (drB_T E)).length) = True from nlt (i := 1580) e (by omega)]
  · have e4 : xb (400 < cntO (txt (drB_T E)) 0 0) = 1 := by rw [e3]; exact if_pos (hlong.elim (fun q => absurd q e) id)
    rw [e4] at e2
    simp only [↓reduceIte, s_L_isTooLong_0, s_L_isTooLong_3, s_L_isTooLong_4, s_L_isTooLong_5, s_L_isTooLong_8, s_L_isTooLong_11, s_L_isTooLong_12, s_L_isTooLong_13, s_L_isTooLong_16, s_L_isTooLong_19, s_L_isTooLong_22, s_L_isTooLong_23, s_L_isTooLong_26, s_L_isTooLong_29, s_L_isTooLong_30, s_L_isTooLong_33, s_L_isTooLong_34, not_false_eq_true, Nat.reduceLT, Nat.reduceAdd, true_and, and_true, if_true, if_false, ite_true, ite_false, xnb_0, xnb_1, xnb_b, xk_v, xk_n, a1, a2, a3, hcl, e1, e2, show ((1580 : Int32) < nI (txt (drB_T E)).length) = False from nge (i := 1580) (n := (txt (drB_T E)).length) (by omega) (by omega), show ((1 : Int32) = 0) = False from eq_false (by decide)]
/-- what the class and the reckoning are when a bay has been taught -/
theorem tau_J {lo hi : Nat} (hO : jOK ad ro (drP E).1.length (drP E).2.length (drN E) lo hi) (hT : tauF E (drC E) (drR E) (drKx E) (drKy E) (drKz E) (drUx E) (drUy E) (drX E) (drY E) (drZ E) (drP E).1.length (drP E).2.length (drN E) b s a) (hC : ∀ r, jU (drP E).1.length (drP E).2.length (drN E) r → Y.1 (ad r) = jC ad (drB E) (drS E) (drP E).1.length (drP E).2.length (drN E) ru (drA E) (fun _ => 0) r) : Y = jH ad ro b s (drP E).1.length (drP E).2.length (drN E) ru Y a (tri 0 0 0) := by
  obtain ⟨t1, t2, t3, t4, t5, t6, t7, t8, t9⟩ := hT
  refine (jH_of hO hC).symm.trans (jH_congr hO t1 t2 ⟨rfl, rfl, rfl⟩ (fun k hk => ?_) (fun k hk => ?_) (fun c hc => ?_)).symm
  · obtain ⟨g1, g2, g3⟩ := t5 k hk
    obtain ⟨g4, g5⟩ := t8 k hk
    exact ⟨g1, g2, g3, g4, g5⟩
  · exact t6 k hk
  · obtain ⟨g1, g2, g3⟩ := t7 c hc
    obtain ⟨h3, h4, h5, h6, h7, h8⟩ := t9 c hc
    refine ⟨g1, g2, g3, fun j j1 j2 => ?_⟩
    rcases (show j = 3 ∨ j = 4 ∨ j = 5 ∨ j = 6 ∨ j = 7 ∨ j = 8 by omega) with e | e | e | e | e | e <;> subst e
    · exact h3.trans g1
    · exact h4.trans g2
    · exact h5
    · exact h6
    · exact h7
    · exact h8
theorem tau_S {lo hi : Nat} (hO : jOK ad ro (drP E).1.length (drP E).2.length (drN E) lo hi) (hlo : 63 ≤ lo) (hz : ∀ n, n < lo → ro n = 0) (hT : tauF E (drC E) (drR E) (drKx E) (drKy E) (drKz E) (drUx E) (drUy E) (drX E) (drY E) (drZ E) (drP E).1.length (drP E).2.length (drN E) b s a) : jS E ad ro (drP E).1.length (drP E).2.length (drN E) lo hi b s (rsm E (drN E)) (rsm E) (fun c => rsm E (c + 1)) (drC E) (drR E) ∧ (∀ w f, w ≤ 3 → f ≤ 3 → kSt a (tri (nI w) (nI f) 0) (drC E) (drR E) (drP E).1.length (drN E) 0) ∧ kWy a (drN E) := by
  obtain ⟨t1, t2, t3, t4, t5, t6, t7, t8, t9⟩ := hT
  obtain ⟨o1, o2, o3, o4, o5, o6, o7, o8, o9, oA, oB⟩ := dr_bay (E := E)
  have n1 := drN_b (E := E)
  refine ⟨⟨hO, hlo, hz, ⟨t1, t2, o1.2, o2.2, o3, fun k hk => ?_, fun c hc => ?_⟩, t3, t4, n1.1, fun i j hij hj => ?_, fun i j hi hj => ?_⟩, fun w f hw hf => ⟨fun k hk => ⟨0, by omega, (t8 k hk).1⟩, fun c hc => ?_, ⟨w, f, hw, hf, rfl, rfl⟩⟩, fun c hc => ⟨0, by omega, (t9 c hc).2.2.2.1⟩⟩
  · obtain ⟨g1, g2, g3⟩ := t5 k hk
    have := o6 k hk
    exact ⟨_, _, _, this.1, this.2.1, this.2.2.2, g1, g2, g3⟩
  · have := o8 c hc
    exact ⟨_, this.2.2.1, this.2.2.2, (t7 c hc).2.2⟩
  · obtain ⟨g1, g2, g3⟩ := t5 i (by omega)
    obtain ⟨k1, k2, k3⟩ := t5 j hj
    have q1 := o6 i (by omega)
    have q2 := o6 j hj
    rw [g1, g2, k1, k2]
    exact fun q => o9 i j hij hj ⟨nI_inj (by omega) (by omega) q.1, nI_inj (by omega) (by omega) q.2⟩
  · obtain ⟨g1, g2, g3⟩ := t5 i hi
    obtain ⟨k1, k2⟩ := t6 j hj
    have q1 := o6 i hi
    have q2 := o7 j hj
    rw [g1, g2, k1, k2]
    exact fun q => oA i j hi hj ⟨nI_inj (by omega) (by omega) q.1, nI_inj (by omega) (by omega) q.2⟩
  · obtain ⟨g1, g2, g3⟩ := t7 c hc
    obtain ⟨h3, h4, h5, h6, h7, h8⟩ := t9 c hc
    have := o8 c hc
    exact ⟨drX E c, drY E c, 0, 0, this.1, this.2.1, by omega, by omega, h3.trans g1, h4.trans g2, h5, h7⟩
/-- what the law's bay is built as -/
theorem f_L_build (hE : E.1 ≤ 260) (hI : ivC X 10 25 0 (-1) (fun _ => 0) (fun _ _ => 0) (fun _ => 0) (six 6 6 0 0 0 0) (fun _ _ => 0) (tri 0 0 0)) (h63 : 63 ≤ X.2.1) :
    (∃ Z ep nm, (∀ Q, xcall E xprog (d + 156) 171 [.ref 0, .retAddr 0] X Q = Q (.inl (some .null), Z)) ∧ (1580 < (txt (drB_T E)).length ∨ 400 < (drB_T E).length) ∧ cls Z 10 25 ep (fun _ _ => 0) nm (six 6 6 0 0 0 0) (fun _ _ => 0) (tri 0 0 0) ∧ 63 ≤ Z.2.1 ∧ Z.2.1 ≤ X.2.1 + 118000 ∧ Z.2.2 ≤ X.2.2 + 250000) ∨
    ∃ Z ad ro ru lo hi ep b nm s a t, (∀ Q, xcall E xprog (d + 156) 171 [.ref 0, .retAddr 0] X Q = Q (.inl (some (.ref (ad 1))), jH ad ro b s (drP E).1.length (drP E).2.length (drN E) ru Z a t)) ∧ jS E ad ro (drP E).1.length (drP E).2.length (drN E) lo hi b s (rsm E (drN E)) (rsm E) (fun c => rsm E (c + 1)) (drC E) (drR E) ∧ jI E ro ru (drP E).1.length (drN E) lo hi 25 10 ep b nm s (drC E) (drR E) 0 Z a t ∧ kWy a (drN E) ∧ Z.2.1 ≤ X.2.1 + 118000 ∧ Z.2.2 ≤ X.2.2 + 250000 := by
  obtain ⟨ad, ro, ru, hi, q, Z2, X3, cb, sl, a1, a2, a3, a4, a5, ⟨aO, az, a11, ahi⟩, aC, aL, a9, aq, aA, aB⟩ := mk_sim (E := E) hE (d + 144) X
  have hcl : xcl X3 q = 11 := by
    obtain ⟨-, -, v, m, f, -, -, -, s3, -⟩ := id a4
    exact xc_of s3
  have e1 := fun (Q : xR → Prop) => sb_length (E := E) (d := d + 153) (Q := Q) a4
  have a1' : ∀ Q, xcall E xprog (d + 155) 111 [.ref X.2.1, .retAddr 0] (xnew X (.inr (10, xdef 10)) 9) Q = Q (.inl none, Z2) := a1
  have a3' : ∀ Q, xcall E xprog (d + 155) 112 [.ref X.2.1] Z2 Q = Q (.inl (some (.ref q)), X3) := a3
  have q3 : q < X3.2.1 := a4.2.1
  by_cases e : 1580 < (txt (drB_T E)).length
  · left
    obtain ⟨c0, -, -, hB, -, hY, hT, -⟩ := id hI
    refine ⟨X3, -1, fun _ => 0, fun Q => ?_, Or.inl e, cls_eq ⟨c0, by omega, hB, hY, hT⟩ fun n hn => a5 n (by omega), by omega, by omega, by omega⟩
    rw [e_L_build]
    simp only [↓reduceIte, s_L_build_0, s_L_build_3, s_L_build_4, s_L_build_5, s_L_build_8, s_L_build_9, s_L_build_10, s_L_build_13, s_L_build_14, s_L_build_15, s_L_build_18, s_L_build_21, s_L_build_24, s_L_build_25, s_L_build_26, s_L_build_29, s_L_build_32, s_L_build_35, s_L_build_36, not_false_eq_true, Nat.reduceLT, Nat.reduceAdd, true_and, and_true, if_true, if_false, ite_true, ite_false, xnb_0, xnb_1, xnb_b, xk_v, xk_n, a1', a2, a3', hcl, e1, show ((1580 : Int32) < nI (txt (drB_T E)).length) = True from nlt (i := 1580) e (by omega)]
  obtain ⟨X4, tf, b1, h2, h3, h4, b3, b4, b5⟩ := sb_toT (E := E) (d := d + 149) a4 a9
  have x4 : ∀ n, n < X.2.1 → X4.1 n = X.1 n := fun n hn => (b5 n (by omega)).trans (a5 n hn)
  have hI4 := ivC_eq hI (X' := X4) fun n hn => x4 n (by omega)
  obtain ⟨Y, v, y1, y2, y3, y4, y5, y6⟩ := f_L_say (E := E) (d := d) dr_bay hI4 h2 h3 h4 (Nat.le_of_not_lt e) (by omega) (by omega) (by omega) (by omega)
  have b4' : X4.2.2 ≤ X3.2.2 + 4 + 1580 := by rw [b4]; have := Nat.le_of_not_lt e; omega
  have st : ∀ Q, xcall E xprog (d + 156) 171 [.ref 0, .retAddr 0] X Q = if v = 0 then xr E (d + 155) m_L_build Q (37, [some (.ref 0), some (.retAddr 0), some (.ref X.2.1), some (.ref q)], [], Y) else Q (.inl (some .null), Y) := fun Q => by
    rw [e_L_build]
    simp only [↓reduceIte, s_L_build_0, s_L_build_3, s_L_build_4, s_L_build_5, s_L_build_8, s_L_build_9, s_L_build_10, s_L_build_13, s_L_build_14, s_L_build_15, s_L_build_18, s_L_build_21, s_L_build_24, s_L_build_25, s_L_build_26, s_L_build_29, s_L_build_32, s_L_build_35, s_L_build_36, not_false_eq_true, Nat.reduceLT, Nat.reduceAdd, true_and, and_true, if_true, if_false, ite_true, ite_false, xnb_0, xnb_1, xnb_b, xk_v, xk_n, a1', a2, a3', hcl, e1, show ((1580 : Int32) < nI (txt (drB_T E)).length) = False from nge (i := 1580) (n := (txt (drB_T E)).length) (Nat.le_of_not_lt e) (by omega), b1, y1]
  rcases y6 with ⟨v0, e4, ep, b, nm, s, a, k1, k2⟩ | ⟨v0, e4, ep, nm, k1⟩
  · right
    have hCY : ∀ r, jU (drP E).1.length (drP E).2.length (drN E) r → Y.1 (ad r) = jC ad (drB E) (drS E) (drP E).1.length (drP E).2.length (drN E) ru (drA E) (fun _ => 0) r := fun r hr => by
      have l1 := aO.2.2.2.2 (ad r) (by rw [aO.2.2.2.1 r hr]; unfold jU at hr; omega)
      rw [y2 _ (by omega) (by omega), b5 _ (by omega)]
      exact aC r hr
    have hY := tau_J aO k2 hCY
    obtain ⟨g1, g2, g3⟩ := tau_S aO h63 az k2
    have hL : jL E ro ru (drN E) X.2.1 hi Y := jL_fr aL fun n h1 h2 => (y2 n (by omega) (by omega)).trans (b5 n (by omega))
    have l1 := bel_lt (v := cel E 4) (n := 4) (by omega)
    have l2 := bel_lt (v := cel E 5) (n := 3) (by omega)
    have c4 : ∀ (Z : xH) (Q : xR → Prop), xcall E xprog (d + 155) 168 [.retAddr 0, .int 4] Z Q = Q (.inl (some (.int (cel E 4))), Z) := fun Z Q => f_L_cell (k := 4) hE (by omega)
    have c5 : ∀ (Z : xH) (Q : xR → Prop), xcall E xprog (d + 155) 168 [.retAddr 0, .int 5] Z Q = Q (.inl (some (.int (cel E 5))), Z) := fun Z Q => f_L_cell (k := 5) hE (by omega)
    have d4 : ∀ (Z : xH) (Q : xR → Prop), xcall E xprog (d + 155) 167 [.int (cel E 4), .int 4] Z Q = Q (.inl (some (.int (nI (bel (cel E 4) 4)))), Z) := fun Z Q => f_L_below _ (n := 4) (by omega) (by omega)
    have d5 : ∀ (Z : xH) (Q : xR → Prop), xcall E xprog (d + 155) 167 [.int (cel E 5), .int 3] Z Q = Q (.inl (some (.int (nI (bel (cel E 5) 3)))), Z) := fun Z Q => f_L_below _ (n := 3) (by omega) (by omega)
    generalize bel (cel E 4) 4 = w at d4 l1
    generalize bel (cel E 5) 3 = f at d5 l2
    have s5 : (1 : Int32) + nI f = nI (1 + f) := nI_ad 1 f
    have hz := jS_z g1
    obtain ⟨Z, z1, z2, z3, z4⟩ := jc_wind (E := E) (d := d + 153) (ad := ad) (nk := (drP E).1.length) (nc := (drP E).2.length) (nn := drN E) (ru := ru) (r := nI w) (f := nI (1 + f)) (a2 := a) (t2 := tri (nI w) (nI (1 + f)) 0) (b2 := b) (s2 := s) k1 hz (fun q => q.elim (fun e => by rw [nI_n0 w (by omega)] at e; exact e) (fun e => e (by rw [show (nI w < (4 : Int32)) = True from nlt (n := 4) l1 (by omega)]; trivial))) (fun q => q.elim (fun e => by rw [nI_n0 (1 + f) (by omega)] at e; exact e) (fun e => by rw [show ((3 : Int32) < nI (1 + f)) = False from nge (i := 3) (n := 1 + f) (by omega) (by omega)] at e; exact e))
    have u0 : xfls (jH ad ro b s (drP E).1.length (drP E).2.length (drN E) ru Y a (tri 0 0 0)) (ad 1) 10 = [.int (s 0), .int (s 1), .int 0, .int 0, .int 0, .ref (ad 2), .ref (ad 3), .ref (ad 4), .ref (ad 5)] := xf_of (j_1 aO)
    have u1 : xfls (jH ad ro b s (drP E).1.length (drP E).2.length (drN E) ru Y a (tri (nI w) 0 0)) (ad 1) 10 = [.int (s 0), .int (s 1), .int 0, .int (nI w), .int 0, .ref (ad 2), .ref (ad 3), .ref (ad 4), .ref (ad 5)] := xf_of (j_1 aO)
    have u2 : xfls (jH ad ro b s (drP E).1.length (drP E).2.length (drN E) ru Y a (tri (nI w) (nI (1 + f)) 0)) (ad 1) 10 = [.int (s 0), .int (s 1), .int 0, .int (nI w), .int (nI (1 + f)), .ref (ad 2), .ref (ad 3), .ref (ad 4), .ref (ad 5)] := xf_of (j_1 aO)
    have w1 : xset (jH ad ro b s (drP E).1.length (drP E).2.length (drN E) ru Y a (tri 0 0 0)) (ad 1) (.inr (10, [.int (s 0), .int (s 1), .int 0, .int (nI w), .int 0, .ref (ad 2), .ref (ad 3), .ref (ad 4), .ref (ad 5)])) = jH ad ro b s (drP E).1.length (drP E).2.length (drN E) ru Y a (tri (nI w) 0 0) := jw_s (b := b) (s := s) (ru := ru) (H := Y) (a := a) (t := tri 0 0 0) (t' := tri (nI w) 0 0) aO
    have w2 : xset (jH ad ro b s (drP E).1.length (drP E).2.length (drN E) ru Y a (tri (nI w) 0 0)) (ad 1) (.inr (10, [.int (s 0), .int (s 1), .int 0, .int (nI w), .int (nI (1 + f)), .ref (ad 2), .ref (ad 3), .ref (ad 4), .ref (ad 5)])) = jH ad ro b s (drP E).1.length (drP E).2.length (drN E) ru Y a (tri (nI w) (nI (1 + f)) 0) := jw_s (b := b) (s := s) (ru := ru) (H := Y) (a := a) (t := tri (nI w) 0 0) (t' := tri (nI w) (nI (1 + f)) 0) aO
    have hcl0 : xcl (jH ad ro b s (drP E).1.length (drP E).2.length (drN E) ru Y a (tri (nI w) (nI (1 + f)) 0)) 0 = 8 := xc_of (cls_J (ad := ad) (nk := (drP E).1.length) (nc := (drP E).2.length) (nn := drN E) (ru := ru) (a2 := a) (t2 := tri (nI w) (nI (1 + f)) 0) (b2 := b) (s2 := s) k1 hz).1
    have hiY : hi ≤ Y.2.1 := by omega
    have hI5 : jI E ro ru (drP E).1.length (drN E) X.2.1 hi 25 10 ep b nm s (drC E) (drR E) 0 Z a (tri (nI w) (nI (1 + f)) 0) := ⟨z2, jL_fr hL fun n h1 _ => z4 n (by omega), by rw [z3]; exact hiY, g2 w (1 + f) (by omega) (by omega)⟩
    have z31 : Z.2.1 = Y.2.1 := by rw [z3]
    have z32 : Z.2.2 = Y.2.2 := by rw [z3]
    refine ⟨Z, ad, ro, ru, X.2.1, hi, ep, b, nm, s, a, tri (nI w) (nI (1 + f)) 0, fun Q => ?_, g1, hI5, g3, by omega, by omega⟩
    rw [st, if_pos v0, ← a11, hY]
    have t10 : tri 0 0 0 1 = (0 : Int32) := rfl
    simp only [↓reduceIte, s_L_build_37, s_L_build_38, s_L_build_39, s_L_build_40, s_L_build_43, s_L_build_44, s_L_build_47, s_L_build_50, s_L_build_51, s_L_build_52, s_L_build_53, s_L_build_54, s_L_build_57, s_L_build_58, s_L_build_61, s_L_build_62, s_L_build_65, s_L_build_66, s_L_build_67, s_L_build_70, s_L_build_71, s_L_build_74, s_L_build_77, s_L_build_80, s_L_build_81, s_L_build_84, s_L_build_85, not_false_eq_true, Nat.reduceLT, Nat.reduceAdd, true_and, and_true, if_true, if_false, ite_true, ite_false, xnb_0, xnb_1, xnb_b, xk_v, xk_n, u0, u1, u2, w1, w2, xll_10, xlg_10_0, xlg_10_1, xlg_10_2, xlg_10_3, xlg_10_4, xlg_10_5, xlg_10_6, xlg_10_7, xlg_10_8, xls_10_0, xls_10_1, xls_10_2, xls_10_3, xls_10_4, xls_10_5, xls_10_6, xls_10_7, xls_10_8, c4, c5, d4, d5, s5, hcl0, z1, t10, xisr]
  · left
    refine ⟨Y, ep, nm, fun Q => ?_, Or.inr e4, k1, by omega, by omega, by omega⟩
    rw [st, if_neg v0]
end BUILD2
