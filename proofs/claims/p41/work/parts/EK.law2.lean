/-! ===== the law: what clippers are ahead of an hour ===== -/
section LAW2
variable {E : xE} {d D : Nat} {Q : xR → Prop} {H H' W X Z : xH} {ad ro : Nat → Nat} {b a a' a2 : Nat → Nat → Int32} {s t t' t2 ms sk : Nat → Int32} {nk nc nn lo hi co rw' n cnt Kb Ks c i j q1 q2 q3 : Nat} {ru : Nat → Option Nat} {nm : Nat → Int64} {rs re : Nat → Nat} {ep h : Int32} {x y v z w v4 v5 v6 v9 v10 v11 v12 v13 : Int32} {u3 u4 u5 u6 u7 u8 u9 u10 u11 u12 u13 u14 u15 u16 u17 u18 u19 u20 u21 u22 : Option Value}
variable {st k : Nat}
/-- what is noted of a clipper -/
def wasQ (a : Nat → Nat → Int32) (t : Nat → Int32) (c : Nat) : Nat → Int32 := fun i => if i = 0 then a 3 c else if i = 1 then a 4 c else if i = 2 then a 5 c else if i = 3 then a 6 c else if i = 4 then a 7 c else if i = 5 then a 8 c else if i = 6 then spdC a t c else 0
theorem wasQ_is (v0 v1 v2 v3 v4 v5 v6 : Int32) : upd (upd (upd (upd (upd (upd (upd (fun _ => (0 : Int32)) 0 v0) 1 v1) 2 v2) 3 v3) 4 v4) 5 v5) 6 v6 = fun i => if i = 0 then v0 else if i = 1 then v1 else if i = 2 then v2 else if i = 3 then v3 else if i = 4 then v4 else if i = 5 then v5 else if i = 6 then v6 else 0 := by
  funext j
  unfold upd
  by_cases e0 : j = 0
  · subst e0; rfl
  by_cases e1 : j = 1
  · subst e1; rfl
  by_cases e2 : j = 2
  · subst e2; rfl
  by_cases e3 : j = 3
  · subst e3; rfl
  by_cases e4 : j = 4
  · subst e4; rfl
  by_cases e5 : j = 5
  · subst e5; rfl
  simp only [if_neg e0, if_neg e1, if_neg e2, if_neg e3, if_neg e4, if_neg e5]
theorem wsq_0 : wasQ a t c 0 = a 3 c := rfl
theorem wsq_1 : wasQ a t c 1 = a 4 c := rfl
theorem wsq_2 : wasQ a t c 2 = a 5 c := rfl
theorem wsq_3 : wasQ a t c 3 = a 6 c := rfl
theorem wsq_4 : wasQ a t c 4 = a 7 c := rfl
theorem wsq_5 : wasQ a t c 5 = a 8 c := rfl
theorem wsq_6 : wasQ a t c 6 = spdC a t c := rfl
theorem v7_0 : vp_in 0 7 = True := nvp (i := 0) (by omega) (by omega)
theorem v7_1 : vp_in 1 7 = True := nvp (i := 1) (by omega) (by omega)
theorem v7_2 : vp_in 2 7 = True := nvp (i := 2) (by omega) (by omega)
theorem v7_3 : vp_in 3 7 = True := nvp (i := 3) (by omega) (by omega)
theorem v7_4 : vp_in 4 7 = True := nvp (i := 4) (by omega) (by omega)
theorem v7_5 : vp_in 5 7 = True := nvp (i := 5) (by omega) (by omega)
theorem v7_6 : vp_in 6 7 = True := nvp (i := 6) (by omega) (by omega)
theorem va_s' {f : Nat → Option Nat} {i : Nat} {v : Option Nat} : va_up f i v i = v := if_pos rfl
/-- what has been noted of clippers -/
def waN (W : xH) (q3 nn : Nat) (a : Nat → Nat → Int32) (t : Nat → Int32) (c : Nat) : Prop := ∃ g, W.1 q3 = xarA nn g ∧ ∀ j, j < c → ∃ r, g j = some r ∧ q3 < r ∧ r < W.2.1 ∧ W.1 r = xarI 7 (wasQ a t j)
theorem lw_3a (hS : jS E ad ro nk nc nn lo hi b s cnt rs re co rw') (hI : jI E ro ru nk nn lo hi Kb Ks ep b nm s co rw' n W a t) (hN : ktN W q1 q2 nk a nk) (hq1 : q1 < W.2.1) (hq2 : q2 < W.2.1) : ∃ X, (∀ Q, xr E (d + 156) m_L_law Q (258, [some (.retAddr 0), some (.ref 0), some (.ref (ad 1)), some (.int (nI i)), some (.int (v4)), some (.int (nI nn)), some (.int (nI st)), some (.ref (q1)), some (.ref (q2)), some (.int (v9)), u10, u11, u12, u13, u14, u15, u16, u17, u18, u19, u20, u21, u22], [], (jH ad ro b s nk nc nn ru W a t)) = xr E (d + 156) m_L_law Q (268, [some (.retAddr 0), some (.ref 0), some (.ref (ad 1)), some (.int (nI i)), some (.int (v4)), some (.int (nI nn)), some (.int (nI st)), some (.ref (q1)), some (.ref (q2)), some (.ref (W.2.1)), some (.int (nI 0)), u11, u12, u13, u14, u15, u16, u17, u18, u19, u20, u21, u22], [], (jH ad ro b s nk nc nn ru X a t))) ∧ jI E ro ru nk nn lo hi Kb Ks ep b nm s co rw' n X a t ∧ ktN X q1 q2 nk a nk ∧ waN X W.2.1 nn a t 0 ∧ X.2.1 = W.2.1 + 1 ∧ X.2.2 ≤ W.2.2 + 6 := by
  obtain ⟨hj, hlo, -, hB, hW, hR, hn1, -⟩ := id hS
  have h6 := hj.2.2.1
  obtain ⟨f, g, f1, g1, fg⟩ := hN
  refine ⟨xnew W (xarA nn (fun _ => none)) nn, fun Q => ?_, jI_up hS hI (fun n hn => by rw [xnew_g, if_neg (by omega)]) (Nat.le_succ _), ⟨f, g, by rw [xnew_g, if_neg (by omega)]; exact f1, by rw [xnew_g, if_neg (by omega)]; exact g1, fg⟩, ⟨_, if_pos rfl, fun j hj => absurd hj (Nat.not_lt_zero _)⟩, rfl, ?_⟩
  · simp only [↓reduceIte, s_L_law_258, s_L_law_260, s_L_law_263, s_L_law_265, s_L_law_266, not_false_eq_true, Nat.reduceLT, Nat.reduceAdd, true_and, and_true, if_true, if_false, ite_true, ite_false, xnb_0, xnb_1, xnb_b, xk_v, xk_n, nI_n0 nn (by omega), ncl (show nn < 2147483648 by omega), show (nn * 4 ≤ 536870912) = True from eq_true (by omega), j_new hj hI.2.2.1, j_21]
    rfl
  · show W.2.2 + nn ≤ _
    omega
/-- a clipper is noted -/
theorem lw_3b (hS : jS E ad ro nk nc nn lo hi b s cnt rs re co rw') (hI : jI E ro ru nk nn lo hi Kb Ks ep b nm s co rw' n W a t) (hy : kWy a nn) (hN : ktN W q1 q2 nk a nk) (hA : waN W q3 nn a t c) (hc : c < nn) (hq1 : q1 < q3) (hq2 : q2 < q3) (hq3 : q3 < W.2.1) (hhi : hi ≤ q3) : ∃ X, (∀ Q, xr E (d + 156) m_L_law Q (268, [some (.retAddr 0), some (.ref 0), some (.ref (ad 1)), some (.int (nI i)), some (.int (v4)), some (.int (nI nn)), some (.int (nI st)), some (.ref (q1)), some (.ref (q2)), some (.ref (q3)), some (.int (nI c)), u11, u12, u13, u14, u15, u16, u17, u18, u19, u20, u21, u22], [], (jH ad ro b s nk nc nn ru W a t)) = xr E (d + 156) m_L_law Q (458, [some (.retAddr 0), some (.ref 0), some (.ref (ad 1)), some (.int (nI i)), some (.int (v4)), some (.int (nI nn)), some (.int (nI st)), some (.ref (q1)), some (.ref (q2)), some (.ref (q3)), some (.int (nI c)), some (.int (a 3 c)), some (.int (a 4 c)), some (.int (nI 0)), u14, u15, u16, u17, u18, u19, u20, u21, u22], [], (jH ad ro b s nk nc nn ru X a t))) ∧ jI E ro ru nk nn lo hi Kb Ks ep b nm s co rw' n X a t ∧ ktN X q1 q2 nk a nk ∧ waN X q3 nn a t (c + 1) ∧ X.2.1 = W.2.1 + 1 ∧ X.2.2 = W.2.2 + 7 := by
  have hz := jS_z hS
  obtain ⟨hj, hlo, hlz, hB, hW, hR, hn1, hd1, hd2⟩ := id hS
  obtain ⟨w1, w2, w3, w4, w5, w6, -⟩ := id hW
  obtain ⟨f, g, f1, g1, fg⟩ := hN
  obtain ⟨gw, a1, a2⟩ := hA
  have lohi : lo < hi := by
    have o := (hS.1.2.2.2.2 (ad 1) (by rw [hS.1.2.2.2.1 1 (Or.inl ⟨by omega, by omega⟩)]; omega)).2.2
    omega
  have hIn : ∀ C n', jI E ro ru nk nn lo hi Kb Ks ep b nm s co rw' n (xnew W C n') a t := fun C n' => jI_up hS hI (fun n hn => by rw [xnew_g, if_neg (by omega)]) (Nat.le_succ _)
  obtain ⟨W2, hW2⟩ : ∃ W2, W2 = xset (xnew W (xarI 7 (wasQ a t c)) 7) q3 (xarA nn (va_up gw c (some W.2.1))) := ⟨_, rfl⟩
  have hI2 : jI E ro ru nk nn lo hi Kb Ks ep b nm s co rw' n W2 a t := by
    have h1 := hIn (xarI 7 (wasQ a t c)) 7
    rw [hW2]
    exact ⟨cls_eq h1.1 fun n hn => (xset_o n (by omega)), jL_fr h1.2.1 fun n _ h2 => (xset_o n (by omega)), h1.2.2.1, h1.2.2.2⟩
  have e1 : xset (jH ad ro b s nk nc nn ru (xnew W (xarI 7 (wasQ a t c)) 7) a t) q3 (xarA nn (va_up gw c (some W.2.1))) = (jH ad ro b s nk nc nn ru W2 a t) := by rw [j_set hj hhi, hW2]
  have m1 : W2.1 q3 = xarA nn (va_up gw c (some W.2.1)) := by rw [hW2]; exact xset_s _ rfl
  have m2 : W2.1 W.2.1 = xarI 7 (wasQ a t c) := by rw [hW2, xset_o _ (by omega)]; exact if_pos rfl
  have m3 : ∀ n, n < W.2.1 → ¬ n = q3 → W2.1 n = W.1 n := fun n h1 h2 => by rw [hW2, xset_o _ h2, xnew_g, if_neg (by omega)]
  have m4 : W2.2.1 = W.2.1 + 1 := by rw [hW2]; rfl
  have m5 : W2.2.2 = W.2.2 + 7 := by rw [hW2]; rfl
  clear hW2
  obtain ⟨z1, -, z3, z4, -⟩ := cls_J (ad := ad) (nk := nk) (nc := nc) (nn := nn) (ru := ru) (a2 := a) (t2 := t) (b2 := b) (s2 := s) hI.1 hz
  obtain ⟨x1, -, x3, x4, -⟩ := cls_J (ad := ad) (nk := nk) (nc := nc) (nn := nn) (ru := ru) (a2 := a) (t2 := t) (b2 := b) (s2 := s) hI2.1 hz
  have clN := fun (C : xC) => cls_J (ad := ad) (nk := nk) (nc := nc) (nn := nn) (ru := ru) (a2 := a) (t2 := t) (b2 := b) (s2 := s) (hIn C 7).1 hz
  have p1 := (j_out (b := b) (s := s) (ru := ru) (H := W) (a := a) (t := t) hj hhi).trans a1
  have p3 := (j_out (b := b) (s := s) (ru := ru) (H := W2) (a := a) (t := t) hj hhi).trans m1
  have p4 := (j_out (b := b) (s := s) (ru := ru) (H := W2) (a := a) (t := t) hj (show hi ≤ W.2.1 by omega)).trans m2
  have pN : ∀ F, (jH ad ro b s nk nc nn ru (xnew W (xarI 7 F) 7) a t).1 q3 = xarA nn gw := fun F => (j_out (b := b) (s := s) (ru := ru) (H := xnew W (xarI 7 F) 7) (a := a) (t := t) hj hhi).trans (by rw [xnew_g, if_neg (by omega)]; exact a1)
  have c1 : xcl (jH ad ro b s nk nc nn ru W a t) 0 = 8 := xc_of z1
  have c2 : ∀ C, xcl (jH ad ro b s nk nc nn ru (xnew W C 7) a t) 0 = 8 := fun C => xc_of (clN C).1
  have c3 : xcl (jH ad ro b s nk nc nn ru W2 a t) 0 = 8 := xc_of x1
  have g1' := fun (Q : xR → Prop) => c_T_columnOf_i (E := E) (d := d + 154) (Q := Q) z1 z3 z4 w5 w6 hc
  have g2' := fun (Q : xR → Prop) => c_T_rowOf_i (E := E) (d := d + 154) (Q := Q) z1 z3 z4 w5 w6 hc
  have g3 := fun (C : xC) (Q : xR → Prop) => c_T_leafOf_i (E := E) (d := d + 154) (Q := Q) (clN C).1 (clN C).2.2.1 (clN C).2.2.2.1 w5 w6 hc
  have g4 := fun (C : xC) (Q : xR → Prop) => c_T_wayOf_i (E := E) (d := d + 154) (Q := Q) (clN C).1 (clN C).2.2.1 (clN C).2.2.2.1 w5 w6 hc
  have g5 := fun (C : xC) (Q : xR → Prop) => c_T_pointsOf_i (E := E) (d := d + 154) (Q := Q) (clN C).1 (clN C).2.2.1 (clN C).2.2.2.1 w5 w6 hc
  have g6 := fun (C : xC) (Q : xR → Prop) => c_T_sipsOf_i (E := E) (d := d + 154) (Q := Q) (clN C).1 (clN C).2.2.1 (clN C).2.2.2.1 w5 w6 hc
  have g7 := fun (C : xC) (Q : xR → Prop) => c_T_speedOf_i (E := E) (d := d + 153) (Q := Q) (clN C).1 (clN C).2.2.1 (clN C).2.2.2.1 w5 w6 hc
  have g8 := fun (Q : xR → Prop) => c_T_columns (E := E) (d := d + 155) (Q := Q) x1 x3
  have g9 := fun (Q : xR → Prop) => c_T_rows (E := E) (d := d + 155) (Q := Q) x1 x3
  obtain ⟨px, py, l, pp, h1, h2, h3, h4, h5, h6, h7, h8⟩ := hI.2.2.2.2.1 c hc
  obtain ⟨w, w9, wv⟩ := hy c hc
  obtain ⟨v, va, vb, vv⟩ := spd_b hI.2.2.2 hc
  have co12 := hB.2.2.1
  have ro12 := hB.2.2.2.1
  have k1 : (a 3 c < 0) = False := by rw [h5]; exact nI_n0 px (by omega)
  have k2 : (a 4 c < 0) = False := by rw [h6]; exact nI_n0 py (by omega)
  have k3 : (a 3 c < s 0) = True := by rw [h5, hB.1]; exact nlt h1 (by omega)
  have k4 : (a 4 c < s 1) = True := by rw [h6, hB.2.1]; exact nlt h2 (by omega)
  have k5 : (a 5 c < 0) = False := by rw [h7]; exact nI_n0 l (by omega)
  have k6 : ((30 : Int32) < a 5 c) = False := by rw [h7]; exact nge (i := 30) (n := l) h3 (by omega)
  have k7 : (a 6 c < 0) = False := by rw [wv]; exact nI_n0 w (by omega)
  have k8 : ((9 : Int32) < a 6 c) = False := by rw [wv]; exact nge (i := 9) (n := w) w9 (by omega)
  have k9 : (spdC a t c < 2) = False := by rw [vv]; exact nge (i := v) (n := 2) va (by omega)
  have kA : ((10 : Int32) < spdC a t c) = False := by rw [vv]; exact nge (i := 10) (n := v) vb (by omega)
  have hF : upd (upd (upd (upd (upd (upd (upd (fun _ => (0 : Int32)) 0 (a 3 c)) 1 (a 4 c)) 2 (a 5 c)) 3 (a 6 c)) 4 (a 7 c)) 5 (a 8 c)) 6 (spdC a t c) = wasQ a t c := wasQ_is _ _ _ _ _ _ _
  refine ⟨W2, fun Q => ?_, hI2, ⟨f, g, (m3 q1 (by omega) (by omega)).trans f1, (m3 q2 (by omega) (by omega)).trans g1, fg⟩, ⟨_, m1, fun j hj => ?_⟩, m4, m5⟩
  · rw [s_L_law_268]
    simp only [↓reduceIte, s_L_law_270, s_L_law_272, s_L_law_275, s_L_law_276, s_L_law_278, s_L_law_281, s_L_law_283, s_L_law_284, s_L_law_286, s_L_law_289, s_L_law_291, s_L_law_293, s_L_law_295, s_L_law_297, s_L_law_299, s_L_law_300, s_L_law_301, s_L_law_303, s_L_law_304, s_L_law_305, s_L_law_306, s_L_law_308, s_L_law_309, s_L_law_310, s_L_law_311, s_L_law_312, s_L_law_314, s_L_law_317, s_L_law_318, s_L_law_319, s_L_law_320, s_L_law_321, s_L_law_323, s_L_law_326, s_L_law_327, s_L_law_328, s_L_law_329, s_L_law_330, s_L_law_332, s_L_law_335, s_L_law_336, s_L_law_337, s_L_law_338, s_L_law_339, s_L_law_341, s_L_law_344, s_L_law_345, s_L_law_346, s_L_law_348, s_L_law_349, s_L_law_351, s_L_law_354, s_L_law_355, s_L_law_356, s_L_law_358, s_L_law_361, s_L_law_363, s_L_law_366, s_L_law_368, s_L_law_369, s_L_law_372, s_L_law_375, s_L_law_377, s_L_law_378, s_L_law_381, s_L_law_384, s_L_law_386, s_L_law_388, s_L_law_389, s_L_law_390, s_L_law_391, s_L_law_394, s_L_law_396, s_L_law_398, s_L_law_399, s_L_law_400, s_L_law_401, s_L_law_403, s_L_law_406, s_L_law_408, s_L_law_410, s_L_law_411, s_L_law_412, s_L_law_413, s_L_law_416, s_L_law_418, s_L_law_420, s_L_law_421, s_L_law_422, s_L_law_423, s_L_law_425, s_L_law_428, s_L_law_430, s_L_law_432, s_L_law_433, s_L_law_435, s_L_law_436, s_L_law_437, s_L_law_440, s_L_law_442, s_L_law_444, s_L_law_445, s_L_law_447, s_L_law_448, s_L_law_450, s_L_law_453, s_L_law_454, s_L_law_455, s_L_law_456, not_false_eq_true, Nat.reduceLT, Nat.reduceAdd, true_and, and_true, if_true, if_false, ite_true, ite_false, xnb_0, xnb_1, xnb_b, xk_v, xk_n, nlt hc (show nn < 2147483648 by omega), c1, c2, c3, g1', g2', g3, g4, g5, g6, g7, g8, g9, show ((7 : Int32) < 0) = False from eq_false (by decide), show (7 : Int32).toNatClampNeg = 7 from rfl, show (7 * 4 ≤ 536870912) = True from eq_true (by decide), j_21, j_new hj hI.2.2.1, j_nl2 hj hI.2.2.1, j_nl3 hj hI.2.2.1, j_ns hj hI.2.2.1, v7_0, v7_1, v7_2, v7_3, v7_4, v7_5, v7_6, ic_0, ic_1, ic_2, ic_3, ic_4, ic_5, ic_6, hF, (xA_of (pN (wasQ a t c))).1, (xA_of (pN (wasQ a t c))).2.1, (xA_of (pN (wasQ a t c))).2.2, nvp hc (show nn < 2147483648 by omega), ncl (show c < 2147483648 by omega), xis_I (j_nl hj hI.2.2.1), e1, (xA_of p3).1, (xA_of p3).2.1, (xA_of p3).2.2, va_s', xrf_s, xIl_of p4, xIf_of p4, wsq_2, wsq_3, wsq_6, k1, k2, k3, k4, k5, k6, k7, k8, k9, kA]
    rfl
  · by_cases e : j = c
    · subst e
      exact ⟨W.2.1, va_s', hq3, by omega, m2⟩
    · obtain ⟨r, r1, r2, r3, r4⟩ := a2 j (by omega)
      exact ⟨r, by unfold va_up; rw [if_neg e]; exact r1, r2, by omega, (m3 r r3 (by omega)).trans r4⟩
/-- whether a cell lies in the bay -/
theorem lw_is (hS : jS E ad ro nk nc nn lo hi b s cnt rs re co rw') (hI : jI E ro ru nk nn lo hi Kb Ks ep b nm s co rw' n W a t) : xr E (d + 156) m_L_law Q (515, [some (.retAddr 0), some (.ref 0), some (.ref (ad 1)), some (.int (nI i)), some (.int (v4)), some (.int (nI nn)), some (.int (nI st)), some (.ref (q1)), some (.ref (q2)), some (.ref (q3)), some (.int (nI c)), some (.int (a 3 c)), some (.int (a 4 c)), some (.int (nI k)), some (.int (x)), some (.int (y)), u16, u17, u18, u19, u20, u21, u22], [], (jH ad ro b s nk nc nn ru W a t)) = xr E (d + 156) m_L_law Q (550, [some (.retAddr 0), some (.ref 0), some (.ref (ad 1)), some (.int (nI i)), some (.int (v4)), some (.int (nI nn)), some (.int (nI st)), some (.ref (q1)), some (.ref (q2)), some (.ref (q3)), some (.int (nI c)), some (.int (a 3 c)), some (.int (a 4 c)), some (.int (nI k)), some (.int (x)), some (.int (y)), some (.int (if celC s x y = 0 then 0 else 1)), u17, u18, u19, u20, u21, u22], [], (jH ad ro b s nk nc nn ru W a t)) := by
  have hz := jS_z hS
  obtain ⟨z1, -, z3, z4, -⟩ := cls_J (ad := ad) (nk := nk) (nc := nc) (nn := nn) (ru := ru) (a2 := a) (t2 := t) (b2 := b) (s2 := s) hI.1 hz
  have c1 : xcl (jH ad ro b s nk nc nn ru W a t) 0 = 8 := xc_of z1
  have g8 := fun (Q : xR → Prop) => c_T_columns (E := E) (d := d + 155) (Q := Q) z1 z3
  have g9 := fun (Q : xR → Prop) => c_T_rows (E := E) (d := d + 155) (Q := Q) z1 z3
  have no : ¬ (¬ x < 0 ∧ x < s 0 ∧ ¬ y < 0 ∧ y < s 1) → celC s x y = 0 := fun q => if_neg q
  by_cases e1 : x < 0
  · rw [if_pos (no fun q => q.1 e1)]
    simp only [↓reduceIte, s_L_law_515, s_L_law_517, s_L_law_520, s_L_law_522, s_L_law_525, s_L_law_527, s_L_law_528, s_L_law_531, s_L_law_534, s_L_law_536, s_L_law_537, s_L_law_540, s_L_law_543, s_L_law_544, s_L_law_547, s_L_law_548, eq_true e1]
  by_cases e2 : y < 0
  · rw [if_pos (no fun q => q.2.2.1 e2)]
    simp only [↓reduceIte, s_L_law_515, s_L_law_517, s_L_law_520, s_L_law_522, s_L_law_525, s_L_law_527, s_L_law_528, s_L_law_531, s_L_law_534, s_L_law_536, s_L_law_537, s_L_law_540, s_L_law_543, s_L_law_544, s_L_law_547, s_L_law_548, eq_false e1, eq_true e2]
  by_cases e3 : x < s 0
  · by_cases e4 : y < s 1
    · have : celC s x y = 1 := if_pos ⟨e1, e3, e2, e4⟩
      rw [this, if_neg (by decide)]
      simp only [↓reduceIte, s_L_law_515, s_L_law_517, s_L_law_520, s_L_law_522, s_L_law_525, s_L_law_527, s_L_law_528, s_L_law_531, s_L_law_534, s_L_law_536, s_L_law_537, s_L_law_540, s_L_law_543, s_L_law_544, s_L_law_547, s_L_law_548, not_false_eq_true, Nat.reduceLT, Nat.reduceAdd, true_and, and_true, if_true, if_false, ite_true, ite_false, xnb_0, xnb_1, xnb_b, xk_v, xk_n, c1, g8, g9, eq_false e1, eq_false e2, eq_true e3, eq_true e4]
    · rw [if_pos (no fun q => e4 q.2.2.2)]
      simp only [↓reduceIte, s_L_law_515, s_L_law_517, s_L_law_520, s_L_law_522, s_L_law_525, s_L_law_527, s_L_law_528, s_L_law_531, s_L_law_534, s_L_law_536, s_L_law_537, s_L_law_540, s_L_law_543, s_L_law_544, s_L_law_547, s_L_law_548, not_false_eq_true, Nat.reduceLT, Nat.reduceAdd, true_and, and_true, if_true, if_false, ite_true, ite_false, xnb_0, xnb_1, xnb_b, xk_v, xk_n, c1, g8, g9, eq_false e1, eq_false e2, eq_true e3, eq_false e4]
  · rw [if_pos (no fun q => e3 q.2.1)]
    simp only [↓reduceIte, s_L_law_515, s_L_law_517, s_L_law_520, s_L_law_522, s_L_law_525, s_L_law_527, s_L_law_528, s_L_law_531, s_L_law_534, s_L_law_536, s_L_law_537, s_L_law_540, s_L_law_543, s_L_law_544, s_L_law_547, s_L_law_548, not_false_eq_true, Nat.reduceLT, Nat.reduceAdd, true_and, and_true, if_true, if_false, ite_true, ite_false, xnb_0, xnb_1, xnb_b, xk_v, xk_n, c1, g8, g9, eq_false e1, eq_false e2, eq_false e3]
theorem sm_20 (hB : kBo b s co rw' nk nn) (hc : c < nn) (r : Int32) : ((20 : Int32) < smeC a b t s nk c r) = False := by
  obtain ⟨z, z1, z2, z3⟩ := hB.2.2.2.2.2.2 c hc
  have e5 : (5 : Int32) * b 9 c = nI (5 * z) := by rw [z3]; exact nI_mu 5 z
  have k20 : ¬ (20 : Int32) < nI (5 * z) := of_eq_false (nge (i := 20) (n := 5 * z) (by omega) (by omega))
  unfold smeC
  rw [e5]
  refine eq_false ?_
  split
  · decide
  split
  · exact k20
  · next h =>
    intro q
    have h1 := mt Int32.lt_iff_toInt_lt.mpr h
    have h2 := Int32.lt_iff_toInt_lt.mp q
    have h3 := mt Int32.lt_iff_toInt_lt.mpr k20
    omega
theorem aro_00 {ca ks kc kr : Nat → Int32} {fx fy : Int32} : ∀ m i z, (∀ j, i ≤ j → j < i + m → ¬ ca j = 0) → aro ca ks kc kr fx fy i m z = z
  | 0, _, _, _ => rfl
  | m + 1, i, z, h => by
    unfold aro
    rw [if_neg (h i (by omega) (by omega))]
    exact aro_00 m (i + 1) z fun j h1 h2 => h j (by omega) (by omega)
theorem sm_00 (hB : kBo b s co rw' nk nn) (hc : c < nn) (h0 : ∀ j, j < nk → ¬ a 0 j = 0) (r : Int32) : ((0 : Int32) < smeC a b t s nk c r) = False := by
  obtain ⟨z, z1, z2, z3⟩ := hB.2.2.2.2.2.2 c hc
  have e5 : (5 : Int32) * b 9 c = nI (5 * z) := by rw [z3]; exact nI_mu 5 z
  have ea : ∀ x y, aroC a t b nk x y = 0 := fun x y => aro_00 nk 0 0 fun j _ h2 => h0 j (by omega)
  unfold smeC
  rw [e5, ea, if_neg (of_eq_false (nI_n0 (5 * z) (by omega)))]
  refine eq_false ?_
  split <;> decide
/-- a direction of a clipper -/
theorem lw_3c (hS : jS E ad ro nk nc nn lo hi b s cnt rs re co rw') (hI : jI E ro ru nk nn lo hi Kb Ks ep b nm s co rw' n W a t) (hc : c < nn) (hst : st ≤ 6) (hs0 : st = 0 → ∀ j, j < nk → ¬ a 0 j = 0) (hx : x = a 3 c + eaw (nI k)) (hy : y = a 4 c + sow (nI k)) (hk : k < 4) : xr E (d + 156) m_L_law Q (550, [some (.retAddr 0), some (.ref 0), some (.ref (ad 1)), some (.int (nI i)), some (.int (v4)), some (.int (nI nn)), some (.int (nI st)), some (.ref (q1)), some (.ref (q2)), some (.ref (q3)), some (.int (nI c)), some (.int (a 3 c)), some (.int (a 4 c)), some (.int (nI k)), some (.int (x)), some (.int (y)), some (.int (if celC s x y = 0 then 0 else 1)), u17, u18, u19, u20, u21, u22], [], (jH ad ro b s nk nc nn ru W a t)) = xr E (d + 156) m_L_law Q (458, [some (.retAddr 0), some (.ref 0), some (.ref (ad 1)), some (.int (nI i)), some (.int (v4)), some (.int (nI nn)), some (.int (nI st)), some (.ref (q1)), some (.ref (q2)), some (.ref (q3)), some (.int (nI c)), some (.int (a 3 c)), some (.int (a 4 c)), some (.int (nI (k + 1))), some (.int (x)), some (.int (y)), some (.int (if celC s x y = 0 then 0 else 1)), some (.int (smeC a b t s nk c (nI k))), u18, u19, u20, u21, u22], [], (jH ad ro b s nk nc nn ru W a t)) := by
  have hz := jS_z hS
  obtain ⟨hj, hlo, hlz, hB, hW, hR, hn1, hd1, hd2⟩ := id hS
  obtain ⟨w1, w2, w3, w4, w5, w6, -⟩ := id hW
  obtain ⟨z1, -, z3, z4, -⟩ := cls_J (ad := ad) (nk := nk) (nc := nc) (nn := nn) (ru := ru) (a2 := a) (t2 := t) (b2 := b) (s2 := s) hI.1 hz
  have c1 : xcl (jH ad ro b s nk nc nn ru W a t) 0 = 8 := xc_of z1
  have hk4 : (nI k < (4 : Int32)) = True := nlt (i := k) (n := 4) (by omega) (by omega)
  have g1 := fun (Q : xR → Prop) => c_T_smells_i (E := E) (d := d + 152) (Q := Q) (r := nI k) z1 z3 z4 w5 w6 w1 w2 hc (fun q => q.elim (fun e => by rw [nI_n0 k (by omega)] at e; exact e) (fun e => e (of_eq_true hk4)))
  have g2 := fun (Q : xR → Prop) => c_T_aromaAt (E := E) (d := d + 153) (Q := Q) z1 z3 z4 w1 w2 x y
  have r1 := j_1 (b := b) (s := s) (ru := ru) (H := W) (a := a) (t := t) hj
  have r4 := j_4 (b := b) (s := s) (ru := ru) (H := W) (a := a) (t := t) hj
  have rc := j_c (b := b) (s := s) (ru := ru) (H := W) (a := a) (t := t) hj hc
  have m20 := sm_20 (a := a) (t := t) hB hc (nI k)
  have hst0 : (nI st = 0) = (st = 0) := nI_q (y := 0) (by omega) (by omega)
  have sm : smeC a b t s nk c (nI k) = if celC s x y = 0 then 0 else if 5 * b 9 c < aroC a t b nk x y then 5 * b 9 c else aroC a t b nk x y := by rw [hx, hy]; rfl
  have sv : st = 0 → ((0 : Int32) < smeC a b t s nk c (nI k)) = False := fun e => sm_00 hB hc (hs0 e) _
  generalize smeC a b t s nk c (nI k) = S at *
  generalize hZ : (jH ad ro b s nk nc nn ru W a t) = Z at z1 z3 z4 r1 r4 rc g1 g2 c1 ⊢
  by_cases e : celC s x y = 0
  · rw [if_pos e] at sm
    subst sm
    simp only [if_pos e]
    by_cases e0 : st = 0
    · simp only [↓reduceIte, s_L_law_550, s_L_law_551, s_L_law_553, s_L_law_555, s_L_law_558, s_L_law_560, s_L_law_562, s_L_law_564, s_L_law_567, s_L_law_569, s_L_law_571, s_L_law_574, s_L_law_575, s_L_law_577, s_L_law_579, s_L_law_582, s_L_law_583, s_L_law_584, s_L_law_587, s_L_law_589, s_L_law_590, s_L_law_591, s_L_law_592, s_L_law_593, s_L_law_596, s_L_law_599, s_L_law_600, s_L_law_603, s_L_law_605, s_L_law_608, s_L_law_610, s_L_law_613, s_L_law_614, s_L_law_615, s_L_law_618, not_false_eq_true, Nat.reduceLT, Nat.reduceAdd, true_and, and_true, if_true, if_false, ite_true, ite_false, xnb_0, xnb_1, xnb_b, xk_v, xk_n, c1, g1, m20, hst0, eq_true e0, sv e0, show nI k + 1 = nI (k + 1) from nI_ad k 1]
    · simp only [↓reduceIte, s_L_law_550, s_L_law_551, s_L_law_553, s_L_law_555, s_L_law_558, s_L_law_560, s_L_law_562, s_L_law_564, s_L_law_567, s_L_law_569, s_L_law_571, s_L_law_574, s_L_law_575, s_L_law_577, s_L_law_579, s_L_law_582, s_L_law_583, s_L_law_584, s_L_law_587, s_L_law_589, s_L_law_590, s_L_law_591, s_L_law_592, s_L_law_593, s_L_law_596, s_L_law_599, s_L_law_600, s_L_law_603, s_L_law_605, s_L_law_608, s_L_law_610, s_L_law_613, s_L_law_614, s_L_law_615, s_L_law_618, not_false_eq_true, Nat.reduceLT, Nat.reduceAdd, true_and, and_true, if_true, if_false, ite_true, ite_false, xnb_0, xnb_1, xnb_b, xk_v, xk_n, c1, g1, m20, hst0, eq_false e0, show nI k + 1 = nI (k + 1) from nI_ad k 1]
  · rw [if_neg e] at sm
    simp only [if_neg e] at g2 ⊢
    have p10 : ((1 : Int32) = 0) = False := eq_false (by decide)
    by_cases e0 : st = 0
    · simp only [↓reduceIte, s_L_law_550, s_L_law_551, s_L_law_553, s_L_law_555, s_L_law_558, s_L_law_560, s_L_law_562, s_L_law_564, s_L_law_567, s_L_law_569, s_L_law_571, s_L_law_574, s_L_law_575, s_L_law_577, s_L_law_579, s_L_law_582, s_L_law_583, s_L_law_584, s_L_law_587, s_L_law_589, s_L_law_590, s_L_law_591, s_L_law_592, s_L_law_593, s_L_law_596, s_L_law_599, s_L_law_600, s_L_law_603, s_L_law_605, s_L_law_608, s_L_law_610, s_L_law_613, s_L_law_614, s_L_law_615, s_L_law_618, not_false_eq_true, Nat.reduceLT, Nat.reduceAdd, true_and, and_true, if_true, if_false, ite_true, ite_false, xnb_0, xnb_1, xnb_b, xk_v, xk_n, c1, g1, g2, m20, p10, hst0, eq_true e0, sv e0, xf_of r1, xll_10, xlg_10_0, xlg_10_1, xlg_10_2, xlg_10_3, xlg_10_4, xlg_10_5, xlg_10_6, xlg_10_7, xlg_10_8, (xA_of r4).1, (xA_of r4).2.1, (xA_of r4).2.2, nvp hc (show nn < 2147483648 by omega), ncl (show c < 2147483648 by omega), if_pos hc, xrf_s, xIl_of rc, xIf_of rc, ic_2, v9_2, cf_2, ← sm, show nI k + 1 = nI (k + 1) from nI_ad k 1]
    · simp only [↓reduceIte, s_L_law_550, s_L_law_551, s_L_law_553, s_L_law_555, s_L_law_558, s_L_law_560, s_L_law_562, s_L_law_564, s_L_law_567, s_L_law_569, s_L_law_571, s_L_law_574, s_L_law_575, s_L_law_577, s_L_law_579, s_L_law_582, s_L_law_583, s_L_law_584, s_L_law_587, s_L_law_589, s_L_law_590, s_L_law_591, s_L_law_592, s_L_law_593, s_L_law_596, s_L_law_599, s_L_law_600, s_L_law_603, s_L_law_605, s_L_law_608, s_L_law_610, s_L_law_613, s_L_law_614, s_L_law_615, s_L_law_618, not_false_eq_true, Nat.reduceLT, Nat.reduceAdd, true_and, and_true, if_true, if_false, ite_true, ite_false, xnb_0, xnb_1, xnb_b, xk_v, xk_n, c1, g1, g2, m20, p10, hst0, eq_false e0, xf_of r1, xll_10, xlg_10_0, xlg_10_1, xlg_10_2, xlg_10_3, xlg_10_4, xlg_10_5, xlg_10_6, xlg_10_7, xlg_10_8, (xA_of r4).1, (xA_of r4).2.1, (xA_of r4).2.2, nvp hc (show nn < 2147483648 by omega), ncl (show c < 2147483648 by omega), if_pos hc, xrf_s, xIl_of rc, xIf_of rc, ic_2, v9_2, cf_2, ← sm, show nI k + 1 = nI (k + 1) from nI_ad k 1]
theorem lw_3d (hk : k < 4) : xr E (d + 156) m_L_law Q (458, [some (.retAddr 0), some (.ref 0), some (.ref (ad 1)), some (.int (nI i)), some (.int (v4)), some (.int (nI nn)), some (.int (nI st)), some (.ref (q1)), some (.ref (q2)), some (.ref (q3)), some (.int (nI c)), some (.int (a 3 c)), some (.int (a 4 c)), some (.int (nI k)), u14, u15, u16, u17, u18, u19, u20, u21, u22], [], (jH ad ro b s nk nc nn ru W a t)) = xr E (d + 156) m_L_law Q (515, [some (.retAddr 0), some (.ref 0), some (.ref (ad 1)), some (.int (nI i)), some (.int (v4)), some (.int (nI nn)), some (.int (nI st)), some (.ref (q1)), some (.ref (q2)), some (.ref (q3)), some (.int (nI c)), some (.int (a 3 c)), some (.int (a 4 c)), some (.int (nI k)), some (.int (a 3 c + eaw (nI k))), some (.int (a 4 c + sow (nI k))), u16, u17, u18, u19, u20, u21, u22], [], (jH ad ro b s nk nc nn ru W a t)) := by
  rw [s_L_law_458]
  rcases (show k = 0 ∨ k = 1 ∨ k = 2 ∨ k = 3 by omega) with e | e | e | e <;> subst e
  · simp only [↓reduceIte, s_L_law_460, s_L_law_461, s_L_law_464, s_L_law_466, s_L_law_468, s_L_law_469, s_L_law_472, s_L_law_473, s_L_law_476, s_L_law_478, s_L_law_479, s_L_law_482, s_L_law_483, s_L_law_486, s_L_law_487, s_L_law_488, s_L_law_490, s_L_law_492, s_L_law_494, s_L_law_495, s_L_law_498, s_L_law_499, s_L_law_502, s_L_law_504, s_L_law_507, s_L_law_508, s_L_law_511, s_L_law_512, s_L_law_513, show (nI 0 < (4 : Int32)) = True from eq_true (by decide), show (nI 0 = (1 : Int32)) = False from eq_false (by decide), show (nI 0 = (3 : Int32)) = False from eq_false (by decide), show (nI 0 = (2 : Int32)) = False from eq_false (by decide), show (nI 0 = (0 : Int32)) = True from eq_true (by decide), show eaw (nI 0) = 0 from rfl, show sow (nI 0) = -1 from rfl]
  · simp only [↓reduceIte, s_L_law_460, s_L_law_461, s_L_law_464, s_L_law_466, s_L_law_468, s_L_law_469, s_L_law_472, s_L_law_473, s_L_law_476, s_L_law_478, s_L_law_479, s_L_law_482, s_L_law_483, s_L_law_486, s_L_law_487, s_L_law_488, s_L_law_490, s_L_law_492, s_L_law_494, s_L_law_495, s_L_law_498, s_L_law_499, s_L_law_502, s_L_law_504, s_L_law_507, s_L_law_508, s_L_law_511, s_L_law_512, s_L_law_513, show (nI 1 < (4 : Int32)) = True from eq_true (by decide), show (nI 1 = (1 : Int32)) = True from eq_true (by decide), show (nI 1 = (2 : Int32)) = False from eq_false (by decide), show (nI 1 = (0 : Int32)) = False from eq_false (by decide), show eaw (nI 1) = 1 from rfl, show sow (nI 1) = 0 from rfl]
  · simp only [↓reduceIte, s_L_law_460, s_L_law_461, s_L_law_464, s_L_law_466, s_L_law_468, s_L_law_469, s_L_law_472, s_L_law_473, s_L_law_476, s_L_law_478, s_L_law_479, s_L_law_482, s_L_law_483, s_L_law_486, s_L_law_487, s_L_law_488, s_L_law_490, s_L_law_492, s_L_law_494, s_L_law_495, s_L_law_498, s_L_law_499, s_L_law_502, s_L_law_504, s_L_law_507, s_L_law_508, s_L_law_511, s_L_law_512, s_L_law_513, show (nI 2 < (4 : Int32)) = True from eq_true (by decide), show (nI 2 = (1 : Int32)) = False from eq_false (by decide), show (nI 2 = (3 : Int32)) = False from eq_false (by decide), show (nI 2 = (2 : Int32)) = True from eq_true (by decide), show eaw (nI 2) = 0 from rfl, show sow (nI 2) = 1 from rfl]
  · simp only [↓reduceIte, s_L_law_460, s_L_law_461, s_L_law_464, s_L_law_466, s_L_law_468, s_L_law_469, s_L_law_472, s_L_law_473, s_L_law_476, s_L_law_478, s_L_law_479, s_L_law_482, s_L_law_483, s_L_law_486, s_L_law_487, s_L_law_488, s_L_law_490, s_L_law_492, s_L_law_494, s_L_law_495, s_L_law_498, s_L_law_499, s_L_law_502, s_L_law_504, s_L_law_507, s_L_law_508, s_L_law_511, s_L_law_512, s_L_law_513, show (nI 3 < (4 : Int32)) = True from eq_true (by decide), show (nI 3 = (1 : Int32)) = False from eq_false (by decide), show (nI 3 = (3 : Int32)) = True from eq_true (by decide), show (nI 3 = (2 : Int32)) = False from eq_false (by decide), show (nI 3 = (0 : Int32)) = False from eq_false (by decide), show eaw (nI 3) = -1 from rfl, show sow (nI 3) = 0 from rfl]
theorem lw_3e (hS : jS E ad ro nk nc nn lo hi b s cnt rs re co rw') (hI : jI E ro ru nk nn lo hi Kb Ks ep b nm s co rw' n W a t) (hc : c < nn) (hst : st ≤ 6) (hs0 : st = 0 → ∀ j, j < nk → ¬ a 0 j = 0) : ∀ (m k : Nat) (u14 u15 u16 u17 : Option Value), k + m = 4 → ∃ k14 k15 k16 k17, ∀ Q, xr E (d + 156) m_L_law Q (458, [some (.retAddr 0), some (.ref 0), some (.ref (ad 1)), some (.int (nI i)), some (.int (v4)), some (.int (nI nn)), some (.int (nI st)), some (.ref (q1)), some (.ref (q2)), some (.ref (q3)), some (.int (nI c)), some (.int (a 3 c)), some (.int (a 4 c)), some (.int (nI k)), u14, u15, u16, u17, u18, u19, u20, u21, u22], [], (jH ad ro b s nk nc nn ru W a t)) = xr E (d + 156) m_L_law Q (268, [some (.retAddr 0), some (.ref 0), some (.ref (ad 1)), some (.int (nI i)), some (.int (v4)), some (.int (nI nn)), some (.int (nI st)), some (.ref (q1)), some (.ref (q2)), some (.ref (q3)), some (.int (nI (c + 1))), some (.int (a 3 c)), some (.int (a 4 c)), some (.int (nI 4)), k14, k15, k16, k17, u18, u19, u20, u21, u22], [], (jH ad ro b s nk nc nn ru W a t))
  | 0, k, u14, u15, u16, u17, hk => by
    obtain rfl : k = 4 := by omega
    refine ⟨u14, u15, u16, u17, fun Q => ?_⟩
    rw [s_L_law_458]
    simp only [↓reduceIte, s_L_law_460, s_L_law_461, s_L_law_621, s_L_law_624, show (nI 4 < (4 : Int32)) = False from eq_false (by decide), show nI c + 1 = nI (c + 1) from nI_ad c 1]
  | m + 1, k, u14, u15, u16, u17, hk => by
    obtain ⟨k14, k15, k16, k17, ih⟩ := lw_3e hS hI hc hst hs0 m (k + 1) _ _ _ _ (by omega)
    exact ⟨k14, k15, k16, k17, fun Q => (lw_3d (by omega)).trans ((lw_is hS hI).trans ((lw_3c hS hI hc hst hs0 rfl rfl (by omega)).trans (ih Q)))⟩
theorem lw_3f (hS : jS E ad ro nk nc nn lo hi b s cnt rs re co rw') (hy : kWy a nn) (hst : st ≤ 6) (hs0 : st = 0 → ∀ j, j < nk → ¬ a 0 j = 0) (hq1 : q1 < q3) (hq2 : q2 < q3) (hhi : hi ≤ q3) : ∀ (m c : Nat) (W : xH) (u11 u12 u13 u14 u15 u16 u17 : Option Value), c + m = nn → jI E ro ru nk nn lo hi Kb Ks ep b nm s co rw' n W a t → ktN W q1 q2 nk a nk → waN W q3 nn a t c → q3 < W.2.1 → ∃ X k11 k12 k13 k14 k15 k16 k17, (∀ Q, xr E (d + 156) m_L_law Q (268, [some (.retAddr 0), some (.ref 0), some (.ref (ad 1)), some (.int (nI i)), some (.int (v4)), some (.int (nI nn)), some (.int (nI st)), some (.ref (q1)), some (.ref (q2)), some (.ref (q3)), some (.int (nI c)), u11, u12, u13, u14, u15, u16, u17, u18, u19, u20, u21, u22], [], (jH ad ro b s nk nc nn ru W a t)) = xr E (d + 156) m_L_law Q (627, [some (.retAddr 0), some (.ref 0), some (.ref (ad 1)), some (.int (nI i)), some (.int (v4)), some (.int (nI nn)), some (.int (nI st)), some (.ref (q1)), some (.ref (q2)), some (.ref (q3)), some (.int (nI nn)), k11, k12, k13, k14, k15, k16, k17, u18, u19, u20, u21, u22], [], (jH ad ro b s nk nc nn ru X a t))) ∧ jI E ro ru nk nn lo hi Kb Ks ep b nm s co rw' n X a t ∧ ktN X q1 q2 nk a nk ∧ waN X q3 nn a t nn ∧ W.2.1 ≤ X.2.1 ∧ X.2.1 ≤ W.2.1 + m ∧ X.2.2 ≤ W.2.2 + 7 * m
  | 0, c, W, u11, u12, u13, u14, u15, u16, u17, hc, hI, hN, hA, h3 => by
    obtain rfl : c = nn := by omega
    have h6 := hS.1.2.2.1
    refine ⟨W, u11, u12, u13, u14, u15, u16, u17, fun Q => ?_, hI, hN, hA, Nat.le_refl _, by omega, by omega⟩
    rw [s_L_law_268]
    simp only [↓reduceIte, s_L_law_270, s_L_law_272, nge (Nat.le_refl c) (show c < 2147483648 by omega)]
  | m + 1, c, W, u11, u12, u13, u14, u15, u16, u17, hc, hI, hN, hA, h3 => by
    obtain ⟨Y, y1, y2, y3, y4, y5, y6⟩ := lw_3b (d := d) (i := i) (st := st) (v4 := v4) (u11 := u11) (u12 := u12) (u13 := u13) (u14 := u14) (u15 := u15) (u16 := u16) (u17 := u17) (u18 := u18) (u19 := u19) (u20 := u20) (u21 := u21) (u22 := u22) hS hI hy hN hA (by omega) hq1 hq2 h3 hhi
    obtain ⟨l14, l15, l16, l17, l1⟩ := lw_3e (d := d) (i := i) (q1 := q1) (q2 := q2) (q3 := q3) (v4 := v4) (u18 := u18) (u19 := u19) (u20 := u20) (u21 := u21) (u22 := u22) hS y2 (show c < nn by omega) hst hs0 4 0 u14 u15 u16 u17 (by omega)
    obtain ⟨X, k11, k12, k13, k14, k15, k16, k17, x1, x2, x3, x4, x5, x6, x7⟩ := lw_3f hS hy hst hs0 hq1 hq2 hhi m (c + 1) Y _ _ _ l14 l15 l16 l17 (by omega) y2 y3 y4 (by omega)
    exact ⟨X, k11, k12, k13, k14, k15, k16, k17, fun Q => (y1 Q).trans ((l1 Q).trans (x1 Q)), x2, x3, x4, by omega, by omega, by omega⟩
end LAW2
