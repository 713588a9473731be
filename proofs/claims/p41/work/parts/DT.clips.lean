/-! ===== the law's reckoning is made: its clippers ===== -/
section CLIPS
variable {E : xE} {d D : Nat} {H X Z : xH} {p v n m i c e a s0 s1 rk ru rc rr tn k cx cy z lo N : Nat} {x : Int32} {ak au ac : List Nat} {P : kcL} {g : Nat → Option Nat} {j4 j5 j6 : Option Value}
def f9 (x y z : Nat) : Nat → Int32 := fun j => if j = 0 then nI x else if j = 1 then nI y else if j = 2 then nI z else if j = 3 then nI x else if j = 4 then nI y else 0
theorem f9_is (x y z : Nat) : upd (upd (upd (upd (upd (upd (upd (upd (upd (fun _ => (0 : Int32)) 0 (nI x)) 1 (nI y)) 2 (nI z)) 3 (nI x)) 4 (nI y)) 5 0) 6 0) 7 0) 8 0 = f9 x y z := by
  funext j
  unfold f9 upd
  by_cases e0 : j = 0
  · subst e0; rfl
  by_cases e1 : j = 1
  · subst e1; rfl
  by_cases e2 : j = 2
  · subst e2; rfl
  by_cases e3 : j = 3
  · subst e3; rfl
  by_cases e4 : j = 4
  · subst e4; rfl
  simp only [if_neg e0, if_neg e1, if_neg e2, if_neg e3, if_neg e4]
  repeat' split
  all_goals rfl
theorem nI_ml5 (c : Nat) : (5 : Int32) + 11 * nI c = nI (5 + 11 * c) := by
  rw [show (11 : Int32) = nI 11 from rfl, show (5 : Int32) = nI 5 from rfl, nI_mu, nI_ad]
/-- a clipper's row -/
theorem si_ca (hE : E.1 ≤ 260) (hp : H.1 p = simF (drC E) (drR E) 0 0 0 rk ru rc (.ref rr)) (hlp : p < H.2.1) (hr : H.1 rc = rowL ac) (hlr : rc < H.2.1) (hL : ac.length ≤ 6) (hI : ∀ q ∈ ac, q < H.2.1 ∧ xisI H q) (hc : c < N) (hN : N ≤ 6) {Q : xR → Prop} : xr E (d + 5) m_S_init Q (278, [some (.ref p), some (.retAddr 0), some (.int (nI tn)), some (.int (nI N)), some (.int (nI c)), j5, j6], [], H) = xr E (d + 5) m_S_init Q (399, [some (.ref p), some (.retAddr 0), some (.int (nI tn)), some (.int (nI N)), some (.int (nI c)), some (.int (cel E (9 + c))), j6], [], xset (xnew (xnew H (xarI 9 (f9 (drX E c) (drY E c) (drZ E c))) 9) (rowL (ac ++ [H.2.1])) (ac.length + 1)) p (simF (drC E) (drR E) 0 0 0 rk ru (H.2.1 + 1) (.ref rr))) := by
  have cb := drC_b (E := E)
  have rb := drR_b (E := E)
  have hce : ∀ (Q : xR → Prop), xcall E xprog (d + 5) 168 [.retAddr 0, .int (nI (9 + c))] H Q = Q (.inl (some (.int (cel E (9 + c)))), H) := fun Q => f_L_cell hE (by omega)
  have hb1 : ∀ (Z : xH) (Q : xR → Prop), xcall E xprog (d + 5) 167 [.int (cel E (9 + c) >>> (2 &&& 31)), .int (nI (drC E))] Z Q = Q (.inl (some (.int (nI (drX E c)))), Z) := fun Z Q => f_L_below _ (by omega) (by omega)
  have hb2 : ∀ (Z : xH) (Q : xR → Prop), xcall E xprog (d + 5) 167 [.int (cel E (9 + c) >>> (5 &&& 31)), .int (nI (drR E))] Z Q = Q (.inl (some (.int (nI (drY E c)))), Z) := fun Z Q => f_L_below _ (by omega) (by omega)
  have hb3 : ∀ (Z : xH) (Q : xR → Prop), xcall E xprog (d + 5) 167 [.int (cel E (9 + c) >>> (8 &&& 31)), .int 4] Z Q = Q (.inl (some (.int (nI (bel (cel E (9 + c) >>> (8 &&& 31)) 4)))), Z) := fun Z Q => f_L_below _ (n := 4) (by omega) (by omega)
  have hfx : ∀ C e, xfls (xnew H C e) p 10 = [.int (nI (drC E)), .int (nI (drR E)), .int 0, .int 0, .int 0, .ref rk, .ref ru, .ref rc, .ref rr] := fun C e => xf_of (by rw [xnew_g, if_neg (by omega)]; exact hp)
  have hw := fun (Q : xR → Prop) => f_S_with (E := E) (d := d + 4) (Q := Q) (H := xnew H (xarI 9 (f9 (drX E c) (drY E c) (drZ E c))) 9) (p := rc) (v := H.2.1) (L := ac) (by rw [xnew_g, if_neg (by omega)]; exact hr) (Nat.lt_succ_of_lt hlr) (by omega) (fun q hq => ⟨Nat.lt_succ_of_lt (hI q hq).1, by
    obtain ⟨h1, a, f, e⟩ := hI q hq
    exact ⟨a, f, by rw [xnew_g, if_neg (by omega)]; exact e⟩⟩) (Nat.lt_succ_self _) ⟨9, _, n_nl⟩
  have hp2 : (xnew (xnew H (xarI 9 (f9 (drX E c) (drY E c) (drZ E c))) 9) (rowL (ac ++ [H.2.1])) (ac.length + 1)).1 p = simF (drC E) (drR E) 0 0 0 rk ru rc (.ref rr) := by
    show (if p = H.2.1 + 1 then _ else if p = H.2.1 then _ else H.1 p) = _
    rw [if_neg (by omega), if_neg (by omega)]; exact hp
  rw [s_S_init_278]
  simp only [↓reduceIte, s_S_init_280, s_S_init_281, s_S_init_284, s_S_init_285, s_S_init_287, s_S_init_289, s_S_init_290, s_S_init_293, s_S_init_295, s_S_init_296, s_S_init_297, s_S_init_300, s_S_init_302, s_S_init_304, s_S_init_305, s_S_init_306, s_S_init_308, s_S_init_309, s_S_init_310, s_S_init_311, s_S_init_314, s_S_init_317, s_S_init_318, s_S_init_319, s_S_init_320, s_S_init_322, s_S_init_323, s_S_init_324, s_S_init_325, s_S_init_328, s_S_init_331, s_S_init_332, s_S_init_333, s_S_init_334, s_S_init_335, s_S_init_337, s_S_init_339, s_S_init_340, s_S_init_341, s_S_init_344, s_S_init_345, s_S_init_346, s_S_init_347, s_S_init_348, s_S_init_350, s_S_init_351, s_S_init_352, s_S_init_353, s_S_init_356, s_S_init_359, s_S_init_360, s_S_init_361, s_S_init_362, s_S_init_364, s_S_init_365, s_S_init_366, s_S_init_367, s_S_init_370, s_S_init_373, s_S_init_374, s_S_init_375, s_S_init_376, s_S_init_377, s_S_init_378, s_S_init_379, s_S_init_381, s_S_init_382, s_S_init_383, s_S_init_384, s_S_init_386, s_S_init_387, s_S_init_388, s_S_init_389, s_S_init_391, s_S_init_392, s_S_init_393, s_S_init_396, not_false_eq_true, Nat.reduceLT, Nat.reduceAdd, true_and, and_true, if_true, if_false, ite_true, ite_false, xnb_0, xnb_1, xnb_b, xk_v, xk_n, nlt hc (show N < 2147483648 by omega), show (9 : Int32) + nI c = nI (9 + c) from nI_ad 9 c, hce, xf_of hp, hfx, xll_10, xlg_10_0, xlg_10_1, xlg_10_2, xlg_10_3, xlg_10_4, xlg_10_5, xlg_10_6, xlg_10_7, xlg_10_8, show ((9 : Int32) < 0) = False from eq_false (by decide), show (9 : Int32).toNatClampNeg = 9 from rfl, show (9 * 4 ≤ 536870912) = True from eq_true (by decide), n_nl2, n_nl3, xnw_2, v9_0, v9_1, v9_2, v9_3, v9_4, v9_5, v9_6, v9_7, v9_8, ic_0, ic_1, ic_2, ic_3, ic_4, ic_5, ic_6, ic_7, ic_8, hb1, hb2, hb3, show (1 : Int32) + nI (bel (cel E (9 + c) >>> (8 &&& 31)) 4) = nI (drZ E c) from nI_ad 1 _, f9_is, hw, xf_of hp2, xls_10_0, xls_10_1, xls_10_2, xls_10_3, xls_10_4, xls_10_5, xls_10_6, xls_10_7, xls_10_8]
  rfl
/-- a clipper's rule -/
theorem si_cb (hE : E.1 ≤ 260) (hp : H.1 p = simF (drC E) (drR E) 0 0 0 rk ru rc (.ref rr)) (hlp : p < H.2.1) (hr : H.1 rr = xarR N g) (hlr : rr < H.2.1) (hc : c < N) (hN : N ≤ 6) : ∃ X, (∀ Q, xr E (d + 5) m_S_init Q (399, [some (.ref p), some (.retAddr 0), some (.int (nI tn)), some (.int (nI N)), some (.int (nI c)), some (.int x), j6], [], H) = xr E (d + 5) m_S_init Q (278, [some (.ref p), some (.retAddr 0), some (.int (nI tn)), some (.int (nI N)), some (.int (nI (c + 1))), some (.int x), j6], [], xset X rr (xarR N (va_up g c (some H.2.1))))) ∧ ruH E X H.2.1 X.2.1 4 (5 + 11 * c) 0 H.2.1 ∧ (∀ a, a < H.2.1 → X.1 a = H.1 a) ∧ H.2.1 + 1 ≤ X.2.1 ∧ X.2.1 ≤ H.2.1 + 1 + cN 4 ∧ X.2.2 ≤ H.2.2 + 3 + 3 * cN 4 := by
  have hn0 : (xnew H (.inr (9, xdef 9)) 3).1 H.2.1 = ru0 := if_pos rfl
  obtain ⟨X, e1, e2, e3, e4, e5, e6⟩ := r_init (d := d) hE 3 (5 + 11 * c) 0 H.2.1 (xnew H (.inr (9, xdef 9)) 3) rfl (by omega) hn0 (Nat.lt_succ_self _)
  have ho : ∀ a, a < H.2.1 → X.1 a = H.1 a := fun a ha => (e3 a (Nat.lt_succ_of_lt ha) (by omega)).trans (by rw [xnew_g, if_neg (by omega)])
  have hr1 : X.1 rr = xarR N g := (ho rr hlr).trans hr
  have hcl : xcl X H.2.1 = 9 := by
    obtain ⟨-, -, r2, h2, -, -, u1, -⟩ := id e2
    exact xc_of u1
  have e1' : ∀ Q, xcall E xprog (d + 5) 106 [.ref H.2.1, .retAddr 0, .int (nI (5 + 11 * c)), .int 0] (xnew H (.inr (9, xdef 9)) 3) Q = Q (.inl none, X) := e1
  refine ⟨X, fun Q => ?_, e2, ho, e4, e5, e6⟩
  simp only [↓reduceIte, s_S_init_399, s_S_init_400, s_S_init_403, s_S_init_405, s_S_init_408, s_S_init_409, s_S_init_410, s_S_init_411, s_S_init_413, s_S_init_415, s_S_init_416, s_S_init_417, s_S_init_418, s_S_init_421, s_S_init_422, s_S_init_425, not_false_eq_true, Nat.reduceLT, Nat.reduceAdd, true_and, and_true, if_true, if_false, ite_true, ite_false, xnb_0, xnb_1, xnb_b, xk_v, xk_n, xf_of hp, xll_10, xlg_10_0, xlg_10_1, xlg_10_2, xlg_10_3, xlg_10_4, xlg_10_5, xlg_10_6, xlg_10_7, xlg_10_8, nI_ml5, e1', (xR_of hr1).1, (xR_of hr1).2.1, (xR_of hr1).2.2, nvp hc (show N < 2147483648 by omega), ncl (show c < 2147483648 by omega), hcl, show nI c + 1 = nI (c + 1) from nI_ad c 1]
end CLIPS
