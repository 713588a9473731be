/-! ===== the law's reckoning is made: a thing more ===== -/
section THING
variable {E : xE} {d D : Nat} {Q : xR → Prop} {H X Z : xH} {p v n m i c s0 s1 rk ru rc tn k cx cy : Nat} {x : Int32} {L : List Nat}
/-- five numbers, two numbers -/
def f5 (x y z : Nat) : Nat → Int32 := fun j => if j = 0 then nI x else if j = 1 then nI y else if j = 2 then nI z else 0
def f2 (x y : Nat) : Nat → Int32 := fun j => if j = 0 then nI x else if j = 1 then nI y else 0
theorem f5_is (x y z : Nat) : upd (upd (upd (upd (upd (fun _ => (0 : Int32)) 0 (nI x)) 1 (nI y)) 2 (nI z)) 3 0) 4 0 = f5 x y z := by
  funext j
  unfold f5 upd
  by_cases e0 : j = 0
  · subst e0; rfl
  by_cases e1 : j = 1
  · subst e1; rfl
  by_cases e2 : j = 2
  · subst e2; rfl
  simp only [if_neg e0, if_neg e1, if_neg e2]
  by_cases e4 : j = 4
  · simp only [if_pos e4]
  · by_cases e3 : j = 3
    · simp only [if_neg e4, if_pos e3]
    · simp only [if_neg e4, if_neg e3]
theorem f2_is (x y : Nat) : upd (upd (fun _ => (0 : Int32)) 0 (nI x)) 1 (nI y) = f2 x y := by
  funext j
  unfold f2 upd
  by_cases e0 : j = 0
  · subst e0; rfl
  by_cases e1 : j = 1
  · subst e1; rfl
  simp only [if_neg e0, if_neg e1]
theorem n_nl {C : xC} : (xnew H C n).1 H.2.1 = C := if_pos rfl
theorem n_nl2 {f : Nat → Int32} : xlenI (xnew H (xarI m f) n) H.2.1 = m := xIl_of n_nl
theorem n_nl3 {f : Nat → Int32} : xfnI (xnew H (xarI m f) n) H.2.1 = f := xIf_of n_nl
theorem si_k (hp : H.1 p = simF s0 s1 0 0 0 rk ru rc .null) (hlp : p < H.2.1) (hr : H.1 rk = rowL L) (hlr : rk < H.2.1) (hL : L.length ≤ 6) (hI : ∀ q ∈ L, q < H.2.1 ∧ xisI H q) : xr E (d + 5) m_S_init Q (163, [some (.ref p), some (.retAddr 0), some (.int (nI tn)), some (.int (nI k)), some (.int x), some (.int (nI cx)), some (.int (nI cy))], [], H) = xr E (d + 5) m_S_init Q (247, [some (.ref p), some (.retAddr 0), some (.int (nI tn)), some (.int (nI k)), some (.int x), some (.int (nI cx)), some (.int (nI cy))], [], xset (xnew (xnew H (xarI 5 (f5 cx cy (1 + bel (x >>> (6 &&& 31)) 30))) 5) (rowL (L ++ [H.2.1])) (L.length + 1)) p (simF s0 s1 0 0 0 (H.2.1 + 1) ru rc .null)) := by
  have hb : ∀ (Z : xH) (Q : xR → Prop) (v : Int32), xcall E xprog (d + 5) 167 [.int v, .int 30] Z Q = Q (.inl (some (.int (nI (bel v 30)))), Z) := fun Z Q v => f_L_below v (n := 30) (by omega) (by omega)
  have hw := fun (Q : xR → Prop) => f_S_with (E := E) (d := d + 4) (Q := Q) (H := xnew H (xarI 5 (f5 cx cy (1 + bel (x >>> (6 &&& 31)) 30))) 5) (p := rk) (v := H.2.1) (L := L) (by rw [xnew_g, if_neg (by omega)]; exact hr) (Nat.lt_succ_of_lt hlr) (by omega) (fun q hq => ⟨Nat.lt_succ_of_lt (hI q hq).1, by
    obtain ⟨h1, a, f, e⟩ := hI q hq
    exact ⟨a, f, by rw [xnew_g, if_neg (by omega)]; exact e⟩⟩) (Nat.lt_succ_self _) ⟨5, _, n_nl⟩
  have hp2 : (xnew (xnew H (xarI 5 (f5 cx cy (1 + bel (x >>> (6 &&& 31)) 30))) 5) (rowL (L ++ [H.2.1])) (L.length + 1)).1 p = simF s0 s1 0 0 0 rk ru rc .null := by
    show (if p = H.2.1 + 1 then _ else if p = H.2.1 then _ else H.1 p) = _
    rw [if_neg (by omega), if_neg (by omega)]; exact hp
  simp only [s_S_init_163, s_S_init_164, s_S_init_165, s_S_init_168, s_S_init_169, s_S_init_171, s_S_init_172, s_S_init_173, s_S_init_175, s_S_init_176, s_S_init_177, s_S_init_178, s_S_init_180, s_S_init_181, s_S_init_182, s_S_init_183, s_S_init_184, s_S_init_186, s_S_init_188, s_S_init_189, s_S_init_191, s_S_init_194, s_S_init_195, s_S_init_196, s_S_init_197, s_S_init_198, s_S_init_199, s_S_init_200, s_S_init_201, s_S_init_202, s_S_init_203, s_S_init_204, s_S_init_207, s_S_init_210, not_false_eq_true, Nat.reduceLT, Nat.reduceAdd, true_and, and_true, if_true, if_false, ite_true, ite_false, xnb_0, xnb_1, xnb_b, xk_v, xk_n, xf_of hp, xll_10, xlg_10_0, xlg_10_1, xlg_10_2, xlg_10_3, xlg_10_4, xlg_10_5, xlg_10_6, xlg_10_7, xlg_10_8, show ((5 : Int32) < 0) = False from eq_false (by decide), show (5 : Int32).toNatClampNeg = 5 from rfl, show (5 * 4 ≤ 536870912) = True from eq_true (by decide), n_nl2, n_nl3, xnw_2, v5_0, v5_1, v5_2, v5_3, v5_4, ic_0, ic_1, ic_2, ic_3, ic_4, hb, show (1 : Int32) + nI (bel (x >>> (6 &&& 31)) 30) = nI (1 + bel (x >>> (6 &&& 31)) 30) from nI_ad 1 _, f5_is, hw, xf_of hp2, xls_10_0, xls_10_1, xls_10_2, xls_10_3, xls_10_4, xls_10_5, xls_10_6, xls_10_7, xls_10_8]
  rfl
theorem v2_0b : vp_in 0 2 = True := nvp (i := 0) (by omega) (by omega)
theorem v2_1b : vp_in 1 2 = True := nvp (i := 1) (by omega) (by omega)
theorem si_u (hp : H.1 p = simF s0 s1 0 0 0 rk ru rc .null) (hlp : p < H.2.1) (hr : H.1 ru = rowL L) (hlr : ru < H.2.1) (hL : L.length ≤ 6) (hI : ∀ q ∈ L, q < H.2.1 ∧ xisI H q) : xr E (d + 5) m_S_init Q (223, [some (.ref p), some (.retAddr 0), some (.int (nI tn)), some (.int (nI k)), some (.int x), some (.int (nI cx)), some (.int (nI cy))], [], H) = xr E (d + 5) m_S_init Q (247, [some (.ref p), some (.retAddr 0), some (.int (nI tn)), some (.int (nI k)), some (.int x), some (.int (nI cx)), some (.int (nI cy))], [], xset (xnew (xnew H (xarI 2 (f2 cx cy)) 2) (rowL (L ++ [H.2.1])) (L.length + 1)) p (simF s0 s1 0 0 0 rk (H.2.1 + 1) rc .null)) := by
  have hw := fun (Q : xR → Prop) => f_S_with (E := E) (d := d + 4) (Q := Q) (H := xnew H (xarI 2 (f2 cx cy)) 2) (p := ru) (v := H.2.1) (L := L) (by rw [xnew_g, if_neg (by omega)]; exact hr) (Nat.lt_succ_of_lt hlr) (by omega) (fun q hq => ⟨Nat.lt_succ_of_lt (hI q hq).1, by
    obtain ⟨h1, a, f, e⟩ := hI q hq
    exact ⟨a, f, by rw [xnew_g, if_neg (by omega)]; exact e⟩⟩) (Nat.lt_succ_self _) ⟨2, _, n_nl⟩
  have hp2 : (xnew (xnew H (xarI 2 (f2 cx cy)) 2) (rowL (L ++ [H.2.1])) (L.length + 1)).1 p = simF s0 s1 0 0 0 rk ru rc .null := by
    show (if p = H.2.1 + 1 then _ else if p = H.2.1 then _ else H.1 p) = _
    rw [if_neg (by omega), if_neg (by omega)]; exact hp
  simp only [s_S_init_223, s_S_init_224, s_S_init_225, s_S_init_228, s_S_init_229, s_S_init_231, s_S_init_232, s_S_init_233, s_S_init_235, s_S_init_236, s_S_init_237, s_S_init_238, s_S_init_240, s_S_init_241, s_S_init_244, not_false_eq_true, Nat.reduceLT, Nat.reduceAdd, true_and, and_true, if_true, if_false, ite_true, ite_false, xnb_0, xnb_1, xnb_b, xk_v, xk_n, xf_of hp, xll_10, xlg_10_0, xlg_10_1, xlg_10_2, xlg_10_3, xlg_10_4, xlg_10_5, xlg_10_6, xlg_10_7, xlg_10_8, show ((2 : Int32) < 0) = False from eq_false (by decide), show (2 : Int32).toNatClampNeg = 2 from rfl, show (2 * 4 ≤ 536870912) = True from eq_true (by decide), n_nl2, n_nl3, xnw_2, v2_0b, v2_1b, ic_0, ic_1, f2_is, hw, xf_of hp2, xls_10_0, xls_10_1, xls_10_2, xls_10_3, xls_10_4, xls_10_5, xls_10_6, xls_10_7, xls_10_8]
  rfl
end THING
