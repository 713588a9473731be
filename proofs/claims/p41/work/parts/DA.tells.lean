/-! ===== the law's reckoning: what a rule tells, by its objects ===== -/
section SIM4
variable {E : xE} {d D : Nat} {Q : xR → Prop} {H X : xH} {ad ro : Nat → Nat} {b a a' : Nat → Nat → Int32} {s t t' : Nat → Int32} {nk nc nn lo hi : Nat} {ru : Nat → Option Nat} {r k c i j m n p co rw' : Nat} {x y v z w : Int32}

theorem j_21 : (jH ad ro b s nk nc nn ru H a t).2.1 = H.2.1 := rfl
theorem j_ns (h : jOK ad ro nk nc nn lo hi) {C C2 : xC} (hl : hi ≤ H.2.1) : xset (jH ad ro b s nk nc nn ru (xnew H C n) a t) H.2.1 C2 = (jH ad ro b s nk nc nn ru (xnew H C2 n) a t) := by
  rw [j_set h hl, xnw_2]
theorem j_nl (h : jOK ad ro nk nc nn lo hi) {f : Nat → Int32} (hl : hi ≤ H.2.1) : (jH ad ro b s nk nc nn ru (xnew H (xarI m f) n) a t).1 H.2.1 = xarI m f := by
  rw [j_out h hl]; exact if_pos rfl
theorem j_nl2 (h : jOK ad ro nk nc nn lo hi) {f : Nat → Int32} (hl : hi ≤ H.2.1) : xlenI (jH ad ro b s nk nc nn ru (xnew H (xarI m f) n) a t) H.2.1 = m := xIl_of (j_nl h hl)
theorem j_nl3 (h : jOK ad ro nk nc nn lo hi) {f : Nat → Int32} (hl : hi ≤ H.2.1) : xfnI (jH ad ro b s nk nc nn ru (xnew H (xarI m f) n) a t) H.2.1 = f := xIf_of (j_nl h hl)
/-- the measures that are told of -/
def msr (a b : Nat → Nat → Int32) (t s : Nat → Int32) (nk c : Nat) : Nat → Int32 :=
  upd (upd (upd (upd (upd (upd (upd (upd (upd (upd (fun _ => 0) 0 (smeC a b t s nk c 0)) 1 (smeC a b t s nk c 1)) 2 (smeC a b t s nk c 2)) 3 (smeC a b t s nk c 3)) 4 (aroC a t b nk (a 3 c) (a 4 c))) 5 (tlB (fun i => smeC a b t s nk c (nI i)) 0 4 0 (-1))) 6 (a 5 c)) 7 (t 2)) 8 (t 0)) 9 (t 1)
theorem rvl_congr {f g : Nat → Int32} (hfg : ∀ i, i < 10 → f i = g i) : ∀ n fr dp, rvl E f n fr dp = rvl E g n fr dp
  | 0, _, _ => rfl
  | n + 1, fr, dp => by
    rw [rvl, rvl, rvl_congr hfg n, rvl_congr hfg n, rvl_congr hfg n]
    by_cases c0 : rud E fr dp = 0
    · rw [if_pos c0, if_pos c0]
    rw [if_neg c0, if_neg c0]
    by_cases c1 : rud E fr dp = 1
    · rw [if_pos c1, if_pos c1, hfg _ (run_1 c1)]
    rw [if_neg c1, if_neg c1]
theorem msr_tms (ms : Nat → Int32) : ∀ i, i < 10 → msr a b t s nk c i = tms a b t s nk c ms i := by
  intro i hi
  have e : tlM (fun i => smeC a b t s nk c (nI i)) 0 4 ms = upd (upd (upd (upd ms 0 (smeC a b t s nk c 0)) 1 (smeC a b t s nk c 1)) 2 (smeC a b t s nk c 2)) 3 (smeC a b t s nk c 3) := rfl
  unfold msr tms
  rw [e]
  unfold upd
  rcases (show i = 0 ∨ i = 1 ∨ i = 2 ∨ i = 3 ∨ i = 4 ∨ i = 5 ∨ i = 6 ∨ i = 7 ∨ i = 8 ∨ i = 9 by omega) with r | r | r | r | r | r | r | r | r | r <;> subst r <;> rfl
/-- what the rule of c tells -/
def rvC (E : xE) (a b : Nat → Nat → Int32) (t s : Nat → Int32) (nk c : Nat) : Int32 := rvl E (msr a b t s nk c) 4 (5 + 11 * c) 0
theorem l_S_te (h : jOK ad ro nk nc nn lo hi) (hB : kBo b s co rw' nk nn) (hS : kSt a t co rw' nk nn n) (hc : c < nn) {p : Nat} : ∀ m z, m ≤ 4 → z < 4 → xr E (d + 2) m_S_tells Q (12, [some (.ref (ad 1)), some (.int (nI c)), some (.ref p), some (.int (nI z)), some (.int (nI m + -1))], [], (jH ad ro b s nk nc nn ru H a t)) = xr E (d + 2) m_S_tells Q (42, [some (.ref (ad 1)), some (.int (nI c)), some (.ref p), some (.int (nI (bsL (fun i => smeC a b t s nk c (nI i)) m z))), some (.int (-1))], [], (jH ad ro b s nk nc nn ru H a t))
  | 0, z, hm, hz => by
    rw [s_S_tells_12]
    simp only [s_S_tells_14, show nI 0 + -1 = (-1 : Int32) from rfl, show ((-1 : Int32) < 0) = True from eq_true (by decide), if_true, bsL]
  | m + 1, z, hm, hz => by
    have ih := fun z hz => l_S_te h hB hS hc (p := p) m z (by omega) hz
    have hsm := fun (x : Int32) (Q : xR → Prop) => j_smell (E := E) (d := d) (Q := Q) (x := x) (H := H) (ru := ru) h hB hS hc
    rw [s_S_tells_12, nI_a1 (by omega) (by omega), Nat.add_sub_cancel]
    by_cases g : smeC a b t s nk c (nI m) < smeC a b t s nk c (nI z)
    · simp only [↓reduceIte, s_S_tells_14, s_S_tells_17, s_S_tells_18, s_S_tells_19, s_S_tells_21, s_S_tells_24, s_S_tells_25, s_S_tells_26, s_S_tells_27, s_S_tells_30, s_S_tells_33, s_S_tells_35, s_S_tells_36, s_S_tells_39, not_false_eq_true, Nat.reduceLT, Nat.reduceAdd, true_and, and_true, if_true, if_false, ite_true, ite_false, xnb_0, xnb_1, xnb_b, xk_v, xk_n, nI_n0 m (by omega), xc_of (j_1 h), hsm, eq_true g, ih z hz, bsL, if_pos g]
    · simp only [↓reduceIte, s_S_tells_14, s_S_tells_17, s_S_tells_18, s_S_tells_19, s_S_tells_21, s_S_tells_24, s_S_tells_25, s_S_tells_26, s_S_tells_27, s_S_tells_30, s_S_tells_33, s_S_tells_35, s_S_tells_36, s_S_tells_39, not_false_eq_true, Nat.reduceLT, Nat.reduceAdd, true_and, and_true, if_true, if_false, ite_true, ite_false, xnb_0, xnb_1, xnb_b, xk_v, xk_n, nI_n0 m (by omega), xc_of (j_1 h), hsm, eq_false g, ih m (by omega), bsL, if_neg g]
theorem f_S_tells (h : jOK ad ro nk nc nn lo hi) (hB : kBo b s co rw' nk nn) (hS : kSt a t co rw' nk nn n) (hc : c < nn) (hR : jR E ro ru nn hi H) (hl : hi ≤ H.2.1) : xcall E xprog (d + 5) 115 [.ref (ad 1), .int (nI c)] (jH ad ro b s nk nc nn ru H a t) Q = Q (.inl (some (.int (rvC E a b t s nk c))), (jH ad ro b s nk nc nn ru (xnew H (xarI 10 (msr a b t s nk c)) 10) a t)) := by
  have := h.2.2.1
  have hsm := fun (Z : xH) (x : Int32) (Q : xR → Prop) => j_smell (E := E) (d := d + 2) (Q := Q) (x := x) (H := Z) (ru := ru) h hB hS hc
  have har := fun (Z : xH) (x y : Int32) (Q : xR → Prop) => f_S_aroma (E := E) (d := d + 3) (x := x) (y := y) (Q := Q) (t := t) (b := b) (s := s) (ru := ru) (H := Z) h (kSt_n hS)
  have hloop := l_S_te (E := E) (d := d + 2) (Q := Q) (H := H) (ru := ru) h hB hS hc (p := ad (20 + c)) 4 0 (by omega) (by omega)
  have hbs : nI (bsL (fun i => smeC a b t s nk c (nI i)) 4 0) = tlB (fun i => smeC a b t s nk c (nI i)) 0 4 0 (-1) := bsL_is fun i => j_sm0 hB hS hc
  have hR2 : jR E ro ru nn hi (xnew H (xarI 10 (msr a b t s nk c)) 10) := jR_fr hR fun n hn => by rw [xnew_g, if_neg (by omega)]
  obtain ⟨p, l, q, r1, r2⟩ := jR_J (ad := ad) (b := b) (s := s) (nk := nk) (nc := nc) (a := a) (t := t) hR2 hc
  have hof := fun (Q : xR → Prop) => r_of (E := E) (d := d) (ms := H.2.1) (g := msr a b t s nk c) (j_nl h hl) 3 _ _ _ r2 (by omega) Q
  have hpc : xcl (jH ad ro b s nk nc nn ru (xnew H (xarI 10 (msr a b t s nk c)) 10) a t) p = 9 := by
    obtain ⟨-, -, r', h', -, -, u1, -⟩ := r2
    exact xc_of u1
  have e1 : xr E (d + 4) m_S_tells Q (0, [some (.ref (ad 1)), some (.int (nI c)), none, none, none], [], (jH ad ro b s nk nc nn ru H a t)) = xr E (d + 4) m_S_tells Q (12, [some (.ref (ad 1)), some (.int (nI c)), some (.ref (ad (20 + c))), some (.int 0), some (.int 3)], [], (jH ad ro b s nk nc nn ru H a t)) := by
    simp only [s_S_tells_0, s_S_tells_1, s_S_tells_4, s_S_tells_5, s_S_tells_6, s_S_tells_7, s_S_tells_8, s_S_tells_9, s_S_tells_10, not_false_eq_true, Nat.reduceLT, Nat.reduceAdd, true_and, and_true, if_true, if_false, ite_true, ite_false, xnb_0, xnb_1, xnb_b, xk_v, xk_n, xf_of (j_1 h), xll_10, xlg_10_0, xlg_10_1, xlg_10_2, xlg_10_3, xlg_10_4, xlg_10_5, xlg_10_6, xlg_10_7, xlg_10_8, (xA_of (j_4 h)).1, (xA_of (j_4 h)).2.1, nvp hc (by omega), ncl (show c < 2147483648 by omega), if_pos hc, xrf_s]
  rw [e_S_tells, e1]
  refine Eq.trans (show _ = xr E (d + 4) m_S_tells Q (12, [some (.ref (ad 1)), some (.int (nI c)), some (.ref (ad (20 + c))), some (.int (nI 0)), some (.int (nI 4 + -1))], [], (jH ad ro b s nk nc nn ru H a t)) from rfl) (hloop.trans ?_)
  rw [hbs]
  have w0 : vp_in 0 10 = True := nvp (i := 0) (by omega) (by omega)
  have w1 : vp_in 1 10 = True := nvp (i := 1) (by omega) (by omega)
  have w2 : vp_in 2 10 = True := nvp (i := 2) (by omega) (by omega)
  have w3 : vp_in 3 10 = True := nvp (i := 3) (by omega) (by omega)
  have w4 : vp_in 4 10 = True := nvp (i := 4) (by omega) (by omega)
  have w5 : vp_in 5 10 = True := nvp (i := 5) (by omega) (by omega)
  have w6 : vp_in 6 10 = True := nvp (i := 6) (by omega) (by omega)
  have w7 : vp_in 7 10 = True := nvp (i := 7) (by omega) (by omega)
  have w8 : vp_in 8 10 = True := nvp (i := 8) (by omega) (by omega)
  have w9 : vp_in 9 10 = True := nvp (i := 9) (by omega) (by omega)
  simp only [s_S_tells_42, s_S_tells_43, s_S_tells_46, s_S_tells_47, s_S_tells_48, s_S_tells_50, s_S_tells_52, s_S_tells_53, s_S_tells_54, s_S_tells_55, s_S_tells_56, s_S_tells_57, s_S_tells_60, s_S_tells_61, s_S_tells_62, s_S_tells_63, s_S_tells_64, s_S_tells_65, s_S_tells_66, s_S_tells_69, s_S_tells_70, s_S_tells_71, s_S_tells_72, s_S_tells_73, s_S_tells_74, s_S_tells_75, s_S_tells_78, s_S_tells_79, s_S_tells_80, s_S_tells_81, s_S_tells_82, s_S_tells_83, s_S_tells_84, s_S_tells_87, s_S_tells_88, s_S_tells_89, s_S_tells_90, s_S_tells_91, s_S_tells_92, s_S_tells_93, s_S_tells_94, s_S_tells_95, s_S_tells_96, s_S_tells_97, s_S_tells_100, s_S_tells_101, s_S_tells_102, s_S_tells_103, s_S_tells_104, s_S_tells_105, s_S_tells_106, s_S_tells_108, s_S_tells_109, s_S_tells_110, s_S_tells_111, s_S_tells_112, s_S_tells_113, s_S_tells_115, s_S_tells_116, s_S_tells_119, s_S_tells_120, s_S_tells_121, s_S_tells_123, s_S_tells_124, s_S_tells_127, s_S_tells_128, s_S_tells_129, s_S_tells_131, s_S_tells_132, s_S_tells_135, s_S_tells_136, s_S_tells_139, not_false_eq_true, Nat.reduceLT, Nat.reduceAdd, true_and, and_true, if_true, if_false, ite_true, ite_false, xnb_0, xnb_1, xnb_b, xk_v, xk_n, xf_of (j_1 h), xc_of (j_1 h), xll_10, xlg_10_0, xlg_10_1, xlg_10_2, xlg_10_3, xlg_10_4, xlg_10_5, xlg_10_6, xlg_10_7, xlg_10_8, (xR_of (j_5 h)).1, (xR_of (j_5 h)).2.1, nvp hc (by omega), ncl (show c < 2147483648 by omega), r1, xrf_s, show ((10 : Int32) < 0) = False from eq_false (by decide), show (10 : Int32).toNatClampNeg = 10 from rfl, show (10 * 4 ≤ 536870912) = True from eq_true (by decide), j_21, j_new h hl, j_nl2 h hl, j_nl3 h hl, j_ns h hl, hsm, har, w0, w1, w2, w3, w4, w5, w6, w7, w8, w9, ic_0, ic_1, ic_2, ic_3, ic_4, ic_5, ic_6, ic_7, ic_8, show (9 : Int32).toNatClampNeg = 9 from rfl, xIl_of (j_c h hc), xIf_of (j_c h hc), v9_3, v9_4, v9_5, cf_3, cf_4, cf_5]
  show (xcl (jH ad ro b s nk nc nn ru (xnew H (xarI 10 (msr a b t s nk c)) 10) a t) p = 9 ∧ xcall E xprog (d + 1 + 3) 108 [.ref p, .ref H.2.1] (jH ad ro b s nk nc nn ru (xnew H (xarI 10 (msr a b t s nk c)) 10) a t) _) = Q (.inl (some (.int (rvC E a b t s nk c))), (jH ad ro b s nk nc nn ru (xnew H (xarI 10 (msr a b t s nk c)) 10) a t))
  rw [hof, eq_true hpc]
  simp only [s_S_tells_139, not_false_eq_true, Nat.reduceLT, Nat.reduceAdd, true_and, and_true, if_true, if_false, ite_true, ite_false, xnb_0, xnb_1, xnb_b, xk_v, xk_n, xk_v]
  rfl
end SIM4
