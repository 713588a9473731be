/-! ===== the class's tokens: all of a tape; the next one ===== -/
section CUT
variable {E : xE} {d : Nat} {Q : xR → Prop} {H : xH} {K : Nat} {tp : Nat → Int32} {L : Int32} {er : Int32} {ep : Int32} {cc : Int32} {cr : Int32} {cnt : Int32} {nx : Int32} {kd : Nat → Int32} {st : Nat → Int32} {vl : Nat → Int64} {wd : Nat → Int64} {b : Nat → Nat → Int32} {nm : Nat → Int64} {s : Nat → Int32}
variable {T : Nat → Nat} {l : Nat}
/-- where token i is looked for, where it begins, its value, its kind -/
def ps (T : Nat → Nat) (l : Nat) : Nat → Nat
  | 0 => 0
  | i + 1 => eot T l (blk T l (ps T l i))
def sta (T : Nat → Nat) (l i : Nat) : Nat := blk T l (ps T l i)
def vaT (T : Nat → Nat) (l i : Nat) : Int64 := vlo T l (ps T l (i + 1) - sta T l i) (sta T l i) 0
def kdT (T : Nat → Nat) (l : Nat) (wd : Nat → Int64) (i : Nat) : Int32 := if i < 400 ∨ ¬ sta T l i < l then kdo T l wd (sta T l i) (ps T l (i + 1)) (vaT T l i) else 1
/-- how many of at most m tokens from i on are looked at -/
def ctn (k : Nat → Int32) : Nat → Nat → Nat
  | _, 0 => 0
  | i, m + 1 => if k i = 0 ∨ k i = 1 then 1 else ctn k (i + 1) m + 1
def filL (g : Nat → Int64) : Nat → Nat → (Nat → Int64) → Nat → Int64
  | _, 0, f => f
  | i, m + 1, f => filL g (i + 1) m (vp_updL f i (g i))
theorem updL_s {f : Nat → Int64} {i : Nat} {v : Int64} : vp_updL f i v i = v := if_pos rfl
theorem updL_o {f : Nat → Int64} {i j : Nat} {v : Int64} (h : ¬ j = i) : vp_updL f i v j = f j := if_neg h
theorem blk_le {i : Nat} (h : i ≤ l) : i ≤ blk T l i ∧ blk T l i ≤ l := by
  have := scn_le (p := pB T l) (l - i) i
  unfold blk
  omega
theorem eot_le {i : Nat} (h : i < l) : i < eot T l i ∧ eot T l i ≤ l := by
  have h1 := scn_le (p := pL T l) (l - (i + 1)) (i + 1)
  have h2 := scn_le (p := pD T l) (l - (i + 1)) (i + 1)
  unfold eot
  split
  · omega
  split <;> omega
theorem eot_l (h : ¬ l < l) : eot T l l = l + 1 := by
  unfold eot
  rw [if_neg (by rw [pL_f (fun w => h w.1)]; decide), if_neg (by rw [pD_f (fun w => h w.1)]; decide)]
theorem kdT_0 {i : Nat} (h : ¬ sta T l i < l) : kdT T l wd i = 0 := by
  unfold kdT kdo
  rw [if_pos (Or.inr h), if_neg h]
theorem ps_le {i : Nat} (hp : ps T l i ≤ l) : ps T l i ≤ sta T l i ∧ sta T l i ≤ l ∧ sta T l i ≤ ps T l (i + 1) ∧ ps T l (i + 1) ≤ l + 1 ∧ (¬ kdT T l wd i = 0 → ps T l (i + 1) ≤ l ∧ sta T l i < l) := by
  have h1 : ps T l i ≤ sta T l i ∧ sta T l i ≤ l := blk_le hp
  refine ⟨h1.1, h1.2, ?_⟩
  by_cases p : sta T l i < l
  · have h2 : sta T l i < ps T l (i + 1) ∧ ps T l (i + 1) ≤ l := eot_le p
    exact ⟨by omega, by omega, fun _ => ⟨h2.2, p⟩⟩
  · have e : sta T l i = l := by omega
    have h2 : ps T l (i + 1) = l + 1 := by
      show eot T l (sta T l i) = l + 1
      rw [e]
      exact eot_l (Nat.lt_irrefl l)
    exact ⟨by omega, by omega, fun h => absurd (kdT_0 p) h⟩
theorem l_To_cut (hb : byt T tp) (hl : l ≤ 1600) : ∀ m i (kd st : Nat → Int32) (vl : Nat → Int64) (j3 : Option Value), i + m = 401 → ps T l i ≤ l →
    xr E (d + 5) m_To_cutTape Q (14, [some (.ref 4), some (.int (nI (ps T l i))), some (.int (nI i)), j3], [], (rH H K tp (nI l) er ep cc cr (nI i) 0 kd st vl wd b nm s)) =
      Q (.inl none, (rH H K tp (nI l) er ep cc cr (nI (i + ctn (kdT T l wd) i m)) 0 (fil (kdT T l wd) i (ctn (kdT T l wd) i m) kd) (fil (fun j => nI (sta T l j)) i (ctn (kdT T l wd) i m) st) (filL (vaT T l) i (ctn (kdT T l wd) i m) vl) wd b nm s)) := by
  intro m
  induction m with
  | zero =>
    intro i kd st vl j3 hi hp
    rw [s_To_cutTape_14]
    simp only [s_To_cutTape_15, s_To_cutTape_18, s_To_cutTape_126, not_false_eq_true, Nat.reduceLT, Nat.reduceAdd, true_and, and_true, if_true, if_false, ite_true, ite_false, xnb_0, xnb_1, xnb_b, xk_v, xk_n, show ((400 : Int32) < nI i) = True from nlt (i := 400) (n := i) (by omega) (by omega), ctn, fil, filL, Nat.add_zero]
  | succ m ih =>
    intro i kd st vl j3 hi hp
    obtain ⟨h1, h2, h3, h4, h5⟩ := ps_le (wd := wd) hp
    have e1 : blk T l (ps T l i) = sta T l i := rfl
    have e2 : eot T l (sta T l i) = ps T l (i + 1) := rfl
    have e3 : vlo T l (ps T l (i + 1) - sta T l i) (sta T l i) 0 = vaT T l i := rfl
    have hk : (kd : Nat → Int32) → (st : Nat → Int32) → (vl : Nat → Int64) → xr E (d + 5) m_To_cutTape Q (85, [some (.ref 4), some (.int (nI (ps T l (i + 1)))), some (.int (nI i)), some (.int (nI (sta T l i)))], [.int (kdT T l wd i), .int (nI i), .ref 6], (rH H K tp (nI l) er ep cc cr (nI i) 0 kd st vl wd b nm s)) =
        if kdT T l wd i = 0 ∨ kdT T l wd i = 1 then Q (.inl none, (rH H K tp (nI l) er ep cc cr (nI (i + 1)) 0 (upd kd i (kdT T l wd i)) (upd st i (nI (sta T l i))) vl wd b nm s))
        else xr E (d + 5) m_To_cutTape Q (14, [some (.ref 4), some (.int (nI (ps T l (i + 1)))), some (.int (nI (i + 1))), some (.int (nI (sta T l i)))], [], (rH H K tp (nI l) er ep cc cr (nI (i + 1)) 0 (upd kd i (kdT T l wd i)) (upd st i (nI (sta T l i))) vl wd b nm s)) := by
      intro kd st vl
      simp only [s_To_cutTape_85, s_To_cutTape_86, s_To_cutTape_87, s_To_cutTape_90, s_To_cutTape_91, s_To_cutTape_92, s_To_cutTape_93, s_To_cutTape_94, s_To_cutTape_95, s_To_cutTape_96, s_To_cutTape_97, s_To_cutTape_100, s_To_cutTape_101, s_To_cutTape_104, s_To_cutTape_105, s_To_cutTape_106, s_To_cutTape_109, s_To_cutTape_110, s_To_cutTape_113, s_To_cutTape_114, s_To_cutTape_115, s_To_cutTape_116, s_To_cutTape_119, s_To_cutTape_120, s_To_cutTape_123, rF_4, rC_4, rl_6, rf_6, rl_7, rf_7, rw_4, rw_6, rw_7, xll_7, xlg_7_0, xlg_7_1, xlg_7_2, xlg_7_3, xlg_7_4, xlg_7_5, xlg_7_6, xls_7_0, xls_7_1, xls_7_2, xls_7_3, xls_7_4, xls_7_5, xls_7_6, not_false_eq_true, Nat.reduceLT, Nat.reduceAdd, true_and, and_true, if_true, if_false, ite_true, ite_false, xnb_0, xnb_1, xnb_b, xk_v, xk_n, nvp (show i < 401 by omega) (by omega), ncl (show i < 2147483648 by omega), nI_1, upd_s]
      by_cases p : kdT T l wd i = 0
      · rw [if_pos p, if_pos (Or.inl p)]
      · rw [if_neg p]
        by_cases r : kdT T l wd i = 1
        · rw [if_pos r, if_pos (Or.inr r)]
        · rw [if_neg r, if_neg (fun h => h.elim p r)]
    have hall : xr E (d + 5) m_To_cutTape Q (14, [some (.ref 4), some (.int (nI (ps T l i))), some (.int (nI i)), j3], [], (rH H K tp (nI l) er ep cc cr (nI i) 0 kd st vl wd b nm s)) =
        xr E (d + 5) m_To_cutTape Q (85, [some (.ref 4), some (.int (nI (ps T l (i + 1)))), some (.int (nI i)), some (.int (nI (sta T l i)))], [.int (kdT T l wd i), .int (nI i), .ref 6], (rH H K tp (nI l) er ep cc cr (nI i) 0 kd st (vp_updL vl i (vaT T l i)) wd b nm s)) := by
      have q4 : ((400 : Int32) < nI i) = False := nge (n := i) (i := 400) (by omega) (by omega)
      have q5 : (nI i < (400 : Int32)) = (i < 400) := n_lt (b := 400) (by omega) (by omega)
      rw [s_To_cutTape_14]
      simp only [s_To_cutTape_15, s_To_cutTape_18, s_To_cutTape_21, s_To_cutTape_22, s_To_cutTape_23, s_To_cutTape_26, s_To_cutTape_27, s_To_cutTape_28, s_To_cutTape_29, s_To_cutTape_32, s_To_cutTape_33, s_To_cutTape_34, s_To_cutTape_37, s_To_cutTape_38, s_To_cutTape_39, s_To_cutTape_40, s_To_cutTape_41, s_To_cutTape_44, s_To_cutTape_45, s_To_cutTape_46, s_To_cutTape_49, s_To_cutTape_50, s_To_cutTape_51, s_To_cutTape_54, s_To_cutTape_57, s_To_cutTape_58, s_To_cutTape_61, s_To_cutTape_62, s_To_cutTape_65, s_To_cutTape_66, s_To_cutTape_69, s_To_cutTape_70, s_To_cutTape_71, s_To_cutTape_72, s_To_cutTape_73, s_To_cutTape_76, s_To_cutTape_77, s_To_cutTape_78, s_To_cutTape_81, s_To_cutTape_84, rF_4, rC_4, rF_1, rC_1, rl_8, rf_8, rw_8, xll_7, xlg_7_0, xlg_7_1, xlg_7_2, xlg_7_3, xlg_7_4, xlg_7_5, xlg_7_6, xll_6, xlg_6_0, xlg_6_1, not_false_eq_true, Nat.reduceLT, Nat.reduceAdd, true_and, and_true, if_true, if_false, ite_true, ite_false, xnb_0, xnb_1, xnb_b, xk_v, xk_n, q4, q5, f_To_beh hb hl (ps T l i) hp, e1, f_To_eot hb hl (sta T l i) (by omega), e2, f_To_val hb hl (sta T l i) (ps T l (i + 1)) h3 (by omega), e3, nvp (show i < 401 by omega) (by omega), ncl (show i < 2147483648 by omega), f_Ta_byteAt hb hl (sta T l i) (by omega), f_To_kdo hb hl (sta T l i) (ps T l (i + 1)) h3 (by omega), updL_s]
      by_cases p : i < 400
      · have e : kdT T l wd i = kdo T l wd (sta T l i) (ps T l (i + 1)) (vaT T l i) := if_pos (Or.inl p)
        rw [if_pos p, e]
      · rw [if_neg p]
        by_cases r : sta T l i < l
        · have e : kdT T l wd i = 1 := if_neg (fun h => h.elim p (fun w => w r))
          have e0 : bA T l (sta T l i) = nI (T (sta T l i)) := if_pos r
          have hT := (hb (sta T l i)).1
          rw [if_neg (by rw [e0, nI_m1 (by omega)]; exact id), e]
        · have e : kdT T l wd i = kdo T l wd (sta T l i) (ps T l (i + 1)) (vaT T l i) := if_pos (Or.inr r)
          have e0 : bA T l (sta T l i) = -1 := if_neg r
          rw [if_pos e0, e]
    rw [hall, hk]
    by_cases p : kdT T l wd i = 0 ∨ kdT T l wd i = 1
    · have ec : ctn (kdT T l wd) i (m + 1) = 1 := if_pos p
      rw [if_pos p, ec]
      rfl
    · have ec : ctn (kdT T l wd) i (m + 1) = ctn (kdT T l wd) (i + 1) m + 1 := if_neg p
      rw [if_neg p, ec, ih (i + 1) _ _ _ _ (by omega) (h5 (fun h => p (Or.inl h))).1, show i + 1 + ctn (kdT T l wd) (i + 1) m = i + (ctn (kdT T l wd) (i + 1) m + 1) by omega]
      rfl
theorem f_To_cut (hb : byt T tp) (hl : l ≤ 1600) : xcall E xprog (d + 6) 53 [.ref 4] (rH H K tp (nI l) er ep cc cr cnt nx kd st vl wd b nm s) Q =
      Q (.inl none, (rH H K tp (nI l) er ep cc cr (nI (ctn (kdT T l wd) 0 401)) 0 (fil (kdT T l wd) 0 (ctn (kdT T l wd) 0 401) kd) (fil (fun j => nI (sta T l j)) 0 (ctn (kdT T l wd) 0 401) st) (filL (vaT T l) 0 (ctn (kdT T l wd) 0 401) vl) wd b nm s)) := by
  rw [e_To_cutTape]
  simp only [s_To_cutTape_0, s_To_cutTape_1, s_To_cutTape_2, s_To_cutTape_5, s_To_cutTape_6, s_To_cutTape_7, s_To_cutTape_10, s_To_cutTape_11, s_To_cutTape_12, s_To_cutTape_13, rF_4, rC_4, rw_4, xll_7, xlg_7_0, xlg_7_1, xlg_7_2, xlg_7_3, xlg_7_4, xlg_7_5, xlg_7_6, xls_7_0, xls_7_1, xls_7_2, xls_7_3, xls_7_4, xls_7_5, xls_7_6, not_false_eq_true, Nat.reduceLT, Nat.reduceAdd, true_and, and_true, if_true, if_false, ite_true, ite_false, xnb_0, xnb_1, xnb_b, xk_v, xk_n]
  have h := l_To_cut (E := E) (d := d) (Q := Q) (H := H) (K := K) (er := er) (ep := ep) (cc := cc) (cr := cr) (wd := wd) (b := b) (nm := nm) (s := s) hb hl 401 0 kd st vl none rfl (Nat.zero_le _)
  rw [Nat.zero_add] at h
  exact h
variable {c x : Nat}
theorem f_To_kindHere (hc : c ≤ 401) (hx : x < c) : xcall E xprog (d + 1) 54 [.ref 4] (rH H K tp L er ep cc cr (nI c) (nI x) kd st vl wd b nm s) Q = Q (.inl (some (.int (kd x))), (rH H K tp L er ep cc cr (nI c) (nI x) kd st vl wd b nm s)) := by
  rw [e_To_kindHere]
  simp only [s_To_kindHere_0, s_To_kindHere_1, s_To_kindHere_4, s_To_kindHere_7, s_To_kindHere_8, s_To_kindHere_11, s_To_kindHere_12, s_To_kindHere_15, s_To_kindHere_18, s_To_kindHere_19, s_To_kindHere_22, s_To_kindHere_23, s_To_kindHere_26, s_To_kindHere_27, s_To_kindHere_30, s_To_kindHere_31, rF_4, rC_4, rl_6, rf_6, xll_7, xlg_7_0, xlg_7_1, xlg_7_2, xlg_7_3, xlg_7_4, xlg_7_5, xlg_7_6, not_false_eq_true, Nat.reduceLT, Nat.reduceAdd, true_and, and_true, if_true, if_false, ite_true, ite_false, xnb_0, xnb_1, xnb_b, xk_v, xk_n, nI_n0 x (by omega), nlt hx (by omega), nvp (show x < 401 by omega) (by omega), ncl (show x < 2147483648 by omega)]
theorem f_To_startHere (hc : c ≤ 401) (hx : x < c) : xcall E xprog (d + 1) 55 [.ref 4] (rH H K tp L er ep cc cr (nI c) (nI x) kd st vl wd b nm s) Q = Q (.inl (some (.int (st x))), (rH H K tp L er ep cc cr (nI c) (nI x) kd st vl wd b nm s)) := by
  rw [e_To_startHere]
  simp only [s_To_startHere_0, s_To_startHere_1, s_To_startHere_4, s_To_startHere_7, s_To_startHere_8, s_To_startHere_11, s_To_startHere_12, s_To_startHere_15, s_To_startHere_18, s_To_startHere_19, s_To_startHere_22, s_To_startHere_23, s_To_startHere_26, s_To_startHere_27, s_To_startHere_30, s_To_startHere_31, s_To_startHere_34, s_To_startHere_37, rF_4, rC_4, rl_7, rf_7, xll_7, xlg_7_0, xlg_7_1, xlg_7_2, xlg_7_3, xlg_7_4, xlg_7_5, xlg_7_6, not_false_eq_true, Nat.reduceLT, Nat.reduceAdd, true_and, and_true, if_true, if_false, ite_true, ite_false, xnb_0, xnb_1, xnb_b, xk_v, xk_n, nI_n0 x (by omega), nlt hx (by omega), nvp (show x < 401 by omega) (by omega), ncl (show x < 2147483648 by omega)]
theorem f_To_valueHere (hc : c ≤ 401) (hx : x < c) : xcall E xprog (d + 1) 56 [.ref 4] (rH H K tp L er ep cc cr (nI c) (nI x) kd st vl wd b nm s) Q = Q (.inl (some (.long (vl x))), (rH H K tp L er ep cc cr (nI c) (nI x) kd st vl wd b nm s)) := by
  rw [e_To_valueHere]
  simp only [s_To_valueHere_0, s_To_valueHere_1, s_To_valueHere_4, s_To_valueHere_7, s_To_valueHere_8, s_To_valueHere_11, s_To_valueHere_12, s_To_valueHere_15, s_To_valueHere_18, s_To_valueHere_19, s_To_valueHere_22, s_To_valueHere_23, s_To_valueHere_26, s_To_valueHere_27, s_To_valueHere_30, s_To_valueHere_31, rF_4, rC_4, rl_8, rf_8, xll_7, xlg_7_0, xlg_7_1, xlg_7_2, xlg_7_3, xlg_7_4, xlg_7_5, xlg_7_6, not_false_eq_true, Nat.reduceLT, Nat.reduceAdd, true_and, and_true, if_true, if_false, ite_true, ite_false, xnb_0, xnb_1, xnb_b, xk_v, xk_n, nI_n0 x (by omega), nlt hx (by omega), nvp (show x < 401 by omega) (by omega), ncl (show x < 2147483648 by omega)]
theorem f_To_skip : xcall E xprog (d + 1) 57 [.ref 4] (rH H K tp L er ep cc cr cnt (nI x) kd st vl wd b nm s) Q = Q (.inl none, (rH H K tp L er ep cc cr cnt (nI (x + 1)) kd st vl wd b nm s)) := by
  rw [e_To_skip]
  simp only [s_To_skip_0, s_To_skip_1, s_To_skip_2, s_To_skip_5, s_To_skip_6, s_To_skip_7, s_To_skip_10, rF_4, rC_4, rw_4, xll_7, xlg_7_0, xlg_7_1, xlg_7_2, xlg_7_3, xlg_7_4, xlg_7_5, xlg_7_6, xls_7_0, xls_7_1, xls_7_2, xls_7_3, xls_7_4, xls_7_5, xls_7_6, not_false_eq_true, Nat.reduceLT, Nat.reduceAdd, true_and, and_true, if_true, if_false, ite_true, ite_false, xnb_0, xnb_1, xnb_b, xk_v, xk_n, nI_1]
theorem f_To_take (hc : c ≤ 401) (hx : x < c) (k : Int32) : xcall E xprog (d + 2) 58 [.ref 4, .int k] (rH H K tp L er ep cc cr (nI c) (nI x) kd st vl wd b nm s) Q = if kd x = k then Q (.inl (some (.int 1)), (rH H K tp L er ep cc cr (nI c) (nI (x + 1)) kd st vl wd b nm s)) else Q (.inl (some (.int 0)), (rH H K tp L er ep cc cr (nI c) (nI x) kd st vl wd b nm s)) := by
  rw [e_To_take]
  simp only [s_To_take_0, s_To_take_1, s_To_take_4, s_To_take_5, s_To_take_8, s_To_take_9, s_To_take_10, s_To_take_11, s_To_take_12, s_To_take_15, s_To_take_16, s_To_take_17, s_To_take_20, s_To_take_21, rF_4, rC_4, rw_4, xll_7, xlg_7_0, xlg_7_1, xlg_7_2, xlg_7_3, xlg_7_4, xlg_7_5, xlg_7_6, xls_7_0, xls_7_1, xls_7_2, xls_7_3, xls_7_4, xls_7_5, xls_7_6, not_false_eq_true, Nat.reduceLT, Nat.reduceAdd, true_and, and_true, if_true, if_false, ite_true, ite_false, xnb_0, xnb_1, xnb_b, xk_v, xk_n, nI_1, f_To_kindHere hc hx]
end CUT
