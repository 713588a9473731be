/-! ===== the class reads a tape ===== -/
section READ
variable {E : xE} {d : Nat} {Q : xR → Prop} {H : xH} {K : Nat} {tp : Nat → Int32} {L : Int32} {er : Int32} {ep : Int32} {cc : Int32} {cr : Int32} {cnt : Int32} {nx : Int32} {kd : Nat → Int32} {st : Nat → Int32} {vl : Nat → Int64} {wd : Nat → Int64} {b : Nat → Nat → Int32} {nm : Nat → Int64} {s : Nat → Int32}
variable {T : Nat → Nat} {l : Nat}
theorem ctn_ok (k : Nat → Int32) (h400 : k 400 = 0 ∨ k 400 = 1) : ∀ m i, i + (m + 1) = 401 → 1 ≤ ctn k i (m + 1) ∧ i + ctn k i (m + 1) ≤ 401 ∧ (k (i + ctn k i (m + 1) - 1) = 0 ∨ k (i + ctn k i (m + 1) - 1) = 1) ∧ ∀ j, i ≤ j → j < i + ctn k i (m + 1) - 1 → ¬ k j = 0 ∧ ¬ k j = 1 := by
  intro m
  induction m with
  | zero =>
    intro i hi
    have : i = 400 := by omega
    subst this
    have e : ctn k 400 1 = 1 := if_pos h400
    rw [e]
    exact ⟨by omega, by omega, h400, fun j h1 h2 => absurd h1 (by omega)⟩
  | succ m ih =>
    intro i hi
    by_cases p : k i = 0 ∨ k i = 1
    · have e : ctn k i (m + 1 + 1) = 1 := if_pos p
      rw [e]
      exact ⟨by omega, by omega, p, fun j h1 h2 => absurd h1 (by omega)⟩
    · have e : ctn k i (m + 1 + 1) = ctn k (i + 1) (m + 1) + 1 := if_neg p
      obtain ⟨h1, h2, h3, h4⟩ := ih (i + 1) (by omega)
      rw [e]
      rw [show i + (ctn k (i + 1) (m + 1) + 1) = i + 1 + ctn k (i + 1) (m + 1) by omega]
      refine ⟨by omega, h2, h3, fun j h1 h2 => ?_⟩
      by_cases q : j = i
      · subst q
        exact ⟨fun h => p (Or.inl h), fun h => p (Or.inr h)⟩
      · exact h4 j (by omega) h2
theorem kdT_400 : kdT T l wd 400 = 0 ∨ kdT T l wd 400 = 1 := by
  by_cases h : sta T l 400 < l
  · exact Or.inr (if_neg (fun w => w.elim (by omega) (fun v => v h)))
  · exact Or.inl (kdT_0 h)
/-- the last token's number -/
def lst (T : Nat → Nat) (l : Nat) (wd : Nat → Int64) : Nat := ctn (kdT T l wd) 0 401 - 1
theorem lst_ok : lst T l wd ≤ 400 ∧ ctn (kdT T l wd) 0 401 = lst T l wd + 1 ∧ (kdT T l wd (lst T l wd) = 0 ∨ kdT T l wd (lst T l wd) = 1) ∧ ∀ j, j < lst T l wd → ¬ kdT T l wd j = 0 ∧ ¬ kdT T l wd j = 1 := by
  have h : 1 ≤ ctn (kdT T l wd) 0 401 ∧ 0 + ctn (kdT T l wd) 0 401 ≤ 401 ∧ (kdT T l wd (0 + ctn (kdT T l wd) 0 401 - 1) = 0 ∨ kdT T l wd (0 + ctn (kdT T l wd) 0 401 - 1) = 1) ∧ ∀ j, 0 ≤ j → j < 0 + ctn (kdT T l wd) 0 401 - 1 → ¬ kdT T l wd j = 0 ∧ ¬ kdT T l wd j = 1 := ctn_ok (kdT T l wd) kdT_400 400 0 rfl
  obtain ⟨h1, h2, h3, h4⟩ := h
  unfold lst
  rw [Nat.zero_add] at h3 h2 h4
  exact ⟨by omega, by omega, h3, fun j hj => h4 j (Nat.zero_le _) hj⟩
/-- the class's rows of tokens, when a tape is cut -/
def kdA (T : Nat → Nat) (l : Nat) (wd : Nat → Int64) (kd : Nat → Int32) : Nat → Int32 := fil (kdT T l wd) 0 (ctn (kdT T l wd) 0 401) kd
def stA (T : Nat → Nat) (l : Nat) (wd : Nat → Int64) (st : Nat → Int32) : Nat → Int32 := fil (fun j => nI (sta T l j)) 0 (ctn (kdT T l wd) 0 401) st
def vlA (T : Nat → Nat) (l : Nat) (wd : Nat → Int64) (vl : Nat → Int64) : Nat → Int64 := filL (vaT T l) 0 (ctn (kdT T l wd) 0 401) vl
theorem filL_g {v f : Nat → Int64} : ∀ m i j, filL v i m f j = if i ≤ j ∧ j < i + m then v j else f j := by
  intro m
  induction m generalizing f with
  | zero => intro i j; exact (if_neg (by omega)).symm
  | succ m ih =>
    intro i j
    show filL v (i + 1) m (vp_updL f i (v i)) j = _
    rw [ih]
    by_cases p : j = i
    · subst p
      rw [if_neg (by omega), if_pos (by omega), updL_s]
    · by_cases r : i + 1 ≤ j ∧ j < i + 1 + m
      · rw [if_pos r, if_pos (by omega)]
      · rw [if_neg r, if_neg (by omega), updL_o p]
theorem kdA_is {j : Nat} (h : j ≤ lst T l wd) : kdA T l wd kd j = kdT T l wd j := by
  have := lst_ok (T := T) (l := l) (wd := wd)
  unfold kdA
  rw [fil_g, if_pos (by omega)]
theorem stA_is {j : Nat} (h : j ≤ lst T l wd) : stA T l wd st j = nI (sta T l j) := by
  have := lst_ok (T := T) (l := l) (wd := wd)
  unfold stA
  rw [fil_g, if_pos (by omega)]
theorem vlA_is {j : Nat} (h : j ≤ lst T l wd) : vlA T l wd vl j = vaT T l j := by
  have := lst_ok (T := T) (l := l) (wd := wd)
  unfold vlA
  rw [filL_g, if_pos (by omega)]
theorem f_Bk_empty (hK : 9 < K) : xcall E xprog (d + 1) 19 [.ref K] (rH H K tp L er ep cc cr cnt nx kd st vl wd b nm s) Q = Q (.inl none, (rH H K tp L er ep cc cr cnt nx kd st vl wd b nm (six 6 6 0 0 0 0))) := by
  rw [e_Bk_empty]
  simp only [s_Bk_empty_0, s_Bk_empty_1, s_Bk_empty_4, s_Bk_empty_5, s_Bk_empty_8, s_Bk_empty_9, s_Bk_empty_11, s_Bk_empty_14, s_Bk_empty_15, s_Bk_empty_17, s_Bk_empty_20, s_Bk_empty_21, s_Bk_empty_22, s_Bk_empty_25, s_Bk_empty_26, s_Bk_empty_27, s_Bk_empty_30, s_Bk_empty_31, s_Bk_empty_32, s_Bk_empty_35, rC_K hK, rF_K hK, rC_K1 hK, rF_K1 hK, rw_K hK, rw_K1 hK, xll_1, xlg_1_0, xlg_1_1, xlg_1_2, xlg_1_3, xlg_1_4, xlg_1_5, xlg_1_6, xlg_1_7, xlg_1_8, xlg_1_9, xlg_1_10, xlg_1_11, xlg_1_12, xlg_1_13, xlg_1_14, xlg_1_15, xlg_1_16, xll_5, xlg_5_0, xlg_5_1, xlg_5_2, xls_1_0, xls_1_1, xls_1_2, xls_1_3, xls_1_4, xls_1_5, xls_1_6, xls_1_7, xls_1_8, xls_1_9, xls_1_10, xls_1_11, xls_1_12, xls_1_13, xls_1_14, xls_1_15, xls_1_16, xls_5_0, xls_5_1, xls_5_2, six_0, six_1, six_2, six_3, six_4, six_5, not_false_eq_true, Nat.reduceLT, Nat.reduceAdd, true_and, and_true, if_true, if_false, ite_true, ite_false, xnb_0, xnb_1, xnb_b, xk_v, xk_n]
theorem f_BR_read (hK : 9 < K) (hb : byt T tp) (hl : l ≤ 1600) (hN : ∀ x, x ≤ lst T l wd → kdT T l wd x = 2 → ∃ m, m ≤ 9999 ∧ (vaT T l x).toInt32 = nI m) :
    xcall E xprog (d + 153) 28 [.ref 3, .ref K] (rH H K tp (nI l) er ep cc cr cnt nx kd st vl wd b nm s) Q = Q (.inl (some (.int (rdP (kdA T l wd kd) (fun i => (vlA T l wd vl i).toInt32) (stA T l wd st) (vlA T l wd vl) 401 0 0 (0, -1) (cc, cr) ((b, nm, (6, 6), 0, 0, 0, 0) : bkS)).2.1.1)), (rH H K tp (nI l) (rdP (kdA T l wd kd) (fun i => (vlA T l wd vl i).toInt32) (stA T l wd st) (vlA T l wd vl) 401 0 0 (0, -1) (cc, cr) ((b, nm, (6, 6), 0, 0, 0, 0) : bkS)).2.1.1 (rdP (kdA T l wd kd) (fun i => (vlA T l wd vl i).toInt32) (stA T l wd st) (vlA T l wd vl) 401 0 0 (0, -1) (cc, cr) ((b, nm, (6, 6), 0, 0, 0, 0) : bkS)).2.1.2 (rdP (kdA T l wd kd) (fun i => (vlA T l wd vl i).toInt32) (stA T l wd st) (vlA T l wd vl) 401 0 0 (0, -1) (cc, cr) ((b, nm, (6, 6), 0, 0, 0, 0) : bkS)).2.2.1.1 (rdP (kdA T l wd kd) (fun i => (vlA T l wd vl i).toInt32) (stA T l wd st) (vlA T l wd vl) 401 0 0 (0, -1) (cc, cr) ((b, nm, (6, 6), 0, 0, 0, 0) : bkS)).2.2.1.2 (nI (lst T l wd + 1)) (nI (rdP (kdA T l wd kd) (fun i => (vlA T l wd vl i).toInt32) (stA T l wd st) (vlA T l wd vl) 401 0 0 (0, -1) (cc, cr) ((b, nm, (6, 6), 0, 0, 0, 0) : bkS)).1) (kdA T l wd kd) (stA T l wd st) (vlA T l wd vl) wd (rdP (kdA T l wd kd) (fun i => (vlA T l wd vl i).toInt32) (stA T l wd st) (vlA T l wd vl) 401 0 0 (0, -1) (cc, cr) ((b, nm, (6, 6), 0, 0, 0, 0) : bkS)).2.2.2.1 (rdP (kdA T l wd kd) (fun i => (vlA T l wd vl i).toInt32) (stA T l wd st) (vlA T l wd vl) 401 0 0 (0, -1) (cc, cr) ((b, nm, (6, 6), 0, 0, 0, 0) : bkS)).2.2.2.2.1 (six (rdP (kdA T l wd kd) (fun i => (vlA T l wd vl i).toInt32) (stA T l wd st) (vlA T l wd vl) 401 0 0 (0, -1) (cc, cr) ((b, nm, (6, 6), 0, 0, 0, 0) : bkS)).2.2.2.2.2.1.1 (rdP (kdA T l wd kd) (fun i => (vlA T l wd vl i).toInt32) (stA T l wd st) (vlA T l wd vl) 401 0 0 (0, -1) (cc, cr) ((b, nm, (6, 6), 0, 0, 0, 0) : bkS)).2.2.2.2.2.1.2 (nI (rdP (kdA T l wd kd) (fun i => (vlA T l wd vl i).toInt32) (stA T l wd st) (vlA T l wd vl) 401 0 0 (0, -1) (cc, cr) ((b, nm, (6, 6), 0, 0, 0, 0) : bkS)).2.2.2.2.2.2.1) (nI (rdP (kdA T l wd kd) (fun i => (vlA T l wd vl i).toInt32) (stA T l wd st) (vlA T l wd vl) 401 0 0 (0, -1) (cc, cr) ((b, nm, (6, 6), 0, 0, 0, 0) : bkS)).2.2.2.2.2.2.2.1) (nI (rdP (kdA T l wd kd) (fun i => (vlA T l wd vl i).toInt32) (stA T l wd st) (vlA T l wd vl) 401 0 0 (0, -1) (cc, cr) ((b, nm, (6, 6), 0, 0, 0, 0) : bkS)).2.2.2.2.2.2.2.2.1) (nI (rdP (kdA T l wd kd) (fun i => (vlA T l wd vl i).toInt32) (stA T l wd st) (vlA T l wd vl) 401 0 0 (0, -1) (cc, cr) ((b, nm, (6, 6), 0, 0, 0, 0) : bkS)).2.2.2.2.2.2.2.2.2)))) := by
  obtain ⟨h1, h2, h3, h4⟩ := lst_ok (T := T) (l := l) (wd := wd)
  have hc : ∀ (Q : xR → Prop), xcall E xprog (d + 152) 53 [.ref 4] (rH H K tp (nI l) er ep cc cr cnt nx kd st vl wd b nm s) Q = Q (.inl none, (rH H K tp (nI l) er ep cc cr (nI (lst T l wd + 1)) 0 (kdA T l wd kd) (stA T l wd st) (vlA T l wd vl) wd b nm s)) := fun Q => by
    rw [show nI (lst T l wd + 1) = nI (ctn (kdT T l wd) 0 401) from by rw [h2]]
    exact f_To_cut (E := E) (d := d + 146) (Q := Q) (H := H) (K := K) (tp := tp) (er := er) (ep := ep) (cc := cc) (cr := cr) (cnt := cnt) (nx := nx) (kd := kd) (st := st) (vl := vl) (wd := wd) (b := b) (nm := nm) (s := s) hb hl
  have he : kdA T l wd kd (lst T l wd) = 0 ∨ kdA T l wd kd (lst T l wd) = 1 := by rw [kdA_is (Nat.le_refl _)]; exact h3
  have hN' : ∀ x, x ≤ lst T l wd → kdA T l wd kd x = 2 → ∃ m, m ≤ 9999 ∧ (fun i => (vlA T l wd vl i).toInt32) x = nI m := by
    intro x hx hk
    rw [kdA_is hx] at hk
    show ∃ m, m ≤ 9999 ∧ (vlA T l wd vl x).toInt32 = nI m
    rw [vlA_is hx]
    exact hN x hx hk
  have t := l_BR_read (E := E) (d := d) (Q := Q) (H := H) (K := K) (tp := tp) (L := nI l) (kd := kdA T l wd kd) (st := stA T l wd st) (vl := vlA T l wd vl) (wd := wd) (EE := lst T l wd) (nu := fun i => (vlA T l wd vl i).toInt32) hK h1 he (fun _ => rfl) hN' 401 0 0 (0, -1) (cc, cr) ((b, nm, (6, 6), 0, 0, 0, 0) : bkS) none none rfl (Nat.zero_le _) ⟨Nat.zero_le _, Nat.zero_le _, Nat.zero_le _, Nat.zero_le _⟩
  rw [e_BR_read]
  simp only [s_BR_read_0, s_BR_read_1, s_BR_read_4, s_BR_read_7, s_BR_read_8, s_BR_read_11, s_BR_read_12, s_BR_read_13, s_BR_read_16, s_BR_read_17, s_BR_read_18, s_BR_read_21, s_BR_read_22, rC_3, rF_3, rC_4, rC_K hK, rw_3, xll_2, xlg_2_0, xlg_2_1, xlg_2_2, xlg_2_3, xlg_2_4, xlg_2_5, xls_2_0, xls_2_1, xls_2_2, xls_2_3, xls_2_4, xls_2_5, not_false_eq_true, Nat.reduceLT, Nat.reduceAdd, true_and, and_true, if_true, if_false, ite_true, ite_false, xnb_0, xnb_1, xnb_b, xk_v, xk_n, hc, f_Bk_empty hK]
  exact t
end READ
