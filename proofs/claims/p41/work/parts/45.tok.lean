/-! ===== the class's tokens: the tape's bytes, one token ===== -/
section TOK
variable {E : xE} {d : Nat} {Q : xR → Prop} {H : xH} {K : Nat} {tp : Nat → Int32} {L : Int32} {er : Int32} {ep : Int32} {cc : Int32} {cr : Int32} {cnt : Int32} {nx : Int32} {kd : Nat → Int32} {st : Nat → Int32} {vl : Nat → Int64} {wd : Nat → Int64} {b : Nat → Nat → Int32} {nm : Nat → Int64} {s : Nat → Int32}
variable {T : Nat → Nat} {l : Nat}
theorem n_eq {a b : Nat} (ha : a < 2147483648) (hb : b < 2147483648) : (nI a = nI b) = (a = b) := propext ⟨fun h => nI_inj ha hb h, fun h => by rw [h]⟩
theorem n_lt {a b : Nat} (ha : a < 2147483648) (hb : b < 2147483648) : (nI a < nI b) = (a < b) := by
  by_cases p : a < b
  · rw [nlt p hb, eq_true p]
  · rw [nge (show b ≤ a by omega) ha, eq_false p]
/-- the tape's bytes, 0 to 255 -/
def byt (T : Nat → Nat) (tp : Nat → Int32) : Prop := ∀ i, T i < 256 ∧ tp i = sb (T i)
theorem sb_a : ∀ n, n < 256 → sb n &&& 255 = nI n := by decide +kernel
theorem sb_s : ∀ n, n < 128 → sb n = nI n := by decide +kernel
theorem sb_n : ∀ n, n < 256 → 128 ≤ n → sb n < 0 := by decide +kernel
theorem n_c16 : ∀ n, n < 256 → ((nI n).toUInt32 % 65536).toInt32 = nI n := by decide +kernel
theorem xb_e {p q : Prop} [Decidable p] [Decidable q] (h : p = q) : xb p = xb q := by
  by_cases w : p
  · rw [xb_t w, xb_t (h ▸ w)]
  · rw [xb_f w, xb_f (h ▸ w)]
abbrev tL (T : Nat → Nat) (l i : Nat) : Prop := i < l ∧ 97 ≤ T i ∧ T i ≤ 122
abbrev tD (T : Nat → Nat) (l i : Nat) : Prop := i < l ∧ 48 ≤ T i ∧ T i ≤ 57
abbrev tB (T : Nat → Nat) (l i : Nat) : Prop := i < l ∧ (T i = 32 ∨ T i = 10)
def pL (T : Nat → Nat) (l i : Nat) : Bool := decide (tL T l i)
def pD (T : Nat → Nat) (l i : Nat) : Bool := decide (tD T l i)
def pB (T : Nat → Nat) (l i : Nat) : Bool := decide (tB T l i)
theorem pL_t {i : Nat} (h : tL T l i) : pL T l i = true := decide_eq_true h
theorem pL_f {i : Nat} (h : ¬ tL T l i) : pL T l i = false := decide_eq_false h
theorem pD_t {i : Nat} (h : tD T l i) : pD T l i = true := decide_eq_true h
theorem pD_f {i : Nat} (h : ¬ tD T l i) : pD T l i = false := decide_eq_false h
theorem pB_t {i : Nat} (h : tB T l i) : pB T l i = true := decide_eq_true h
theorem pB_f {i : Nat} (h : ¬ tB T l i) : pB T l i = false := decide_eq_false h
/-- a byte (0 to 255), or -1 behind the end -/
def bA (T : Nat → Nat) (l i : Nat) : Int32 := if i < l then nI (T i) else -1
def scn (p : Nat → Bool) : Nat → Nat → Nat
  | 0, i => i
  | m + 1, i => if p i = true then scn p m (i + 1) else i
theorem scn_le {p : Nat → Bool} : ∀ m i, i ≤ scn p m i ∧ scn p m i ≤ i + m
  | 0, i => ⟨Nat.le_refl _, Nat.le_refl _⟩
  | m + 1, i => by
    unfold scn
    split
    · have := scn_le (p := p) m (i + 1); omega
    · omega
theorem f_Ta_byteAt (hb : byt T tp) (hl : l ≤ 1600) (i : Nat) (hi : i < 2000) : xcall E xprog (d + 1) 51 [.ref 1, .int (nI i)] (rH H K tp (nI l) er ep cc cr cnt nx kd st vl wd b nm s) Q = Q (.inl (some (.int (bA T l i))), (rH H K tp (nI l) er ep cc cr cnt nx kd st vl wd b nm s)) := by
  rw [e_Ta_byteAt]
  by_cases p : i < l
  · have e : bA T l i = nI (T i) := if_pos p
    simp only [s_Ta_byteAt_0, s_Ta_byteAt_1, s_Ta_byteAt_4, s_Ta_byteAt_5, s_Ta_byteAt_6, s_Ta_byteAt_9, s_Ta_byteAt_12, s_Ta_byteAt_13, s_Ta_byteAt_14, s_Ta_byteAt_15, s_Ta_byteAt_18, s_Ta_byteAt_19, s_Ta_byteAt_20, s_Ta_byteAt_23, s_Ta_byteAt_24, rF_1, rC_1, rl_2, rf_2, xll_6, xlg_6_0, xlg_6_1, not_false_eq_true, Nat.reduceLT, Nat.reduceAdd, true_and, and_true, if_true, if_false, ite_true, ite_false, xnb_0, xnb_1, xnb_b, xk_v, xk_n, nI_n0 i (by omega), nlt p (by omega), nvp (show i < 1600 by omega) (by omega), ncl (show i < 2147483648 by omega), (hb i).2, sb_a _ (hb i).1, e]
  · have e : bA T l i = -1 := if_neg p
    simp only [s_Ta_byteAt_0, s_Ta_byteAt_1, s_Ta_byteAt_4, s_Ta_byteAt_5, s_Ta_byteAt_6, s_Ta_byteAt_9, s_Ta_byteAt_12, s_Ta_byteAt_13, s_Ta_byteAt_14, s_Ta_byteAt_15, s_Ta_byteAt_18, s_Ta_byteAt_19, s_Ta_byteAt_20, s_Ta_byteAt_23, s_Ta_byteAt_24, rF_1, rC_1, xll_6, xlg_6_0, xlg_6_1, not_false_eq_true, Nat.reduceLT, Nat.reduceAdd, true_and, and_true, if_true, if_false, ite_true, ite_false, xnb_0, xnb_1, xnb_b, xk_v, xk_n, nI_n0 i (by omega), nge (show l ≤ i by omega) (by omega), e]
theorem f_To_isLetter (x : Int32) : xcall E xprog (d + 1) 65 [.int x] H Q = Q (.inl (some (.int (xb (¬ x < 97 ∧ ¬ 122 < x)))), H) := by
  rw [e_To_isLetter]
  simp only [s_To_isLetter_0, s_To_isLetter_1, s_To_isLetter_3, s_To_isLetter_6, s_To_isLetter_7, s_To_isLetter_9, s_To_isLetter_12, s_To_isLetter_13, s_To_isLetter_16, s_To_isLetter_17, not_false_eq_true, Nat.reduceLT, Nat.reduceAdd, true_and, and_true, if_true, if_false, ite_true, ite_false, xnb_0, xnb_1, xnb_b, xk_v, xk_n]
  repeat' split
  all_goals simp_all [xb, -Int32.not_lt]
theorem f_To_isDigit (x : Int32) : xcall E xprog (d + 1) 66 [.int x] H Q = Q (.inl (some (.int (xb (¬ x < 48 ∧ ¬ 57 < x)))), H) := by
  rw [e_To_isDigit]
  simp only [s_To_isDigit_0, s_To_isDigit_1, s_To_isDigit_3, s_To_isDigit_6, s_To_isDigit_7, s_To_isDigit_9, s_To_isDigit_12, s_To_isDigit_13, s_To_isDigit_16, s_To_isDigit_17, not_false_eq_true, Nat.reduceLT, Nat.reduceAdd, true_and, and_true, if_true, if_false, ite_true, ite_false, xnb_0, xnb_1, xnb_b, xk_v, xk_n]
  repeat' split
  all_goals simp_all [xb, -Int32.not_lt]
theorem bA_r (hb : byt T tp) {lo hi i : Nat} (h1 : hi < 256) (h0 : 0 < lo) (h2 : lo < 256) : (¬ bA T l i < nI lo ∧ ¬ nI hi < bA T l i) = (i < l ∧ lo ≤ T i ∧ T i ≤ hi) := by
  have hT := (hb i).1
  by_cases p : i < l
  · have e : bA T l i = nI (T i) := if_pos p
    rw [e, n_lt (by omega) (by omega), n_lt (by omega) (by omega)]
    exact propext ⟨fun h => ⟨p, by omega, by omega⟩, fun h => ⟨by omega, by omega⟩⟩
  · have e : bA T l i = -1 := if_neg p
    rw [e]
    refine propext ⟨fun h => absurd ?_ h.1, fun h => absurd h.1 p⟩
    refine Int32.lt_iff_toInt_lt.mpr ?_
    rw [nI_i (by omega), show (-1 : Int32).toInt = -1 from rfl]
    omega
theorem f_isL (hb : byt T tp) (i : Nat) : xcall E xprog (d + 1) 65 [.int (bA T l i)] H Q = Q (.inl (some (.int (xb (tL T l i)))), H) := by
  rw [f_To_isLetter, xb_e (show (¬ bA T l i < 97 ∧ ¬ 122 < bA T l i) = tL T l i from bA_r hb (lo := 97) (hi := 122) (by omega) (by omega) (by omega))]
theorem f_isD (hb : byt T tp) (i : Nat) : xcall E xprog (d + 1) 66 [.int (bA T l i)] H Q = Q (.inl (some (.int (xb (tD T l i)))), H) := by
  rw [f_To_isDigit, xb_e (show (¬ bA T l i < 48 ∧ ¬ 57 < bA T l i) = tD T l i from bA_r hb (lo := 48) (hi := 57) (by omega) (by omega) (by omega))]
theorem l_To_beh (hb : byt T tp) (hl : l ≤ 1600) (f : Int32) : ∀ m i, i + m = l → xr E (d + 1) m_To_behindBlanks Q (2, [some (.ref 4), some (.int f), some (.int (nI i))], [], (rH H K tp (nI l) er ep cc cr cnt nx kd st vl wd b nm s)) = Q (.inl (some (.int (nI (scn (pB T l) m i)))), (rH H K tp (nI l) er ep cc cr cnt nx kd st vl wd b nm s)) := by
  intro m
  induction m with
  | zero =>
    intro i hi
    rw [s_To_behindBlanks_2]
    simp only [s_To_behindBlanks_0, s_To_behindBlanks_1, s_To_behindBlanks_3, s_To_behindBlanks_4, s_To_behindBlanks_7, s_To_behindBlanks_10, s_To_behindBlanks_13, s_To_behindBlanks_14, s_To_behindBlanks_17, s_To_behindBlanks_18, s_To_behindBlanks_21, s_To_behindBlanks_23, s_To_behindBlanks_26, s_To_behindBlanks_27, s_To_behindBlanks_30, s_To_behindBlanks_31, s_To_behindBlanks_34, s_To_behindBlanks_36, s_To_behindBlanks_39, s_To_behindBlanks_42, s_To_behindBlanks_45, s_To_behindBlanks_46, rF_1, rC_1, rF_4, rC_4, xll_6, xlg_6_0, xlg_6_1, xll_7, xlg_7_0, xlg_7_1, xlg_7_2, xlg_7_3, xlg_7_4, xlg_7_5, xlg_7_6, not_false_eq_true, Nat.reduceLT, Nat.reduceAdd, true_and, and_true, if_true, if_false, ite_true, ite_false, xnb_0, xnb_1, xnb_b, xk_v, xk_n, nge (show l ≤ i by omega) (by omega), scn]
  | succ m ih =>
    intro i hi
    have hT := (hb i).1
    have e : bA T l i = nI (T i) := if_pos (by omega)
    rw [s_To_behindBlanks_2]
    simp only [s_To_behindBlanks_0, s_To_behindBlanks_1, s_To_behindBlanks_3, s_To_behindBlanks_4, s_To_behindBlanks_7, s_To_behindBlanks_10, s_To_behindBlanks_13, s_To_behindBlanks_14, s_To_behindBlanks_17, s_To_behindBlanks_18, s_To_behindBlanks_21, s_To_behindBlanks_23, s_To_behindBlanks_26, s_To_behindBlanks_27, s_To_behindBlanks_30, s_To_behindBlanks_31, s_To_behindBlanks_34, s_To_behindBlanks_36, s_To_behindBlanks_39, s_To_behindBlanks_42, s_To_behindBlanks_45, s_To_behindBlanks_46, rF_1, rC_1, rF_4, rC_4, xll_6, xlg_6_0, xlg_6_1, xll_7, xlg_7_0, xlg_7_1, xlg_7_2, xlg_7_3, xlg_7_4, xlg_7_5, xlg_7_6, not_false_eq_true, Nat.reduceLT, Nat.reduceAdd, true_and, and_true, if_true, if_false, ite_true, ite_false, xnb_0, xnb_1, xnb_b, xk_v, xk_n, nlt (show i < l by omega) (by omega), f_Ta_byteAt hb hl i (by omega), e, nI_1, ih (i + 1) (by omega), scn]
    have e32 : (nI (T i) = 32) = (T i = 32) := n_eq (b := 32) (by omega) (by omega)
    have e10 : (nI (T i) = 10) = (T i = 10) := n_eq (b := 10) (by omega) (by omega)
    simp only [e32, e10]
    by_cases p : T i = 32
    · rw [if_pos p]; simp only [pB_t (show tB T l i from ⟨by omega, Or.inl p⟩), if_true]
    · rw [if_neg p]
      by_cases r : T i = 10
      · rw [if_pos r]; simp only [pB_t (show tB T l i from ⟨by omega, Or.inr r⟩), if_true]
      · rw [if_neg r]; simp only [pB_f (show ¬ tB T l i from fun h => h.2.elim p r), Bool.false_eq_true, if_false]
def blk (T : Nat → Nat) (l i : Nat) : Nat := scn (pB T l) (l - i) i
theorem f_To_beh (hb : byt T tp) (hl : l ≤ 1600) (i : Nat) (hi : i ≤ l) : xcall E xprog (d + 2) 59 [.ref 4, .int (nI i)] (rH H K tp (nI l) er ep cc cr cnt nx kd st vl wd b nm s) Q = Q (.inl (some (.int (nI (blk T l i)))), (rH H K tp (nI l) er ep cc cr cnt nx kd st vl wd b nm s)) := by
  rw [e_To_behindBlanks, s_To_behindBlanks_0, s_To_behindBlanks_1]
  exact l_To_beh hb hl _ (l - i) i (by omega)
theorem l1_To_eot (hb : byt T tp) (hl : l ≤ 1600) (f z : Int32) : ∀ m i, i + m = l → xr E (d + 1) m_To_endOfToken Q (20, [some (.ref 4), some (.int f), some (.int z), some (.int (nI i))], [], (rH H K tp (nI l) er ep cc cr cnt nx kd st vl wd b nm s)) = Q (.inl (some (.int (nI (scn (pL T l) m i)))), (rH H K tp (nI l) er ep cc cr cnt nx kd st vl wd b nm s)) := by
  intro m
  induction m with
  | zero =>
    intro i hi
    rw [s_To_endOfToken_20]
    simp only [s_To_endOfToken_0, s_To_endOfToken_1, s_To_endOfToken_4, s_To_endOfToken_5, s_To_endOfToken_8, s_To_endOfToken_9, s_To_endOfToken_10, s_To_endOfToken_11, s_To_endOfToken_12, s_To_endOfToken_13, s_To_endOfToken_14, s_To_endOfToken_17, s_To_endOfToken_21, s_To_endOfToken_22, s_To_endOfToken_25, s_To_endOfToken_28, s_To_endOfToken_31, s_To_endOfToken_32, s_To_endOfToken_35, s_To_endOfToken_36, s_To_endOfToken_39, s_To_endOfToken_42, s_To_endOfToken_45, s_To_endOfToken_48, s_To_endOfToken_51, s_To_endOfToken_52, s_To_endOfToken_55, s_To_endOfToken_59, s_To_endOfToken_60, s_To_endOfToken_63, s_To_endOfToken_66, s_To_endOfToken_69, s_To_endOfToken_70, s_To_endOfToken_73, s_To_endOfToken_74, s_To_endOfToken_77, s_To_endOfToken_80, s_To_endOfToken_83, s_To_endOfToken_86, s_To_endOfToken_89, s_To_endOfToken_90, rF_1, rC_1, rF_4, rC_4, xll_6, xlg_6_0, xlg_6_1, xll_7, xlg_7_0, xlg_7_1, xlg_7_2, xlg_7_3, xlg_7_4, xlg_7_5, xlg_7_6, not_false_eq_true, Nat.reduceLT, Nat.reduceAdd, true_and, and_true, if_true, if_false, ite_true, ite_false, xnb_0, xnb_1, xnb_b, xk_v, xk_n, nge (show l ≤ i by omega) (by omega), scn]
  | succ m ih =>
    intro i hi
    rw [s_To_endOfToken_20]
    simp only [s_To_endOfToken_0, s_To_endOfToken_1, s_To_endOfToken_4, s_To_endOfToken_5, s_To_endOfToken_8, s_To_endOfToken_9, s_To_endOfToken_10, s_To_endOfToken_11, s_To_endOfToken_12, s_To_endOfToken_13, s_To_endOfToken_14, s_To_endOfToken_17, s_To_endOfToken_21, s_To_endOfToken_22, s_To_endOfToken_25, s_To_endOfToken_28, s_To_endOfToken_31, s_To_endOfToken_32, s_To_endOfToken_35, s_To_endOfToken_36, s_To_endOfToken_39, s_To_endOfToken_42, s_To_endOfToken_45, s_To_endOfToken_48, s_To_endOfToken_51, s_To_endOfToken_52, s_To_endOfToken_55, s_To_endOfToken_59, s_To_endOfToken_60, s_To_endOfToken_63, s_To_endOfToken_66, s_To_endOfToken_69, s_To_endOfToken_70, s_To_endOfToken_73, s_To_endOfToken_74, s_To_endOfToken_77, s_To_endOfToken_80, s_To_endOfToken_83, s_To_endOfToken_86, s_To_endOfToken_89, s_To_endOfToken_90, rF_1, rC_1, rF_4, rC_4, xll_6, xlg_6_0, xlg_6_1, xll_7, xlg_7_0, xlg_7_1, xlg_7_2, xlg_7_3, xlg_7_4, xlg_7_5, xlg_7_6, not_false_eq_true, Nat.reduceLT, Nat.reduceAdd, true_and, and_true, if_true, if_false, ite_true, ite_false, xnb_0, xnb_1, xnb_b, xk_v, xk_n, nlt (show i < l by omega) (by omega), f_Ta_byteAt hb hl i (by omega), f_isL hb, nI_1, ih (i + 1) (by omega), scn, xb_0]
    by_cases p : tL T l i
    · rw [if_neg (not_not_intro p)]; simp only [pL_t p, if_true]
    · rw [if_pos p]; simp only [pL_f p, Bool.false_eq_true, if_false]
theorem l2_To_eot (hb : byt T tp) (hl : l ≤ 1600) (f z : Int32) : ∀ m i, i + m = l → xr E (d + 1) m_To_endOfToken Q (58, [some (.ref 4), some (.int f), some (.int z), some (.int (nI i))], [], (rH H K tp (nI l) er ep cc cr cnt nx kd st vl wd b nm s)) = Q (.inl (some (.int (nI (scn (pD T l) m i)))), (rH H K tp (nI l) er ep cc cr cnt nx kd st vl wd b nm s)) := by
  intro m
  induction m with
  | zero =>
    intro i hi
    rw [s_To_endOfToken_58]
    simp only [s_To_endOfToken_0, s_To_endOfToken_1, s_To_endOfToken_4, s_To_endOfToken_5, s_To_endOfToken_8, s_To_endOfToken_9, s_To_endOfToken_10, s_To_endOfToken_11, s_To_endOfToken_12, s_To_endOfToken_13, s_To_endOfToken_14, s_To_endOfToken_17, s_To_endOfToken_21, s_To_endOfToken_22, s_To_endOfToken_25, s_To_endOfToken_28, s_To_endOfToken_31, s_To_endOfToken_32, s_To_endOfToken_35, s_To_endOfToken_36, s_To_endOfToken_39, s_To_endOfToken_42, s_To_endOfToken_45, s_To_endOfToken_48, s_To_endOfToken_51, s_To_endOfToken_52, s_To_endOfToken_55, s_To_endOfToken_59, s_To_endOfToken_60, s_To_endOfToken_63, s_To_endOfToken_66, s_To_endOfToken_69, s_To_endOfToken_70, s_To_endOfToken_73, s_To_endOfToken_74, s_To_endOfToken_77, s_To_endOfToken_80, s_To_endOfToken_83, s_To_endOfToken_86, s_To_endOfToken_89, s_To_endOfToken_90, rF_1, rC_1, rF_4, rC_4, xll_6, xlg_6_0, xlg_6_1, xll_7, xlg_7_0, xlg_7_1, xlg_7_2, xlg_7_3, xlg_7_4, xlg_7_5, xlg_7_6, not_false_eq_true, Nat.reduceLT, Nat.reduceAdd, true_and, and_true, if_true, if_false, ite_true, ite_false, xnb_0, xnb_1, xnb_b, xk_v, xk_n, nge (show l ≤ i by omega) (by omega), scn]
  | succ m ih =>
    intro i hi
    rw [s_To_endOfToken_58]
    simp only [s_To_endOfToken_0, s_To_endOfToken_1, s_To_endOfToken_4, s_To_endOfToken_5, s_To_endOfToken_8, s_To_endOfToken_9, s_To_endOfToken_10, s_To_endOfToken_11, s_To_endOfToken_12, s_To_endOfToken_13, s_To_endOfToken_14, s_To_endOfToken_17, s_To_endOfToken_21, s_To_endOfToken_22, s_To_endOfToken_25, s_To_endOfToken_28, s_To_endOfToken_31, s_To_endOfToken_32, s_To_endOfToken_35, s_To_endOfToken_36, s_To_endOfToken_39, s_To_endOfToken_42, s_To_endOfToken_45, s_To_endOfToken_48, s_To_endOfToken_51, s_To_endOfToken_52, s_To_endOfToken_55, s_To_endOfToken_59, s_To_endOfToken_60, s_To_endOfToken_63, s_To_endOfToken_66, s_To_endOfToken_69, s_To_endOfToken_70, s_To_endOfToken_73, s_To_endOfToken_74, s_To_endOfToken_77, s_To_endOfToken_80, s_To_endOfToken_83, s_To_endOfToken_86, s_To_endOfToken_89, s_To_endOfToken_90, rF_1, rC_1, rF_4, rC_4, xll_6, xlg_6_0, xlg_6_1, xll_7, xlg_7_0, xlg_7_1, xlg_7_2, xlg_7_3, xlg_7_4, xlg_7_5, xlg_7_6, not_false_eq_true, Nat.reduceLT, Nat.reduceAdd, true_and, and_true, if_true, if_false, ite_true, ite_false, xnb_0, xnb_1, xnb_b, xk_v, xk_n, nlt (show i < l by omega) (by omega), f_Ta_byteAt hb hl i (by omega), f_isD hb, nI_1, ih (i + 1) (by omega), scn, xb_0]
    by_cases p : tD T l i
    · rw [if_neg (not_not_intro p)]; simp only [pD_t p, if_true]
    · rw [if_pos p]; simp only [pD_f p, Bool.false_eq_true, if_false]
def eot (T : Nat → Nat) (l i : Nat) : Nat := if pL T l i = true then scn (pL T l) (l - (i + 1)) (i + 1) else if pD T l i = true then scn (pD T l) (l - (i + 1)) (i + 1) else i + 1
theorem f_To_eot (hb : byt T tp) (hl : l ≤ 1600) (i : Nat) (hi : i < 2000) : xcall E xprog (d + 2) 60 [.ref 4, .int (nI i)] (rH H K tp (nI l) er ep cc cr cnt nx kd st vl wd b nm s) Q = Q (.inl (some (.int (nI (eot T l i)))), (rH H K tp (nI l) er ep cc cr cnt nx kd st vl wd b nm s)) := by
  rw [e_To_endOfToken]
  simp only [s_To_endOfToken_0, s_To_endOfToken_1, s_To_endOfToken_4, s_To_endOfToken_5, s_To_endOfToken_8, s_To_endOfToken_9, s_To_endOfToken_10, s_To_endOfToken_11, s_To_endOfToken_12, s_To_endOfToken_13, s_To_endOfToken_14, s_To_endOfToken_17, s_To_endOfToken_21, s_To_endOfToken_22, s_To_endOfToken_25, s_To_endOfToken_28, s_To_endOfToken_31, s_To_endOfToken_32, s_To_endOfToken_35, s_To_endOfToken_36, s_To_endOfToken_39, s_To_endOfToken_42, s_To_endOfToken_45, s_To_endOfToken_48, s_To_endOfToken_51, s_To_endOfToken_52, s_To_endOfToken_55, s_To_endOfToken_59, s_To_endOfToken_60, s_To_endOfToken_63, s_To_endOfToken_66, s_To_endOfToken_69, s_To_endOfToken_70, s_To_endOfToken_73, s_To_endOfToken_74, s_To_endOfToken_77, s_To_endOfToken_80, s_To_endOfToken_83, s_To_endOfToken_86, s_To_endOfToken_89, s_To_endOfToken_90, rF_1, rC_1, rF_4, rC_4, xll_6, xlg_6_0, xlg_6_1, xll_7, xlg_7_0, xlg_7_1, xlg_7_2, xlg_7_3, xlg_7_4, xlg_7_5, xlg_7_6, not_false_eq_true, Nat.reduceLT, Nat.reduceAdd, true_and, and_true, if_true, if_false, ite_true, ite_false, xnb_0, xnb_1, xnb_b, xk_v, xk_n, f_Ta_byteAt hb hl i hi, f_isL hb, f_isD hb, nI_1, xb_0]
  unfold eot
  by_cases p : tL T l i
  · rw [if_neg (not_not_intro p)]; simp only [pL_t p, if_true]
    exact l1_To_eot hb hl _ _ (l - (i + 1)) (i + 1) (by omega)
  · rw [if_pos p]; simp only [pL_f p, Bool.false_eq_true, if_false]
    by_cases r : tD T l i
    · rw [if_neg (not_not_intro r)]; simp only [pD_t r, if_true]
      exact l2_To_eot hb hl _ _ (l - (i + 1)) (i + 1) (by omega)
    · rw [if_pos r]; simp only [pD_f r, Bool.false_eq_true, if_false]
theorem f_To_wordWith (z : Int64) (x : Int32) : xcall E xprog (d + 1) 64 [.long z, .int x] H Q = Q (.inl (some (.long (z * 32 + (x &&& 31).toInt64))), H) := by
  rw [e_To_wordWith]
  simp only [s_To_wordWith_0, s_To_wordWith_1, s_To_wordWith_4, s_To_wordWith_5, s_To_wordWith_6, s_To_wordWith_8, s_To_wordWith_9, s_To_wordWith_10, s_To_wordWith_11, not_false_eq_true, Nat.reduceLT, Nat.reduceAdd, true_and, and_true, if_true, if_false, ite_true, ite_false, xnb_0, xnb_1, xnb_b, xk_v, xk_n]
def vlo (T : Nat → Nat) (l : Nat) : Nat → Nat → Int64 → Int64
  | 0, _, z => z
  | m + 1, i, z => vlo T l m (i + 1) (if pD T l i = true then z * 10 + (bA T l i - 48).toInt64 else z * 32 + (bA T l i &&& 31).toInt64)
theorem l_To_val (hb : byt T tp) (hl : l ≤ 1600) (f : Int32) (e : Nat) (he : e ≤ 1700) : ∀ m i (z : Int64) (j6 : Option Value), i + m = e → xr E (d + 1) m_To_valueOf Q (5, [some (.ref 4), some (.int f), some (.int (nI e)), some (.long z), some xmk, some (.int (nI i)), j6], [], (rH H K tp (nI l) er ep cc cr cnt nx kd st vl wd b nm s)) = Q (.inl (some (.long (vlo T l m i z))), (rH H K tp (nI l) er ep cc cr cnt nx kd st vl wd b nm s)) := by
  intro m
  induction m with
  | zero =>
    intro i z j6 hi
    rw [s_To_valueOf_5]
    simp only [s_To_valueOf_0, s_To_valueOf_1, s_To_valueOf_2, s_To_valueOf_3, s_To_valueOf_7, s_To_valueOf_8, s_To_valueOf_11, s_To_valueOf_12, s_To_valueOf_15, s_To_valueOf_17, s_To_valueOf_20, s_To_valueOf_22, s_To_valueOf_24, s_To_valueOf_27, s_To_valueOf_30, s_To_valueOf_31, s_To_valueOf_34, s_To_valueOf_35, s_To_valueOf_37, s_To_valueOf_39, s_To_valueOf_40, s_To_valueOf_41, s_To_valueOf_42, s_To_valueOf_45, s_To_valueOf_46, s_To_valueOf_48, s_To_valueOf_51, s_To_valueOf_52, s_To_valueOf_55, s_To_valueOf_58, s_To_valueOf_59, rF_1, rC_1, rF_4, rC_4, xll_6, xlg_6_0, xlg_6_1, xll_7, xlg_7_0, xlg_7_1, xlg_7_2, xlg_7_3, xlg_7_4, xlg_7_5, xlg_7_6, not_false_eq_true, Nat.reduceLT, Nat.reduceAdd, true_and, and_true, if_true, if_false, ite_true, ite_false, xnb_0, xnb_1, xnb_b, xk_v, xk_n, nge (show e ≤ i by omega) (by omega), vlo]
  | succ m ih =>
    intro i z j6 hi
    rw [s_To_valueOf_5]
    simp only [s_To_valueOf_0, s_To_valueOf_1, s_To_valueOf_2, s_To_valueOf_3, s_To_valueOf_7, s_To_valueOf_8, s_To_valueOf_11, s_To_valueOf_12, s_To_valueOf_15, s_To_valueOf_17, s_To_valueOf_20, s_To_valueOf_22, s_To_valueOf_24, s_To_valueOf_27, s_To_valueOf_30, s_To_valueOf_31, s_To_valueOf_34, s_To_valueOf_35, s_To_valueOf_37, s_To_valueOf_39, s_To_valueOf_40, s_To_valueOf_41, s_To_valueOf_42, s_To_valueOf_45, s_To_valueOf_46, s_To_valueOf_48, s_To_valueOf_51, s_To_valueOf_52, s_To_valueOf_55, s_To_valueOf_58, s_To_valueOf_59, rF_1, rC_1, rF_4, rC_4, xll_6, xlg_6_0, xlg_6_1, xll_7, xlg_7_0, xlg_7_1, xlg_7_2, xlg_7_3, xlg_7_4, xlg_7_5, xlg_7_6, not_false_eq_true, Nat.reduceLT, Nat.reduceAdd, true_and, and_true, if_true, if_false, ite_true, ite_false, xnb_0, xnb_1, xnb_b, xk_v, xk_n, nlt (show i < e by omega) (by omega), f_Ta_byteAt hb hl i (by omega), f_isD hb, f_To_wordWith, nI_1, ih (i + 1) _ _ (by omega), vlo, xb_0]
    by_cases p : tD T l i
    · rw [if_neg (not_not_intro p)]; simp only [pD_t p, if_true]
    · rw [if_pos p]; simp only [pD_f p, Bool.false_eq_true, if_false]
theorem f_To_val (hb : byt T tp) (hl : l ≤ 1600) (i e : Nat) (hi : i ≤ e) (he : e ≤ 1700) : xcall E xprog (d + 2) 61 [.ref 4, .int (nI i), .int (nI e)] (rH H K tp (nI l) er ep cc cr cnt nx kd st vl wd b nm s) Q = Q (.inl (some (.long (vlo T l (e - i) i 0))), (rH H K tp (nI l) er ep cc cr cnt nx kd st vl wd b nm s)) := by
  rw [e_To_valueOf, s_To_valueOf_0, s_To_valueOf_1, s_To_valueOf_2, s_To_valueOf_3]
  exact l_To_val hb hl _ e he (e - i) i 0 none (by omega)
/-- a word's kind -/
def kow (wd : Nat → Int64) (v : Int64) : Nat → Nat → Int32
  | _, 0 => 3
  | i, m + 1 => if wd i = v then 100 + nI i else kow wd v (i + 1) m
theorem l_To_kow (v : Int64) : ∀ m i, i + m = 26 → xr E d m_To_kindOfWord Q (2, [some (.ref 4), some (.long v), some xmk, some (.int (nI i))], [], (rH H K tp L er ep cc cr cnt nx kd st vl wd b nm s)) = Q (.inl (some (.int (kow wd v i m))), (rH H K tp L er ep cc cr cnt nx kd st vl wd b nm s)) := by
  intro m
  induction m with
  | zero =>
    intro i hi
    have : i = 26 := by omega
    subst this
    rw [s_To_kindOfWord_2]
    simp only [s_To_kindOfWord_0, s_To_kindOfWord_1, s_To_kindOfWord_3, s_To_kindOfWord_5, s_To_kindOfWord_8, s_To_kindOfWord_9, s_To_kindOfWord_12, s_To_kindOfWord_13, s_To_kindOfWord_14, s_To_kindOfWord_15, s_To_kindOfWord_16, s_To_kindOfWord_19, s_To_kindOfWord_21, s_To_kindOfWord_22, s_To_kindOfWord_23, s_To_kindOfWord_24, s_To_kindOfWord_27, s_To_kindOfWord_30, s_To_kindOfWord_31, not_false_eq_true, Nat.reduceLT, Nat.reduceAdd, true_and, and_true, if_true, if_false, ite_true, ite_false, xnb_0, xnb_1, xnb_b, xk_v, xk_n, show (nI 26 < 26) = False from nge (n := 26) (Nat.le_refl 26) (by omega), kow]
  | succ m ih =>
    intro i hi
    rw [s_To_kindOfWord_2]
    simp only [s_To_kindOfWord_0, s_To_kindOfWord_1, s_To_kindOfWord_3, s_To_kindOfWord_5, s_To_kindOfWord_8, s_To_kindOfWord_9, s_To_kindOfWord_12, s_To_kindOfWord_13, s_To_kindOfWord_14, s_To_kindOfWord_15, s_To_kindOfWord_16, s_To_kindOfWord_19, s_To_kindOfWord_21, s_To_kindOfWord_22, s_To_kindOfWord_23, s_To_kindOfWord_24, s_To_kindOfWord_27, s_To_kindOfWord_30, s_To_kindOfWord_31, rF_4, rC_4, rl_5, rf_5, xll_7, xlg_7_0, xlg_7_1, xlg_7_2, xlg_7_3, xlg_7_4, xlg_7_5, xlg_7_6, not_false_eq_true, Nat.reduceLT, Nat.reduceAdd, true_and, and_true, if_true, if_false, ite_true, ite_false, xnb_0, xnb_1, xnb_b, xk_v, xk_n, show (nI i < 26) = True from nlt (n := 26) (show i < 26 by omega) (by omega), nvp (show i < 26 by omega) (by omega), ncl (show i < 2147483648 by omega), nI_1, ih (i + 1) (by omega), kow, lg_cmp_eq]
    by_cases p : wd i = v
    · rw [if_pos p, if_pos p]
    · rw [if_neg p, if_neg p]
theorem f_To_kow (v : Int64) : xcall E xprog (d + 1) 63 [.ref 4, .long v] (rH H K tp L er ep cc cr cnt nx kd st vl wd b nm s) Q = Q (.inl (some (.int (kow wd v 0 26))), (rH H K tp L er ep cc cr cnt nx kd st vl wd b nm s)) := by
  rw [e_To_kindOfWord, s_To_kindOfWord_0, s_To_kindOfWord_1]
  exact l_To_kow v 26 0 rfl
/-- a token's kind -/
def kdo (T : Nat → Nat) (l : Nat) (wd : Nat → Int64) (i e : Nat) (v : Int64) : Int32 :=
  if i < l then (if pL T l i = true then (if e - i ≤ 8 then kow wd v 0 26 else 1) else if pD T l i = true then (if e - i ≤ 4 then 2 else 1) else if sgn (sb (T i)) 0 12 < 0 then 1 else nI (T i)) else 0
theorem f_To_kdo (hb : byt T tp) (hl : l ≤ 1600) (i e : Nat) (hi : i ≤ e) (he : e ≤ 1700) (v : Int64) : xcall E xprog (d + 5) 62 [.ref 4, .int (nI i), .int (nI e), .long v] (rH H K tp (nI l) er ep cc cr cnt nx kd st vl wd b nm s) Q = Q (.inl (some (.int (kdo T l wd i e v))), (rH H K tp (nI l) er ep cc cr cnt nx kd st vl wd b nm s)) := by
  have hT := (hb i).1
  have hx : (∃ i, xisT 154 = some i) = True := eq_true ⟨27, rfl⟩
  have hs : nI e - nI i = nI (e - i) := by
    have := nI_ad (e - i) i
    rw [show e - i + i = e by omega] at this
    rw [← this]
    exact Int32.add_sub_cancel _ _
  have e8 : (8 < nI (e - i)) = (8 < e - i) := n_lt (a := 8) (by omega) (by omega)
  have e4 : (4 < nI (e - i)) = (4 < e - i) := n_lt (a := 4) (by omega) (by omega)
  rw [e_To_kindOf]
  unfold kdo
  by_cases p : i < l
  · have e0 : bA T l i = nI (T i) := if_pos p
    rw [if_pos p]
    simp only [s_To_kindOf_0, s_To_kindOf_1, s_To_kindOf_4, s_To_kindOf_5, s_To_kindOf_8, s_To_kindOf_10, s_To_kindOf_12, s_To_kindOf_13, s_To_kindOf_16, s_To_kindOf_17, rF_1, rC_1, rF_4, rC_4, xll_6, xlg_6_0, xlg_6_1, xll_7, xlg_7_0, xlg_7_1, xlg_7_2, xlg_7_3, xlg_7_4, xlg_7_5, xlg_7_6, not_false_eq_true, Nat.reduceLT, Nat.reduceAdd, true_and, and_true, if_true, if_false, ite_true, ite_false, xnb_0, xnb_1, xnb_b, xk_v, xk_n, f_Ta_byteAt hb hl i (by omega)]
    rw [if_neg (by rw [e0, nI_m1 (by omega)]; exact id)]
    simp only [s_To_kindOf_18, s_To_kindOf_20, s_To_kindOf_23, s_To_kindOf_26, s_To_kindOf_27, s_To_kindOf_28, s_To_kindOf_29, s_To_kindOf_31, s_To_kindOf_34, s_To_kindOf_35, s_To_kindOf_38, s_To_kindOf_39, s_To_kindOf_40, s_To_kindOf_43, s_To_kindOf_44, s_To_kindOf_46, s_To_kindOf_49, s_To_kindOf_52, s_To_kindOf_53, s_To_kindOf_54, s_To_kindOf_55, s_To_kindOf_56, s_To_kindOf_59, s_To_kindOf_60, s_To_kindOf_63, s_To_kindOf_64, s_To_kindOf_65, s_To_kindOf_67, s_To_kindOf_69, s_To_kindOf_70, s_To_kindOf_73, s_To_kindOf_76, s_To_kindOf_78, s_To_kindOf_81, s_To_kindOf_82, rF_1, rC_1, rF_4, rC_4, xll_6, xlg_6_0, xlg_6_1, xll_7, xlg_7_0, xlg_7_1, xlg_7_2, xlg_7_3, xlg_7_4, xlg_7_5, xlg_7_6, not_false_eq_true, Nat.reduceLT, Nat.reduceAdd, true_and, and_true, if_true, if_false, ite_true, ite_false, xnb_0, xnb_1, xnb_b, xk_v, xk_n, f_isL hb, f_isD hb, f_To_kow, hs, e8, e4, xb_0]
    by_cases p1 : tL T l i
    · rw [if_neg (not_not_intro p1)]; simp only [pL_t p1, if_true]
      by_cases r : 8 < e - i
      · rw [if_pos r, if_neg (show ¬ e - i ≤ 8 by omega)]
      · rw [if_neg r, if_pos (show e - i ≤ 8 by omega)]
    · rw [if_pos p1]; simp only [pL_f p1, Bool.false_eq_true, if_false]
      by_cases p2 : tD T l i
      · rw [if_neg (not_not_intro p2)]; simp only [pD_t p2, if_true]
        by_cases r : 4 < e - i
        · rw [if_pos r, if_neg (show ¬ e - i ≤ 4 by omega)]
        · rw [if_neg r, if_pos (show e - i ≤ 4 by omega)]
      · rw [if_pos p2]; simp only [pD_f p2, Bool.false_eq_true, if_false]
        simp only [e0, n_c16 _ hT, f_JS_indexOf hT, hx, s_To_kindOf_73, s_To_kindOf_76, s_To_kindOf_78, s_To_kindOf_81, s_To_kindOf_82, not_false_eq_true, Nat.reduceLT, Nat.reduceAdd, true_and, and_true, if_true, if_false, ite_true, ite_false, xnb_0, xnb_1, xnb_b, xk_v, xk_n]
        by_cases r : sgn (sb (T i)) 0 12 < 0
        · rw [if_pos r, if_pos r]
        · rw [if_neg r, if_neg r]
  · have e0 : bA T l i = -1 := if_neg p
    rw [if_neg p]
    simp only [s_To_kindOf_0, s_To_kindOf_1, s_To_kindOf_4, s_To_kindOf_5, s_To_kindOf_8, s_To_kindOf_10, s_To_kindOf_12, s_To_kindOf_13, s_To_kindOf_16, s_To_kindOf_17, rF_1, rC_1, rF_4, rC_4, xll_6, xlg_6_0, xlg_6_1, xll_7, xlg_7_0, xlg_7_1, xlg_7_2, xlg_7_3, xlg_7_4, xlg_7_5, xlg_7_6, not_false_eq_true, Nat.reduceLT, Nat.reduceAdd, true_and, and_true, if_true, if_false, ite_true, ite_false, xnb_0, xnb_1, xnb_b, xk_v, xk_n, f_Ta_byteAt hb hl i (by omega), e0]
end TOK
