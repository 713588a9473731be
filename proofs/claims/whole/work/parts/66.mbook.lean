/-! ===== the model reads its lines as the class does ===== -/
section MBOOK
variable {E : xE} {d : Nat} {Q : xR → Prop} {H : xH} {R : Nat} {wr cl : Int32} {K : Nat} {th ea : Int32} {tp nw kp wc sk : Nat → Int32} {T : Nat → Nat} {l x : Nat} {f : Int32 × Int32} {k : bkS} {kd nu : Nat → Int32} {EE : Nat}
variable {st : Nat → Int32} {vl : Nat → Int64} {e w : Int32 × Int32} {kc : bkS} {ln : Nat}
theorem bay_44 (v : (bayP kd nu st ln x e w kc).1 = true) : kd (x + 2) = 44 := by
  unfold bayP at v
  dsimp only at v
  by_cases p1 : kd (x + 1) = 2
  · rw [if_pos p1] at v
    by_cases p2 : kd (x + 2) = 44
    · exact p2
    · rw [if_neg p2] at v
      exact absurd v Bool.false_ne_true
  · rw [if_neg p1] at v
    exact absurd v Bool.false_ne_true
theorem tw_100 : xtgt 4 (if (200 : Int32).toInt < 200 ∨ 204 < (200 : Int32).toInt then 57 else (#[36, 42, 57, 47, 52] : Array Int).getD ((200 : Int32).toInt - 200).toNat 57) = 40 := by decide
theorem tw_101 : xtgt 4 (if (201 : Int32).toInt < 200 ∨ 204 < (201 : Int32).toInt then 57 else (#[36, 42, 57, 47, 52] : Array Int).getD ((201 : Int32).toInt - 200).toNat 57) = 46 := by decide
theorem tw_103 : xtgt 4 (if (203 : Int32).toInt < 200 ∨ 204 < (203 : Int32).toInt then 57 else (#[36, 42, 57, 47, 52] : Array Int).getD ((203 : Int32).toInt - 200).toNat 57) = 51 := by decide
theorem tw_104 : xtgt 4 (if (204 : Int32).toInt < 200 ∨ 204 < (204 : Int32).toInt then 57 else (#[36, 42, 57, 47, 52] : Array Int).getD ((204 : Int32).toInt - 200).toNat 57) = 56 := by decide
theorem tw_o : ∀ n, n < 126 → ¬ n = 100 → ¬ n = 101 → ¬ n = 103 → ¬ n = 104 → xtgt 4 (if (cmK (nI n)).toInt < 200 ∨ 204 < (cmK (nI n)).toInt then 57 else (#[36, 42, 57, 47, 52] : Array Int).getD ((cmK (nI n)).toInt - 200).toNat 57) = 61 := by decide +kernel
theorem line_go (hx : tkOK kd nu T l x) (fi : Int32) (z : Nat) (hz : xtgt 4 (if (mzK T l x).toInt < 200 ∨ 204 < (mzK T l x).toInt then 57 else (#[36, 42, 57, 47, 52] : Array Int).getD ((mzK T l x).toInt - 200).toNat 57) = z) :
    xcall E xprog (d + 1) 133 [.ref R, .int fi] (nH (mH H K th (nI l) ea tp nw kp wc sk) R (mzA T l x) (mzK T l x) (mzF T l x) (mzN T l x) (mzS T l x) (nI (x + 1)) f.1 f.2 wr cl k.1 (six k.2.2.1.1 k.2.2.1.2 (nI k.2.2.2.1) (nI k.2.2.2.2.1) (nI k.2.2.2.2.2.1) (nI k.2.2.2.2.2.2)) k.2.1) Q = xr E d m_MR_line Q (z, [some (.ref R), some (.int fi)], [], (nH (mH H K th (nI l) ea tp nw kp wc sk) R (mzA T l x) (mzK T l x) (mzF T l x) (mzN T l x) (mzS T l x) (nI (x + 1)) f.1 f.2 wr cl k.1 (six k.2.2.1.1 k.2.2.1.2 (nI k.2.2.2.1) (nI k.2.2.2.2.1) (nI k.2.2.2.2.2.1) (nI k.2.2.2.2.2.2)) k.2.1)) := by
  rw [e_MR_line, s_MR_line_0, s_MR_line_1]
  simp only [nQF_R, xll_10, xlg_10_0, xlg_10_1, xlg_10_2, xlg_10_3, xlg_10_4, xlg_10_5, xlg_10_6, xlg_10_7, xlg_10_8, xlg_10_9, xlg_10_10, xlg_10_11, xlg_10_12, Nat.reduceLT, true_and]
  rw [s_MR_line_4, hz]
theorem y_line (hR : 77 < R) (hb : byt T tp) (hl : l ≤ 1600) (hA : tkAll kd nu st vl T l EE) (hL : relL kd vl T l EE ln x e f kc k) (hx : x ≤ EE) : ((lnP kd nu st vl ln x e w kc).1 = true → ∃ (f' : Int32 × Int32) (cl' : Int32) (k' : bkS), relL kd vl T l EE (ln + 1) (lnP kd nu st vl ln x e w kc).2.1 (lnP kd nu st vl ln x e w kc).2.2.1 f' (lnP kd nu st vl ln x e w kc).2.2.2.2 k' ∧ ∀ Q, xcall E xprog (d + 63) 133 [.ref R, .int (bI (decide (ln = 0)))] (nH (mH H K th (nI l) ea tp nw kp wc sk) R (mzA T l x) (mzK T l x) (mzF T l x) (mzN T l x) (mzS T l x) (nI (x + 1)) f.1 f.2 wr cl k.1 (six k.2.2.1.1 k.2.2.1.2 (nI k.2.2.2.1) (nI k.2.2.2.2.1) (nI k.2.2.2.2.2.1) (nI k.2.2.2.2.2.2)) k.2.1) Q = Q (.inl (some (.int 1)), (nH (mH H K th (nI l) ea tp nw kp wc sk) R (mzA T l (lnP kd nu st vl ln x e w kc).2.1) (mzK T l (lnP kd nu st vl ln x e w kc).2.1) (mzF T l (lnP kd nu st vl ln x e w kc).2.1) (mzN T l (lnP kd nu st vl ln x e w kc).2.1) (mzS T l (lnP kd nu st vl ln x e w kc).2.1) (nI ((lnP kd nu st vl ln x e w kc).2.1 + 1)) f'.1 f'.2 wr cl' k'.1 (six k'.2.2.1.1 k'.2.2.1.2 (nI k'.2.2.2.1) (nI k'.2.2.2.2.1) (nI k'.2.2.2.2.2.1) (nI k'.2.2.2.2.2.2)) k'.2.1))) ∧ (¬ (lnP kd nu st vl ln x e w kc).1 = true → ∃ (f' : Int32 × Int32) (cl' : Int32) (k' : bkS), ∀ Q, xcall E xprog (d + 63) 133 [.ref R, .int (bI (decide (ln = 0)))] (nH (mH H K th (nI l) ea tp nw kp wc sk) R (mzA T l x) (mzK T l x) (mzF T l x) (mzN T l x) (mzS T l x) (nI (x + 1)) f.1 f.2 wr cl k.1 (six k.2.2.1.1 k.2.2.1.2 (nI k.2.2.2.1) (nI k.2.2.2.2.1) (nI k.2.2.2.2.2.1) (nI k.2.2.2.2.2.2)) k.2.1) Q = Q (.inl (some (.int 0)), (nH (mH H K th (nI l) ea tp nw kp wc sk) R (mzA T l (lnP kd nu st vl ln x e w kc).2.1) (mzK T l (lnP kd nu st vl ln x e w kc).2.1) (mzF T l (lnP kd nu st vl ln x e w kc).2.1) (mzN T l (lnP kd nu st vl ln x e w kc).2.1) (mzS T l (lnP kd nu st vl ln x e w kc).2.1) (nI ((lnP kd nu st vl ln x e w kc).2.1 + 1)) f'.1 f'.2 (mzF T l (lnP kd nu st vl ln x e w kc).2.1) cl' k'.1 (six k'.2.2.1.1 k'.2.2.1.2 (nI k'.2.2.2.1) (nI k'.2.2.2.2.1) (nI k'.2.2.2.2.2.1) (nI k'.2.2.2.2.2.2)) k'.2.1))) := by
  have hT : ∀ x, x ≤ EE → tkOK kd nu T l x := fun x hx => (hA.2.2.1 x hx).1
  have hE := hA.2.1
  have hc := hA.1
  have m := hL.2.2.1
  have tf := hT x hx
  have mz := tf.1
  have hk4 : k.2.2.2.2.2.2 ≤ 400 := by have := m.2.2.2; omega
  by_cases p100 : kd x = 100
  · have el : lnP kd nu st vl ln x e w kc = bayP kd nu st ln x e w kc := by
      unfold lnP
      rw [if_pos p100]
    rw [el]
    have hz : mzK T l x = 200 := by rw [kq_100 tf]; exact p100
    have go := fun (Q : xR → Prop) => line_go (d := d + 62) (Q := Q) (E := E) (H := H) (K := K) (th := th) (ea := ea) (nw := nw) (kp := kp) (wc := wc) (sk := sk) (wr := wr) (cl := cl) (f := f) (k := k) (R := R) (tp := tp) tf (bI (decide (ln = 0))) 40 (by rw [hz]; exact tw_100)
    obtain ⟨y1, y2⟩ := y_bay (d := d + 52) (wr := wr) (cl := cl) (f := f) (k := k) (st := st) (e := e) (w := w) (kc := kc) (E := E) (H := H) (K := K) (th := th) (ea := ea) (nw := nw) (kp := kp) (wc := wc) (sk := sk) hR hb hl hT hE hc hx p100 ln (decide (ln = 0))
    refine ⟨fun v => ?_, fun v => ?_⟩
    · obtain ⟨d1, d2, d3, d4⟩ := y1 v
      have hrel := (show relL kd vl T l EE (ln + 1) (bayP kd nu st ln x e w kc).2.1 (bayP kd nu st ln x e w kc).2.2.1 _ (bayP kd nu st ln x e w kc).2.2.2.2 _ from by have hb4 := (ln_bay (nu := nu) (st := st) (e := e) (w := w) hE hx hL.2.1 p100 ln).2.1; rw [d1] at hb4 ⊢; exact rel_bay hA hL hx p100 hb4 d2 (bay_44 v) d3)
      refine ⟨_, cl, _, hrel, fun Q => ?_⟩
      rw [go Q, d1]
      simp only [s_MR_line_40, s_MR_line_41, s_MR_line_42, s_MR_line_45, nQC_R, d4, xnb_1, not_false_eq_true, Nat.reduceLT, Nat.reduceAdd, true_and, and_true, if_true, if_false, ite_true, ite_false, xnb_0, xnb_1, xnb_b, xk_v, xk_n]
    · obtain ⟨ff, cc, kk, y3⟩ := y2 v
      refine ⟨ff, cc, kk, fun Q => ?_⟩
      rw [go Q]
      simp only [s_MR_line_40, s_MR_line_41, s_MR_line_42, s_MR_line_45, nQC_R, y3, xnb_0, not_false_eq_true, Nat.reduceLT, Nat.reduceAdd, true_and, and_true, if_true, if_false, ite_true, ite_false, xnb_0, xnb_1, xnb_b, xk_v, xk_n]
  by_cases p101 : kd x = 101
  · have el : lnP kd nu st vl ln x e w kc = ketP kd nu st x e w kc := by
      unfold lnP
      rw [if_neg p100, if_pos p101]
    rw [el]
    have hz : mzK T l x = 201 := by rw [kq_101 tf]; exact p101
    have go := fun (Q : xR → Prop) => line_go (d := d + 62) (Q := Q) (E := E) (H := H) (K := K) (th := th) (ea := ea) (nw := nw) (kp := kp) (wc := wc) (sk := sk) (wr := wr) (cl := cl) (f := f) (k := k) (R := R) (tp := tp) tf (bI (decide (ln = 0))) 46 (by rw [hz]; exact tw_101)
    obtain ⟨y1, y2⟩ := y_kettleLine (d := d + 51) (wr := wr) (cl := cl) (f := f) (k := k) (st := st) (e := e) (w := w) (kc := kc) (E := E) (H := H) (K := K) (th := th) (ea := ea) (nw := nw) (kp := kp) (wc := wc) (sk := sk) hR hb hl hT hE hc m.1 m.2.1 m.2.2.1 hk4 hx p101
    refine ⟨fun v => ?_, fun v => ?_⟩
    · obtain ⟨d1, d2, d3, d4, d5⟩ := y1 v
      have hrel := (show relL kd vl T l EE (ln + 1) (ketP kd nu st x e w kc).2.1 (ketP kd nu st x e w kc).2.2.1 _ (ketP kd nu st x e w kc).2.2.2.2 _ from by have hb4 := (ln_ket (nu := nu) (st := st) (e := e) (w := w) hE hx hL.2.1 p101).2.1; rw [d1] at hb4 ⊢; exact rel_ket hA hL hx p101 hb4 v)
      refine ⟨_, mzN T l (x + 1), _, hrel, fun Q => ?_⟩
      rw [go Q, d1]
      simp only [s_MR_line_46, s_MR_line_47, s_MR_line_50, nQC_R, d5, xnb_1, not_false_eq_true, Nat.reduceLT, Nat.reduceAdd, true_and, and_true, if_true, if_false, ite_true, ite_false, xnb_0, xnb_1, xnb_b, xk_v, xk_n]
    · obtain ⟨ff, cc, kk, y3⟩ := y2 v
      refine ⟨ff, cc, kk, fun Q => ?_⟩
      rw [go Q]
      simp only [s_MR_line_46, s_MR_line_47, s_MR_line_50, nQC_R, y3, xnb_0, not_false_eq_true, Nat.reduceLT, Nat.reduceAdd, true_and, and_true, if_true, if_false, ite_true, ite_false, xnb_0, xnb_1, xnb_b, xk_v, xk_n]
  by_cases p103 : kd x = 103
  · have el : lnP kd nu st vl ln x e w kc = cusP kd nu st x e w kc := by
      unfold lnP
      rw [if_neg p100, if_neg p101, if_pos p103]
    rw [el]
    have hz : mzK T l x = 203 := by rw [kq_103 tf]; exact p103
    have go := fun (Q : xR → Prop) => line_go (d := d + 62) (Q := Q) (E := E) (H := H) (K := K) (th := th) (ea := ea) (nw := nw) (kp := kp) (wc := wc) (sk := sk) (wr := wr) (cl := cl) (f := f) (k := k) (R := R) (tp := tp) tf (bI (decide (ln = 0))) 51 (by rw [hz]; exact tw_103)
    obtain ⟨y1, y2⟩ := y_customsLine (d := d + 51) (wr := wr) (cl := cl) (f := f) (k := k) (st := st) (e := e) (w := w) (kc := kc) (E := E) (H := H) (K := K) (th := th) (ea := ea) (nw := nw) (kp := kp) (wc := wc) (sk := sk) hR hb hl hT hE hc m.1 m.2.1 m.2.2.1 hk4 hx p103
    refine ⟨fun v => ?_, fun v => ?_⟩
    · obtain ⟨d1, d2, d3, d4⟩ := y1 v
      have hrel := (show relL kd vl T l EE (ln + 1) (cusP kd nu st x e w kc).2.1 (cusP kd nu st x e w kc).2.2.1 _ (cusP kd nu st x e w kc).2.2.2.2 _ from by have hb4 := (ln_cus (nu := nu) (st := st) (e := e) (w := w) hE hx hL.2.1 p103).2.1; rw [d1] at hb4 ⊢; exact rel_cus hA hL hx p103 hb4 v)
      refine ⟨_, mzN T l (x + 1), _, hrel, fun Q => ?_⟩
      rw [go Q, d1]
      simp only [s_MR_line_51, s_MR_line_52, s_MR_line_55, nQC_R, d4, xnb_1, not_false_eq_true, Nat.reduceLT, Nat.reduceAdd, true_and, and_true, if_true, if_false, ite_true, ite_false, xnb_0, xnb_1, xnb_b, xk_v, xk_n]
    · obtain ⟨ff, cc, kk, y3⟩ := y2 v
      refine ⟨ff, cc, kk, fun Q => ?_⟩
      rw [go Q]
      simp only [s_MR_line_51, s_MR_line_52, s_MR_line_55, nQC_R, y3, xnb_0, not_false_eq_true, Nat.reduceLT, Nat.reduceAdd, true_and, and_true, if_true, if_false, ite_true, ite_false, xnb_0, xnb_1, xnb_b, xk_v, xk_n]
  by_cases p104 : kd x = 104
  · have el : lnP kd nu st vl ln x e w kc = cliP kd nu st vl x e w kc := by
      unfold lnP
      rw [if_neg p100, if_neg p101, if_neg p103, if_pos p104]
    rw [el]
    have hz : mzK T l x = 204 := by rw [kq_104 tf]; exact p104
    have go := fun (Q : xR → Prop) => line_go (d := d + 62) (Q := Q) (E := E) (H := H) (K := K) (th := th) (ea := ea) (nw := nw) (kp := kp) (wc := wc) (sk := sk) (wr := wr) (cl := cl) (f := f) (k := k) (R := R) (tp := tp) tf (bI (decide (ln = 0))) 56 (by rw [hz]; exact tw_104)
    obtain ⟨y1, y2⟩ := y_clipperLine (d := d) (wr := wr) (cl := cl) (f := f) (k := k) (st := st) (vl := vl) (e := e) (w := w) (kc := kc) (E := E) (H := H) (K := K) (th := th) (ea := ea) (nw := nw) (kp := kp) (wc := wc) (sk := sk) hR hb hl hT hE hc m.1 m.2.1 m.2.2.1 m.2.2.2 hx p104
    refine ⟨fun v => ?_, fun v => ?_⟩
    · obtain ⟨d1, d2, d3, d4, d5, d6, d7, d8⟩ := y1 v
      have hrel := (show relL kd vl T l EE (ln + 1) (cliP kd nu st vl x e w kc).2.1 (cliP kd nu st vl x e w kc).2.2.1 _ (cliP kd nu st vl x e w kc).2.2.2.2 _ from rel_cli hA hL hx p104 d3 v)
      refine ⟨_, mzN T l (x + 3), _, hrel, fun Q => ?_⟩
      rw [go Q, d1]
      simp only [s_MR_line_56, s_MR_line_57, s_MR_line_60, nQC_R, d8, xnb_1, not_false_eq_true, Nat.reduceLT, Nat.reduceAdd, true_and, and_true, if_true, if_false, ite_true, ite_false, xnb_0, xnb_1, xnb_b, xk_v, xk_n]
    · obtain ⟨ff, cc, kk, y3⟩ := y2 v
      refine ⟨ff, cc, kk, fun Q => ?_⟩
      rw [go Q]
      simp only [s_MR_line_56, s_MR_line_57, s_MR_line_60, nQC_R, y3, xnb_0, not_false_eq_true, Nat.reduceLT, Nat.reduceAdd, true_and, and_true, if_true, if_false, ite_true, ite_false, xnb_0, xnb_1, xnb_b, xk_v, xk_n]
  have el : lnP kd nu st vl ln x e w kc = (false, x, e, w, kc) := by
    unfold lnP
    rw [if_neg p100, if_neg p101, if_neg p103, if_neg p104]
  rw [el]
  refine ⟨fun v => absurd v Bool.false_ne_true, fun _ => ⟨f, cl, k, fun Q => ?_⟩⟩
  have hz : xtgt 4 (if (mzK T l x).toInt < 200 ∨ 204 < (mzK T l x).toInt then 57 else (#[36, 42, 57, 47, 52] : Array Int).getD ((mzK T l x).toInt - 200).toNat 57) = 61 := by
    rw [mz]
    obtain ⟨n, n1, n2⟩ := tf.2.1
    rw [n2] at p100 p101 p103 p104 ⊢
    exact tw_o n n1 (fun z => p100 (by rw [z]; rfl)) (fun z => p101 (by rw [z]; rfl)) (fun z => p103 (by rw [z]; rfl)) (fun z => p104 (by rw [z]; rfl))
  have yw := fun (Q : xR → Prop) => y_wrong (d := d + 61) (Q := Q) (E := E) (H := H) (R := R) (K := K) (th := th) (ea := ea) (tp := tp) (nw := nw) (kp := kp) (wc := wc) (sk := sk) (T := T) (l := l) (x := x) (f := f) (wr := wr) (cl := cl) (g := k.1) (ns := k.2.1) (q := six k.2.2.1.1 k.2.2.1.2 (nI k.2.2.2.1) (nI k.2.2.2.2.1) (nI k.2.2.2.2.2.1) (nI k.2.2.2.2.2.2))
  rw [line_go (d := d + 62) tf _ 61 hz]
  simp only [s_MR_line_61, s_MR_line_62, s_MR_line_65, nQC_R, yw, xnb_0, not_false_eq_true, Nat.reduceLT, Nat.reduceAdd, true_and, and_true, if_true, if_false, ite_true, ite_false, xnb_0, xnb_1, xnb_b, xk_v, xk_n]
theorem y_lines (hR : 77 < R) (hb : byt T tp) (hl : l ≤ 1600) (hA : tkAll kd nu st vl T l EE) : ∀ m ln x (e f w : Int32 × Int32) (wr cl : Int32) (kc k : bkS), ln + m = 401 → ln ≤ x → x ≤ EE → relL kd vl T l EE ln x e f kc k →
    ∃ (bb : Bool) (x' : Nat) (f' : Int32 × Int32) (wr' cl' : Int32) (k' : bkS), (∀ Q, xr E (d + 64) m_MR_book Q (6, [some (.ref R), some (.int (bI (decide (ln = 0))))], [], (nH (mH H K th (nI l) ea tp nw kp wc sk) R (mzA T l x) (mzK T l x) (mzF T l x) (mzN T l x) (mzS T l x) (nI (x + 1)) f.1 f.2 wr cl k.1 (six k.2.2.1.1 k.2.2.1.2 (nI k.2.2.2.1) (nI k.2.2.2.2.1) (nI k.2.2.2.2.2.1) (nI k.2.2.2.2.2.2)) k.2.1)) = Q (.inl (some (.int (bI bb))), (nH (mH H K th (nI l) ea tp nw kp wc sk) R (mzA T l x') (mzK T l x') (mzF T l x') (mzN T l x') (mzS T l x') (nI (x' + 1)) f'.1 f'.2 wr' cl' k'.1 (six k'.2.2.1.1 k'.2.2.1.2 (nI k'.2.2.2.1) (nI k'.2.2.2.2.1) (nI k'.2.2.2.2.2.1) (nI k'.2.2.2.2.2.2)) k'.2.1))) ∧ (bb = false → (rdP kd nu st vl m ln x e w kc).2.1 = (1, wr')) ∧
      (bb = true → (rdP kd nu st vl m ln x e w kc).2.1 = f' ∧ mOK k' EE ∧ kOK (rdP kd nu st vl m ln x e w kc).2.2.2 ∧ (f'.1 = 0 → relB kd vl T l EE (rdP kd nu st vl m ln x e w kc).2.2.2 k')) := by
  have hT : ∀ x, x ≤ EE → tkOK kd nu T l x := fun x hx => (hA.2.2.1 x hx).1
  have hE := hA.2.1
  have hc := hA.1
  intro m
  induction m with
  | zero => intro ln x e f w wr cl kc k h1 h2 h3; omega
  | succ m ih =>
    intro ln x e f w wr cl kc k h1 h2 h3 hL
    have tf := hT x h3
    unfold rdP
    by_cases p : kd x = 0
    · rw [if_pos p]
      refine ⟨true, x, f, wr, cl, k, fun Q => ?_, fun h => absurd h (by decide), fun _ => ⟨hL.1.1, mOK_le hL.2.2.1 h3, hL.2.1, fun z => hL.2.2.2.1 (by rw [hL.1.1]; exact z)⟩⟩
      rw [s_MR_book_6]
      simp only [s_MR_book_7, s_MR_book_10, s_MR_book_37, s_MR_book_38, nQF_R, nQC_R, xll_10, xlg_10_0, xlg_10_1, xlg_10_2, xlg_10_3, xlg_10_4, xlg_10_5, xlg_10_6, xlg_10_7, xlg_10_8, xlg_10_9, xlg_10_10, xlg_10_11, xlg_10_12, not_false_eq_true, Nat.reduceLT, Nat.reduceAdd, true_and, and_true, if_true, if_false, ite_true, ite_false, xnb_0, xnb_1, xnb_b, xk_v, xk_n, kq_0 tf, p, bI_t, not_false_eq_true, Nat.reduceLT, Nat.reduceAdd, true_and, and_true, if_true, if_false, ite_true, ite_false, xnb_0, xnb_1, xnb_b, xk_v, xk_n, xnb_1]
    · rw [if_neg p]
      obtain ⟨y1, y2⟩ := y_line (d := d + 1) (E := E) (H := H) (K := K) (th := th) (ea := ea) (nw := nw) (kp := kp) (wc := wc) (sk := sk) (wr := wr) (cl := cl) (w := w) hR hb hl hA hL h3
      have hbd := ln_ok (nu := nu) (st := st) (vl := vl) (e := e) (w := w) hE h3 hL.2.1 ln
      have st1 := fun z hz => (hA.2.2.1 z hz).2.1
      generalize hr : lnP kd nu st vl ln x e w kc = r at y1 y2 hbd ⊢
      obtain ⟨hb1, hb2, hb3⟩ := hbd
      by_cases v : r.1 = true
      · obtain ⟨f', cl', k', hL', y3⟩ := y1 v
        have t2 := fun (Q : xR → Prop) => y_take (d := d + 55) (Q := Q) (E := E) (H := H) (R := R) (K := K) (th := th) (ea := ea) (tp := tp) (nw := nw) (kp := kp) (wc := wc) (sk := sk) (T := T) (l := l) (x := r.2.1) (f := f') (wr := wr) (cl := cl') (g := k'.1) (ns := k'.2.1) (q := six k'.2.2.1.1 k'.2.2.1.2 (nI k'.2.2.2.1) (nI k'.2.2.2.2.1) (nI k'.2.2.2.2.2.1) (nI k'.2.2.2.2.2.2)) hR hb hl (show r.2.1 < 900 by omega) 59
        simp only [kq_59 (hT r.2.1 hb2)] at t2
        by_cases v2 : kd r.2.1 = 59
        · have b2 : r.2.1 + 1 ≤ EE := kd_in hE hb2 v2 (by decide) (by decide)
          rw [if_pos ⟨v, v2⟩]
          have hL2 : relL kd vl T l EE (ln + 1) (r.2.1 + 1) r.2.2.1 f' r.2.2.2.2 k' := ⟨agr_le hL'.1 (by omega), hL'.2.1, mOK_le hL'.2.2.1 (by omega), hL'.2.2.2.1, fun h => absurd h (by omega)⟩
          obtain ⟨bb, x', f2, wr2, cl2, k2, z1, z2, z3⟩ := ih (ln + 1) (r.2.1 + 1) r.2.2.1 f' r.2.2.2.1 wr cl' r.2.2.2.2 k' (by omega) (by omega) b2 hL2
          refine ⟨bb, x', f2, wr2, cl2, k2, fun Q => ?_, z2, z3⟩
          have z1' := z1 Q
          rw [decide_eq_false (show ¬ ln + 1 = 0 by omega)] at z1'
          rw [s_MR_book_6]
          simp only [s_MR_book_7, s_MR_book_10, s_MR_book_13, s_MR_book_14, s_MR_book_15, s_MR_book_18, s_MR_book_21, s_MR_book_22, s_MR_book_24, s_MR_book_27, s_MR_book_30, s_MR_book_31, s_MR_book_32, s_MR_book_33, s_MR_book_34, nQF_R, nQC_R, xll_10, xlg_10_0, xlg_10_1, xlg_10_2, xlg_10_3, xlg_10_4, xlg_10_5, xlg_10_6, xlg_10_7, xlg_10_8, xlg_10_9, xlg_10_10, xlg_10_11, xlg_10_12, not_false_eq_true, Nat.reduceLT, Nat.reduceAdd, true_and, and_true, if_true, if_false, ite_true, ite_false, xnb_0, xnb_1, xnb_b, xk_v, xk_n, kq_0 tf, p, y3, t2, v2, k1_0, if_true, if_false]
          exact z1'
        · rw [if_neg (fun h => v2 h.2)]
          refine ⟨false, r.2.1, f', mzF T l r.2.1, cl', k', fun Q => ?_, fun _ => ?_, fun h => absurd h (by decide)⟩
          · rw [s_MR_book_6]
            simp only [s_MR_book_7, s_MR_book_10, s_MR_book_13, s_MR_book_14, s_MR_book_15, s_MR_book_18, s_MR_book_21, s_MR_book_22, s_MR_book_24, s_MR_book_27, s_MR_book_30, s_MR_book_31, s_MR_book_32, s_MR_book_33, s_MR_book_34, nQF_R, nQC_R, xll_10, xlg_10_0, xlg_10_1, xlg_10_2, xlg_10_3, xlg_10_4, xlg_10_5, xlg_10_6, xlg_10_7, xlg_10_8, xlg_10_9, xlg_10_10, xlg_10_11, xlg_10_12, not_false_eq_true, Nat.reduceLT, Nat.reduceAdd, true_and, and_true, if_true, if_false, ite_true, ite_false, xnb_0, xnb_1, xnb_b, xk_v, xk_n, kq_0 tf, p, y3, t2, v2, k1_0, if_true, if_false, bI_f]
          · show (1, st r.2.1) = (1, mzF T l r.2.1)
            rw [st1 _ hb2]
      · obtain ⟨f', cl', k', y3⟩ := y2 v
        rw [if_neg (fun h => v h.1)]
        refine ⟨false, r.2.1, f', mzF T l r.2.1, cl', k', fun Q => ?_, fun _ => ?_, fun h => absurd h (by decide)⟩
        · rw [s_MR_book_6]
          simp only [s_MR_book_7, s_MR_book_10, s_MR_book_13, s_MR_book_14, s_MR_book_15, s_MR_book_18, s_MR_book_21, s_MR_book_22, s_MR_book_24, s_MR_book_27, s_MR_book_30, s_MR_book_31, s_MR_book_32, s_MR_book_33, s_MR_book_34, nQF_R, nQC_R, xll_10, xlg_10_0, xlg_10_1, xlg_10_2, xlg_10_3, xlg_10_4, xlg_10_5, xlg_10_6, xlg_10_7, xlg_10_8, xlg_10_9, xlg_10_10, xlg_10_11, xlg_10_12, not_false_eq_true, Nat.reduceLT, Nat.reduceAdd, true_and, and_true, if_true, if_false, ite_true, ite_false, xnb_0, xnb_1, xnb_b, xk_v, xk_n, kq_0 tf, p, y3, if_true, if_false, bI_f]
        · show (1, st r.2.1) = (1, mzF T l r.2.1)
          rw [st1 _ hb2]
end MBOOK
