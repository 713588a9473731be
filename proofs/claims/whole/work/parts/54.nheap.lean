/-! ===== the model's reader, as one heap ===== -/
section NHEAP
def nH (H : xH) (R : Nat) (a0 : Int32) (kn : Int32) (fr : Int32) (nu : Int32) (na : Int64) (tk : Int32) (fa : Int32) (fp : Int32) (wr : Int32) (cl : Int32) (g : Nat → Nat → Int32) (q : Nat → Int32) (ns : Nat → Int64) : xH :=
  (fun n => if n = R then .inr (10, [.ref (R + 1), .ref (R + 10), .int a0, .int kn, .int fr, .int nu, .long na, .int tk, .int fa, .int fp, .int wr, .int cl, .ref 63]) else if n = R + 1 then .inr (9, [.int (q 0), .int (q 1), .int (q 2), .int (q 3), .int (q 4), .ref (R + 2), .ref (R + 3), .ref (R + 4), .ref (R + 5), .ref (R + 6), .ref (R + 7), .ref (R + 8), .ref (R + 9), .int (q 5)]) else if n = R + 2 then xarI 7 (g 0) else if n = R + 3 then xarI 7 (g 1) else if n = R + 4 then xarI 7 (g 2) else if n = R + 5 then xarI 7 (g 3) else if n = R + 6 then xarI 7 (g 4) else if n = R + 7 then xarI 7 (g 5) else if n = R + 8 then xarI 8 (g 6) else if n = R + 9 then xarI 800 (g 7) else if n = R + 10 then xarJ 7 ns else H.1 n, H.2)
variable {H : xH} {R : Nat} {a0 a0' : Int32} {kn kn' : Int32} {fr fr' : Int32} {nu nu' : Int32} {na na' : Int64} {tk tk' : Int32} {fa fa' : Int32} {fp fp' : Int32} {wr wr' : Int32} {cl cl' : Int32} {g g' : Nat → Nat → Int32} {q q' : Nat → Int32} {ns ns' : Nat → Int64}
theorem nH_2 : (nH H R a0 kn fr nu na tk fa fp wr cl g q ns).2 = H.2 := rfl
theorem nH_o (n : Nat) (p : n < R ∨ R + 10 < n) : (nH H R a0 kn fr nu na tk fa fp wr cl g q ns).1 n = H.1 n := by
  unfold nH
  dsimp only
  rw [if_neg (by omega), if_neg (by omega), if_neg (by omega), if_neg (by omega), if_neg (by omega), if_neg (by omega), if_neg (by omega), if_neg (by omega), if_neg (by omega), if_neg (by omega), if_neg (by omega)]
theorem nH_c0 : (nH H R a0 kn fr nu na tk fa fp wr cl g q ns).1 (R) = .inr (10, [.ref (R + 1), .ref (R + 10), .int a0, .int kn, .int fr, .int nu, .long na, .int tk, .int fa, .int fp, .int wr, .int cl, .ref 63]) := by
  unfold nH
  dsimp only
  rw [if_pos rfl]
theorem nH_c1 : (nH H R a0 kn fr nu na tk fa fp wr cl g q ns).1 (R + 1) = .inr (9, [.int (q 0), .int (q 1), .int (q 2), .int (q 3), .int (q 4), .ref (R + 2), .ref (R + 3), .ref (R + 4), .ref (R + 5), .ref (R + 6), .ref (R + 7), .ref (R + 8), .ref (R + 9), .int (q 5)]) := by
  unfold nH
  dsimp only
  rw [if_neg (by omega), if_pos rfl]
theorem nH_c2 : (nH H R a0 kn fr nu na tk fa fp wr cl g q ns).1 (R + 2) = xarI 7 (g 0) := by
  unfold nH
  dsimp only
  rw [if_neg (by omega), if_neg (by omega), if_pos rfl]
theorem nH_c3 : (nH H R a0 kn fr nu na tk fa fp wr cl g q ns).1 (R + 3) = xarI 7 (g 1) := by
  unfold nH
  dsimp only
  rw [if_neg (by omega), if_neg (by omega), if_neg (by omega), if_pos rfl]
theorem nH_c4 : (nH H R a0 kn fr nu na tk fa fp wr cl g q ns).1 (R + 4) = xarI 7 (g 2) := by
  unfold nH
  dsimp only
  rw [if_neg (by omega), if_neg (by omega), if_neg (by omega), if_neg (by omega), if_pos rfl]
theorem nH_c5 : (nH H R a0 kn fr nu na tk fa fp wr cl g q ns).1 (R + 5) = xarI 7 (g 3) := by
  unfold nH
  dsimp only
  rw [if_neg (by omega), if_neg (by omega), if_neg (by omega), if_neg (by omega), if_neg (by omega), if_pos rfl]
theorem nH_c6 : (nH H R a0 kn fr nu na tk fa fp wr cl g q ns).1 (R + 6) = xarI 7 (g 4) := by
  unfold nH
  dsimp only
  rw [if_neg (by omega), if_neg (by omega), if_neg (by omega), if_neg (by omega), if_neg (by omega), if_neg (by omega), if_pos rfl]
theorem nH_c7 : (nH H R a0 kn fr nu na tk fa fp wr cl g q ns).1 (R + 7) = xarI 7 (g 5) := by
  unfold nH
  dsimp only
  rw [if_neg (by omega), if_neg (by omega), if_neg (by omega), if_neg (by omega), if_neg (by omega), if_neg (by omega), if_neg (by omega), if_pos rfl]
theorem nH_c8 : (nH H R a0 kn fr nu na tk fa fp wr cl g q ns).1 (R + 8) = xarI 8 (g 6) := by
  unfold nH
  dsimp only
  rw [if_neg (by omega), if_neg (by omega), if_neg (by omega), if_neg (by omega), if_neg (by omega), if_neg (by omega), if_neg (by omega), if_neg (by omega), if_pos rfl]
theorem nH_c9 : (nH H R a0 kn fr nu na tk fa fp wr cl g q ns).1 (R + 9) = xarI 800 (g 7) := by
  unfold nH
  dsimp only
  rw [if_neg (by omega), if_neg (by omega), if_neg (by omega), if_neg (by omega), if_neg (by omega), if_neg (by omega), if_neg (by omega), if_neg (by omega), if_neg (by omega), if_pos rfl]
theorem nH_c10 : (nH H R a0 kn fr nu na tk fa fp wr cl g q ns).1 (R + 10) = xarJ 7 ns := by
  unfold nH
  dsimp only
  rw [if_neg (by omega), if_neg (by omega), if_neg (by omega), if_neg (by omega), if_neg (by omega), if_neg (by omega), if_neg (by omega), if_neg (by omega), if_neg (by omega), if_neg (by omega), if_pos rfl]
theorem nw_R : xset (nH H R a0 kn fr nu na tk fa fp wr cl g q ns) (R) (.inr (10, [.ref (R + 1), .ref (R + 10), .int a0', .int kn', .int fr', .int nu', .long na', .int tk', .int fa', .int fp', .int wr', .int cl', .ref 63])) = (nH H R a0' kn' fr' nu' na' tk' fa' fp' wr' cl' g q ns) := by
  refine xset_is nH_c0 (fun n hn => ?_) rfl
  unfold nH
  simp only [if_neg hn]
variable {x0 x1 x2 x3 x4 x5 : Int32} {f : Nat → Int32}
theorem nw_B : xset (nH H R a0 kn fr nu na tk fa fp wr cl g q ns) (R + 1) (.inr (9, [.int x0, .int x1, .int x2, .int x3, .int x4, .ref (R + 2), .ref (R + 3), .ref (R + 4), .ref (R + 5), .ref (R + 6), .ref (R + 7), .ref (R + 8), .ref (R + 9), .int x5])) = (nH H R a0 kn fr nu na tk fa fp wr cl g (six x0 x1 x2 x3 x4 x5) ns) := by
  refine xset_is nH_c1 (fun n hn => ?_) rfl
  unfold nH
  simp only [if_neg hn, six_0, six_1, six_2, six_3, six_4, six_5]
theorem nw_g0 : xset (nH H R a0 kn fr nu na tk fa fp wr cl g q ns) (R + 2) (xarI 7 f) = (nH H R a0 kn fr nu na tk fa fp wr cl (upr g 0 f) q ns) := by
  refine xset_is nH_c2 (fun n hn => ?_) rfl
  unfold nH
  simp only [if_neg hn, upr, if_true, if_false, Nat.reduceEqDiff, reduceCtorEq, Nat.zero_ne_one, Nat.one_ne_zero]
theorem nw_g1 : xset (nH H R a0 kn fr nu na tk fa fp wr cl g q ns) (R + 3) (xarI 7 f) = (nH H R a0 kn fr nu na tk fa fp wr cl (upr g 1 f) q ns) := by
  refine xset_is nH_c3 (fun n hn => ?_) rfl
  unfold nH
  simp only [if_neg hn, upr, if_true, if_false, Nat.reduceEqDiff, reduceCtorEq, Nat.zero_ne_one, Nat.one_ne_zero]
theorem nw_g2 : xset (nH H R a0 kn fr nu na tk fa fp wr cl g q ns) (R + 4) (xarI 7 f) = (nH H R a0 kn fr nu na tk fa fp wr cl (upr g 2 f) q ns) := by
  refine xset_is nH_c4 (fun n hn => ?_) rfl
  unfold nH
  simp only [if_neg hn, upr, if_true, if_false, Nat.reduceEqDiff, reduceCtorEq, Nat.zero_ne_one, Nat.one_ne_zero]
theorem nw_g3 : xset (nH H R a0 kn fr nu na tk fa fp wr cl g q ns) (R + 5) (xarI 7 f) = (nH H R a0 kn fr nu na tk fa fp wr cl (upr g 3 f) q ns) := by
  refine xset_is nH_c5 (fun n hn => ?_) rfl
  unfold nH
  simp only [if_neg hn, upr, if_true, if_false, Nat.reduceEqDiff, reduceCtorEq, Nat.zero_ne_one, Nat.one_ne_zero]
theorem nw_g4 : xset (nH H R a0 kn fr nu na tk fa fp wr cl g q ns) (R + 6) (xarI 7 f) = (nH H R a0 kn fr nu na tk fa fp wr cl (upr g 4 f) q ns) := by
  refine xset_is nH_c6 (fun n hn => ?_) rfl
  unfold nH
  simp only [if_neg hn, upr, if_true, if_false, Nat.reduceEqDiff, reduceCtorEq, Nat.zero_ne_one, Nat.one_ne_zero]
theorem nw_g5 : xset (nH H R a0 kn fr nu na tk fa fp wr cl g q ns) (R + 7) (xarI 7 f) = (nH H R a0 kn fr nu na tk fa fp wr cl (upr g 5 f) q ns) := by
  refine xset_is nH_c7 (fun n hn => ?_) rfl
  unfold nH
  simp only [if_neg hn, upr, if_true, if_false, Nat.reduceEqDiff, reduceCtorEq, Nat.zero_ne_one, Nat.one_ne_zero]
theorem nw_g6 : xset (nH H R a0 kn fr nu na tk fa fp wr cl g q ns) (R + 8) (xarI 8 f) = (nH H R a0 kn fr nu na tk fa fp wr cl (upr g 6 f) q ns) := by
  refine xset_is nH_c8 (fun n hn => ?_) rfl
  unfold nH
  simp only [if_neg hn, upr, if_true, if_false, Nat.reduceEqDiff, reduceCtorEq, Nat.zero_ne_one, Nat.one_ne_zero]
theorem nw_g7 : xset (nH H R a0 kn fr nu na tk fa fp wr cl g q ns) (R + 9) (xarI 800 f) = (nH H R a0 kn fr nu na tk fa fp wr cl (upr g 7 f) q ns) := by
  refine xset_is nH_c9 (fun n hn => ?_) rfl
  unfold nH
  simp only [if_neg hn, upr, if_true, if_false, Nat.reduceEqDiff, reduceCtorEq, Nat.zero_ne_one, Nat.one_ne_zero]
theorem nw_ns : xset (nH H R a0 kn fr nu na tk fa fp wr cl g q ns) (R + 10) (xarJ 7 ns') = (nH H R a0 kn fr nu na tk fa fp wr cl g q ns') := by
  refine xset_is nH_c10 (fun n hn => ?_) rfl
  unfold nH
  simp only [if_neg hn]
theorem nQF_R : xfls (nH H R a0 kn fr nu na tk fa fp wr cl g q ns) (R) 10 = [.ref (R + 1), .ref (R + 10), .int a0, .int kn, .int fr, .int nu, .long na, .int tk, .int fa, .int fp, .int wr, .int cl, .ref 63] := xf_of nH_c0
theorem nQC_R : xcl (nH H R a0 kn fr nu na tk fa fp wr cl g q ns) (R) = 10 := xc_of nH_c0
theorem nQF_B : xfls (nH H R a0 kn fr nu na tk fa fp wr cl g q ns) (R + 1) 9 = [.int (q 0), .int (q 1), .int (q 2), .int (q 3), .int (q 4), .ref (R + 2), .ref (R + 3), .ref (R + 4), .ref (R + 5), .ref (R + 6), .ref (R + 7), .ref (R + 8), .ref (R + 9), .int (q 5)] := xf_of nH_c1
theorem nQC_B : xcl (nH H R a0 kn fr nu na tk fa fp wr cl g q ns) (R + 1) = 9 := xc_of nH_c1
theorem nQl_0 : xlenI (nH H R a0 kn fr nu na tk fa fp wr cl g q ns) (R + 2) = 7 := xIl_of nH_c2
theorem nQf_0 : xfnI (nH H R a0 kn fr nu na tk fa fp wr cl g q ns) (R + 2) = g 0 := xIf_of nH_c2
theorem nQl_1 : xlenI (nH H R a0 kn fr nu na tk fa fp wr cl g q ns) (R + 3) = 7 := xIl_of nH_c3
theorem nQf_1 : xfnI (nH H R a0 kn fr nu na tk fa fp wr cl g q ns) (R + 3) = g 1 := xIf_of nH_c3
theorem nQl_2 : xlenI (nH H R a0 kn fr nu na tk fa fp wr cl g q ns) (R + 4) = 7 := xIl_of nH_c4
theorem nQf_2 : xfnI (nH H R a0 kn fr nu na tk fa fp wr cl g q ns) (R + 4) = g 2 := xIf_of nH_c4
theorem nQl_3 : xlenI (nH H R a0 kn fr nu na tk fa fp wr cl g q ns) (R + 5) = 7 := xIl_of nH_c5
theorem nQf_3 : xfnI (nH H R a0 kn fr nu na tk fa fp wr cl g q ns) (R + 5) = g 3 := xIf_of nH_c5
theorem nQl_4 : xlenI (nH H R a0 kn fr nu na tk fa fp wr cl g q ns) (R + 6) = 7 := xIl_of nH_c6
theorem nQf_4 : xfnI (nH H R a0 kn fr nu na tk fa fp wr cl g q ns) (R + 6) = g 4 := xIf_of nH_c6
theorem nQl_5 : xlenI (nH H R a0 kn fr nu na tk fa fp wr cl g q ns) (R + 7) = 7 := xIl_of nH_c7
theorem nQf_5 : xfnI (nH H R a0 kn fr nu na tk fa fp wr cl g q ns) (R + 7) = g 5 := xIf_of nH_c7
theorem nQl_6 : xlenI (nH H R a0 kn fr nu na tk fa fp wr cl g q ns) (R + 8) = 8 := xIl_of nH_c8
theorem nQf_6 : xfnI (nH H R a0 kn fr nu na tk fa fp wr cl g q ns) (R + 8) = g 6 := xIf_of nH_c8
theorem nQl_7 : xlenI (nH H R a0 kn fr nu na tk fa fp wr cl g q ns) (R + 9) = 800 := xIl_of nH_c9
theorem nQf_7 : xfnI (nH H R a0 kn fr nu na tk fa fp wr cl g q ns) (R + 9) = g 7 := xIf_of nH_c9
theorem nQl_s : xlenJ (nH H R a0 kn fr nu na tk fa fp wr cl g q ns) (R + 10) = 7 := xJl_of nH_c10
theorem nQf_s : xfnJ (nH H R a0 kn fr nu na tk fa fp wr cl g q ns) (R + 10) = ns := xJf_of nH_c10
variable {K : Nat} {th sz ea : Int32} {tp nw kp wc sk : Nat → Int32}
theorem nQF_M (hR : 77 < R) : xfls (nH (mH H K th sz ea tp nw kp wc sk) R a0 kn fr nu na tk fa fp wr cl g q ns) 63 11 = [.int th, .ref 64, .int sz, .int ea, .ref K, .ref 74, .ref 75, .ref 76, .ref 77] := xf_of ((nH_o 63 (by omega)).trans rfl)
theorem nQC_M (hR : 77 < R) : xcl (nH (mH H K th sz ea tp nw kp wc sk) R a0 kn fr nu na tk fa fp wr cl g q ns) 63 = 11 := xc_of (fs := [.int th, .ref 64, .int sz, .int ea, .ref K, .ref 74, .ref 75, .ref 76, .ref 77]) ((nH_o 63 (by omega)).trans rfl)
theorem nQl_t (hR : 77 < R) : xlenB (nH (mH H K th sz ea tp nw kp wc sk) R a0 kn fr nu na tk fa fp wr cl g q ns) 64 = 1600 := xBl_of (f := tp) ((nH_o 64 (by omega)).trans rfl)
theorem nQf_t (hR : 77 < R) : xfnB (nH (mH H K th sz ea tp nw kp wc sk) R a0 kn fr nu na tk fa fp wr cl g q ns) 64 = tp := xBf_of (n := 1600) ((nH_o 64 (by omega)).trans rfl)
end NHEAP
