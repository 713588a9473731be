/-! ===== the class's tape, tokens, reader and the book that is read, as one heap ===== -/
section RHEAP
def six (x0 x1 x2 x3 x4 x5 : Int32) : Nat → Int32 := fun i => if i = 0 then x0 else if i = 1 then x1 else if i = 2 then x2 else if i = 3 then x3 else if i = 4 then x4 else x5
theorem six_0 {x0 x1 x2 x3 x4 x5 : Int32} : six x0 x1 x2 x3 x4 x5 0 = x0 := rfl
theorem six_1 {x0 x1 x2 x3 x4 x5 : Int32} : six x0 x1 x2 x3 x4 x5 1 = x1 := rfl
theorem six_2 {x0 x1 x2 x3 x4 x5 : Int32} : six x0 x1 x2 x3 x4 x5 2 = x2 := rfl
theorem six_3 {x0 x1 x2 x3 x4 x5 : Int32} : six x0 x1 x2 x3 x4 x5 3 = x3 := rfl
theorem six_4 {x0 x1 x2 x3 x4 x5 : Int32} : six x0 x1 x2 x3 x4 x5 4 = x4 := rfl
theorem six_5 {x0 x1 x2 x3 x4 x5 : Int32} : six x0 x1 x2 x3 x4 x5 5 = x5 := rfl
def rH (H : xH) (K : Nat) (tp : Nat → Int32) (L : Int32) (er : Int32) (ep : Int32) (cc : Int32) (cr : Int32) (cnt : Int32) (nx : Int32) (kd : Nat → Int32) (st : Nat → Int32) (vl : Nat → Int64) (wd : Nat → Int64) (b : Nat → Nat → Int32) (nm : Nat → Int64) (s : Nat → Int32) : xH :=
  (fun n => if n = 1 then .inr (6, [.ref 2, .int L]) else if n = 2 then xarB 1600 tp else if n = 3 then .inr (2, [.ref 4, .ref 9, .int er, .int ep, .int cc, .int cr]) else if n = 4 then .inr (7, [.ref 1, .ref 5, .ref 6, .ref 7, .ref 8, .int cnt, .int nx]) else if n = 5 then xarJ 26 wd else if n = 6 then xarI 401 kd else if n = 7 then xarI 401 st else if n = 8 then xarJ 401 vl else if n = 9 then .inr (3, [.ref 4]) else if n = K then .inr (1, [.ref (K + 1), .ref (K + 4), .ref (K + 5), .ref (K + 6), .ref (K + 7), .ref (K + 8), .ref (K + 9), .ref (K + 10), .ref (K + 11), .ref (K + 12), .ref (K + 13), .ref (K + 14), .int (s 0), .int (s 1), .int (s 2), .int (s 3), .int (s 4)]) else if n = K + 1 then .inr (5, [.ref (K + 2), .ref (K + 3), .int (s 5)]) else if n = K + 2 then xarI 400 (b 0) else if n = K + 3 then xarI 400 (b 1) else if n = K + 4 then xarI 6 (b 2) else if n = K + 5 then xarI 6 (b 3) else if n = K + 6 then xarI 6 (b 4) else if n = K + 7 then xarI 6 (b 5) else if n = K + 8 then xarI 6 (b 6) else if n = K + 9 then xarJ 6 nm else if n = K + 10 then xarI 6 (b 7) else if n = K + 11 then xarI 6 (b 8) else if n = K + 12 then xarI 6 (b 9) else if n = K + 13 then xarI 6 (b 10) else if n = K + 14 then xarI 6 (b 11) else H.1 n, H.2)
variable {H : xH} {K : Nat} {tp tp' : Nat → Int32} {L L' : Int32} {er er' : Int32} {ep ep' : Int32} {cc cc' : Int32} {cr cr' : Int32} {cnt cnt' : Int32} {nx nx' : Int32} {kd kd' : Nat → Int32} {st st' : Nat → Int32} {vl vl' : Nat → Int64} {wd wd' : Nat → Int64} {b b' : Nat → Nat → Int32} {nm nm' : Nat → Int64} {s s' : Nat → Int32}
theorem rH_2 : (rH H K tp L er ep cc cr cnt nx kd st vl wd b nm s).2 = H.2 := rfl
theorem rH_o (hK : 9 < K) (n : Nat) (p : n = 0 ∨ (9 < n ∧ n < K) ∨ (9 < n ∧ K + 14 < n)) : (rH H K tp L er ep cc cr cnt nx kd st vl wd b nm s).1 n = H.1 n := by
  unfold rH
  dsimp only
  rw [if_neg (by omega), if_neg (by omega), if_neg (by omega), if_neg (by omega), if_neg (by omega), if_neg (by omega), if_neg (by omega), if_neg (by omega), if_neg (by omega), if_neg (by omega), if_neg (by omega), if_neg (by omega), if_neg (by omega), if_neg (by omega), if_neg (by omega), if_neg (by omega), if_neg (by omega), if_neg (by omega), if_neg (by omega), if_neg (by omega), if_neg (by omega), if_neg (by omega), if_neg (by omega), if_neg (by omega)]
theorem rH_c0 : (rH H K tp L er ep cc cr cnt nx kd st vl wd b nm s).1 (1) = .inr (6, [.ref 2, .int L]) := by
  unfold rH
  dsimp only
  rw [if_pos rfl]
theorem rH_c1 : (rH H K tp L er ep cc cr cnt nx kd st vl wd b nm s).1 (2) = xarB 1600 tp := by
  unfold rH
  dsimp only
  rw [if_neg (by omega), if_pos rfl]
theorem rH_c2 : (rH H K tp L er ep cc cr cnt nx kd st vl wd b nm s).1 (3) = .inr (2, [.ref 4, .ref 9, .int er, .int ep, .int cc, .int cr]) := by
  unfold rH
  dsimp only
  rw [if_neg (by omega), if_neg (by omega), if_pos rfl]
theorem rH_c3 : (rH H K tp L er ep cc cr cnt nx kd st vl wd b nm s).1 (4) = .inr (7, [.ref 1, .ref 5, .ref 6, .ref 7, .ref 8, .int cnt, .int nx]) := by
  unfold rH
  dsimp only
  rw [if_neg (by omega), if_neg (by omega), if_neg (by omega), if_pos rfl]
theorem rH_c4 : (rH H K tp L er ep cc cr cnt nx kd st vl wd b nm s).1 (5) = xarJ 26 wd := by
  unfold rH
  dsimp only
  rw [if_neg (by omega), if_neg (by omega), if_neg (by omega), if_neg (by omega), if_pos rfl]
theorem rH_c5 : (rH H K tp L er ep cc cr cnt nx kd st vl wd b nm s).1 (6) = xarI 401 kd := by
  unfold rH
  dsimp only
  rw [if_neg (by omega), if_neg (by omega), if_neg (by omega), if_neg (by omega), if_neg (by omega), if_pos rfl]
theorem rH_c6 : (rH H K tp L er ep cc cr cnt nx kd st vl wd b nm s).1 (7) = xarI 401 st := by
  unfold rH
  dsimp only
  rw [if_neg (by omega), if_neg (by omega), if_neg (by omega), if_neg (by omega), if_neg (by omega), if_neg (by omega), if_pos rfl]
theorem rH_c7 : (rH H K tp L er ep cc cr cnt nx kd st vl wd b nm s).1 (8) = xarJ 401 vl := by
  unfold rH
  dsimp only
  rw [if_neg (by omega), if_neg (by omega), if_neg (by omega), if_neg (by omega), if_neg (by omega), if_neg (by omega), if_neg (by omega), if_pos rfl]
theorem rH_c8 : (rH H K tp L er ep cc cr cnt nx kd st vl wd b nm s).1 (9) = .inr (3, [.ref 4]) := by
  unfold rH
  dsimp only
  rw [if_neg (by omega), if_neg (by omega), if_neg (by omega), if_neg (by omega), if_neg (by omega), if_neg (by omega), if_neg (by omega), if_neg (by omega), if_pos rfl]
theorem rH_c9 (hK : 9 < K) : (rH H K tp L er ep cc cr cnt nx kd st vl wd b nm s).1 (K) = .inr (1, [.ref (K + 1), .ref (K + 4), .ref (K + 5), .ref (K + 6), .ref (K + 7), .ref (K + 8), .ref (K + 9), .ref (K + 10), .ref (K + 11), .ref (K + 12), .ref (K + 13), .ref (K + 14), .int (s 0), .int (s 1), .int (s 2), .int (s 3), .int (s 4)]) := by
  unfold rH
  dsimp only
  rw [if_neg (by omega), if_neg (by omega), if_neg (by omega), if_neg (by omega), if_neg (by omega), if_neg (by omega), if_neg (by omega), if_neg (by omega), if_neg (by omega), if_pos rfl]
theorem rH_c10 (hK : 9 < K) : (rH H K tp L er ep cc cr cnt nx kd st vl wd b nm s).1 (K + 1) = .inr (5, [.ref (K + 2), .ref (K + 3), .int (s 5)]) := by
  unfold rH
  dsimp only
  rw [if_neg (by omega), if_neg (by omega), if_neg (by omega), if_neg (by omega), if_neg (by omega), if_neg (by omega), if_neg (by omega), if_neg (by omega), if_neg (by omega), if_neg (by omega), if_pos rfl]
theorem rH_c11 (hK : 9 < K) : (rH H K tp L er ep cc cr cnt nx kd st vl wd b nm s).1 (K + 2) = xarI 400 (b 0) := by
  unfold rH
  dsimp only
  rw [if_neg (by omega), if_neg (by omega), if_neg (by omega), if_neg (by omega), if_neg (by omega), if_neg (by omega), if_neg (by omega), if_neg (by omega), if_neg (by omega), if_neg (by omega), if_neg (by omega), if_pos rfl]
theorem rH_c12 (hK : 9 < K) : (rH H K tp L er ep cc cr cnt nx kd st vl wd b nm s).1 (K + 3) = xarI 400 (b 1) := by
  unfold rH
  dsimp only
  rw [if_neg (by omega), if_neg (by omega), if_neg (by omega), if_neg (by omega), if_neg (by omega), if_neg (by omega), if_neg (by omega), if_neg (by omega), if_neg (by omega), if_neg (by omega), if_neg (by omega), if_neg (by omega), if_pos rfl]
theorem rH_c13 (hK : 9 < K) : (rH H K tp L er ep cc cr cnt nx kd st vl wd b nm s).1 (K + 4) = xarI 6 (b 2) := by
  unfold rH
  dsimp only
  rw [if_neg (by omega), if_neg (by omega), if_neg (by omega), if_neg (by omega), if_neg (by omega), if_neg (by omega), if_neg (by omega), if_neg (by omega), if_neg (by omega), if_neg (by omega), if_neg (by omega), if_neg (by omega), if_neg (by omega), if_pos rfl]
theorem rH_c14 (hK : 9 < K) : (rH H K tp L er ep cc cr cnt nx kd st vl wd b nm s).1 (K + 5) = xarI 6 (b 3) := by
  unfold rH
  dsimp only
  rw [if_neg (by omega), if_neg (by omega), if_neg (by omega), if_neg (by omega), if_neg (by omega), if_neg (by omega), if_neg (by omega), if_neg (by omega), if_neg (by omega), if_neg (by omega), if_neg (by omega), if_neg (by omega), if_neg (by omega), if_neg (by omega), if_pos rfl]
theorem rH_c15 (hK : 9 < K) : (rH H K tp L er ep cc cr cnt nx kd st vl wd b nm s).1 (K + 6) = xarI 6 (b 4) := by
  unfold rH
  dsimp only
  rw [if_neg (by omega), if_neg (by omega), if_neg (by omega), if_neg (by omega), if_neg (by omega), if_neg (by omega), if_neg (by omega), if_neg (by omega), if_neg (by omega), if_neg (by omega), if_neg (by omega), if_neg (by omega), if_neg (by omega), if_neg (by omega), if_neg (by omega), if_pos rfl]
theorem rH_c16 (hK : 9 < K) : (rH H K tp L er ep cc cr cnt nx kd st vl wd b nm s).1 (K + 7) = xarI 6 (b 5) := by
  unfold rH
  dsimp only
  rw [if_neg (by omega), if_neg (by omega), if_neg (by omega), if_neg (by omega), if_neg (by omega), if_neg (by omega), if_neg (by omega), if_neg (by omega), if_neg (by omega), if_neg (by omega), if_neg (by omega), if_neg (by omega), if_neg (by omega), if_neg (by omega), if_neg (by omega), if_neg (by omega), if_pos rfl]
theorem rH_c17 (hK : 9 < K) : (rH H K tp L er ep cc cr cnt nx kd st vl wd b nm s).1 (K + 8) = xarI 6 (b 6) := by
  unfold rH
  dsimp only
  rw [if_neg (by omega), if_neg (by omega), if_neg (by omega), if_neg (by omega), if_neg (by omega), if_neg (by omega), if_neg (by omega), if_neg (by omega), if_neg (by omega), if_neg (by omega), if_neg (by omega), if_neg (by omega), if_neg (by omega), if_neg (by omega), if_neg (by omega), if_neg (by omega), if_neg (by omega), if_pos rfl]
theorem rH_c18 (hK : 9 < K) : (rH H K tp L er ep cc cr cnt nx kd st vl wd b nm s).1 (K + 9) = xarJ 6 nm := by
  unfold rH
  dsimp only
  rw [if_neg (by omega), if_neg (by omega), if_neg (by omega), if_neg (by omega), if_neg (by omega), if_neg (by omega), if_neg (by omega), if_neg (by omega), if_neg (by omega), if_neg (by omega), if_neg (by omega), if_neg (by omega), if_neg (by omega), if_neg (by omega), if_neg (by omega), if_neg (by omega), if_neg (by omega), if_neg (by omega), if_pos rfl]
theorem rH_c19 (hK : 9 < K) : (rH H K tp L er ep cc cr cnt nx kd st vl wd b nm s).1 (K + 10) = xarI 6 (b 7) := by
  unfold rH
  dsimp only
  rw [if_neg (by omega), if_neg (by omega), if_neg (by omega), if_neg (by omega), if_neg (by omega), if_neg (by omega), if_neg (by omega), if_neg (by omega), if_neg (by omega), if_neg (by omega), if_neg (by omega), if_neg (by omega), if_neg (by omega), if_neg (by omega), if_neg (by omega), if_neg (by omega), if_neg (by omega), if_neg (by omega), if_neg (by omega), if_pos rfl]
theorem rH_c20 (hK : 9 < K) : (rH H K tp L er ep cc cr cnt nx kd st vl wd b nm s).1 (K + 11) = xarI 6 (b 8) := by
  unfold rH
  dsimp only
  rw [if_neg (by omega), if_neg (by omega), if_neg (by omega), if_neg (by omega), if_neg (by omega), if_neg (by omega), if_neg (by omega), if_neg (by omega), if_neg (by omega), if_neg (by omega), if_neg (by omega), if_neg (by omega), if_neg (by omega), if_neg (by omega), if_neg (by omega), if_neg (by omega), if_neg (by omega), if_neg (by omega), if_neg (by omega), if_neg (by omega), if_pos rfl]
theorem rH_c21 (hK : 9 < K) : (rH H K tp L er ep cc cr cnt nx kd st vl wd b nm s).1 (K + 12) = xarI 6 (b 9) := by
  unfold rH
  dsimp only
  rw [if_neg (by omega), if_neg (by omega), if_neg (by omega), if_neg (by omega), if_neg (by omega), if_neg (by omega), if_neg (by omega), if_neg (by omega), if_neg (by omega), if_neg (by omega), if_neg (by omega), if_neg (by omega), if_neg (by omega), if_neg (by omega), if_neg (by omega), if_neg (by omega), if_neg (by omega), if_neg (by omega), if_neg (by omega), if_neg (by omega), if_neg (by omega), if_pos rfl]
theorem rH_c22 (hK : 9 < K) : (rH H K tp L er ep cc cr cnt nx kd st vl wd b nm s).1 (K + 13) = xarI 6 (b 10) := by
  unfold rH
  dsimp only
  rw [if_neg (by omega), if_neg (by omega), if_neg (by omega), if_neg (by omega), if_neg (by omega), if_neg (by omega), if_neg (by omega), if_neg (by omega), if_neg (by omega), if_neg (by omega), if_neg (by omega), if_neg (by omega), if_neg (by omega), if_neg (by omega), if_neg (by omega), if_neg (by omega), if_neg (by omega), if_neg (by omega), if_neg (by omega), if_neg (by omega), if_neg (by omega), if_neg (by omega), if_pos rfl]
theorem rH_c23 (hK : 9 < K) : (rH H K tp L er ep cc cr cnt nx kd st vl wd b nm s).1 (K + 14) = xarI 6 (b 11) := by
  unfold rH
  dsimp only
  rw [if_neg (by omega), if_neg (by omega), if_neg (by omega), if_neg (by omega), if_neg (by omega), if_neg (by omega), if_neg (by omega), if_neg (by omega), if_neg (by omega), if_neg (by omega), if_neg (by omega), if_neg (by omega), if_neg (by omega), if_neg (by omega), if_neg (by omega), if_neg (by omega), if_neg (by omega), if_neg (by omega), if_neg (by omega), if_neg (by omega), if_neg (by omega), if_neg (by omega), if_neg (by omega), if_pos rfl]
theorem xset_is {X Y : xH} {a : Nat} {c : xC} (h1 : Y.1 a = c) (h2 : ∀ n, ¬ n = a → Y.1 n = X.1 n) (h3 : Y.2 = X.2) : xset X a c = Y := by
  refine Prod.ext ?_ h3.symm
  funext n
  show (if n = a then c else X.1 n) = Y.1 n
  by_cases p : n = a
  · rw [if_pos p, p, h1]
  · rw [if_neg p, h2 n p]
theorem rw_1 : xset (rH H K tp L er ep cc cr cnt nx kd st vl wd b nm s) (1) (.inr (6, [.ref 2, .int L'])) = (rH H K tp L' er ep cc cr cnt nx kd st vl wd b nm s) := by
  refine xset_is (rH_c0) (fun n hn => ?_) rfl
  unfold rH
  simp only [if_neg hn]
theorem rw_2 : xset (rH H K tp L er ep cc cr cnt nx kd st vl wd b nm s) (2) (xarB 1600 tp') = (rH H K tp' L er ep cc cr cnt nx kd st vl wd b nm s) := by
  refine xset_is (rH_c1) (fun n hn => ?_) rfl
  unfold rH
  simp only [if_neg hn]
theorem rw_3 : xset (rH H K tp L er ep cc cr cnt nx kd st vl wd b nm s) (3) (.inr (2, [.ref 4, .ref 9, .int er', .int ep', .int cc', .int cr'])) = (rH H K tp L er' ep' cc' cr' cnt nx kd st vl wd b nm s) := by
  refine xset_is (rH_c2) (fun n hn => ?_) rfl
  unfold rH
  simp only [if_neg hn]
theorem rw_4 : xset (rH H K tp L er ep cc cr cnt nx kd st vl wd b nm s) (4) (.inr (7, [.ref 1, .ref 5, .ref 6, .ref 7, .ref 8, .int cnt', .int nx'])) = (rH H K tp L er ep cc cr cnt' nx' kd st vl wd b nm s) := by
  refine xset_is (rH_c3) (fun n hn => ?_) rfl
  unfold rH
  simp only [if_neg hn]
theorem rw_5 : xset (rH H K tp L er ep cc cr cnt nx kd st vl wd b nm s) (5) (xarJ 26 wd') = (rH H K tp L er ep cc cr cnt nx kd st vl wd' b nm s) := by
  refine xset_is (rH_c4) (fun n hn => ?_) rfl
  unfold rH
  simp only [if_neg hn]
theorem rw_6 : xset (rH H K tp L er ep cc cr cnt nx kd st vl wd b nm s) (6) (xarI 401 kd') = (rH H K tp L er ep cc cr cnt nx kd' st vl wd b nm s) := by
  refine xset_is (rH_c5) (fun n hn => ?_) rfl
  unfold rH
  simp only [if_neg hn]
theorem rw_7 : xset (rH H K tp L er ep cc cr cnt nx kd st vl wd b nm s) (7) (xarI 401 st') = (rH H K tp L er ep cc cr cnt nx kd st' vl wd b nm s) := by
  refine xset_is (rH_c6) (fun n hn => ?_) rfl
  unfold rH
  simp only [if_neg hn]
theorem rw_8 : xset (rH H K tp L er ep cc cr cnt nx kd st vl wd b nm s) (8) (xarJ 401 vl') = (rH H K tp L er ep cc cr cnt nx kd st vl' wd b nm s) := by
  refine xset_is (rH_c7) (fun n hn => ?_) rfl
  unfold rH
  simp only [if_neg hn]
variable {x0 x1 x2 x3 x4 x5 : Int32} {f : Nat → Int32}
theorem rw_K (hK : 9 < K) : xset (rH H K tp L er ep cc cr cnt nx kd st vl wd b nm s) (K) (.inr (1, [.ref (K + 1), .ref (K + 4), .ref (K + 5), .ref (K + 6), .ref (K + 7), .ref (K + 8), .ref (K + 9), .ref (K + 10), .ref (K + 11), .ref (K + 12), .ref (K + 13), .ref (K + 14), .int x0, .int x1, .int x2, .int x3, .int x4])) = (rH H K tp L er ep cc cr cnt nx kd st vl wd b nm (six x0 x1 x2 x3 x4 (s 5))) := by
  refine xset_is (rH_c9 hK) (fun n hn => ?_) rfl
  unfold rH
  simp only [if_neg hn, six_0, six_1, six_2, six_3, six_4, six_5]
theorem rw_K1 (hK : 9 < K) : xset (rH H K tp L er ep cc cr cnt nx kd st vl wd b nm s) (K + 1) (.inr (5, [.ref (K + 2), .ref (K + 3), .int x5])) = (rH H K tp L er ep cc cr cnt nx kd st vl wd b nm (six (s 0) (s 1) (s 2) (s 3) (s 4) x5)) := by
  refine xset_is (rH_c10 hK) (fun n hn => ?_) rfl
  unfold rH
  simp only [if_neg hn, six_0, six_1, six_2, six_3, six_4, six_5]
theorem rw_b0 (hK : 9 < K) : xset (rH H K tp L er ep cc cr cnt nx kd st vl wd b nm s) (K + 2) (xarI 400 f) = (rH H K tp L er ep cc cr cnt nx kd st vl wd (upr b 0 f) nm s) := by
  refine xset_is (rH_c11 hK) (fun n hn => ?_) rfl
  unfold rH
  simp only [if_neg hn, upr, if_true, if_false, Nat.reduceEqDiff, reduceCtorEq, Nat.zero_ne_one, Nat.one_ne_zero]
theorem rw_b1 (hK : 9 < K) : xset (rH H K tp L er ep cc cr cnt nx kd st vl wd b nm s) (K + 3) (xarI 400 f) = (rH H K tp L er ep cc cr cnt nx kd st vl wd (upr b 1 f) nm s) := by
  refine xset_is (rH_c12 hK) (fun n hn => ?_) rfl
  unfold rH
  simp only [if_neg hn, upr, if_true, if_false, Nat.reduceEqDiff, reduceCtorEq, Nat.zero_ne_one, Nat.one_ne_zero]
theorem rw_b2 (hK : 9 < K) : xset (rH H K tp L er ep cc cr cnt nx kd st vl wd b nm s) (K + 4) (xarI 6 f) = (rH H K tp L er ep cc cr cnt nx kd st vl wd (upr b 2 f) nm s) := by
  refine xset_is (rH_c13 hK) (fun n hn => ?_) rfl
  unfold rH
  simp only [if_neg hn, upr, if_true, if_false, Nat.reduceEqDiff, reduceCtorEq, Nat.zero_ne_one, Nat.one_ne_zero]
theorem rw_b3 (hK : 9 < K) : xset (rH H K tp L er ep cc cr cnt nx kd st vl wd b nm s) (K + 5) (xarI 6 f) = (rH H K tp L er ep cc cr cnt nx kd st vl wd (upr b 3 f) nm s) := by
  refine xset_is (rH_c14 hK) (fun n hn => ?_) rfl
  unfold rH
  simp only [if_neg hn, upr, if_true, if_false, Nat.reduceEqDiff, reduceCtorEq, Nat.zero_ne_one, Nat.one_ne_zero]
theorem rw_b4 (hK : 9 < K) : xset (rH H K tp L er ep cc cr cnt nx kd st vl wd b nm s) (K + 6) (xarI 6 f) = (rH H K tp L er ep cc cr cnt nx kd st vl wd (upr b 4 f) nm s) := by
  refine xset_is (rH_c15 hK) (fun n hn => ?_) rfl
  unfold rH
  simp only [if_neg hn, upr, if_true, if_false, Nat.reduceEqDiff, reduceCtorEq, Nat.zero_ne_one, Nat.one_ne_zero]
theorem rw_b5 (hK : 9 < K) : xset (rH H K tp L er ep cc cr cnt nx kd st vl wd b nm s) (K + 7) (xarI 6 f) = (rH H K tp L er ep cc cr cnt nx kd st vl wd (upr b 5 f) nm s) := by
  refine xset_is (rH_c16 hK) (fun n hn => ?_) rfl
  unfold rH
  simp only [if_neg hn, upr, if_true, if_false, Nat.reduceEqDiff, reduceCtorEq, Nat.zero_ne_one, Nat.one_ne_zero]
theorem rw_b6 (hK : 9 < K) : xset (rH H K tp L er ep cc cr cnt nx kd st vl wd b nm s) (K + 8) (xarI 6 f) = (rH H K tp L er ep cc cr cnt nx kd st vl wd (upr b 6 f) nm s) := by
  refine xset_is (rH_c17 hK) (fun n hn => ?_) rfl
  unfold rH
  simp only [if_neg hn, upr, if_true, if_false, Nat.reduceEqDiff, reduceCtorEq, Nat.zero_ne_one, Nat.one_ne_zero]
theorem rw_b7 (hK : 9 < K) : xset (rH H K tp L er ep cc cr cnt nx kd st vl wd b nm s) (K + 10) (xarI 6 f) = (rH H K tp L er ep cc cr cnt nx kd st vl wd (upr b 7 f) nm s) := by
  refine xset_is (rH_c19 hK) (fun n hn => ?_) rfl
  unfold rH
  simp only [if_neg hn, upr, if_true, if_false, Nat.reduceEqDiff, reduceCtorEq, Nat.zero_ne_one, Nat.one_ne_zero]
theorem rw_b8 (hK : 9 < K) : xset (rH H K tp L er ep cc cr cnt nx kd st vl wd b nm s) (K + 11) (xarI 6 f) = (rH H K tp L er ep cc cr cnt nx kd st vl wd (upr b 8 f) nm s) := by
  refine xset_is (rH_c20 hK) (fun n hn => ?_) rfl
  unfold rH
  simp only [if_neg hn, upr, if_true, if_false, Nat.reduceEqDiff, reduceCtorEq, Nat.zero_ne_one, Nat.one_ne_zero]
theorem rw_b9 (hK : 9 < K) : xset (rH H K tp L er ep cc cr cnt nx kd st vl wd b nm s) (K + 12) (xarI 6 f) = (rH H K tp L er ep cc cr cnt nx kd st vl wd (upr b 9 f) nm s) := by
  refine xset_is (rH_c21 hK) (fun n hn => ?_) rfl
  unfold rH
  simp only [if_neg hn, upr, if_true, if_false, Nat.reduceEqDiff, reduceCtorEq, Nat.zero_ne_one, Nat.one_ne_zero]
theorem rw_b10 (hK : 9 < K) : xset (rH H K tp L er ep cc cr cnt nx kd st vl wd b nm s) (K + 13) (xarI 6 f) = (rH H K tp L er ep cc cr cnt nx kd st vl wd (upr b 10 f) nm s) := by
  refine xset_is (rH_c22 hK) (fun n hn => ?_) rfl
  unfold rH
  simp only [if_neg hn, upr, if_true, if_false, Nat.reduceEqDiff, reduceCtorEq, Nat.zero_ne_one, Nat.one_ne_zero]
theorem rw_b11 (hK : 9 < K) : xset (rH H K tp L er ep cc cr cnt nx kd st vl wd b nm s) (K + 14) (xarI 6 f) = (rH H K tp L er ep cc cr cnt nx kd st vl wd (upr b 11 f) nm s) := by
  refine xset_is (rH_c23 hK) (fun n hn => ?_) rfl
  unfold rH
  simp only [if_neg hn, upr, if_true, if_false, Nat.reduceEqDiff, reduceCtorEq, Nat.zero_ne_one, Nat.one_ne_zero]
theorem rw_nm (hK : 9 < K) : xset (rH H K tp L er ep cc cr cnt nx kd st vl wd b nm s) (K + 9) (xarJ 6 nm') = (rH H K tp L er ep cc cr cnt nx kd st vl wd b nm' s) := by
  refine xset_is (rH_c18 hK) (fun n hn => ?_) rfl
  unfold rH
  simp only [if_neg hn]
theorem rF_1 : xfls (rH H K tp L er ep cc cr cnt nx kd st vl wd b nm s) (1) 6 = [.ref 2, .int L] := xf_of (rH_c0)
theorem rC_1 : xcl (rH H K tp L er ep cc cr cnt nx kd st vl wd b nm s) (1) = 6 := xc_of (rH_c0)
theorem rl_2 : xlenB (rH H K tp L er ep cc cr cnt nx kd st vl wd b nm s) (2) = 1600 := xBl_of (rH_c1)
theorem rf_2 : xfnB (rH H K tp L er ep cc cr cnt nx kd st vl wd b nm s) (2) = tp := xBf_of (rH_c1)
theorem rF_3 : xfls (rH H K tp L er ep cc cr cnt nx kd st vl wd b nm s) (3) 2 = [.ref 4, .ref 9, .int er, .int ep, .int cc, .int cr] := xf_of (rH_c2)
theorem rC_3 : xcl (rH H K tp L er ep cc cr cnt nx kd st vl wd b nm s) (3) = 2 := xc_of (rH_c2)
theorem rF_4 : xfls (rH H K tp L er ep cc cr cnt nx kd st vl wd b nm s) (4) 7 = [.ref 1, .ref 5, .ref 6, .ref 7, .ref 8, .int cnt, .int nx] := xf_of (rH_c3)
theorem rC_4 : xcl (rH H K tp L er ep cc cr cnt nx kd st vl wd b nm s) (4) = 7 := xc_of (rH_c3)
theorem rl_5 : xlenJ (rH H K tp L er ep cc cr cnt nx kd st vl wd b nm s) (5) = 26 := xJl_of (rH_c4)
theorem rf_5 : xfnJ (rH H K tp L er ep cc cr cnt nx kd st vl wd b nm s) (5) = wd := xJf_of (rH_c4)
theorem rl_6 : xlenI (rH H K tp L er ep cc cr cnt nx kd st vl wd b nm s) (6) = 401 := xIl_of (rH_c5)
theorem rf_6 : xfnI (rH H K tp L er ep cc cr cnt nx kd st vl wd b nm s) (6) = kd := xIf_of (rH_c5)
theorem rl_7 : xlenI (rH H K tp L er ep cc cr cnt nx kd st vl wd b nm s) (7) = 401 := xIl_of (rH_c6)
theorem rf_7 : xfnI (rH H K tp L er ep cc cr cnt nx kd st vl wd b nm s) (7) = st := xIf_of (rH_c6)
theorem rl_8 : xlenJ (rH H K tp L er ep cc cr cnt nx kd st vl wd b nm s) (8) = 401 := xJl_of (rH_c7)
theorem rf_8 : xfnJ (rH H K tp L er ep cc cr cnt nx kd st vl wd b nm s) (8) = vl := xJf_of (rH_c7)
theorem rF_9 : xfls (rH H K tp L er ep cc cr cnt nx kd st vl wd b nm s) (9) 3 = [.ref 4] := xf_of (rH_c8)
theorem rC_9 : xcl (rH H K tp L er ep cc cr cnt nx kd st vl wd b nm s) (9) = 3 := xc_of (rH_c8)
theorem rF_K (hK : 9 < K) : xfls (rH H K tp L er ep cc cr cnt nx kd st vl wd b nm s) (K) 1 = [.ref (K + 1), .ref (K + 4), .ref (K + 5), .ref (K + 6), .ref (K + 7), .ref (K + 8), .ref (K + 9), .ref (K + 10), .ref (K + 11), .ref (K + 12), .ref (K + 13), .ref (K + 14), .int (s 0), .int (s 1), .int (s 2), .int (s 3), .int (s 4)] := xf_of (rH_c9 hK)
theorem rC_K (hK : 9 < K) : xcl (rH H K tp L er ep cc cr cnt nx kd st vl wd b nm s) (K) = 1 := xc_of (rH_c9 hK)
theorem rF_K1 (hK : 9 < K) : xfls (rH H K tp L er ep cc cr cnt nx kd st vl wd b nm s) (K + 1) 5 = [.ref (K + 2), .ref (K + 3), .int (s 5)] := xf_of (rH_c10 hK)
theorem rC_K1 (hK : 9 < K) : xcl (rH H K tp L er ep cc cr cnt nx kd st vl wd b nm s) (K + 1) = 5 := xc_of (rH_c10 hK)
theorem rl_K2 (hK : 9 < K) : xlenI (rH H K tp L er ep cc cr cnt nx kd st vl wd b nm s) (K + 2) = 400 := xIl_of (rH_c11 hK)
theorem rf_K2 (hK : 9 < K) : xfnI (rH H K tp L er ep cc cr cnt nx kd st vl wd b nm s) (K + 2) = (b 0) := xIf_of (rH_c11 hK)
theorem rl_K3 (hK : 9 < K) : xlenI (rH H K tp L er ep cc cr cnt nx kd st vl wd b nm s) (K + 3) = 400 := xIl_of (rH_c12 hK)
theorem rf_K3 (hK : 9 < K) : xfnI (rH H K tp L er ep cc cr cnt nx kd st vl wd b nm s) (K + 3) = (b 1) := xIf_of (rH_c12 hK)
theorem rl_K4 (hK : 9 < K) : xlenI (rH H K tp L er ep cc cr cnt nx kd st vl wd b nm s) (K + 4) = 6 := xIl_of (rH_c13 hK)
theorem rf_K4 (hK : 9 < K) : xfnI (rH H K tp L er ep cc cr cnt nx kd st vl wd b nm s) (K + 4) = (b 2) := xIf_of (rH_c13 hK)
theorem rl_K5 (hK : 9 < K) : xlenI (rH H K tp L er ep cc cr cnt nx kd st vl wd b nm s) (K + 5) = 6 := xIl_of (rH_c14 hK)
theorem rf_K5 (hK : 9 < K) : xfnI (rH H K tp L er ep cc cr cnt nx kd st vl wd b nm s) (K + 5) = (b 3) := xIf_of (rH_c14 hK)
theorem rl_K6 (hK : 9 < K) : xlenI (rH H K tp L er ep cc cr cnt nx kd st vl wd b nm s) (K + 6) = 6 := xIl_of (rH_c15 hK)
theorem rf_K6 (hK : 9 < K) : xfnI (rH H K tp L er ep cc cr cnt nx kd st vl wd b nm s) (K + 6) = (b 4) := xIf_of (rH_c15 hK)
theorem rl_K7 (hK : 9 < K) : xlenI (rH H K tp L er ep cc cr cnt nx kd st vl wd b nm s) (K + 7) = 6 := xIl_of (rH_c16 hK)
theorem rf_K7 (hK : 9 < K) : xfnI (rH H K tp L er ep cc cr cnt nx kd st vl wd b nm s) (K + 7) = (b 5) := xIf_of (rH_c16 hK)
theorem rl_K8 (hK : 9 < K) : xlenI (rH H K tp L er ep cc cr cnt nx kd st vl wd b nm s) (K + 8) = 6 := xIl_of (rH_c17 hK)
theorem rf_K8 (hK : 9 < K) : xfnI (rH H K tp L er ep cc cr cnt nx kd st vl wd b nm s) (K + 8) = (b 6) := xIf_of (rH_c17 hK)
theorem rl_K9 (hK : 9 < K) : xlenJ (rH H K tp L er ep cc cr cnt nx kd st vl wd b nm s) (K + 9) = 6 := xJl_of (rH_c18 hK)
theorem rf_K9 (hK : 9 < K) : xfnJ (rH H K tp L er ep cc cr cnt nx kd st vl wd b nm s) (K + 9) = nm := xJf_of (rH_c18 hK)
theorem rl_K10 (hK : 9 < K) : xlenI (rH H K tp L er ep cc cr cnt nx kd st vl wd b nm s) (K + 10) = 6 := xIl_of (rH_c19 hK)
theorem rf_K10 (hK : 9 < K) : xfnI (rH H K tp L er ep cc cr cnt nx kd st vl wd b nm s) (K + 10) = (b 7) := xIf_of (rH_c19 hK)
theorem rl_K11 (hK : 9 < K) : xlenI (rH H K tp L er ep cc cr cnt nx kd st vl wd b nm s) (K + 11) = 6 := xIl_of (rH_c20 hK)
theorem rf_K11 (hK : 9 < K) : xfnI (rH H K tp L er ep cc cr cnt nx kd st vl wd b nm s) (K + 11) = (b 8) := xIf_of (rH_c20 hK)
theorem rl_K12 (hK : 9 < K) : xlenI (rH H K tp L er ep cc cr cnt nx kd st vl wd b nm s) (K + 12) = 6 := xIl_of (rH_c21 hK)
theorem rf_K12 (hK : 9 < K) : xfnI (rH H K tp L er ep cc cr cnt nx kd st vl wd b nm s) (K + 12) = (b 9) := xIf_of (rH_c21 hK)
theorem rl_K13 (hK : 9 < K) : xlenI (rH H K tp L er ep cc cr cnt nx kd st vl wd b nm s) (K + 13) = 6 := xIl_of (rH_c22 hK)
theorem rf_K13 (hK : 9 < K) : xfnI (rH H K tp L er ep cc cr cnt nx kd st vl wd b nm s) (K + 13) = (b 10) := xIf_of (rH_c22 hK)
theorem rl_K14 (hK : 9 < K) : xlenI (rH H K tp L er ep cc cr cnt nx kd st vl wd b nm s) (K + 14) = 6 := xIl_of (rH_c23 hK)
theorem rf_K14 (hK : 9 < K) : xfnI (rH H K tp L er ep cc cr cnt nx kd st vl wd b nm s) (K + 14) = (b 11) := xIf_of (rH_c23 hK)
variable {a : Nat → Nat → Int32}
theorem u_0_9 : upr a 0 f 9 = a 9 := rfl
theorem u_0_10 : upr a 0 f 10 = a 10 := rfl
theorem u_0_11 : upr a 0 f 11 = a 11 := rfl
theorem u_1_9 : upr a 1 f 9 = a 9 := rfl
theorem u_1_10 : upr a 1 f 10 = a 10 := rfl
theorem u_1_11 : upr a 1 f 11 = a 11 := rfl
theorem u_2_9 : upr a 2 f 9 = a 9 := rfl
theorem u_2_10 : upr a 2 f 10 = a 10 := rfl
theorem u_2_11 : upr a 2 f 11 = a 11 := rfl
theorem u_3_9 : upr a 3 f 9 = a 9 := rfl
theorem u_3_10 : upr a 3 f 10 = a 10 := rfl
theorem u_3_11 : upr a 3 f 11 = a 11 := rfl
theorem u_4_9 : upr a 4 f 9 = a 9 := rfl
theorem u_4_10 : upr a 4 f 10 = a 10 := rfl
theorem u_4_11 : upr a 4 f 11 = a 11 := rfl
theorem u_5_9 : upr a 5 f 9 = a 9 := rfl
theorem u_5_10 : upr a 5 f 10 = a 10 := rfl
theorem u_5_11 : upr a 5 f 11 = a 11 := rfl
theorem u_6_9 : upr a 6 f 9 = a 9 := rfl
theorem u_6_10 : upr a 6 f 10 = a 10 := rfl
theorem u_6_11 : upr a 6 f 11 = a 11 := rfl
theorem u_7_9 : upr a 7 f 9 = a 9 := rfl
theorem u_7_10 : upr a 7 f 10 = a 10 := rfl
theorem u_7_11 : upr a 7 f 11 = a 11 := rfl
theorem u_8_9 : upr a 8 f 9 = a 9 := rfl
theorem u_8_10 : upr a 8 f 10 = a 10 := rfl
theorem u_8_11 : upr a 8 f 11 = a 11 := rfl
theorem u_9_0 : upr a 9 f 0 = a 0 := rfl
theorem u_9_1 : upr a 9 f 1 = a 1 := rfl
theorem u_9_2 : upr a 9 f 2 = a 2 := rfl
theorem u_9_3 : upr a 9 f 3 = a 3 := rfl
theorem u_9_4 : upr a 9 f 4 = a 4 := rfl
theorem u_9_5 : upr a 9 f 5 = a 5 := rfl
theorem u_9_6 : upr a 9 f 6 = a 6 := rfl
theorem u_9_7 : upr a 9 f 7 = a 7 := rfl
theorem u_9_8 : upr a 9 f 8 = a 8 := rfl
theorem u_9_9 : upr a 9 f 9 = f := rfl
theorem u_9_10 : upr a 9 f 10 = a 10 := rfl
theorem u_9_11 : upr a 9 f 11 = a 11 := rfl
theorem u_10_0 : upr a 10 f 0 = a 0 := rfl
theorem u_10_1 : upr a 10 f 1 = a 1 := rfl
theorem u_10_2 : upr a 10 f 2 = a 2 := rfl
theorem u_10_3 : upr a 10 f 3 = a 3 := rfl
theorem u_10_4 : upr a 10 f 4 = a 4 := rfl
theorem u_10_5 : upr a 10 f 5 = a 5 := rfl
theorem u_10_6 : upr a 10 f 6 = a 6 := rfl
theorem u_10_7 : upr a 10 f 7 = a 7 := rfl
theorem u_10_8 : upr a 10 f 8 = a 8 := rfl
theorem u_10_9 : upr a 10 f 9 = a 9 := rfl
theorem u_10_10 : upr a 10 f 10 = f := rfl
theorem u_10_11 : upr a 10 f 11 = a 11 := rfl
theorem u_11_0 : upr a 11 f 0 = a 0 := rfl
theorem u_11_1 : upr a 11 f 1 = a 1 := rfl
theorem u_11_2 : upr a 11 f 2 = a 2 := rfl
theorem u_11_3 : upr a 11 f 3 = a 3 := rfl
theorem u_11_4 : upr a 11 f 4 = a 4 := rfl
theorem u_11_5 : upr a 11 f 5 = a 5 := rfl
theorem u_11_6 : upr a 11 f 6 = a 6 := rfl
theorem u_11_7 : upr a 11 f 7 = a 7 := rfl
theorem u_11_8 : upr a 11 f 8 = a 8 := rfl
theorem u_11_9 : upr a 11 f 9 = a 9 := rfl
theorem u_11_10 : upr a 11 f 10 = a 10 := rfl
theorem u_11_11 : upr a 11 f 11 = f := rfl
end RHEAP
