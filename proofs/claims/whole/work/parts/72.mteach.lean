/-! ===== the model is taught ===== -/
section MTEACH
variable {E : xE} {d : Nat} {Q : xR → Prop} {H : xH} {R K : Nat} {th sz ea : Int32} {tp nw kp wc sk : Nat → Int32} {T : Nat → Nat} {l : Nat} {kd nu st : Nat → Int32} {vl : Nat → Int64} {EE : Nat}
def sxK (k : bkS) : Nat → Int32 := six k.2.2.1.1 k.2.2.1.2 (nI k.2.2.2.1) (nI k.2.2.2.2.1) (nI k.2.2.2.2.2.1) (nI k.2.2.2.2.2.2)
def grow (H : xH) : xH := (H.1, H.2.1 + 11, H.2.2 + 884)
theorem nm_c (hR : 77 < R) {a0 kn fr nu : Int32} {na : Int64} {tk fa fp wr cl : Int32} {g : Nat → Nat → Int32} {q : Nat → Int32} {ns : Nat → Int64} : nH (mH H K th sz ea tp nw kp wc sk) R a0 kn fr nu na tk fa fp wr cl g q ns = mH (nH H R a0 kn fr nu na tk fa fp wr cl g q ns) K th sz ea tp nw kp wc sk := by
  refine Prod.ext (funext fun n => ?_) rfl
  unfold nH mH
  dsimp only
  by_cases p : n < R
  · simp only [show ¬ n = R by omega, show ¬ n = R + 1 by omega, show ¬ n = R + 2 by omega, show ¬ n = R + 3 by omega, show ¬ n = R + 4 by omega, show ¬ n = R + 5 by omega, show ¬ n = R + 6 by omega, show ¬ n = R + 7 by omega, show ¬ n = R + 8 by omega, show ¬ n = R + 9 by omega, show ¬ n = R + 10 by omega, if_false]
  · simp only [show ¬ n = 63 by omega, show ¬ n = 64 by omega, show ¬ n = 74 by omega, show ¬ n = 75 by omega, show ¬ n = 76 by omega, show ¬ n = 77 by omega, if_false]
theorem nH_new (hR : H.2.1 = R) : xnew (mb8 (xnew (xnew H (.inr (10, mrO R)) 13) (.inr (9, mbO (R + 2))) 14)) (xarJ 7 (fun _ => 0)) 7 = nH (grow H) R 0 0 0 0 0 0 0 (-1) (-1) 0 (fun _ _ => 0) (six 6 6 0 0 0 0) (fun _ => 0) := by
  subst hR
  refine Prod.ext (funext fun n => ?_) ?_
  · unfold nH grow mb8
    simp only [xnew_g, xnew_n, mbO, mrO, six_0, six_1, six_2, six_3, six_4, six_5, Nat.add_assoc, Nat.reduceAdd]
    by_cases p0 : n = H.2.1
    · subst p0
      simp only [if_true, show ¬ H.2.1 = H.2.1 + 1 by omega, show ¬ H.2.1 = H.2.1 + 2 by omega, show ¬ H.2.1 = H.2.1 + 3 by omega, show ¬ H.2.1 = H.2.1 + 4 by omega, show ¬ H.2.1 = H.2.1 + 5 by omega, show ¬ H.2.1 = H.2.1 + 6 by omega, show ¬ H.2.1 = H.2.1 + 7 by omega, show ¬ H.2.1 = H.2.1 + 8 by omega, show ¬ H.2.1 = H.2.1 + 9 by omega, show ¬ H.2.1 = H.2.1 + 10 by omega, if_false]
    by_cases p1 : n = H.2.1 + 1
    · subst p1
      simp only [if_true, show ¬ H.2.1 + 1 = H.2.1 by omega, show ¬ H.2.1 + 1 = H.2.1 + 2 by omega, show ¬ H.2.1 + 1 = H.2.1 + 3 by omega, show ¬ H.2.1 + 1 = H.2.1 + 4 by omega, show ¬ H.2.1 + 1 = H.2.1 + 5 by omega, show ¬ H.2.1 + 1 = H.2.1 + 6 by omega, show ¬ H.2.1 + 1 = H.2.1 + 7 by omega, show ¬ H.2.1 + 1 = H.2.1 + 8 by omega, show ¬ H.2.1 + 1 = H.2.1 + 9 by omega, show ¬ H.2.1 + 1 = H.2.1 + 10 by omega, if_false]
    by_cases p2 : n = H.2.1 + 2
    · subst p2
      simp only [if_true, show ¬ H.2.1 + 2 = H.2.1 by omega, show ¬ H.2.1 + 2 = H.2.1 + 1 by omega, show ¬ H.2.1 + 2 = H.2.1 + 3 by omega, show ¬ H.2.1 + 2 = H.2.1 + 4 by omega, show ¬ H.2.1 + 2 = H.2.1 + 5 by omega, show ¬ H.2.1 + 2 = H.2.1 + 6 by omega, show ¬ H.2.1 + 2 = H.2.1 + 7 by omega, show ¬ H.2.1 + 2 = H.2.1 + 8 by omega, show ¬ H.2.1 + 2 = H.2.1 + 9 by omega, show ¬ H.2.1 + 2 = H.2.1 + 10 by omega, if_false]
    by_cases p3 : n = H.2.1 + 3
    · subst p3
      simp only [if_true, show ¬ H.2.1 + 3 = H.2.1 by omega, show ¬ H.2.1 + 3 = H.2.1 + 1 by omega, show ¬ H.2.1 + 3 = H.2.1 + 2 by omega, show ¬ H.2.1 + 3 = H.2.1 + 4 by omega, show ¬ H.2.1 + 3 = H.2.1 + 5 by omega, show ¬ H.2.1 + 3 = H.2.1 + 6 by omega, show ¬ H.2.1 + 3 = H.2.1 + 7 by omega, show ¬ H.2.1 + 3 = H.2.1 + 8 by omega, show ¬ H.2.1 + 3 = H.2.1 + 9 by omega, show ¬ H.2.1 + 3 = H.2.1 + 10 by omega, if_false]
    by_cases p4 : n = H.2.1 + 4
    · subst p4
      simp only [if_true, show ¬ H.2.1 + 4 = H.2.1 by omega, show ¬ H.2.1 + 4 = H.2.1 + 1 by omega, show ¬ H.2.1 + 4 = H.2.1 + 2 by omega, show ¬ H.2.1 + 4 = H.2.1 + 3 by omega, show ¬ H.2.1 + 4 = H.2.1 + 5 by omega, show ¬ H.2.1 + 4 = H.2.1 + 6 by omega, show ¬ H.2.1 + 4 = H.2.1 + 7 by omega, show ¬ H.2.1 + 4 = H.2.1 + 8 by omega, show ¬ H.2.1 + 4 = H.2.1 + 9 by omega, show ¬ H.2.1 + 4 = H.2.1 + 10 by omega, if_false]
    by_cases p5 : n = H.2.1 + 5
    · subst p5
      simp only [if_true, show ¬ H.2.1 + 5 = H.2.1 by omega, show ¬ H.2.1 + 5 = H.2.1 + 1 by omega, show ¬ H.2.1 + 5 = H.2.1 + 2 by omega, show ¬ H.2.1 + 5 = H.2.1 + 3 by omega, show ¬ H.2.1 + 5 = H.2.1 + 4 by omega, show ¬ H.2.1 + 5 = H.2.1 + 6 by omega, show ¬ H.2.1 + 5 = H.2.1 + 7 by omega, show ¬ H.2.1 + 5 = H.2.1 + 8 by omega, show ¬ H.2.1 + 5 = H.2.1 + 9 by omega, show ¬ H.2.1 + 5 = H.2.1 + 10 by omega, if_false]
    by_cases p6 : n = H.2.1 + 6
    · subst p6
      simp only [if_true, show ¬ H.2.1 + 6 = H.2.1 by omega, show ¬ H.2.1 + 6 = H.2.1 + 1 by omega, show ¬ H.2.1 + 6 = H.2.1 + 2 by omega, show ¬ H.2.1 + 6 = H.2.1 + 3 by omega, show ¬ H.2.1 + 6 = H.2.1 + 4 by omega, show ¬ H.2.1 + 6 = H.2.1 + 5 by omega, show ¬ H.2.1 + 6 = H.2.1 + 7 by omega, show ¬ H.2.1 + 6 = H.2.1 + 8 by omega, show ¬ H.2.1 + 6 = H.2.1 + 9 by omega, show ¬ H.2.1 + 6 = H.2.1 + 10 by omega, if_false]
    by_cases p7 : n = H.2.1 + 7
    · subst p7
      simp only [if_true, show ¬ H.2.1 + 7 = H.2.1 by omega, show ¬ H.2.1 + 7 = H.2.1 + 1 by omega, show ¬ H.2.1 + 7 = H.2.1 + 2 by omega, show ¬ H.2.1 + 7 = H.2.1 + 3 by omega, show ¬ H.2.1 + 7 = H.2.1 + 4 by omega, show ¬ H.2.1 + 7 = H.2.1 + 5 by omega, show ¬ H.2.1 + 7 = H.2.1 + 6 by omega, show ¬ H.2.1 + 7 = H.2.1 + 8 by omega, show ¬ H.2.1 + 7 = H.2.1 + 9 by omega, show ¬ H.2.1 + 7 = H.2.1 + 10 by omega, if_false]
    by_cases p8 : n = H.2.1 + 8
    · subst p8
      simp only [if_true, show ¬ H.2.1 + 8 = H.2.1 by omega, show ¬ H.2.1 + 8 = H.2.1 + 1 by omega, show ¬ H.2.1 + 8 = H.2.1 + 2 by omega, show ¬ H.2.1 + 8 = H.2.1 + 3 by omega, show ¬ H.2.1 + 8 = H.2.1 + 4 by omega, show ¬ H.2.1 + 8 = H.2.1 + 5 by omega, show ¬ H.2.1 + 8 = H.2.1 + 6 by omega, show ¬ H.2.1 + 8 = H.2.1 + 7 by omega, show ¬ H.2.1 + 8 = H.2.1 + 9 by omega, show ¬ H.2.1 + 8 = H.2.1 + 10 by omega, if_false]
    by_cases p9 : n = H.2.1 + 9
    · subst p9
      simp only [if_true, show ¬ H.2.1 + 9 = H.2.1 by omega, show ¬ H.2.1 + 9 = H.2.1 + 1 by omega, show ¬ H.2.1 + 9 = H.2.1 + 2 by omega, show ¬ H.2.1 + 9 = H.2.1 + 3 by omega, show ¬ H.2.1 + 9 = H.2.1 + 4 by omega, show ¬ H.2.1 + 9 = H.2.1 + 5 by omega, show ¬ H.2.1 + 9 = H.2.1 + 6 by omega, show ¬ H.2.1 + 9 = H.2.1 + 7 by omega, show ¬ H.2.1 + 9 = H.2.1 + 8 by omega, show ¬ H.2.1 + 9 = H.2.1 + 10 by omega, if_false]
    by_cases p10 : n = H.2.1 + 10
    · subst p10
      simp only [if_true, show ¬ H.2.1 + 10 = H.2.1 by omega, show ¬ H.2.1 + 10 = H.2.1 + 1 by omega, show ¬ H.2.1 + 10 = H.2.1 + 2 by omega, show ¬ H.2.1 + 10 = H.2.1 + 3 by omega, show ¬ H.2.1 + 10 = H.2.1 + 4 by omega, show ¬ H.2.1 + 10 = H.2.1 + 5 by omega, show ¬ H.2.1 + 10 = H.2.1 + 6 by omega, show ¬ H.2.1 + 10 = H.2.1 + 7 by omega, show ¬ H.2.1 + 10 = H.2.1 + 8 by omega, show ¬ H.2.1 + 10 = H.2.1 + 9 by omega, if_false]
    simp only [p0, p1, p2, p3, p4, p5, p6, p7, p8, p9, p10, if_false]
  · unfold grow mb8
    refine Prod.ext ?_ ?_
    · simp only [xnew_n, nH_2]
    · simp only [xnew_k, nH_2]
theorem gr_m : grow (mH H K th sz ea tp nw kp wc sk) = mH (grow H) K th sz ea tp nw kp wc sk := rfl
theorem f_MR_book (hR : 77 < R) (hb : byt T tp) (hl : l ≤ 1600) (hA : tkAll kd nu st vl T l EE) (w : Int32 × Int32) (b : Nat → Nat → Int32) (nm : Nat → Int64) :
    ∃ (bb : Bool) (x' : Nat) (f' : Int32 × Int32) (wr' cl' : Int32) (k' : bkS), (∀ Q, xcall E xprog (d + 65) 132 [.ref R] (nH (mH H K th (nI l) ea tp nw kp wc sk) R 0 0 0 0 0 0 0 (-1) (-1) 0 (fun _ _ => 0) (six 6 6 0 0 0 0) (fun _ => 0)) Q = Q (.inl (some (.int (bI bb))), (nH (mH H K th (nI l) ea tp nw kp wc sk) R (mzA T l x') (mzK T l x') (mzF T l x') (mzN T l x') (mzS T l x') (nI (x' + 1)) f'.1 f'.2 wr' cl' k'.1 (sxK k') k'.2.1))) ∧ (bb = false → (rdP kd nu st vl 401 0 0 (0, -1) w ((b, nm, (6, 6), 0, 0, 0, 0) : bkS)).2.1 = (1, wr')) ∧
      (bb = true → (rdP kd nu st vl 401 0 0 (0, -1) w ((b, nm, (6, 6), 0, 0, 0, 0) : bkS)).2.1 = f' ∧ mOK k' EE ∧ kOK (rdP kd nu st vl 401 0 0 (0, -1) w ((b, nm, (6, 6), 0, 0, 0, 0) : bkS)).2.2.2 ∧ (f'.1 = 0 → relB kd vl T l EE (rdP kd nu st vl 401 0 0 (0, -1) w ((b, nm, (6, 6), 0, 0, 0, 0) : bkS)).2.2.2 k')) := by
  have hL : relL kd vl T l EE 0 0 (0, -1) (0, -1) ((b, nm, (6, 6), 0, 0, 0, 0) : bkS) ((fun _ _ => 0, fun _ => 0, (6, 6), 0, 0, 0, 0) : bkS) := by
    refine ⟨⟨rfl, Or.inl rfl⟩, ⟨Nat.zero_le _, Nat.zero_le _, Nat.zero_le _, Nat.zero_le _⟩, ⟨Nat.zero_le _, Nat.zero_le _, Nat.zero_le _, Nat.zero_le _⟩, fun _ => ?_, fun _ => ⟨rfl, rfl⟩⟩
    exact ⟨6, 6, by omega, rfl, rfl, rfl, fun i h => absurd h (Nat.not_lt_zero i), fun i h => absurd h (Nat.not_lt_zero i), fun i h => absurd h (Nat.not_lt_zero i), fun i h => absurd h (Nat.not_lt_zero i), fun h => absurd h (Nat.not_lt_zero 0)⟩
  obtain ⟨bb, x', f', wr', cl', k', y1, y2⟩ := y_lines (d := d) (E := E) (H := H) (R := R) (K := K) (th := th) (ea := ea) (tp := tp) (nw := nw) (kp := kp) (wc := wc) (sk := sk) hR hb hl hA 401 0 0 (0, -1) (0, -1) w (-1) 0 _ _ rfl (Nat.le_refl 0) (Nat.zero_le _) hL
  refine ⟨bb, x', f', wr', cl', k', fun Q => ?_, y2⟩
  rw [e_MR_book]
  simp only [s_MR_book_0, s_MR_book_1, nQC_R, true_and]
  refine (f_MR_next (d := d + 56) hR hb hl 0 0 (Nat.zero_le _) (by omega)).trans ?_
  simp only [xk_n, s_MR_book_4, s_MR_book_5]
  exact y1 Q
end MTEACH
