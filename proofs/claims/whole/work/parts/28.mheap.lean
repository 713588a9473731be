/-! ===== the model over a heap, as one heap; its book ===== -/
section MHEAP
/-- the model at 63: thrown, size, errorAt; its tape, its numbers now and kept, who was calm, its stack; the book at K -/
def mH (H : xH) (K : Nat) (th sz ea : Int32) (tp nw kp wc sk : Nat → Int32) : xH :=
  (fun n => if n = 63 then .inr (11, [.int th, .ref 64, .int sz, .int ea, .ref K, .ref 74, .ref 75, .ref 76, .ref 77]) else if n = 64 then xarB 1600 tp
    else if n = 74 then xarI 51 nw else if n = 75 then xarI 51 kp else if n = 76 then xarI 6 wc else if n = 77 then xarI 401 sk else H.1 n, H.2)
/-- the model's book at K: rows g 0 .. g 7 (kettleAt, steams, customsAt, home's column, row, noses, begins, orders), numbers q 0 .. q 5 (columns, rows, kettles, customs, clippers, ordered) -/
def kM (H : xH) (K : Nat) (g : Nat → Nat → Int32) (q : Nat → Int32) : Prop :=
  H.1 K = .inr (9, [.int (q 0), .int (q 1), .int (q 2), .int (q 3), .int (q 4), .ref (K + 1), .ref (K + 2), .ref (K + 3), .ref (K + 4), .ref (K + 5), .ref (K + 6), .ref (K + 7), .ref (K + 8), .int (q 5)]) ∧
  H.1 (K + 1) = xarI 7 (g 0) ∧ H.1 (K + 2) = xarI 7 (g 1) ∧ H.1 (K + 3) = xarI 7 (g 2) ∧ H.1 (K + 4) = xarI 7 (g 3) ∧ H.1 (K + 5) = xarI 7 (g 4) ∧ H.1 (K + 6) = xarI 7 (g 5) ∧ H.1 (K + 7) = xarI 8 (g 6) ∧ H.1 (K + 8) = xarI 800 (g 7)
/-- where a model's book may lie -/
def mK (K : Nat) : Prop := K = 65 ∨ 78 < K
variable {H : xH} {K K' : Nat} {g : Nat → Nat → Int32} {q : Nat → Int32} {th sz ea th' sz' ea' : Int32} {tp nw kp wc sk tp' nw' kp' wc' sk' : Nat → Int32}
theorem mH_2 : (mH H K th sz ea tp nw kp wc sk).2 = H.2 := rfl
theorem mH_o (n : Nat) (p : n < 63 ∨ (64 < n ∧ n < 74) ∨ 77 < n) : (mH H K th sz ea tp nw kp wc sk).1 n = H.1 n := by
  unfold mH
  dsimp only
  rw [if_neg (by omega), if_neg (by omega), if_neg (by omega), if_neg (by omega), if_neg (by omega), if_neg (by omega)]
theorem mH_kM (hM : kM H K g q) (hK : mK K) : kM (mH H K' th sz ea tp nw kp wc sk) K g q := by
  obtain ⟨b0, b1, b2, b3, b4, b5, b6, b7, b8⟩ := id hM
  refine ⟨?_, ?_, ?_, ?_, ?_, ?_, ?_, ?_, ?_⟩ <;> rw [mH_o _ (by rcases hK with p | p <;> omega)] <;> assumption
theorem mw_63 : xset (mH H K th sz ea tp nw kp wc sk) 63 (.inr (11, [.int th', .ref 64, .int sz', .int ea', .ref K', .ref 74, .ref 75, .ref 76, .ref 77])) = mH H K' th' sz' ea' tp nw kp wc sk := by
  refine Prod.ext ?_ rfl
  funext n
  unfold xset xup mH
  dsimp only
  repeat' split
  all_goals first | rfl | omega
theorem mw_64 : xset (mH H K th sz ea tp nw kp wc sk) 64 (xarB 1600 tp') = mH H K th sz ea tp' nw kp wc sk := by
  refine Prod.ext ?_ rfl
  funext n
  unfold xset xup mH
  dsimp only
  repeat' split
  all_goals first | rfl | omega
theorem mw_74 : xset (mH H K th sz ea tp nw kp wc sk) 74 (xarI 51 nw') = mH H K th sz ea tp nw' kp wc sk := by
  refine Prod.ext ?_ rfl
  funext n
  unfold xset xup mH
  dsimp only
  repeat' split
  all_goals first | rfl | omega
theorem mw_75 : xset (mH H K th sz ea tp nw kp wc sk) 75 (xarI 51 kp') = mH H K th sz ea tp nw kp' wc sk := by
  refine Prod.ext ?_ rfl
  funext n
  unfold xset xup mH
  dsimp only
  repeat' split
  all_goals first | rfl | omega
theorem mw_76 : xset (mH H K th sz ea tp nw kp wc sk) 76 (xarI 6 wc') = mH H K th sz ea tp nw kp wc' sk := by
  refine Prod.ext ?_ rfl
  funext n
  unfold xset xup mH
  dsimp only
  repeat' split
  all_goals first | rfl | omega
theorem mw_77 : xset (mH H K th sz ea tp nw kp wc sk) 77 (xarI 401 sk') = mH H K th sz ea tp nw kp wc sk' := by
  refine Prod.ext ?_ rfl
  funext n
  unfold xset xup mH
  dsimp only
  repeat' split
  all_goals first | rfl | omega
theorem mF : xfls (mH H K th sz ea tp nw kp wc sk) 63 11 = [.int th, .ref 64, .int sz, .int ea, .ref K, .ref 74, .ref 75, .ref 76, .ref 77] := xf_of rfl
theorem mC : xcl (mH H K th sz ea tp nw kp wc sk) 63 = 11 := xc_of (fs := [.int th, .ref 64, .int sz, .int ea, .ref K, .ref 74, .ref 75, .ref 76, .ref 77]) rfl
theorem ml_74 : xlenI (mH H K th sz ea tp nw kp wc sk) 74 = 51 := xIl_of (f := nw) rfl
theorem mf_74 : xfnI (mH H K th sz ea tp nw kp wc sk) 74 = nw := xIf_of (n := 51) rfl
theorem ml_75 : xlenI (mH H K th sz ea tp nw kp wc sk) 75 = 51 := xIl_of (f := kp) rfl
theorem mf_75 : xfnI (mH H K th sz ea tp nw kp wc sk) 75 = kp := xIf_of (n := 51) rfl
theorem ml_76 : xlenI (mH H K th sz ea tp nw kp wc sk) 76 = 6 := xIl_of (f := wc) rfl
theorem mf_76 : xfnI (mH H K th sz ea tp nw kp wc sk) 76 = wc := xIf_of (n := 6) rfl
theorem ml_77 : xlenI (mH H K th sz ea tp nw kp wc sk) 77 = 401 := xIl_of (f := sk) rfl
theorem mf_77 : xfnI (mH H K th sz ea tp nw kp wc sk) 77 = sk := xIf_of (n := 401) rfl
theorem ml_64 : xlenB (mH H K th sz ea tp nw kp wc sk) 64 = 1600 := xBl_of (f := tp) rfl
theorem mf_64 : xfnB (mH H K th sz ea tp nw kp wc sk) 64 = tp := xBf_of (n := 1600) rfl
theorem nF (hM : kM H K g q) (hK : mK K) : xfls (mH H K' th sz ea tp nw kp wc sk) K 9 = [.int (q 0), .int (q 1), .int (q 2), .int (q 3), .int (q 4), .ref (K + 1), .ref (K + 2), .ref (K + 3), .ref (K + 4), .ref (K + 5), .ref (K + 6), .ref (K + 7), .ref (K + 8), .int (q 5)] := xf_of (mH_kM (K' := K') (th := th) (sz := sz) (ea := ea) (tp := tp) (nw := nw) (kp := kp) (wc := wc) (sk := sk) hM hK).1
theorem nC (hM : kM H K g q) (hK : mK K) : xcl (mH H K' th sz ea tp nw kp wc sk) K = 9 := xc_of (mH_kM (K' := K') (th := th) (sz := sz) (ea := ea) (tp := tp) (nw := nw) (kp := kp) (wc := wc) (sk := sk) hM hK).1
theorem nl_0 (hM : kM H K g q) (hK : mK K) : xlenI (mH H K' th sz ea tp nw kp wc sk) (K + 1) = 7 := xIl_of (mH_kM (K' := K') (th := th) (sz := sz) (ea := ea) (tp := tp) (nw := nw) (kp := kp) (wc := wc) (sk := sk) hM hK).2.1
theorem nf_0 (hM : kM H K g q) (hK : mK K) : xfnI (mH H K' th sz ea tp nw kp wc sk) (K + 1) = g 0 := xIf_of (mH_kM (K' := K') (th := th) (sz := sz) (ea := ea) (tp := tp) (nw := nw) (kp := kp) (wc := wc) (sk := sk) hM hK).2.1
theorem nl_1 (hM : kM H K g q) (hK : mK K) : xlenI (mH H K' th sz ea tp nw kp wc sk) (K + 2) = 7 := xIl_of (mH_kM (K' := K') (th := th) (sz := sz) (ea := ea) (tp := tp) (nw := nw) (kp := kp) (wc := wc) (sk := sk) hM hK).2.2.1
theorem nf_1 (hM : kM H K g q) (hK : mK K) : xfnI (mH H K' th sz ea tp nw kp wc sk) (K + 2) = g 1 := xIf_of (mH_kM (K' := K') (th := th) (sz := sz) (ea := ea) (tp := tp) (nw := nw) (kp := kp) (wc := wc) (sk := sk) hM hK).2.2.1
theorem nl_2 (hM : kM H K g q) (hK : mK K) : xlenI (mH H K' th sz ea tp nw kp wc sk) (K + 3) = 7 := xIl_of (mH_kM (K' := K') (th := th) (sz := sz) (ea := ea) (tp := tp) (nw := nw) (kp := kp) (wc := wc) (sk := sk) hM hK).2.2.2.1
theorem nf_2 (hM : kM H K g q) (hK : mK K) : xfnI (mH H K' th sz ea tp nw kp wc sk) (K + 3) = g 2 := xIf_of (mH_kM (K' := K') (th := th) (sz := sz) (ea := ea) (tp := tp) (nw := nw) (kp := kp) (wc := wc) (sk := sk) hM hK).2.2.2.1
theorem nl_3 (hM : kM H K g q) (hK : mK K) : xlenI (mH H K' th sz ea tp nw kp wc sk) (K + 4) = 7 := xIl_of (mH_kM (K' := K') (th := th) (sz := sz) (ea := ea) (tp := tp) (nw := nw) (kp := kp) (wc := wc) (sk := sk) hM hK).2.2.2.2.1
theorem nf_3 (hM : kM H K g q) (hK : mK K) : xfnI (mH H K' th sz ea tp nw kp wc sk) (K + 4) = g 3 := xIf_of (mH_kM (K' := K') (th := th) (sz := sz) (ea := ea) (tp := tp) (nw := nw) (kp := kp) (wc := wc) (sk := sk) hM hK).2.2.2.2.1
theorem nl_4 (hM : kM H K g q) (hK : mK K) : xlenI (mH H K' th sz ea tp nw kp wc sk) (K + 5) = 7 := xIl_of (mH_kM (K' := K') (th := th) (sz := sz) (ea := ea) (tp := tp) (nw := nw) (kp := kp) (wc := wc) (sk := sk) hM hK).2.2.2.2.2.1
theorem nf_4 (hM : kM H K g q) (hK : mK K) : xfnI (mH H K' th sz ea tp nw kp wc sk) (K + 5) = g 4 := xIf_of (mH_kM (K' := K') (th := th) (sz := sz) (ea := ea) (tp := tp) (nw := nw) (kp := kp) (wc := wc) (sk := sk) hM hK).2.2.2.2.2.1
theorem nl_5 (hM : kM H K g q) (hK : mK K) : xlenI (mH H K' th sz ea tp nw kp wc sk) (K + 6) = 7 := xIl_of (mH_kM (K' := K') (th := th) (sz := sz) (ea := ea) (tp := tp) (nw := nw) (kp := kp) (wc := wc) (sk := sk) hM hK).2.2.2.2.2.2.1
theorem nf_5 (hM : kM H K g q) (hK : mK K) : xfnI (mH H K' th sz ea tp nw kp wc sk) (K + 6) = g 5 := xIf_of (mH_kM (K' := K') (th := th) (sz := sz) (ea := ea) (tp := tp) (nw := nw) (kp := kp) (wc := wc) (sk := sk) hM hK).2.2.2.2.2.2.1
theorem nl_6 (hM : kM H K g q) (hK : mK K) : xlenI (mH H K' th sz ea tp nw kp wc sk) (K + 7) = 8 := xIl_of (mH_kM (K' := K') (th := th) (sz := sz) (ea := ea) (tp := tp) (nw := nw) (kp := kp) (wc := wc) (sk := sk) hM hK).2.2.2.2.2.2.2.1
theorem nf_6 (hM : kM H K g q) (hK : mK K) : xfnI (mH H K' th sz ea tp nw kp wc sk) (K + 7) = g 6 := xIf_of (mH_kM (K' := K') (th := th) (sz := sz) (ea := ea) (tp := tp) (nw := nw) (kp := kp) (wc := wc) (sk := sk) hM hK).2.2.2.2.2.2.2.1
theorem nl_7 (hM : kM H K g q) (hK : mK K) : xlenI (mH H K' th sz ea tp nw kp wc sk) (K + 8) = 800 := xIl_of (mH_kM (K' := K') (th := th) (sz := sz) (ea := ea) (tp := tp) (nw := nw) (kp := kp) (wc := wc) (sk := sk) hM hK).2.2.2.2.2.2.2.2
theorem nf_7 (hM : kM H K g q) (hK : mK K) : xfnI (mH H K' th sz ea tp nw kp wc sk) (K + 8) = g 7 := xIf_of (mH_kM (K' := K') (th := th) (sz := sz) (ea := ea) (tp := tp) (nw := nw) (kp := kp) (wc := wc) (sk := sk) hM hK).2.2.2.2.2.2.2.2
end MHEAP
