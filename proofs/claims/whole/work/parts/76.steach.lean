/-! ===== both are taught alike ===== -/
section STEACH
variable {E : xE} {d n : Nat} {X : xH}
theorem mH_mH {H : xH} {K : Nat} {th sz ea : Int32} {tp nw kp wc sk : Nat → Int32} : mH (mH H K th sz ea tp nw kp wc sk) K th sz ea tp nw kp wc sk = mH H K th sz ea tp nw kp wc sk := by
  refine Prod.ext (funext fun n => ?_) rfl
  by_cases p : n < 63 ∨ (64 < n ∧ n < 74) ∨ 77 < n
  · rw [mH_o n p]
  · rcases (show n = 63 ∨ n = 64 ∨ n = 74 ∨ n = 75 ∨ n = 76 ∨ n = 77 by omega) with r | r | r | r | r | r <;> subst r <;> rfl
theorem st_teach (hI : IV n X) : ∃ (r : Int32) (X1 X2 : xH), (∀ Q, xcall E xprog (d + 154) 71 [.ref 0] X Q = Q (.inl (some (.int r)), X1)) ∧
    (∀ Q, xcall E xprog (d + 154) 156 [.ref 63] X1 Q = Q (.inl (some (.int r)), X2)) ∧ IV n X2 ∧ X2.2 = (X.2.1 + 11, X.2.2 + 884) := by
  obtain ⟨Kb, Ks, K, l, ep, th, T, tp, b, nm, s, a, t, g, q, co, ro, nk, nc, nn, cnt, rs, re, hC, hM, hb, hl, h2, hS⟩ := hI
  obtain ⟨c0, ck, ⟨er, ep', cc, cr, ct, nx, kd, st, vl, wd, cR, cW⟩, cB, ⟨b', nm', s', cB'⟩, cY, ⟨ms, sk, hh, cT⟩, ⟨Kt, a', t', cY'⟩⟩ := hC
  obtain ⟨⟨kp, wc, msk, m1⟩, m2, m3, m4, m5, f, m6⟩ := hM
  have h6 : nn ≤ 6 := h2.2.1.2.1
  have hA : tkAll (kdA T l wd kd) (fun i => (vlA T l wd vl i).toInt32) (stA T l wd st) (vlA T l wd vl) T l (lst T l wd) := tk_all (fun i => (hb i).1) hl cW
  have hN : ∀ x, x ≤ lst T l wd → kdT T l wd x = 2 → ∃ m, m ≤ 9999 ∧ (vaT T l x).toInt32 = nI m := by
    intro x hx hk
    obtain ⟨m, q1, q2⟩ := (hA.2.2.1 x hx).2.2 (by rw [kdA_is hx]; exact hk)
    exact ⟨m, q1, by rw [← q2]; show _ = (vlA T l wd vl x).toInt32; rw [vlA_is hx]⟩
  obtain ⟨X1, er1, ep1, cc1, cr1, ct1, nx1, kd1, st1, vl1, y1, y2, y3, y4, y5, y6, y7, y8, y9⟩ := f_T_teach (E := E) (d := d) c0 cR cB' ck cY cT hb hl hN
  have e1 : X1 = mH X1 K th (nI l) ep tp (nwO nn a t) kp wc msk := mH_of m1 (fun n p _ => y3 n (by omega))
  obtain ⟨H', K', nw', z1, z2, z3, z4, z5⟩ := f_M_teach (E := E) (d := d + 87) (H := X1) (R := X.2.1) (K := K) (th := th) (ea := ep) (tp := tp) (nw := nwO nn a t) (kp := kp) (wc := wc) (sk := msk) (by rw [y2]) (by omega) hb hl hA (nwO_o h6) (cc, cr) b' nm' a
  generalize hrd : (rdP (kdA T l wd kd) (fun i => (vlA T l wd vl i).toInt32) (stA T l wd st) (vlA T l wd vl) 401 0 0 (0, -1) (cc, cr) ((b', nm', (6, 6), 0, 0, 0, 0) : bkS)) = rd at y1 y6 y8 y9 z1 z4 z5
  have keep : ∀ n, n < 63 ∨ (64 < n ∧ n < 74) ∨ (77 < n ∧ n < X.2.1) → (mH H' K' 0 0 rd.2.1.2 tp nw' kp wc msk).1 n = X1.1 n := fun n hn => by
    rw [mH_o n (by omega), z3 n (by omega)]
  have k78 : (mH H' K' 0 0 rd.2.1.2 tp nw' kp wc msk).1 78 = xarJ 1 f := by rw [keep 78 (by omega), y3 78 (by omega)]; exact m6
  refine ⟨rd.2.1.1, X1, mH H' K' 0 0 rd.2.1.2 tp nw' kp wc msk, y1, fun Q => ?_, ?_, ?_⟩
  · have := z1 Q
    rw [← e1] at this
    exact this
  · have cY2 : kY (mH H' K' 0 0 rd.2.1.2 tp nw' kp wc msk) 53 Kt a' t' := kY_eq cY' (fun n p1 p2 => by rw [keep n (by omega), y3 n (by omega)])
    have cT2 : kT (mH H' K' 0 0 rd.2.1.2 tp nw' kp wc msk) ms sk hh := kT_eq y5 (fun n p1 p2 => keep n (by omega))
    have cR2 : rT (mH H' K' 0 0 rd.2.1.2 tp nw' kp wc msk) tp (nI 0) er1 ep1 cc1 cr1 ct1 nx1 kd1 st1 vl1 wd := rT_eq y4 (fun n p1 p2 => keep n (by omega))
    have cBs : kB (mH H' K' 0 0 rd.2.1.2 tp nw' kp wc msk) Ks rd.2.2.2.1 rd.2.2.2.2.1 (sxK rd.2.2.2) := kB_eq y6 (fun n p1 p2 => keep n (by omega))
    have cBb : kB (mH H' K' 0 0 rd.2.1.2 tp nw' kp wc msk) Kb b nm s := kB_eq cB (fun n p1 p2 => by rw [keep n (by omega), y7 n p1 p2])
    have x1 : (mH H' K' 0 0 rd.2.1.2 tp nw' kp wc msk).2.1 = X.2.1 + 11 := by rw [mH_2, z2]
    by_cases z : rd.2.1.1 = 0
    · obtain ⟨w1, w2⟩ := y9 z
      obtain ⟨v1, v2, g', q', co', ro', v3, v4⟩ := z5 z
      refine ⟨Ks, Kb, K', 0, rd.2.1.2, 0, T, tp, rd.2.2.2.1, rd.2.2.2.2.1, sxK rd.2.2.2, bg2 (bg1 a 0 6) rd.2.2.2.1 0 6, tri 0 0 0, g', q', co', ro', rd.2.2.2.2.2.2.1, rd.2.2.2.2.2.2.2.1, rd.2.2.2.2.2.2.2.2.1, rd.2.2.2.2.2.2.2.2.2, rsK rd.2.2.2, reK rd.2.2.2, ?_, ?_, hb, by omega, v4, kSt_up (kSt_bg v4) (Nat.zero_le n)⟩
      · refine ⟨?_, by omega, ⟨er1, ep1, cc1, cr1, ct1, nx1, kd1, st1, vl1, wd, cR2, cW⟩, cBs, ⟨b, nm, s, cBb⟩, kY_eq w2 (fun n p1 p2 => keep n (by omega)), ⟨ms, sk, hh, cT2⟩, ⟨Kt, a', t', cY2⟩⟩
        rw [keep 0 (by omega)]
        exact w1
      · subst v1
        refine ⟨⟨kp, wc, msk, ?_⟩, mH_kM v3 (Or.inr (by omega)), Or.inr (by omega), by rw [x1]; omega, by rw [x1]; omega, f, k78⟩
        rw [v2]
        exact (mH_mH).symm
    · obtain ⟨w1, w2⟩ := y8 z
      obtain ⟨v1, v2⟩ := z4 z
      subst v1 v2
      refine ⟨Kb, Ks, K', 0, rd.2.1.2, 0, T, tp, b, nm, s, a, t, g, q, co, ro, nk, nc, nn, cnt, rs, re, ?_, ?_, hb, by omega, h2, hS⟩
      · refine ⟨?_, ck, ⟨er1, ep1, cc1, cr1, ct1, nx1, kd1, st1, vl1, wd, cR2, cW⟩, cBb, ⟨_, _, _, cBs⟩, kY_eq w2 (fun n p1 p2 => keep n (by omega)), ⟨ms, sk, hh, cT2⟩, ⟨Kt, a', t', cY2⟩⟩
        rw [keep 0 (by omega)]
        exact w1
      · refine ⟨⟨kp, wc, msk, (mH_mH).symm⟩, kM_eq m2 (fun n p1 p2 => ?_), m3, by rw [x1]; omega, by rw [x1]; omega, f, k78⟩
        have : 63 ≤ K' := by rcases m3 with r | r <;> omega
        have : n ≠ 63 ∧ n ≠ 64 ∧ (n < 74 ∨ 77 < n) := by rcases m3 with r | r <;> omega
        rw [keep n (by omega), y3 n (by omega)]
  · rw [mH_2, z2, y2]
end STEACH
