/-! ===== the law's reckoning writes its book: all of it ===== -/
section STEXT2
variable {E : xE} {d D : Nat} {Q : xR → Prop} {H X H0 : xH} {ad ro : Nat → Nat} {b a a' : Nat → Nat → Int32} {s t t' : Nat → Int32} {nk nc nn lo hi : Nat} {ru : Nat → Option Nat} {r k c i j m n p q co rw' wp cb sl u l2 : Nat} {rs re : Nat → Nat} {j1 j2 j3 j4 j5 : Option Value} {ym : xM} {kx ky kz ux uy hx hy hz : Nat → Nat}

theorem txL_bk : txL 20 = wby 0 ++ [32] ∧ txL 21 = [44] ∧ txL 22 = [59] ∧ txL 23 = wby 1 ++ [32] ∧ txL 24 = 32 :: (wby 2 ++ [32]) ∧ txL 25 = wby 3 ++ [32] ∧ txL 28 = wby 4 ++ [32, 99] ∧ txL 29 = 32 :: (wby 5 ++ [32]) ∧ txL 30 = 32 :: (wby 6 ++ [32]) ∧ txL 31 = 32 :: (wby 7 ++ [32]) := by
  unfold txL; rw [xtb_is]; decide +kernel
theorem txL_c {i : Nat} (hi : i < 43) : tln i = (txL i).length ∧ byL (fun j => tch i j) (txL i) := by
  rcases txL_st ((fun _ => .inr (0, []), 0, 0) : xH) hi with ⟨j, h1, h2, h3, h4⟩ | ⟨a, b, f, h1, -⟩
  · have e : 100 + 2 * i = 100 + 2 * j := by injection h2
    have : i = j := by omega
    subst this
    exact ⟨h3, h4⟩
  · cases h1
theorem kt_txt (x y z : Nat) : txt (ketT x y z) = txL 23 ++ (dcL x ++ (txL 21 ++ (dcL y ++ (txL 24 ++ (dcL z ++ txL 22))))) := by
  obtain ⟨-, h1, h2, h3, h4, -⟩ := txL_bk
  rw [h1, h2, h3, h4]
  show bln false ++ (wby 1 ++ (bln true ++ (dcL x ++ (bln false ++ ([44] ++ (bln false ++ (dcL y ++ (bln true ++ (wby 2 ++ (bln true ++ (dcL z ++ (bln false ++ ([59] ++ []))))))))))))) = _
  simp [bln]
theorem ut_txt (x y : Nat) : txt (cusT x y) = txL 25 ++ (dcL x ++ (txL 21 ++ (dcL y ++ txL 22))) := by
  obtain ⟨-, h1, h2, -, -, h3, -⟩ := txL_bk
  rw [h1, h2, h3]
  show bln false ++ (wby 3 ++ (bln true ++ (dcL x ++ (bln false ++ ([44] ++ (bln false ++ (dcL y ++ (bln false ++ ([59] ++ []))))))))) = _
  simp [bln]
theorem bt_txt (x y : Nat) : txt (bayT x y) = txL 20 ++ (dcL x ++ (txL 21 ++ (dcL y ++ txL 22))) := by
  obtain ⟨h3, h1, h2, -⟩ := txL_bk
  rw [h1, h2, h3]
  show bln false ++ (wby 0 ++ (bln true ++ (dcL x ++ (bln false ++ ([44] ++ (bln false ++ (dcL y ++ (bln false ++ ([59] ++ []))))))))) = _
  simp [bln]
theorem ct_txt (c x y z : Nat) : txt (cliT E c x y z) = txL 28 ++ ([97 + c] ++ (txL 29 ++ (dcL x ++ (txL 21 ++ (dcL y ++ (txL 30 ++ (dcL z ++ (txL 31 ++ (wrt E 4 (5 + 11 * c) 0 true ++ txL 22))))))))) := by
  obtain ⟨-, h1, h2, -, -, -, h3, h4, h5, h6⟩ := txL_bk
  rw [h1, h2, h3, h4, h5, h6]
  unfold cliT
  rw [txt_app, txt_app, wrt_txt 3 _ _ _ _ (by omega)]
  show (bln false ++ (wby 4 ++ (bln true ++ ([99, 97 + c] ++ (bln true ++ (wby 5 ++ (bln true ++ (dcL x ++ (bln false ++ ([44] ++ (bln false ++ (dcL y ++ (bln true ++ (wby 6 ++ (bln true ++ (dcL z ++ (bln true ++ (wby 7 ++ [])))))))))))))))))) ++ ((bln true ++ wrt E 4 (5 + 11 * c) 0 true) ++ (bln false ++ ([59] ++ []))) = _
  simp [bln]
theorem l_tk (h : jOK ad ro nk nc nn lo hi) (hl : hi ≤ l2) (hv : ∀ k, k < nk → b 2 k = nI (kx k) ∧ b 3 k = nI (ky k) ∧ b 4 k = nI (kz k) ∧ kx k ≤ 9999 ∧ ky k ≤ 9999 ∧ kz k ≤ 9999) : ∀ m i j5, i + m = nk → ∃ j5', rnT E (d + 6) m_S_text l2 q (jH ad ro b s nk nc nn ru H a t) (45, [some (.ref (ad 1)), some (.ref q), some (.ref (ad 2)), some (.int (nI nk)), some (.int (nI i)), j5], []) (45, [some (.ref (ad 1)), some (.ref q), some (.ref (ad 2)), some (.int (nI nk)), some (.int (nI nk)), j5'], []) (txt (catL (fun i => ketT (kx i) (ky i) (kz i)) i m)) 0
  | 0, i, j5, hi => by
    obtain rfl : i = nk := by omega
    exact ⟨j5, rn_0 fun _ _ _ _ => rfl⟩
  | m + 1, i, j5, hi => by
    obtain ⟨v1, v2, v3, v4, v5, v6⟩ := hv i (by omega)
    obtain ⟨j5', e⟩ := l_tk h hl hv m (i + 1) (some (.ref (ad (10 + i)))) (by omega)
    have hk : i < nk := by omega
    refine ⟨j5', rn_cast (rn_tr (rn_tr (tk_1 h hl hk) (rn_tr (tk_2 h hl hk v1 v4) (rn_tr (tk_3 h hl) (rn_tr (tk_4 h hl hk v2 v5) (rn_tr (tk_5 h hl) (rn_tr (tk_6 h hl hk v3 v6) (tk_7 h hl))))))) e) ?_⟩
    show _ = txt (ketT (kx i) (ky i) (kz i) ++ catL (fun i => ketT (kx i) (ky i) (kz i)) (i + 1) m)
    rw [txt_app, kt_txt]
theorem l_tu (h : jOK ad ro nk nc nn lo hi) (hl : hi ≤ l2) (hv : ∀ k, k < nc → b 5 k = nI (ux k) ∧ b 6 k = nI (uy k) ∧ ux k ≤ 9999 ∧ uy k ≤ 9999) : ∀ m i j5, i + m = nc → ∃ j5', rnT E (d + 6) m_S_text l2 q (jH ad ro b s nk nc nn ru H a t) (117, [some (.ref (ad 1)), some (.ref q), some (.ref (ad 3)), some (.int (nI nc)), some (.int (nI i)), j5], []) (117, [some (.ref (ad 1)), some (.ref q), some (.ref (ad 3)), some (.int (nI nc)), some (.int (nI nc)), j5'], []) (txt (catL (fun i => cusT (ux i) (uy i)) i m)) 0
  | 0, i, j5, hi => by
    obtain rfl : i = nc := by omega
    exact ⟨j5, rn_0 fun _ _ _ _ => rfl⟩
  | m + 1, i, j5, hi => by
    obtain ⟨v1, v2, v3, v4⟩ := hv i (by omega)
    obtain ⟨j5', e⟩ := l_tu h hl hv m (i + 1) (some (.ref (ad (30 + i)))) (by omega)
    have hk : i < nc := by omega
    refine ⟨j5', rn_cast (rn_tr (rn_tr (tu_1 h hl hk) (rn_tr (tu_2 h hl hk v1 v3) (rn_tr (tu_3 h hl) (rn_tr (tu_4 h hl hk v2 v4) (tu_5 h hl))))) e) ?_⟩
    show _ = txt (cusT (ux i) (uy i) ++ catL (fun i => cusT (ux i) (uy i)) (i + 1) m)
    rw [txt_app, ut_txt]
theorem l_tc (h : jOK ad ro nk nc nn lo hi) (hl : hi ≤ l2) (hR : jR E ro ru nn hi H) (hv : ∀ c, c < nn → b 7 c = nI (hx c) ∧ b 8 c = nI (hy c) ∧ b 9 c = nI (hz c) ∧ hx c ≤ 9999 ∧ hy c ≤ 9999 ∧ hz c ≤ 9999) : ∀ m c, c + m = nn → rnT E (d + 10) m_S_text l2 q (jH ad ro b s nk nc nn ru H a t) (168, [some (.ref (ad 1)), some (.ref q), some (.int (nI c)), some (.int (nI nc)), some (.int (nI nc)), j5], []) (168, [some (.ref (ad 1)), some (.ref q), some (.int (nI nn)), some (.int (nI nc)), some (.int (nI nc)), j5], []) (txt (catL (fun c => cliT E c (hx c) (hy c) (hz c)) c m)) (40 * m)
  | 0, c, hi => by
    obtain rfl : c = nn := by omega
    exact rn_0 fun _ _ _ _ => rfl
  | m + 1, c, hi' => by
    obtain ⟨v1, v2, v3, v4, v5, v6⟩ := hv c (by omega)
    have hc : c < nn := by omega
    have e := l_tc h hl hR hv m (c + 1) (by omega)
    obtain ⟨p, l, g, r1, r2, r3, r4⟩ := hR c hc
    obtain ⟨p', l', g', r1', r2'⟩ := jR_J (ad := ad) (b := b) (s := s) (nk := nk) (nc := nc) (a := a) (t := t) hR hc
    have rj : ruH E (jH ad ro b s nk nc nn ru H a t) l g 4 (5 + 11 * c) 0 p := ruH_fr r2 (fun n h5 h6 => by
      show (if ro n = 0 then H.1 n else _) = H.1 n
      rw [if_pos (r4 n h5 h6)]) (Nat.le_refl _) (Nat.le_refl _)
    have hpc : xcl (jH ad ro b s nk nc nn ru H a t) p = 9 := by
      obtain ⟨-, -, rr, hh, -, -, u1, -⟩ := rj
      exact xc_of u1
    have hpl : p < l2 := by
      have := r2.2.1
      omega
    have hw : wSp E (d + 4 + 6) l2 q (jH ad ro b s nk nc nn ru H a t) p (flI true) (wrt E 4 (5 + 11 * c) 0 true) (wN 4) := r_write 3 d _ _ p true rj (by omega) (by omega)
    have big := rn_tr (rn_tr (tc_1 (d := d + 4) (q := q) (j5 := j5) h hl hc) (rn_tr (tc_2 h hl hc) (rn_tr (tc_3 h hl) (rn_tr (tc_4 h hl hc v1 v4) (rn_tr (tc_5 h hl) (rn_tr (tc_6 h hl hc v2 v5) (rn_tr (tc_7 h hl) (rn_tr (tc_8 h hl hc v3 v6) (rn_tr (tc_9 h hl) (rn_tr (tc_a h hl hc r1 hpl hpc hw) (tc_b h hl))))))))))) e
    refine rn_cast (rn_mono big (show _ ≤ 40 * (m + 1) by show 0 + (0 + (0 + (0 + (0 + (0 + (0 + (0 + (0 + (40 + 0))))))))) + 40 * m ≤ _; omega)) ?_
    show _ = txt (cliT E c (hx c) (hy c) (hz c) ++ catL (fun c => cliT E c (hx c) (hy c) (hz c)) (c + 1) m)
    rw [txt_app, ct_txt]
end STEXT2
