/-! ===== the bay's text is said ===== -/
section TEACH
variable {E : xE} {d D : Nat} {Q : xR → Prop} {H X Y Z : xH} {p q v n m i j k r l c co rw' nk nc nn : Nat} {kx ky kz ux uy hx hy hz : Nat → Nat} {f tp tp' : Nat → Int32} {T : Nat → Nat} {x : Int32} {ep : Int32}
/-- the class when a bay has been taught -/
def tauF (E : xE) (co rw' : Nat) (kx ky kz ux uy hx hy hz : Nat → Nat) (nk nc nn : Nat) (b : Nat → Nat → Int32) (s : Nat → Int32) (a : Nat → Nat → Int32) : Prop :=
  s 0 = nI co ∧ s 1 = nI rw' ∧ kW b s nk nc nn (rsm E nn) (rsm E) (fun c => rsm E (c + 1)) ∧ kRl E b nn (rsm E) (fun c => rsm E (c + 1)) ∧
  (∀ i, i < nk → b 2 i = nI (kx i) ∧ b 3 i = nI (ky i) ∧ b 4 i = nI (kz i)) ∧ (∀ i, i < nc → b 5 i = nI (ux i) ∧ b 6 i = nI (uy i)) ∧ (∀ c, c < nn → b 7 c = nI (hx c) ∧ b 8 c = nI (hy c) ∧ b 9 c = nI (hz c)) ∧
  (∀ i, i < nk → a 0 i = 0 ∧ a 2 i = 0) ∧ ∀ c, c < nn → a 3 c = b 7 c ∧ a 4 c = b 8 c ∧ a 5 c = 0 ∧ a 6 c = 0 ∧ a 7 c = 0 ∧ a 8 c = 0
theorem tau_of {k : bkS} {a : Nat → Nat → Int32} (h6 : nk ≤ 6 ∧ nc ≤ 6 ∧ nn ≤ 6) (hr : rsm E nn ≤ 400) (h : bkI E co rw' kx ky kz ux uy hx hy hz nk nc nn k) : tauF E co rw' kx ky kz ux uy hx hy hz nk nc nn k.1 (sxK k) (bg2 (bg1 a 0 6) k.1 0 6) := by
  obtain ⟨h1, h2, h3, h4, h5, h6'⟩ := h
  have g1 : k.2.2.1.1 = nI co := by rw [h1]
  have g2 : k.2.2.1.2 = nI rw' := by rw [h1]
  have g3 : k.2.2.2.1 = nk := by rw [h2]
  have g4 : k.2.2.2.2.1 = nc := by rw [h2]
  have g5 : k.2.2.2.2.2.1 = nn := by rw [h2]
  have g6 : k.2.2.2.2.2.2 = rsm E nn := by rw [h2]
  have hf : ∀ (g f : Nat → Int32) i, i < 6 → fil g 0 6 f i = g i := fun g f i hi => (fil_in 6 0 f i).1 ⟨by omega, by omega⟩
  refine ⟨g1, g2, ⟨congrArg nI g3, h6.1, congrArg nI g4, h6.2.1, congrArg nI g5, h6.2.2, congrArg nI g6, hr, fun c hc => ?_⟩, fun c hc => ⟨rfl, fun j hj => h6' c hc j hj⟩, h3, h4, fun c hc => ⟨(h5 c hc).1, (h5 c hc).2.1, (h5 c hc).2.2.1⟩, fun i hi => ⟨?_, ?_⟩, fun c hc => ⟨?_, ?_, ?_, ?_, ?_, ?_⟩⟩
  · exact ⟨rsm_mono (by omega), rsm_mono (by omega), (h5 c hc).2.2.2.1, (h5 c hc).2.2.2.2.1⟩
  · exact hf (fun _ => 0) _ i (by omega)
  · exact hf (fun _ => 0) _ i (by omega)
  · exact hf (k.1 7) _ c (by omega)
  · exact hf (k.1 8) _ c (by omega)
  · exact hf (fun _ => 0) _ c (by omega)
  · exact hf (fun _ => 0) _ c (by omega)
  · exact hf (fun _ => 0) _ c (by omega)
  · exact hf (fun _ => 0) _ c (by omega)
theorem f_L_say (hO : bayO E co rw' kx ky kz ux uy hx hy hz nk nc nn) (hI : ivC X 10 25 0 (-1) (fun _ => 0) (fun _ _ => 0) (fun _ => 0) (six 6 6 0 0 0 0) (fun _ _ => 0) (tri 0 0 0)) (ha : X.1 p = .inr (12, [.ref q, .int 0, .int 0, .int 0])) (hq : X.1 q = xarB (txt (bookT E co rw' kx ky kz ux uy hx hy hz nk nc nn)).length f) (hf : byL f (txt (bookT E co rw' kx ky kz ux uy hx hy hz nk nc nn))) (hl : (txt (bookT E co rw' kx ky kz ux uy hx hy hz nk nc nn)).length ≤ 1580) (p1 : 63 ≤ p) (p2 : p < X.2.1) (q1 : 63 ≤ q) (q2 : q < X.2.1) : ∃ Y v, (∀ Q, xcall E xprog (d + 155) 169 [.ref 0, .ref p] X Q = Q (.inl (some (.int v)), Y)) ∧ (∀ n, 63 ≤ n → n < X.2.1 → Y.1 n = X.1 n) ∧ X.2.1 ≤ Y.2.1 ∧ Y.2.1 ≤ X.2.1 + 79 ∧ Y.2.2 ≤ X.2.2 + 395 ∧
    ((v = 0 ∧ (bookT E co rw' kx ky kz ux uy hx hy hz nk nc nn).length ≤ 400 ∧ ∃ ep b nm s a, cls Y 25 10 ep b nm s a (tri 0 0 0) ∧ tauF E co rw' kx ky kz ux uy hx hy hz nk nc nn b s a) ∨ (¬ v = 0 ∧ 400 < (bookT E co rw' kx ky kz ux uy hx hy hz nk nc nn).length ∧ ∃ ep nm, cls Y 10 25 ep (fun _ _ => 0) nm (six 6 6 0 0 0 0) (fun _ _ => 0) (tri 0 0 0))) := by
  obtain ⟨lo1, lo2, lo3⟩ := lnO_book hO
  have h128 := txt_128 _ lo1
  have hpos := book_pos (E := E) (co := co) (rw' := rw') (kx := kx) (ky := ky) (kz := kz) (ux := ux) (uy := uy) (hx := hx) (hy := hy) (hz := hz) (nk := nk) (nc := nc) (nn := nn)
  have hrb := rsm_book (E := E) (co := co) (rw := rw') (kx := kx) (ky := ky) (kz := kz) (ux := ux) (uy := uy) (hx := hx) (hy := hy) (hz := hz) (nk := nk) (nc := nc) (nn := nn)
  have hbk := fun (kd nu st : Nat → Int32) (vl : Nat → Int64) (w : Int32 × Int32) (b : Nat → Nat → Int32) (nm : Nat → Int64) (hr : rsm E nn ≤ 400) (hs : sq kd nu vl 0 (bookT E co rw' kx ky kz ux uy hx hy hz nk nc nn)) (h0 : kd (bookT E co rw' kx ky kz ux uy hx hy hz nk nc nn).length = 0) => rd_book (st := st) (b := b) (nm := nm) (w := w) (p := -1) hO hr hs h0
  generalize hBT : bookT E co rw' kx ky kz ux uy hx hy hz nk nc nn = BT at *
  obtain ⟨c0, -, ⟨er, ep', cc, cr, cnt, nx, kd, st, vl, wd, hR, hwd⟩, hB, ⟨b', nm', s', hB2⟩, hY, ⟨ms, sk, h, hT⟩, -⟩ := id hI
  obtain ⟨t1, t2, t3, t4, t5, t6, t7, t8, t9⟩ := id hR
  obtain ⟨Y, tp', l', j4', j5', y1, y2, y3, y4, y5, y6, y7, y8, y9, yA⟩ := sy_rows (E := E) (d := d + 150) (p := p) (q := q) hf hl h128 79 0 X (fun _ => 0) none none (by omega) (by omega) ha hq p2 q2 (by omega) (by omega) c0 t1 t2 (by
    intro i
    unfold chF
    rw [if_neg (by omega)]
    exact ⟨by omega, rfl⟩)
  have yo : ∀ n, 3 ≤ n → n < X.2.1 → Y.1 n = X.1 n := fun n h1 h2 => y7 n h2 (by omega) (by omega)
  have x63 : 63 < X.2.1 := by omega
  have yc : Y.1 0 = tgC 10 25 (-1) := (y7 0 (by omega) (by omega) (by omega)).trans c0
  have etr := fun (Q : xR → Prop) => c_T_trim_i (E := E) (d := d + 151) (Q := Q) (j := (txt BT).length) yc y4 (fun z => z.elim (fun z => of_eq_false (nI_n0 _ (by omega)) z) (fun z => by rw [nge (show (txt BT).length ≤ l' by omega) (by omega)] at z; exact z))
  obtain ⟨W, hW⟩ : ∃ W, W = xset Y 1 (tpC (txt BT).length) := ⟨_, rfl⟩
  rw [← hW] at etr
  have w1 : W.1 1 = .inr (6, [.ref 2, .int (nI (txt BT).length)]) := by rw [hW]; exact xset_s 1 rfl
  have wo : ∀ n, ¬ n = 1 → W.1 n = Y.1 n := fun n hn => by rw [hW]; exact xset_o n hn
  have w2 : W.2 = Y.2 := by rw [hW]; rfl
  clear hW
  have wX : ∀ n, 3 ≤ n → n < X.2.1 → W.1 n = X.1 n := fun n h1 h2 => (wo n (by omega)).trans (yo n h1 h2)
  have wR : rT W tp' (nI (txt BT).length) er ep' cc cr cnt nx kd st vl wd := ⟨w1, (wo 2 (by omega)).trans y5, (wX 3 (by omega) (by omega)).trans t3, (wX 4 (by omega) (by omega)).trans t4, (wX 5 (by omega) (by omega)).trans t5, (wX 6 (by omega) (by omega)).trans t6, (wX 7 (by omega) (by omega)).trans t7, (wX 8 (by omega) (by omega)).trans t8, (wX 9 (by omega) (by omega)).trans t9⟩
  have wc : W.1 0 = tgC 10 25 (-1) := (wo 0 (by omega)).trans yc
  have wB := kB_eq hB2 (H' := W) fun n h1 h2 => wX n (by omega) (by omega)
  have wB0 := kB_eq hB (H' := W) fun n h1 h2 => wX n (by omega) (by omega)
  have wY := kY_eq hY (H' := W) fun n h1 h2 => wX n (by omega) (by omega)
  have wT := kT_eq hT (H' := W) fun n h1 h2 => wX n (by omega) (by omega)
  have hm : mat (chF (txt BT) l') 0 (txt BT) := by
    intro j hj
    unfold chF chT
    rw [Nat.zero_add, if_pos (by omega), if_pos hj]
  obtain ⟨sq1, sq2, sq3⟩ := sq_of (T := chF (txt BT) l') (l := (txt BT).length) (kd0 := kd) (st0 := st) (vl0 := vl) hwd lo1 lo2 hm rfl
  obtain ⟨V, er2, ep2, cc2, cr2, cnt2, nx2, kd2, st2, vl2, v1, v2, v3, v4, v5, v6, v7, v8, v9⟩ := f_T_teach (E := E) (d := d) wc wR wB (Or.inl ⟨rfl, rfl⟩) wY wT y6 (by omega) sq3
  obtain ⟨l1, l2, l3, l4⟩ := lst_ok (T := chF (txt BT) l') (l := (txt BT).length) (wd := wd)
  have fin : ∀ err : Int32, (∀ Q, xcall E xprog (d + 154) 70 [.ref 0] W Q = Q (.inl (some (.int err)), V)) → ∀ Q, xcall E xprog (d + 155) 169 [.ref 0, .ref p] X Q = Q (.inl (some (.int err)), V) := by
    intro err he Q
    have ln := fun (Q : xR → Prop) => f_JS_lengthR (E := E) (d := d + 152) (Q := Q) ha hq
    rw [e_L_say]
    simp only [↓reduceIte, s_L_say_0, s_L_say_1, s_L_say_4, s_L_say_5, s_L_say_6, not_false_eq_true, Nat.reduceLT, Nat.reduceAdd, true_and, and_true, if_true, if_false, ite_true, ite_false, xnb_0, xnb_1, xnb_b, xk_v, xk_n, xc_of ha, ln]
    refine (y1 Q).trans ?_
    simp only [↓reduceIte, s_L_say_102, s_L_say_103, s_L_say_106, s_L_say_107, s_L_say_108, s_L_say_111, s_L_say_112, s_L_say_113, s_L_say_116, not_false_eq_true, Nat.reduceLT, Nat.reduceAdd, true_and, and_true, if_true, if_false, ite_true, ite_false, xnb_0, xnb_1, xnb_b, xk_v, xk_n, show ((0 : Int32) < nI (txt BT).length) = True from nlt (i := 0) hpos (by omega), xc_of yc, etr, xc_of wc, he]
  have fr : ∀ n, 63 ≤ n → n < X.2.1 → V.1 n = X.1 n := fun n h1 h2 => (v3 n (by omega)).trans (wX n (by omega) h2)
  have s21 : V.2.1 = Y.2.1 := by rw [v2, w2]
  have s22 : V.2.2 = Y.2.2 := by rw [v2, w2]
  by_cases e4 : BT.length ≤ 400
  · obtain ⟨q1', q2', q3'⟩ := sq1 e4
    obtain ⟨r1, r2⟩ := hbk _ _ (stA (chF (txt BT) l') (txt BT).length wd st) _ (cc, cr) b' nm' (by omega) q3' (by rw [kdA_is (by omega)]; exact q2')
    generalize hrd : (rdP (kdA (chF (txt BT) l') (txt BT).length wd kd) (fun i => (vlA (chF (txt BT) l') (txt BT).length wd vl i).toInt32) (stA (chF (txt BT) l') (txt BT).length wd st) (vlA (chF (txt BT) l') (txt BT).length wd vl) 401 0 0 (0, -1) (cc, cr) ((b', nm', (6, 6), 0, 0, 0, 0) : bkS)) = rd at v1 v6 v8 v9 r1 r2
    have e0 : rd.2.1.1 = 0 := by rw [r1]
    obtain ⟨k1, k2⟩ := v9 e0
    refine ⟨V, rd.2.1.1, fin _ v1, fr, by omega, by omega, by omega, Or.inl ⟨e0, e4, _, _, _, _, _, ⟨k1, by omega, v6, k2, ms, sk, h, v5⟩, tau_of ⟨hO.2.2.1, hO.2.2.2.1, hO.2.2.2.2.1⟩ (by omega) r2⟩⟩
  · obtain ⟨q1', q2'⟩ := sq2 (by omega)
    have ov := rd_over (EE := 400) (kd := kdA (chF (txt BT) l') (txt BT).length wd kd) (nu := fun i => (vlA (chF (txt BT) l') (txt BT).length wd vl i).toInt32) (st := stA (chF (txt BT) l') (txt BT).length wd st) (vl := vlA (chF (txt BT) l') (txt BT).length wd vl) (by rw [kdA_is (by omega)]; exact q2') (fun j hj => by rw [kdA_is (by omega)]; exact (l4 j (by omega)).1) 401 0 0 (0, -1) (cc, cr) ((b', nm', (6, 6), 0, 0, 0, 0) : bkS) (by omega) (by omega) ⟨Nat.zero_le 6, Nat.zero_le 6, Nat.zero_le 6, Nat.zero_le 400⟩
    generalize hrd : (rdP (kdA (chF (txt BT) l') (txt BT).length wd kd) (fun i => (vlA (chF (txt BT) l') (txt BT).length wd vl i).toInt32) (stA (chF (txt BT) l') (txt BT).length wd st) (vlA (chF (txt BT) l') (txt BT).length wd vl) 401 0 0 (0, -1) (cc, cr) ((b', nm', (6, 6), 0, 0, 0, 0) : bkS)) = rd at v1 v6 v8 v9 ov
    obtain ⟨k1, k2⟩ := v8 ov
    exact ⟨V, rd.2.1.1, fin _ v1, fr, by omega, by omega, by omega, Or.inr ⟨ov, by omega, _, _, k1, by omega, kB_eq wB0 fun n h1 h2 => v7 n h1 h2, k2, ms, sk, h, v5⟩⟩
end TEACH
