/-! ===== the law's reckoning writes its book: S_text ===== -/
section STEXT3
variable {E : xE} {d D : Nat} {Q : xR → Prop} {H X H0 : xH} {ad ro : Nat → Nat} {b a a' : Nat → Nat → Int32} {s t t' : Nat → Int32} {nk nc nn lo hi : Nat} {ru : Nat → Option Nat} {r k c i j m n p q co rw' wp cb sl u l2 : Nat} {rs re : Nat → Nat} {j1 j2 j3 j4 j5 : Option Value} {ym : xM} {kx ky kz ux uy hx hy hz : Nat → Nat}

/-- the book's numbers -/
def kNm (b : Nat → Nat → Int32) (s : Nat → Int32) (co rw' : Nat) (kx ky kz ux uy hx hy hz : Nat → Nat) (nk nc nn : Nat) : Prop := s 0 = nI co ∧ s 1 = nI rw' ∧ co ≤ 9999 ∧ rw' ≤ 9999 ∧ (∀ k, k < nk → b 2 k = nI (kx k) ∧ b 3 k = nI (ky k) ∧ b 4 k = nI (kz k) ∧ kx k ≤ 9999 ∧ ky k ≤ 9999 ∧ kz k ≤ 9999) ∧ (∀ k, k < nc → b 5 k = nI (ux k) ∧ b 6 k = nI (uy k) ∧ ux k ≤ 9999 ∧ uy k ≤ 9999) ∧ ∀ c, c < nn → b 7 c = nI (hx c) ∧ b 8 c = nI (hy c) ∧ b 9 c = nI (hz c) ∧ hx c ≤ 9999 ∧ hy c ≤ 9999 ∧ hz c ≤ 9999
theorem cat_len {f : Nat → List tok} {B : Nat} : ∀ m i, (∀ j, i ≤ j → j < i + m → (txt (f j)).length ≤ B) → (txt (catL f i m)).length ≤ m * B
  | 0, _, _ => by show (txt []).length ≤ _; simp [txt]
  | m + 1, i, h => by
    have h1 := h i (Nat.le_refl _) (by omega)
    have h2 := cat_len (f := f) (B := B) m (i + 1) fun j a b => h j (by omega) (by omega)
    show (txt (f i ++ catL f (i + 1) m)).length ≤ _
    rw [txt_app, List.length_append, Nat.succ_mul]
    omega
theorem f_S_text (h : jOK ad ro nk nc nn lo hi) (hl : hi ≤ H.2.1) (hR : jR E ro ru nn hi H) (hN : kNm b s co rw' kx ky kz ux uy hx hy hz nk nc nn) : ∃ X cb sl, (∀ Q, xcall E xprog (d + 11) 112 [.ref (ad 1)] (jH ad ro b s nk nc nn ru H a t) Q = Q (.inl (some (.ref H.2.1)), X)) ∧ sbAt H.2.1 cb sl X H.2.1 (txt (bookT E co rw' kx ky kz ux uy hx hy hz nk nc nn)) ∧ (∀ n, n < H.2.1 → X.1 n = (jH ad ro b s nk nc nn ru H a t).1 n) ∧ H.2.1 < X.2.1 ∧ cb ≤ H.2.1 + 15000 ∧ sl ≤ H.2.2 + 30000 ∧ (txt (bookT E co rw' kx ky kz ux uy hx hy hz nk nc nn)).length ≤ 50000 := by
  obtain ⟨n1, n2, n3, n4, n5, n6, n7⟩ := hN
  have hnk := h.1
  have hnc := h.2.1
  have hnn := h.2.2.1
  obtain ⟨c1, c2⟩ := txL_c (i := 20) (by decide)
  have hsb : (xnew (jH ad ro b s nk nc nn ru H a t) (.inr (11, xdef 11)) 4).1 H.2.1 = sb0 := if_pos rfl
  obtain ⟨X0, a1, a2, a3, a4⟩ := sb_initS (E := E) (d := d + 2) (i := 20) (L := txL 20) (H := xnew (jH ad ro b s nk nc nn ru H a t) (.inr (11, xdef 11)) 4) (p := H.2.1) (by decide) c1 c2 (by rw [txL_bk.1]; decide) hsb (Nat.lt_succ_self _)
  have fr0 : ∀ a', a' < H.2.1 → X0.1 a' = (jH ad ro b s nk nc nn ru H a t).1 a' := fun a' ha => (a3 a' ha).trans (by rw [xnew_g, if_neg (show ¬ a' = (jH ad ro b s nk nc nn ru H a t).2.1 by show ¬ a' = H.2.1; omega)])
  obtain ⟨j5, e1⟩ := l_tk (d := d + 4) (q := H.2.1) (l2 := H.2.1) (a := a) (t := t) (s := s) (ru := ru) (H := H) h hl n5 nk 0 none (by omega)
  obtain ⟨j6, e2⟩ := l_tu (d := d + 4) (q := H.2.1) (l2 := H.2.1) (a := a) (t := t) (s := s) (ru := ru) (H := H) h hl n6 nc 0 j5 (by omega)
  have e3 := l_tc (E := E) (d := d) (q := H.2.1) (l2 := H.2.1) (a := a) (t := t) (s := s) (j5 := j6) h hl hR n7 nn 0 (by omega)
  have big := rn_tr (tx_1 (d := d + 4) (E := E) (q := H.2.1) (l2 := H.2.1) (a := a) (b := b) (t := t) (ru := ru) (H := H) h hl n1 n3) (rn_tr (tx_2 h hl) (rn_tr (tx_3 h hl n2 n4) (rn_tr (tx_4 h hl) (rn_tr (tx_5 h hl) (rn_tr e1 (rn_tr (tk_8 h hl) (rn_tr e2 (rn_tr (tu_6 h hl) e3))))))))
  have hlen : (txL 20).length + (dcL co ++ (txL 21 ++ (dcL rw' ++ (txL 22 ++ ([] ++ (txt (catL (fun i => ketT (kx i) (ky i) (kz i)) 0 nk) ++ ([] ++ (txt (catL (fun i => cusT (ux i) (uy i)) 0 nc) ++ ([] ++ txt (catL (fun c => cliT E c (hx c) (hy c) (hz c)) 0 nn)))))))))).length ≤ 50000 := by
    have t20 := txL_len 20 (by decide) (by decide) (by decide)
    have t21 := txL_len 21 (by decide) (by decide) (by decide)
    have t22 := txL_len 22 (by decide) (by decide) (by decide)
    have t23 := txL_len 23 (by decide) (by decide) (by decide)
    have t24 := txL_len 24 (by decide) (by decide) (by decide)
    have t25 := txL_len 25 (by decide) (by decide) (by decide)
    have t28 := txL_len 28 (by decide) (by decide) (by decide)
    have t29 := txL_len 29 (by decide) (by decide) (by decide)
    have t30 := txL_len 30 (by decide) (by decide) (by decide)
    have t31 := txL_len 31 (by decide) (by decide) (by decide)
    have d4 : ∀ n, n ≤ 9999 → (dcL n).length ≤ 4 := fun n hn => (dc_ok hn).2.1
    have b1 := cat_len (f := fun i => ketT (kx i) (ky i) (kz i)) (B := 60) nk 0 fun j _ hj => by
      obtain ⟨-, -, -, k1, k2, k3⟩ := n5 j (by omega)
      have := d4 _ k1; have := d4 _ k2; have := d4 _ k3
      rw [kt_txt]; simp only [List.length_append]; omega
    have b2 := cat_len (f := fun i => cusT (ux i) (uy i)) (B := 60) nc 0 fun j _ hj => by
      obtain ⟨-, -, k1, k2⟩ := n6 j (by omega)
      have := d4 _ k1; have := d4 _ k2
      rw [ut_txt]; simp only [List.length_append]; omega
    have b3 := cat_len (f := fun c => cliT E c (hx c) (hy c) (hz c)) (B := 2000) nn 0 fun j _ hj => by
      obtain ⟨-, -, -, k1, k2, k3⟩ := n7 j (by omega)
      have := d4 _ k1; have := d4 _ k2; have := d4 _ k3
      have w := wrt_len (E := E) 4 (5 + 11 * j) 0 true
      have w4 : wN 4 = 40 := rfl
      rw [ct_txt]; simp only [List.length_append, List.length_cons, List.length_nil]; omega
    have := d4 _ n3; have := d4 _ n4
    simp only [List.length_append, List.length_nil]
    have m1 : nk * 60 ≤ 360 := by omega
    have m2 : nc * 60 ≤ 360 := by omega
    have m3 : nn * 2000 ≤ 12000 := by omega
    omega
  obtain ⟨X, cb, sl, f1, f2, f3, f4, f5, f6⟩ := big X0 (txL 20) _ _ fr0 a2 hlen
  have q1 : (xnew (jH ad ro b s nk nc nn ru H a t) (.inr (11, xdef 11)) 4).2.1 = H.2.1 + 1 := rfl
  have q2 : (xnew (jH ad ro b s nk nc nn ru H a t) (.inr (11, xdef 11)) 4).2.2 = H.2.2 + 4 := rfl
  rw [q1] at f5; rw [q2] at f6
  have e : txt (bookT E co rw' kx ky kz ux uy hx hy hz nk nc nn) = txL 20 ++ (dcL co ++ (txL 21 ++ (dcL rw' ++ (txL 22 ++ ([] ++ (txt (catL (fun i => ketT (kx i) (ky i) (kz i)) 0 nk) ++ ([] ++ (txt (catL (fun i => cusT (ux i) (uy i)) 0 nc) ++ ([] ++ txt (catL (fun c => cliT E c (hx c) (hy c) (hz c)) 0 nn)))))))))) := by
    unfold bookT
    simp only [txt_app, bt_txt, List.nil_append, List.append_assoc]
  refine ⟨X, cb, sl, fun Q => ?_, ?_, f3, f2.2.1, ?_, ?_, by rw [e, List.length_append]; exact hlen⟩
  · have s0 : xr E (d + 10) m_S_text Q (0, [some (.ref (ad 1)), none, none, none, none, none], [], (jH ad ro b s nk nc nn ru H a t)) = xr E (d + 10) m_S_text Q (9, [some (.ref (ad 1)), none, none, none, none, none], [.ref H.2.1], X0) := by
      simp only [s_S_text_0, s_S_text_3, s_S_text_4, s_S_text_6, not_false_eq_true, Nat.reduceLT, Nat.reduceAdd, true_and, and_true, if_true, if_false, ite_true, ite_false, xnb_0, xnb_1, xnb_b, xk_v, xk_n, j_21, a1]
    have hF4 := (jF_of (X := X) h hl f3).2.2.2.1
    have hF1 := (jF_of (X := X) h hl f3).1
    rw [e_S_text, s0]
    refine (f1 Q).trans ?_
    simp only [↓reduceIte, s_S_text_168, s_S_text_169, s_S_text_170, s_S_text_173, s_S_text_174, s_S_text_269, s_S_text_270, not_false_eq_true, Nat.reduceLT, Nat.reduceAdd, true_and, and_true, if_true, if_false, ite_true, ite_false, xnb_0, xnb_1, xnb_b, xk_v, xk_n, xf_of hF1, xll_10, xlg_10_0, xlg_10_1, xlg_10_2, xlg_10_3, xlg_10_4, xlg_10_5, xlg_10_6, xlg_10_7, xlg_10_8, xln_A hF4, Option.isSome_some, Option.getD_some, nge (Nat.le_refl nn) (show nn < 2147483648 by omega)]
  · rw [e]; exact f2
  · have : cb ≤ H.2.1 + 1 + 60 * (40 * nn) := by omega
    omega
  · have : sl ≤ H.2.2 + 4 + 120 * (40 * nn) := by omega
    omega
end STEXT3
