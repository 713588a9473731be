/-! ===== a call of both, and how it is put together ===== -/
section PACK
variable {E : xE} {d D n n' Ln Mn : Nat} {Q : xR → Prop} {X X1 H : xH} {Kb Ks Kt K l : Nat} {ep th k v : Int32} {La Ma : List Value} {T : Nat → Nat} {tp : Nat → Int32} {b : Nat → Nat → Int32} {nm : Nat → Int64} {s : Nat → Int32} {a a' : Nat → Nat → Int32} {t t' : Nat → Int32} {g : Nat → Nat → Int32} {q : Nat → Int32} {co ro nk nc nn cnt : Nat} {rs re : Nat → Nat} {nw kp wc sk ms : Nat → Int32} {sz ea h : Int32} {W : Int32 → Int64 → Prop}
/-- the law's wrapper at La tells k, the model at Ma tells v; all stands again; where nothing was thrown, what was written out fits -/
def stP (E : xE) (D Ln : Nat) (La : List Value) (Mn : Nat) (Ma : List Value) (n' : Nat) (W : Int32 → Int64 → Prop) (X : xH) : Prop :=
  ∃ (k v : Int32) (X1 X2 : xH), (∀ Q, xcall E xprog D Ln La X Q = Q (.inl (some (.int k)), X1)) ∧ (∀ Q, xcall E xprog D Mn Ma X1 Q = Q (.inl (some (.int v)), X2)) ∧ IVk n' k X2 ∧
    (k = 0 → ∃ f : Nat → Int64, X2.1 78 = xarJ 1 f ∧ W v (f 0)) ∧ (X2.2 = X.2 ∨ X2.2 = (X.2.1 + 1, X.2.2 + 6))
theorem IVk_le (h : IVk n k X) (hn : n ≤ n') : IVk n' k X := by
  obtain ⟨Kb, Ks, K, l, ep, T, tp, b, nm, s, a, t, g, q, co, ro, nk, nc, nn, cnt, rs, re, h1, h2, h3, h4, h5, h6⟩ := h
  exact ⟨Kb, Ks, K, l, ep, T, tp, b, nm, s, a, t, g, q, co, ro, nk, nc, nn, cnt, rs, re, h1, h2, h3, h4, h5, kSt_up h6 hn⟩
theorem st_ok (hD : IVd n X Kb Ks K l ep th T tp b nm s a t g q co ro nk nc nn cnt rs re) {o : Int64} (hC : ivC X1 Kb Ks l ep tp b nm s a' t') (e : ∀ m, 63 ≤ m → m < X.2.1 → X1.1 m = X.1 m) (e2 : X1.2 = X.2)
    (hL : ∀ f, X1.1 78 = xarJ 1 f → ∀ Q, xcall E xprog D Ln La X Q = Q (.inl (some (.int 0)), xset X1 78 (xarJ 1 (vp_updL f 0 o))))
    (hM : ∀ (H : xH) (kp wc sk : Nat → Int32), kM H K g q → mK K → ∃ kp' wc' sk' : Nat → Int32, ∀ Q, xcall E xprog D Mn Ma (mH H K th (nI l) ep tp (nwO nn a t) kp wc sk) Q = Q (.inl (some (.int v)), mH H K 0 (nI l) ep tp (nwO nn a' t') kp' wc' sk'))
    (hS : kSt a' t' co ro nk nn n') (hW : W v o) : stP E D Ln La Mn Ma n' W X := by
  obtain ⟨f, hf⟩ := hD.2.1.2.2.2.2.2
  have h78 := hD.2.1.2.2.2.2.1
  have hf1 : X1.1 78 = xarJ 1 f := (e 78 (by omega) h78).trans hf
  have e2' : X1.2.1 = X.2.1 := congrArg Prod.fst e2
  obtain ⟨⟨kp, wc, sk, m1⟩, m2, m3, m4⟩ := ivD_go (X1 := xset X1 78 (xarJ 1 (vp_updL f 0 o))) (a' := a') (t' := t') hD (ivC_78 hC) (fun m h1 h2 h3 => (xset_o m h3).trans (e m h1 h2)) (xset_s 78 rfl) (Nat.le_of_eq e2'.symm)
  obtain ⟨kp', wc', sk', m5⟩ := hM _ kp wc sk m2 m3
  refine ⟨0, v, _, _, hL f hf1, fun Q => ?_, ⟨Kb, Ks, K, l, ep, T, tp, b, nm, s, a', t', g, q, co, ro, nk, nc, nn, cnt, rs, re, m4 n' 0 kp' wc' sk' hS⟩, fun _ => ⟨_, (mH_o 78 (by omega)).trans (xset_s 78 rfl), ?_⟩, Or.inl e2⟩
  · exact (congrArg (fun Z => xcall E xprog D Mn Ma Z Q) m1).trans (m5 Q)
  · rw [updL_s]
    exact hW
theorem st_thr (hD : IVd n X Kb Ks K l ep th T tp b nm s a t g q co ro nk nc nn cnt rs re) (hC : ivC X1 Kb Ks l ep tp b nm s a t) (e : ∀ m, 63 ≤ m → m < X.2.1 → X1.1 m = X.1 m) (e2 : X1.2 = (X.2.1 + 1, X.2.2 + 6)) (hk : ¬ k = 0)
    (hL : ∀ Q, xcall E xprog D Ln La X Q = Q (.inl (some (.int k)), X1))
    (hM : ∀ (H : xH) (kp wc sk : Nat → Int32), kM H K g q → mK K → ∃ kp' wc' sk' : Nat → Int32, ∀ Q, xcall E xprog D Mn Ma (mH H K th (nI l) ep tp (nwO nn a t) kp wc sk) Q = Q (.inl (some (.int 0)), mH H K k (nI l) ep tp (nwO nn a t) kp' wc' sk'))
    (hn : n ≤ n') : stP E D Ln La Mn Ma n' W X := by
  obtain ⟨f, hf⟩ := hD.2.1.2.2.2.2.2
  have h78 := hD.2.1.2.2.2.2.1
  have e2' : X1.2.1 = X.2.1 + 1 := congrArg Prod.fst e2
  obtain ⟨⟨kp, wc, sk, m1⟩, m2, m3, m4⟩ := ivD_go (X1 := X1) (a' := a) (t' := t) (f := f) hD hC (fun m h1 h2 h3 => e m h1 h2) ((e 78 (by omega) h78).trans hf) (by omega)
  obtain ⟨kp', wc', sk', m5⟩ := hM _ kp wc sk m2 m3
  refine ⟨k, 0, _, _, hL, fun Q => ?_, ⟨Kb, Ks, K, l, ep, T, tp, b, nm, s, a, t, g, q, co, ro, nk, nc, nn, cnt, rs, re, m4 n' k kp' wc' sk' (kSt_up hD.2.2.2.2.2 hn)⟩, fun h => absurd h hk, Or.inr e2⟩
  exact (congrArg (fun Z => xcall E xprog D Mn Ma Z Q) m1).trans (m5 Q)
theorem st_thr0 {c : xC} (hD : IVd n X Kb Ks K l ep th T tp b nm s a t g q co ro nk nc nn cnt rs re) (hk : ¬ k = 0)
    (hL : ∀ Q, xcall E xprog D Ln La X Q = Q (.inl (some (.int k)), xnew X c 6))
    (hM : ∀ (H : xH) (kp wc sk : Nat → Int32), kM H K g q → mK K → ∃ kp' wc' sk' : Nat → Int32, ∀ Q, xcall E xprog D Mn Ma (mH H K th (nI l) ep tp (nwO nn a t) kp wc sk) Q = Q (.inl (some (.int 0)), mH H K k (nI l) ep tp (nwO nn a t) kp' wc' sk'))
    (hn : n ≤ n') : stP E D Ln La Mn Ma n' W X :=
  st_thr hD (ivC_nw hD.1 (by have := hD.2.1.2.2.2.2.1; omega)) (fun m h1 h2 => by rw [xnew_g, if_neg (by omega)]) rfl hk hL hM hn
def wI (v : Int32) (o : Int64) : Prop := o = v.toInt64
def wB (v : Int32) (o : Int64) : Prop := (v = 1 ∧ o = 1) ∨ (v = 0 ∧ o = 0)
theorem x0_of (hc : X.1 0 = tgC Kb Ks ep) : xcl X 0 = 8 := by
  unfold tgC at hc
  exact xc_of hc
theorem cl_no {i : Nat} (hi : i < nn) (h6 : nn ≤ 6) : ¬ (nI i < 0 ∨ ¬ nI i < nI nn) := by
  rw [nI_n0 i (by omega), n_lt (by omega) (by omega)]
  exact fun r => r.elim id (fun z => z hi)
theorem cl_ex (h6 : nn ≤ 6) {c : Int32} (h : ¬ (c < 0 ∨ ¬ c < nI nn)) : ∃ i, i < nn ∧ c = nI i :=
  rng_ex h6 (fun z => h (Or.inl z)) (Decidable.byContradiction fun z => h (Or.inr z))
/-- what the model says of a number: whether it is a clipper's -/
theorem z_clip (hM : kM H K g q) (hK : mK K) (hC : kRc b s g q nn rs re) {c : Int32} (h : ¬ (c < 0 ∨ ¬ c < nI nn)) : ∀ Q, xcall E xprog (d + 2) 186 [.ref 63, .int c] (mH H K th sz ea tp nw kp wc sk) Q = Q (.inl (some (.int 1)), (mH H K th sz ea tp nw kp wc sk)) := fun Q => by
  rw [f_M_isClipper hM hK, xb_t ((cli_in hC.2.1 hC.1).mpr h)]
theorem z_clip_o (hM : kM H K g q) (hK : mK K) (hC : kRc b s g q nn rs re) {c : Int32} (h : c < 0 ∨ ¬ c < nI nn) : ∀ Q, xcall E xprog (d + 2) 186 [.ref 63, .int c] (mH H K th sz ea tp nw kp wc sk) Q = Q (.inl (some (.int 0)), (mH H K th sz ea tp nw kp wc sk)) := fun Q => by
  rw [f_M_isClipper hM hK, xb_f (fun z => (cli_in hC.2.1 hC.1).mp z h)]
theorem ne_1 : ((1 : Int32) = 0) = False := eq_false (by decide)
end PACK
