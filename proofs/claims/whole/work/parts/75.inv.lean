/-! ===== how the class and the model stand beside each other, from call to call ===== -/
section INV
variable {E : xE} {d : Nat} {Q : xR → Prop} {X X' : xH} {Kb Ks K l n m : Nat} {ep th ea : Int32} {T : Nat → Nat} {tp nw kp wc sk : Nat → Int32} {b : Nat → Nat → Int32} {nm : Nat → Int64} {s : Nat → Int32} {a : Nat → Nat → Int32} {t : Nat → Int32} {g : Nat → Nat → Int32} {q : Nat → Int32} {co ro nk nc nn cnt : Nat} {rs re : Nat → Nat}
/-- the class's part: the regatta at 0 -/
def ivC (X : xH) (Kb Ks l : Nat) (ep : Int32) (tp : Nat → Int32) (b : Nat → Nat → Int32) (nm : Nat → Int64) (s : Nat → Int32) (a : Nat → Nat → Int32) (t : Nat → Int32) : Prop :=
  X.1 0 = tgC Kb Ks ep ∧ ((Kb = 10 ∧ Ks = 25) ∨ (Kb = 25 ∧ Ks = 10)) ∧
  (∃ (er ep' cc cr cnt nx : Int32) (kd st : Nat → Int32) (vl wd : Nat → Int64), rT X tp (nI l) er ep' cc cr cnt nx kd st vl wd ∧ ∀ i, i < 26 → wd i = W32 i) ∧
  kB X Kb b nm s ∧ (∃ (b' : Nat → Nat → Int32) (nm' : Nat → Int64) (s' : Nat → Int32), kB X Ks b' nm' s') ∧ kY X 43 Kb a t ∧
  (∃ (ms sk : Nat → Int32) (h : Int32), kT X ms sk h) ∧ (∃ (Kt : Nat) (a' : Nat → Nat → Int32) (t' : Nat → Int32), kY X 53 Kt a' t')
/-- the model's part: the model at 63, its book at K -/
def ivM (X : xH) (K l : Nat) (th ea : Int32) (tp nw : Nat → Int32) (g : Nat → Nat → Int32) (q : Nat → Int32) : Prop :=
  (∃ kp wc sk : Nat → Int32, X = mH X K th (nI l) ea tp nw kp wc sk) ∧ kM X K g q ∧ mK K ∧ K + 8 < X.2.1 ∧ 78 < X.2.1 ∧ ∃ f : Nat → Int64, X.1 78 = xarJ 1 f
/-- what holds between the two -/
def ivR (n l : Nat) (T : Nat → Nat) (tp : Nat → Int32) (b : Nat → Nat → Int32) (s : Nat → Int32) (a : Nat → Nat → Int32) (t : Nat → Int32) (g : Nat → Nat → Int32) (q : Nat → Int32) (co ro nk nc nn cnt : Nat) (rs re : Nat → Nat) : Prop :=
  byt T tp ∧ l ≤ 1600 ∧ kTwo b s g q co ro nk nc nn cnt rs re ∧ kSt a t co ro nk nn n
def IVd (n : Nat) (X : xH) (Kb Ks K l : Nat) (ep th : Int32) (T : Nat → Nat) (tp : Nat → Int32) (b : Nat → Nat → Int32) (nm : Nat → Int64) (s : Nat → Int32) (a : Nat → Nat → Int32) (t : Nat → Int32) (g : Nat → Nat → Int32) (q : Nat → Int32) (co ro nk nc nn cnt : Nat) (rs re : Nat → Nat) : Prop :=
  ivC X Kb Ks l ep tp b nm s a t ∧ ivM X K l th ep tp (nwO nn a t) g q ∧ ivR n l T tp b s a t g q co ro nk nc nn cnt rs re
def IV (n : Nat) (X : xH) : Prop := ∃ (Kb Ks K l : Nat) (ep th : Int32) (T : Nat → Nat) (tp : Nat → Int32) (b : Nat → Nat → Int32) (nm : Nat → Int64) (s : Nat → Int32) (a : Nat → Nat → Int32) (t : Nat → Int32) (g : Nat → Nat → Int32) (q : Nat → Int32) (co ro nk nc nn cnt : Nat) (rs re : Nat → Nat), IVd n X Kb Ks K l ep th T tp b nm s a t g q co ro nk nc nn cnt rs re
theorem mH_of (h : X = mH X K th (nI l) ea tp nw kp wc sk) (e : ∀ n, 63 ≤ n → n ≤ 77 → X'.1 n = X.1 n) : X' = mH X' K th (nI l) ea tp nw kp wc sk := by
  refine Prod.ext (funext fun n => ?_) rfl
  by_cases p : 63 ≤ n ∧ n ≤ 77
  · have h1 : X.1 n = (mH X K th (nI l) ea tp nw kp wc sk).1 n := by rw [← h]
    rw [e n p.1 p.2, h1]
    unfold mH
    dsimp only
    rw [e n p.1 p.2]
  · rw [mH_o n (by omega)]
theorem kM_eq (hM : kM X K g q) (e : ∀ n, K ≤ n → n ≤ K + 8 → X'.1 n = X.1 n) : kM X' K g q := by
  unfold kM
  rw [e K (by omega) (by omega), e (K + 1) (by omega) (by omega), e (K + 2) (by omega) (by omega), e (K + 3) (by omega) (by omega), e (K + 4) (by omega) (by omega), e (K + 5) (by omega) (by omega), e (K + 6) (by omega) (by omega), e (K + 7) (by omega) (by omega), e (K + 8) (by omega) (by omega)]
  exact hM
theorem ivC_eq (h : ivC X Kb Ks l ep tp b nm s a t) (e : ∀ n, n ≤ 62 → X'.1 n = X.1 n) : ivC X' Kb Ks l ep tp b nm s a t := by
  obtain ⟨h1, h2, ⟨er, ep', cc, cr, cnt, nx, kd, st, vl, wd, h3, h3'⟩, h4, ⟨b', nm', s', h5⟩, h6, ⟨ms, sk, hh, h7⟩, ⟨Kt, a', t', h8⟩⟩ := h
  refine ⟨?_, h2, ⟨er, ep', cc, cr, cnt, nx, kd, st, vl, wd, rT_eq h3 (fun n _ p => e n (by omega)), h3'⟩, kB_eq h4 (fun n _ p => e n (by omega)), ⟨b', nm', s', kB_eq h5 (fun n _ p => e n (by omega))⟩, kY_eq h6 (fun n _ p => e n (by omega)), ⟨ms, sk, hh, kT_eq h7 (fun n _ p => e n (by omega))⟩, ⟨Kt, a', t', kY_eq h8 (fun n _ p => e n (by omega))⟩⟩
  rw [e 0 (by omega)]
  exact h1
theorem ivM_eq (h : ivM X K l th ea tp nw g q) (e : ∀ n, 63 ≤ n → n < X.2.1 → X'.1 n = X.1 n) (e2 : X.2.1 ≤ X'.2.1) : ivM X' K l th ea tp nw g q := by
  obtain ⟨⟨kp, wc, sk, h1⟩, h2, h3, h4, h5, f, h6⟩ := h
  refine ⟨⟨kp, wc, sk, mH_of h1 (fun n p1 p2 => e n p1 (by omega))⟩, kM_eq h2 (fun n p1 p2 => e n (by rcases h3 with z | z <;> omega) (by omega)), h3, by omega, by omega, f, ?_⟩
  rw [e 78 (by omega) (by omega)]
  exact h6
theorem kSt_up {n' : Nat} (h : kSt a t co ro nk nn n) (hn : n ≤ n') : kSt a t co ro nk nn n' := by
  obtain ⟨h1, h2, h3⟩ := h
  refine ⟨h1, fun c hc => ?_, h3⟩
  obtain ⟨x, y, l, p, q1, q2, q3, q4, q5⟩ := h2 c hc
  exact ⟨x, y, l, p, q1, q2, q3, Nat.le_trans q4 (Nat.mul_le_mul_left 30 hn), q5⟩
theorem IV_le {n' : Nat} (h : IV n X) (hn : n ≤ n') : IV n' X := by
  obtain ⟨Kb, Ks, K, l, ep, th, T, tp, b, nm, s, a, t, g, q, co, ro, nk, nc, nn, cnt, rs, re, h1, h2, h3, h4, h5, h6⟩ := h
  exact ⟨Kb, Ks, K, l, ep, th, T, tp, b, nm, s, a, t, g, q, co, ro, nk, nc, nn, cnt, rs, re, h1, h2, h3, h4, h5, kSt_up h6 hn⟩
theorem kSt_bg (h : kTwo b s g q co ro nk nc nn cnt rs re) : kSt (bg2 (bg1 a 0 6) b 0 6) (tri 0 0 0) co ro nk nn 0 := by
  have h6 : nk ≤ 6 := h.2.2.1.2.1
  have h7 : nn ≤ 6 := h.2.1.2.1
  have hg : ∀ (v f : Nat → Int32) c, c < 6 → fil v 0 6 f c = v c := fun v f c hc => by rw [fil_g, if_pos ⟨by omega, by omega⟩]
  refine ⟨fun k hk => ⟨0, by omega, hg (fun _ => 0) (a 0) k (by omega)⟩, fun c hc => ?_, 0, 0, by omega, by omega, rfl, rfl⟩
  obtain ⟨x, y, p1, p2, p3, p4⟩ := h.2.2.2.2.2.2.2.1 c hc
  exact ⟨x, y, 0, 0, p1, p2, by omega, by omega, (hg (b 7) _ c (by omega)).trans p3, (hg (b 8) _ c (by omega)).trans p4, hg (fun _ => 0) _ c (by omega), hg (fun _ => 0) _ c (by omega)⟩
theorem nwO_o (h6 : nn ≤ 6) (i : Nat) (hi : 51 ≤ i) : nwO nn a t i = 0 := by
  unfold nwO
  rw [if_neg (by omega), if_neg (by omega), if_neg (by omega), if_neg (by omega), if_neg (by omega)]
end INV
