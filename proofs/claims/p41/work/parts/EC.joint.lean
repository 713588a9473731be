/-! ===== the class and the law's reckoning, together ===== -/
section JOINT
variable {E : xE} {d D : Nat} {Q : xR → Prop} {H H' X Z : xH} {ad ro : Nat → Nat} {b a a' a2 : Nat → Nat → Int32} {s t t' t2 ms sk : Nat → Int32} {nk nc nn lo hi co rw' n cnt Kb Ks c i j : Nat} {ru : Nat → Option Nat} {nm : Nat → Int64} {rs re : Nat → Nat} {ep h : Int32} {x y v : Int32}
/-- the class: the book b s, the bay a t -/
def cls (H : xH) (Kb Ks : Nat) (ep : Int32) (b : Nat → Nat → Int32) (nm : Nat → Int64) (s : Nat → Int32) (a : Nat → Nat → Int32) (t : Nat → Int32) : Prop :=
  H.1 0 = tgC Kb Ks ep ∧ Kb < 26 ∧ kB H Kb b nm s ∧ kY H 43 Kb a t ∧ ∃ (ms sk : Nat → Int32) (h : Int32), kT H ms sk h
theorem cls_eq (h : cls H Kb Ks ep b nm s a t) (e : ∀ n, n < 63 → H'.1 n = H.1 n) : cls H' Kb Ks ep b nm s a t := by
  obtain ⟨h1, h2, h3, h4, ms, sk, hh, h5⟩ := h
  exact ⟨(e 0 (by omega)).trans h1, h2, kB_eq h3 (fun n _ h => e n (by omega)), kY_eq h4 (fun n _ h => e n (by omega)), ms, sk, hh, kT_eq h5 (fun n _ h => e n (by omega))⟩
theorem cls_J (h : cls H Kb Ks ep b nm s a t) (hz : ∀ n, n < 63 → ro n = 0) {b2 : Nat → Nat → Int32} {s2 : Nat → Int32} : cls (jH ad ro b2 s2 nk nc nn ru H a2 t2) Kb Ks ep b nm s a t :=
  cls_eq h fun n hn => if_pos (hz n hn)
/-- what changes below 63 alone -/
def mixH (Z H : xH) : xH := (fun n => if n < 63 then Z.1 n else H.1 n, H.2)
theorem mix_J (hz : ∀ n, n < 63 → ro n = 0) (h2 : Z.2 = H.2) (h3 : ∀ n, 63 ≤ n → Z.1 n = (jH ad ro b s nk nc nn ru H a t).1 n) : Z = jH ad ro b s nk nc nn ru (mixH Z H) a t := by
  refine Prod.ext (funext fun n => ?_) h2
  by_cases e : n < 63
  · show Z.1 n = if ro n = 0 then (if n < 63 then Z.1 n else H.1 n) else _
    rw [if_pos (hz n e), if_pos e]
  · rw [h3 n (by omega)]
    show (if ro n = 0 then H.1 n else _) = if ro n = 0 then (if n < 63 then Z.1 n else H.1 n) else _
    rw [if_neg e]
theorem mix_o (hn : 63 ≤ n) : (mixH Z H).1 n = H.1 n := if_neg (by omega)
theorem mix_c (h : cls Z Kb Ks ep b nm s a t) : cls (mixH Z H) Kb Ks ep b nm s a t := cls_eq h fun n hn => if_pos hn
theorem cls_sH (h : cls Z Kb Ks ep b nm s a t) {ms' sk' : Nat → Int32} {h' : Int32} : cls (sH Z 43 Kb a' t' ms' sk' h') Kb Ks ep b nm s a' t' := by
  obtain ⟨h1, h2, h3, h4, -⟩ := h
  exact ⟨(sH_o (by omega) 0 (by omega)).trans h1, h2, sH_kB h3 h2 (by omega), sH_kY (by omega), ms', sk', h', sH_kT⟩
/-- an operation of the class that writes its bay alone -/
theorem jw_of (hc : cls H Kb Ks ep b nm s a t) (hz : ∀ n, n < 63 → ro n = 0) {b2 : Nat → Nat → Int32} {s2 : Nat → Int32} {ms' sk' : Nat → Int32} {h' : Int32} : sH (jH ad ro b2 s2 nk nc nn ru H a2 t2) 43 Kb a' t' ms' sk' h' = jH ad ro b2 s2 nk nc nn ru (mixH (sH (jH ad ro b2 s2 nk nc nn ru H a2 t2) 43 Kb a' t' ms' sk' h') H) a2 t2 ∧ cls (mixH (sH (jH ad ro b2 s2 nk nc nn ru H a2 t2) 43 Kb a' t' ms' sk' h') H) Kb Ks ep b nm s a' t' :=
  ⟨mix_J hz rfl fun n hn => sH_o (by omega) n (by omega), mix_c (cls_sH (cls_J hc hz))⟩
theorem jc_tell (hc : cls H Kb Ks ep b nm s a t) (hz : ∀ n, n < 63 → ro n = 0) (hW : kW b s nk nc nn cnt rs re) (hR : kRl E b nn rs re) (hi : i < nn) {b2 : Nat → Nat → Int32} {s2 : Nat → Int32} : ∃ H', (∀ Q, xcall E xprog (d + 4) 8 [.ref 43, .int (nI i)] (jH ad ro b2 s2 nk nc nn ru H a2 t2) Q = Q (.inl (some (.int (rvC E a b t s nk i))), jH ad ro b2 s2 nk nc nn ru H' a2 t2)) ∧ cls H' Kb Ks ep b nm s a t ∧ H'.2 = H.2 ∧ ∀ n, 63 ≤ n → H'.1 n = H.1 n := by
  obtain ⟨h1, h2, h3, h4, ms, sk, hh, h5⟩ := cls_J (ad := ad) (nk := nk) (nc := nc) (nn := nn) (ru := ru) (a2 := a2) (t2 := t2) (b2 := b2) (s2 := s2) hc hz
  obtain ⟨ms', sk', h', g⟩ := g_Bay_tell (E := E) (d := d) h3 h2 h4 h5 hW hi
  obtain ⟨e1, e2⟩ := jw_of (ad := ad) (nk := nk) (nc := nc) (nn := nn) (ru := ru) (a' := a) (t' := t) (a2 := a2) (t2 := t2) (b2 := b2) (s2 := s2) (ms' := ms') (sk' := sk') (h' := h') hc hz
  refine ⟨_, fun Q => ?_, e2, rfl, fun n hn => mix_o hn⟩
  rw [g, ← e1]
  unfold tvC
  rw [tell_v hR hi]
theorem jc_wind (hc : cls H Kb Ks ep b nm s a t) (hz : ∀ n, n < 63 → ro n = 0) {r f : Int32} (hr : ¬ (r < 0 ∨ ¬ r < 4)) (hf : ¬ (f < 0 ∨ 3 < f)) {b2 : Nat → Nat → Int32} {s2 : Nat → Int32} : ∃ H', (∀ Q, xcall E xprog (d + 2) 96 [.ref 0, .int r, .int f] (jH ad ro b2 s2 nk nc nn ru H a2 t2) Q = Q (.inl (some (.int (t 1))), jH ad ro b2 s2 nk nc nn ru H' a2 t2)) ∧ cls H' Kb Ks ep b nm s a (tri r f (t 2)) ∧ H'.2 = H.2 ∧ ∀ n, 63 ≤ n → H'.1 n = H.1 n := by
  obtain ⟨h1, h2, h3, h4, ms, sk, hh, h5⟩ := cls_J (ad := ad) (nk := nk) (nc := nc) (nn := nn) (ru := ru) (a2 := a2) (t2 := t2) (b2 := b2) (s2 := s2) hc hz
  obtain ⟨e1, e2⟩ := jw_of (ad := ad) (nk := nk) (nc := nc) (nn := nn) (ru := ru) (a' := a) (t' := tri r f (t 2)) (a2 := a2) (t2 := t2) (b2 := b2) (s2 := s2) (ms' := ms) (sk' := sk) (h' := hh) hc hz
  refine ⟨_, fun Q => ?_, e2, rfl, fun n hn => mix_o hn⟩
  rw [← e1]
  exact (congrArg (fun Z => xcall E xprog (d + 2) 96 [.ref 0, .int r, .int f] Z Q) (sH_of h4 h5)).trans (c_T_setWind_i h1 hr hf)
theorem jc_jett (hc : cls H Kb Ks ep b nm s a t) (hz : ∀ n, n < 63 → ro n = 0) (hs : s 4 = nI nn) (h6 : nn ≤ 6) (hi : i < nn) (hv1 : ¬ v < 1) (hv2 : ¬ a 5 i < v) {b2 : Nat → Nat → Int32} {s2 : Nat → Int32} : ∃ H', (∀ Q, xcall E xprog (d + 2) 97 [.ref 0, .int (nI i), .int v] (jH ad ro b2 s2 nk nc nn ru H a2 t2) Q = Q (.inl (some (.int (a 5 i - v))), jH ad ro b2 s2 nk nc nn ru H' a2 t2)) ∧ cls H' Kb Ks ep b nm s (upr a 5 (upd (a 5) i (a 5 i - v))) t ∧ H'.2 = H.2 ∧ ∀ n, 63 ≤ n → H'.1 n = H.1 n := by
  obtain ⟨h1, h2, h3, h4, ms, sk, hh, h5⟩ := cls_J (ad := ad) (nk := nk) (nc := nc) (nn := nn) (ru := ru) (a2 := a2) (t2 := t2) (b2 := b2) (s2 := s2) hc hz
  obtain ⟨e1, e2⟩ := jw_of (ad := ad) (nk := nk) (nc := nc) (nn := nn) (ru := ru) (a' := upr a 5 (upd (a 5) i (a 5 i - v))) (t' := t) (a2 := a2) (t2 := t2) (b2 := b2) (s2 := s2) (ms' := ms) (sk' := sk) (h' := hh) hc hz
  refine ⟨_, fun Q => ?_, e2, rfl, fun n hn => mix_o hn⟩
  rw [← e1]
  exact (congrArg (fun Z => xcall E xprog (d + 2) 97 [.ref 0, .int (nI i), .int v] Z Q) (sH_of h4 h5)).trans (c_T_jettison_i h2 h1 h3 hs h6 hi hv1 hv2)
theorem jc_calm (hc : cls H Kb Ks ep b nm s a t) (hz : ∀ n, n < 63 → ro n = 0) (hs : s 2 = nI nk) (h6 : nk ≤ 6) (hi : i < nk) (hv : ¬ (v < 0 ∨ 20 < v)) {b2 : Nat → Nat → Int32} {s2 : Nat → Int32} : ∃ H', (∀ Q, xcall E xprog (d + 2) 98 [.ref 0, .int (nI i), .int v] (jH ad ro b2 s2 nk nc nn ru H a2 t2) Q = Q (.inl (some (.int (a 0 i))), jH ad ro b2 s2 nk nc nn ru H' a2 t2)) ∧ cls H' Kb Ks ep b nm s (upr a 0 (upd (a 0) i v)) t ∧ H'.2 = H.2 ∧ ∀ n, 63 ≤ n → H'.1 n = H.1 n := by
  obtain ⟨h1, h2, h3, h4, ms, sk, hh, h5⟩ := cls_J (ad := ad) (nk := nk) (nc := nc) (nn := nn) (ru := ru) (a2 := a2) (t2 := t2) (b2 := b2) (s2 := s2) hc hz
  obtain ⟨e1, e2⟩ := jw_of (ad := ad) (nk := nk) (nc := nc) (nn := nn) (ru := ru) (a' := upr a 0 (upd (a 0) i v)) (t' := t) (a2 := a2) (t2 := t2) (b2 := b2) (s2 := s2) (ms' := ms) (sk' := sk) (h' := hh) hc hz
  refine ⟨_, fun Q => ?_, e2, rfl, fun n hn => mix_o hn⟩
  rw [← e1]
  exact (congrArg (fun Z => xcall E xprog (d + 2) 98 [.ref 0, .int (nI i), .int v] Z Q) (sH_of h4 h5)).trans (c_T_calmKettle_i h2 h1 h3 hs h6 hi hv)
/-- the class sails; what it answers hangs on the rows alone -/
theorem clI_hr {x : bhr} (hR : kRl E b nn rs re) {y : bhr} (h1 : x.1.1 = y.1.1) (h2 : x.2 = y.2) : ∀ m, (∀ w, hrV b s nk nc nn rs re m x w = hrV b s nk nc nn rs re m y w) ∧ (hrI b s nk nc nn rs re m x).1.1 = (hrI b s nk nc nn rs re m y).1.1 ∧ (hrI b s nk nc nn rs re m x).2 = (hrI b s nk nc nn rs re m y).2 := by
  intro m
  induction m generalizing x y with
  | zero => exact ⟨fun _ => rfl, h1, h2⟩
  | succ m ih =>
    obtain ⟨p1, p2⟩ := hr_pa (E := E) (s := s) (nk := nk) (nc := nc) hR x
    obtain ⟨q1, q2⟩ := hr_pa (E := E) (s := s) (nk := nk) (nc := nc) hR y
    have e1 : (hrC b s nk nc nn rs re x).1.1 = (hrC b s nk nc nn rs re y).1.1 := by rw [p1, q1, h1, h2]
    have e2 : (hrC b s nk nc nn rs re x).2 = (hrC b s nk nc nn rs re y).2 := by
      show phT x.2 = phT y.2
      rw [h2]
    have e3 : phV b x.2 s nk nc nn rs re x.1 = phV b y.2 s nk nc nn rs re y.1 := by rw [p2, q2, h1, h2]
    obtain ⟨i1, i2, i3⟩ := ih e1 e2
    refine ⟨fun w => ?_, i2, i3⟩
    show hrV b s nk nc nn rs re m (hrC b s nk nc nn rs re x) (w + phV b x.2 s nk nc nn rs re x.1) = hrV b s nk nc nn rs re m (hrC b s nk nc nn rs re y) (w + phV b y.2 s nk nc nn rs re y.1)
    rw [e3]
    exact i1 _
/-- rows and wind as an hour's state -/
abbrev bx (a : Nat → Nat → Int32) (t : Nat → Int32) : bhr := ((a, fun _ => 0, fun _ => 0, 0), t)
theorem jc_sail (hc : cls H Kb Ks ep b nm s a t) (hz : ∀ n, n < 63 → ro n = 0) (hW : kW b s nk nc nn cnt rs re) (hR : kRl E b nn rs re) (hj1 : 1 ≤ j) (hj : j ≤ 60) {b2 : Nat → Nat → Int32} {s2 : Nat → Int32} : ∃ H', (∀ Q, xcall E xprog (d + 8) 99 [.ref 0, .int (nI j)] (jH ad ro b2 s2 nk nc nn ru H a2 t2) Q = Q (.inl (some (.int (hrV b s nk nc nn rs re j (bx a t) 0))), jH ad ro b2 s2 nk nc nn ru H' a2 t2)) ∧ cls H' Kb Ks ep b nm s (hrI b s nk nc nn rs re j (bx a t)).1.1 (hrI b s nk nc nn rs re j (bx a t)).2 ∧ H'.2 = H.2 ∧ ∀ n, 63 ≤ n → H'.1 n = H.1 n := by
  obtain ⟨h1, h2, h3, h4, ms, sk, hh, h5⟩ := cls_J (ad := ad) (nk := nk) (nc := nc) (nn := nn) (ru := ru) (a2 := a2) (t2 := t2) (b2 := b2) (s2 := s2) hc hz
  obtain ⟨k, hk⟩ := nI_ex hh
  subst hk
  have hl : ¬ (nI j < 1 ∨ 60 < nI j) := by
    rw [nI_l1 j (by omega)]
    rintro (q | q)
    · omega
    · rw [show ((60 : Int32) < nI j) = False from nge (i := 60) (n := j) hj (by omega)] at q
      exact q
  have st := fun (Q : xR → Prop) => c_T_sail_i (E := E) (d := d) (Q := Q) (X := jH ad ro b2 s2 nk nc nn ru H a2 t2) h1 h3 h2 hW (x := ((a, ms, sk, k), t)) (j := j) (by omega) hl
  obtain ⟨v1, v2, v3⟩ := clI_hr (E := E) (s := s) (nk := nk) (nc := nc) (x := ((a, ms, sk, k), t)) (y := bx a t) hR rfl rfl j
  rw [v1] at st
  unfold sX at st
  rw [v2, v3] at st
  obtain ⟨e1, e2⟩ := jw_of (ad := ad) (nk := nk) (nc := nc) (nn := nn) (ru := ru) (a' := (hrI b s nk nc nn rs re j (bx a t)).1.1) (t' := (hrI b s nk nc nn rs re j (bx a t)).2) (a2 := a2) (t2 := t2) (b2 := b2) (s2 := s2) (ms' := (hrI b s nk nc nn rs re j ((a, ms, sk, k), t)).1.2.1) (sk' := (hrI b s nk nc nn rs re j ((a, ms, sk, k), t)).1.2.2.1) (h' := nI (hrI b s nk nc nn rs re j ((a, ms, sk, k), t)).1.2.2.2) hc hz
  refine ⟨_, fun Q => ?_, e2, rfl, fun n hn => mix_o hn⟩
  rw [← e1]
  exact (congrArg (fun Z => xcall E xprog (d + 8) 99 [.ref 0, .int (nI j)] Z Q) (sH_of h4 h5)).trans (st Q)
theorem c_T_columns (hc : X.1 0 = tgC Kb Ks ep) (hB : kB X Kb b nm s) : xcall E xprog (d + 1) 71 [.ref 0] X Q = Q (.inl (some (.int (s 0))), X) := by
  have b0 := hB.1
  unfold tgC at hc
  rw [e_T_columns]
  simp only [s_T_columns_0, s_T_columns_1, s_T_columns_4, s_T_columns_7, not_false_eq_true, Nat.reduceLT, Nat.reduceAdd, true_and, and_true, if_true, if_false, ite_true, ite_false, xnb_0, xnb_1, xnb_b, xk_v, xk_n, xf_of hc, xll_8, xlg_8_0, xlg_8_1, xlg_8_2, xlg_8_3, xlg_8_4, xlg_8_5, xlg_8_6, xf_of b0, xll_1, xlg_1_0, xlg_1_1, xlg_1_2, xlg_1_3, xlg_1_4, xlg_1_5, xlg_1_6, xlg_1_7, xlg_1_8, xlg_1_9, xlg_1_10, xlg_1_11, xlg_1_12, xlg_1_13, xlg_1_14, xlg_1_15, xlg_1_16]
theorem c_T_rows (hc : X.1 0 = tgC Kb Ks ep) (hB : kB X Kb b nm s) : xcall E xprog (d + 1) 72 [.ref 0] X Q = Q (.inl (some (.int (s 1))), X) := by
  have b0 := hB.1
  unfold tgC at hc
  rw [e_T_rows]
  simp only [s_T_rows_0, s_T_rows_1, s_T_rows_4, s_T_rows_7, not_false_eq_true, Nat.reduceLT, Nat.reduceAdd, true_and, and_true, if_true, if_false, ite_true, ite_false, xnb_0, xnb_1, xnb_b, xk_v, xk_n, xf_of hc, xll_8, xlg_8_0, xlg_8_1, xlg_8_2, xlg_8_3, xlg_8_4, xlg_8_5, xlg_8_6, xf_of b0, xll_1, xlg_1_0, xlg_1_1, xlg_1_2, xlg_1_3, xlg_1_4, xlg_1_5, xlg_1_6, xlg_1_7, xlg_1_8, xlg_1_9, xlg_1_10, xlg_1_11, xlg_1_12, xlg_1_13, xlg_1_14, xlg_1_15, xlg_1_16]
theorem c_T_kettles (hc : X.1 0 = tgC Kb Ks ep) (hB : kB X Kb b nm s) : xcall E xprog (d + 1) 73 [.ref 0] X Q = Q (.inl (some (.int (s 2))), X) := by
  have b0 := hB.1
  unfold tgC at hc
  rw [e_T_kettles]
  simp only [s_T_kettles_0, s_T_kettles_1, s_T_kettles_4, s_T_kettles_7, not_false_eq_true, Nat.reduceLT, Nat.reduceAdd, true_and, and_true, if_true, if_false, ite_true, ite_false, xnb_0, xnb_1, xnb_b, xk_v, xk_n, xf_of hc, xll_8, xlg_8_0, xlg_8_1, xlg_8_2, xlg_8_3, xlg_8_4, xlg_8_5, xlg_8_6, xf_of b0, xll_1, xlg_1_0, xlg_1_1, xlg_1_2, xlg_1_3, xlg_1_4, xlg_1_5, xlg_1_6, xlg_1_7, xlg_1_8, xlg_1_9, xlg_1_10, xlg_1_11, xlg_1_12, xlg_1_13, xlg_1_14, xlg_1_15, xlg_1_16]
theorem c_T_clippers (hc : X.1 0 = tgC Kb Ks ep) (hB : kB X Kb b nm s) : xcall E xprog (d + 1) 74 [.ref 0] X Q = Q (.inl (some (.int (s 4))), X) := by
  have b0 := hB.1
  unfold tgC at hc
  rw [e_T_clippers]
  simp only [s_T_clippers_0, s_T_clippers_1, s_T_clippers_4, s_T_clippers_7, not_false_eq_true, Nat.reduceLT, Nat.reduceAdd, true_and, and_true, if_true, if_false, ite_true, ite_false, xnb_0, xnb_1, xnb_b, xk_v, xk_n, xf_of hc, xll_8, xlg_8_0, xlg_8_1, xlg_8_2, xlg_8_3, xlg_8_4, xlg_8_5, xlg_8_6, xf_of b0, xll_1, xlg_1_0, xlg_1_1, xlg_1_2, xlg_1_3, xlg_1_4, xlg_1_5, xlg_1_6, xlg_1_7, xlg_1_8, xlg_1_9, xlg_1_10, xlg_1_11, xlg_1_12, xlg_1_13, xlg_1_14, xlg_1_15, xlg_1_16]
theorem c_T_hour (hc : X.1 0 = tgC Kb Ks ep) (hY : kY X 43 Kb a t) : xcall E xprog (d + 1) 82 [.ref 0] X Q = Q (.inl (some (.int (t 2))), X) := by
  have y0 := hY.1
  unfold tgC at hc
  rw [e_T_hour]
  simp only [s_T_hour_0, s_T_hour_1, s_T_hour_4, s_T_hour_7, not_false_eq_true, Nat.reduceLT, Nat.reduceAdd, true_and, and_true, if_true, if_false, ite_true, ite_false, xnb_0, xnb_1, xnb_b, xk_v, xk_n, xf_of hc, xll_8, xlg_8_0, xlg_8_1, xlg_8_2, xlg_8_3, xlg_8_4, xlg_8_5, xlg_8_6, xf_of y0, xll_0, xlg_0_0, xlg_0_1, xlg_0_2, xlg_0_3, xlg_0_4, xlg_0_5, xlg_0_6, xlg_0_7, xlg_0_8, xlg_0_9, xlg_0_10, xlg_0_11, xlg_0_12, xlg_0_13]
theorem c_T_windDirection (hc : X.1 0 = tgC Kb Ks ep) (hY : kY X 43 Kb a t) : xcall E xprog (d + 1) 80 [.ref 0] X Q = Q (.inl (some (.int (t 0))), X) := by
  have y0 := hY.1
  unfold tgC at hc
  rw [e_T_windDirection]
  simp only [s_T_windDirection_0, s_T_windDirection_1, s_T_windDirection_4, s_T_windDirection_7, not_false_eq_true, Nat.reduceLT, Nat.reduceAdd, true_and, and_true, if_true, if_false, ite_true, ite_false, xnb_0, xnb_1, xnb_b, xk_v, xk_n, xf_of hc, xll_8, xlg_8_0, xlg_8_1, xlg_8_2, xlg_8_3, xlg_8_4, xlg_8_5, xlg_8_6, xf_of y0, xll_0, xlg_0_0, xlg_0_1, xlg_0_2, xlg_0_3, xlg_0_4, xlg_0_5, xlg_0_6, xlg_0_7, xlg_0_8, xlg_0_9, xlg_0_10, xlg_0_11, xlg_0_12, xlg_0_13]
theorem c_T_windForce (hc : X.1 0 = tgC Kb Ks ep) (hY : kY X 43 Kb a t) : xcall E xprog (d + 1) 81 [.ref 0] X Q = Q (.inl (some (.int (t 1))), X) := by
  have y0 := hY.1
  unfold tgC at hc
  rw [e_T_windForce]
  simp only [s_T_windForce_0, s_T_windForce_1, s_T_windForce_4, s_T_windForce_7, not_false_eq_true, Nat.reduceLT, Nat.reduceAdd, true_and, and_true, if_true, if_false, ite_true, ite_false, xnb_0, xnb_1, xnb_b, xk_v, xk_n, xf_of hc, xll_8, xlg_8_0, xlg_8_1, xlg_8_2, xlg_8_3, xlg_8_4, xlg_8_5, xlg_8_6, xf_of y0, xll_0, xlg_0_0, xlg_0_1, xlg_0_2, xlg_0_3, xlg_0_4, xlg_0_5, xlg_0_6, xlg_0_7, xlg_0_8, xlg_0_9, xlg_0_10, xlg_0_11, xlg_0_12, xlg_0_13]
end JOINT
