/-! ===== the whole book is read; one that is too long isn't ===== -/
section RBOOK
variable {kd nu st : Nat → Int32} {vl : Nat → Int64} {E : xE} {co rw : Nat} {kx ky kz ux uy hx hy hz : Nat → Nat}
theorem nI_ne {a b : Nat} (ha : a < 2147483648) (hb : b < 2147483648) (h : ¬ a = b) : ¬ nI a = nI b := fun e => h (nI_inj ha hb e)
/-- a bay that can be printed -/
def bayO (E : xE) (co rw : Nat) (kx ky kz ux uy hx hy hz : Nat → Nat) (nk nc nn : Nat) : Prop :=
  (3 ≤ co ∧ co ≤ 12) ∧ (3 ≤ rw ∧ rw ≤ 12) ∧ nk ≤ 6 ∧ nc ≤ 6 ∧ nn ≤ 6 ∧ (∀ i, i < nk → kx i < co ∧ ky i < rw ∧ 1 ≤ kz i ∧ kz i ≤ 30) ∧ (∀ i, i < nc → ux i < co ∧ uy i < rw) ∧ (∀ c, c < nn → hx c < co ∧ hy c < rw ∧ 1 ≤ hz c ∧ hz c ≤ 4) ∧
  (∀ i j, i < j → j < nk → ¬ (kx i = kx j ∧ ky i = ky j)) ∧ (∀ i j, i < nk → j < nc → ¬ (kx i = ux j ∧ ky i = uy j)) ∧ (∀ i j, i < j → j < nc → ¬ (ux i = ux j ∧ uy i = uy j))
theorem rd_kets {nk nc nn : Nat} (hO : bayO E co rw kx ky kz ux uy hx hy hz nk nc nn) {p : Int32} : ∀ (m i x ln : Nat) (w : Int32 × Int32) (k : bkS), i + m = nk → bkI E co rw kx ky kz ux uy hx hy hz i 0 0 k → sq kd nu vl x (catL (fun i => ketT (kx i) (ky i) (kz i)) i m) →
    ∃ w' k', bkI E co rw kx ky kz ux uy hx hy hz nk 0 0 k' ∧ ∀ F, rdP kd nu st vl (F + m) ln x (0, p) w k = rdP kd nu st vl F (ln + m) (x + (catL (fun i => ketT (kx i) (ky i) (kz i)) i m).length) (0, p) w' k'
  | 0, i, x, ln, w, k, hi, hk, _ => ⟨w, k, by rw [← hi]; exact hk, fun F => rfl⟩
  | m + 1, i, x, ln, w, k, hi, hk, hs => by
    obtain ⟨o1, o2, o3, o4, o5, o6, o7, o8, o9, o10, o11⟩ := id hO
    obtain ⟨s1, s2⟩ := sq_app (A := ketT (kx i) (ky i) (kz i)) hs
    obtain ⟨a1, a2, a3, a4⟩ := o6 i (by omega)
    have e1 : k.2.2.2.1 = i := by rw [hk.2.1]
    have e2 : k.2.2.2.2.1 = 0 := by rw [hk.2.1]
    have hno : kAt (k.1 2) (k.1 3) (nI (kx i)) (nI (ky i)) 0 k.2.2.2.1 = -1 ∧ cAt (k.1 5) (k.1 6) (nI (kx i)) (nI (ky i)) 0 k.2.2.2.2.1 = 0 := by
      rw [e1, e2]
      refine ⟨kAt_no _ _ (fun j b1 b2 b3 => ?_), rfl⟩
      obtain ⟨c1, c2, -⟩ := hk.2.2.1 j (by omega)
      obtain ⟨d1, d2, -, -⟩ := o6 j (by omega)
      rw [c1, c2] at b3
      exact o9 j i (by omega) (by omega) ⟨nI_inj (by omega) (by omega) b3.1, nI_inj (by omega) (by omega) b3.2⟩
    have hl := ln_ket1 (st := st) (ln := ln) (p := p) (w := w) hk.1 o1.2 o2.2 s1 a1 a2 ⟨a3, a4⟩ (by rw [e1]; omega) hno
    obtain ⟨w', k', g1, g2⟩ := rd_kets hO (p := p) m (i + 1) (x + 7) (ln + 1) (nI (kx i), nI (ky i)) _ (by omega) (bk_K hk (by omega)) s2
    refine ⟨w', k', g1, fun F => ?_⟩
    rw [show F + (m + 1) = F + m + 1 by omega, rd_line hl, g2 F, show ln + 1 + m = ln + (m + 1) by omega]
    have : (catL (fun i => ketT (kx i) (ky i) (kz i)) i (m + 1)).length = 7 + (catL (fun i => ketT (kx i) (ky i) (kz i)) (i + 1) m).length := by
      show (ketT (kx i) (ky i) (kz i) ++ _).length = _
      rw [List.length_append]; rfl
    rw [this, ← Nat.add_assoc x 7]
theorem rd_cuss {nk nc nn : Nat} (hO : bayO E co rw kx ky kz ux uy hx hy hz nk nc nn) {p : Int32} : ∀ (m i x ln : Nat) (w : Int32 × Int32) (k : bkS), i + m = nc → bkI E co rw kx ky kz ux uy hx hy hz nk i 0 k → sq kd nu vl x (catL (fun i => cusT (ux i) (uy i)) i m) →
    ∃ w' k', bkI E co rw kx ky kz ux uy hx hy hz nk nc 0 k' ∧ ∀ F, rdP kd nu st vl (F + m) ln x (0, p) w k = rdP kd nu st vl F (ln + m) (x + (catL (fun i => cusT (ux i) (uy i)) i m).length) (0, p) w' k'
  | 0, i, x, ln, w, k, hi, hk, _ => ⟨w, k, by rw [← hi]; exact hk, fun F => rfl⟩
  | m + 1, i, x, ln, w, k, hi, hk, hs => by
    obtain ⟨o1, o2, o3, o4, o5, o6, o7, o8, o9, o10, o11⟩ := id hO
    obtain ⟨s1, s2⟩ := sq_app (A := cusT (ux i) (uy i)) hs
    obtain ⟨a1, a2⟩ := o7 i (by omega)
    have e1 : k.2.2.2.1 = nk := by rw [hk.2.1]
    have e2 : k.2.2.2.2.1 = i := by rw [hk.2.1]
    have hno : kAt (k.1 2) (k.1 3) (nI (ux i)) (nI (uy i)) 0 k.2.2.2.1 = -1 ∧ cAt (k.1 5) (k.1 6) (nI (ux i)) (nI (uy i)) 0 k.2.2.2.2.1 = 0 := by
      rw [e1, e2]
      refine ⟨kAt_no _ _ (fun j b1 b2 b3 => ?_), cAt_no _ _ (fun j b1 b2 b3 => ?_)⟩
      · obtain ⟨c1, c2, -⟩ := hk.2.2.1 j (by omega)
        obtain ⟨d1, d2, -, -⟩ := o6 j (by omega)
        rw [c1, c2] at b3
        exact o10 j i (by omega) (by omega) ⟨nI_inj (by omega) (by omega) b3.1, nI_inj (by omega) (by omega) b3.2⟩
      · obtain ⟨c1, c2⟩ := hk.2.2.2.1 j (by omega)
        obtain ⟨d1, d2⟩ := o7 j (by omega)
        rw [c1, c2] at b3
        exact o11 j i (by omega) (by omega) ⟨nI_inj (by omega) (by omega) b3.1, nI_inj (by omega) (by omega) b3.2⟩
    have hl := ln_cus1 (st := st) (ln := ln) (p := p) (w := w) hk.1 o1.2 o2.2 s1 a1 a2 (by rw [e2]; omega) hno
    obtain ⟨w', k', g1, g2⟩ := rd_cuss hO (p := p) m (i + 1) (x + 5) (ln + 1) (nI (ux i), nI (uy i)) _ (by omega) (bk_C hk (by omega)) s2
    refine ⟨w', k', g1, fun F => ?_⟩
    rw [show F + (m + 1) = F + m + 1 by omega, rd_line hl, g2 F, show ln + 1 + m = ln + (m + 1) by omega]
    have : (catL (fun i => cusT (ux i) (uy i)) i (m + 1)).length = 5 + (catL (fun i => cusT (ux i) (uy i)) (i + 1) m).length := by
      show (cusT (ux i) (uy i) ++ _).length = _
      rw [List.length_append]; rfl
    rw [this, ← Nat.add_assoc x 5]
theorem rsm_mono {c n : Nat} (h : c ≤ n) : rsm E c ≤ rsm E n := by
  obtain ⟨m, rfl⟩ : ∃ m, n = c + m := ⟨n - c, by omega⟩
  induction m with
  | zero => exact Nat.le_refl _
  | succ m ih => exact Nat.le_trans (ih (by omega)) (Nat.le_add_right _ _)
theorem rd_clis {nk nc nn : Nat} (hO : bayO E co rw kx ky kz ux uy hx hy hz nk nc nn) (hr : rsm E nn ≤ 400) {p : Int32} : ∀ (m i x ln : Nat) (w : Int32 × Int32) (k : bkS), i + m = nn → bkI E co rw kx ky kz ux uy hx hy hz nk nc i k → sq kd nu vl x (catL (fun c => cliT E c (hx c) (hy c) (hz c)) i m) →
    ∃ w' k', bkI E co rw kx ky kz ux uy hx hy hz nk nc nn k' ∧ ∀ F, rdP kd nu st vl (F + m) ln x (0, p) w k = rdP kd nu st vl F (ln + m) (x + (catL (fun c => cliT E c (hx c) (hy c) (hz c)) i m).length) (0, p) w' k'
  | 0, i, x, ln, w, k, hi, hk, _ => ⟨w, k, by rw [← hi]; exact hk, fun F => rfl⟩
  | m + 1, i, x, ln, w, k, hi, hk, hs => by
    obtain ⟨o1, o2, o3, o4, o5, o6, o7, o8, o9, o10, o11⟩ := id hO
    obtain ⟨s1, s2⟩ := sq_app (A := cliT E i (hx i) (hy i) (hz i)) hs
    obtain ⟨a1, a2, a3, a4⟩ := o8 i (by omega)
    have e1 : k.2.2.2.2.2.1 = i := by rw [hk.2.1]
    have hno : nAt k.2.1 (lN2 (97 + i)) 0 k.2.2.2.2.2.1 = 0 := by
      rw [e1]
      refine nAt_no _ _ (fun j b1 b2 b3 => ?_)
      rw [(hk.2.2.2.2.1 j (by omega)).2.2.2.2.2] at b3
      have := lN2_inj (by omega) (by omega) b3
      omega
    have hl := ln_cli1 (st := st) (ln := ln) (p := p) (w := w) hk.1 o1.2 o2.2 s1 a1 a2 ⟨a3, a4⟩ (by rw [e1]; omega) hno
    have hle : (cliT E i (hx i) (hy i) (hz i)).length = 9 + (rtk E 4 (5 + 11 * i) 0 true true).length + 1 := by
      unfold cliT
      rw [List.length_append, List.length_append]
      show 9 + (_ + 1) = _
      omega
    rw [hle] at s2
    have s3 : sq kd nu vl (x + 9 + (rtk E 4 (5 + 11 * i) 0 true true).length + 1) (catL (fun c => cliT E c (hx c) (hy c) (hz c)) (i + 1) m) := by
      rw [show x + 9 + (rtk E 4 (5 + 11 * i) 0 true true).length + 1 = x + (9 + (rtk E 4 (5 + 11 * i) 0 true true).length + 1) by omega]; exact s2
    obtain ⟨w', k', g1, g2⟩ := rd_clis hO hr (p := p) m (i + 1) _ (ln + 1) (nI (hx i), nI (hy i)) _ (by omega) (bk_L hk (by omega) (Nat.le_trans (rsm_mono (by omega)) hr)) s3
    refine ⟨w', k', g1, fun F => ?_⟩
    rw [show F + (m + 1) = F + m + 1 by omega, rd_line hl, g2 F, show ln + 1 + m = ln + (m + 1) by omega]
    have : (catL (fun c => cliT E c (hx c) (hy c) (hz c)) i (m + 1)).length = 9 + (rtk E 4 (5 + 11 * i) 0 true true).length + 1 + (catL (fun c => cliT E c (hx c) (hy c) (hz c)) (i + 1) m).length := by
      show (cliT E i (hx i) (hy i) (hz i) ++ _).length = _
      rw [List.length_append, hle]
    rw [this, show x + 9 + (rtk E 4 (5 + 11 * i) 0 true true).length + 1 + (catL (fun c => cliT E c (hx c) (hy c) (hz c)) (i + 1) m).length = x + (9 + (rtk E 4 (5 + 11 * i) 0 true true).length + 1 + (catL (fun c => cliT E c (hx c) (hy c) (hz c)) (i + 1) m).length) by omega]
/-- a printed bay is read -/
theorem rd_book {nk nc nn : Nat} (hO : bayO E co rw kx ky kz ux uy hx hy hz nk nc nn) (hr : rsm E nn ≤ 400) {p : Int32} {w : Int32 × Int32} {b : Nat → Nat → Int32} {nm : Nat → Int64} (hs : sq kd nu vl 0 (bookT E co rw kx ky kz ux uy hx hy hz nk nc nn)) (h0 : kd (bookT E co rw kx ky kz ux uy hx hy hz nk nc nn).length = 0) :
    (rdP kd nu st vl 401 0 0 (0, p) w ((b, nm, (6, 6), 0, 0, 0, 0) : bkS)).2.1 = (0, p) ∧ bkI E co rw kx ky kz ux uy hx hy hz nk nc nn (rdP kd nu st vl 401 0 0 (0, p) w ((b, nm, (6, 6), 0, 0, 0, 0) : bkS)).2.2.2 := by
  obtain ⟨o1, o2, o3, o4, o5, -⟩ := id hO
  obtain ⟨s1, s2⟩ := sq_app hs
  obtain ⟨s3, s4⟩ := sq_app s2
  obtain ⟨s5, s6⟩ := sq_app s4
  have hl := ln_bay1 (st := st) (p := p) (w := w) (k := (b, nm, (6, 6), 0, 0, 0, 0)) o1 o2 s1
  have i0 : bkI E co rw kx ky kz ux uy hx hy hz 0 0 0 ((b, nm, (nI co, nI rw), 0, 0, 0, 0) : bkS) := ⟨rfl, rfl, fun i hi => absurd hi (Nat.not_lt_zero _), fun i hi => absurd hi (Nat.not_lt_zero _), fun i hi => absurd hi (Nat.not_lt_zero _), fun i hi => absurd hi (Nat.not_lt_zero _)⟩
  obtain ⟨w1, k1, g1, f1⟩ := rd_kets (kd := kd) (nu := nu) (st := st) (vl := vl) hO (p := p) nk 0 (0 + (bayT co rw).length) 1 w _ (by omega) i0 s3
  obtain ⟨w2, k2, g2, f2⟩ := rd_cuss (kd := kd) (nu := nu) (st := st) (vl := vl) hO (p := p) nc 0 _ (1 + nk) w1 _ (by omega) g1 s5
  obtain ⟨w3, k3, g3, f3⟩ := rd_clis (kd := kd) (nu := nu) (st := st) (vl := vl) hO hr (p := p) nn 0 _ (1 + nk + nc) w2 _ (by omega) g2 s6
  have e : rdP kd nu st vl 401 0 0 (0, p) w ((b, nm, (6, 6), 0, 0, 0, 0) : bkS) = rdP kd nu st vl (400 - nk - nc - nn) (1 + nk + nc + nn) (bookT E co rw kx ky kz ux uy hx hy hz nk nc nn).length (0, p) w3 k3 := by
    rw [rd_line (m := 400) hl]
    have h1 := f1 (400 - nk)
    rw [show 400 - nk + nk = 400 by omega] at h1
    have h2 := f2 (400 - nk - nc)
    rw [show 400 - nk - nc + nc = 400 - nk by omega] at h2
    have h3 := f3 (400 - nk - nc - nn)
    rw [show 400 - nk - nc - nn + nn = 400 - nk - nc by omega] at h3
    have hb : (bookT E co rw kx ky kz ux uy hx hy hz nk nc nn).length = 0 + (bayT co rw).length + (catL (fun i => ketT (kx i) (ky i) (kz i)) 0 nk).length + (catL (fun i => cusT (ux i) (uy i)) 0 nc).length + (catL (fun c => cliT E c (hx c) (hy c) (hz c)) 0 nn).length := by
      unfold bookT
      simp only [List.length_append]; omega
    rw [hb]
    exact h1.trans (h2.trans h3)
  rw [e]
  obtain ⟨F, hF⟩ : ∃ F, 400 - nk - nc - nn = F + 1 := ⟨400 - nk - nc - nn - 1, by omega⟩
  rw [hF]
  have e2 : rdP kd nu st vl (F + 1) (1 + nk + nc + nn) (bookT E co rw kx ky kz ux uy hx hy hz nk nc nn).length (0, p) w3 k3 = ((bookT E co rw kx ky kz ux uy hx hy hz nk nc nn).length, (0, p), w3, k3) := if_pos h0
  rw [e2]
  exact ⟨rfl, g3⟩
/-- a rule has no more steps than tokens -/
theorem pfx_le : ∀ (n fr dp : Nat) (free bl : Bool), (pfx E n fr dp).length ≤ (rtk E n fr dp free bl).length
  | 0, _, _, _, _ => Nat.le_refl _
  | n + 1, fr, dp, free, bl => by
    have h := fun fr' fr'' b'' => pfx_le n fr' (dp + 1) fr'' b''
    unfold pfx rtk
    split
    · exact Nat.le_refl _
    split
    · exact Nat.le_refl _
    split
    · have := h (fr * 2 + 3) false false; simp only [List.length_append, List.length_cons, List.length_nil]; omega
    split
    · have := h (fr * 2 + 3) false true; simp only [List.length_append, List.length_cons, List.length_nil]; omega
    split
    · have h1 := h (fr * 2 + 3) true false; have h2 := h (fr * 2 + 4) true false; simp only [List.length_append, List.length_cons, List.length_nil]; omega
    split
    · have h1 := h (fr * 2 + 3) true false; have h2 := h (fr * 2 + 4) true false; simp only [List.length_append, List.length_cons, List.length_nil]; omega
    split
    · have h1 := h (fr * 2 + 3) true true; have h2 := h (fr * 2 + 4) true true; have h3 := h (fr * 2 + 5) true true
      split <;> simp only [List.length_append, List.length_cons, List.length_nil] <;> omega
    · have h1 := h (fr * 2 + 3) false bl; have h1' := h (fr * 2 + 3) false false; have h2 := h (fr * 2 + 4) false (sgb (rud E fr dp))
      split <;> simp only [List.length_append, List.length_cons, List.length_nil] <;> omega
theorem rsm_le : ∀ (m i : Nat), rsm E (i + m) ≤ rsm E i + (catL (fun c => cliT E c (hx c) (hy c) (hz c)) i m).length
  | 0, i => Nat.le_refl _
  | m + 1, i => by
    have h := rsm_le m (i + 1)
    have h2 := pfx_le (E := E) 4 (5 + 11 * i) 0 true true
    have e : (catL (fun c => cliT E c (hx c) (hy c) (hz c)) i (m + 1)).length = (cliT E i (hx i) (hy i) (hz i)).length + (catL (fun c => cliT E c (hx c) (hy c) (hz c)) (i + 1) m).length := List.length_append
    have e2 : (cliT E i (hx i) (hy i) (hz i)).length = 9 + ((rtk E 4 (5 + 11 * i) 0 true true).length + 1) := by
      unfold cliT
      rw [List.length_append, List.length_append]
      rfl
    have e3 : rsm E (i + 1) = rsm E i + (pfx E 4 (5 + 11 * i) 0).length := rfl
    rw [show i + (m + 1) = i + 1 + m by omega]
    omega
theorem rsm_book {nk nc nn : Nat} : rsm E nn ≤ (bookT E co rw kx ky kz ux uy hx hy hz nk nc nn).length := by
  have h := rsm_le (E := E) (hx := hx) (hy := hy) (hz := hz) nn 0
  unfold bookT
  simp only [List.length_append]
  have e : rsm E 0 = 0 := rfl
  rw [Nat.zero_add] at h
  omega
end RBOOK
