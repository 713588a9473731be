/-! ===== from call to call: a throw, what is written out, what the model keeps ===== -/
section STEP
variable {E : xE} {d n : Nat} {Q : xR → Prop} {X : xH} {Kb Ks K l : Nat} {ep th : Int32} {T : Nat → Nat} {tp : Nat → Int32} {b : Nat → Nat → Int32} {nm : Nat → Int64} {s : Nat → Int32} {a : Nat → Nat → Int32} {t : Nat → Int32} {g : Nat → Nat → Int32} {q : Nat → Int32} {co ro nk nc nn cnt : Nat} {rs re : Nat → Nat} {nw kp wc sk : Nat → Int32} {sz ea : Int32}
def IVk (n : Nat) (k : Int32) (X : xH) : Prop := ∃ (Kb Ks K l : Nat) (ep : Int32) (T : Nat → Nat) (tp : Nat → Int32) (b : Nat → Nat → Int32) (nm : Nat → Int64) (s : Nat → Int32) (a : Nat → Nat → Int32) (t : Nat → Int32) (g : Nat → Nat → Int32) (q : Nat → Int32) (co ro nk nc nn cnt : Nat) (rs re : Nat → Nat), IVd n X Kb Ks K l ep k T tp b nm s a t g q co ro nk nc nn cnt rs re
theorem IVk_IV {k : Int32} (h : IVk n k X) : IV n X := by
  obtain ⟨Kb, Ks, K, l, ep, T, tp, b, nm, s, a, t, g, q, co, ro, nk, nc, nn, cnt, rs, re, h⟩ := h
  exact ⟨Kb, Ks, K, l, ep, k, T, tp, b, nm, s, a, t, g, q, co, ro, nk, nc, nn, cnt, rs, re, h⟩
theorem ivD_th (h : IVd n X Kb Ks K l ep th T tp b nm s a t g q co ro nk nc nn cnt rs re) : ∃ kp wc sk : Nat → Int32, X = mH X K th (nI l) ep tp (nwO nn a t) kp wc sk ∧ ∀ (th' : Int32) (kp' wc' sk' : Nat → Int32), IVd n (mH X K th' (nI l) ep tp (nwO nn a t) kp' wc' sk') Kb Ks K l ep th' T tp b nm s a t g q co ro nk nc nn cnt rs re := by
  obtain ⟨hC, ⟨⟨kp, wc, sk, m1⟩, m2, m3, m4, m5, f, m6⟩, hR⟩ := h
  refine ⟨kp, wc, sk, m1, fun th' kp' wc' sk' => ⟨ivC_eq hC (fun n hn => mH_o n (by omega)), ⟨⟨kp', wc', sk', mH_mH.symm⟩, mH_kM m2 m3, m3, m4, m5, f, ?_⟩, hR⟩⟩
  rw [mH_o 78 (by omega)]
  exact m6
theorem ivD_new {c : xC} {k : Nat} (h : IVd n X Kb Ks K l ep th T tp b nm s a t g q co ro nk nc nn cnt rs re) : IVd n (xnew X c k) Kb Ks K l ep th T tp b nm s a t g q co ro nk nc nn cnt rs re := by
  obtain ⟨hC, hM, hR⟩ := h
  have h78 := hM.2.2.2.2.1
  exact ⟨ivC_eq hC (fun n hn => by rw [xnew_g, if_neg (by omega)]), ivM_eq hM (fun n _ hn => by rw [xnew_g, if_neg (by omega)]) (by rw [xnew_n]; omega), hR⟩
theorem ivD_out {f : Nat → Int64} (h : IVd n X Kb Ks K l ep th T tp b nm s a t g q co ro nk nc nn cnt rs re) : IVd n (xset X 78 (xarJ 1 f)) Kb Ks K l ep th T tp b nm s a t g q co ro nk nc nn cnt rs re := by
  obtain ⟨hC, ⟨⟨kp, wc, sk, m1⟩, m2, m3, m4, m5, f', m6⟩, hR⟩ := h
  refine ⟨ivC_eq hC (fun n hn => xset_o n (by omega)), ⟨⟨kp, wc, sk, mH_of m1 (fun n _ hn => xset_o n (by omega))⟩, kM_eq m2 (fun n h1 h2 => xset_o n (by rcases m3 with z | z <;> omega)), m3, m4, m5, f, xset_s 78 rfl⟩, hR⟩
theorem rng_in {m : Nat} (h : m ≤ 6) (c : Int32) : (¬ c < 0 ∧ ¬ nI m - 1 < c) ↔ (¬ c < 0 ∧ c < nI m) := by
  rcases (show m = 0 ∨ m = 1 ∨ m = 2 ∨ m = 3 ∨ m = 4 ∨ m = 5 ∨ m = 6 by omega) with r | r | r | r | r | r | r <;> subst r
  · have e1 : (nI 0 - 1).toInt = -1 := by decide
    have e2 : (nI 0).toInt = 0 := by decide
    have e3 : (0 : Int32).toInt = 0 := by decide
    simp only [Int32.lt_iff_toInt_lt, e1, e2, e3]
    omega
  · have e1 : (nI 1 - 1).toInt = 0 := by decide
    have e2 : (nI 1).toInt = 1 := by decide
    have e3 : (0 : Int32).toInt = 0 := by decide
    simp only [Int32.lt_iff_toInt_lt, e1, e2, e3]
    omega
  · have e1 : (nI 2 - 1).toInt = 1 := by decide
    have e2 : (nI 2).toInt = 2 := by decide
    have e3 : (0 : Int32).toInt = 0 := by decide
    simp only [Int32.lt_iff_toInt_lt, e1, e2, e3]
    omega
  · have e1 : (nI 3 - 1).toInt = 2 := by decide
    have e2 : (nI 3).toInt = 3 := by decide
    have e3 : (0 : Int32).toInt = 0 := by decide
    simp only [Int32.lt_iff_toInt_lt, e1, e2, e3]
    omega
  · have e1 : (nI 4 - 1).toInt = 3 := by decide
    have e2 : (nI 4).toInt = 4 := by decide
    have e3 : (0 : Int32).toInt = 0 := by decide
    simp only [Int32.lt_iff_toInt_lt, e1, e2, e3]
    omega
  · have e1 : (nI 5 - 1).toInt = 4 := by decide
    have e2 : (nI 5).toInt = 5 := by decide
    have e3 : (0 : Int32).toInt = 0 := by decide
    simp only [Int32.lt_iff_toInt_lt, e1, e2, e3]
    omega
  · have e1 : (nI 6 - 1).toInt = 5 := by decide
    have e2 : (nI 6).toInt = 6 := by decide
    have e3 : (0 : Int32).toInt = 0 := by decide
    simp only [Int32.lt_iff_toInt_lt, e1, e2, e3]
    omega
theorem rng_ex {m : Nat} (h : m ≤ 6) {c : Int32} (h1 : ¬ c < 0) (h2 : c < nI m) : ∃ i, i < m ∧ c = nI i := by
  have e3 : (0 : Int32).toInt = 0 := by decide
  have e4 : (nI m).toInt = m := by
    rcases (show m = 0 ∨ m = 1 ∨ m = 2 ∨ m = 3 ∨ m = 4 ∨ m = 5 ∨ m = 6 by omega) with r | r | r | r | r | r | r <;> subst r <;> decide
  rw [Int32.lt_iff_toInt_lt] at h1 h2
  exact ⟨c.toInt.toNat, by omega, nI_tn (by omega)⟩
end STEP
