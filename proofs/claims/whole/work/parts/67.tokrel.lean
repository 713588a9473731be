/-! ===== both cut a tape alike ===== -/
section TOKREL
variable {T : Nat → Nat} {l : Nat} {wd : Nat → Int64}
/-- a word's number over a base, out of its letters -/
def eNb (b : Nat) : List Nat → Nat → Nat
  | [], z => z
  | y :: L, z => eNb b L (z * b + y)
theorem eNb_snoc {b y : Nat} : ∀ {L : List Nat} {z : Nat}, eNb b (L ++ [y]) z = eNb b L z * b + y
  | [], _ => rfl
  | _ :: L, _ => eNb_snoc (L := L)
def okL (L : List Nat) : Prop := ∀ y, y ∈ L → 1 ≤ y ∧ y ≤ 26
theorem eNb_inj {b : Nat} (hb : 27 ≤ b) : ∀ n (L M : List Nat), L.length ≤ n → okL L → okL M → eNb b L 0 = eNb b M 0 → L = M := by
  intro n
  induction n with
  | zero =>
    intro L M hn hL hM e
    have hL0 : L = [] := List.length_eq_zero_iff.mp (by omega)
    subst hL0
    rcases List.eq_nil_or_concat M with h | ⟨A, y, h⟩
    · exact h.symm
    · rw [List.concat_eq_append] at h
      subst h
      rw [eNb_snoc] at e
      have h1 := (hM y (by simp)).1
      have e' : 0 = eNb b A 0 * b + y := e
      omega
  | succ n ih =>
    intro L M hn hL hM e
    rcases List.eq_nil_or_concat L with h | ⟨A, y, h⟩
    · subst h
      rcases List.eq_nil_or_concat M with h | ⟨A, y, h⟩
      · exact h.symm
      · rw [List.concat_eq_append] at h
        subst h
        rw [eNb_snoc] at e
        have h1 := (hM y (by simp)).1
        have e' : 0 = eNb b A 0 * b + y := e
        omega
    · rw [List.concat_eq_append] at h
      subst h
      have h1 := hL y (by simp)
      rcases List.eq_nil_or_concat M with h | ⟨A', y', h⟩
      · subst h
        rw [eNb_snoc] at e
        have e' : eNb b A 0 * b + y = 0 := e
        omega
      · rw [List.concat_eq_append] at h
        subst h
        have h2 := hM y' (by simp)
        rw [eNb_snoc, eNb_snoc] at e
        have m1 := congrArg (· % b) e
        have m2 := congrArg (· / b) e
        simp only [Nat.mul_add_mod_self_right, Nat.mod_eq_of_lt (show y < b by omega), Nat.mod_eq_of_lt (show y' < b by omega)] at m1
        simp only [Nat.mul_comm _ b, Nat.mul_add_div (show 0 < b by omega), Nat.div_eq_of_lt (show y < b by omega), Nat.div_eq_of_lt (show y' < b by omega), Nat.add_zero] at m2
        have hA := ih A A' (by simp at hn; omega) (fun q hq => hL q (by simp [hq])) (fun q hq => hM q (by simp [hq])) m2
        rw [hA, m1]
theorem eNb_lt {b : Nat} (hb : 27 ≤ b) : ∀ (L : List Nat) (z : Nat), okL L → eNb b L z < (z + 1) * b ^ L.length
  | [], z, _ => by show z < (z + 1) * 1; omega
  | y :: L, z, h => by
    have h1 := h y (by simp)
    have h2 := eNb_lt hb L (z * b + y) (fun q hq => h q (by simp [hq]))
    have h3 : (z * b + y + 1) * b ^ L.length ≤ ((z + 1) * b) * b ^ L.length := Nat.mul_le_mul_right _ (by rw [Nat.add_mul]; omega)
    show eNb b L (z * b + y) < (z + 1) * b ^ (L.length + 1)
    rw [Nat.pow_succ, Nat.mul_comm (b ^ L.length) b, ← Nat.mul_assoc]
    omega
def lN2 (n : Nat) : Int64 := Int64.ofNat n
theorem lN2_inj {a b : Nat} (ha : a < 2 ^ 62) (hb : b < 2 ^ 62) (h : lN2 a = lN2 b) : a = b := by
  have e := congrArg Int64.toInt h
  unfold lN2 at e
  rw [Int64.toInt_ofNat_of_lt (by omega), Int64.toInt_ofNat_of_lt (by omega)] at e
  omega
theorem lN2_a (a b : Nat) : lN2 a + lN2 b = lN2 (a + b) := (Int64.ofNat_add a b).symm
theorem lN2_m (a b : Nat) : lN2 a * lN2 b = lN2 (a * b) := (Int64.ofNat_mul a b).symm
/-- a token's letters -/
def ltT (T : Nat → Nat) : Nat → Nat → List Nat
  | _, 0 => []
  | i, m + 1 => (T i - 96) :: ltT T (i + 1) m
theorem let_32 : ∀ n, n < 123 → 97 ≤ n → (nI n &&& 31).toInt64 = lN2 (n - 96) ∧ (sb n).toInt64 = lN2 n := by
  unfold lN2
  decide +kernel
theorem dig_32 : ∀ n, n < 58 → 48 ≤ n → (nI n - 48).toInt64 = lN2 (n - 48) ∧ sb n = nI n := by
  unfold lN2
  decide +kernel
theorem ltT_ok : ∀ m i, (∀ j, i ≤ j → j < i + m → pL T l j = true) → okL (ltT T i m)
  | 0, _, _ => fun _ h => absurd h (by simp [ltT])
  | m + 1, i, h => fun y hy => by
    have h0 : tL T l i := of_decide_eq_true (h i (Nat.le_refl _) (by omega))
    simp only [ltT, List.mem_cons] at hy
    rcases hy with hy | hy
    · obtain ⟨a, b, c⟩ := h0
      omega
    · exact ltT_ok m (i + 1) (fun j a b => h j (by omega) (by omega)) y hy
theorem ltT_len : ∀ m i, (ltT T i m).length = m
  | 0, _ => rfl
  | m + 1, i => by show (ltT T (i + 1) m).length + 1 = m + 1; rw [ltT_len]
theorem vlo_w : ∀ m i z, (∀ j, i ≤ j → j < i + m → pL T l j = true) → vlo T l m i (lN2 z) = lN2 (eNb 32 (ltT T i m) z) := by
  intro m
  induction m with
  | zero => intro i z h; rfl
  | succ m ih =>
    intro i z h
    have h0 : tL T l i := of_decide_eq_true (h i (Nat.le_refl _) (by omega))
    have hd : pD T l i = false := pD_f (fun w => by have := h0.2; have := w.2; omega)
    have e := (let_32 (T i) (by have := h0.2.2; omega) h0.2.1).1
    have eb : bA T l i = nI (T i) := if_pos h0.1
    show vlo T l m (i + 1) (if pD T l i = true then lN2 z * 10 + (bA T l i - 48).toInt64 else lN2 z * 32 + (bA T l i &&& 31).toInt64) = lN2 (eNb 32 (ltT T (i + 1) m) (z * 32 + (T i - 96)))
    rw [hd, if_neg Bool.false_ne_true, eb, e, show (32 : Int64) = lN2 32 from rfl, lN2_m, lN2_a]
    exact ih (i + 1) _ (fun j a b => h j (by omega) (by omega))
theorem wlP_w (a : Nat) : ∀ m i z t, (∀ j, i ≤ j → j < i + m → pL T l j = true) → i + m ≤ a + 9 → (pL T l (i + m) = false ∨ i + m = a + 9) → wlP T l a (m + t + 1) i (lN2 z) = (i + m, lN2 (eNb 27 (ltT T i m) z)) := by
  intro m
  induction m with
  | zero =>
    intro i z t h h9 hs
    rw [show 0 + t + 1 = t + 1 by omega]
    unfold wlP
    rw [if_neg]
    · rfl
    · intro w
      rcases hs with hs | hs
      · rw [Nat.add_zero] at hs
        rw [hs] at w
        exact absurd w.1 Bool.false_ne_true
      · omega
  | succ m ih =>
    intro i z t h h9 hs
    have h0 := h i (Nat.le_refl _) (by omega)
    have h0' : tL T l i := of_decide_eq_true h0
    have e := (let_32 (T i) (by have := h0'.2.2; omega) h0'.2.1).2
    rw [show m + 1 + t + 1 = (m + t + 1) + 1 by omega]
    unfold wlP
    rw [if_pos ⟨h0, by omega⟩]
    have ez : 27 * lN2 z + (sb (T i)).toInt64 - 97 + 1 = lN2 (z * 27 + (T i - 96)) := by
      have h97 := h0'.2.1
      rw [e, show (27 : Int64) = lN2 27 from rfl, lN2_m, lN2_a]
      rw [show 27 * z + T i = (z * 27 + (T i - 96)) + 96 by omega, ← lN2_a, show lN2 96 = (96 : Int64) from rfl]
      generalize lN2 (z * 27 + (T i - 96)) = p
      grind
    rw [ez, show i + (m + 1) = i + 1 + m by omega]
    exact ih (i + 1) _ t (fun j a b => h j (by omega) (by omega)) (by omega) (by rw [show i + 1 + m = i + (m + 1) by omega]; exact hs)
/-- a number's value -/
def nvl (T : Nat → Nat) : Nat → Nat → Nat → Nat
  | _, 0, z => z
  | i, m + 1, z => nvl T (i + 1) m (z * 10 + (T i - 48))
theorem nvl_lt : ∀ m i z, (∀ j, i ≤ j → j < i + m → pD T l j = true) → nvl T i m z < (z + 1) * 10 ^ m
  | 0, i, z, _ => by show z < (z + 1) * 1; omega
  | m + 1, i, z, h => by
    have h0 : tD T l i := of_decide_eq_true (h i (Nat.le_refl _) (by omega))
    have h2 := nvl_lt m (i + 1) (z * 10 + (T i - 48)) (fun j a b => h j (by omega) (by omega))
    have h3 : (z * 10 + (T i - 48) + 1) * 10 ^ m ≤ ((z + 1) * 10) * 10 ^ m := Nat.mul_le_mul_right _ (by have := h0.2.2; omega)
    show nvl T (i + 1) m (z * 10 + (T i - 48)) < (z + 1) * 10 ^ (m + 1)
    rw [Nat.pow_succ, Nat.mul_comm (10 ^ m) 10, ← Nat.mul_assoc]
    omega
theorem vlo_d : ∀ m i z, (∀ j, i ≤ j → j < i + m → pD T l j = true) → vlo T l m i (lN2 z) = lN2 (nvl T i m z) := by
  intro m
  induction m with
  | zero => intro i z h; rfl
  | succ m ih =>
    intro i z h
    have hd := h i (Nat.le_refl _) (by omega)
    have h0 : tD T l i := of_decide_eq_true hd
    have e := (dig_32 (T i) (by have := h0.2.2; omega) h0.2.1).1
    have eb : bA T l i = nI (T i) := if_pos h0.1
    show vlo T l m (i + 1) (if pD T l i = true then lN2 z * 10 + (bA T l i - 48).toInt64 else lN2 z * 32 + (bA T l i &&& 31).toInt64) = lN2 (nvl T (i + 1) m (z * 10 + (T i - 48)))
    rw [hd, if_pos rfl, eb, e, show (10 : Int64) = lN2 10 from rfl, lN2_m, lN2_a]
    exact ih (i + 1) _ (fun j a b => h j (by omega) (by omega))
theorem dlP_d (a : Nat) : ∀ m i z t, (∀ j, i ≤ j → j < i + m → pD T l j = true) → i + m ≤ a + 5 → (pD T l (i + m) = false ∨ i + m = a + 5) → dlP T l a (m + t + 1) i (nI z) = (i + m, nI (nvl T i m z)) := by
  intro m
  induction m with
  | zero =>
    intro i z t h h9 hs
    rw [show 0 + t + 1 = t + 1 by omega]
    unfold dlP
    rw [if_neg]
    · rfl
    · intro w
      rcases hs with hs | hs
      · rw [Nat.add_zero] at hs
        rw [hs] at w
        exact absurd w.1 Bool.false_ne_true
      · omega
  | succ m ih =>
    intro i z t h h9 hs
    have h0 := h i (Nat.le_refl _) (by omega)
    have h0' : tD T l i := of_decide_eq_true h0
    have e := (dig_32 (T i) (by have := h0'.2.2; omega) h0'.2.1).2
    rw [show m + 1 + t + 1 = (m + t + 1) + 1 by omega]
    unfold dlP
    rw [if_pos ⟨h0, by omega⟩]
    have ez : 10 * nI z + sb (T i) - 48 = nI (z * 10 + (T i - 48)) := by
      have h48 := h0'.2.1
      rw [e, show (10 : Int32) = nI 10 from rfl, nI_mu, nI_ad, show (48 : Int32) = nI 48 from rfl, nI_s (by omega), show 10 * z + T i - 48 = z * 10 + (T i - 48) by omega]
    rw [ez, show i + (m + 1) = i + 1 + m by omega]
    exact ih (i + 1) _ t (fun j a b => h j (by omega) (by omega)) (by omega) (by rw [show i + 1 + m = i + (m + 1) by omega]; exact hs)
/-- where a scan ends -/
theorem scn_is {p : Nat → Bool} : ∀ m i, (∀ j, i ≤ j → j < scn p m i → p j = true) ∧ (scn p m i < i + m → p (scn p m i) = false)
  | 0, i => ⟨fun j a b => by have b' : j < i := b; omega, fun h => by have h' : i < i + 0 := h; omega⟩
  | m + 1, i => by
    unfold scn
    by_cases h : p i = true
    · rw [if_pos h]
      obtain ⟨h1, h2⟩ := scn_is (p := p) m (i + 1)
      refine ⟨fun j a b => ?_, fun w => h2 (by omega)⟩
      by_cases q : j = i
      · rw [q]; exact h
      · exact h1 j (by omega) b
    · rw [if_neg h]
      exact ⟨fun j a b => by omega, fun _ => by cases e : p i; rfl; exact absurd e h⟩
theorem pL_l {i : Nat} (h : l ≤ i) : pL T l i = false := pL_f (fun w => by have := w.1; omega)
theorem pD_l {i : Nat} (h : l ≤ i) : pD T l i = false := pD_f (fun w => by have := w.1; omega)
/-- a word's end, in both -/
theorem eot_w {a : Nat} (h : pL T l a = true) : ∃ n, 1 ≤ n ∧ eot T l a = a + n ∧ a + n ≤ l ∧ (∀ j, a ≤ j → j < a + n → pL T l j = true) ∧ pL T l (a + n) = false := by
  have hl : tL T l a := of_decide_eq_true h
  have e : eot T l a = scn (pL T l) (l - (a + 1)) (a + 1) := if_pos h
  obtain ⟨h1, h2⟩ := scn_is (p := pL T l) (l - (a + 1)) (a + 1)
  have h3 := scn_le (p := pL T l) (l - (a + 1)) (a + 1)
  have hl1 := hl.1
  refine ⟨eot T l a - a, by omega, by omega, by omega, fun j b c => ?_, ?_⟩
  · by_cases q : j = a
    · rw [q]; exact h
    · exact h1 j (by omega) (by omega)
  · rw [show a + (eot T l a - a) = eot T l a by omega, e]
    by_cases q : scn (pL T l) (l - (a + 1)) (a + 1) < a + 1 + (l - (a + 1))
    · exact h2 q
    · exact pL_l (by omega)
theorem eot_d {a : Nat} (h : pD T l a = true) : ∃ n, 1 ≤ n ∧ eot T l a = a + n ∧ a + n ≤ l ∧ (∀ j, a ≤ j → j < a + n → pD T l j = true) ∧ pD T l (a + n) = false := by
  have hl : tD T l a := of_decide_eq_true h
  have hnl : ¬ pL T l a = true := by
    rw [pL_f (fun w => by have := w.2.1; have := hl.2.2; omega)]
    exact Bool.false_ne_true
  have e : eot T l a = scn (pD T l) (l - (a + 1)) (a + 1) := (if_neg hnl).trans (if_pos h)
  obtain ⟨h1, h2⟩ := scn_is (p := pD T l) (l - (a + 1)) (a + 1)
  have h3 := scn_le (p := pD T l) (l - (a + 1)) (a + 1)
  have hl1 := hl.1
  refine ⟨eot T l a - a, by omega, by omega, by omega, fun j b c => ?_, ?_⟩
  · by_cases q : j = a
    · rw [q]; exact h
    · exact h1 j (by omega) (by omega)
  · rw [show a + (eot T l a - a) = eot T l a by omega, e]
    by_cases q : scn (pD T l) (l - (a + 1)) (a + 1) < a + 1 + (l - (a + 1))
    · exact h2 q
    · exact pD_l (by omega)
theorem wrd_s {a n : Nat} (hn : n ≤ 8) (h1 : ∀ j, a ≤ j → j < a + n → pL T l j = true) (h2 : pL T l (a + n) = false) : wrd T l a = (a + n, lN2 (eNb 27 (ltT T a n) 0)) := by
  have := wlP_w (T := T) (l := l) a n a 0 (9 - n) h1 (by omega) (Or.inl h2)
  rw [show n + (9 - n) + 1 = 10 by omega] at this
  exact this
theorem wrd_l {a n : Nat} (hn : 8 < n) (h1 : ∀ j, a ≤ j → j < a + n → pL T l j = true) : (wrd T l a).1 = a + 9 := by
  have := wlP_w (T := T) (l := l) a 9 a 0 0 (fun j b c => h1 j b (by omega)) (by omega) (Or.inr rfl)
  exact congrArg Prod.fst this
theorem dig_s {a n : Nat} (hn : n ≤ 4) (h1 : ∀ j, a ≤ j → j < a + n → pD T l j = true) (h2 : pD T l (a + n) = false) : dig T l a = (a + n, nI (nvl T a n 0)) := by
  have := dlP_d (T := T) (l := l) a n a 0 (5 - n) h1 (by omega) (Or.inl h2)
  rw [show n + (5 - n) + 1 = 6 by omega] at this
  exact this
theorem dig_l {a n : Nat} (hn : 4 < n) (h1 : ∀ j, a ≤ j → j < a + n → pD T l j = true) : (dig T l a).1 = a + 5 := by
  have := dlP_d (T := T) (l := l) a 5 a 0 0 (fun j b c => h1 j b (by omega)) (by omega) (Or.inr rfl)
  exact congrArg Prod.fst this
end TOKREL
