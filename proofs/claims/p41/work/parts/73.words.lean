/-! ===== words as numbers ===== -/
section WORDS
variable {T : Nat → Nat} {l : Nat} {wd : Nat → Int64} {m : Nat} {nn : Nat}
/-- a word's number over a base, out of its letters -/
def eNb (b : Nat) : List Nat → Nat → Nat
  | [], z => z
  | y :: L, z => eNb b L (z * b + y)
theorem eNb_snoc {b y : Nat} : ∀ {L : List Nat} {z : Nat}, eNb b (L ++ [y]) z = eNb b L z * b + y
  | [], _ => rfl
  | _ :: L, _ => eNb_snoc (L := L)
def okL (L : List Nat) : Prop := ∀ y, y ∈ L → 1 ≤ y ∧ y ≤ 26
theorem eNb_inj {b : Nat} (hb : 27 ≤ b) : ∀ n (L M : List Nat), L.length ≤ n → okL L → okL M → eNb b L 0 = eNb b M 0 → L = M := by
  intro n
  induction n with
  | zero =>
    intro L M hn hL hM e
    have hL0 : L = [] := List.length_eq_zero_iff.mp (by omega)
    subst hL0
    rcases List.eq_nil_or_concat M with h | ⟨A, y, h⟩
    · exact h.symm
    · rw [List.concat_eq_append] at h
      subst h
      rw [eNb_snoc] at e
      have h1 := (hM y (by simp)).1
      have e' : 0 = eNb b A 0 * b + y := e
      omega
  | succ n ih =>
    intro L M hn hL hM e
    rcases List.eq_nil_or_concat L with h | ⟨A, y, h⟩
    · subst h
      rcases List.eq_nil_or_concat M with h | ⟨A, y, h⟩
      · exact h.symm
      · rw [List.concat_eq_append] at h
        subst h
        rw [eNb_snoc] at e
        have h1 := (hM y (by simp)).1
        have e' : 0 = eNb b A 0 * b + y := e
        omega
    · rw [List.concat_eq_append] at h
      subst h
      have h1 := hL y (by simp)
      rcases List.eq_nil_or_concat M with h | ⟨A', y', h⟩
      · subst h
        rw [eNb_snoc] at e
        have e' : eNb b A 0 * b + y = 0 := e
        omega
      · rw [List.concat_eq_append] at h
        subst h
        have h2 := hM y' (by simp)
        rw [eNb_snoc, eNb_snoc] at e
        have m1 := congrArg (· % b) e
        have m2 := congrArg (· / b) e
        simp only [Nat.mul_add_mod_self_right, Nat.mod_eq_of_lt (show y < b by omega), Nat.mod_eq_of_lt (show y' < b by omega)] at m1
        simp only [Nat.mul_comm _ b, Nat.mul_add_div (show 0 < b by omega), Nat.div_eq_of_lt (show y < b by omega), Nat.div_eq_of_lt (show y' < b by omega), Nat.add_zero] at m2
        have hA := ih A A' (by simp at hn; omega) (fun q hq => hL q (by simp [hq])) (fun q hq => hM q (by simp [hq])) m2
        rw [hA, m1]
theorem eNb_lt {b : Nat} (hb : 27 ≤ b) : ∀ (L : List Nat) (z : Nat), okL L → eNb b L z < (z + 1) * b ^ L.length
  | [], z, _ => by show z < (z + 1) * 1; omega
  | y :: L, z, h => by
    have h1 := h y (by simp)
    have h2 := eNb_lt hb L (z * b + y) (fun q hq => h q (by simp [hq]))
    have h3 : (z * b + y + 1) * b ^ L.length ≤ ((z + 1) * b) * b ^ L.length := Nat.mul_le_mul_right _ (by rw [Nat.add_mul]; omega)
    show eNb b L (z * b + y) < (z + 1) * b ^ (L.length + 1)
    rw [Nat.pow_succ, Nat.mul_comm (b ^ L.length) b, ← Nat.mul_assoc]
    omega
def lN2 (n : Nat) : Int64 := Int64.ofNat n
theorem lN2_inj {a b : Nat} (ha : a < 2 ^ 62) (hb : b < 2 ^ 62) (h : lN2 a = lN2 b) : a = b := by
  have e := congrArg Int64.toInt h
  unfold lN2 at e
  rw [Int64.toInt_ofNat_of_lt (by omega), Int64.toInt_ofNat_of_lt (by omega)] at e
  omega
theorem lN2_a (a b : Nat) : lN2 a + lN2 b = lN2 (a + b) := (Int64.ofNat_add a b).symm
theorem lN2_m (a b : Nat) : lN2 a * lN2 b = lN2 (a * b) := (Int64.ofNat_mul a b).symm
/-- a token's letters -/
def ltT (T : Nat → Nat) : Nat → Nat → List Nat
  | _, 0 => []
  | i, m + 1 => (T i - 96) :: ltT T (i + 1) m
theorem let_32 : ∀ n, n < 123 → 97 ≤ n → (nI n &&& 31).toInt64 = lN2 (n - 96) ∧ (sb n).toInt64 = lN2 n := by
  unfold lN2
  decide +kernel
/-- the words -/
def wrds : List (List Nat) := [[98, 97, 121], [107, 101, 116, 116, 108, 101], [115, 116, 101, 97, 109, 115], [99, 117, 115, 116, 111, 109, 115], [99, 108, 105, 112, 112, 101, 114], [104, 111, 109, 101], [110, 111, 115, 101, 115], [115, 116, 101, 101, 114, 115], [105, 102], [116, 104, 101, 110], [101, 108, 115, 101], [111, 114], [97, 110, 100], [110, 111, 116], [108, 101, 97, 115, 116], [109, 111, 115, 116], [110, 111, 114, 116, 104], [101, 97, 115, 116], [115, 111, 117, 116, 104], [119, 101, 115, 116], [104, 101, 114, 101], [98, 101, 115, 116], [108, 101, 97, 102], [104, 111, 117, 114], [119, 105, 110, 100], [102, 111, 114, 99, 101]]
def wlet (i : Nat) : List Nat := (wrds.getD i []).map (fun v => v - 96)
def W32 (i : Nat) : Int64 := lN2 (eNb 32 (wlet i) 0)
theorem e_lt {b n : Nat} {L : List Nat} (hb : 27 ≤ b) (hb2 : b ≤ 32) (hL : okL L) (hn : L.length ≤ 8) : eNb b L 0 < 2 ^ 62 := by
  have h1 := eNb_lt hb L 0 hL
  have h2 : b ^ L.length ≤ 32 ^ 8 := Nat.le_trans (Nat.pow_le_pow_left hb2 _) (Nat.pow_le_pow_right (by omega) hn)
  have h3 : (32 : Nat) ^ 8 < 2 ^ 62 := by decide
  omega
theorem e_inj {b : Nat} {L M : List Nat} (hb : 27 ≤ b) (hb2 : b ≤ 32) (hL : okL L) (hn : L.length ≤ 8) (hM : okL M) (hm : M.length ≤ 8) : (lN2 (eNb b L 0) = lN2 (eNb b M 0)) ↔ L = M := by
  constructor
  · intro h
    exact eNb_inj hb L.length L M (Nat.le_refl _) hL hM (lN2_inj (e_lt (n := 0) hb hb2 hL hn) (e_lt (n := 0) hb hb2 hM hm) h)
  · intro h; rw [h]
def sxK (k : bkS) : Nat → Int32 := six k.2.2.1.1 k.2.2.1.2 (nI k.2.2.2.1) (nI k.2.2.2.2.1) (nI k.2.2.2.2.2.1) (nI k.2.2.2.2.2.2)
theorem rng_in {m : Nat} (h : m ≤ 6) (c : Int32) : (¬ c < 0 ∧ ¬ nI m - 1 < c) ↔ (¬ c < 0 ∧ c < nI m) := by
  rcases (show m = 0 ∨ m = 1 ∨ m = 2 ∨ m = 3 ∨ m = 4 ∨ m = 5 ∨ m = 6 by omega) with r | r | r | r | r | r | r <;> subst r
  · have e1 : (nI 0 - 1).toInt = -1 := by decide
    have e2 : (nI 0).toInt = 0 := by decide
    have e3 : (0 : Int32).toInt = 0 := by decide
    simp only [Int32.lt_iff_toInt_lt, e1, e2, e3]
    omega
  · have e1 : (nI 1 - 1).toInt = 0 := by decide
    have e2 : (nI 1).toInt = 1 := by decide
    have e3 : (0 : Int32).toInt = 0 := by decide
    simp only [Int32.lt_iff_toInt_lt, e1, e2, e3]
    omega
  · have e1 : (nI 2 - 1).toInt = 1 := by decide
    have e2 : (nI 2).toInt = 2 := by decide
    have e3 : (0 : Int32).toInt = 0 := by decide
    simp only [Int32.lt_iff_toInt_lt, e1, e2, e3]
    omega
  · have e1 : (nI 3 - 1).toInt = 2 := by decide
    have e2 : (nI 3).toInt = 3 := by decide
    have e3 : (0 : Int32).toInt = 0 := by decide
    simp only [Int32.lt_iff_toInt_lt, e1, e2, e3]
    omega
  · have e1 : (nI 4 - 1).toInt = 3 := by decide
    have e2 : (nI 4).toInt = 4 := by decide
    have e3 : (0 : Int32).toInt = 0 := by decide
    simp only [Int32.lt_iff_toInt_lt, e1, e2, e3]
    omega
  · have e1 : (nI 5 - 1).toInt = 4 := by decide
    have e2 : (nI 5).toInt = 5 := by decide
    have e3 : (0 : Int32).toInt = 0 := by decide
    simp only [Int32.lt_iff_toInt_lt, e1, e2, e3]
    omega
  · have e1 : (nI 6 - 1).toInt = 5 := by decide
    have e2 : (nI 6).toInt = 6 := by decide
    have e3 : (0 : Int32).toInt = 0 := by decide
    simp only [Int32.lt_iff_toInt_lt, e1, e2, e3]
    omega
theorem rng_ex {m : Nat} (h : m ≤ 6) {c : Int32} (h1 : ¬ c < 0) (h2 : c < nI m) : ∃ i, i < m ∧ c = nI i := by
  have e3 : (0 : Int32).toInt = 0 := by decide
  have e4 : (nI m).toInt = m := by
    rcases (show m = 0 ∨ m = 1 ∨ m = 2 ∨ m = 3 ∨ m = 4 ∨ m = 5 ∨ m = 6 by omega) with r | r | r | r | r | r | r <;> subst r <;> decide
  rw [Int32.lt_iff_toInt_lt] at h1 h2
  exact ⟨c.toInt.toNat, by omega, nI_tn (by omega)⟩
theorem cl_no {i : Nat} (hi : i < nn) (h6 : nn ≤ 6) : ¬ (nI i < 0 ∨ ¬ nI i < nI nn) := by
  rw [nI_n0 i (by omega), n_lt (by omega) (by omega)]
  exact fun r => r.elim id (fun z => z hi)
theorem ne_1 : ((1 : Int32) = 0) = False := eq_false (by decide)
/-- the sum of the points -/
def sumP (f : Nat → Int32) : Nat → Nat → Int32 → Int32
  | _, 0, z => z
  | i, m + 1, z => sumP f (i + 1) m (z + f i)
section NW
variable {H : xH}
theorem xnw_s {H : xH} {c c' : xC} {k : Nat} (a : Nat) (h : a = H.2.1) : xset (xnew H c k) a c' = xnew H c' k := by
  subst h
  unfold xset xnew
  refine Prod.ext (funext fun n => ?_) rfl
  dsimp only [xup]
  split <;> rfl
theorem xnw_o {H : xH} {c c' : xC} {k : Nat} (a : Nat) (h : ¬ a = H.2.1) : xset (xnew H c k) a c' = xnew (xset H a c') c k := by
  unfold xset xnew
  refine Prod.ext (funext fun n => ?_) rfl
  dsimp only [xup]
  by_cases p : n = a
  · rw [if_pos p, if_neg (by omega), if_pos p]
  · rw [if_neg p, if_neg p]
theorem xnf_s {H : xH} {fs : List Value} {ci k : Nat} (a : Nat) (h : a = H.2.1) : xfls (xnew H (.inr (ci, fs)) k) a ci = fs := xf_of (by rw [xnew_g, if_pos h])
theorem xnf_o {H : xH} {c : xC} {ci k : Nat} (a : Nat) (h : ¬ a = H.2.1) : xfls (xnew H c k) a ci = xfls H a ci := by
  unfold xfls
  rw [xnew_g, if_neg h]
end NW
end WORDS
