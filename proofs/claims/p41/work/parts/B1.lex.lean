/-! ===== a text out of tokens, and how it is cut ===== -/
section LEX
variable {T : Nat → Nat} {l : Nat} {wd : Nat → Int64}
/-- a number's digits -/
def dcL (n : Nat) : List Nat := if n < 10 then [48 + n] else if n < 100 then [48 + n / 10, 48 + n % 10] else if n < 1000 then [48 + n / 100, 48 + n / 10 % 10, 48 + n % 10] else [48 + n / 1000, 48 + n / 100 % 10, 48 + n / 10 % 10, 48 + n % 10]
/-- a blank ahead, kind, value -/
abbrev tok : Type := Bool × Nat × Nat
def wby (i : Nat) : List Nat := wrds.getD i []
def tby (t : tok) : List Nat := if t.2.1 = 2 then dcL t.2.2 else if t.2.1 = 3 then [99, 97 + t.2.2] else if 100 ≤ t.2.1 then wby (t.2.1 - 100) else [t.2.1]
def sgs : List Nat := [40, 41, 59, 44, 60, 62, 61, 43, 45, 42, 47, 37]
def tkO (t : tok) : Prop := (t.2.1 = 2 ∧ t.2.2 ≤ 9999) ∨ (t.2.1 = 3 ∧ t.2.2 < 6) ∨ (100 ≤ t.2.1 ∧ t.2.1 < 126) ∨ t.2.1 ∈ sgs
/-- 1 letters, 2 digits, 0 a sign -/
def tcl (t : tok) : Nat := if t.2.1 = 2 then 2 else if t.2.1 = 3 then 1 else if 100 ≤ t.2.1 then 1 else 0
def bln (b : Bool) : List Nat := if b = true then [32] else []
def txt : List tok → List Nat
  | [] => []
  | t :: r => bln t.1 ++ (tby t ++ txt r)
theorem txt_app : ∀ {A B : List tok}, txt (A ++ B) = txt A ++ txt B
  | [], _ => rfl
  | t :: A, B => by
    show bln t.1 ++ (tby t ++ txt (A ++ B)) = (bln t.1 ++ (tby t ++ txt A)) ++ txt B
    rw [txt_app (A := A)]
    simp
/-- tokens stand apart: c is the class of what stands ahead -/
def adjF : Nat → List tok → Prop
  | _, [] => True
  | c, t :: r => (t.1 = true ∨ c = 0 ∨ ¬ c = tcl t) ∧ adjF (tcl t) r
def lcl : Nat → List tok → Nat
  | c, [] => c
  | _, t :: r => lcl (tcl t) r
theorem adj_app : ∀ {A B : List tok} {c : Nat}, adjF c A → adjF (lcl c A) B → adjF c (A ++ B)
  | [], _, _, _, h => h
  | _ :: _, _, _, h, h2 => ⟨h.1, adj_app h.2 h2⟩
theorem lcl_app : ∀ {A B : List tok} {c : Nat}, lcl c (A ++ B) = lcl (lcl c A) B
  | [], _, _ => rfl
  | t :: A, B, c => lcl_app (A := A) (B := B) (c := tcl t)
def allO (L : List tok) : Prop := ∀ t ∈ L, tkO t
theorem allO_app {A B : List tok} (ha : allO A) (hb : allO B) : allO (A ++ B) := fun t ht => (List.mem_append.mp ht).elim (ha t) (hb t)
/-- the letters L stand at p -/
def mat (T : Nat → Nat) (p : Nat) (L : List Nat) : Prop := ∀ j, j < L.length → T (p + j) = L.getD j 0
theorem mat_app {p : Nat} {A B : List Nat} : mat T p (A ++ B) ↔ mat T p A ∧ mat T (p + A.length) B := by
  constructor
  · intro h
    refine ⟨fun j hj => ?_, fun j hj => ?_⟩
    · rw [h j (by simp; omega), List.getD_eq_getElem?_getD, List.getElem?_append_left hj, ← List.getD_eq_getElem?_getD]
    · rw [Nat.add_assoc, h (A.length + j) (by simp; omega), List.getD_eq_getElem?_getD, List.getElem?_append_right (by omega), ← List.getD_eq_getElem?_getD, show A.length + j - A.length = j by omega]
  · intro h j hj
    rw [List.length_append] at hj
    by_cases q : j < A.length
    · rw [h.1 j q, List.getD_eq_getElem?_getD, List.getD_eq_getElem?_getD, List.getElem?_append_left q]
    · have := h.2 (j - A.length) (by omega)
      rw [show p + A.length + (j - A.length) = p + j by omega] at this
      rw [this, List.getD_eq_getElem?_getD, List.getD_eq_getElem?_getD, List.getElem?_append_right (by omega)]
theorem mat_cons {p c : Nat} {B : List Nat} : mat T p (c :: B) ↔ T p = c ∧ mat T (p + 1) B := by
  have h := mat_app (T := T) (p := p) (A := [c]) (B := B)
  have e : mat T p [c] ↔ T p = c := ⟨fun h => h 0 (by simp), fun h j hj => by
    have : j = 0 := by simp at hj; omega
    subst this; exact h⟩
  rw [e] at h
  exact h
theorem scn_run {p : Nat → Bool} {e : Nat} (he : p e = false) : ∀ m i, i ≤ e → e ≤ i + m → (∀ j, i ≤ j → j < e → p j = true) → scn p m i = e
  | 0, i, h1, h2, _ => by show i = e; omega
  | m + 1, i, h1, h2, h3 => by
    show (if p i = true then scn p m (i + 1) else i) = e
    by_cases q : i = e
    · subst q; rw [he]; exact if_neg (by decide)
    · rw [if_pos (h3 i (Nat.le_refl _) (by omega))]
      exact scn_run he m (i + 1) (by omega) (by omega) (fun j a b => h3 j (by omega) b)
theorem wb_ok : ∀ i, i < 26 → 1 ≤ (wby i).length ∧ (wby i).length ≤ 8 ∧ ∀ c ∈ wby i, 97 ≤ c ∧ c ≤ 122 := by
  unfold wby
  decide +kernel
theorem dc_ok {n : Nat} (h : n ≤ 9999) : 1 ≤ (dcL n).length ∧ (dcL n).length ≤ 4 ∧ ∀ c ∈ dcL n, 48 ≤ c ∧ c ≤ 57 := by
  unfold dcL
  split
  · refine ⟨by simp, by simp, fun c hc => ?_⟩
    simp only [List.mem_cons, List.not_mem_nil, or_false] at hc
    omega
  split
  · refine ⟨by simp, by simp, fun c hc => ?_⟩
    simp only [List.mem_cons, List.not_mem_nil, or_false] at hc
    omega
  split
  · refine ⟨by simp, by simp, fun c hc => ?_⟩
    simp only [List.mem_cons, List.not_mem_nil, or_false] at hc
    omega
  · refine ⟨by simp, by simp, fun c hc => ?_⟩
    simp only [List.mem_cons, List.not_mem_nil, or_false] at hc
    omega
theorem sg_in : ∀ c ∈ sgs, c < 128 ∧ ¬ (97 ≤ c ∧ c ≤ 122) ∧ ¬ (48 ≤ c ∧ c ≤ 57) ∧ ¬ c = 32 ∧ ¬ c = 10 ∧ ¬ c = 2 ∧ ¬ c = 3 ∧ ¬ 100 ≤ c := by decide
/-- what a token's letters are -/
theorem tby_ok {t : tok} (h : tkO t) : (tcl t = 1 ∧ 1 ≤ (tby t).length ∧ (tby t).length ≤ 8 ∧ (∀ c ∈ tby t, 97 ≤ c ∧ c ≤ 122) ∧ (t.2.1 = 3 ∨ 100 ≤ t.2.1)) ∨ (tcl t = 2 ∧ 1 ≤ (tby t).length ∧ (tby t).length ≤ 4 ∧ (∀ c ∈ tby t, 48 ≤ c ∧ c ≤ 57) ∧ t.2.1 = 2 ∧ t.2.2 ≤ 9999) ∨ (tcl t = 0 ∧ tby t = [t.2.1] ∧ t.2.1 ∈ sgs) := by
  rcases h with ⟨h1, h2⟩ | ⟨h1, h2⟩ | ⟨h1, h2⟩ | h1
  · right; left
    obtain ⟨a, b, c⟩ := dc_ok h2
    unfold tcl tby
    rw [if_pos h1, if_pos h1]
    exact ⟨rfl, a, b, c, h1, h2⟩
  · left
    unfold tcl tby
    rw [if_neg (by omega), if_pos h1, if_neg (by omega), if_pos h1]
    refine ⟨rfl, by simp, by simp, fun c hc => ?_, Or.inl h1⟩
    simp only [List.mem_cons, List.not_mem_nil, or_false] at hc
    omega
  · left
    obtain ⟨a, b, c⟩ := wb_ok (t.2.1 - 100) (by omega)
    unfold tcl tby
    rw [if_neg (by omega), if_neg (by omega), if_pos h1, if_neg (by omega), if_neg (by omega), if_pos h1]
    exact ⟨rfl, a, b, c, Or.inr h1⟩
  · right; right
    obtain ⟨-, -, -, -, -, a, b, c⟩ := sg_in _ h1
    unfold tcl tby
    rw [if_neg a, if_neg b, if_neg c, if_neg a, if_neg b, if_neg c]
    exact ⟨rfl, rfl, h1⟩
theorem getD_mem {L : List Nat} {j : Nat} (h : j < L.length) : L.getD j 0 ∈ L := by
  rw [List.getD_eq_getElem?_getD, List.getElem?_eq_getElem h]
  exact List.getElem_mem h
/-- the class of a place: its letter -/
theorem cls_L {p : Nat} {w : List Nat} (hm : mat T p w) (hw : ∀ c ∈ w, 97 ≤ c ∧ c ≤ 122) (hl : p + w.length ≤ l) : ∀ j, p ≤ j → j < p + w.length → pL T l j = true ∧ pD T l j = false ∧ pB T l j = false := by
  intro j a b
  have h1 := hm (j - p) (by omega)
  rw [show p + (j - p) = j by omega] at h1
  have h2 := hw _ (getD_mem (L := w) (j := j - p) (by omega))
  rw [← h1] at h2
  refine ⟨pL_t ⟨by omega, h2⟩, pD_f (fun q => ?_), pB_f (fun q => ?_)⟩
  · have := q.2; omega
  · have := q.2; omega
theorem cls_D {p : Nat} {w : List Nat} (hm : mat T p w) (hw : ∀ c ∈ w, 48 ≤ c ∧ c ≤ 57) (hl : p + w.length ≤ l) : ∀ j, p ≤ j → j < p + w.length → pL T l j = false ∧ pD T l j = true ∧ pB T l j = false := by
  intro j a b
  have h1 := hm (j - p) (by omega)
  rw [show p + (j - p) = j by omega] at h1
  have h2 := hw _ (getD_mem (L := w) (j := j - p) (by omega))
  rw [← h1] at h2
  refine ⟨pL_f (fun q => ?_), pD_t ⟨by omega, h2⟩, pB_f (fun q => ?_)⟩
  · have := q.2; omega
  · have := q.2; omega
theorem vlo_L : ∀ (w : List Nat) (i z : Nat), mat T i w → (∀ c ∈ w, 97 ≤ c ∧ c ≤ 122) → i + w.length ≤ l → vlo T l w.length i (lN2 z) = lN2 (eNb 32 (w.map (fun c => c - 96)) z)
  | [], _, _, _, _, _ => rfl
  | c :: w, i, z, hm, hw, hl => by
    have h0 := (mat_cons.mp hm).1
    have h1 := hw c (by simp)
    obtain ⟨a, b, -⟩ := cls_L hm hw hl i (Nat.le_refl _) (by simp)
    rw [List.length_cons] at hl
    show vlo T l w.length (i + 1) (if pD T l i = true then lN2 z * 10 + (bA T l i - 48).toInt64 else lN2 z * 32 + (bA T l i &&& 31).toInt64) = _
    rw [b, if_neg (by decide)]
    have e : bA T l i = nI c := by unfold bA; rw [if_pos (by omega), h0]
    rw [e, (let_32 c (by omega) (by omega)).1, show (32 : Int64) = lN2 32 from rfl, lN2_m, lN2_a]
    exact vlo_L w (i + 1) _ (mat_cons.mp hm).2 (fun x hx => hw x (by simp [hx])) (by omega)
def dNb : List Nat → Nat → Nat
  | [], z => z
  | c :: w, z => dNb w (z * 10 + (c - 48))
theorem dig_64 : ∀ n, n < 58 → 48 ≤ n → (nI n - 48).toInt64 = lN2 (n - 48) := by
  unfold lN2
  decide +kernel
theorem vlo_D : ∀ (w : List Nat) (i z : Nat), mat T i w → (∀ c ∈ w, 48 ≤ c ∧ c ≤ 57) → i + w.length ≤ l → vlo T l w.length i (lN2 z) = lN2 (dNb w z)
  | [], _, _, _, _, _ => rfl
  | c :: w, i, z, hm, hw, hl => by
    have h0 := (mat_cons.mp hm).1
    have h1 := hw c (by simp)
    obtain ⟨a, b, -⟩ := cls_D hm hw hl i (Nat.le_refl _) (by simp)
    rw [List.length_cons] at hl
    show vlo T l w.length (i + 1) (if pD T l i = true then lN2 z * 10 + (bA T l i - 48).toInt64 else lN2 z * 32 + (bA T l i &&& 31).toInt64) = _
    rw [b, if_pos rfl]
    have e : bA T l i = nI c := by unfold bA; rw [if_pos (by omega), h0]
    rw [e, dig_64 c (by omega) (by omega), show (10 : Int64) = lN2 10 from rfl, lN2_m, lN2_a]
    exact vlo_D w (i + 1) _ (mat_cons.mp hm).2 (fun x hx => hw x (by simp [hx])) (by omega)
theorem dNb_dc {n : Nat} (h : n ≤ 9999) : dNb (dcL n) 0 = n := by
  unfold dcL
  split
  · show 0 * 10 + (48 + n - 48) = n; omega
  split
  · show (0 * 10 + (48 + n / 10 - 48)) * 10 + (48 + n % 10 - 48) = n; omega
  split
  · show ((0 * 10 + (48 + n / 100 - 48)) * 10 + (48 + n / 10 % 10 - 48)) * 10 + (48 + n % 10 - 48) = n; omega
  · show (((0 * 10 + (48 + n / 1000 - 48)) * 10 + (48 + n / 100 % 10 - 48)) * 10 + (48 + n / 10 % 10 - 48)) * 10 + (48 + n % 10 - 48) = n; omega
theorem kow_c {w1 w2 : Nat → Int64} {v : Int64} (h : ∀ i, i < 26 → w1 i = w2 i) : ∀ m i, i + m = 26 → kow w1 v i m = kow w2 v i m
  | 0, _, _ => rfl
  | m + 1, i, e => by
    show (if w1 i = v then 100 + nI i else kow w1 v (i + 1) m) = (if w2 i = v then 100 + nI i else kow w2 v (i + 1) m)
    rw [h i (by omega), kow_c h m (i + 1) (by omega)]
theorem kow_w : ∀ i, i < 26 → kow W32 (lN2 (eNb 32 ((wby i).map (fun c => c - 96)) 0)) 0 26 = nI (100 + i) := by
  unfold wby
  decide +kernel
theorem kow_n : ∀ v, v < 6 → kow W32 (lN2 (eNb 32 [3, 1 + v] 0)) 0 26 = 3 := by decide +kernel
theorem sg_kd : ∀ c ∈ sgs, (if sgn (sb c) 0 12 < 0 then (1 : Int32) else nI c) = nI c := by
  have h : ∀ v, sgn v 0 12 = (if v = 40 then 0 else if v = 41 then 1 else if v = 59 then 2 else if v = 44 then 3 else if v = 60 then 4 else if v = 62 then 5 else if v = 61 then 6 else if v = 43 then 7 else if v = 45 then 8 else if v = 42 then 9 else if v = 47 then 10 else if v = 37 then 11 else -1) := by
    intro v
    have e : ∀ j, tch 27 j = ([40, 41, 59, 44, 60, 62, 61, 43, 45, 42, 47, 37] : List Int32).getD j 0 := by
      intro j
      unfold tch
      rw [xtb_is]
      rfl
    simp only [sgn, e]
    simp only [List.getD_cons_zero, List.getD_cons_succ, eq_comm (b := v)]
    rfl
  simp only [h]
  decide +kernel
/-- a token's value, of numbers and names -/
def tva (t : tok) : Int64 := if t.2.1 = 2 then lN2 t.2.2 else lN2 (97 + t.2.2)
/-- one token is cut -/
theorem cut1 (hw : ∀ i, i < 26 → wd i = W32 i) {t : tok} (ht : tkO t) {p : Nat} (hm : mat T p (bln t.1 ++ tby t)) (hl : p + (bln t.1 ++ tby t).length ≤ l)
    (hn : (tcl t = 1 → pL T l (p + (bln t.1 ++ tby t).length) = false) ∧ (tcl t = 2 → pD T l (p + (bln t.1 ++ tby t).length) = false)) :
    blk T l p = p + (bln t.1).length ∧ eot T l (p + (bln t.1).length) = p + (bln t.1 ++ tby t).length ∧ p + (bln t.1).length < p + (bln t.1 ++ tby t).length ∧
    kdo T l wd (p + (bln t.1).length) (p + (bln t.1 ++ tby t).length) (vlo T l (p + (bln t.1 ++ tby t).length - (p + (bln t.1).length)) (p + (bln t.1).length) 0) = nI t.2.1 ∧
    (t.2.1 = 2 ∨ t.2.1 = 3 → vlo T l (p + (bln t.1 ++ tby t).length - (p + (bln t.1).length)) (p + (bln t.1).length) 0 = tva t) := by
  obtain ⟨m1, m2⟩ := mat_app.mp hm
  rw [List.length_append] at hl hn ⊢
  have hb : ∀ q, p + (bln t.1).length = q → pB T l q = false → blk T l p = q := by
    intro q hq hpb
    unfold blk
    refine scn_run hpb _ _ (by omega) (by omega) (fun j a b => ?_)
    have hql : q ≤ l := by omega
    unfold bln at hq m1
    cases hz : t.1 with
    | false => rw [hz] at hq; simp at hq; omega
    | true =>
      rw [hz] at hq m1
      simp at hq
      have : j = p := by omega
      subst this
      refine pB_t ⟨by omega, Or.inl ?_⟩
      exact m1 0 (by simp)
  have e0 : p + ((bln t.1).length + (tby t).length) - (p + (bln t.1).length) = (tby t).length := by omega
  rw [e0, ← Nat.add_assoc] at *
  generalize hq : p + (bln t.1).length = q at *
  rcases tby_ok ht with ⟨c1, c2, c3, c4, c5⟩ | ⟨c1, c2, c3, c4, c5, c6⟩ | ⟨c1, c2, c3⟩
  · have hc := cls_L m2 c4 hl
    obtain ⟨d1, d2, d3⟩ := hc q (Nat.le_refl _) (by omega)
    have hv : vlo T l (tby t).length q 0 = lN2 (eNb 32 ((tby t).map (fun c => c - 96)) 0) := vlo_L (tby t) q 0 m2 c4 hl
    refine ⟨hb _ rfl d3, ?_, by omega, ?_, fun h => ?_⟩
    · unfold eot
      rw [if_pos d1]
      exact scn_run (hn.1 c1) _ _ (by omega) (by omega) (fun j a b => (hc j (by omega) b).1)
    · unfold kdo
      rw [if_pos (by omega), if_pos d1, if_pos (by omega), hv, kow_c hw _ _ rfl]
      rcases c5 with c5 | c5
      · rcases ht with ⟨h1, h2⟩ | ⟨h1, h2⟩ | ⟨h1, h2⟩ | h1
        · omega
        · have e : tby t = [99, 97 + t.2.2] := by unfold tby; rw [if_neg (by omega), if_pos c5]
          rw [e, c5]
          have := kow_n t.2.2 h2
          rw [show List.map (fun c => c - 96) [99, 97 + t.2.2] = [3, 1 + t.2.2] by simp; omega]
          exact this
        · omega
        · exact absurd c5 (sg_in _ h1).2.2.2.2.2.2.1
      · rcases ht with ⟨h1, h2⟩ | ⟨h1, h2⟩ | ⟨h1, h2⟩ | h1
        · omega
        · omega
        · have e : tby t = wby (t.2.1 - 100) := by unfold tby; rw [if_neg (by omega), if_neg (by omega), if_pos c5]
          rw [e, kow_w _ (by omega)]
          congr 1
          omega
        · exact absurd c5 (sg_in _ h1).2.2.2.2.2.2.2
    · have h3 : t.2.1 = 3 := by
        rcases h with h | h
        · unfold tcl at c1; rw [if_pos h] at c1; omega
        · exact h
      have e : tby t = [99, 97 + t.2.2] := by unfold tby; rw [if_neg (by omega), if_pos h3]
      rw [hv, e]
      unfold tva
      rw [if_neg (by omega)]
      show lN2 (eNb 32 [99 - 96, 97 + t.2.2 - 96] 0) = _
      congr 1
      show (0 * 32 + (99 - 96)) * 32 + (97 + t.2.2 - 96) = _
      omega
  · have hc := cls_D m2 c4 hl
    obtain ⟨d1, d2, d3⟩ := hc q (Nat.le_refl _) (by omega)
    have hv : vlo T l (tby t).length q 0 = lN2 (dNb (tby t) 0) := vlo_D (tby t) q 0 m2 c4 hl
    refine ⟨hb _ rfl d3, ?_, by omega, ?_, fun h => ?_⟩
    · unfold eot
      rw [if_neg (by rw [d1]; decide), if_pos d2]
      exact scn_run (hn.2 c1) _ _ (by omega) (by omega) (fun j a b => (hc j (by omega) b).2.1)
    · unfold kdo
      rw [if_pos (by omega), if_neg (by rw [d1]; decide), if_pos d2, if_pos (by omega), c5]
      rfl
    · have e : tby t = dcL t.2.2 := by unfold tby; rw [if_pos c5]
      rw [hv, e, dNb_dc c6]
      unfold tva
      rw [if_pos c5]
  · obtain ⟨s1, s2, s3, s4, s5, s6, s7, s8⟩ := sg_in _ c3
    rw [c2] at m2 hl ⊢
    have hT : T q = t.2.1 := m2 0 (by simp)
    simp only [List.length_cons, List.length_nil, Nat.zero_add] at hl ⊢
    have d1 : pL T l q = false := pL_f (fun z => s2 (by rw [← hT]; exact z.2))
    have d2 : pD T l q = false := pD_f (fun z => s3 (by rw [← hT]; exact z.2))
    have d3 : pB T l q = false := pB_f (fun z => by have := z.2; rw [hT] at this; rcases this with h | h; exact s4 h; exact s5 h)
    refine ⟨hb _ rfl d3, ?_, by omega, ?_, fun h => ?_⟩
    · unfold eot
      rw [if_neg (by rw [d1]; decide), if_neg (by rw [d2]; decide)]
    · unfold kdo
      rw [if_pos (by omega), if_neg (by rw [d1]; decide), if_neg (by rw [d2]; decide), hT]
      exact sg_kd _ c3
    · rcases h with h | h
      · exact absurd h s6
      · exact absurd h s7
/-- what stands next doesn't go on with the token -/
theorem nxt_ok {R : List tok} {c p : Nat} (hR : allO R) (ha : adjF c R) (hm : mat T p (txt R)) (hl : p + (txt R).length = l) : (c = 1 → pL T l p = false) ∧ (c = 2 → pD T l p = false) := by
  cases R with
  | nil =>
    have : p = l := by have : (txt ([] : List tok)).length = 0 := rfl; omega
    subst this
    exact ⟨fun _ => pL_f (fun z => absurd z.1 (Nat.lt_irrefl _)), fun _ => pD_f (fun z => absurd z.1 (Nat.lt_irrefl _))⟩
  | cons t r =>
    have hm2 : mat T p (bln t.1 ++ (tby t ++ txt r)) := hm
    obtain ⟨m1, m2⟩ := mat_app.mp hm2
    have hT := tby_ok (hR t (by simp))
    have ha1 := ha.1
    cases hz : t.1 with
    | true =>
      rw [hz] at m1
      have h32 : T p = 32 := m1 0 (by show 0 < 1; omega)
      exact ⟨fun _ => pL_f (fun z => by have := z.2; omega), fun _ => pD_f (fun z => by have := z.2; omega)⟩
    | false =>
      rw [hz] at m2 ha1
      have m3 : mat T p (tby t ++ txt r) := m2
      obtain ⟨m4, -⟩ := mat_app.mp m3
      have hd : c = 0 ∨ ¬ c = tcl t := by
        rcases ha1 with h | h
        · cases h
        · exact h
      refine ⟨fun h => pL_f (fun z => ?_), fun h => pD_f (fun z => ?_)⟩
      · rcases hT with ⟨c1, c2, c3, c4, c5⟩ | ⟨c1, c2, c3, c4, c5, c6⟩ | ⟨c1, c2, c3⟩
        · omega
        · have h1 := m4 0 (by omega)
          have h2 := c4 _ (getD_mem (L := tby t) (j := 0) (by omega))
          rw [← h1] at h2
          have := z.2
          simp only [Nat.add_zero] at h2
          omega
        · rw [c2] at m4
          have h1 : T p = t.2.1 := m4 0 (by simp)
          exact (sg_in _ c3).2.1 (by rw [← h1]; exact z.2)
      · rcases hT with ⟨c1, c2, c3, c4, c5⟩ | ⟨c1, c2, c3, c4, c5, c6⟩ | ⟨c1, c2, c3⟩
        · have h1 := m4 0 (by omega)
          have h2 := c4 _ (getD_mem (L := tby t) (j := 0) (by omega))
          rw [← h1] at h2
          have := z.2
          simp only [Nat.add_zero] at h2
          omega
        · omega
        · rw [c2] at m4
          have h1 : T p = t.2.1 := m4 0 (by simp)
          exact (sg_in _ c3).2.2.1 (by rw [← h1]; exact z.2)
/-- all tokens are cut -/
theorem cutA (hw : ∀ i, i < 26 → wd i = W32 i) : ∀ (L : List tok) (c i p : Nat), allO L → adjF c L → mat T p (txt L) → p + (txt L).length = l → ps T l i = p →
    (∀ j, j < L.length → sta T l (i + j) < l ∧ (i + j < 400 → kdT T l wd (i + j) = nI (L.getD j (false, 0, 0)).2.1 ∧ ((L.getD j (false, 0, 0)).2.1 = 2 ∨ (L.getD j (false, 0, 0)).2.1 = 3 → vaT T l (i + j) = tva (L.getD j (false, 0, 0))))) ∧ ps T l (i + L.length) = l
  | [], c, i, p, _, _, _, hl, hp => ⟨fun j hj => absurd hj (Nat.not_lt_zero _), by show ps T l i = l; rw [hp, ← hl]; rfl⟩
  | t :: r, c, i, p, hO, ha, hm, hl, hp => by
    have hm2 : mat T p ((bln t.1 ++ tby t) ++ txt r) := by rw [List.append_assoc]; exact hm
    obtain ⟨m1, m2⟩ := mat_app.mp hm2
    have hl2 : p + (bln t.1 ++ tby t).length + (txt r).length = l := by
      have : (txt (t :: r)).length = (bln t.1 ++ tby t).length + (txt r).length := by
        show (bln t.1 ++ (tby t ++ txt r)).length = _
        simp only [List.length_append]; omega
      omega
    have hn := nxt_ok (c := tcl t) (fun x hx => hO x (by simp [hx])) ha.2 m2 hl2
    obtain ⟨k1, k2, k3, k4, k5⟩ := cut1 hw (hO t (by simp)) m1 (by omega) hn
    have hst : sta T l i = p + (bln t.1).length := by unfold sta; rw [hp]; exact k1
    have hps : ps T l (i + 1) = p + (bln t.1 ++ tby t).length := by
      show eot T l (blk T l (ps T l i)) = _
      rw [hp, k1]; exact k2
    have hva : vaT T l i = vlo T l (p + (bln t.1 ++ tby t).length - (p + (bln t.1).length)) (p + (bln t.1).length) 0 := by
      unfold vaT; rw [hps, hst]
    obtain ⟨r1, r2⟩ := cutA hw r (tcl t) (i + 1) _ (fun x hx => hO x (by simp [hx])) ha.2 m2 hl2 hps
    refine ⟨fun j hj => ?_, by rw [List.length_cons, show i + (r.length + 1) = i + 1 + r.length by omega]; exact r2⟩
    cases j with
    | zero =>
      rw [Nat.add_zero, hst]
      refine ⟨by omega, fun h4 => ⟨?_, fun h => ?_⟩⟩
      · unfold kdT
        rw [if_pos (Or.inl h4), hva, hps, hst]
        exact k4
      · rw [hva]; exact k5 h
    | succ j =>
      rw [show i + (j + 1) = i + 1 + j by omega]
      exact r1 j (by rw [List.length_cons] at hj; omega)
end LEX
