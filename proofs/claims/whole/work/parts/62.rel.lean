/-! ===== what the two readings have in common ===== -/
section REL
variable {kd nu st : Nat → Int32} {vl : Nat → Int64} {T : Nat → Nat} {l EE x ln : Nat} {e f w : Int32 × Int32} {k km : bkS}
def tkAll (kd nu st : Nat → Int32) (vl : Nat → Int64) (T : Nat → Nat) (l EE : Nat) : Prop :=
  EE ≤ 400 ∧ (kd EE = 0 ∨ kd EE = 1) ∧ (∀ x, x ≤ EE → tkOK kd nu T l x ∧ st x = mzF T l x ∧ (kd x = 2 → ∃ m, m ≤ 9999 ∧ nu x = nI m)) ∧
  (∀ y x, y < x → x ≤ EE → mzF T l y < mzF T l x) ∧ (∀ y x, y ≤ EE → x ≤ EE → kd y = 3 → kd x = 3 → ((vl y = vl x) ↔ (mzS T l y = mzS T l x)))
def agr (T : Nat → Nat) (l EE : Nat) (e f : Int32 × Int32) (x : Nat) : Prop := e = f ∧ (e.1 = 0 ∨ ∃ y, y < x ∧ y ≤ EE ∧ e.2 = mzF T l y)
theorem agr_le {x' : Nat} (h : agr T l EE e f x) (hx : x ≤ x') : agr T l EE e f x' := ⟨h.1, h.2.elim Or.inl fun ⟨y, y1, y2⟩ => Or.inr ⟨y, by omega, y2⟩⟩
theorem agr_nt (hA : tkAll kd nu st vl T l EE) (h : agr T l EE e f x) (hx : x ≤ EE) (n : Int32) : agr T l EE (ntE st e n x) (ntM T l f n x) (x + 1) := by
  obtain ⟨h1, h2⟩ := h
  subst h1
  obtain ⟨a1, a2, a3, a4, a5⟩ := hA
  unfold ntE ntM
  by_cases p : e.1 = 0
  · rw [if_pos p, if_neg (fun h => h.1 p), (a3 x hx).2.1]
    exact ⟨rfl, Or.inr ⟨x, by omega, hx, rfl⟩⟩
  · rcases h2 with h2 | ⟨y, y1, y2, y3⟩
    · exact absurd h2 p
    · rw [if_neg p, if_pos ⟨p, Or.inl (by rw [y3]; exact a4 y x y1 hx)⟩]
      exact ⟨rfl, Or.inr ⟨y, by omega, y2, y3⟩⟩
theorem agr_if {p : Prop} [Decidable p] (hA : tkAll kd nu st vl T l EE) (h : agr T l EE e f x) (hx : x ≤ EE) (n : Int32) : agr T l EE (if p then ntE st e n x else e) (if p then ntM T l f n x else f) (x + 1) := by
  by_cases z : p
  · rw [if_pos z, if_pos z]
    exact agr_nt hA h hx n
  · rw [if_neg z, if_neg z]
    exact agr_le h (by omega)
theorem agr_if2 {p q : Prop} [Decidable p] [Decidable q] (hpq : e.1 = 0 → (p ↔ q)) (hA : tkAll kd nu st vl T l EE) (h : agr T l EE e f x) (hx : x ≤ EE) (n : Int32) : agr T l EE (if p then ntE st e n x else e) (if q then ntM T l f n x else f) (x + 1) := by
  by_cases z : e.1 = 0
  · have hz := hpq z
    by_cases zp : p
    · rw [if_pos zp, if_pos (hz.mp zp)]
      exact agr_nt hA h hx n
    · rw [if_neg zp, if_neg (fun w => zp (hz.mpr w))]
      exact agr_le h (by omega)
  · have e1 : ntE st e n x = e := if_neg z
    have h' := agr_nt hA h hx n
    rw [e1] at h'
    have e2 : ntM T l f n x = f := h'.1.symm.trans h.1
    rw [e1, e2, ite_self, ite_self]
    exact agr_le h (by omega)
theorem agr_fn (hA : tkAll kd nu st vl T l EE) (h : agr T l EE e f x) (hx : x ≤ EE) (hk : kd x = 2) (lo hi : Int32) : agr T l EE (fnE nu st e x lo hi) (fnM T l f x lo hi) (x + 1) := by
  have ht := (hA.2.2.1 x hx).1.2.2 hk
  unfold fnE fnM
  rw [ht]
  exact agr_if hA h hx 5
theorem ntE_0 {n : Int32} (hn : ¬ n = 0) : ¬ (ntE st e n x).1 = 0 := by
  unfold ntE
  by_cases p : e.1 = 0
  · rw [if_pos p]; exact hn
  · rw [if_neg p]; exact p
theorem fnE_0 {lo hi : Int32} (h : (fnE nu st e x lo hi).1 = 0) : fnE nu st e x lo hi = e ∧ e.1 = 0 ∧ ¬ nu x < lo ∧ ¬ hi < nu x := by
  unfold fnE at h ⊢
  by_cases p : nu x < lo ∨ hi < nu x
  · rw [if_pos p] at h
    exact absurd h (ntE_0 (by decide))
  · rw [if_neg p] at h ⊢
    exact ⟨rfl, h, fun z => p (Or.inl z), fun z => p (Or.inr z)⟩
theorem ifE_0 {p : Prop} [Decidable p] {n : Int32} (hn : ¬ n = 0) (h : (if p then ntE st e n x else e).1 = 0) : e.1 = 0 ∧ ¬ p ∧ (if p then ntE st e n x else e) = e := by
  by_cases z : p
  · rw [if_pos z] at h
    exact absurd h (ntE_0 hn)
  · rw [if_neg z] at h ⊢
    exact ⟨h, z, rfl⟩
/-- the row's token: a place that is taken, a number that is none -/
theorem agr_row {p q : Prop} [Decidable p] [Decidable q] (hpq : e.1 = 0 → (p ↔ q)) (hA : tkAll kd nu st vl T l EE) (h : agr T l EE e f x) (hx : x ≤ EE) (hk : kd x = 2) (lo hi : Int32) :
    agr T l EE (fnE nu st (if p then ntE st e 3 x else e) x lo hi) (if q then ntM T l (fnM T l f x lo hi) 3 x else fnM T l f x lo hi) (x + 1) := by
  by_cases z : e.1 = 0
  · have hz := hpq z
    by_cases zp : p
    · have zq := hz.mp zp
      rw [if_pos zp, if_pos zq]
      have h3 := agr_nt hA h hx 3
      have e1 : ntE st e 3 x = (3, st x) := if_pos z
      have e2 : fnE nu st (3, st x) x lo hi = (3, st x) := by
        unfold fnE
        split
        · exact if_neg (show ¬ (3 : Int32) = 0 by decide)
        · rfl
      have e3 : ntM T l (fnM T l f x lo hi) 3 x = (3, mzF T l x) := by
        have f0 : f.1 = 0 := by rw [← h.1]; exact z
        unfold fnM
        split
        · have e4 : ntM T l f 5 x = (5, mzF T l x) := if_neg (fun w => w.1 f0)
          rw [e4]
          exact if_neg (fun w => w.2.elim (fun v => Int32.lt_irrefl v) (fun v => absurd v (show ¬ (5 : Int32) < 3 by decide)))
        · exact if_neg (fun w => w.1 f0)
      rw [e1, e2, e3, (hA.2.2.1 x hx).2.1]
      exact ⟨rfl, Or.inr ⟨x, by omega, hx, rfl⟩⟩
    · rw [if_neg zp, if_neg (fun w => zp (hz.mpr w))]
      exact agr_fn hA h hx hk lo hi
  · have k1 : ∀ n, ntE st e n x = e := fun n => if_neg z
    have k2 : ∀ n, ntM T l f n x = f := fun n => by
      have h' := agr_nt hA h hx n
      rw [k1] at h'
      exact h'.1.symm.trans h.1
    have k3 : fnE nu st e x lo hi = e := by unfold fnE; rw [k1, ite_self]
    have k4 : fnM T l f x lo hi = f := by unfold fnM; rw [k2, ite_self]
    rw [k1, ite_self, k3, k4, k2, ite_self]
    exact agr_le h (by omega)
/-- a clipper in both books -/
def rCl (kd : Nat → Int32) (vl : Nat → Int64) (T : Nat → Nat) (l EE : Nat) (k km : bkS) (co ro c : Nat) : Prop :=
  km.1 3 c = k.1 7 c ∧ km.1 4 c = k.1 8 c ∧ km.1 5 c = k.1 9 c ∧ (∃ z, 1 ≤ z ∧ z ≤ 4 ∧ k.1 9 c = nI z) ∧ (∃ x y, x < co ∧ y < ro ∧ k.1 7 c = nI x ∧ k.1 8 c = nI y) ∧
  (∃ rs re, rs ≤ re ∧ re ≤ k.2.2.2.2.2.2 ∧ k.1 10 c = nI rs ∧ k.1 11 c = nI re ∧ km.1 6 c = nI rs ∧ km.1 6 (c + 1) = nI re ∧ hgt (k.1 0) rs (re - rs) 0) ∧
  ∃ y, y ≤ EE ∧ kd y = 3 ∧ k.2.1 c = vl y ∧ km.2.1 c = mzS T l y
def rKe (k km : bkS) (co ro i : Nat) : Prop := ∃ x y z, x < co ∧ y < ro ∧ z ≤ 30 ∧ k.1 2 i = nI x ∧ k.1 3 i = nI y ∧ k.1 4 i = nI z ∧ km.1 0 i = nI (co * y + x) ∧ km.1 1 i = nI z
def rCu (k km : bkS) (co ro i : Nat) : Prop := ∃ x y, x < co ∧ y < ro ∧ k.1 5 i = nI x ∧ k.1 6 i = nI y ∧ km.1 2 i = nI (co * y + x)
/-- the books, while no fault is noted -/
def relB (kd : Nat → Int32) (vl : Nat → Int64) (T : Nat → Nat) (l EE : Nat) (k km : bkS) : Prop :=
  ∃ co ro, (3 ≤ co ∧ co ≤ 12 ∧ 3 ≤ ro ∧ ro ≤ 12) ∧ k.2.2.1 = (nI co, nI ro) ∧ km.2.2.1 = (nI co, nI ro) ∧ k.2.2.2 = km.2.2.2 ∧
    (∀ i, i < k.2.2.2.1 → rKe k km co ro i) ∧ (∀ i, i < k.2.2.2.2.1 → rCu k km co ro i) ∧ (∀ c, c < k.2.2.2.2.2.1 → rCl kd vl T l EE k km co ro c) ∧
    (∀ j, j < k.2.2.2.2.2.2 → tau (k.1 0 j) (k.1 1 j) (km.1 7 (2 * j)) (km.1 7 (2 * j + 1))) ∧ (0 < k.2.2.2.2.2.1 → km.1 6 k.2.2.2.2.2.1 = nI k.2.2.2.2.2.2)
def mOK (km : bkS) (x : Nat) : Prop := km.2.2.2.1 ≤ 6 ∧ km.2.2.2.2.1 ≤ 6 ∧ km.2.2.2.2.2.1 ≤ 6 ∧ km.2.2.2.2.2.2 ≤ x
theorem mOK_le {x' : Nat} (h : mOK km x) (hx : x ≤ x') : mOK km x' := ⟨h.1, h.2.1, h.2.2.1, by have := h.2.2.2; omega⟩
def relL (kd : Nat → Int32) (vl : Nat → Int64) (T : Nat → Nat) (l EE : Nat) (ln x : Nat) (e f : Int32 × Int32) (k km : bkS) : Prop :=
  agr T l EE e f x ∧ kOK k ∧ mOK km x ∧ (e.1 = 0 → relB kd vl T l EE k km) ∧ (ln = 0 → k.2.2.2 = (0, 0, 0, 0) ∧ km.2.2.2 = (0, 0, 0, 0))
theorem rg_in {lo hi : Nat} (hlo : lo < 100000) (hhi : hi < 100000) {m : Nat} (hm : m ≤ 9999) (h1 : ¬ nI m < nI lo) (h2 : ¬ nI hi < nI m) : lo ≤ m ∧ m ≤ hi := by
  rw [n_lt (by omega) (by omega)] at h1 h2
  omega
theorem rel_bay (hA : tkAll kd nu st vl T l EE) (h : relL kd vl T l EE ln x e f k km) (hx : x ≤ EE) (h0 : kd x = 100) (b4 : x + 4 ≤ EE) (k1 : kd (x + 1) = 2) (k2 : kd (x + 2) = 44) (k3 : kd (x + 3) = 2) :
    relL kd vl T l EE (ln + 1) (x + 4) (bayP kd nu st ln x e w k).2.2.1 (fnM T l (fnM T l (if decide (ln = 0) = true then f else ntM T l f 4 x) (x + 1) 3 12) (x + 3) 3 12) (bayP kd nu st ln x e w k).2.2.2.2 (if decide (ln = 0) = true then ((km.1, km.2.1, (mzN T l (x + 1), mzN T l (x + 3)), km.2.2.2) : bkS) else km) := by
  obtain ⟨h1, h2, h3, h4, h5⟩ := h
  have ec : bayP kd nu st ln x e w k = (true, x + 4, fnE nu st (fnE nu st (if 0 < ln then ntE st e 4 x else e) (x + 1) 3 12) (x + 3) 3 12, w, if (fnE nu st (fnE nu st (if 0 < ln then ntE st e 4 x else e) (x + 1) 3 12) (x + 3) 3 12).1 = 0 then (k.1, k.2.1, (nu (x + 1), nu (x + 3)), k.2.2.2) else k) := by
    unfold bayP
    dsimp only
    rw [if_pos k1, if_pos k2, if_pos k3]
  rw [ec]
  have ef : (if decide (ln = 0) = true then f else ntM T l f 4 x) = (if 0 < ln then ntM T l f 4 x else f) := by
    by_cases z : ln = 0
    · rw [if_pos (decide_eq_true z), if_neg (by omega)]
    · rw [if_neg (by rw [decide_eq_false z]; exact Bool.false_ne_true), if_pos (by omega)]
  rw [ef]
  have a1 := agr_if (p := 0 < ln) hA h1 hx 4
  have a2 := agr_fn hA a1 (show x + 1 ≤ EE by omega) k1 3 12
  have a3 := agr_fn hA (agr_le a2 (show x + 1 + 1 ≤ x + 3 by omega)) (show x + 3 ≤ EE by omega) k3 3 12
  have t1 := hA.2.2.1 (x + 1) (by omega)
  have t3 := hA.2.2.1 (x + 3) (by omega)
  dsimp only
  refine ⟨a3, ok_if ⟨h2.1, h2.2⟩ h2, ?_, fun hz => ?_, fun h => absurd h (by omega)⟩
  · split
    · exact mOK_le ⟨h3.1, h3.2.1, h3.2.2.1, h3.2.2.2⟩ (by omega)
    · exact mOK_le h3 (by omega)
  · obtain ⟨f1, f2, f3, f4⟩ := fnE_0 hz
    obtain ⟨g1, g2, g3, g4⟩ := fnE_0 f2
    obtain ⟨i1, i2, i3⟩ := ifE_0 (by decide) g2
    have hl0 : ln = 0 := by omega
    obtain ⟨z1, z2⟩ := h5 hl0
    obtain ⟨co, c1, c2⟩ := t1.2.2 k1
    obtain ⟨ro, r1, r2⟩ := t3.2.2 k3
    rw [c2] at g3 g4
    rw [r2] at f3 f4
    have cr := rg_in (lo := 3) (hi := 12) (by omega) (by omega) c1 g3 g4
    have rr := rg_in (lo := 3) (hi := 12) (by omega) (by omega) r1 f3 f4
    rw [if_pos hz, if_pos (decide_eq_true hl0)]
    have e1 := t1.1.2.2 k1
    have e3 := t3.1.2.2 k3
    refine ⟨co, ro, ⟨by omega, by omega, by omega, by omega⟩, ?_, ?_, ?_, ?_, ?_, ?_, ?_⟩
    · show (nu (x + 1), nu (x + 3)) = (nI co, nI ro)
      rw [c2, r2]
    · show (mzN T l (x + 1), mzN T l (x + 3)) = (nI co, nI ro)
      rw [← e1, ← e3, c2, r2]
    · show k.2.2.2 = km.2.2.2
      rw [z1, z2]
    · intro i hi
      have hi' : i < k.2.2.2.1 := hi
      rw [z1] at hi'
      exact absurd hi' (Nat.not_lt_zero _)
    · intro i hi
      have hi' : i < k.2.2.2.2.1 := hi
      rw [z1] at hi'
      exact absurd hi' (Nat.not_lt_zero _)
    · intro i hi
      have hi' : i < k.2.2.2.2.2.1 := hi
      rw [z1] at hi'
      exact absurd hi' (Nat.not_lt_zero _)
    · refine ⟨fun i hi => ?_, fun hi => ?_⟩
      · have hi' : i < k.2.2.2.2.2.2 := hi
        rw [z1] at hi'
        exact absurd hi' (Nat.not_lt_zero _)
      · have hi' : 0 < k.2.2.2.2.2.1 := hi
        rw [z1] at hi'
        exact absurd hi' (Nat.not_lt_zero _)
theorem cell_eq2 {co x u : Nat} (hx : x < co) (hu : u < co) (hc : co ≤ 12) {y v : Nat} (hy : y ≤ 9999) (hv : v ≤ 9999) : (nI (co * y + x) = nI (co * v + u)) ↔ (nI x = nI u ∧ nI y = nI v) := by
  have m1 : co * y ≤ 12 * 9999 := Nat.mul_le_mul hc hy
  have m2 : co * v ≤ 12 * 9999 := Nat.mul_le_mul hc hv
  rw [n_eq (by omega) (by omega), n_eq (by omega) (by omega), n_eq (by omega) (by omega)]
  constructor
  · intro h
    have h1 := congrArg (· % co) h
    have h2 := congrArg (· / co) h
    rw [Nat.mul_add_mod, Nat.mul_add_mod, Nat.mod_eq_of_lt hx, Nat.mod_eq_of_lt hu] at h1
    rw [Nat.mul_add_div (by omega), Nat.mul_add_div (by omega), Nat.div_eq_of_lt hx, Nat.div_eq_of_lt hu] at h2
    exact ⟨h1, by omega⟩
  · intro h
    rw [h.1, h.2]
/-- a place is taken in both books, or in none -/
theorem kA_mk {co ro cx ry : Nat} (hco : co ≤ 12) (hro : ro ≤ 12) (hcx : cx < co) (hry : ry ≤ 9999) {n : Nat} (h : ∀ i, i < n → rKe k km co ro i) : ∀ m i, i + m = n → ((kAt (k.1 2) (k.1 3) (nI cx) (nI ry) i m = -1) ↔ (mkA (km.1 0) (nI (co * ry + cx)) i m = -1)) := by
  intro m
  induction m with
  | zero => intro i hi; exact Iff.rfl
  | succ m ih =>
    intro i hi
    obtain ⟨x, y, z, h1, h2, h3, h4, h5, h6, h7, h8⟩ := h i (by omega)
    unfold kAt mkA
    have hc := cell_eq2 (x := x) (u := cx) h1 hcx hco (y := y) (v := ry) (by omega) hry
    rw [h4, h5, h7]
    by_cases p : nI x = nI cx ∧ nI y = nI ry
    · rw [if_pos p, if_pos (hc.mpr p)]
    · rw [if_neg p, if_neg (fun w => p (hc.mp w))]
      exact ih (i + 1) (by omega)
theorem cA_mc {co ro cx ry : Nat} (hco : co ≤ 12) (hro : ro ≤ 12) (hcx : cx < co) (hry : ry ≤ 9999) {n : Nat} (h : ∀ i, i < n → rCu k km co ro i) : ∀ m i, i + m = n → ((cAt (k.1 5) (k.1 6) (nI cx) (nI ry) i m = 0) ↔ (mcA (km.1 2) (nI (co * ry + cx)) i m = 0)) := by
  intro m
  induction m with
  | zero => intro i hi; exact Iff.rfl
  | succ m ih =>
    intro i hi
    obtain ⟨x, y, h1, h2, h4, h5, h7⟩ := h i (by omega)
    unfold cAt mcA
    have hc := cell_eq2 (x := x) (u := cx) h1 hcx hco (y := y) (v := ry) (by omega) hry
    rw [h4, h5, h7]
    by_cases p : nI x = nI cx ∧ nI y = nI ry
    · rw [if_pos p, if_pos (hc.mpr p)]
    · rw [if_neg p, if_neg (fun w => p (hc.mp w))]
      exact ih (i + 1) (by omega)
end REL
