/-! ===== the law's reckoning: its heap ===== -/
section SIM
variable {E : xE} {d D : Nat} {Q : xR → Prop} {H X : xH} {ad ro : Nat → Nat} {b a a' : Nat → Nat → Int32} {s t t' : Nat → Int32} {nk nc nn : Nat} {ru : Nat → Option Nat} {r k c i j m n p : Nat} {x y v z w : Int32}

def kf (b a : Nat → Nat → Int32) (k : Nat) : Nat → Int32 := fun j => if j = 0 then b 2 k else if j = 1 then b 3 k else if j = 2 then b 4 k else if j = 3 then a 0 k else if j = 4 then a 2 k else 0
def cf (b a : Nat → Nat → Int32) (c : Nat) : Nat → Int32 := fun j => if j = 0 then b 7 c else if j = 1 then b 8 c else if j = 2 then b 9 c else if j < 9 then a j c else 0
def uf (b : Nat → Nat → Int32) (k : Nat) : Nat → Int32 := fun j => if j = 0 then b 5 k else if j = 1 then b 6 k else 0
/-- what lies at a role -/
def jC (ad : Nat → Nat) (b : Nat → Nat → Int32) (s : Nat → Int32) (nk nc nn : Nat) (ru : Nat → Option Nat) (a : Nat → Nat → Int32) (t : Nat → Int32) (r : Nat) : xC :=
  if r = 1 then .inr (10, [.int (s 0), .int (s 1), .int (t 2), .int (t 0), .int (t 1), .ref (ad 2), .ref (ad 3), .ref (ad 4), .ref (ad 5)])
  else if r = 2 then xarA nk (fun k => if k < nk then some (ad (10 + k)) else none)
  else if r = 3 then xarA nc (fun k => if k < nc then some (ad (30 + k)) else none)
  else if r = 4 then xarA nn (fun k => if k < nn then some (ad (20 + k)) else none)
  else if r = 5 then xarR nn ru
  else if r < 20 then xarI 5 (kf b a (r - 10)) else if r < 30 then xarI 9 (cf b a (r - 20)) else xarI 2 (uf b (r - 30))
def jH (ad ro : Nat → Nat) (b : Nat → Nat → Int32) (s : Nat → Int32) (nk nc nn : Nat) (ru : Nat → Option Nat) (H : xH) (a : Nat → Nat → Int32) (t : Nat → Int32) : xH := (fun n => if ro n = 0 then H.1 n else jC ad b s nk nc nn ru a t (ro n), H.2)
def jU (nk nc nn r : Nat) : Prop := (1 ≤ r ∧ r ≤ 5) ∨ (10 ≤ r ∧ r < 10 + nk) ∨ (20 ≤ r ∧ r < 20 + nn) ∨ (30 ≤ r ∧ r < 30 + nc)
/-- the places are right: all lie from lo to hi -/
def jOK (ad ro : Nat → Nat) (nk nc nn lo hi : Nat) : Prop := nk ≤ 6 ∧ nc ≤ 6 ∧ nn ≤ 6 ∧ (∀ r, jU nk nc nn r → ro (ad r) = r) ∧ ∀ n, ¬ ro n = 0 → ad (ro n) = n ∧ jU nk nc nn (ro n) ∧ lo ≤ n ∧ n < hi
variable {lo hi : Nat}
theorem j_r (h : jOK ad ro nk nc nn lo hi) (hr : jU nk nc nn r) : (jH ad ro b s nk nc nn ru H a t).1 (ad r) = jC ad b s nk nc nn ru a t r := by
  have e := h.2.2.2.1 r hr
  have h0 : ¬ r = 0 := by unfold jU at hr; omega
  show (if ro (ad r) = 0 then H.1 (ad r) else jC ad b s nk nc nn ru a t (ro (ad r))) = _
  rw [e, if_neg h0]
theorem j_1 (h : jOK ad ro nk nc nn lo hi) : (jH ad ro b s nk nc nn ru H a t).1 (ad 1) = .inr (10, [.int (s 0), .int (s 1), .int (t 2), .int (t 0), .int (t 1), .ref (ad 2), .ref (ad 3), .ref (ad 4), .ref (ad 5)]) := j_r h (Or.inl ⟨by omega, by omega⟩)
theorem j_2 (h : jOK ad ro nk nc nn lo hi) : (jH ad ro b s nk nc nn ru H a t).1 (ad 2) = xarA nk (fun k => if k < nk then some (ad (10 + k)) else none) := j_r h (Or.inl ⟨by omega, by omega⟩)
theorem j_3 (h : jOK ad ro nk nc nn lo hi) : (jH ad ro b s nk nc nn ru H a t).1 (ad 3) = xarA nc (fun k => if k < nc then some (ad (30 + k)) else none) := j_r h (Or.inl ⟨by omega, by omega⟩)
theorem j_4 (h : jOK ad ro nk nc nn lo hi) : (jH ad ro b s nk nc nn ru H a t).1 (ad 4) = xarA nn (fun k => if k < nn then some (ad (20 + k)) else none) := j_r h (Or.inl ⟨by omega, by omega⟩)
theorem j_5 (h : jOK ad ro nk nc nn lo hi) : (jH ad ro b s nk nc nn ru H a t).1 (ad 5) = xarR nn ru := j_r h (Or.inl ⟨by omega, by omega⟩)
theorem jC_hi (h : 6 ≤ r) : jC ad b s nk nc nn ru a t r = if r < 20 then xarI 5 (kf b a (r - 10)) else if r < 30 then xarI 9 (cf b a (r - 20)) else xarI 2 (uf b (r - 30)) := by
  unfold jC
  rw [if_neg (by omega), if_neg (by omega), if_neg (by omega), if_neg (by omega), if_neg (by omega)]
theorem jC_lo (h : r < 6) (h0 : ¬ r = 0) (h1 : ¬ r = 1) : jC ad b s nk nc nn ru a' t' r = jC ad b s nk nc nn ru a t r := by
  rcases (show r = 2 ∨ r = 3 ∨ r = 4 ∨ r = 5 by omega) with rfl | rfl | rfl | rfl <;> rfl
theorem j_k (h : jOK ad ro nk nc nn lo hi) (hk : k < nk) : (jH ad ro b s nk nc nn ru H a t).1 (ad (10 + k)) = xarI 5 (kf b a k) := by
  rw [j_r h (Or.inr (Or.inl ⟨by omega, by omega⟩))]
  have := h.1
  unfold jC
  rw [if_neg (by omega), if_neg (by omega), if_neg (by omega), if_neg (by omega), if_neg (by omega), if_pos (by omega), show 10 + k - 10 = k by omega]
theorem j_c (h : jOK ad ro nk nc nn lo hi) (hc : c < nn) : (jH ad ro b s nk nc nn ru H a t).1 (ad (20 + c)) = xarI 9 (cf b a c) := by
  rw [j_r h (Or.inr (Or.inr (Or.inl ⟨by omega, by omega⟩)))]
  have := h.2.2.1
  unfold jC
  rw [if_neg (by omega), if_neg (by omega), if_neg (by omega), if_neg (by omega), if_neg (by omega), if_neg (by omega), if_pos (by omega), show 20 + c - 20 = c by omega]
theorem j_u (h : jOK ad ro nk nc nn lo hi) (hk : k < nc) : (jH ad ro b s nk nc nn ru H a t).1 (ad (30 + k)) = xarI 2 (uf b k) := by
  rw [j_r h (Or.inr (Or.inr (Or.inr ⟨by omega, by omega⟩)))]
  unfold jC
  rw [if_neg (by omega), if_neg (by omega), if_neg (by omega), if_neg (by omega), if_neg (by omega), if_neg (by omega), if_neg (by omega), show 30 + k - 30 = k by omega]
/-- written at a role -/
theorem j_w (h : jOK ad ro nk nc nn lo hi) (hr : jU nk nc nn r) (hC : ∀ r', ¬ r' = r → jU nk nc nn r' → jC ad b s nk nc nn ru a' t' r' = jC ad b s nk nc nn ru a t r') : xset (jH ad ro b s nk nc nn ru H a t) (ad r) (jC ad b s nk nc nn ru a' t' r) = (jH ad ro b s nk nc nn ru H a' t') := by
  have e := h.2.2.2.1 r hr
  have h0 : ¬ r = 0 := by unfold jU at hr; omega
  refine Prod.ext (funext fun n => ?_) rfl
  show (if n = ad r then _ else if ro n = 0 then H.1 n else jC ad b s nk nc nn ru a t (ro n)) = if ro n = 0 then H.1 n else jC ad b s nk nc nn ru a' t' (ro n)
  by_cases q : n = ad r
  · rw [if_pos q, q, e, if_neg h0]
  · rw [if_neg q]
    by_cases z : ro n = 0
    · rw [if_pos z, if_pos z]
    · rw [if_neg z, if_neg z]
      obtain ⟨z1, z2, -⟩ := h.2.2.2.2 n z
      exact (hC _ (fun e2 => q (by rw [← z1, e2])) z2).symm
theorem jup_s {f : Nat → Int32} : upr a r f r = f := if_pos rfl
theorem jup_o {f : Nat → Int32} (h : ¬ i = r) : upr a r f i = a i := if_neg h
theorem jw_c (h : jOK ad ro nk nc nn lo hi) (hc : c < nn) (h3 : 3 ≤ j) (h9 : j < 9) : xset (jH ad ro b s nk nc nn ru H a t) (ad (20 + c)) (xarI 9 (upd (cf b a c) j v)) = (jH ad ro b s nk nc nn ru H (upr a j (upd (a j) c v)) t) := by
  have hu : jU nk nc nn (20 + c) := Or.inr (Or.inr (Or.inl ⟨by omega, by omega⟩))
  have e : xarI 9 (upd (cf b a c) j v) = jC ad b s nk nc nn ru (upr a j (upd (a j) c v)) t (20 + c) := by
    have := h.2.2.1
    unfold jC
    rw [if_neg (by omega), if_neg (by omega), if_neg (by omega), if_neg (by omega), if_neg (by omega), if_neg (by omega), if_pos (by omega), show 20 + c - 20 = c by omega]
    congr 1
    funext i
    unfold cf upd upr
    by_cases q : i = j
    · subst q
      rw [if_pos rfl, if_neg (by omega), if_neg (by omega), if_neg (by omega), if_pos h9, if_pos rfl, if_pos rfl]
    · simp only [if_neg q]
  rw [e]
  refine j_w h hu fun r' hr' hu' => ?_
  by_cases q0 : r' < 6
  · by_cases q1 : r' = 1
    · subst q1; rfl
    · exact jC_lo q0 (by unfold jU at hu'; omega) q1
  rw [jC_hi (by omega), jC_hi (by omega)]
  have hk : ∀ k, kf b (upr a j (upd (a j) c v)) k = kf b a k := fun k => by
    unfold kf
    rw [jup_o (by omega), jup_o (by omega)]
  rw [hk]
  by_cases q1 : r' < 20
  · simp only [if_pos q1]
  · simp only [if_neg q1]
    by_cases q2 : r' < 30
    · simp only [if_pos q2]
      congr 1
      funext i
      unfold cf
      have : upr a j (upd (a j) c v) i (r' - 20) = a i (r' - 20) := by
        by_cases q : i = j
        · subst q; rw [jup_s, upd_o (by omega)]
        · rw [jup_o q]
      rw [this]
    · simp only [if_neg q2]
theorem jw_k {j0 : Nat} (h : jOK ad ro nk nc nn lo hi) (hk : k < nk) (h3 : (j = 3 ∧ j0 = 0) ∨ (j = 4 ∧ j0 = 2)) : xset (jH ad ro b s nk nc nn ru H a t) (ad (10 + k)) (xarI 5 (upd (kf b a k) j v)) = (jH ad ro b s nk nc nn ru H (upr a j0 (upd (a j0) k v)) t) := by
  have hu : jU nk nc nn (10 + k) := Or.inr (Or.inl ⟨by omega, by omega⟩)
  have e : xarI 5 (upd (kf b a k) j v) = jC ad b s nk nc nn ru (upr a j0 (upd (a j0) k v)) t (10 + k) := by
    have := h.1
    unfold jC
    rw [if_neg (by omega), if_neg (by omega), if_neg (by omega), if_neg (by omega), if_neg (by omega), if_pos (by omega), show 10 + k - 10 = k by omega]
    congr 1
    funext i
    rcases h3 with ⟨rfl, rfl⟩ | ⟨rfl, rfl⟩
    · by_cases q : i = 3
      · subst q; rw [upd_s]; show v = upd (a 0) k v k; rw [upd_s]
      · rw [upd_o q]; unfold kf; simp only [if_neg q]; rw [jup_o (show ¬ (2 : Nat) = 0 by decide)]
    · by_cases q : i = 4
      · subst q; rw [upd_s]; show v = upd (a 2) k v k; rw [upd_s]
      · rw [upd_o q]; unfold kf; simp only [if_neg q]; rw [jup_o (show ¬ (0 : Nat) = 2 by decide)]
  rw [e]
  refine j_w h hu fun r' hr' hu' => ?_
  have hcf : ∀ c, cf b (upr a j0 (upd (a j0) k v)) c = cf b a c := fun c => by
    funext i
    unfold cf
    by_cases q : i < 3
    · rcases (show i = 0 ∨ i = 1 ∨ i = 2 by omega) with rfl | rfl | rfl <;> rfl
    · rw [jup_o (by omega)]
  by_cases q0 : r' < 6
  · by_cases q1 : r' = 1
    · subst q1; rfl
    · exact jC_lo q0 (by unfold jU at hu'; omega) q1
  rw [jC_hi (by omega), jC_hi (by omega), hcf]
  by_cases q1 : r' < 20
  · simp only [if_pos q1]
    have hne : ¬ r' - 10 = k := by unfold jU at hu'; omega
    congr 1
    unfold kf
    rcases h3 with ⟨-, rfl⟩ | ⟨-, rfl⟩
    · rw [jup_s, upd_o hne, jup_o (show ¬ (2 : Nat) = 0 by decide)]
    · rw [jup_s, upd_o hne, jup_o (show ¬ (0 : Nat) = 2 by decide)]
  · simp only [if_neg q1]
theorem jw_s (h : jOK ad ro nk nc nn lo hi) : xset (jH ad ro b s nk nc nn ru H a t) (ad 1) (.inr (10, [.int (s 0), .int (s 1), .int (t' 2), .int (t' 0), .int (t' 1), .ref (ad 2), .ref (ad 3), .ref (ad 4), .ref (ad 5)])) = (jH ad ro b s nk nc nn ru H a t') := by
  refine j_w (r := 1) h (Or.inl ⟨by omega, by omega⟩) fun r' hr' hu' => ?_
  unfold jC
  rw [if_neg hr', if_neg hr']
theorem j_new (h : jOK ad ro nk nc nn lo hi) {C : xC} (hl : hi ≤ H.2.1) : xnew (jH ad ro b s nk nc nn ru H a t) C n = (jH ad ro b s nk nc nn ru (xnew H C n) a t) := by
  refine Prod.ext (funext fun q => ?_) rfl
  show (if q = H.2.1 then C else if ro q = 0 then H.1 q else _) = if ro q = 0 then (if q = H.2.1 then C else H.1 q) else _
  by_cases e : ro q = 0
  · rw [if_pos e, if_pos e]
  · rw [if_neg e, if_neg e]
    have := (h.2.2.2.2 q e).2.2
    rw [if_neg (by omega)]
theorem j_set (h : jOK ad ro nk nc nn lo hi) {C : xC} (hl : hi ≤ p) : xset (jH ad ro b s nk nc nn ru H a t) p C = (jH ad ro b s nk nc nn ru (xset H p C) a t) := by
  refine Prod.ext (funext fun q => ?_) rfl
  show (if q = p then C else if ro q = 0 then H.1 q else _) = if ro q = 0 then (if q = p then C else H.1 q) else _
  by_cases e : ro q = 0
  · rw [if_pos e, if_pos e]
  · rw [if_neg e, if_neg e]
    have := (h.2.2.2.2 q e).2.2
    rw [if_neg (by omega)]
theorem j_out (h : jOK ad ro nk nc nn lo hi) (hl : hi ≤ p) : (jH ad ro b s nk nc nn ru H a t).1 p = H.1 p := by
  show (if ro p = 0 then H.1 p else _) = _
  by_cases e : ro p = 0
  · rw [if_pos e]
  · have := (h.2.2.2.2 p e).2.2
    omega
/-- where a thing stands -/
theorem l_S_at {g : Nat → Option Nat} {q : Nat → Nat} {f : Nat → Nat → Int32} {wd : Nat} (hp : H.1 p = xarA n g) (hn : n < 1000) (hw : 2 ≤ wd) (hw2 : wd < 100) (hg : ∀ k, k < n → g k = some (q k) ∧ H.1 (q k) = xarI wd (f k)) : ∀ m i, i + m = n → xr E d m_S_at Q (2, [some (.ref p), some (.int x), some (.int y), some (.int (nI i))], [], H) = Q (.inl (some (.int (kAt (fun k => f k 0) (fun k => f k 1) x y i m))), H)
  | 0, i, h => by
    rw [s_S_at_2]
    simp only [s_S_at_3, s_S_at_4, s_S_at_5, s_S_at_34, s_S_at_35, not_false_eq_true, Nat.reduceLT, Nat.reduceAdd, true_and, and_true, if_true, if_false, ite_true, ite_false, xnb_0, xnb_1, xnb_b, xk_v, xk_n, xln_A hp, Option.isSome_some, Option.getD_some, nge (show n ≤ i by omega) (by omega), kAt]
  | m + 1, i, h => by
    have hi : i < n := by omega
    obtain ⟨g1, g2⟩ := hg i hi
    have ih := l_S_at hp hn hw hw2 hg m (i + 1) (by omega)
    rw [s_S_at_2]
    have z0 : vp_in 0 wd = True := nvp (i := 0) (by omega) (by omega)
    have z1 : vp_in 1 wd = True := nvp (i := 1) (by omega) (by omega)
    by_cases h0 : f i 0 = x
    · by_cases h1 : f i 1 = y
      · simp only [↓reduceIte, s_S_at_3, s_S_at_4, s_S_at_5, s_S_at_8, s_S_at_9, s_S_at_10, s_S_at_11, s_S_at_12, s_S_at_13, s_S_at_14, s_S_at_17, s_S_at_18, s_S_at_19, s_S_at_20, s_S_at_21, s_S_at_22, s_S_at_23, s_S_at_26, s_S_at_27, s_S_at_28, not_false_eq_true, Nat.reduceLT, Nat.reduceAdd, true_and, and_true, if_true, if_false, ite_true, ite_false, xnb_0, xnb_1, xnb_b, xk_v, xk_n, xln_A hp, Option.isSome_some, Option.getD_some, nlt hi (by omega), (xA_of hp).1, (xA_of hp).2.1, nvp hi (by omega), ncl (show i < 2147483648 by omega), g1, xrf_s, xIl_of g2, xIf_of g2, z0, z1, show (0 : Int32).toNatClampNeg = 0 from rfl, show (1 : Int32).toNatClampNeg = 1 from rfl, kAt, eq_true h0, eq_true h1]
      · simp only [↓reduceIte, s_S_at_3, s_S_at_4, s_S_at_5, s_S_at_8, s_S_at_9, s_S_at_10, s_S_at_11, s_S_at_12, s_S_at_13, s_S_at_14, s_S_at_17, s_S_at_18, s_S_at_19, s_S_at_20, s_S_at_21, s_S_at_22, s_S_at_23, s_S_at_26, s_S_at_27, s_S_at_28, s_S_at_31, not_false_eq_true, Nat.reduceLT, Nat.reduceAdd, true_and, and_true, if_true, if_false, ite_true, ite_false, xnb_0, xnb_1, xnb_b, xk_v, xk_n, xln_A hp, Option.isSome_some, Option.getD_some, nlt hi (by omega), (xA_of hp).1, (xA_of hp).2.1, nvp hi (by omega), ncl (show i < 2147483648 by omega), g1, xrf_s, xIl_of g2, xIf_of g2, z0, z1, show (0 : Int32).toNatClampNeg = 0 from rfl, show (1 : Int32).toNatClampNeg = 1 from rfl, kAt, eq_true h0, eq_false h1, nI_ad i 1, show nI i + 1 = nI (i + 1) from nI_ad i 1, ih, and_false]
    · simp only [↓reduceIte, s_S_at_3, s_S_at_4, s_S_at_5, s_S_at_8, s_S_at_9, s_S_at_10, s_S_at_11, s_S_at_12, s_S_at_13, s_S_at_14, s_S_at_17, s_S_at_18, s_S_at_19, s_S_at_20, s_S_at_21, s_S_at_22, s_S_at_23, s_S_at_26, s_S_at_27, s_S_at_28, s_S_at_31, not_false_eq_true, Nat.reduceLT, Nat.reduceAdd, true_and, and_true, if_true, if_false, ite_true, ite_false, xnb_0, xnb_1, xnb_b, xk_v, xk_n, xln_A hp, Option.isSome_some, Option.getD_some, nlt hi (by omega), (xA_of hp).1, (xA_of hp).2.1, nvp hi (by omega), ncl (show i < 2147483648 by omega), g1, xrf_s, xIl_of g2, xIf_of g2, z0, z1, show (0 : Int32).toNatClampNeg = 0 from rfl, show (1 : Int32).toNatClampNeg = 1 from rfl, kAt, eq_false h0, show nI i + 1 = nI (i + 1) from nI_ad i 1, ih, false_and]
theorem f_S_at {g : Nat → Option Nat} {q : Nat → Nat} {f : Nat → Nat → Int32} {wd : Nat} (hp : H.1 p = xarA n g) (hn : n < 1000) (hw : 2 ≤ wd) (hw2 : wd < 100) (hg : ∀ k, k < n → g k = some (q k) ∧ H.1 (q k) = xarI wd (f k)) : xcall E xprog (d + 1) 110 [.ref p, .int x, .int y] H Q = Q (.inl (some (.int (kAt (fun k => f k 0) (fun k => f k 1) x y 0 n))), H) := by
  rw [e_S_at]
  simp only [s_S_at_0, s_S_at_1, not_false_eq_true, Nat.reduceLT, Nat.reduceAdd, true_and, and_true, if_true, if_false, ite_true, ite_false, xnb_0, xnb_1, xnb_b, xk_v, xk_n]
  exact l_S_at hp hn hw hw2 hg n 0 (by omega)
theorem f_S_atk (h : jOK ad ro nk nc nn lo hi) : xcall E xprog (d + 1) 110 [.ref (ad 2), .int x, .int y] (jH ad ro b s nk nc nn ru H a t) Q = Q (.inl (some (.int (kAt (b 2) (b 3) x y 0 nk))), (jH ad ro b s nk nc nn ru H a t)) :=
  f_S_at (q := fun k => ad (10 + k)) (f := kf b a) (j_2 h) (by have := h.1; omega) (by omega) (by omega) fun k hk => ⟨if_pos hk, j_k h hk⟩
theorem f_S_atu (h : jOK ad ro nk nc nn lo hi) : xcall E xprog (d + 1) 110 [.ref (ad 3), .int x, .int y] (jH ad ro b s nk nc nn ru H a t) Q = Q (.inl (some (.int (kAt (b 5) (b 6) x y 0 nc))), (jH ad ro b s nk nc nn ru H a t)) :=
  f_S_at (q := fun k => ad (30 + k)) (f := uf b) (j_3 h) (by have := h.2.1; omega) (by omega) (by omega) fun k hk => ⟨if_pos hk, j_u h hk⟩
end SIM
