/-! ===== a rule is a tree that cells choose: (from, deep) is a node ===== -/
section TREE
/-- v's lower bits, below n -/
def bel (v : Int32) (n : Nat) : Nat := (v.toBitVec &&& 2147483647#32).toNat % n
theorem bel_lt {v : Int32} {n : Nat} (h : 0 < n) : bel v n < n := Nat.mod_lt _ h
/-- the script's cell k -/
def cel (E : xE) (k : Nat) : Int32 := if k < E.1 then E.2 k else 790386105 * (nI k + 3)
variable {E : xE}
/-- a node's number -/
def rux (E : xE) (fr dp : Nat) : Int32 := cel E (fr % 16) + 601 * nI fr + 7 * nI dp
/-- what a node does -/
def rud (E : xE) (fr dp : Nat) : Nat := if 2 < dp then bel (rux E fr dp) 2 else if 16 < bel (rux E fr dp) 19 then 1 else bel (rux E fr dp) 19
/-- its number, or which measure -/
def run (E : xE) (fr dp : Nat) : Nat := if rud E fr dp = 0 then bel (rux E fr dp >>> (5 &&& 31)) (if bel (rux E fr dp >>> (4 &&& 31)) 5 = 0 then 10000 else 12) else if rud E fr dp = 1 then bel (rux E fr dp >>> (5 &&& 31)) 10 else 0
/-- how many parts -/
def rua (E : xE) (fr dp : Nat) : Nat := if rud E fr dp < 2 then 0 else if rud E fr dp < 4 then 1 else if rud E fr dp < 16 then 2 else 3
theorem rud_le (fr dp : Nat) : rud E fr dp ≤ 16 := by
  unfold rud
  have h1 := bel_lt (v := rux E fr dp) (n := 2) (by omega)
  have h2 := bel_lt (v := rux E fr dp) (n := 19) (by omega)
  split
  · omega
  · split <;> omega
theorem rud_leaf {fr dp : Nat} (h : 2 < dp) : rud E fr dp < 2 := by
  unfold rud
  rw [if_pos h]
  exact bel_lt (by omega)
theorem run_0 {fr dp : Nat} (h : rud E fr dp = 0) : run E fr dp ≤ 9999 := by
  unfold run
  rw [if_pos h]
  split
  · have := bel_lt (v := rux E fr dp >>> (5 &&& 31)) (n := 10000) (by omega); omega
  · have := bel_lt (v := rux E fr dp >>> (5 &&& 31)) (n := 12) (by omega); omega
theorem run_1 {fr dp : Nat} (h : rud E fr dp = 1) : run E fr dp < 10 := by
  unfold run
  rw [if_neg (by omega), if_pos h]
  exact bel_lt (by omega)
theorem run_o {fr dp : Nat} (h : 2 ≤ rud E fr dp) : run E fr dp = 0 := by
  unfold run
  rw [if_neg (by omega), if_neg (by omega)]
/-- a sign between two: its token's kind (does is 4 to 13) -/
def sgk (k : Nat) : Nat := [43, 45, 42, 47, 37, 60, 62, 61, 112, 111].getD (k - 4) 0
def sgb (k : Nat) : Bool := decide (12 ≤ k)
/-- a rule's tokens: free: it may stand without brackets; bl: a blank stands ahead of it -/
def rtk (E : xE) : Nat → Nat → Nat → Bool → Bool → List tok
  | 0, _, _, _, _ => []
  | n + 1, fr, dp, free, bl =>
    if rud E fr dp = 0 then [(bl, 2, run E fr dp)]
    else if rud E fr dp = 1 then [(bl, 116 + run E fr dp, 0)]
    else if rud E fr dp = 2 then (bl, 45, 0) :: rtk E n (fr * 2 + 3) (dp + 1) false false
    else if rud E fr dp = 3 then (bl, 113, 0) :: rtk E n (fr * 2 + 3) (dp + 1) false true
    else if rud E fr dp = 14 then (bl, 114, 0) :: (false, 40, 0) :: (rtk E n (fr * 2 + 3) (dp + 1) true false ++ (false, 44, 0) :: (rtk E n (fr * 2 + 4) (dp + 1) true false ++ [(false, 41, 0)]))
    else if rud E fr dp = 15 then (bl, 115, 0) :: (false, 40, 0) :: (rtk E n (fr * 2 + 3) (dp + 1) true false ++ (false, 44, 0) :: (rtk E n (fr * 2 + 4) (dp + 1) true false ++ [(false, 41, 0)]))
    else if rud E fr dp = 16 then
      (if free = true then (bl, 108, 0) :: (rtk E n (fr * 2 + 3) (dp + 1) true true ++ (true, 109, 0) :: (rtk E n (fr * 2 + 4) (dp + 1) true true ++ (true, 110, 0) :: rtk E n (fr * 2 + 5) (dp + 1) true true))
      else (bl, 40, 0) :: (false, 108, 0) :: (rtk E n (fr * 2 + 3) (dp + 1) true true ++ (true, 109, 0) :: (rtk E n (fr * 2 + 4) (dp + 1) true true ++ (true, 110, 0) :: (rtk E n (fr * 2 + 5) (dp + 1) true true ++ [(false, 41, 0)]))))
    else
      (if free = true then rtk E n (fr * 2 + 3) (dp + 1) false bl ++ (sgb (rud E fr dp), sgk (rud E fr dp), 0) :: rtk E n (fr * 2 + 4) (dp + 1) false (sgb (rud E fr dp))
      else (bl, 40, 0) :: (rtk E n (fr * 2 + 3) (dp + 1) false false ++ (sgb (rud E fr dp), sgk (rud E fr dp), 0) :: (rtk E n (fr * 2 + 4) (dp + 1) false (sgb (rud E fr dp)) ++ [(false, 41, 0)])))
/-- the steps that the class keeps of it -/
def pfx (E : xE) : Nat → Nat → Nat → List (Int32 × Int32)
  | 0, _, _ => []
  | n + 1, fr, dp =>
    if rud E fr dp = 0 then [(2, nI (run E fr dp))]
    else if rud E fr dp = 1 then [(nI (116 + run E fr dp), 0)]
    else if rud E fr dp = 2 then pfx E n (fr * 2 + 3) (dp + 1) ++ [(4, 0)]
    else if rud E fr dp = 3 then pfx E n (fr * 2 + 3) (dp + 1) ++ [(113, 0)]
    else if rud E fr dp = 14 then pfx E n (fr * 2 + 3) (dp + 1) ++ (pfx E n (fr * 2 + 4) (dp + 1) ++ [(114, 0)])
    else if rud E fr dp = 15 then pfx E n (fr * 2 + 3) (dp + 1) ++ (pfx E n (fr * 2 + 4) (dp + 1) ++ [(115, 0)])
    else if rud E fr dp = 16 then pfx E n (fr * 2 + 3) (dp + 1) ++ (pfx E n (fr * 2 + 4) (dp + 1) ++ (pfx E n (fr * 2 + 5) (dp + 1) ++ [(108, 0)]))
    else pfx E n (fr * 2 + 3) (dp + 1) ++ (pfx E n (fr * 2 + 4) (dp + 1) ++ [(nI (sgk (rud E fr dp)), 0)])
/-- its number, of measures -/
def rvl (E : xE) (ms : Nat → Int32) : Nat → Nat → Nat → Int32
  | 0, _, _ => 0
  | n + 1, fr, dp =>
    if rud E fr dp = 0 then nI (run E fr dp)
    else if rud E fr dp = 1 then ms (run E fr dp)
    else if rud E fr dp = 2 then - rvl E ms n (fr * 2 + 3) (dp + 1)
    else if rud E fr dp = 3 then xb (rvl E ms n (fr * 2 + 3) (dp + 1) = 0)
    else if rud E fr dp = 14 then joC 114 (rvl E ms n (fr * 2 + 3) (dp + 1)) (rvl E ms n (fr * 2 + 4) (dp + 1))
    else if rud E fr dp = 15 then joC 115 (rvl E ms n (fr * 2 + 3) (dp + 1)) (rvl E ms n (fr * 2 + 4) (dp + 1))
    else if rud E fr dp = 16 then (if rvl E ms n (fr * 2 + 3) (dp + 1) = 0 then rvl E ms n (fr * 2 + 5) (dp + 1) else rvl E ms n (fr * 2 + 4) (dp + 1))
    else joC (nI (sgk (rud E fr dp))) (rvl E ms n (fr * 2 + 3) (dp + 1)) (rvl E ms n (fr * 2 + 4) (dp + 1))
/-- steps over the stack -/
def runL (ms : Nat → Int32) : List (Int32 × Int32) → stk → stk
  | [], p => p
  | q :: L, p => runL ms L (rst ms q.1 q.2 p)
theorem runL_app {ms : Nat → Int32} : ∀ {A B : List (Int32 × Int32)} {p : stk}, runL ms (A ++ B) p = runL ms B (runL ms A p)
  | [], _, _ => rfl
  | _ :: A, _, _ => runL_app (A := A)
/-- v lies on p -/
def onT (p q : stk) (v : Int32) : Prop := q.2 = p.2 + 1 ∧ q.1 p.2 = v ∧ ∀ j, j < p.2 → q.1 j = p.1 j
theorem sgk_in {k : Nat} (h1 : ¬ k < 4) (h2 : k < 14) : sgk k = 43 ∨ sgk k = 45 ∨ sgk k = 42 ∨ sgk k = 47 ∨ sgk k = 37 ∨ sgk k = 60 ∨ sgk k = 62 ∨ sgk k = 61 ∨ sgk k = 112 ∨ sgk k = 111 := by
  rcases (show k = 4 ∨ k = 5 ∨ k = 6 ∨ k = 7 ∨ k = 8 ∨ k = 9 ∨ k = 10 ∨ k = 11 ∨ k = 12 ∨ k = 13 by omega) with r | r | r | r | r | r | r | r | r | r <;> subst r <;> decide
theorem two_on {ms : Nat → Int32} {p q r : stk} {a b k : Int32} (h1 : onT p q a) (h2 : onT q r b) (h : p.2 < 390) (hk : ∀ s : stk, rst ms k 0 s = pshR (popR (popR s)) (joC k (popV (popR s)) (popV s))) : onT p (rst ms k 0 r) (joC k a b) := by
  obtain ⟨a1, a2, a3⟩ := h1
  obtain ⟨b1, b2, b3⟩ := h2
  have e := rs_j (ms := ms) (k := k) (v := 0) (p := r) (by omega) (by omega) (hk r)
  rw [e]
  have e1 : r.1 (r.2 - 2) = a := by rw [show r.2 - 2 = p.2 by omega, b3 _ (by omega), a2]
  have e2 : r.1 (r.2 - 1) = b := by rw [show r.2 - 1 = q.2 by omega, b2]
  refine ⟨by show r.2 - 1 = p.2 + 1; omega, ?_, fun j hj => ?_⟩
  · show upd r.1 (r.2 - 2) _ p.2 = _
    rw [show r.2 - 2 = p.2 by omega, upd_s, show p.2 = r.2 - 2 by omega, e1, e2]
  · show upd r.1 (r.2 - 2) _ j = _
    rw [upd_o (by omega), b3 _ (by omega), a3 _ hj]
theorem one_on {ms : Nat → Int32} {p q : stk} {a k : Int32} (h1 : onT p q a) (h : p.2 < 390) (hk : k = 4 ∨ k = 113) : onT p (rst ms k 0 q) (if k = 4 then - a else xb (a = 0)) := by
  obtain ⟨a1, a2, a3⟩ := h1
  rw [rs_1 hk (by omega) (by omega)]
  have e1 : q.1 (q.2 - 1) = a := by rw [show q.2 - 1 = p.2 by omega, a2]
  refine ⟨a1, ?_, fun j hj => ?_⟩
  · show upd q.1 (q.2 - 1) _ p.2 = _
    rw [show q.2 - 1 = p.2 by omega, upd_s, show p.2 = q.2 - 1 by omega, e1]
  · show upd q.1 (q.2 - 1) _ j = _
    rw [upd_o (by omega), a3 _ hj]
theorem jo_r {ms : Nat → Int32} {k : Nat} (h : k = 43 ∨ k = 45 ∨ k = 42 ∨ k = 47 ∨ k = 37 ∨ k = 60 ∨ k = 62 ∨ k = 61 ∨ k = 112 ∨ k = 111 ∨ k = 114 ∨ k = 115) (s : stk) : rst ms (nI k) 0 s = pshR (popR (popR s)) (joC (nI k) (popV (popR s)) (popV s)) := by
  rcases h with r | r | r | r | r | r | r | r | r | r | r | r <;> subst r <;> exact rst_j (by decide) (by decide) (by decide) (by decide) (by decide)
/-- the steps tell the tree's number -/
theorem run_pfx (ms : Nat → Int32) : ∀ (n fr dp : Nat) (p : stk), dp + n = 4 → p.2 + 4 * n < 380 → onT p (runL ms (pfx E n fr dp) p) (rvl E ms n fr dp) ∨ n = 0
  | 0, _, _, _, _, _ => Or.inr rfl
  | n + 1, fr, dp, p, hd, hp => by
    left
    have hdo := rud_le (E := E) fr dp
    have sub : 2 ≤ rud E fr dp → ∀ (fr' : Nat) (q : stk), q.2 + 4 * n < 380 → onT q (runL ms (pfx E n fr' (dp + 1)) q) (rvl E ms n fr' (dp + 1)) := by
      intro h2 fr' q hq
      rcases run_pfx ms n fr' (dp + 1) q (by omega) hq with h | h
      · exact h
      · exact absurd (rud_leaf (E := E) (fr := fr) (dp := dp) (by omega)) (by omega)
    unfold pfx rvl
    by_cases h0 : rud E fr dp = 0
    · rw [if_pos h0, if_pos h0]
      show onT p (rst ms 2 _ p) _
      rw [rs_2 (by omega)]
      exact ⟨rfl, upd_s, fun j hj => upd_o (by omega)⟩
    rw [if_neg h0, if_neg h0]
    by_cases h1 : rud E fr dp = 1
    · rw [if_pos h1, if_pos h1]
      show onT p (rst ms (nI (116 + run E fr dp)) 0 p) _
      rw [rs_ask (run_1 h1) (by omega)]
      exact ⟨rfl, upd_s, fun j hj => upd_o (by omega)⟩
    rw [if_neg h1, if_neg h1]
    have sb2 := sub (by omega)
    have s1 := sb2 (fr * 2 + 3) p (by omega)
    by_cases h2 : rud E fr dp = 2
    · rw [if_pos h2, if_pos h2, runL_app]
      exact one_on s1 (by omega) (Or.inl rfl)
    rw [if_neg h2, if_neg h2]
    by_cases h3 : rud E fr dp = 3
    · rw [if_pos h3, if_pos h3, runL_app]
      exact one_on s1 (by omega) (Or.inr rfl)
    rw [if_neg h3, if_neg h3]
    have s2 := sb2 (fr * 2 + 4) _ (by rw [s1.1]; omega)
    by_cases h4 : rud E fr dp = 14
    · rw [if_pos h4, if_pos h4, runL_app, runL_app]
      exact two_on s1 s2 (by omega) (jo_r (k := 114) (by decide))
    rw [if_neg h4, if_neg h4]
    by_cases h5 : rud E fr dp = 15
    · rw [if_pos h5, if_pos h5, runL_app, runL_app]
      exact two_on s1 s2 (by omega) (jo_r (k := 115) (by decide))
    rw [if_neg h5, if_neg h5]
    by_cases h6 : rud E fr dp = 16
    · rw [if_pos h6, if_pos h6, runL_app, runL_app, runL_app]
      have s3 := sb2 (fr * 2 + 5) _ (by rw [s2.1, s1.1]; omega)
      generalize hq : runL ms (pfx E n (fr * 2 + 3) (dp + 1)) p = q at s1 s2 s3
      generalize hr : runL ms (pfx E n (fr * 2 + 4) (dp + 1)) q = r at s2 s3
      generalize hs : runL ms (pfx E n (fr * 2 + 5) (dp + 1)) r = s at s3
      show onT p (rst ms 108 0 s) _
      obtain ⟨a1, a2, a3⟩ := s1
      obtain ⟨b1, b2, b3⟩ := s2
      obtain ⟨c1, c2, c3⟩ := s3
      rw [rs_3 (by omega) (by omega)]
      have e1 : s.1 (s.2 - 3) = rvl E ms n (fr * 2 + 3) (dp + 1) := by rw [show s.2 - 3 = p.2 by omega, c3 _ (by omega), b3 _ (by omega), a2]
      have e2 : s.1 (s.2 - 2) = rvl E ms n (fr * 2 + 4) (dp + 1) := by rw [show s.2 - 2 = q.2 by omega, c3 _ (by omega), b2]
      have e3 : s.1 (s.2 - 1) = rvl E ms n (fr * 2 + 5) (dp + 1) := by rw [show s.2 - 1 = r.2 by omega, c2]
      rw [e1, e2, e3]
      refine ⟨by show s.2 - 2 = p.2 + 1; omega, ?_, fun j hj => ?_⟩
      · show upd s.1 (s.2 - 3) _ p.2 = _
        rw [show s.2 - 3 = p.2 by omega, upd_s]
      · show upd s.1 (s.2 - 3) _ j = _
        rw [upd_o (by omega), c3 _ (by omega), b3 _ (by omega), a3 _ hj]
    · rw [if_neg h6, if_neg h6, runL_app, runL_app]
      refine two_on s1 s2 (by omega) (jo_r ?_)
      have := sgk_in (k := rud E fr dp) (by omega) (by omega)
      omega
end TREE
