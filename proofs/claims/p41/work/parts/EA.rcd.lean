/-! ===== what an hour does to a clipper ===== -/
section RCD
variable {E : xE} {b a a' a1 a1' : Nat → Nat → Int32} {s t : Nat → Int32} {nk nc nn c co ro n i j k m : Nat} {rs re : Nat → Nat} {v x y z : Int32}
def stpN (a a' : Nat → Nat → Int32) (c : Nat) : Int32 := xabs (a' 3 c - a 3 c) + xabs (a' 4 c - a 4 c)
def lfP (l : Int32) : Int32 := if 0 < l - l / 4 - 1 then l - l / 4 - 1 else 0
def lfA (a a' : Nat → Nat → Int32) (c : Nat) : Int32 := if 0 < a' 8 c - a 8 c then lfP (a 5 c) else a 5 c
def lfB (a a' b : Nat → Nat → Int32) (c : Nat) : Int32 := if 0 < stpN a a' c ∧ (a' 3 c = b 7 c ∧ a' 4 c = b 8 c) then 0 else lfA a a' c
/-- an hour of a clipper, as the promises of an hour look at it; tk: whether it took leaf -/
def rcd (a a' b : Nat → Nat → Int32) (t : Nat → Int32) (nk nc c : Nat) (tk : Int32) : Prop :=
  (stpN a a' c = 0 ∨ (stpN a a' c = 1 ∧ ¬ a 6 c + spdC a t c < 10)) ∧
  (a' 6 c = a 6 c + spdC a t c - (if a 6 c + spdC a t c < 10 then 0 else 10)) ∧
  (a' 8 c - a 8 c = if 0 < stpN a a' c ∧ ¬ cAt (b 5) (b 6) (a' 3 c) (a' 4 c) 0 nc = 0 then 1 else 0) ∧
  (a' 7 c - a 7 c = if 0 < stpN a a' c ∧ (a' 3 c = b 7 c ∧ a' 4 c = b 8 c) then lfA a a' c else 0) ∧
  ((tk = 0 ∧ a' 5 c = lfB a a' b c) ∨ (tk = 1 ∧ lfB a a' b c < 30 ∧ a' 5 c = (if lfB a a' b c + 6 < 30 then lfB a a' b c + 6 else 30) ∧ ∃ k, k < nk ∧ kAt (b 2) (b 3) (a' 3 c) (a' 4 c) 0 nk = nI k))
theorem rcd_congr {tk : Int32} (h : rcd a1 a1' b t nk nc c tk) (e : ∀ j, 3 ≤ j → j ≤ 8 → a1 j c = a j c) (e' : ∀ j, 3 ≤ j → j ≤ 8 → a1' j c = a' j c) : rcd a a' b t nk nc c tk := by
  have p3 := e 3 (by omega) (by omega)
  have p4 := e 4 (by omega) (by omega)
  have p5 := e 5 (by omega) (by omega)
  have p6 := e 6 (by omega) (by omega)
  have p7 := e 7 (by omega) (by omega)
  have p8 := e 8 (by omega) (by omega)
  have q3 := e' 3 (by omega) (by omega)
  have q4 := e' 4 (by omega) (by omega)
  have q5 := e' 5 (by omega) (by omega)
  have q6 := e' 6 (by omega) (by omega)
  have q7 := e' 7 (by omega) (by omega)
  have q8 := e' 8 (by omega) (by omega)
  unfold rcd lfB lfA stpN spdC at h ⊢
  rw [p3, p4, p5, p6, p7, p8, q3, q4, q5, q6, q7, q8] at h
  exact h
/-- whether leaf is taken -/
theorem tak_cs : takC a b nk c = a ∨ ∃ k, k < nk ∧ kAt (b 2) (b 3) (a 3 c) (a 4 c) 0 nk = nI k ∧ a 0 (nI k).toNatClampNeg = 0 ∧ a 5 c < 30 ∧ takC a b nk c = tkL a c (nI k).toNatClampNeg := by
  unfold takC
  by_cases h1 : steC a b nk (a 3 c) (a 4 c) = -1
  · rw [if_pos h1]; exact Or.inl rfl
  rw [if_neg h1]
  by_cases h2 : a 5 c < 30
  · rw [if_pos h2]
    unfold steC at h1 ⊢
    by_cases g1 : kAt (b 2) (b 3) (a 3 c) (a 4 c) 0 nk = -1
    · rw [if_pos g1] at h1; exact absurd rfl h1
    rw [if_neg g1] at h1 ⊢
    by_cases g2 : a 0 (kAt (b 2) (b 3) (a 3 c) (a 4 c) 0 nk).toNatClampNeg = 0
    · rw [if_pos g2]
      rcases kAt_is (kc := b 2) (kr := b 3) (x := a 3 c) (y := a 4 c) nk 0 with h | ⟨j, _, j2, h, _, _⟩
      · exact absurd h g1
      · rw [h] at g2 ⊢
        exact Or.inr ⟨j, by omega, rfl, g2, h2, rfl⟩
    · rw [if_neg g2] at h1; exact absurd rfl h1
  · rw [if_neg h2]; exact Or.inl rfl
theorem tkL_r (hj : 3 ≤ j) (h5 : ¬ j = 5) : tkL a c k j = a j := by
  unfold tkL upr
  rw [if_neg (by omega), if_neg (by omega), if_neg h5]
theorem tkL_5 : tkL a c k 5 = upd (a 5) c (if a 5 c + 6 < 30 then a 5 c + 6 else 30) := rfl
theorem tkL_0 : tkL a c k 0 = upd (a 0) k 5 := rfl
theorem tkL_1 : tkL a c k 1 = a 1 := rfl
theorem tkL_2 : tkL a c k 2 = upd (a 2) k (a 2 k + 1) := rfl
theorem q4_of (hv : ¬ v < 0) : v - v / 4 * 4 = 0 ∨ v - v / 4 * 4 = 1 ∨ v - v / 4 * 4 = 2 ∨ v - v / 4 * 4 = 3 := by
  have h0 : 0 ≤ v.toInt := by
    have := mt Int32.lt_iff_toInt_lt.mpr hv
    rw [show (0 : Int32).toInt = 0 from rfl] at this
    omega
  have h1 := v.toInt_lt
  rw [nI_tn h0]
  have hb : v.toInt.toNat < 2147483648 := by omega
  generalize v.toInt.toNat = w at hb
  have e : nI w - nI w / 4 * 4 = nI (w % 4) := nI_md (y := 4) hb (by omega) (by omega)
  rw [e]
  rcases (show w % 4 = 0 ∨ w % 4 = 1 ∨ w % 4 = 2 ∨ w % 4 = 3 by omega) with h | h | h | h <;> rw [h]
  · exact Or.inl rfl
  · exact Or.inr (Or.inl rfl)
  · exact Or.inr (Or.inr (Or.inl rfl))
  · exact Or.inr (Or.inr (Or.inr rfl))
theorem stp_1 (hv : ¬ v < 0) : xabs (eaw (v - v / 4 * 4)) + xabs (sow (v - v / 4 * 4)) = 1 := by
  rcases q4_of hv with h | h | h | h <;> rw [h] <;> decide
theorem i_sc (x e : Int32) : x + e - x = e := by grind
theorem i_ss (x : Int32) : x - x = 0 := by grind
theorem xab_0 : xabs (0 : Int32) + xabs 0 = 0 := by decide
theorem b01 : (0 : Int32) < 1 := by decide
theorem b00 : ¬ (0 : Int32) < 0 := by decide
theorem rc_N {M : Nat → Nat → Int32} (h3 : M 3 c = a 3 c) (h4 : M 4 c = a 4 c) (h5 : M 5 c = a 5 c) (h7 : M 7 c = a 7 c) (h8 : M 8 c = a 8 c) (h6 : M 6 c = a 6 c + spdC a t c - (if a 6 c + spdC a t c < 10 then 0 else 10)) : rcd a M b t nk nc c 0 := by
  have hs : stpN a M c = 0 := by unfold stpN; rw [h3, h4, i_ss, i_ss, xab_0]
  have hl : lfA a M c = a 5 c := by unfold lfA; rw [h8, i_ss, if_neg b00]
  refine ⟨Or.inl hs, h6, ?_, ?_, Or.inl ⟨rfl, ?_⟩⟩
  · rw [hs, if_neg (fun q => b00 q.1), h8, i_ss]
  · rw [hs, if_neg (fun q => b00 q.1), h7, i_ss]
  · unfold lfB
    rw [hs, if_neg (fun q => b00 q.1), hl, h5]
theorem rc_M {M : Nat → Nat → Int32} (hg : ¬ a 6 c + spdC a t c < 10) (hv : ¬ v < 0) (h3 : M 3 c = a 3 c + eaw (v - v / 4 * 4)) (h4 : M 4 c = a 4 c + sow (v - v / 4 * 4)) (h6 : M 6 c = a 6 c + spdC a t c - 10) (h8 : M 8 c = a 8 c + if cAt (b 5) (b 6) (M 3 c) (M 4 c) 0 nc = 0 then 0 else 1)
    (h7 : M 7 c = a 7 c + if M 3 c = b 7 c ∧ M 4 c = b 8 c then (if cAt (b 5) (b 6) (M 3 c) (M 4 c) 0 nc = 0 then a 5 c else lfP (a 5 c)) else 0) (h5 : M 5 c = if M 3 c = b 7 c ∧ M 4 c = b 8 c then 0 else if cAt (b 5) (b 6) (M 3 c) (M 4 c) 0 nc = 0 then a 5 c else lfP (a 5 c)) : rcd a M b t nk nc c 0 := by
  have hs : stpN a M c = 1 := by unfold stpN; rw [h3, h4, i_sc, i_sc]; exact stp_1 hv
  have hl : lfA a M c = if cAt (b 5) (b 6) (M 3 c) (M 4 c) 0 nc = 0 then a 5 c else lfP (a 5 c) := by
    unfold lfA
    rw [h8, i_sc]
    by_cases e : cAt (b 5) (b 6) (M 3 c) (M 4 c) 0 nc = 0
    · rw [if_pos e, if_pos e, if_neg b00]
    · rw [if_neg e, if_neg e, if_pos b01]
  refine ⟨Or.inr ⟨hs, hg⟩, by rw [if_neg hg]; exact h6, ?_, ?_, Or.inl ⟨rfl, ?_⟩⟩
  · rw [h8, i_sc, hs]
    by_cases e : cAt (b 5) (b 6) (M 3 c) (M 4 c) 0 nc = 0
    · rw [if_pos e, if_neg (fun q => q.2 e)]
    · rw [if_neg e, if_pos ⟨b01, e⟩]
  · rw [h7, i_sc, hs, hl]
    generalize (if cAt (b 5) (b 6) (M 3 c) (M 4 c) 0 nc = 0 then a 5 c else lfP (a 5 c)) = L
    by_cases e : M 3 c = b 7 c ∧ M 4 c = b 8 c
    · rw [if_pos e, if_pos ⟨b01, e⟩]
    · rw [if_neg e, if_neg (fun q => e q.2)]
  · unfold lfB
    rw [hs, hl, h5]
    generalize (if cAt (b 5) (b 6) (M 3 c) (M 4 c) 0 nc = 0 then a 5 c else lfP (a 5 c)) = L
    by_cases e : M 3 c = b 7 c ∧ M 4 c = b 8 c
    · rw [if_pos e, if_pos ⟨b01, e⟩]
    · rw [if_neg e, if_neg (fun q => e q.2)]
/-- nothing is told apart but what is clipper c's, and no kettle -/
def agC (a a' : Nat → Nat → Int32) (c : Nat) : Prop := (∀ j, j < 3 → a' j = a j) ∧ ∀ j q, ¬ q = c → a' j q = a j q
theorem agC_id : agC a a c := ⟨fun _ _ => rfl, fun _ _ _ => rfl⟩
theorem agC_u {r : Nat} (h : agC a a' c) (hr : 3 ≤ r) {f : Nat → Int32} (hf : ∀ q, ¬ q = c → f q = a' r q) : agC a (upr a' r f) c := by
  refine ⟨fun j hj => ?_, fun j q hq => ?_⟩
  · unfold upr; rw [if_neg (by omega)]; exact h.1 j hj
  · unfold upr
    by_cases e : j = r
    · subst e; rw [if_pos rfl, hf q hq]; exact h.2 j q hq
    · rw [if_neg e]; exact h.2 j q hq
theorem agC_d {r : Nat} (h : agC a a' c) (hr : 3 ≤ r) : agC a (upr a' r (upd (a' r) c v)) c := agC_u h hr fun q hq => upd_o hq
theorem agC_pay (h : agC a a' c) : agC a (payR a' b nc c) c := by
  unfold payR
  split
  · exact h
  · exact agC_u (agC_d h (by omega)) (by omega) fun q hq => upd_o hq
theorem agC_win (h : agC a a' c) : agC a (winR a' b c) c := by
  unfold winR
  split
  · exact agC_u (agC_d h (by omega)) (by omega) fun q hq => upd_o hq
  · exact h
theorem agC_mov (h : agC a a' c) : agC a (movR a' c v) c := agC_u (agC_d h (by omega)) (by omega) fun q hq => upd_o hq
theorem agC_way (h : agC a a' c) : agC a (wayR a' t c) c := agC_d h (by omega)
theorem agC_wS (h : agC a a' c) : agC a (wayS a' c) c := agC_d h (by omega)
theorem agC_mv (h : agC a a' c) : agC a (mvR a' b s nc c v) c := by
  unfold mvR
  split
  · exact h
  · exact agC_win (agC_pay (agC_mov h))
theorem mvM {X : Nat → Nat → Int32} : winR (payR X b nc c) b c 3 c = X 3 c ∧ winR (payR X b nc c) b c 4 c = X 4 c ∧ winR (payR X b nc c) b c 6 c = X 6 c ∧
    winR (payR X b nc c) b c 8 c = X 8 c + (if cAt (b 5) (b 6) (X 3 c) (X 4 c) 0 nc = 0 then 0 else 1) ∧
    winR (payR X b nc c) b c 7 c = X 7 c + (if X 3 c = b 7 c ∧ X 4 c = b 8 c then (if cAt (b 5) (b 6) (X 3 c) (X 4 c) 0 nc = 0 then X 5 c else lfP (X 5 c)) else 0) ∧
    winR (payR X b nc c) b c 5 c = if X 3 c = b 7 c ∧ X 4 c = b 8 c then 0 else if cAt (b 5) (b 6) (X 3 c) (X 4 c) 0 nc = 0 then X 5 c else lfP (X 5 c) := by
  have z : ∀ x : Int32, x = x + 0 := fun x => by grind
  by_cases e1 : cAt (b 5) (b 6) (X 3 c) (X 4 c) 0 nc = 0
  · have hp : payR X b nc c = X := by unfold payR; rw [if_pos e1]
    rw [hp]
    simp only [if_pos e1]
    by_cases e2 : X 3 c = b 7 c ∧ X 4 c = b 8 c
    · have hw : winR X b c = upr (upr X 7 (upd (X 7) c (X 7 c + X 5 c))) 5 (upd (X 5) c 0) := by unfold winR; rw [if_pos e2]
      rw [hw, if_pos e2, if_pos e2]
      exact ⟨rfl, rfl, rfl, z _, upd_s, upd_s⟩
    · have hw : winR X b c = X := by unfold winR; rw [if_neg e2]
      rw [hw, if_neg e2, if_neg e2]
      exact ⟨rfl, rfl, rfl, z _, z _, rfl⟩
  · have hp : payR X b nc c = upr (upr X 5 (upd (X 5) c (lfP (X 5 c)))) 8 (upd (X 8) c (X 8 c + 1)) := by unfold payR; rw [if_neg e1]; rfl
    rw [hp]
    simp only [if_neg e1]
    by_cases e2 : X 3 c = b 7 c ∧ X 4 c = b 8 c
    · have hw : winR (upr (upr X 5 (upd (X 5) c (lfP (X 5 c)))) 8 (upd (X 8) c (X 8 c + 1))) b c = upr (upr (upr (upr X 5 (upd (X 5) c (lfP (X 5 c)))) 8 (upd (X 8) c (X 8 c + 1))) 7 (upd (X 7) c (X 7 c + upd (X 5) c (lfP (X 5 c)) c))) 5 (upd (upd (X 5) c (lfP (X 5 c))) c 0) := by
        unfold winR
        rw [if_pos (show (upr (upr X 5 (upd (X 5) c (lfP (X 5 c)))) 8 (upd (X 8) c (X 8 c + 1))) 3 c = b 7 c ∧ (upr (upr X 5 (upd (X 5) c (lfP (X 5 c)))) 8 (upd (X 8) c (X 8 c + 1))) 4 c = b 8 c from e2)]
        rfl
      rw [hw, if_pos e2, if_pos e2, upd_s]
      exact ⟨rfl, rfl, rfl, upd_s, upd_s, upd_s⟩
    · have hw : winR (upr (upr X 5 (upd (X 5) c (lfP (X 5 c)))) 8 (upd (X 8) c (X 8 c + 1))) b c = upr (upr X 5 (upd (X 5) c (lfP (X 5 c)))) 8 (upd (X 8) c (X 8 c + 1)) := by
        unfold winR
        rw [if_neg (show ¬ ((upr (upr X 5 (upd (X 5) c (lfP (X 5 c)))) 8 (upd (X 8) c (X 8 c + 1))) 3 c = b 7 c ∧ (upr (upr X 5 (upd (X 5) c (lfP (X 5 c)))) 8 (upd (X 8) c (X 8 c + 1))) 4 c = b 8 c) from e2)]
      rw [hw, if_neg e2, if_neg e2]
      exact ⟨rfl, rfl, rfl, upd_s, z _, upd_s⟩
theorem rc_mv (hg : ¬ a 6 c + spdC a t c < 10) : rcd a (mvR (wayS (wayR a t c) c) b s nc c v) b t nk nc c 0 := by
  have w6 : wayS (wayR a t c) c 6 c = a 6 c + spdC a t c - 10 := by
    show upd (upd (a 6) c (a 6 c + spdC a t c)) c (upd (a 6) c (a 6 c + spdC a t c) c - 10) c = _
    rw [upd_s, upd_s]
  unfold mvR
  by_cases hm : movC s (wayS (wayR a t c) c) c v = 0
  · rw [if_pos hm]
    exact rc_N rfl rfl rfl rfl rfl (by rw [if_neg hg]; exact w6)
  · rw [if_neg hm]
    have hv : ¬ v < 0 := fun q => hm (by unfold movC; rw [if_pos q])
    obtain ⟨m3, m4, m6, m8, m7, m5⟩ := mvM (b := b) (nc := nc) (c := c) (X := movR (wayS (wayR a t c) c) c v)
    have x3 : movR (wayS (wayR a t c) c) c v 3 c = a 3 c + eaw (v - v / 4 * 4) := upd_s
    have x4 : movR (wayS (wayR a t c) c) c v 4 c = a 4 c + sow (v - v / 4 * 4) := upd_s
    rw [← m3, ← m4] at m8 m7 m5
    exact rc_M hg hv (m3.trans x3) (m4.trans x4) (m6.trans w6) m8 m7 m5
theorem rc_A (hg : a 6 c + spdC a t c < 10) : rcd a (wayR a t c) b t nk nc c 0 := by
  refine rc_N rfl rfl rfl rfl rfl ?_
  rw [if_pos hg]
  show upd (a 6) c (a 6 c + spdC a t c) c = _
  rw [upd_s]; grind
theorem rc_tk {M : Nat → Nat → Int32} (h : rcd a M b t nk nc c 0) (hk : k < nk) (he : kAt (b 2) (b 3) (M 3 c) (M 4 c) 0 nk = nI k) (h5 : M 5 c < 30) : rcd a (tkL M c j) b t nk nc c 1 := by
  obtain ⟨r1, r2, r3, r4, r5⟩ := h
  have r5' : M 5 c = lfB a M b c := by
    rcases r5 with q | q
    · exact q.2
    · exact absurd q.1 (by decide)
  refine ⟨r1, r2, r3, r4, Or.inr ⟨rfl, ?_, ?_, k, hk, he⟩⟩
  · show lfB a M b c < 30
    rw [← r5']; exact h5
  · show upd (M 5) c (if M 5 c + 6 < 30 then M 5 c + 6 else 30) c = if lfB a M b c + 6 < 30 then lfB a M b c + 6 else 30
    rw [upd_s, ← r5']
/-- a clipper's hour -/
theorem sa_rcd {p : bst} : ∃ tk : Int32, rcd p.1 (saC b t s nk nc rs re c p).1 b t nk nc c tk ∧ (∀ j q, 3 ≤ j → ¬ q = c → (saC b t s nk nc rs re c p).1 j q = p.1 j q) ∧ ((tk = 0 ∧ (saC b t s nk nc rs re c p).1 0 = p.1 0 ∧ (saC b t s nk nc rs re c p).1 2 = p.1 2) ∨ (tk = 1 ∧ ∃ k, p.1 0 (nI k).toNatClampNeg = 0 ∧ k < nk ∧ (saC b t s nk nc rs re c p).1 0 = upd (p.1 0) (nI k).toNatClampNeg 5 ∧ (saC b t s nk nc rs re c p).1 2 = upd (p.1 2) (nI k).toNatClampNeg (p.1 2 (nI k).toNatClampNeg + 1))) := by
  have key : ∀ M : Nat → Nat → Int32, rcd p.1 M b t nk nc c 0 → agC p.1 M c → ∃ tk : Int32, rcd p.1 (takC M b nk c) b t nk nc c tk ∧ (∀ j q, 3 ≤ j → ¬ q = c → takC M b nk c j q = p.1 j q) ∧ ((tk = 0 ∧ takC M b nk c 0 = p.1 0 ∧ takC M b nk c 2 = p.1 2) ∨ (tk = 1 ∧ ∃ k, p.1 0 (nI k).toNatClampNeg = 0 ∧ k < nk ∧ takC M b nk c 0 = upd (p.1 0) (nI k).toNatClampNeg 5 ∧ takC M b nk c 2 = upd (p.1 2) (nI k).toNatClampNeg (p.1 2 (nI k).toNatClampNeg + 1))) := by
    intro M hM hG
    rcases tak_cs (a := M) (b := b) (nk := nk) (c := c) with h | ⟨k, k1, k2, k3, k4, k5⟩
    · rw [h]
      exact ⟨0, hM, fun j q _ hq => hG.2 j q hq, Or.inl ⟨rfl, hG.1 0 (by omega), hG.1 2 (by omega)⟩⟩
    · rw [k5]
      have g0 := hG.1 0 (by omega)
      have g2 := hG.1 2 (by omega)
      refine ⟨1, rc_tk hM k1 k2 k4, fun j q hj hq => ?_, Or.inr ⟨rfl, k, by rw [← g0]; exact k3, k1, by rw [tkL_0, g0], by rw [tkL_2, g2]⟩⟩
      by_cases e : j = 5
      · subst e; rw [tkL_5, upd_o hq]; exact hG.2 5 q hq
      · rw [tkL_r hj e]; exact hG.2 j q hq
  have w6 : wayR p.1 t c 6 c = p.1 6 c + spdC p.1 t c := upd_s
  unfold saC
  rw [w6]
  by_cases hg : p.1 6 c + spdC p.1 t c < 10
  · rw [if_pos hg]
    exact key _ (rc_A hg) (agC_way agC_id)
  · rw [if_neg hg]
    exact key _ (rc_mv hg) (agC_mv (agC_wS (agC_way agC_id)))
end RCD
