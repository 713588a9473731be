/-! ===== a clipper's hour, the bay's hours ===== -/
section SAIL
variable {E : xE} {d : Nat} {Q : xR → Prop} {H : xH} {K B : Nat} {b : Nat → Nat → Int32} {nm : Nat → Int64} {s : Nat → Int32} {a : Nat → Nat → Int32} {t : Nat → Int32} {ms sk : Nat → Int32} {h : Int32}
def movR (a : Nat → Nat → Int32) (c : Nat) (v : Int32) : Nat → Nat → Int32 := upr (upr a 3 (upd (a 3) c (a 3 c + eaw (v - v / 4 * 4)))) 4 (upd (a 4) c (a 4 c + sow (v - v / 4 * 4)))
def payR (a b : Nat → Nat → Int32) (nc c : Nat) : Nat → Nat → Int32 := if cAt (b 5) (b 6) (a 3 c) (a 4 c) 0 nc = 0 then a else upr (upr a 5 (upd (a 5) c (if 0 < a 5 c - a 5 c / 4 - 1 then a 5 c - a 5 c / 4 - 1 else 0))) 8 (upd (a 8) c (a 8 c + 1))
def winR (a b : Nat → Nat → Int32) (c : Nat) : Nat → Nat → Int32 := if a 3 c = b 7 c ∧ a 4 c = b 8 c then upr (upr a 7 (upd (a 7) c (a 7 c + a 5 c))) 5 (upd (a 5) c 0) else a
def winV (a b : Nat → Nat → Int32) (c : Nat) : Int32 := if a 3 c = b 7 c ∧ a 4 c = b 8 c then a 5 c else 0
theorem g_Bay_paySip (hB : kB H K b nm s) (hK : K < 26) (hb : 42 < B) (nc : Nat) (hn : s 3 = nI nc) (hk : nc ≤ 6) (c : Nat) (hc : c < 6) :
    xcall E xprog (d + 2) 13 [.ref B, .int (nI c)] (sH H B K a t ms sk h) Q = Q (.inl none, sH H B K (payR a b nc c) t ms sk h) := by
  rw [f_Bay_paySip hB hK hb nc hn hk c hc]
  unfold payR
  split <;> rfl
theorem g_Bay_winAtHome (hB : kB H K b nm s) (hK : K < 26) (hb : 42 < B) (c : Nat) (hc : c < 6) :
    xcall E xprog (d + 2) 14 [.ref B, .int (nI c)] (sH H B K a t ms sk h) Q = Q (.inl (some (.int (winV a b c))), sH H B K (winR a b c) t ms sk h) := by
  rw [f_Bay_winAtHome hB hK hb c hc]
  unfold winR winV
  split <;> rfl
def spdC (a : Nat → Nat → Int32) (t : Nat → Int32) (c : Nat) : Int32 := if t 1 = 0 then (10 - a 5 c / 5) / 2 else 10 - a 5 c / 5
def wayR (a : Nat → Nat → Int32) (t : Nat → Int32) (c : Nat) : Nat → Nat → Int32 := upr a 6 (upd (a 6) c (a 6 c + spdC a t c))
def wayS (a : Nat → Nat → Int32) (c : Nat) : Nat → Nat → Int32 := upr a 6 (upd (a 6) c (a 6 c - 10))
theorem g_Bay_way (hY : kY H B K a t) (c : Nat) (hc : c < 6) :
    xcall E xprog (d + 1) 5 [.ref B, .int (nI c)] H Q = Q (.inl (some (.int (spdC a t c))), H) := f_Bay_wayOfAnHour hY c hc
/-- a bay's rows, the teller's measures, its stack -/
abbrev bst := (Nat → Nat → Int32) × (Nat → Int32) × stk
/-- the rows behind a clipper's move, before it takes leaf, and what it has won -/
def mvR (a b : Nat → Nat → Int32) (s : Nat → Int32) (nc c : Nat) (v : Int32) : Nat → Nat → Int32 := if movC s a c v = 0 then a else winR (payR (movR a c v) b nc c) b c
def mvV (a b : Nat → Nat → Int32) (s : Nat → Int32) (nc c : Nat) (v : Int32) : Int32 := if movC s a c v = 0 then 0 else winV (payR (movR a c v) b nc c) b c
def saT (b : Nat → Nat → Int32) (t s : Nat → Int32) (nk : Nat) (rs re : Nat → Nat) (c : Nat) (p : bst) : stk := teR (wayS (wayR p.1 t c) c) b t s nk c (rs c) (re c) p.2.1 p.2.2.1
def saC (b : Nat → Nat → Int32) (t s : Nat → Int32) (nk nc : Nat) (rs re : Nat → Nat) (c : Nat) (p : bst) : bst :=
  if wayR p.1 t c 6 c < 10 then (takC (wayR p.1 t c) b nk c, p.2.1, p.2.2)
  else (takC (mvR (wayS (wayR p.1 t c) c) b s nc c (popV (saT b t s nk rs re c p))) b nk c, tms (wayS (wayR p.1 t c) c) b t s nk c p.2.1, popR (saT b t s nk rs re c p))
def saV (b : Nat → Nat → Int32) (t s : Nat → Int32) (nk nc : Nat) (rs re : Nat → Nat) (c : Nat) (p : bst) : Int32 :=
  if wayR p.1 t c 6 c < 10 then 0 else mvV (wayS (wayR p.1 t c) c) b s nc c (popV (saT b t s nk rs re c p))
theorem wsF {c : Nat} : upr a 6 (upd (a 6) c (a 6 c - 10)) = wayS a c := rfl
theorem mvF {c : Nat} {v : Int32} : upr (upr a 3 (upd (a 3) c (a 3 c + eaw (v - v / 4 * 4)))) 4 (upd (a 4) c (a 4 c + sow (v - v / 4 * 4))) = movR a c v := rfl
theorem f_Bay_sailClipper (hB : kB H K b nm s) (hK : K < 26) (hb : 42 < B) (nk : Nat) (hn : s 2 = nI nk) (hk : nk ≤ 6) (nc : Nat) (hn' : s 3 = nI nc) (hk' : nc ≤ 6) (cnt : Nat) (hs : s 5 = nI cnt) (hcn : cnt ≤ 400) (rs re : Nat → Nat)
    (c : Nat) (hc : c < 6) (hr : rs c ≤ re c ∧ re c ≤ cnt ∧ b 10 c = nI (rs c) ∧ b 11 c = nI (re c)) (p : bst) :
    xcall E xprog (d + 5) 11 [.ref B, .int (nI c)] (sH H B K p.1 t p.2.1 p.2.2.1 (nI p.2.2.2)) Q =
      Q (.inl (some (.int (saV b t s nk nc rs re c p))), sH H B K (saC b t s nk nc rs re c p).1 t (saC b t s nk nc rs re c p).2.1 (saC b t s nk nc rs re c p).2.2.1 (nI (saC b t s nk nc rs re c p).2.2.2)) := by
  rw [e_Bay_sailClipper]
  simp only [s_Bay_sailClipper_0, s_Bay_sailClipper_1, s_Bay_sailClipper_2, s_Bay_sailClipper_3, s_Bay_sailClipper_6, s_Bay_sailClipper_7, s_Bay_sailClipper_8, s_Bay_sailClipper_9, s_Bay_sailClipper_10, s_Bay_sailClipper_11, s_Bay_sailClipper_14, s_Bay_sailClipper_15, s_Bay_sailClipper_16, s_Bay_sailClipper_17, s_Bay_sailClipper_20, s_Bay_sailClipper_21, s_Bay_sailClipper_22, s_Bay_sailClipper_24, yF hb, yC hb, yl_0 hb, yf_0 hb, yw_0 hb, yl_1 hb, yf_1 hb, yw_1 hb, yl_2 hb, yf_2 hb, yw_2 hb, yl_3 hb, yf_3 hb, yw_3 hb, yl_4 hb, yf_4 hb, yw_4 hb, yl_5 hb, yf_5 hb, yw_5 hb, yl_6 hb, yf_6 hb, yw_6 hb, yl_7 hb, yf_7 hb, yw_7 hb, yl_8 hb, yf_8 hb, yw_8 hb, ywB hb, tri_0, tri_1, tri_2, xll_0, xlg_0_0, xlg_0_1, xlg_0_2, xlg_0_3, xlg_0_4, xlg_0_5, xlg_0_6, xlg_0_7, xlg_0_8, xlg_0_9, xlg_0_10, xlg_0_11, xlg_0_12, xlg_0_13, xls_0_0, xls_0_1, xls_0_2, xls_0_3, xls_0_4, xls_0_5, xls_0_6, xls_0_7, xls_0_8, xls_0_9, xls_0_10, xls_0_11, xls_0_12, xls_0_13, bF hB hK hb, bC hB hK hb, rF hB hK hb, rC hB hK hb, bl_0 hB hK hb, bl_1 hB hK hb, bl_2 hB hK hb, bl_3 hB hK hb, bl_4 hB hK hb, bl_5 hB hK hb, bl_6 hB hK hb, bl_7 hB hK hb, bl_8 hB hK hb, bl_9 hB hK hb, bl_10 hB hK hb, bl_11 hB hK hb, bf_0 hB hK hb, bf_1 hB hK hb, bf_2 hB hK hb, bf_3 hB hK hb, bf_4 hB hK hb, bf_5 hB hK hb, bf_6 hB hK hb, bf_7 hB hK hb, bf_8 hB hK hb, bf_9 hB hK hb, bf_10 hB hK hb, bf_11 hB hK hb, xll_1, xlg_1_0, xlg_1_1, xlg_1_2, xlg_1_3, xlg_1_4, xlg_1_5, xlg_1_6, xlg_1_7, xlg_1_8, xlg_1_9, xlg_1_10, xlg_1_11, xlg_1_12, xlg_1_13, xlg_1_14, xlg_1_15, xlg_1_16, xll_5, xlg_5_0, xlg_5_1, xlg_5_2, not_false_eq_true, Nat.reduceLT, Nat.reduceAdd, true_and, and_true, if_true, if_false, ite_true, ite_false, xnb_0, xnb_1, xnb_b, xk_v, xk_n, nvp (show c < 6 by omega) (by omega), ncl (show c < 2147483648 by omega), g_Bay_way (sH_kY hb) c hc]
  by_cases q : wayR p.1 t c 6 c < 10
  · have e1 : saC b t s nk nc rs re c p = (takC (wayR p.1 t c) b nk c, p.2.1, p.2.2) := if_pos q
    have e2 : saV b t s nk nc rs re c p = 0 := if_pos q
    rw [e1, e2]
    refine (if_pos q).trans ?_
    change xr E (d + 4) m_Bay_sailClipper Q (62, [some (.ref B), some (.int (nI c)), some (.int 0)], [], sH H B K (wayR p.1 t c) t p.2.1 p.2.2.1 (nI p.2.2.2)) = _
    simp only [s_Bay_sailClipper_62, s_Bay_sailClipper_63, s_Bay_sailClipper_64, s_Bay_sailClipper_67, s_Bay_sailClipper_68, yF hb, yC hb, yl_0 hb, yf_0 hb, yw_0 hb, yl_1 hb, yf_1 hb, yw_1 hb, yl_2 hb, yf_2 hb, yw_2 hb, yl_3 hb, yf_3 hb, yw_3 hb, yl_4 hb, yf_4 hb, yw_4 hb, yl_5 hb, yf_5 hb, yw_5 hb, yl_6 hb, yf_6 hb, yw_6 hb, yl_7 hb, yf_7 hb, yw_7 hb, yl_8 hb, yf_8 hb, yw_8 hb, ywB hb, tri_0, tri_1, tri_2, xll_0, xlg_0_0, xlg_0_1, xlg_0_2, xlg_0_3, xlg_0_4, xlg_0_5, xlg_0_6, xlg_0_7, xlg_0_8, xlg_0_9, xlg_0_10, xlg_0_11, xlg_0_12, xlg_0_13, xls_0_0, xls_0_1, xls_0_2, xls_0_3, xls_0_4, xls_0_5, xls_0_6, xls_0_7, xls_0_8, xls_0_9, xls_0_10, xls_0_11, xls_0_12, xls_0_13, not_false_eq_true, Nat.reduceLT, Nat.reduceAdd, true_and, and_true, if_true, if_false, ite_true, ite_false, xnb_0, xnb_1, xnb_b, xk_v, xk_n, f_Bay_takeLeaf hB hK hb nk hn hk c hc]
  · have e1 : saC b t s nk nc rs re c p = (takC (mvR (wayS (wayR p.1 t c) c) b s nc c (popV (saT b t s nk rs re c p))) b nk c, tms (wayS (wayR p.1 t c) c) b t s nk c p.2.1, popR (saT b t s nk rs re c p)) := if_neg q
    have e2 : saV b t s nk nc rs re c p = mvV (wayS (wayR p.1 t c) c) b s nc c (popV (saT b t s nk rs re c p)) := if_neg q
    rw [e1, e2]
    refine (if_neg q).trans ?_
    change xr E (d + 4) m_Bay_sailClipper Q (27, [some (.ref B), some (.int (nI c)), some (.int 0)], [], sH H B K (wayR p.1 t c) t p.2.1 p.2.2.1 (nI p.2.2.2)) = _
    simp only [s_Bay_sailClipper_27, s_Bay_sailClipper_28, s_Bay_sailClipper_31, s_Bay_sailClipper_32, s_Bay_sailClipper_33, s_Bay_sailClipper_34, s_Bay_sailClipper_36, s_Bay_sailClipper_37, s_Bay_sailClipper_38, s_Bay_sailClipper_39, s_Bay_sailClipper_40, s_Bay_sailClipper_41, s_Bay_sailClipper_42, s_Bay_sailClipper_45, s_Bay_sailClipper_48, s_Bay_sailClipper_51, s_Bay_sailClipper_52, s_Bay_sailClipper_53, s_Bay_sailClipper_56, s_Bay_sailClipper_57, s_Bay_sailClipper_58, s_Bay_sailClipper_61, s_Bay_sailClipper_62, s_Bay_sailClipper_63, s_Bay_sailClipper_64, s_Bay_sailClipper_67, s_Bay_sailClipper_68, yF hb, yC hb, yl_0 hb, yf_0 hb, yw_0 hb, yl_1 hb, yf_1 hb, yw_1 hb, yl_2 hb, yf_2 hb, yw_2 hb, yl_3 hb, yf_3 hb, yw_3 hb, yl_4 hb, yf_4 hb, yw_4 hb, yl_5 hb, yf_5 hb, yw_5 hb, yl_6 hb, yf_6 hb, yw_6 hb, yl_7 hb, yf_7 hb, yw_7 hb, yl_8 hb, yf_8 hb, yw_8 hb, ywB hb, tri_0, tri_1, tri_2, xll_0, xlg_0_0, xlg_0_1, xlg_0_2, xlg_0_3, xlg_0_4, xlg_0_5, xlg_0_6, xlg_0_7, xlg_0_8, xlg_0_9, xlg_0_10, xlg_0_11, xlg_0_12, xlg_0_13, xls_0_0, xls_0_1, xls_0_2, xls_0_3, xls_0_4, xls_0_5, xls_0_6, xls_0_7, xls_0_8, xls_0_9, xls_0_10, xls_0_11, xls_0_12, xls_0_13, not_false_eq_true, Nat.reduceLT, Nat.reduceAdd, true_and, and_true, if_true, if_false, ite_true, ite_false, xnb_0, xnb_1, xnb_b, xk_v, xk_n, nvp (show c < 6 by omega) (by omega), ncl (show c < 2147483648 by omega), wsF, mvF, f_Bay_tell hB hK hb nk hn hk c hc cnt (rs c) (re c) hs hcn hr.2.1 hr.1 hr.2.2.1 hr.2.2.2, f_Bay_moves hB hK hb c hc, g_Bay_paySip hB hK hb nc hn' hk' c hc, g_Bay_winAtHome hB hK hb c hc, f_Bay_takeLeaf hB hK hb nk hn hk c hc]
    change (if movC s (wayS (wayR p.1 t c) c) c (popV (saT b t s nk rs re c p)) = 0 then _ else _) = _
    by_cases r : movC s (wayS (wayR p.1 t c) c) c (popV (saT b t s nk rs re c p)) = 0
    · have e3 : mvR (wayS (wayR p.1 t c) c) b s nc c (popV (saT b t s nk rs re c p)) = wayS (wayR p.1 t c) c := if_pos r
      have e4 : mvV (wayS (wayR p.1 t c) c) b s nc c (popV (saT b t s nk rs re c p)) = 0 := if_pos r
      rw [if_pos r, e3, e4]
      rfl
    · have e3 : mvR (wayS (wayR p.1 t c) c) b s nc c (popV (saT b t s nk rs re c p)) = winR (payR (movR (wayS (wayR p.1 t c) c) c (popV (saT b t s nk rs re c p))) b nc c) b c := if_neg r
      have e4 : mvV (wayS (wayR p.1 t c) c) b s nc c (popV (saT b t s nk rs re c p)) = winV (payR (movR (wayS (wayR p.1 t c) c) c (popV (saT b t s nk rs re c p))) b nc c) b c := if_neg r
      rw [if_neg r, e3, e4]
      rw [if_neg (show ¬ (1 : Int32) = 0 by decide)]
      rfl
/-- a book that stands: its counts, its rules' places -/
def kW (b : Nat → Nat → Int32) (s : Nat → Int32) (nk nc nn cnt : Nat) (rs re : Nat → Nat) : Prop :=
  s 2 = nI nk ∧ nk ≤ 6 ∧ s 3 = nI nc ∧ nc ≤ 6 ∧ s 4 = nI nn ∧ nn ≤ 6 ∧ s 5 = nI cnt ∧ cnt ≤ 400 ∧ ∀ c, c < nn → rs c ≤ re c ∧ re c ≤ cnt ∧ b 10 c = nI (rs c) ∧ b 11 c = nI (re c)
def fil (g : Nat → Int32) : Nat → Nat → (Nat → Int32) → Nat → Int32
  | _, 0, f => f
  | i, m + 1, f => fil g (i + 1) m (upd f i (g i))
def dcr (g : Nat → Int32) : Nat → Nat → (Nat → Int32) → Nat → Int32
  | _, 0, f => f
  | i, m + 1, f => dcr g (i + 1) m (if 0 < g i then upd f i (f i - 1) else f)
def saI (b : Nat → Nat → Int32) (t s : Nat → Int32) (nk nc : Nat) (rs re : Nat → Nat) : Nat → Nat → bst → bst
  | _, 0, p => p
  | i, m + 1, p => saI b t s nk nc rs re (i + 1) m (saC b t s nk nc rs re i p)
def saW (b : Nat → Nat → Int32) (t s : Nat → Int32) (nk nc : Nat) (rs re : Nat → Nat) : Nat → Nat → bst → Int32 → Int32
  | _, 0, _, w => w
  | i, m + 1, p, w => saW b t s nk nc rs re (i + 1) m (saC b t s nk nc rs re i p) (w + saV b t s nk nc rs re i p)
theorem upr_upr {r : Nat} {f g : Nat → Int32} : upr (upr a r f) r g = upr a r g := by
  funext i
  unfold upr
  split <;> rfl
theorem upr_id {r : Nat} : upr a r (a r) = a := by
  funext i
  unfold upr
  split
  · rename_i q
    rw [q]
  · rfl
theorem l1_passHour (hB : kB H K b nm s) (hK : K < 26) (hb : 42 < B) (nk : Nat) (hn : s 2 = nI nk) (hk : nk ≤ 6) (g : Nat → Int32) : ∀ m i (f : Nat → Int32), i + m = nk → a 0 = g →
    xr E d m_Bay_passHour Q (2, [some (.ref B), some (.int (nI i)), none], [], sH H B K (upr a 1 f) t ms sk h) =
    xr E d m_Bay_passHour Q (31, [some (.ref B), some (.int (nI nk)), none], [], sH H B K (upr a 1 (fil g i m f)) t ms sk h) := by
  intro m
  induction m with
  | zero =>
    intro i f hi hg
    have : i = nk := by omega
    subst this
    rw [s_Bay_passHour_2]
    simp only [s_Bay_passHour_3, s_Bay_passHour_4, s_Bay_passHour_7, s_Bay_passHour_10, s_Bay_passHour_13, s_Bay_passHour_14, s_Bay_passHour_17, s_Bay_passHour_18, s_Bay_passHour_19, s_Bay_passHour_22, s_Bay_passHour_23, s_Bay_passHour_24, s_Bay_passHour_25, s_Bay_passHour_28, yF hb, yC hb, yl_0 hb, yf_0 hb, yw_0 hb, yl_1 hb, yf_1 hb, yw_1 hb, yl_2 hb, yf_2 hb, yw_2 hb, yl_3 hb, yf_3 hb, yw_3 hb, yl_4 hb, yf_4 hb, yw_4 hb, yl_5 hb, yf_5 hb, yw_5 hb, yl_6 hb, yf_6 hb, yw_6 hb, yl_7 hb, yf_7 hb, yw_7 hb, yl_8 hb, yf_8 hb, yw_8 hb, ywB hb, tri_0, tri_1, tri_2, xll_0, xlg_0_0, xlg_0_1, xlg_0_2, xlg_0_3, xlg_0_4, xlg_0_5, xlg_0_6, xlg_0_7, xlg_0_8, xlg_0_9, xlg_0_10, xlg_0_11, xlg_0_12, xlg_0_13, xls_0_0, xls_0_1, xls_0_2, xls_0_3, xls_0_4, xls_0_5, xls_0_6, xls_0_7, xls_0_8, xls_0_9, xls_0_10, xls_0_11, xls_0_12, xls_0_13, u_0_0, u_0_1, u_0_2, u_0_3, u_0_4, u_0_5, u_0_6, u_0_7, u_0_8, u_1_0, u_1_1, u_1_2, u_1_3, u_1_4, u_1_5, u_1_6, u_1_7, u_1_8, u_2_0, u_2_1, u_2_2, u_2_3, u_2_4, u_2_5, u_2_6, u_2_7, u_2_8, u_3_0, u_3_1, u_3_2, u_3_3, u_3_4, u_3_5, u_3_6, u_3_7, u_3_8, u_4_0, u_4_1, u_4_2, u_4_3, u_4_4, u_4_5, u_4_6, u_4_7, u_4_8, u_5_0, u_5_1, u_5_2, u_5_3, u_5_4, u_5_5, u_5_6, u_5_7, u_5_8, u_6_0, u_6_1, u_6_2, u_6_3, u_6_4, u_6_5, u_6_6, u_6_7, u_6_8, u_7_0, u_7_1, u_7_2, u_7_3, u_7_4, u_7_5, u_7_6, u_7_7, u_7_8, u_8_0, u_8_1, u_8_2, u_8_3, u_8_4, u_8_5, u_8_6, u_8_7, u_8_8, bF hB hK hb, bC hB hK hb, rF hB hK hb, rC hB hK hb, bl_0 hB hK hb, bl_1 hB hK hb, bl_2 hB hK hb, bl_3 hB hK hb, bl_4 hB hK hb, bl_5 hB hK hb, bl_6 hB hK hb, bl_7 hB hK hb, bl_8 hB hK hb, bl_9 hB hK hb, bl_10 hB hK hb, bl_11 hB hK hb, bf_0 hB hK hb, bf_1 hB hK hb, bf_2 hB hK hb, bf_3 hB hK hb, bf_4 hB hK hb, bf_5 hB hK hb, bf_6 hB hK hb, bf_7 hB hK hb, bf_8 hB hK hb, bf_9 hB hK hb, bf_10 hB hK hb, bf_11 hB hK hb, xll_1, xlg_1_0, xlg_1_1, xlg_1_2, xlg_1_3, xlg_1_4, xlg_1_5, xlg_1_6, xlg_1_7, xlg_1_8, xlg_1_9, xlg_1_10, xlg_1_11, xlg_1_12, xlg_1_13, xlg_1_14, xlg_1_15, xlg_1_16, xll_5, xlg_5_0, xlg_5_1, xlg_5_2, not_false_eq_true, Nat.reduceLT, Nat.reduceAdd, true_and, and_true, if_true, if_false, ite_true, ite_false, xnb_0, xnb_1, xnb_b, xk_v, xk_n, hn, nge (Nat.le_refl i) (by omega), fil]
  | succ m ih =>
    intro i f hi hg
    rw [s_Bay_passHour_2]
    simp only [s_Bay_passHour_3, s_Bay_passHour_4, s_Bay_passHour_7, s_Bay_passHour_10, s_Bay_passHour_13, s_Bay_passHour_14, s_Bay_passHour_17, s_Bay_passHour_18, s_Bay_passHour_19, s_Bay_passHour_22, s_Bay_passHour_23, s_Bay_passHour_24, s_Bay_passHour_25, s_Bay_passHour_28, yF hb, yC hb, yl_0 hb, yf_0 hb, yw_0 hb, yl_1 hb, yf_1 hb, yw_1 hb, yl_2 hb, yf_2 hb, yw_2 hb, yl_3 hb, yf_3 hb, yw_3 hb, yl_4 hb, yf_4 hb, yw_4 hb, yl_5 hb, yf_5 hb, yw_5 hb, yl_6 hb, yf_6 hb, yw_6 hb, yl_7 hb, yf_7 hb, yw_7 hb, yl_8 hb, yf_8 hb, yw_8 hb, ywB hb, tri_0, tri_1, tri_2, xll_0, xlg_0_0, xlg_0_1, xlg_0_2, xlg_0_3, xlg_0_4, xlg_0_5, xlg_0_6, xlg_0_7, xlg_0_8, xlg_0_9, xlg_0_10, xlg_0_11, xlg_0_12, xlg_0_13, xls_0_0, xls_0_1, xls_0_2, xls_0_3, xls_0_4, xls_0_5, xls_0_6, xls_0_7, xls_0_8, xls_0_9, xls_0_10, xls_0_11, xls_0_12, xls_0_13, u_0_0, u_0_1, u_0_2, u_0_3, u_0_4, u_0_5, u_0_6, u_0_7, u_0_8, u_1_0, u_1_1, u_1_2, u_1_3, u_1_4, u_1_5, u_1_6, u_1_7, u_1_8, u_2_0, u_2_1, u_2_2, u_2_3, u_2_4, u_2_5, u_2_6, u_2_7, u_2_8, u_3_0, u_3_1, u_3_2, u_3_3, u_3_4, u_3_5, u_3_6, u_3_7, u_3_8, u_4_0, u_4_1, u_4_2, u_4_3, u_4_4, u_4_5, u_4_6, u_4_7, u_4_8, u_5_0, u_5_1, u_5_2, u_5_3, u_5_4, u_5_5, u_5_6, u_5_7, u_5_8, u_6_0, u_6_1, u_6_2, u_6_3, u_6_4, u_6_5, u_6_6, u_6_7, u_6_8, u_7_0, u_7_1, u_7_2, u_7_3, u_7_4, u_7_5, u_7_6, u_7_7, u_7_8, u_8_0, u_8_1, u_8_2, u_8_3, u_8_4, u_8_5, u_8_6, u_8_7, u_8_8, bF hB hK hb, bC hB hK hb, rF hB hK hb, rC hB hK hb, bl_0 hB hK hb, bl_1 hB hK hb, bl_2 hB hK hb, bl_3 hB hK hb, bl_4 hB hK hb, bl_5 hB hK hb, bl_6 hB hK hb, bl_7 hB hK hb, bl_8 hB hK hb, bl_9 hB hK hb, bl_10 hB hK hb, bl_11 hB hK hb, bf_0 hB hK hb, bf_1 hB hK hb, bf_2 hB hK hb, bf_3 hB hK hb, bf_4 hB hK hb, bf_5 hB hK hb, bf_6 hB hK hb, bf_7 hB hK hb, bf_8 hB hK hb, bf_9 hB hK hb, bf_10 hB hK hb, bf_11 hB hK hb, xll_1, xlg_1_0, xlg_1_1, xlg_1_2, xlg_1_3, xlg_1_4, xlg_1_5, xlg_1_6, xlg_1_7, xlg_1_8, xlg_1_9, xlg_1_10, xlg_1_11, xlg_1_12, xlg_1_13, xlg_1_14, xlg_1_15, xlg_1_16, xll_5, xlg_5_0, xlg_5_1, xlg_5_2, not_false_eq_true, Nat.reduceLT, Nat.reduceAdd, true_and, and_true, if_true, if_false, ite_true, ite_false, xnb_0, xnb_1, xnb_b, xk_v, xk_n, hn, nlt (show i < nk by omega) (by omega), nvp (show i < 6 by omega) (by omega), ncl (show i < 2147483648 by omega), nI_1, fil, hg, upr_upr, ih (i + 1) _ (by omega) hg]
theorem l2_passHour (hB : kB H K b nm s) (hK : K < 26) (hb : 42 < B) (nk nc nn cnt : Nat) (rs re : Nat → Nat) (hW : kW b s nk nc nn cnt rs re) : ∀ m i (p : bst) (w : Int32), i + m = nn →
    xr E (d + 5) m_Bay_passHour Q (35, [some (.ref B), some (.int w), some (.int (nI i))], [], sH H B K p.1 t p.2.1 p.2.2.1 (nI p.2.2.2)) =
    xr E (d + 5) m_Bay_passHour Q (60, [some (.ref B), some (.int (saW b t s nk nc rs re i m p w)), some (.int (nI nn))], [], sH H B K (saI b t s nk nc rs re i m p).1 t (saI b t s nk nc rs re i m p).2.1 (saI b t s nk nc rs re i m p).2.2.1 (nI (saI b t s nk nc rs re i m p).2.2.2)) := by
  obtain ⟨w1, w2, w3, w4, w5, w6, w7, w8, w9⟩ := id hW
  intro m
  induction m with
  | zero =>
    intro i p w hi
    have : i = nn := by omega
    subst this
    rw [s_Bay_passHour_35]
    simp only [s_Bay_passHour_36, s_Bay_passHour_37, s_Bay_passHour_40, s_Bay_passHour_43, s_Bay_passHour_46, s_Bay_passHour_47, s_Bay_passHour_48, s_Bay_passHour_49, s_Bay_passHour_52, s_Bay_passHour_53, s_Bay_passHour_54, s_Bay_passHour_57, yF hb, yC hb, yl_0 hb, yf_0 hb, yw_0 hb, yl_1 hb, yf_1 hb, yw_1 hb, yl_2 hb, yf_2 hb, yw_2 hb, yl_3 hb, yf_3 hb, yw_3 hb, yl_4 hb, yf_4 hb, yw_4 hb, yl_5 hb, yf_5 hb, yw_5 hb, yl_6 hb, yf_6 hb, yw_6 hb, yl_7 hb, yf_7 hb, yw_7 hb, yl_8 hb, yf_8 hb, yw_8 hb, ywB hb, tri_0, tri_1, tri_2, xll_0, xlg_0_0, xlg_0_1, xlg_0_2, xlg_0_3, xlg_0_4, xlg_0_5, xlg_0_6, xlg_0_7, xlg_0_8, xlg_0_9, xlg_0_10, xlg_0_11, xlg_0_12, xlg_0_13, xls_0_0, xls_0_1, xls_0_2, xls_0_3, xls_0_4, xls_0_5, xls_0_6, xls_0_7, xls_0_8, xls_0_9, xls_0_10, xls_0_11, xls_0_12, xls_0_13, bF hB hK hb, bC hB hK hb, rF hB hK hb, rC hB hK hb, bl_0 hB hK hb, bl_1 hB hK hb, bl_2 hB hK hb, bl_3 hB hK hb, bl_4 hB hK hb, bl_5 hB hK hb, bl_6 hB hK hb, bl_7 hB hK hb, bl_8 hB hK hb, bl_9 hB hK hb, bl_10 hB hK hb, bl_11 hB hK hb, bf_0 hB hK hb, bf_1 hB hK hb, bf_2 hB hK hb, bf_3 hB hK hb, bf_4 hB hK hb, bf_5 hB hK hb, bf_6 hB hK hb, bf_7 hB hK hb, bf_8 hB hK hb, bf_9 hB hK hb, bf_10 hB hK hb, bf_11 hB hK hb, xll_1, xlg_1_0, xlg_1_1, xlg_1_2, xlg_1_3, xlg_1_4, xlg_1_5, xlg_1_6, xlg_1_7, xlg_1_8, xlg_1_9, xlg_1_10, xlg_1_11, xlg_1_12, xlg_1_13, xlg_1_14, xlg_1_15, xlg_1_16, xll_5, xlg_5_0, xlg_5_1, xlg_5_2, not_false_eq_true, Nat.reduceLT, Nat.reduceAdd, true_and, and_true, if_true, if_false, ite_true, ite_false, xnb_0, xnb_1, xnb_b, xk_v, xk_n, w5, nge (Nat.le_refl i) (by omega), saI, saW]
  | succ m ih =>
    intro i p w hi
    rw [s_Bay_passHour_35]
    simp only [s_Bay_passHour_36, s_Bay_passHour_37, s_Bay_passHour_40, s_Bay_passHour_43, s_Bay_passHour_46, s_Bay_passHour_47, s_Bay_passHour_48, s_Bay_passHour_49, s_Bay_passHour_52, s_Bay_passHour_53, s_Bay_passHour_54, s_Bay_passHour_57, yF hb, yC hb, yl_0 hb, yf_0 hb, yw_0 hb, yl_1 hb, yf_1 hb, yw_1 hb, yl_2 hb, yf_2 hb, yw_2 hb, yl_3 hb, yf_3 hb, yw_3 hb, yl_4 hb, yf_4 hb, yw_4 hb, yl_5 hb, yf_5 hb, yw_5 hb, yl_6 hb, yf_6 hb, yw_6 hb, yl_7 hb, yf_7 hb, yw_7 hb, yl_8 hb, yf_8 hb, yw_8 hb, ywB hb, tri_0, tri_1, tri_2, xll_0, xlg_0_0, xlg_0_1, xlg_0_2, xlg_0_3, xlg_0_4, xlg_0_5, xlg_0_6, xlg_0_7, xlg_0_8, xlg_0_9, xlg_0_10, xlg_0_11, xlg_0_12, xlg_0_13, xls_0_0, xls_0_1, xls_0_2, xls_0_3, xls_0_4, xls_0_5, xls_0_6, xls_0_7, xls_0_8, xls_0_9, xls_0_10, xls_0_11, xls_0_12, xls_0_13, bF hB hK hb, bC hB hK hb, rF hB hK hb, rC hB hK hb, bl_0 hB hK hb, bl_1 hB hK hb, bl_2 hB hK hb, bl_3 hB hK hb, bl_4 hB hK hb, bl_5 hB hK hb, bl_6 hB hK hb, bl_7 hB hK hb, bl_8 hB hK hb, bl_9 hB hK hb, bl_10 hB hK hb, bl_11 hB hK hb, bf_0 hB hK hb, bf_1 hB hK hb, bf_2 hB hK hb, bf_3 hB hK hb, bf_4 hB hK hb, bf_5 hB hK hb, bf_6 hB hK hb, bf_7 hB hK hb, bf_8 hB hK hb, bf_9 hB hK hb, bf_10 hB hK hb, bf_11 hB hK hb, xll_1, xlg_1_0, xlg_1_1, xlg_1_2, xlg_1_3, xlg_1_4, xlg_1_5, xlg_1_6, xlg_1_7, xlg_1_8, xlg_1_9, xlg_1_10, xlg_1_11, xlg_1_12, xlg_1_13, xlg_1_14, xlg_1_15, xlg_1_16, xll_5, xlg_5_0, xlg_5_1, xlg_5_2, not_false_eq_true, Nat.reduceLT, Nat.reduceAdd, true_and, and_true, if_true, if_false, ite_true, ite_false, xnb_0, xnb_1, xnb_b, xk_v, xk_n, w5, nlt (show i < nn by omega) (by omega), nI_1, f_Bay_sailClipper hB hK hb nk w1 w2 nc w3 w4 cnt w7 w8 rs re i (by omega) (w9 i (by omega)), saI, saW, ih (i + 1) _ _ (by omega)]
theorem l3_passHour (hB : kB H K b nm s) (hK : K < 26) (hb : 42 < B) (nk : Nat) (hn : s 2 = nI nk) (hk : nk ≤ 6) (w : Int32) (g : Nat → Int32) : ∀ m i (f : Nat → Int32), i + m = nk → a 1 = g →
    xr E d m_Bay_passHour Q (62, [some (.ref B), some (.int w), some (.int (nI i))], [], sH H B K (upr a 0 f) t ms sk h) =
    Q (.inl (some (.int w)), sH H B K (upr a 0 (dcr g i m f)) (tri (t 0) (t 1) (t 2 + 1)) ms sk h) := by
  intro m
  induction m with
  | zero =>
    intro i f hi hg
    rw [s_Bay_passHour_62]
    simp only [s_Bay_passHour_63, s_Bay_passHour_64, s_Bay_passHour_67, s_Bay_passHour_70, s_Bay_passHour_73, s_Bay_passHour_74, s_Bay_passHour_77, s_Bay_passHour_78, s_Bay_passHour_79, s_Bay_passHour_82, s_Bay_passHour_83, s_Bay_passHour_86, s_Bay_passHour_87, s_Bay_passHour_88, s_Bay_passHour_89, s_Bay_passHour_90, s_Bay_passHour_91, s_Bay_passHour_92, s_Bay_passHour_95, s_Bay_passHour_98, s_Bay_passHour_99, s_Bay_passHour_100, s_Bay_passHour_103, s_Bay_passHour_104, s_Bay_passHour_105, s_Bay_passHour_108, s_Bay_passHour_109, yF hb, yC hb, yl_0 hb, yf_0 hb, yw_0 hb, yl_1 hb, yf_1 hb, yw_1 hb, yl_2 hb, yf_2 hb, yw_2 hb, yl_3 hb, yf_3 hb, yw_3 hb, yl_4 hb, yf_4 hb, yw_4 hb, yl_5 hb, yf_5 hb, yw_5 hb, yl_6 hb, yf_6 hb, yw_6 hb, yl_7 hb, yf_7 hb, yw_7 hb, yl_8 hb, yf_8 hb, yw_8 hb, ywB hb, tri_0, tri_1, tri_2, xll_0, xlg_0_0, xlg_0_1, xlg_0_2, xlg_0_3, xlg_0_4, xlg_0_5, xlg_0_6, xlg_0_7, xlg_0_8, xlg_0_9, xlg_0_10, xlg_0_11, xlg_0_12, xlg_0_13, xls_0_0, xls_0_1, xls_0_2, xls_0_3, xls_0_4, xls_0_5, xls_0_6, xls_0_7, xls_0_8, xls_0_9, xls_0_10, xls_0_11, xls_0_12, xls_0_13, u_0_0, u_0_1, u_0_2, u_0_3, u_0_4, u_0_5, u_0_6, u_0_7, u_0_8, u_1_0, u_1_1, u_1_2, u_1_3, u_1_4, u_1_5, u_1_6, u_1_7, u_1_8, u_2_0, u_2_1, u_2_2, u_2_3, u_2_4, u_2_5, u_2_6, u_2_7, u_2_8, u_3_0, u_3_1, u_3_2, u_3_3, u_3_4, u_3_5, u_3_6, u_3_7, u_3_8, u_4_0, u_4_1, u_4_2, u_4_3, u_4_4, u_4_5, u_4_6, u_4_7, u_4_8, u_5_0, u_5_1, u_5_2, u_5_3, u_5_4, u_5_5, u_5_6, u_5_7, u_5_8, u_6_0, u_6_1, u_6_2, u_6_3, u_6_4, u_6_5, u_6_6, u_6_7, u_6_8, u_7_0, u_7_1, u_7_2, u_7_3, u_7_4, u_7_5, u_7_6, u_7_7, u_7_8, u_8_0, u_8_1, u_8_2, u_8_3, u_8_4, u_8_5, u_8_6, u_8_7, u_8_8, bF hB hK hb, bC hB hK hb, rF hB hK hb, rC hB hK hb, bl_0 hB hK hb, bl_1 hB hK hb, bl_2 hB hK hb, bl_3 hB hK hb, bl_4 hB hK hb, bl_5 hB hK hb, bl_6 hB hK hb, bl_7 hB hK hb, bl_8 hB hK hb, bl_9 hB hK hb, bl_10 hB hK hb, bl_11 hB hK hb, bf_0 hB hK hb, bf_1 hB hK hb, bf_2 hB hK hb, bf_3 hB hK hb, bf_4 hB hK hb, bf_5 hB hK hb, bf_6 hB hK hb, bf_7 hB hK hb, bf_8 hB hK hb, bf_9 hB hK hb, bf_10 hB hK hb, bf_11 hB hK hb, xll_1, xlg_1_0, xlg_1_1, xlg_1_2, xlg_1_3, xlg_1_4, xlg_1_5, xlg_1_6, xlg_1_7, xlg_1_8, xlg_1_9, xlg_1_10, xlg_1_11, xlg_1_12, xlg_1_13, xlg_1_14, xlg_1_15, xlg_1_16, xll_5, xlg_5_0, xlg_5_1, xlg_5_2, not_false_eq_true, Nat.reduceLT, Nat.reduceAdd, true_and, and_true, if_true, if_false, ite_true, ite_false, xnb_0, xnb_1, xnb_b, xk_v, xk_n, hn, nge (show nk ≤ i by omega) (by omega), dcr]
  | succ m ih =>
    intro i f hi hg
    rw [s_Bay_passHour_62]
    simp only [s_Bay_passHour_63, s_Bay_passHour_64, s_Bay_passHour_67, s_Bay_passHour_70, s_Bay_passHour_73, s_Bay_passHour_74, s_Bay_passHour_77, s_Bay_passHour_78, s_Bay_passHour_79, s_Bay_passHour_82, s_Bay_passHour_83, s_Bay_passHour_86, s_Bay_passHour_87, s_Bay_passHour_88, s_Bay_passHour_89, s_Bay_passHour_90, s_Bay_passHour_91, s_Bay_passHour_92, s_Bay_passHour_95, s_Bay_passHour_98, s_Bay_passHour_99, s_Bay_passHour_100, s_Bay_passHour_103, s_Bay_passHour_104, s_Bay_passHour_105, s_Bay_passHour_108, s_Bay_passHour_109, yF hb, yC hb, yl_0 hb, yf_0 hb, yw_0 hb, yl_1 hb, yf_1 hb, yw_1 hb, yl_2 hb, yf_2 hb, yw_2 hb, yl_3 hb, yf_3 hb, yw_3 hb, yl_4 hb, yf_4 hb, yw_4 hb, yl_5 hb, yf_5 hb, yw_5 hb, yl_6 hb, yf_6 hb, yw_6 hb, yl_7 hb, yf_7 hb, yw_7 hb, yl_8 hb, yf_8 hb, yw_8 hb, ywB hb, tri_0, tri_1, tri_2, xll_0, xlg_0_0, xlg_0_1, xlg_0_2, xlg_0_3, xlg_0_4, xlg_0_5, xlg_0_6, xlg_0_7, xlg_0_8, xlg_0_9, xlg_0_10, xlg_0_11, xlg_0_12, xlg_0_13, xls_0_0, xls_0_1, xls_0_2, xls_0_3, xls_0_4, xls_0_5, xls_0_6, xls_0_7, xls_0_8, xls_0_9, xls_0_10, xls_0_11, xls_0_12, xls_0_13, u_0_0, u_0_1, u_0_2, u_0_3, u_0_4, u_0_5, u_0_6, u_0_7, u_0_8, u_1_0, u_1_1, u_1_2, u_1_3, u_1_4, u_1_5, u_1_6, u_1_7, u_1_8, u_2_0, u_2_1, u_2_2, u_2_3, u_2_4, u_2_5, u_2_6, u_2_7, u_2_8, u_3_0, u_3_1, u_3_2, u_3_3, u_3_4, u_3_5, u_3_6, u_3_7, u_3_8, u_4_0, u_4_1, u_4_2, u_4_3, u_4_4, u_4_5, u_4_6, u_4_7, u_4_8, u_5_0, u_5_1, u_5_2, u_5_3, u_5_4, u_5_5, u_5_6, u_5_7, u_5_8, u_6_0, u_6_1, u_6_2, u_6_3, u_6_4, u_6_5, u_6_6, u_6_7, u_6_8, u_7_0, u_7_1, u_7_2, u_7_3, u_7_4, u_7_5, u_7_6, u_7_7, u_7_8, u_8_0, u_8_1, u_8_2, u_8_3, u_8_4, u_8_5, u_8_6, u_8_7, u_8_8, bF hB hK hb, bC hB hK hb, rF hB hK hb, rC hB hK hb, bl_0 hB hK hb, bl_1 hB hK hb, bl_2 hB hK hb, bl_3 hB hK hb, bl_4 hB hK hb, bl_5 hB hK hb, bl_6 hB hK hb, bl_7 hB hK hb, bl_8 hB hK hb, bl_9 hB hK hb, bl_10 hB hK hb, bl_11 hB hK hb, bf_0 hB hK hb, bf_1 hB hK hb, bf_2 hB hK hb, bf_3 hB hK hb, bf_4 hB hK hb, bf_5 hB hK hb, bf_6 hB hK hb, bf_7 hB hK hb, bf_8 hB hK hb, bf_9 hB hK hb, bf_10 hB hK hb, bf_11 hB hK hb, xll_1, xlg_1_0, xlg_1_1, xlg_1_2, xlg_1_3, xlg_1_4, xlg_1_5, xlg_1_6, xlg_1_7, xlg_1_8, xlg_1_9, xlg_1_10, xlg_1_11, xlg_1_12, xlg_1_13, xlg_1_14, xlg_1_15, xlg_1_16, xll_5, xlg_5_0, xlg_5_1, xlg_5_2, not_false_eq_true, Nat.reduceLT, Nat.reduceAdd, true_and, and_true, if_true, if_false, ite_true, ite_false, xnb_0, xnb_1, xnb_b, xk_v, xk_n, hn, nlt (show i < nk by omega) (by omega), nvp (show i < 6 by omega) (by omega), ncl (show i < 2147483648 by omega), nI_1, dcr, hg, upr_upr, ih (i + 1) _ (by omega) hg]
    by_cases q : 0 < g i
    · simp only [if_pos q]
    · simp only [if_neg q]
def phC (b : Nat → Nat → Int32) (t s : Nat → Int32) (nk nc nn : Nat) (rs re : Nat → Nat) (p : bst) : bst := saI b t s nk nc rs re 0 nn (upr p.1 1 (fil (p.1 0) 0 nk (p.1 1)), p.2)
def phR (nk : Nat) (p : bst) : bst := (upr p.1 0 (dcr (p.1 1) 0 nk (p.1 0)), p.2)
def phV (b : Nat → Nat → Int32) (t s : Nat → Int32) (nk nc nn : Nat) (rs re : Nat → Nat) (p : bst) : Int32 := saW b t s nk nc rs re 0 nn (upr p.1 1 (fil (p.1 0) 0 nk (p.1 1)), p.2) 0
def phT (t : Nat → Int32) : Nat → Int32 := tri (t 0) (t 1) (t 2 + 1)
theorem f_Bay_passHour (hB : kB H K b nm s) (hK : K < 26) (hb : 42 < B) (nk nc nn cnt : Nat) (rs re : Nat → Nat) (hW : kW b s nk nc nn cnt rs re) (p : bst) :
    xcall E xprog (d + 6) 10 [.ref B] (sH H B K p.1 t p.2.1 p.2.2.1 (nI p.2.2.2)) Q =
      Q (.inl (some (.int (phV b t s nk nc nn rs re p))), sH H B K (phR nk (phC b t s nk nc nn rs re p)).1 (phT t) (phR nk (phC b t s nk nc nn rs re p)).2.1 (phR nk (phC b t s nk nc nn rs re p)).2.2.1 (nI (phR nk (phC b t s nk nc nn rs re p)).2.2.2)) := by
  obtain ⟨w1, w2, w3, w4, w5, w6, w7, w8, w9⟩ := id hW
  rw [e_Bay_passHour, s_Bay_passHour_0, s_Bay_passHour_1]
  have e0 : sH H B K p.1 t p.2.1 p.2.2.1 (nI p.2.2.2) = sH H B K (upr p.1 1 (p.1 1)) t p.2.1 p.2.2.1 (nI p.2.2.2) := by rw [upr_id]
  rw [e0, show (0 : Int32) = nI 0 from rfl, l1_passHour hB hK hb nk w1 w2 (p.1 0) nk 0 _ (by omega) rfl, s_Bay_passHour_31, s_Bay_passHour_32, s_Bay_passHour_33, s_Bay_passHour_34]
  rw [show (0 : Int32) = nI 0 from rfl, l2_passHour hB hK hb nk nc nn cnt rs re hW nn 0 (upr p.1 1 (fil (p.1 0) 0 nk (p.1 1)), p.2) (nI 0) (by omega), s_Bay_passHour_60, s_Bay_passHour_61]
  change xr E (d + 5) m_Bay_passHour Q (62, [some (.ref B), some (.int (phV b t s nk nc nn rs re p)), some (.int (nI 0))], [], sH H B K (phC b t s nk nc nn rs re p).1 t (phC b t s nk nc nn rs re p).2.1 (phC b t s nk nc nn rs re p).2.2.1 (nI (phC b t s nk nc nn rs re p).2.2.2)) = _
  generalize phC b t s nk nc nn rs re p = z
  have e1 : sH H B K z.1 t z.2.1 z.2.2.1 (nI z.2.2.2) = sH H B K (upr z.1 0 (z.1 0)) t z.2.1 z.2.2.1 (nI z.2.2.2) := by rw [upr_id]
  rw [e1, l3_passHour hB hK hb nk w1 w2 _ (z.1 1) nk 0 _ (by omega) rfl]
  rfl
/-- rows, teller, and wind, force, hour, m hours later -/
abbrev bhr := bst × (Nat → Int32)
def hrC (b : Nat → Nat → Int32) (s : Nat → Int32) (nk nc nn : Nat) (rs re : Nat → Nat) (x : bhr) : bhr := (phR nk (phC b x.2 s nk nc nn rs re x.1), phT x.2)
def hrI (b : Nat → Nat → Int32) (s : Nat → Int32) (nk nc nn : Nat) (rs re : Nat → Nat) : Nat → bhr → bhr
  | 0, x => x
  | m + 1, x => hrI b s nk nc nn rs re m (hrC b s nk nc nn rs re x)
def hrV (b : Nat → Nat → Int32) (s : Nat → Int32) (nk nc nn : Nat) (rs re : Nat → Nat) : Nat → bhr → Int32 → Int32
  | 0, _, w => w
  | m + 1, x, w => hrV b s nk nc nn rs re m (hrC b s nk nc nn rs re x) (w + phV b x.2 s nk nc nn rs re x.1)
/-- a heap with such a bay -/
def sX (H : xH) (B K : Nat) (x : bhr) : xH := sH H B K x.1.1 x.2 x.1.2.1 x.1.2.2.1 (nI x.1.2.2.2)
theorem g_Bay_passHour (hB : kB H K b nm s) (hK : K < 26) (hb : 42 < B) (nk nc nn cnt : Nat) (rs re : Nat → Nat) (hW : kW b s nk nc nn cnt rs re) (x : bhr) :
    xcall E xprog (d + 6) 10 [.ref B] (sX H B K x) Q = Q (.inl (some (.int (phV b x.2 s nk nc nn rs re x.1))), sX H B K (hrC b s nk nc nn rs re x)) :=
  f_Bay_passHour hB hK hb nk nc nn cnt rs re hW x.1
theorem yCX (hb : 42 < B) {x : bhr} : xcl (sX H B K x) B = 0 := yC hb
theorem l_Bay_passHours (hB : kB H K b nm s) (hK : K < 26) (hb : 42 < B) (nk nc nn cnt : Nat) (rs re : Nat → Nat) (hW : kW b s nk nc nn cnt rs re) (n : Nat) (hn : n < 2147483648) : ∀ m i (x : bhr) (w : Int32), i + m = n →
    xr E (d + 6) m_Bay_passHours Q (4, [some (.ref B), some (.int (nI n)), some (.int w), some (.int (nI i))], [], sX H B K x) =
      Q (.inl (some (.int (hrV b s nk nc nn rs re m x w))), sX H B K (hrI b s nk nc nn rs re m x)) := by
  intro m
  induction m with
  | zero =>
    intro i x w hi
    rw [s_Bay_passHours_4]
    simp only [s_Bay_passHours_5, s_Bay_passHours_6, s_Bay_passHours_9, s_Bay_passHours_10, s_Bay_passHours_11, s_Bay_passHours_14, s_Bay_passHours_15, s_Bay_passHours_16, s_Bay_passHours_19, s_Bay_passHours_22, s_Bay_passHours_23, not_false_eq_true, Nat.reduceLT, Nat.reduceAdd, true_and, and_true, if_true, if_false, ite_true, ite_false, xnb_0, xnb_1, xnb_b, xk_v, xk_n, nge (show n ≤ i by omega) (by omega), hrI, hrV]
  | succ m ih =>
    intro i x w hi
    rw [s_Bay_passHours_4]
    simp only [s_Bay_passHours_5, s_Bay_passHours_6, s_Bay_passHours_9, s_Bay_passHours_10, s_Bay_passHours_11, s_Bay_passHours_14, s_Bay_passHours_15, s_Bay_passHours_16, s_Bay_passHours_19, s_Bay_passHours_22, s_Bay_passHours_23, not_false_eq_true, Nat.reduceLT, Nat.reduceAdd, true_and, and_true, if_true, if_false, ite_true, ite_false, xnb_0, xnb_1, xnb_b, xk_v, xk_n, yCX hb, nlt (show i < n by omega) hn, nI_1, g_Bay_passHour hB hK hb nk nc nn cnt rs re hW, ih (i + 1) _ _ (by omega), hrI, hrV]
theorem f_Bay_passHours (hB : kB H K b nm s) (hK : K < 26) (hb : 42 < B) (nk nc nn cnt : Nat) (rs re : Nat → Nat) (hW : kW b s nk nc nn cnt rs re) (n : Nat) (hn : n < 2147483648) (x : bhr) :
    xcall E xprog (d + 7) 9 [.ref B, .int (nI n)] (sX H B K x) Q = Q (.inl (some (.int (hrV b s nk nc nn rs re n x 0))), sX H B K (hrI b s nk nc nn rs re n x)) := by
  rw [e_Bay_passHours, s_Bay_passHours_0, s_Bay_passHours_1, s_Bay_passHours_2, s_Bay_passHours_3]
  exact l_Bay_passHours hB hK hb nk nc nn cnt rs re hW n hn n 0 x 0 (by omega)
end SAIL
