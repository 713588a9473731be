/-! ===== a text is put on the tape ===== -/
section SAY
variable {E : xE} {d D : Nat} {Q : xR → Prop} {H X Y Z : xH} {p q v n m i j k r l c Kb Ks : Nat} {ch : Nat → Nat} {L : List Nat} {f tp tp' : Nat → Int32} {T : Nat → Nat} {x : Int32} {ep : Int32} {j4 j5 : Option Value}
/-- the first m letters of a word -/
def pck (ch : Nat → Nat) (r : Nat) : Nat → Nat
  | 0 => 0
  | m + 1 => pck ch r m * 256 + ch (4 * r + m)
theorem pck_lt (h : ∀ j, ch j < 128) : ∀ m, m ≤ 4 → pck ch r m ≤ 2155905152 ∧ (m ≤ 3 → pck ch r m < 8421504) := by
  intro m hm
  have h0 := h (4 * r + 0)
  have h1 := h (4 * r + 1)
  have h2 := h (4 * r + 2)
  have h3 := h (4 * r + 3)
  rcases (show m = 0 ∨ m = 1 ∨ m = 2 ∨ m = 3 ∨ m = 4 by omega) with e | e | e | e | e <;> subst e <;> simp only [pck] <;> omega
/-- a row behind k letters -/
def rwF (ch : Nat → Nat) (k : Nat) : Nat → Int32 := fun r => nI (pck ch r (min 4 (k - 4 * r)))
theorem rwF_0 : rwF ch 0 = fun _ => 0 := by
  funext r
  unfold rwF
  rw [show min 4 (0 - 4 * r) = 0 by omega]; rfl
theorem i_or {y c : Nat} (hy : y < 8421504) (hc : c < 256) : (nI y <<< ((8 : Int32) &&& 31)) ||| nI c = nI (y * 256 + c) := by
  apply Int32.toBitVec_inj.mp
  rw [Int32.toBitVec_or, Int32.toBitVec_shiftLeft]
  apply BitVec.eq_of_toNat_eq
  have e8 : (((8 : Int32) &&& 31).toBitVec.smod 32).toNat = 8 := by decide
  have ey : (nI y).toBitVec.toNat = y := Nat.mod_eq_of_lt (show y < 2 ^ 32 by omega)
  have ec : (nI c).toBitVec.toNat = c := Nat.mod_eq_of_lt (show c < 2 ^ 32 by omega)
  have ez : (nI (y * 256 + c)).toBitVec.toNat = y * 256 + c := Nat.mod_eq_of_lt (show y * 256 + c < 2 ^ 32 by omega)
  rw [BitVec.toNat_or, ez, ec, BitVec.shiftLeft_eq', BitVec.toNat_shiftLeft, e8, ey]
  rw [Nat.mod_eq_of_lt (show y <<< 8 < 2 ^ 32 by rw [Nat.shiftLeft_eq]; omega)]
  rw [← Nat.shiftLeft_add_eq_or_of_lt (show c < 2 ^ 8 by omega), Nat.shiftLeft_eq]
theorem rwF_s (h : ∀ j, ch j < 128) (hk : k < 20) : upd (rwF ch k) (k / 4) ((rwF ch k (k / 4) <<< ((8 : Int32) &&& 31)) ||| nI (ch k)) = rwF ch (k + 1) := by
  have e : rwF ch k (k / 4) = nI (pck ch (k / 4) (k % 4)) := by unfold rwF; rw [show min 4 (k - 4 * (k / 4)) = k % 4 by omega]
  have b := (pck_lt (r := k / 4) h (k % 4) (by omega)).2 (by omega)
  have hc := h k
  rw [e, i_or b (by omega)]
  funext r
  unfold upd
  by_cases g : r = k / 4
  · subst g
    rw [if_pos rfl]
    show _ = nI (pck ch (k / 4) (min 4 (k + 1 - 4 * (k / 4))))
    rw [show min 4 (k + 1 - 4 * (k / 4)) = k % 4 + 1 by omega]
    show _ = nI (pck ch (k / 4) (k % 4) * 256 + ch (4 * (k / 4) + k % 4))
    rw [show 4 * (k / 4) + k % 4 = k by omega]
  · rw [if_neg g]
    show nI (pck ch r (min 4 (k - 4 * r))) = nI (pck ch r (min 4 (k + 1 - 4 * r)))
    rw [show min 4 (k - 4 * r) = min 4 (k + 1 - 4 * r) by omega]
theorem bv_p (h : ∀ j, ch j < 128) (hj : j < 4) : bv (nI (pck ch r 4)) j = ch (4 * r + j) := by
  have h0 := h (4 * r + 0)
  have h1 := h (4 * r + 1)
  have h2 := h (4 * r + 2)
  have h3 := h (4 * r + 3)
  have e : (nI (pck ch r 4)).toBitVec.toNat = pck ch r 4 := Nat.mod_eq_of_lt (show pck ch r 4 < 2 ^ 32 by have := (pck_lt (r := r) h 4 (by omega)).1; omega)
  unfold bv
  rw [e, Nat.shiftRight_eq_div_pow]
  simp only [pck]
  rcases (show j = 0 ∨ j = 1 ∨ j = 2 ∨ j = 3 by omega) with g | g | g | g <;> subst g
  · rw [show 2 ^ (24 - 8 * 0) = 16777216 by decide]; omega
  · rw [show 2 ^ (24 - 8 * 1) = 65536 by decide]; omega
  · rw [show 2 ^ (24 - 8 * 2) = 256 by decide]; omega
  · rw [show 2 ^ (24 - 8 * 3) = 1 by decide]; omega
theorem apR_o (h : i < l ∨ l + 4 ≤ i) : apR x l tp i = tp i := by
  unfold apR
  rw [upd_o (by omega), upd_o (by omega), upd_o (by omega), upd_o (by omega)]
theorem apR_i (hj : j < 4) : apR x l tp (l + j) = sb (bv x j) := by
  unfold apR
  rcases (show j = 0 ∨ j = 1 ∨ j = 2 ∨ j = 3 by omega) with g | g | g | g <;> subst g
  · rw [upd_o (by omega), upd_o (by omega), upd_o (by omega), Nat.add_zero, upd_s]
  · rw [upd_o (by omega), upd_o (by omega), upd_s]
  · rw [upd_o (by omega), show l + 2 = l + 1 + 1 from rfl, upd_s]
  · rw [show l + 3 = l + 1 + 1 + 1 from rfl, upd_s]
theorem fdR_i (h : ∀ j, ch j < 128) (hk : k < 20) : fdR (rwF ch 20 0) (rwF ch 20 1) (rwF ch 20 2) (rwF ch 20 3) (rwF ch 20 4) l tp (l + k) = sb (ch k) := by
  have w : ∀ r, r < 5 → rwF ch 20 r = nI (pck ch r 4) := fun r hr => by unfold rwF; rw [show min 4 (20 - 4 * r) = 4 by omega]
  rw [w 0 (by omega), w 1 (by omega), w 2 (by omega), w 3 (by omega), w 4 (by omega)]
  unfold fdR
  obtain ⟨r, j, hr, hj, e⟩ : ∃ r j, r < 5 ∧ j < 4 ∧ k = 4 * r + j := ⟨k / 4, k % 4, by omega, by omega, by omega⟩
  rcases (show r = 0 ∨ r = 1 ∨ r = 2 ∨ r = 3 ∨ r = 4 by omega) with g | g | g | g | g <;> subst g
  · rw [apR_o (by omega), apR_o (by omega), apR_o (by omega), apR_o (by omega), show l + k = l + j by omega, apR_i hj, bv_p h hj, ← e]
  · rw [apR_o (by omega), apR_o (by omega), apR_o (by omega), show l + k = l + 4 + j by omega, apR_i hj, bv_p h hj, ← e]
  · rw [apR_o (by omega), apR_o (by omega), show l + k = l + 4 + 4 + j by omega, apR_i hj, bv_p h hj, ← e]
  · rw [apR_o (by omega), show l + k = l + 4 + 4 + 4 + j by omega, apR_i hj, bv_p h hj, ← e]
  · rw [show l + k = l + 4 + 4 + 4 + 4 + j by omega, apR_i hj, bv_p h hj, ← e]
theorem fdR_o {a b c e f : Int32} (hi : i < l ∨ l + 20 ≤ i) : fdR a b c e f l tp i = tp i := by
  unfold fdR
  rw [apR_o (by omega), apR_o (by omega), apR_o (by omega), apR_o (by omega), apR_o (by omega)]
/-- a text's letters, and nothing behind it -/
def chT (L : List Nat) (j : Nat) : Nat := if j < L.length then L.getD j 0 else 0
theorem chT_lt (h : ∀ c ∈ L, c < 128) (j : Nat) : chT L j < 128 := by
  unfold chT
  split
  · next hj => rw [gD hj]; exact h _ (List.getElem_mem hj)
  · omega
/-- a row's letters -/
theorem sy_in (ha : Z.1 p = .inr (12, [.ref q, .int 0, .int 0, .int 0])) (hb : Z.1 q = xarB L.length f) (hf : byL f L) (hl : L.length ≤ 1580) (h128 : ∀ c ∈ L, c < 128) (hp : p < Z.2.1) (hq : q < Z.2.1) (hi : l ≤ 1600) : ∀ (m k : Nat), k + m = 20 → xr E (d + 4) m_L_say Q (20, [some (.ref 0), some (.ref p), some (.int (nI L.length)), some (.int (nI l)), some (.ref Z.2.1), some (.int (nI k))], [], xnew Z (xarI 5 (rwF (fun j => chT L (l + j)) k)) 5) = xr E (d + 4) m_L_say Q (71, [some (.ref 0), some (.ref p), some (.int (nI L.length)), some (.int (nI l)), some (.ref Z.2.1), some (.int (nI 20))], [], xnew Z (xarI 5 (rwF (fun j => chT L (l + j)) 20)) 5)
  | 0, k, hk => by
    obtain rfl : k = 20 := by omega
    rw [s_L_say_20]
    simp only [↓reduceIte, s_L_say_22, s_L_say_24, not_false_eq_true, Nat.reduceLT, Nat.reduceAdd, true_and, and_true, if_true, if_false, ite_true, ite_false, xnb_0, xnb_1, xnb_b, xk_v, xk_n, show (nI 20 < (20 : Int32)) = False from eq_false (by decide)]
  | m + 1, k, hk => by
    have hch : ∀ j, (fun j => chT L (l + j)) j < 128 := fun j => chT_lt h128 _
    have ih := sy_in ha hb hf hl h128 hp hq hi m (k + 1) (by omega)
    have hk4 : (nI k < (20 : Int32)) = True := nlt (i := k) (n := 20) (by omega) (by omega)
    have ed : nI k / 4 = nI (k / 4) := nI_dv (y := 4) (by omega) (by omega) (by omega)
    have st := rwF_s (k := k) hch (by omega)
    have hp2 : ∀ C c, (xnew Z C c).1 p = .inr (12, [.ref q, .int 0, .int 0, .int 0]) := fun C c => by rw [xnew_g, if_neg (by omega)]; exact ha
    have hq2 : ∀ C c, (xnew Z C c).1 q = xarB L.length f := fun C c => by rw [xnew_g, if_neg (by omega)]; exact hb
    rw [s_L_say_20]
    by_cases e : l + k < L.length
    · have hc := fun (Q : xR → Prop) => st_charAt (E := E) (d := d) (Q := Q) (k := l + k) (hp2 (xarI 5 (rwF (fun j => chT L (l + j)) k)) 5) (hq2 _ _) hf (by omega) e h128
      have ec : L.getD (l + k) 0 = chT L (l + k) := by unfold chT; rw [if_pos e]
      rw [ec] at hc
      simp only [↓reduceIte, s_L_say_22, s_L_say_24, s_L_say_27, s_L_say_29, s_L_say_31, s_L_say_32, s_L_say_33, s_L_say_35, s_L_say_37, s_L_say_38, s_L_say_39, s_L_say_40, s_L_say_42, s_L_say_43, s_L_say_44, s_L_say_46, s_L_say_47, s_L_say_48, s_L_say_51, s_L_say_52, s_L_say_53, s_L_say_55, s_L_say_56, s_L_say_59, s_L_say_62, s_L_say_63, s_L_say_64, s_L_say_65, s_L_say_68, not_false_eq_true, Nat.reduceLT, Nat.reduceAdd, true_and, and_true, if_true, if_false, ite_true, ite_false, xnb_0, xnb_1, xnb_b, xk_v, xk_n, hk4, ed, show ((4 : Int32) = 0) = False from eq_false (by decide), n_nl2, n_nl3, nvp (show k / 4 < 5 by omega) (by omega), ncl (show k / 4 < 2147483648 by omega), show nI l + nI k = nI (l + k) from nI_ad l k, nlt e (show L.length < 2147483648 by omega), xc_of (hp2 (xarI 5 (rwF (fun j => chT L (l + j)) k)) 5), hc, xnw_2, st, show nI k + 1 = nI (k + 1) from nI_ad k 1]
      exact ih
    · have ec : chT L (l + k) = 0 := by unfold chT; rw [if_neg e]
      have st' : upd (rwF (fun j => chT L (l + j)) k) (k / 4) ((rwF (fun j => chT L (l + j)) k (k / 4) <<< ((8 : Int32) &&& 31)) ||| 0) = rwF (fun j => chT L (l + j)) (k + 1) := by
        rw [← st]
        show _ = upd _ _ (_ ||| nI (chT L (l + k)))
        rw [ec]; rfl
      simp only [↓reduceIte, s_L_say_22, s_L_say_24, s_L_say_27, s_L_say_29, s_L_say_31, s_L_say_32, s_L_say_33, s_L_say_35, s_L_say_37, s_L_say_38, s_L_say_39, s_L_say_40, s_L_say_42, s_L_say_43, s_L_say_44, s_L_say_46, s_L_say_47, s_L_say_48, s_L_say_51, s_L_say_52, s_L_say_53, s_L_say_55, s_L_say_56, s_L_say_59, s_L_say_62, s_L_say_63, s_L_say_64, s_L_say_65, s_L_say_68, not_false_eq_true, Nat.reduceLT, Nat.reduceAdd, true_and, and_true, if_true, if_false, ite_true, ite_false, xnb_0, xnb_1, xnb_b, xk_v, xk_n, hk4, ed, show ((4 : Int32) = 0) = False from eq_false (by decide), n_nl2, n_nl3, nvp (show k / 4 < 5 by omega) (by omega), ncl (show k / 4 < 2147483648 by omega), show nI l + nI k = nI (l + k) from nI_ad l k, nge (show L.length ≤ l + k by omega) (show l + k < 2147483648 by omega), xnw_2, st', show nI k + 1 = nI (k + 1) from nI_ad k 1]
      exact ih
/-- a row is fed -/
theorem sy_row (ha : Z.1 p = .inr (12, [.ref q, .int 0, .int 0, .int 0])) (hb : Z.1 q = xarB L.length f) (hf : byL f L) (hl : L.length ≤ 1580) (h128 : ∀ c ∈ L, c < 128) (hp : p < Z.2.1) (hq : q < Z.2.1) (hc : Z.1 0 = tgC Kb Ks ep) (h1 : Z.1 1 = .inr (6, [.ref 2, .int (nI l)])) (h2 : Z.1 2 = xarB 1600 tp) (h3 : 3 ≤ Z.2.1) (hi : l < L.length) : ∃ Y tp' j4' j5', (∀ Q, xr E (d + 4) m_L_say Q (7, [some (.ref 0), some (.ref p), some (.int (nI L.length)), some (.int (nI l)), j4, j5], [], Z) = xr E (d + 4) m_L_say Q (7, [some (.ref 0), some (.ref p), some (.int (nI L.length)), some (.int (nI (l + 20))), j4', j5'], [], Y)) ∧ Y.1 1 = .inr (6, [.ref 2, .int (nI (l + 20))]) ∧ Y.1 2 = xarB 1600 tp' ∧ (∀ k, k < 20 → tp' (l + k) = sb (chT L (l + k))) ∧ (∀ k, k < l ∨ l + 20 ≤ k → tp' k = tp k) ∧ (∀ n, n < Z.2.1 → ¬ n = 1 → ¬ n = 2 → Y.1 n = Z.1 n) ∧ Y.2.1 = Z.2.1 + 1 ∧ Y.2.2 = Z.2.2 + 5 := by
  have hch : ∀ j, (fun j => chT L (l + j)) j < 128 := fun j => chT_lt h128 _
  have e1 := fun (Q : xR → Prop) => sy_in (E := E) (d := d) (Q := Q) ha hb hf hl h128 hp hq (l := l) (by omega) 20 0 (by omega)
  rw [rwF_0] at e1
  obtain ⟨W, hW⟩ : ∃ W, W = xnew Z (xarI 5 (rwF (fun j => chT L (l + j)) 20)) 5 := ⟨_, rfl⟩
  have w0 : W.1 0 = tgC Kb Ks ep := by rw [hW, xnew_g, if_neg (by omega)]; exact hc
  have w1 : W.1 1 = .inr (6, [.ref 2, .int (nI l)]) := by rw [hW, xnew_g, if_neg (by omega)]; exact h1
  have w2 : W.1 2 = xarB 1600 tp := by rw [hW, xnew_g, if_neg (by omega)]; exact h2
  have w3 : W.1 Z.2.1 = xarI 5 (rwF (fun j => chT L (l + j)) 20) := by rw [hW]; exact if_pos rfl
  have w4 : ∀ n, n < Z.2.1 → W.1 n = Z.1 n := fun n hn => by rw [hW, xnew_g, if_neg (by omega)]
  have w5 : W.2.1 = Z.2.1 + 1 := by rw [hW]; rfl
  have w6 : W.2.2 = Z.2.2 + 5 := by rw [hW]; rfl
  rw [← hW] at e1
  clear hW
  have ef := fun (Q : xR → Prop) => c_T_feed_i (E := E) (d := d + 2) (Q := Q) (X := W) (tp := tp) (l := l) w0 (by omega) (rwF (fun j => chT L (l + j)) 20 0) (rwF (fun j => chT L (l + j)) 20 1) (rwF (fun j => chT L (l + j)) 20 2) (rwF (fun j => chT L (l + j)) 20 3) (rwF (fun j => chT L (l + j)) 20 4)
  rw [← tH_of w1 w2] at ef
  have v0 : vp_in 0 5 = True := nvp (i := 0) (by omega) (by omega)
  have v1 : vp_in 1 5 = True := nvp (i := 1) (by omega) (by omega)
  have v2 : vp_in 2 5 = True := nvp (i := 2) (by omega) (by omega)
  have v3 : vp_in 3 5 = True := nvp (i := 3) (by omega) (by omega)
  have v4 : vp_in 4 5 = True := nvp (i := 4) (by omega) (by omega)
  refine ⟨_, _, some (.ref Z.2.1), some (.int (nI 20)), fun Q => ?_, tH_1, tH_2, fun k hk => fdR_i hch hk, fun k hk => fdR_o hk, fun n hn n1 n2 => (tH_o n ⟨n1, n2⟩).trans (w4 n hn), w5, w6⟩
  rw [s_L_say_7]
  simp only [↓reduceIte, s_L_say_8, s_L_say_9, s_L_say_12, s_L_say_13, s_L_say_15, s_L_say_17, s_L_say_18, not_false_eq_true, Nat.reduceLT, Nat.reduceAdd, true_and, and_true, if_true, if_false, ite_true, ite_false, xnb_0, xnb_1, xnb_b, xk_v, xk_n, nlt hi (show L.length < 2147483648 by omega), show ((5 : Int32) < 0) = False from eq_false (by decide), show (5 : Int32).toNatClampNeg = 5 from rfl, show (5 * 4 ≤ 536870912) = True from eq_true (by decide)]
  refine (e1 Q).trans ?_
  simp only [↓reduceIte, s_L_say_71, s_L_say_72, s_L_say_74, s_L_say_75, s_L_say_76, s_L_say_78, s_L_say_79, s_L_say_80, s_L_say_82, s_L_say_83, s_L_say_84, s_L_say_86, s_L_say_87, s_L_say_88, s_L_say_90, s_L_say_91, s_L_say_92, s_L_say_95, s_L_say_96, s_L_say_99, not_false_eq_true, Nat.reduceLT, Nat.reduceAdd, true_and, and_true, if_true, if_false, ite_true, ite_false, xnb_0, xnb_1, xnb_b, xk_v, xk_n, xIl_of w3, xIf_of w3, ic_0, ic_1, ic_2, ic_3, ic_4, v0, v1, v2, v3, v4, xc_of w0, ef, show nI l + 20 = nI (l + 20) from nI_ad l 20]
/-- the tape that stands: the first l letters of a text -/
def chF (L : List Nat) (l j : Nat) : Nat := if j < l then chT L j else 0
theorem sy_rows (hf : byL f L) (hl : L.length ≤ 1580) (h128 : ∀ c ∈ L, c < 128) : ∀ (m i : Nat) (Z : xH) (tp : Nat → Int32) (j4 j5 : Option Value), L.length ≤ 20 * (i + m) → i + m ≤ 79 → Z.1 p = .inr (12, [.ref q, .int 0, .int 0, .int 0]) → Z.1 q = xarB L.length f → p < Z.2.1 → q < Z.2.1 → 3 ≤ p → 3 ≤ q → Z.1 0 = tgC Kb Ks ep → Z.1 1 = .inr (6, [.ref 2, .int (nI (20 * i))]) → Z.1 2 = xarB 1600 tp → byt (chF L (20 * i)) tp →
    ∃ Y tp' l' j4' j5', (∀ Q, xr E (d + 4) m_L_say Q (7, [some (.ref 0), some (.ref p), some (.int (nI L.length)), some (.int (nI (20 * i))), j4, j5], [], Z) = xr E (d + 4) m_L_say Q (102, [some (.ref 0), some (.ref p), some (.int (nI L.length)), some (.int (nI l')), j4', j5'], [], Y)) ∧ L.length ≤ l' ∧ l' ≤ 1600 ∧ Y.1 1 = .inr (6, [.ref 2, .int (nI l')]) ∧ Y.1 2 = xarB 1600 tp' ∧ byt (chF L l') tp' ∧ (∀ n, n < Z.2.1 → ¬ n = 1 → ¬ n = 2 → Y.1 n = Z.1 n) ∧ Z.2.1 ≤ Y.2.1 ∧ Y.2.1 ≤ Z.2.1 + m ∧ Y.2.2 ≤ Z.2.2 + 5 * m := by
  have fin : ∀ (m i : Nat) (Z : xH) (tp : Nat → Int32) (j4 j5 : Option Value), L.length ≤ 20 * i → i ≤ 79 → Z.1 1 = .inr (6, [.ref 2, .int (nI (20 * i))]) → Z.1 2 = xarB 1600 tp → byt (chF L (20 * i)) tp → ∃ Y tp' l' j4' j5', (∀ Q, xr E (d + 4) m_L_say Q (7, [some (.ref 0), some (.ref p), some (.int (nI L.length)), some (.int (nI (20 * i))), j4, j5], [], Z) = xr E (d + 4) m_L_say Q (102, [some (.ref 0), some (.ref p), some (.int (nI L.length)), some (.int (nI l')), j4', j5'], [], Y)) ∧ L.length ≤ l' ∧ l' ≤ 1600 ∧ Y.1 1 = .inr (6, [.ref 2, .int (nI l')]) ∧ Y.1 2 = xarB 1600 tp' ∧ byt (chF L l') tp' ∧ (∀ n, n < Z.2.1 → ¬ n = 1 → ¬ n = 2 → Y.1 n = Z.1 n) ∧ Z.2.1 ≤ Y.2.1 ∧ Y.2.1 ≤ Z.2.1 + m ∧ Y.2.2 ≤ Z.2.2 + 5 * m := by
    intro m i Z tp j4 j5 hL hi h1 h2 hb
    refine ⟨Z, tp, 20 * i, j4, j5, fun Q => ?_, hL, by omega, h1, h2, hb, fun _ _ _ _ => rfl, Nat.le_refl _, by omega, by omega⟩
    rw [s_L_say_7]
    simp only [↓reduceIte, s_L_say_8, s_L_say_9, nge (show L.length ≤ 20 * i by omega) (show 20 * i < 2147483648 by omega)]
  intro m
  induction m with
  | zero =>
    intro i Z tp j4 j5 hL hi _ _ _ _ _ _ _ h1 h2 hb
    exact fin 0 i Z tp j4 j5 (by omega) (by omega) h1 h2 hb
  | succ m ih =>
    intro i Z tp j4 j5 hL hi ha hq hlp hlq p3 q3 hc h1 h2 hb
    by_cases e : 20 * i < L.length
    · obtain ⟨Y, tp', j4', j5', y1, y2, y3, y4, y5, y6, y7, y8⟩ := sy_row (E := E) (d := d) (j4 := j4) (j5 := j5) ha hq hf hl h128 hlp hlq hc h1 h2 (by omega) e
      rw [show 20 * i + 20 = 20 * (i + 1) by omega] at y1 y2
      obtain ⟨X, tpx, l', k4, k5, x1, x2, x3, x4, x5, x6, x7, x8, x9, xA⟩ := ih (i + 1) Y tp' j4' j5' (by omega) (by omega) ((y6 p hlp (by omega) (by omega)).trans ha) ((y6 q hlq (by omega) (by omega)).trans hq) (by omega) (by omega) p3 q3 ((y6 0 (by omega) (by omega) (by omega)).trans hc) y2 y3 (by
        intro j
        have hj := hb j
        unfold chF at hj ⊢
        by_cases g1 : j < 20 * i
        · rw [if_pos g1] at hj
          rw [if_pos (show j < 20 * (i + 1) by omega), y5 j (Or.inl g1)]
          exact hj
        · rw [if_neg g1] at hj
          by_cases g2 : j < 20 * (i + 1)
          · rw [if_pos g2]
            have := y4 (j - 20 * i) (by omega)
            rw [show 20 * i + (j - 20 * i) = j by omega] at this
            exact ⟨by have := chT_lt h128 j; omega, this⟩
          · rw [if_neg g2, y5 j (Or.inr (by omega))]
            exact hj)
      exact ⟨X, tpx, l', k4, k5, fun Q => (y1 Q).trans (x1 Q), x2, x3, x4, x5, x6, fun n hn n1 n2 => (x7 n (by omega) n1 n2).trans (y6 n hn n1 n2), by omega, by omega, by omega⟩
    · exact fin (m + 1) i Z tp j4 j5 (by omega) (by omega) h1 h2 hb
end SAY
