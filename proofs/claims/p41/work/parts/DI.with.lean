/-! ===== the law's reckoning: one more row ===== -/
section SWITH
variable {E : xE} {d D : Nat} {Q : xR → Prop} {H X : xH} {p v n m i : Nat} {L : List Nat}
/-- a row of the places L -/
abbrev rowL (L : List Nat) : xC := xarA L.length (fun k => L[k]?)
theorem rw_fill {i : Nat} (hi : i < L.length) : va_up (fun k => if k < i then L[k]? else none) i (some L[i]) = fun k => if k < i + 1 then L[k]? else none := by
  funext k
  unfold va_up
  by_cases e : k = i
  · subst e
    rw [if_pos rfl, if_pos (by omega), List.getElem?_eq_getElem hi]
  · rw [if_neg e]
    show (if k < i then L[k]? else none) = _
    by_cases g : k < i
    · rw [if_pos g, if_pos (by omega)]
    · rw [if_neg g, if_neg (by omega)]
theorem rw_last : va_up (fun k => if k < L.length then L[k]? else none) L.length (some v) = fun k => (L ++ [v])[k]? := by
  funext k
  unfold va_up
  by_cases e : k = L.length
  · subst e
    rw [if_pos rfl, List.getElem?_append_right (Nat.le_refl _), Nat.sub_self]; rfl
  · rw [if_neg e]
    show (if k < L.length then L[k]? else none) = _
    by_cases g : k < L.length
    · rw [if_pos g, List.getElem?_append_left g]
    · rw [if_neg g, List.getElem?_append_right (by omega), List.getElem?_eq_none (by simp; omega)]
theorem l_S_with (hp : H.1 p = rowL L) (hlp : p < H.2.1) (hL : L.length ≤ 100) (hI : ∀ q ∈ L, q < H.2.1 ∧ xisI H q) : ∀ m i, i + m = L.length → xr E d m_S_with Q (10, [some (.ref p), some (.ref v), some (.ref H.2.1), some (.int (nI i))], [], xnew H (xarA (L.length + 1) (fun k => if k < i then L[k]? else none)) (L.length + 1)) = xr E d m_S_with Q (28, [some (.ref p), some (.ref v), some (.ref H.2.1), some (.int (nI L.length))], [], xnew H (xarA (L.length + 1) (fun k => if k < L.length then L[k]? else none)) (L.length + 1))
  | 0, i, hi => by
    have hp2 : ∀ C c, (xnew H C c).1 p = rowL L := fun C c => by rw [xnew_g, if_neg (by omega)]; exact hp
    obtain rfl : i = L.length := by omega
    rw [s_S_with_10]
    simp only [↓reduceIte, s_S_with_11, s_S_with_12, s_S_with_13, not_false_eq_true, Nat.reduceLT, Nat.reduceAdd, true_and, and_true, if_true, if_false, ite_true, ite_false, xnb_0, xnb_1, xnb_b, xk_v, xk_n, xln_A (hp2 _ _), Option.isSome_some, Option.getD_some, nge (Nat.le_refl L.length) (show L.length < 2147483648 by omega)]
  | m + 1, i, hi => by
    have hp2 : ∀ C c, (xnew H C c).1 p = rowL L := fun C c => by rw [xnew_g, if_neg (by omega)]; exact hp
    have hn2 : ∀ C c, (xnew H C c).1 H.2.1 = C := fun C c => if_pos rfl
    have hl : i < L.length := by omega
    have ih := l_S_with hp hlp hL hI m (i + 1) (by omega)
    obtain ⟨q1, q2⟩ := hI L[i] (List.getElem_mem hl)
    have q3 : ∀ C c, xisI (xnew H C c) L[i] := fun C c => by
      obtain ⟨a, f, e⟩ := q2
      exact ⟨a, f, by rw [xnew_g, if_neg (by omega)]; exact e⟩
    rw [s_S_with_10]
    simp only [↓reduceIte, s_S_with_11, s_S_with_12, s_S_with_13, s_S_with_16, s_S_with_17, s_S_with_18, s_S_with_19, s_S_with_20, s_S_with_21, s_S_with_22, s_S_with_25, not_false_eq_true, Nat.reduceLT, Nat.reduceAdd, true_and, and_true, if_true, if_false, ite_true, ite_false, xnb_0, xnb_1, xnb_b, xk_v, xk_n, xln_A (hp2 _ _), Option.isSome_some, Option.getD_some, nlt hl (by omega), (xA_of (hp2 _ _)).1, (xA_of (hp2 _ _)).2.1, nvp hl (by omega), ncl (show i < 2147483648 by omega), List.getElem?_eq_getElem hl, xrf_s, (xA_of (hn2 (xarA (L.length + 1) (fun k => if k < i then L[k]? else none)) _)).1, (xA_of (hn2 (xarA (L.length + 1) (fun k => if k < i then L[k]? else none)) _)).2.1, (xA_of (hn2 (xarA (L.length + 1) (fun k => if k < i then L[k]? else none)) _)).2.2, nvp (show i < L.length + 1 by omega) (by omega), eq_true (q3 _ _), xnw_2, rw_fill hl, show nI i + 1 = nI (i + 1) from nI_ad i 1]
    exact ih
theorem f_S_with (hp : H.1 p = rowL L) (hlp : p < H.2.1) (hL : L.length ≤ 100) (hI : ∀ q ∈ L, q < H.2.1 ∧ xisI H q) (hv : v < H.2.1) (hvI : xisI H v) : xcall E xprog (d + 1) 109 [.ref p, .ref v] H Q = Q (.inl (some (.ref H.2.1)), xnew H (rowL (L ++ [v])) (L.length + 1)) := by
  have hp2 : ∀ C c, (xnew H C c).1 p = rowL L := fun C c => by rw [xnew_g, if_neg (by omega)]; exact hp
  have hn2 : ∀ C c, (xnew H C c).1 H.2.1 = C := fun C c => if_pos rfl
  have hl := l_S_with (E := E) (d := d) (Q := Q) (v := v) hp hlp hL hI L.length 0 (by omega)
  have q3 : ∀ C c, xisI (xnew H C c) v := fun C c => by
    obtain ⟨a, f, e⟩ := hvI
    exact ⟨a, f, by rw [xnew_g, if_neg (by omega)]; exact e⟩
  rw [e_S_with]
  have e0 : (fun k => if k < 0 then L[k]? else none : Nat → Option Nat) = fun _ => none := by funext k; rw [if_neg (by omega)]
  rw [e0] at hl
  refine Eq.trans (b := xr E d m_S_with Q (10, [some (.ref p), some (.ref v), some (.ref H.2.1), some (.int (nI 0))], [], xnew H (xarA (L.length + 1) (fun _ => none)) (L.length + 1))) ?_ (hl.trans ?_)
  · simp only [s_S_with_0, s_S_with_1, s_S_with_2, s_S_with_3, s_S_with_4, s_S_with_7, s_S_with_8, s_S_with_9, not_false_eq_true, Nat.reduceLT, Nat.reduceAdd, true_and, and_true, if_true, if_false, ite_true, ite_false, xnb_0, xnb_1, xnb_b, xk_v, xk_n, xln_A hp, Option.isSome_some, Option.getD_some, show nI L.length + 1 = nI (L.length + 1) from nI_ad _ 1, nI_n0 (L.length + 1) (by omega), ncl (show L.length + 1 < 2147483648 by omega), show ((L.length + 1) * 4 ≤ 536870912) = True from eq_true (by omega)]
    rfl
  · simp only [s_S_with_28, s_S_with_29, s_S_with_30, s_S_with_31, s_S_with_32, s_S_with_33, s_S_with_34, not_false_eq_true, Nat.reduceLT, Nat.reduceAdd, true_and, and_true, if_true, if_false, ite_true, ite_false, xnb_0, xnb_1, xnb_b, xk_v, xk_n, xln_A (hp2 _ _), Option.isSome_some, Option.getD_some, (xA_of (hn2 (xarA (L.length + 1) (fun k => if k < L.length then L[k]? else none)) _)).1, (xA_of (hn2 (xarA (L.length + 1) (fun k => if k < L.length then L[k]? else none)) _)).2.1, (xA_of (hn2 (xarA (L.length + 1) (fun k => if k < L.length then L[k]? else none)) _)).2.2, nvp (show L.length < L.length + 1 by omega) (by omega), ncl (show L.length < 2147483648 by omega), eq_true (q3 _ _), xnw_2, rw_last]
    rw [show rowL (L ++ [v]) = xarA (L.length + 1) (fun k => (L ++ [v])[k]?) by unfold rowL; rw [List.length_append]; rfl]
end SWITH
