/-! ===== the law's reckoning is made: its first part ===== -/
section SINIT
variable {E : xE} {d D : Nat} {Q : xR → Prop} {H X Z : xH} {p v n m i c ci : Nat} {L : List Nat} {fs : List Value} {C : xC}
abbrev simF (s0 s1 : Nat) (h w f : Int32) (rk ru rc : Nat) (rl : Value) : xC := .inr (10, [.int (nI s0), .int (nI s1), .int h, .int w, .int f, .ref rk, .ref ru, .ref rc, rl])
theorem xf_xn (h : p < Z.2.1) : xfls (xnew (xset Z p (.inr (ci, fs))) C c) p ci = fs := by
  refine xf_of ?_
  show (if p = Z.2.1 then C else (xset Z p (.inr (ci, fs))).1 p) = _
  rw [if_neg (by omega)]
  exact xset_s p rfl
theorem row_0 : xarA 0 (fun _ => none) = rowL [] := by
  unfold rowL
  congr 1
theorem si_1 (hE : E.1 ≤ 260) (hp : H.1 p = .inr (10, [.int 0, .int 0, .int 0, .int 0, .int 0, .null, .null, .null, .null])) (hlp : p < H.2.1) : ∃ X, (∀ Q, xr E (d + 5) m_S_init Q (0, [some (.ref p), some (.retAddr 0), none, none, none, none, none], [], H) = xr E (d + 5) m_S_init Q (73, [some (.ref p), some (.retAddr 0), some (.int (nI (drT E))), some (.int (nI 0)), none, none, none], [], X)) ∧ X.1 p = simF (drC E) (drR E) 0 0 0 H.2.1 (H.2.1 + 1) (H.2.1 + 2) .null ∧ X.1 H.2.1 = rowL [] ∧ X.1 (H.2.1 + 1) = rowL [] ∧ X.1 (H.2.1 + 2) = rowL [] ∧ X.2.1 = H.2.1 + 3 ∧ X.2.2 = H.2.2 ∧ ∀ a, a < H.2.1 → ¬ a = p → X.1 a = H.1 a := by
  have hc : ∀ (Z : xH) (Q : xR → Prop) (k : Nat), k < 2147483648 → xcall E xprog (d + 5) 168 [.retAddr 0, .int (nI k)] Z Q = Q (.inl (some (.int (cel E k))), Z) := fun Z Q k hk => f_L_cell hE hk
  have hb : ∀ (Z : xH) (Q : xR → Prop) (v : Int32) (n : Nat), 0 < n → n < 2147483648 → xcall E xprog (d + 5) 167 [.int v, .int (nI n)] Z Q = Q (.inl (some (.int (nI (bel v n)))), Z) := fun Z Q v n h0 h1 => f_L_below v h0 h1
  have hc0 : ∀ (Z : xH) (Q : xR → Prop), xcall E xprog (d + 5) 168 [.retAddr 0, .int 0] Z Q = Q (.inl (some (.int (cel E 0))), Z) := fun Z Q => hc Z Q 0 (by omega)
  have hc1 : ∀ (Z : xH) (Q : xR → Prop), xcall E xprog (d + 5) 168 [.retAddr 0, .int 1] Z Q = Q (.inl (some (.int (cel E 1))), Z) := fun Z Q => hc Z Q 1 (by omega)
  have hc2 : ∀ (Z : xH) (Q : xR → Prop), xcall E xprog (d + 5) 168 [.retAddr 0, .int 2] Z Q = Q (.inl (some (.int (cel E 2))), Z) := fun Z Q => hc Z Q 2 (by omega)
  have hb10 : ∀ (Z : xH) (Q : xR → Prop) (v : Int32), xcall E xprog (d + 5) 167 [.int v, .int 10] Z Q = Q (.inl (some (.int (nI (bel v 10)))), Z) := fun Z Q v => hb Z Q v 10 (by omega) (by omega)
  have hb11 : ∀ (Z : xH) (Q : xR → Prop) (v : Int32), xcall E xprog (d + 5) 167 [.int v, .int 11] Z Q = Q (.inl (some (.int (nI (bel v 11)))), Z) := fun Z Q v => hb Z Q v 11 (by omega) (by omega)
  have hp1 : (xnew H (xarA 0 (fun _ => none)) 0).1 p = .inr (10, [.int 0, .int 0, .int 0, .int 0, .int 0, .null, .null, .null, .null]) := by rw [xnew_g, if_neg (by omega)]; exact hp
  let A1 : xC := .inr (10, [.int 0, .int 0, .int 0, .int 0, .int 0, .ref H.2.1, .null, .null, .null])
  let A2 : xC := .inr (10, [.int 0, .int 0, .int 0, .int 0, .int 0, .ref H.2.1, .ref (H.2.1 + 1), .null, .null])
  let R : xC := xarA 0 (fun _ => none)
  let Z1 := xnew H R 0
  let Z2 := xnew (xset Z1 p A1) R 0
  let Z3 := xnew (xset Z2 p A2) R 0
  refine ⟨xset Z3 p (simF (drC E) (drR E) 0 0 0 H.2.1 (H.2.1 + 1) (H.2.1 + 2) .null), fun Q => ?_, xset_s p rfl, ?_, ?_, ?_, rfl, rfl, fun a ha hap => ?_⟩
  · simp only [s_S_init_0, s_S_init_1, s_S_init_4, s_S_init_5, s_S_init_6, s_S_init_9, s_S_init_12, s_S_init_13, s_S_init_14, s_S_init_17, s_S_init_20, s_S_init_21, s_S_init_22, s_S_init_25, s_S_init_28, s_S_init_29, s_S_init_30, s_S_init_31, s_S_init_32, s_S_init_35, s_S_init_37, s_S_init_40, s_S_init_41, s_S_init_44, s_S_init_45, s_S_init_46, s_S_init_47, s_S_init_48, s_S_init_51, s_S_init_53, s_S_init_56, s_S_init_57, s_S_init_60, s_S_init_61, s_S_init_62, s_S_init_65, s_S_init_67, s_S_init_70, s_S_init_71, s_S_init_72, not_false_eq_true, Nat.reduceLT, Nat.reduceAdd, true_and, and_true, if_true, if_false, ite_true, ite_false, xnb_0, xnb_1, xnb_b, xk_v, xk_n, show ((0 : Int32) < 0) = False from eq_false (by decide), show ((0 : Int32).toNatClampNeg * 4 ≤ 536870912) = True from eq_true (by decide), show (0 : Int32).toNatClampNeg = 0 from rfl, show (0 * 4 ≤ 536870912) = True from eq_true (by decide), xf_of hp1, xll_10, xlg_10_0, xlg_10_1, xlg_10_2, xlg_10_3, xlg_10_4, xlg_10_5, xlg_10_6, xlg_10_7, xlg_10_8, xls_10_0, xls_10_1, xls_10_2, xls_10_3, xls_10_4, xls_10_5, xls_10_6, xls_10_7, xls_10_8, xf_xn (Z := xnew H (xarA 0 (fun _ => none)) 0) (Nat.lt_succ_of_lt hlp), xf_xn (Z := xnew (xset (xnew H (xarA 0 (fun _ => none)) 0) p (.inr (10, [.int 0, .int 0, .int 0, .int 0, .int 0, .ref H.2.1, .null, .null, .null]))) (xarA 0 (fun _ => none)) 0) (show p < H.2.1 + 1 + 1 by omega), hc0, hc1, hc2, hb10, hb11, xf_ss, xst_2, show (3 : Int32) + nI (bel (cel E 0) 10) = nI (drC E) from nI_ad 3 _, show (3 : Int32) + nI (bel (cel E 1) 10) = nI (drR E) from nI_ad 3 _, show nI (bel (cel E 2) 11) = nI (drT E) from rfl]
    rfl
  · rw [xset_o _ (by omega)]
    show (if H.2.1 = H.2.1 + 1 + 1 then R else if H.2.1 = p then A2 else if H.2.1 = H.2.1 + 1 then R else if H.2.1 = p then A1 else if H.2.1 = H.2.1 then R else H.1 H.2.1) = _
    rw [if_neg (by omega), if_neg (by omega), if_neg (by omega), if_neg (by omega), if_pos rfl]
    exact row_0
  · rw [xset_o _ (by omega)]
    show (if H.2.1 + 1 = H.2.1 + 1 + 1 then R else if H.2.1 + 1 = p then A2 else if H.2.1 + 1 = H.2.1 + 1 then R else _) = _
    rw [if_neg (by omega), if_neg (by omega), if_pos rfl]
    exact row_0
  · rw [xset_o _ (by omega)]
    show (if H.2.1 + 2 = H.2.1 + 1 + 1 then R else _) = _
    rw [if_pos rfl]
    exact row_0
  · rw [xset_o _ hap]
    show (if a = H.2.1 + 1 + 1 then R else if a = p then A2 else if a = H.2.1 + 1 then R else if a = p then A1 else if a = H.2.1 then R else H.1 a) = _
    rw [if_neg (by omega), if_neg hap, if_neg (by omega), if_neg hap, if_neg (by omega)]
end SINIT
