/-! ===== the regatta is made ===== -/
section TMADE
variable {E : xE} {d S R : Nat} {Q : xR → Prop} {H Y : xH} {t bk : Nat}
theorem iTa_2 : (iTa Y R).2 = (Y.2.1 + 2, Y.2.2 + 1602) := by refine Prod.ext ?_ ?_ <;> simp only [iTa, xnew_n, xnew_k, Nat.add_assoc, Nat.reduceAdd]
theorem iBR_2 : (iBR Y R t).2 = (Y.2.1 + 7, Y.2.2 + 1243) := by refine Prod.ext ?_ ?_ <;> simp only [iBR, iTo, xnew_n, xnew_k, Nat.add_assoc, Nat.reduceAdd]
theorem iBk_2 : (iBk Y R).2 = (Y.2.1 + 15, Y.2.2 + 886) := by refine Prod.ext ?_ ?_ <;> simp only [iBk, iRu, n6, xnew_n, xnew_k, Nat.add_assoc, Nat.reduceAdd]
theorem iRT_2 : (iRT Y R).2 = (Y.2.1 + 3, Y.2.2 + 413) := by refine Prod.ext ?_ ?_ <;> simp only [iRT, xnew_n, xnew_k, Nat.add_assoc, Nat.reduceAdd]
theorem iBy_2 : (iBy Y R bk t).2 = (Y.2.1 + 10, Y.2.2 + 68) := by refine Prod.ext ?_ ?_ <;> simp only [iBy, n6, xnew_n, xnew_k, Nat.add_assoc, Nat.reduceAdd]
/-- cells made one behind another -/
def al : List (xC × Nat) → xH → xH
  | [], H => H
  | p :: l, H => al l (xnew H p.1 p.2)
theorem al_o : ∀ (l : List (xC × Nat)) (H : xH) (m : Nat), m < H.2.1 → (al l H).1 m = H.1 m
  | [], _, _, _ => rfl
  | p :: l, H, m, h => (al_o l (xnew H p.1 p.2) m (by rw [xnew_n]; omega)).trans (by rw [xnew_g, if_neg (by omega)])
theorem al_g : ∀ (l : List (xC × Nat)) (H : xH) (j : Nat), j < l.length → (al l H).1 (H.2.1 + j) = (l.getD j (xnil, 0)).1
  | [], _, _, h => absurd h (Nat.not_lt_zero _)
  | p :: l, H, 0, _ => (al_o l (xnew H p.1 p.2) H.2.1 (by rw [xnew_n]; omega)).trans (by rw [xnew_g, if_pos rfl]; rfl)
  | p :: l, H, j + 1, h => by
    have z := al_g l (xnew H p.1 p.2) j (Nat.lt_of_succ_lt_succ h)
    rw [xnew_n, show H.2.1 + 1 + j = H.2.1 + (j + 1) by omega] at z
    exact z
theorem iBk_a : iBk Y R = al [(.inr (1, [.ref (R + 1), .ref (R + 4), .ref (R + 5), .ref (R + 6), .ref (R + 7), .ref (R + 8), .ref (R + 9), .ref (R + 10), .ref (R + 11), .ref (R + 12), .ref (R + 13), .ref (R + 14), .int 6, .int 6, .int 0, .int 0, .int 0]), 17), (.inr (5, [.ref (R + 1 + 1), .ref (R + 1 + 2), .int 0]), 3), (xarI 400 (fun _ => 0), 400), (xarI 400 (fun _ => 0), 400), (xarI 6 (fun _ => 0), 6), (xarI 6 (fun _ => 0), 6), (xarI 6 (fun _ => 0), 6), (xarI 6 (fun _ => 0), 6), (xarI 6 (fun _ => 0), 6), (xarJ 6 (fun _ => 0), 6), (xarI 6 (fun _ => 0), 6), (xarI 6 (fun _ => 0), 6), (xarI 6 (fun _ => 0), 6), (xarI 6 (fun _ => 0), 6), (xarI 6 (fun _ => 0), 6)] Y := rfl
theorem iBy_a : iBy Y R bk t = al [(.inr (0, [.ref t, .ref (R + 1), .ref (R + 2), .ref (R + 3), .ref (R + 4), .ref (R + 5), .ref (R + 6), .ref (R + 7), .ref (R + 8), .ref (R + 9), .ref bk, .int 0, .int 0, .int 0]), 14), (xarI 6 (fun _ => 0), 6), (xarI 6 (fun _ => 0), 6), (xarI 6 (fun _ => 0), 6), (xarI 6 (fun _ => 0), 6), (xarI 6 (fun _ => 0), 6), (xarI 6 (fun _ => 0), 6), (xarI 6 (fun _ => 0), 6), (xarI 6 (fun _ => 0), 6), (xarI 6 (fun _ => 0), 6)] Y := rfl
theorem iBR_a : iBR Y R t = al [(.inr (2, [.ref (R + 1), .ref (R + 6), .int 0, .int 0, .int 0, .int 0]), 6), (.inr (7, [.ref t, .ref (R + 1 + 1), .ref (R + 1 + 2), .ref (R + 1 + 3), .ref (R + 1 + 4), .int 0, .int 0]), 7), (xarJ 26 wd0, 26), (xarI 401 (fun _ => 0), 401), (xarI 401 (fun _ => 0), 401), (xarJ 401 (fun _ => 0), 401), (.inr (3, [.ref (R + 1)]), 1)] Y := rfl
theorem iTa_o (m : Nat) (h : m < Y.2.1) : (iTa Y R).1 m = Y.1 m := by simp (disch := omega) only [iTa, xnew_g, xnew_n, if_neg]
theorem iBR_o (m : Nat) (h : m < Y.2.1) : (iBR Y R t).1 m = Y.1 m := by rw [iBR_a]; exact al_o _ _ _ h
theorem iBk_o (m : Nat) (h : m < Y.2.1) : (iBk Y R).1 m = Y.1 m := by rw [iBk_a]; exact al_o _ _ _ h
theorem iRT_o (m : Nat) (h : m < Y.2.1) : (iRT Y R).1 m = Y.1 m := by simp (disch := omega) only [iRT, xnew_g, xnew_n, if_neg]
theorem iBy_o (m : Nat) (h : m < Y.2.1) : (iBy Y R bk t).1 m = Y.1 m := by rw [iBy_a]; exact al_o _ _ _ h
theorem iTa_p (hn : Y.2.1 = R) : (iTa Y R).1 R = .inr (6, [.ref (R + 1), .int 0]) ∧ (iTa Y R).1 (R + 1) = xarB 1600 (fun _ => 0) := by
  subst hn
  refine ⟨?_, ?_⟩ <;> simp (disch := omega) only [iTa, xnew_g, xnew_n, if_neg, if_pos, if_true]
theorem iBR_p (hn : Y.2.1 = R) : (iBR Y R t).1 R = .inr (2, [.ref (R + 1), .ref (R + 6), .int 0, .int 0, .int 0, .int 0]) ∧ (iBR Y R t).1 (R + 1) = .inr (7, [.ref t, .ref (R + 1 + 1), .ref (R + 1 + 2), .ref (R + 1 + 3), .ref (R + 1 + 4), .int 0, .int 0]) ∧
    (iBR Y R t).1 (R + 2) = xarJ 26 wd0 ∧ (iBR Y R t).1 (R + 3) = xarI 401 (fun _ => 0) ∧ (iBR Y R t).1 (R + 4) = xarI 401 (fun _ => 0) ∧ (iBR Y R t).1 (R + 5) = xarJ 401 (fun _ => 0) ∧ (iBR Y R t).1 (R + 6) = .inr (3, [.ref (R + 1)]) := by
  subst hn
  rw [iBR_a]
  exact ⟨(al_g _ Y 0 (Nat.le_of_ble_eq_true rfl)).trans rfl, (al_g _ Y 1 (Nat.le_of_ble_eq_true rfl)).trans rfl, (al_g _ Y 2 (Nat.le_of_ble_eq_true rfl)).trans rfl, (al_g _ Y 3 (Nat.le_of_ble_eq_true rfl)).trans rfl, (al_g _ Y 4 (Nat.le_of_ble_eq_true rfl)).trans rfl, (al_g _ Y 5 (Nat.le_of_ble_eq_true rfl)).trans rfl, (al_g _ Y 6 (Nat.le_of_ble_eq_true rfl)).trans rfl⟩
theorem iBk_p (hn : Y.2.1 = R) : kB (iBk Y R) R (fun _ _ => 0) (fun _ => 0) (six 6 6 0 0 0 0) := by
  subst hn
  rw [iBk_a]
  exact ⟨(al_g _ Y 0 (Nat.le_of_ble_eq_true rfl)).trans rfl, (al_g _ Y 1 (Nat.le_of_ble_eq_true rfl)).trans rfl, (al_g _ Y 2 (Nat.le_of_ble_eq_true rfl)).trans rfl, (al_g _ Y 3 (Nat.le_of_ble_eq_true rfl)).trans rfl, (al_g _ Y 4 (Nat.le_of_ble_eq_true rfl)).trans rfl, (al_g _ Y 5 (Nat.le_of_ble_eq_true rfl)).trans rfl, (al_g _ Y 6 (Nat.le_of_ble_eq_true rfl)).trans rfl, (al_g _ Y 7 (Nat.le_of_ble_eq_true rfl)).trans rfl, (al_g _ Y 8 (Nat.le_of_ble_eq_true rfl)).trans rfl, (al_g _ Y 9 (Nat.le_of_ble_eq_true rfl)).trans rfl, (al_g _ Y 10 (Nat.le_of_ble_eq_true rfl)).trans rfl, (al_g _ Y 11 (Nat.le_of_ble_eq_true rfl)).trans rfl, (al_g _ Y 12 (Nat.le_of_ble_eq_true rfl)).trans rfl, (al_g _ Y 13 (Nat.le_of_ble_eq_true rfl)).trans rfl, (al_g _ Y 14 (Nat.le_of_ble_eq_true rfl)).trans rfl⟩
theorem iRT_p (hn : Y.2.1 = 40) : kT (iRT Y 40) (fun _ => 0) (fun _ => 0) 0 := by
  refine ⟨?_, ?_, ?_⟩ <;> simp (disch := omega) only [iRT, xnew_g, xnew_n, hn, if_neg, if_pos, if_true]
theorem iBy_p (hn : Y.2.1 = R) : kY (iBy Y R bk 40) R bk (fun _ _ => 0) (tri 0 0 0) := by
  subst hn
  rw [iBy_a]
  exact ⟨(al_g _ Y 0 (Nat.le_of_ble_eq_true rfl)).trans rfl, (al_g _ Y 1 (Nat.le_of_ble_eq_true rfl)).trans rfl, (al_g _ Y 2 (Nat.le_of_ble_eq_true rfl)).trans rfl, (al_g _ Y 3 (Nat.le_of_ble_eq_true rfl)).trans rfl, (al_g _ Y 4 (Nat.le_of_ble_eq_true rfl)).trans rfl, (al_g _ Y 5 (Nat.le_of_ble_eq_true rfl)).trans rfl, (al_g _ Y 6 (Nat.le_of_ble_eq_true rfl)).trans rfl, (al_g _ Y 7 (Nat.le_of_ble_eq_true rfl)).trans rfl, (al_g _ Y 8 (Nat.le_of_ble_eq_true rfl)).trans rfl, (al_g _ Y 9 (Nat.le_of_ble_eq_true rfl)).trans rfl⟩
theorem wd0_W : ∀ i, i < 26 → wd0 i = W32 i := by
  unfold wd0 tln
  rw [xtb_is]
  have e : ∀ j, tch 26 j = ([98, 97, 121, 32, 107, 101, 116, 116, 108, 101, 32, 115, 116, 101, 97, 109, 115, 32, 99, 117, 115, 116, 111, 109, 115, 32, 99, 108, 105, 112, 112, 101, 114, 32, 104, 111, 109, 101, 32, 110, 111, 115, 101, 115, 32, 115, 116, 101, 101, 114, 115, 32, 105, 102, 32, 116, 104, 101, 110, 32, 101, 108, 115, 101, 32, 111, 114, 32, 97, 110, 100, 32, 110, 111, 116, 32, 108, 101, 97, 115, 116, 32, 109, 111, 115, 116, 32, 110, 111, 114, 116, 104, 32, 101, 97, 115, 116, 32, 115, 111, 117, 116, 104, 32, 119, 101, 115, 116, 32, 104, 101, 114, 101, 32, 98, 101, 115, 116, 32, 108, 101, 97, 102, 32, 104, 111, 117, 114, 32, 119, 105, 110, 100, 32, 102, 111, 114, 99, 101, 32] : List Int32).getD j 0 := fun j => by unfold tch; rw [xtb_is]; rfl
  have e2 : ∀ m j (p : wst), twW j m p = Nat.rec (motive := fun _ => Nat → wst → wst) (fun _ p => p) (fun _ f j p => f (j + 1) (twS (([98, 97, 121, 32, 107, 101, 116, 116, 108, 101, 32, 115, 116, 101, 97, 109, 115, 32, 99, 117, 115, 116, 111, 109, 115, 32, 99, 108, 105, 112, 112, 101, 114, 32, 104, 111, 109, 101, 32, 110, 111, 115, 101, 115, 32, 115, 116, 101, 101, 114, 115, 32, 105, 102, 32, 116, 104, 101, 110, 32, 101, 108, 115, 101, 32, 111, 114, 32, 97, 110, 100, 32, 110, 111, 116, 32, 108, 101, 97, 115, 116, 32, 109, 111, 115, 116, 32, 110, 111, 114, 116, 104, 32, 101, 97, 115, 116, 32, 115, 111, 117, 116, 104, 32, 119, 101, 115, 116, 32, 104, 101, 114, 101, 32, 98, 101, 115, 116, 32, 108, 101, 97, 102, 32, 104, 111, 117, 114, 32, 119, 105, 110, 100, 32, 102, 111, 114, 99, 101, 32] : List Int32).getD j 0) p)) m j p := by
    intro m
    induction m with
    | zero => intro j p; rfl
    | succ m ih => intro j p; show twW (j + 1) m (twS (tch 26 j) p) = _; rw [ih, e]
  rw [e2]
  decide +kernel
def sT (Y : xH) (fs : List Value) : xH := xset Y 0 (.inr (8, fs))
theorem sT_0 {fs : List Value} : (sT Y fs).1 0 = .inr (8, fs) := xset_s 0 rfl
theorem sT_o {fs : List Value} (m : Nat) (h : ¬ m = 0) : (sT Y fs).1 m = Y.1 m := xset_o m h
theorem sT_2 {fs : List Value} : (sT Y fs).2 = Y.2 := rfl
theorem tT1 (h0 : Y.1 0 = .inr (8, [.null, .null, .null, .null, .null, .null, .int 0])) (hn : Y.2.1 = 1) : xr E (d + 6) m_T_init Q (4, [some (.ref 0), none], [], Y) = xr E (d + 6) m_T_init Q (15, [some (.ref 0), none], [], (sT (iTa Y 1) [.ref 1, .null, .null, .null, .null, .null, .int 0])) := by
  have hz : (iTa Y 1).1 0 = .inr (8, [.null, .null, .null, .null, .null, .null, .int 0]) := (iTa_o 0 (by omega)).trans h0
  have ct := fun (Q : xR → Prop) => f_Ta_init (E := E) (Q := Q) (d := d + 5) (H := Y) (R := 1) hn
  simp (disch := omega) only [s_T_init_4, s_T_init_5, s_T_init_8, s_T_init_9, s_T_init_12, hn, ct, xnf_o, xf_of h0, xf_of hz, xll_8, xlg_8_0, xlg_8_1, xlg_8_2, xlg_8_3, xlg_8_4, xlg_8_5, xlg_8_6, xls_8_0, xls_8_1, xls_8_2, xls_8_3, xls_8_4, xls_8_5, xls_8_6, not_false_eq_true, Nat.reduceLT, Nat.reduceAdd, true_and, and_true, if_true, if_false, ite_true, ite_false, xnb_0, xnb_1, xnb_b, xk_v, xk_n, sT]
theorem tT2 (h0 : Y.1 0 = .inr (8, [.ref 1, .null, .null, .null, .null, .null, .int 0])) (hn : Y.2.1 = 3) : xr E (d + 6) m_T_init Q (15, [some (.ref 0), none], [], Y) = xr E (d + 6) m_T_init Q (30, [some (.ref 0), none], [], (sT (iBR Y 3 1) [.ref 1, .ref 3, .null, .null, .null, .null, .int 0])) := by
  have hz : (iBR Y 3 1).1 0 = .inr (8, [.ref 1, .null, .null, .null, .null, .null, .int 0]) := (iBR_o 0 (by omega)).trans h0
  have ct := fun (Q : xR → Prop) => f_BR_init (E := E) (Q := Q) (d := d) (H := Y) (R := 3) (t := 1) hn
  simp (disch := omega) only [s_T_init_15, s_T_init_16, s_T_init_19, s_T_init_20, s_T_init_21, s_T_init_24, s_T_init_27, hn, ct, xnf_o, xf_of h0, xf_of hz, xll_8, xlg_8_0, xlg_8_1, xlg_8_2, xlg_8_3, xlg_8_4, xlg_8_5, xlg_8_6, xls_8_0, xls_8_1, xls_8_2, xls_8_3, xls_8_4, xls_8_5, xls_8_6, not_false_eq_true, Nat.reduceLT, Nat.reduceAdd, true_and, and_true, if_true, if_false, ite_true, ite_false, xnb_0, xnb_1, xnb_b, xk_v, xk_n, sT]
theorem tT3 (h0 : Y.1 0 = .inr (8, [.ref 1, .ref 3, .null, .null, .null, .null, .int 0])) (hn : Y.2.1 = 10) : xr E (d + 6) m_T_init Q (30, [some (.ref 0), none], [], Y) = xr E (d + 6) m_T_init Q (41, [some (.ref 0), none], [], (sT (iBk Y 10) [.ref 1, .ref 3, .null, .null, .ref 10, .null, .int 0])) := by
  have hz : (iBk Y 10).1 0 = .inr (8, [.ref 1, .ref 3, .null, .null, .null, .null, .int 0]) := (iBk_o 0 (by omega)).trans h0
  have ct := fun (Q : xR → Prop) => f_Bk_init (E := E) (Q := Q) (d := d + 4) (H := Y) (R := 10) hn
  simp (disch := omega) only [s_T_init_30, s_T_init_31, s_T_init_34, s_T_init_35, s_T_init_38, hn, ct, xnf_o, xf_of h0, xf_of hz, xll_8, xlg_8_0, xlg_8_1, xlg_8_2, xlg_8_3, xlg_8_4, xlg_8_5, xlg_8_6, xls_8_0, xls_8_1, xls_8_2, xls_8_3, xls_8_4, xls_8_5, xls_8_6, not_false_eq_true, Nat.reduceLT, Nat.reduceAdd, true_and, and_true, if_true, if_false, ite_true, ite_false, xnb_0, xnb_1, xnb_b, xk_v, xk_n, sT]
theorem tT4 (h0 : Y.1 0 = .inr (8, [.ref 1, .ref 3, .null, .null, .ref 10, .null, .int 0])) (hn : Y.2.1 = 25) : xr E (d + 6) m_T_init Q (41, [some (.ref 0), none], [], Y) = xr E (d + 6) m_T_init Q (52, [some (.ref 0), none], [], (sT (iBk Y 25) [.ref 1, .ref 3, .null, .null, .ref 10, .ref 25, .int 0])) := by
  have hz : (iBk Y 25).1 0 = .inr (8, [.ref 1, .ref 3, .null, .null, .ref 10, .null, .int 0]) := (iBk_o 0 (by omega)).trans h0
  have ct := fun (Q : xR → Prop) => f_Bk_init (E := E) (Q := Q) (d := d + 4) (H := Y) (R := 25) hn
  simp (disch := omega) only [s_T_init_41, s_T_init_42, s_T_init_45, s_T_init_46, s_T_init_49, hn, ct, xnf_o, xf_of h0, xf_of hz, xll_8, xlg_8_0, xlg_8_1, xlg_8_2, xlg_8_3, xlg_8_4, xlg_8_5, xlg_8_6, xls_8_0, xls_8_1, xls_8_2, xls_8_3, xls_8_4, xls_8_5, xls_8_6, not_false_eq_true, Nat.reduceLT, Nat.reduceAdd, true_and, and_true, if_true, if_false, ite_true, ite_false, xnb_0, xnb_1, xnb_b, xk_v, xk_n, sT]
theorem tT5 (h0 : Y.1 0 = .inr (8, [.ref 1, .ref 3, .null, .null, .ref 10, .ref 25, .int 0])) (hn : Y.2.1 = 40) : xr E (d + 6) m_T_init Q (52, [some (.ref 0), none], [], Y) = xr E (d + 6) m_T_init Q (60, [some (.ref 0), some (.ref 40)], [], (iRT Y 40)) := by
  have hz : (iRT Y 40).1 0 = .inr (8, [.ref 1, .ref 3, .null, .null, .ref 10, .ref 25, .int 0]) := (iRT_o 0 (by omega)).trans h0
  have ct := fun (Q : xR → Prop) => f_RT_init (E := E) (Q := Q) (d := d + 5) (H := Y) (R := 40) hn
  simp (disch := omega) only [s_T_init_52, s_T_init_55, s_T_init_56, s_T_init_59, hn, ct, xnf_o, xf_of h0, xf_of hz, xll_8, xlg_8_0, xlg_8_1, xlg_8_2, xlg_8_3, xlg_8_4, xlg_8_5, xlg_8_6, xls_8_0, xls_8_1, xls_8_2, xls_8_3, xls_8_4, xls_8_5, xls_8_6, not_false_eq_true, Nat.reduceLT, Nat.reduceAdd, true_and, and_true, if_true, if_false, ite_true, ite_false, xnb_0, xnb_1, xnb_b, xk_v, xk_n, sT]
theorem tT6 (h0 : Y.1 0 = .inr (8, [.ref 1, .ref 3, .null, .null, .ref 10, .ref 25, .int 0])) (hn : Y.2.1 = 43) : xr E (d + 6) m_T_init Q (60, [some (.ref 0), some (.ref 40)], [], Y) = xr E (d + 6) m_T_init Q (76, [some (.ref 0), some (.ref 40)], [], (sT (iBy Y 43 10 40) [.ref 1, .ref 3, .ref 43, .null, .ref 10, .ref 25, .int 0])) := by
  have hz : (iBy Y 43 10 40).1 0 = .inr (8, [.ref 1, .ref 3, .null, .null, .ref 10, .ref 25, .int 0]) := (iBy_o 0 (by omega)).trans h0
  have ct := fun (Q : xR → Prop) => f_Bay_init (E := E) (Q := Q) (d := d + 5) (H := Y) (R := 43) hn 10 40
  simp (disch := omega) only [s_T_init_60, s_T_init_61, s_T_init_64, s_T_init_65, s_T_init_66, s_T_init_69, s_T_init_70, s_T_init_73, hn, ct, xnf_o, xf_of h0, xf_of hz, xll_8, xlg_8_0, xlg_8_1, xlg_8_2, xlg_8_3, xlg_8_4, xlg_8_5, xlg_8_6, xls_8_0, xls_8_1, xls_8_2, xls_8_3, xls_8_4, xls_8_5, xls_8_6, not_false_eq_true, Nat.reduceLT, Nat.reduceAdd, true_and, and_true, if_true, if_false, ite_true, ite_false, xnb_0, xnb_1, xnb_b, xk_v, xk_n, sT]
theorem tT7 (h0 : Y.1 0 = .inr (8, [.ref 1, .ref 3, .ref 43, .null, .ref 10, .ref 25, .int 0])) (hn : Y.2.1 = 53) : xr E (d + 6) m_T_init Q (76, [some (.ref 0), some (.ref 40)], [], Y) = xr E (d + 6) m_T_init Q (92, [some (.ref 0), some (.ref 40)], [], (sT (iBy Y 53 10 40) [.ref 1, .ref 3, .ref 43, .ref 53, .ref 10, .ref 25, .int 0])) := by
  have hz : (iBy Y 53 10 40).1 0 = .inr (8, [.ref 1, .ref 3, .ref 43, .null, .ref 10, .ref 25, .int 0]) := (iBy_o 0 (by omega)).trans h0
  have ct := fun (Q : xR → Prop) => f_Bay_init (E := E) (Q := Q) (d := d + 5) (H := Y) (R := 53) hn 10 40
  simp (disch := omega) only [s_T_init_76, s_T_init_77, s_T_init_80, s_T_init_81, s_T_init_82, s_T_init_85, s_T_init_86, s_T_init_89, hn, ct, xnf_o, xf_of h0, xf_of hz, xll_8, xlg_8_0, xlg_8_1, xlg_8_2, xlg_8_3, xlg_8_4, xlg_8_5, xlg_8_6, xls_8_0, xls_8_1, xls_8_2, xls_8_3, xls_8_4, xls_8_5, xls_8_6, not_false_eq_true, Nat.reduceLT, Nat.reduceAdd, true_and, and_true, if_true, if_false, ite_true, ite_false, xnb_0, xnb_1, xnb_b, xk_v, xk_n, sT]
theorem tT8 (h0 : Y.1 0 = .inr (8, [.ref 1, .ref 3, .ref 43, .ref 53, .ref 10, .ref 25, .int 0])) : xr E (d + 6) m_T_init Q (92, [some (.ref 0), some (.ref 40)], [], Y) = Q (.inl none, sT Y [.ref 1, .ref 3, .ref 43, .ref 53, .ref 10, .ref 25, .int (-1)]) := by
  simp (disch := omega) only [s_T_init_92, s_T_init_93, s_T_init_94, s_T_init_97, xf_of h0, xll_8, xlg_8_0, xlg_8_1, xlg_8_2, xlg_8_3, xlg_8_4, xlg_8_5, xlg_8_6, xls_8_0, xls_8_1, xls_8_2, xls_8_3, xls_8_4, xls_8_5, xls_8_6, not_false_eq_true, Nat.reduceLT, Nat.reduceAdd, true_and, and_true, if_true, if_false, ite_true, ite_false, xnb_0, xnb_1, xnb_b, xk_v, xk_n, sT]
theorem f_T_init (h0 : Y.1 0 = .inr (8, xdef 8)) (hn : Y.2.1 = 1) : ∃ X : xH, (∀ Q, xcall E xprog (d + 7) 67 [.ref 0] Y Q = Q (.inl none, X)) ∧ X.2 = (63, Y.2.2 + 5166) ∧ ivC X 10 25 0 (-1) (fun _ => 0) (fun _ _ => 0) (fun _ => 0) (six 6 6 0 0 0 0) (fun _ _ => 0) (tri 0 0 0) := by
  rw [xdef_8] at h0
  obtain ⟨Y1, Y1_e⟩ : ∃ Z, Z = sT (iTa Y 1) [.ref 1, .null, .null, .null, .null, .null, .int 0] := ⟨_, rfl⟩
  have q1 : Y1.2 = (3, Y.2.2 + 1602) := by rw [Y1_e, sT_2, iTa_2, hn]
  have z1 : Y1.1 0 = .inr (8, [.ref 1, .null, .null, .null, .null, .null, .int 0]) := by rw [Y1_e]; exact sT_0
  have o1 : ∀ m, ¬ m = 0 → m < 1 → Y1.1 m = Y.1 m := fun m h1 h2 => by rw [Y1_e]; exact (sT_o m h1).trans (iTa_o m (by rw [hn]; exact h2))
  have p1 : Y1.1 1 = .inr (6, [.ref 2, .int 0]) ∧ Y1.1 2 = xarB 1600 (fun _ => 0) := by rw [Y1_e]; exact ⟨(sT_o _ (by decide)).trans (iTa_p (R := 1) hn).1, (sT_o _ (by decide)).trans (iTa_p (R := 1) hn).2⟩
  obtain ⟨Y2, Y2_e⟩ : ∃ Z, Z = sT (iBR Y1 3 1) [.ref 1, .ref 3, .null, .null, .null, .null, .int 0] := ⟨_, rfl⟩
  have q2 : Y2.2 = (10, Y.2.2 + 2845) := by rw [Y2_e, sT_2, iBR_2, q1]
  have z2 : Y2.1 0 = .inr (8, [.ref 1, .ref 3, .null, .null, .null, .null, .int 0]) := by rw [Y2_e]; exact sT_0
  have o2 : ∀ m, ¬ m = 0 → m < 3 → Y2.1 m = Y1.1 m := fun m h1 h2 => by rw [Y2_e]; exact (sT_o m h1).trans (iBR_o m (by rw [q1]; exact h2))
  have p2 : Y2.1 3 = .inr (2, [.ref 4, .ref 9, .int 0, .int 0, .int 0, .int 0]) ∧ Y2.1 4 = .inr (7, [.ref 1, .ref 5, .ref 6, .ref 7, .ref 8, .int 0, .int 0]) ∧ Y2.1 5 = xarJ 26 wd0 ∧ Y2.1 6 = xarI 401 (fun _ => 0) ∧ Y2.1 7 = xarI 401 (fun _ => 0) ∧ Y2.1 8 = xarJ 401 (fun _ => 0) ∧ Y2.1 9 = .inr (3, [.ref 4]) := by
    obtain ⟨b1, b2, b3, b4, b5, b6, b7⟩ := iBR_p (Y := Y1) (R := 3) (t := 1) (congrArg Prod.fst q1)
    rw [Y2_e]
    exact ⟨(sT_o _ (by decide)).trans b1, (sT_o _ (by decide)).trans b2, (sT_o _ (by decide)).trans b3, (sT_o _ (by decide)).trans b4, (sT_o _ (by decide)).trans b5, (sT_o _ (by decide)).trans b6, (sT_o _ (by decide)).trans b7⟩
  obtain ⟨Y3, Y3_e⟩ : ∃ Z, Z = sT (iBk Y2 10) [.ref 1, .ref 3, .null, .null, .ref 10, .null, .int 0] := ⟨_, rfl⟩
  have q3 : Y3.2 = (25, Y.2.2 + 3731) := by rw [Y3_e, sT_2, iBk_2, q2]
  have z3 : Y3.1 0 = .inr (8, [.ref 1, .ref 3, .null, .null, .ref 10, .null, .int 0]) := by rw [Y3_e]; exact sT_0
  have o3 : ∀ m, ¬ m = 0 → m < 10 → Y3.1 m = Y2.1 m := fun m h1 h2 => by rw [Y3_e]; exact (sT_o m h1).trans (iBk_o m (by rw [q2]; exact h2))
  have p3 : kB Y3 10 (fun _ _ => 0) (fun _ => 0) (six 6 6 0 0 0 0) := by rw [Y3_e]; exact kB_eq (iBk_p (congrArg Prod.fst q2)) (fun m h1 _ => sT_o m (by omega))
  obtain ⟨Y4, Y4_e⟩ : ∃ Z, Z = sT (iBk Y3 25) [.ref 1, .ref 3, .null, .null, .ref 10, .ref 25, .int 0] := ⟨_, rfl⟩
  have q4 : Y4.2 = (40, Y.2.2 + 4617) := by rw [Y4_e, sT_2, iBk_2, q3]
  have z4 : Y4.1 0 = .inr (8, [.ref 1, .ref 3, .null, .null, .ref 10, .ref 25, .int 0]) := by rw [Y4_e]; exact sT_0
  have o4 : ∀ m, ¬ m = 0 → m < 25 → Y4.1 m = Y3.1 m := fun m h1 h2 => by rw [Y4_e]; exact (sT_o m h1).trans (iBk_o m (by rw [q3]; exact h2))
  have p4 : kB Y4 25 (fun _ _ => 0) (fun _ => 0) (six 6 6 0 0 0 0) := by rw [Y4_e]; exact kB_eq (iBk_p (congrArg Prod.fst q3)) (fun m h1 _ => sT_o m (by omega))
  obtain ⟨Y5, Y5_e⟩ : ∃ Z, Z = iRT Y4 40 := ⟨_, rfl⟩
  have q5 : Y5.2 = (43, Y.2.2 + 5030) := by rw [Y5_e, iRT_2, q4]
  have z5 : Y5.1 0 = .inr (8, [.ref 1, .ref 3, .null, .null, .ref 10, .ref 25, .int 0]) := by rw [Y5_e]; exact (iRT_o 0 (by rw [q4]; show 0 < 40; decide)).trans z4
  have o5 : ∀ m, ¬ m = 0 → m < 40 → Y5.1 m = Y4.1 m := fun m h1 h2 => by rw [Y5_e]; exact iRT_o m (by rw [q4]; exact h2)
  have p5 : kT Y5 (fun _ => 0) (fun _ => 0) 0 := by rw [Y5_e]; exact iRT_p (congrArg Prod.fst q4)
  obtain ⟨Y6, Y6_e⟩ : ∃ Z, Z = sT (iBy Y5 43 10 40) [.ref 1, .ref 3, .ref 43, .null, .ref 10, .ref 25, .int 0] := ⟨_, rfl⟩
  have q6 : Y6.2 = (53, Y.2.2 + 5098) := by rw [Y6_e, sT_2, iBy_2, q5]
  have z6 : Y6.1 0 = .inr (8, [.ref 1, .ref 3, .ref 43, .null, .ref 10, .ref 25, .int 0]) := by rw [Y6_e]; exact sT_0
  have o6 : ∀ m, ¬ m = 0 → m < 43 → Y6.1 m = Y5.1 m := fun m h1 h2 => by rw [Y6_e]; exact (sT_o m h1).trans (iBy_o m (by rw [q5]; exact h2))
  have p6 : kY Y6 43 10 (fun _ _ => 0) (tri 0 0 0) := by rw [Y6_e]; exact kY_eq (iBy_p (congrArg Prod.fst q5)) (fun m h1 _ => sT_o m (by omega))
  obtain ⟨Y7, Y7_e⟩ : ∃ Z, Z = sT (iBy Y6 53 10 40) [.ref 1, .ref 3, .ref 43, .ref 53, .ref 10, .ref 25, .int 0] := ⟨_, rfl⟩
  have q7 : Y7.2 = (63, Y.2.2 + 5166) := by rw [Y7_e, sT_2, iBy_2, q6]
  have z7 : Y7.1 0 = .inr (8, [.ref 1, .ref 3, .ref 43, .ref 53, .ref 10, .ref 25, .int 0]) := by rw [Y7_e]; exact sT_0
  have o7 : ∀ m, ¬ m = 0 → m < 53 → Y7.1 m = Y6.1 m := fun m h1 h2 => by rw [Y7_e]; exact (sT_o m h1).trans (iBy_o m (by rw [q6]; exact h2))
  have p7 : kY Y7 53 10 (fun _ _ => 0) (tri 0 0 0) := by rw [Y7_e]; exact kY_eq (iBy_p (congrArg Prod.fst q6)) (fun m h1 _ => sT_o m (by omega))
  have a7 : ∀ m, ¬ m = 0 → (sT Y7 [.ref 1, .ref 3, .ref 43, .ref 53, .ref 10, .ref 25, .int (-1)]).1 m = Y7.1 m := fun m h => sT_o m h
  have a6 : ∀ m, ¬ m = 0 → m < 53 → (sT Y7 [.ref 1, .ref 3, .ref 43, .ref 53, .ref 10, .ref 25, .int (-1)]).1 m = Y6.1 m := fun m h1 h2 => (a7 m h1).trans (o7 m h1 h2)
  have a5 : ∀ m, ¬ m = 0 → m < 43 → (sT Y7 [.ref 1, .ref 3, .ref 43, .ref 53, .ref 10, .ref 25, .int (-1)]).1 m = Y5.1 m := fun m h1 h2 => (a6 m h1 (by omega)).trans (o6 m h1 h2)
  have a4 : ∀ m, ¬ m = 0 → m < 40 → (sT Y7 [.ref 1, .ref 3, .ref 43, .ref 53, .ref 10, .ref 25, .int (-1)]).1 m = Y4.1 m := fun m h1 h2 => (a5 m h1 (by omega)).trans (o5 m h1 h2)
  have a3 : ∀ m, ¬ m = 0 → m < 25 → (sT Y7 [.ref 1, .ref 3, .ref 43, .ref 53, .ref 10, .ref 25, .int (-1)]).1 m = Y3.1 m := fun m h1 h2 => (a4 m h1 (by omega)).trans (o4 m h1 h2)
  have a2 : ∀ m, ¬ m = 0 → m < 10 → (sT Y7 [.ref 1, .ref 3, .ref 43, .ref 53, .ref 10, .ref 25, .int (-1)]).1 m = Y2.1 m := fun m h1 h2 => (a3 m h1 (by omega)).trans (o3 m h1 h2)
  have a1 : ∀ m, ¬ m = 0 → m < 3 → (sT Y7 [.ref 1, .ref 3, .ref 43, .ref 53, .ref 10, .ref 25, .int (-1)]).1 m = Y1.1 m := fun m h1 h2 => (a2 m h1 (by omega)).trans (o2 m h1 h2)
  refine ⟨sT Y7 [.ref 1, .ref 3, .ref 43, .ref 53, .ref 10, .ref 25, .int (-1)], fun Q => ?_, ?_, ?_⟩
  · rw [e_T_init]
    have go : xr E (d + 6) m_T_init Q (0, [some (.ref 0), none], [], Y) = xr E (d + 6) m_T_init Q (4, [some (.ref 0), none], [], Y) := by
      simp only [s_T_init_0, s_T_init_1]
    rw [go, tT1 h0 hn, ← Y1_e, tT2 z1 (congrArg Prod.fst q1), ← Y2_e, tT3 z2 (congrArg Prod.fst q2), ← Y3_e, tT4 z3 (congrArg Prod.fst q3), ← Y4_e, tT5 z4 (congrArg Prod.fst q4), ← Y5_e, tT6 z5 (congrArg Prod.fst q5), ← Y6_e, tT7 z6 (congrArg Prod.fst q6), ← Y7_e, tT8 z7]
  · rw [sT_2, q7]
  · refine ⟨sT_0, Or.inl ⟨rfl, rfl⟩, ⟨0, 0, 0, 0, 0, 0, fun _ => 0, fun _ => 0, fun _ => 0, wd0, ⟨(a1 1 (by decide) (by decide)).trans p1.1, (a1 2 (by decide) (by decide)).trans p1.2, (a2 3 (by decide) (by decide)).trans p2.1, (a2 4 (by decide) (by decide)).trans p2.2.1, (a2 5 (by decide) (by decide)).trans p2.2.2.1, (a2 6 (by decide) (by decide)).trans p2.2.2.2.1, (a2 7 (by decide) (by decide)).trans p2.2.2.2.2.1, (a2 8 (by decide) (by decide)).trans p2.2.2.2.2.2.1, (a2 9 (by decide) (by decide)).trans p2.2.2.2.2.2.2⟩, wd0_W⟩, kB_eq p3 (fun m h1 h2 => a3 m (by omega) (by omega)), ⟨_, _, _, kB_eq p4 (fun m h1 h2 => a4 m (by omega) (by omega))⟩, kY_eq p6 (fun m h1 h2 => a6 m (by omega) (by omega)), ⟨_, _, _, kT_eq p5 (fun m h1 h2 => a5 m (by omega) (by omega))⟩, ⟨_, _, _, kY_eq p7 (fun m h1 h2 => a7 m (by omega))⟩⟩
end TMADE
