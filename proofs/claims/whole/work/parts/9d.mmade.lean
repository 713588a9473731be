/-! ===== the model is made; how all begins ===== -/
section MMADE
variable {E : xE} {d S R : Nat} {Q : xR → Prop} {H X Y : xH}
def iM (R : Nat) : List (xC × Nat) := [(.inr (11, [.int 0, .ref (R + 1), .int 0, .int (-1), .ref (R + 2), .ref (R + 11), .ref (R + 12), .ref (R + 13), .ref (R + 14)]), 9), (xarB 1600 (fun _ => 0), 1600), (.inr (9, mbO (R + 3)), 14), (xarI 7 (fun _ => 0), 7), (xarI 7 (fun _ => 0), 7), (xarI 7 (fun _ => 0), 7), (xarI 7 (fun _ => 0), 7), (xarI 7 (fun _ => 0), 7), (xarI 7 (fun _ => 0), 7), (xarI 8 (fun _ => 0), 8), (xarI 800 (fun _ => 0), 800), (xarI 51 (fun _ => 0), 51), (xarI 51 (fun _ => 0), 51), (xarI 6 (fun _ => 0), 6), (xarI 401 (fun _ => 0), 401)]
theorem f_M_pre (hR : H.2.1 = R) : xr E (d + 2) m_M_init Q (0, [some (.ref R)], [], xnew H (.inr (11, xdef 11)) 9) = xr E (d + 2) m_M_init Q (62, [some (.ref R)], [], al (iM R) H) := by
  subst hR
  have z := fun (Q : xR → Prop) (c : xC) => f_MB_init (E := E) (d := d + 1) (Q := Q) (H := xnew (xnew H c 9) (xarB 1600 (fun _ => 0)) 1600) (R := H.2.1 + 2) rfl
  simp (disch := (first | omega | (simp only [xnew_n, xset_2]; done) | (simp only [xnew_n, xset_2]; omega))) only [s_M_init_0, s_M_init_1, s_M_init_4, s_M_init_5, s_M_init_8, s_M_init_10, s_M_init_13, s_M_init_14, s_M_init_15, s_M_init_18, s_M_init_19, s_M_init_22, s_M_init_23, s_M_init_26, s_M_init_29, s_M_init_30, s_M_init_32, s_M_init_34, s_M_init_37, s_M_init_38, s_M_init_40, s_M_init_42, s_M_init_45, s_M_init_46, s_M_init_48, s_M_init_50, s_M_init_53, s_M_init_54, s_M_init_57, s_M_init_59, xdef_11, z, mb8, mbO, xnw_s, xnw_o, xnf_s, xnf_o, xnc_s, xnc_o, xnew_n, xset_2, not_false_eq_true, Nat.reduceLT, Nat.reduceAdd, true_and, and_true, if_true, if_false, ite_true, ite_false, xnb_0, xnb_1, xnb_b, xk_v, xk_n, Nat.add_assoc, xll_11, xlg_11_0, xlg_11_1, xlg_11_2, xlg_11_3, xlg_11_4, xlg_11_5, xlg_11_6, xlg_11_7, xlg_11_8, xls_11_0, xls_11_1, xls_11_2, xls_11_3, xls_11_4, xls_11_5, xls_11_6, xls_11_7, xls_11_8, show (¬ (1600 : Int32) < 0 ∧ 1600 * 1 ≤ 536870912) = True from eq_true (by decide), show (1600 : Int32).toNatClampNeg = 1600 from by decide, show (¬ (51 : Int32) < 0 ∧ 51 * 4 ≤ 536870912) = True from eq_true (by decide), show (51 : Int32).toNatClampNeg = 51 from by decide, show (¬ (6 : Int32) < 0 ∧ 6 * 4 ≤ 536870912) = True from eq_true (by decide), show (6 : Int32).toNatClampNeg = 6 from by decide, show (¬ (401 : Int32) < 0 ∧ 401 * 4 ≤ 536870912) = True from eq_true (by decide), show (401 : Int32).toNatClampNeg = 401 from by decide, iM, al]
theorem iM_2 : (al (iM R) H).2 = (H.2.1 + 15, H.2.2 + 2982) := by
  refine Prod.ext ?_ ?_ <;> simp only [iM, al, xnew_n, xnew_k, Nat.add_assoc, Nat.reduceAdd]
theorem mH_self {K : Nat} {th sz ea : Int32} {tp nw kp wc sk : Nat → Int32} (h0 : X.1 63 = .inr (11, [.int th, .ref 64, .int sz, .int ea, .ref K, .ref 74, .ref 75, .ref 76, .ref 77])) (h1 : X.1 64 = xarB 1600 tp) (h2 : X.1 74 = xarI 51 nw) (h3 : X.1 75 = xarI 51 kp) (h4 : X.1 76 = xarI 6 wc) (h5 : X.1 77 = xarI 401 sk) : X = mH X K th sz ea tp nw kp wc sk := by
  refine Prod.ext (funext fun n => ?_) rfl
  by_cases p2 : n < 63 ∨ (64 < n ∧ n < 74) ∨ 77 < n
  · rw [mH_o n p2]
  · rcases (show n = 63 ∨ n = 64 ∨ n = 74 ∨ n = 75 ∨ n = 76 ∨ n = 77 by omega) with r | r | r | r | r | r <;> subst r
    · exact h0
    · exact h1
    · exact h2
    · exact h3
    · exact h4
    · exact h5
def gz : Nat → Nat → Int32 := fun _ _ => 0
def fz : Nat → Int32 := fun _ => 0
theorem nw_z {b : Nat → Nat → Int32} {t : Nat → Int32} : nwO 0 (bg2 (bg1 gz 0 6) b 0 6) t = nwO 0 gz t := by
  have e : ∀ r, (r = 0 ∨ r = 2) → ∀ k, k < 6 → bg2 (bg1 gz 0 6) b 0 6 r k = 0 := by
    intro r hr k hk
    rcases hr with z | z <;> subst z
    · show fil (fun _ => 0) 0 6 (gz 0) k = 0
      rw [fil_g, if_pos ⟨Nat.zero_le _, by omega⟩]
    · show fil (fun _ => 0) 0 6 (gz 2) k = 0
      rw [fil_g, if_pos ⟨Nat.zero_le _, by omega⟩]
  funext i
  unfold nwO
  by_cases p : i < 15
  · by_cases p2 : i < 3
    · rcases (show i = 0 ∨ i = 1 ∨ i = 2 by omega) with z | z | z <;> subst z <;> rfl
    · rw [if_neg (by omega), if_neg (by omega), if_neg (by omega), if_pos p, if_neg (by omega), if_neg (by omega), if_neg (by omega), if_pos p, e _ (by omega) _ (by omega)]
      rfl
  · rw [if_neg (by omega), if_neg (by omega), if_neg (by omega), if_neg p, if_neg (by omega), if_neg (by omega), if_neg (by omega), if_neg (by omega), if_neg p, if_neg (by omega)]
theorem kTwo_z : kTwo gz (six 6 6 0 0 0 0) gz (six 6 6 0 0 0 0) 6 6 0 0 0 0 (fun _ => 0) (fun _ => 0) := by
  refine ⟨⟨rfl, rfl, rfl, by decide, 6, 6, by decide, by decide, by decide, by decide, rfl, rfl, fun k hk => absurd hk (Nat.not_lt_zero k)⟩, ⟨rfl, by decide, fun k hk => absurd hk (Nat.not_lt_zero k)⟩, ⟨rfl, by decide, rfl, by decide, rfl, by decide, rfl, by decide, fun k hk => absurd hk (Nat.not_lt_zero k)⟩, ⟨rfl, rfl, by decide, by decide, by decide, by decide⟩, rfl, fun k hk => absurd hk (Nat.not_lt_zero k), fun k hk => absurd hk (Nat.not_lt_zero k), fun k hk => absurd hk (Nat.not_lt_zero k), fun k hk => absurd hk (Nat.not_lt_zero k), fun k hk => absurd hk (Nat.not_lt_zero k)⟩
theorem kSt_z : kSt gz (tri 0 0 0) 6 6 0 0 0 := ⟨fun k hk => absurd hk (Nat.not_lt_zero k), fun k hk => absurd hk (Nat.not_lt_zero k), 0, 0, by decide, by decide, rfl, rfl⟩
theorem byt_z : byt (fun _ => 0) fz := fun i => ⟨by show 0 < 256; decide, by show (0 : Int32) = sb 0; decide⟩
/-- the model's constructor, and the row for what is told: all stands -/
theorem f_M_init (hC : ivC X 10 25 0 (-1) fz gz (fun _ => 0) (six 6 6 0 0 0 0) gz (tri 0 0 0)) (hn : X.2.1 = 63) : ∃ X2 : xH, (∀ Q, xcall E xprog (d + 3) 148 [.ref 63] (xnew X (.inr (11, xdef 11)) 9) Q = Q (.inl none, X2)) ∧ X2.2 = (78, X.2.2 + 2982) ∧ IV 0 (xnew X2 (xarJ 1 (fun _ => 0)) 1) := by
  have l : ∀ j, j < 15 → (al (iM 63) X).1 (63 + j) = ((iM 63).getD j (xnil, 0)).1 := fun j hj => by
    have := al_g (iM 63) X j hj
    rw [hn] at this
    exact this
  have c63 : (al (iM 63) X).1 63 = .inr (11, [.int 0, .ref 64, .int 0, .int (-1), .ref 65, .ref 74, .ref 75, .ref 76, .ref 77]) := l 0 (by decide)
  have hM : kM (al (iM 63) X) 65 gz (six 6 6 0 0 0 0) := ⟨l 2 (by decide), l 3 (by decide), l 4 (by decide), l 5 (by decide), l 6 (by decide), l 7 (by decide), l 8 (by decide), l 9 (by decide), l 10 (by decide)⟩
  have e : al (iM 63) X = mH (al (iM 63) X) 65 0 0 (-1) fz fz fz fz fz := mH_self c63 (l 1 (by decide)) (l 11 (by decide)) (l 12 (by decide)) (l 13 (by decide)) (l 14 (by decide))
  have bg := fun (Q : xR → Prop) => f_M_begin (E := E) (d := d) (Q := Q) (a := gz) (th := 0) (sz := 0) (ea := -1) (tp := fz) (nw := fz) (kp := fz) (wc := fz) (sk := fz) hM (Or.inl rfl) kTwo_z.2.1 (fun _ _ => rfl)
  rw [← e, nw_z] at bg
  have hn2 : (mH (al (iM 63) X) 65 0 0 (-1) fz (nwO 0 gz (tri 0 0 0)) fz fz fz).2 = (78, X.2.2 + 2982) := by rw [mH_2, iM_2, hn]
  refine ⟨mH (al (iM 63) X) 65 0 0 (-1) fz (nwO 0 gz (tri 0 0 0)) fz fz fz, fun Q => ?_, hn2, 10, 25, 65, 0, -1, 0, fun _ => 0, fz, gz, fun _ => 0, six 6 6 0 0 0 0, gz, tri 0 0 0, gz, six 6 6 0 0 0 0, 6, 6, 0, 0, 0, 0, fun _ => 0, fun _ => 0, ?_, ?_, byt_z, by decide, kTwo_z, kSt_z⟩
  · rw [e_M_init, f_M_pre hn]
    simp only [s_M_init_62, s_M_init_63, s_M_init_66, xc_of c63, not_false_eq_true, Nat.reduceLT, Nat.reduceAdd, true_and, and_true, if_true, if_false, ite_true, ite_false, xnb_0, xnb_1, xnb_b, xk_v, xk_n, bg]
  · exact ivC_eq hC (fun n hl => by rw [xnew_g, if_neg (by rw [hn2]; show ¬ n = 78; omega), mH_o n (by omega), al_o _ _ _ (by rw [hn]; omega)])
  · have o : ∀ n, n < 78 → (xnew (mH (al (iM 63) X) 65 0 0 (-1) fz (nwO 0 gz (tri 0 0 0)) fz fz fz) (xarJ 1 (fun _ => 0)) 1).1 n = (mH (al (iM 63) X) 65 0 0 (-1) fz (nwO 0 gz (tri 0 0 0)) fz fz fz).1 n := fun n hl => by rw [xnew_g, if_neg (by rw [hn2]; show ¬ n = 78; omega)]
    refine ⟨⟨fz, fz, fz, mH_of mH_mH.symm (fun n h1 h2 => o n (by omega))⟩, kM_eq (mH_kM hM (Or.inl rfl)) (fun n h1 h2 => o n (by omega)), Or.inl rfl, ?_, ?_, fun _ => 0, ?_⟩
    · rw [xnew_n, hn2]; show 65 + 8 < 78 + 1; decide
    · rw [xnew_n, hn2]; show 78 < 78 + 1; decide
    · rw [xnew_g, if_pos (by rw [hn2])]
end MMADE
