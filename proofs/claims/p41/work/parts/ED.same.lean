/-! ===== the law's reckoning: whether the class is as it is ===== -/
section SAME
variable {E : xE} {d D : Nat} {Q : xR → Prop} {H H' X Z : xH} {ad ro : Nat → Nat} {b a a' a2 : Nat → Nat → Int32} {s t t' t2 ms sk : Nat → Int32} {nk nc nn lo hi co rw' n cnt Kb Ks c i j : Nat} {ru : Nat → Option Nat} {nm : Nat → Int64} {rs re : Nat → Nat} {ep h : Int32} {x y v z w : Int32} {j3 j4 j5 j6 j7 : Option Value}
theorem c_T_columnOf_i (hc : X.1 0 = tgC Kb Ks ep) (hB : kB X Kb b nm s) (hY : kY X 43 Kb a t) (hs : s 4 = nI nn) (h6 : nn ≤ 6) (hi : i < nn) : xcall E xprog (d + 2) 83 [.ref 0, .int (nI i)] X Q = Q (.inl (some (.int (a 3 i))), X) := by
  rw [c_T_columnOf hc hB hY hs h6, if_neg (fun q => q.elim (fun z => by rw [nI_n0 i (by omega)] at z; exact z) (fun z => z (by rw [nlt hi (by omega)]; trivial))), ncl (show i < 2147483648 by omega)]
theorem c_T_rowOf_i (hc : X.1 0 = tgC Kb Ks ep) (hB : kB X Kb b nm s) (hY : kY X 43 Kb a t) (hs : s 4 = nI nn) (h6 : nn ≤ 6) (hi : i < nn) : xcall E xprog (d + 2) 84 [.ref 0, .int (nI i)] X Q = Q (.inl (some (.int (a 4 i))), X) := by
  rw [c_T_rowOf hc hB hY hs h6, if_neg (fun q => q.elim (fun z => by rw [nI_n0 i (by omega)] at z; exact z) (fun z => z (by rw [nlt hi (by omega)]; trivial))), ncl (show i < 2147483648 by omega)]
theorem c_T_leafOf_i (hc : X.1 0 = tgC Kb Ks ep) (hB : kB X Kb b nm s) (hY : kY X 43 Kb a t) (hs : s 4 = nI nn) (h6 : nn ≤ 6) (hi : i < nn) : xcall E xprog (d + 2) 86 [.ref 0, .int (nI i)] X Q = Q (.inl (some (.int (a 5 i))), X) := by
  rw [c_T_leafOf hc hB hY hs h6, if_neg (fun q => q.elim (fun z => by rw [nI_n0 i (by omega)] at z; exact z) (fun z => z (by rw [nlt hi (by omega)]; trivial))), ncl (show i < 2147483648 by omega)]
theorem c_T_wayOf_i (hc : X.1 0 = tgC Kb Ks ep) (hB : kB X Kb b nm s) (hY : kY X 43 Kb a t) (hs : s 4 = nI nn) (h6 : nn ≤ 6) (hi : i < nn) : xcall E xprog (d + 2) 87 [.ref 0, .int (nI i)] X Q = Q (.inl (some (.int (a 6 i))), X) := by
  rw [c_T_wayOf hc hB hY hs h6, if_neg (fun q => q.elim (fun z => by rw [nI_n0 i (by omega)] at z; exact z) (fun z => z (by rw [nlt hi (by omega)]; trivial))), ncl (show i < 2147483648 by omega)]
theorem c_T_pointsOf_i (hc : X.1 0 = tgC Kb Ks ep) (hB : kB X Kb b nm s) (hY : kY X 43 Kb a t) (hs : s 4 = nI nn) (h6 : nn ≤ 6) (hi : i < nn) : xcall E xprog (d + 2) 89 [.ref 0, .int (nI i)] X Q = Q (.inl (some (.int (a 7 i))), X) := by
  rw [c_T_pointsOf hc hB hY hs h6, if_neg (fun q => q.elim (fun z => by rw [nI_n0 i (by omega)] at z; exact z) (fun z => z (by rw [nlt hi (by omega)]; trivial))), ncl (show i < 2147483648 by omega)]
theorem c_T_sipsOf_i (hc : X.1 0 = tgC Kb Ks ep) (hB : kB X Kb b nm s) (hY : kY X 43 Kb a t) (hs : s 4 = nI nn) (h6 : nn ≤ 6) (hi : i < nn) : xcall E xprog (d + 2) 90 [.ref 0, .int (nI i)] X Q = Q (.inl (some (.int (a 8 i))), X) := by
  rw [c_T_sipsOf hc hB hY hs h6, if_neg (fun q => q.elim (fun z => by rw [nI_n0 i (by omega)] at z; exact z) (fun z => z (by rw [nlt hi (by omega)]; trivial))), ncl (show i < 2147483648 by omega)]
/-- what stands alike for good -/
def jS (E : xE) (ad ro : Nat → Nat) (nk nc nn lo hi : Nat) (b : Nat → Nat → Int32) (s : Nat → Int32) (cnt : Nat) (rs re : Nat → Nat) (co rw' : Nat) : Prop :=
  jOK ad ro nk nc nn lo hi ∧ 63 ≤ lo ∧ (∀ n, n < lo → ro n = 0) ∧ kBo b s co rw' nk nn ∧ kW b s nk nc nn cnt rs re ∧ kRl E b nn rs re ∧ 1 ≤ nn ∧
  (∀ i j, i < j → j < nk → ¬ (b 2 i = b 2 j ∧ b 3 i = b 3 j)) ∧ ∀ i j, i < nk → j < nc → ¬ (b 2 i = b 5 j ∧ b 3 i = b 6 j)
/-- what stands from call to call -/
def jI (E : xE) (ro : Nat → Nat) (ru : Nat → Option Nat) (nk nn lo hi Kb Ks : Nat) (ep : Int32) (b : Nat → Nat → Int32) (nm : Nat → Int64) (s : Nat → Int32) (co rw' n : Nat) (H : xH) (a : Nat → Nat → Int32) (t : Nat → Int32) : Prop :=
  cls H Kb Ks ep b nm s a t ∧ jL E ro ru nn lo hi H ∧ hi ≤ H.2.1 ∧ kSt a t co rw' nk nn n
theorem jS_z (hS : jS E ad ro nk nc nn lo hi b s cnt rs re co rw') : ∀ n, n < 63 → ro n = 0 := fun n hn => hS.2.2.1 n (by have := hS.2.1; omega)
theorem jI_up (hS : jS E ad ro nk nc nn lo hi b s cnt rs re co rw') (hI : jI E ro ru nk nn lo hi Kb Ks ep b nm s co rw' n H a t) (h1 : ∀ n, n < H.2.1 → X.1 n = H.1 n) (h2 : H.2.1 ≤ X.2.1) : jI E ro ru nk nn lo hi Kb Ks ep b nm s co rw' n X a t := by
  obtain ⟨i1, i2, i3, i4⟩ := hI
  have h63 : 63 ≤ H.2.1 := by
    have := hS.2.1
    have o := (hS.1.2.2.2.2 (ad 1) (by rw [hS.1.2.2.2.1 1 (Or.inl ⟨by omega, by omega⟩)]; omega)).2.2
    omega
  exact ⟨cls_eq i1 fun n hn => h1 n (by omega), jL_fr i2 fun n _ hn => h1 n (by omega), by omega, i4⟩
theorem jI_op (hI : jI E ro ru nk nn lo hi Kb Ks ep b nm s co rw' n H a t) (hl : 63 ≤ lo) (hc : cls X Kb Ks ep b nm s a' t') (h2 : X.2 = H.2) (h3 : ∀ n, 63 ≤ n → X.1 n = H.1 n) (hK : kSt a' t' co rw' nk nn c) : jI E ro ru nk nn lo hi Kb Ks ep b nm s co rw' c X a' t' :=
  ⟨hc, jL_fr hI.2.1 fun n h4 _ => h3 n (by omega), by rw [h2]; exact hI.2.2.1, hK⟩
theorem xis_I {Z : xH} {p m : Nat} {f : Nat → Int32} (h : Z.1 p = xarI m f) : xisI Z p = True := eq_true (xisI_of h)
theorem kAt_own {kc kr : Nat → Int32} {k : Nat} (hd : ∀ i j, i < j → j < nk → ¬ (kc i = kc j ∧ kr i = kr j)) (hk : k < nk) : ∀ m i, i ≤ k → k < i + m → kAt kc kr (kc k) (kr k) i m = nI k
  | 0, i, h1, h2 => by omega
  | m + 1, i, h1, h2 => by
    unfold kAt
    by_cases e : i = k
    · subst e; rw [if_pos ⟨rfl, rfl⟩]
    · rw [if_neg (hd i k (by omega) hk)]
      exact kAt_own hd hk m (i + 1) (by omega) (by omega)
theorem ste_own {k : Nat} (hd : ∀ i j, i < j → j < nk → ¬ (b 2 i = b 2 j ∧ b 3 i = b 3 j)) (h6 : nk ≤ 6) (hk : k < nk) : steV a b nk (b 2 k) (b 3 k) = if a 0 k = 0 then 1 else 0 := by
  unfold steV
  rw [kAt_own hd hk nk 0 (by omega) (by omega), if_neg (of_eq_false (nI_m1 (show k < 2147483648 by omega))), ncl (show k < 2147483648 by omega)]
theorem cel_k {k : Nat} (hB : kBo b s co rw' nk nn) (hk : k < nk) : ¬ celC s (b 2 k) (b 3 k) = 0 := by
  obtain ⟨s0, s1, hco, hro, -, hb, -⟩ := hB
  obtain ⟨x, y, z, h1, h2, h3, h4, h5, h6⟩ := hb k hk
  unfold celC xb
  rw [h4, h5, s0, s1, if_pos ⟨of_eq_false (nI_n0 x (by omega)), of_eq_true (nlt h1 (by omega)), of_eq_false (nI_n0 y (by omega)), of_eq_true (nlt h2 (by omega))⟩]
  decide
theorem is_top (hS : jS E ad ro nk nc nn lo hi b s cnt rs re co rw') (hc : cls H Kb Ks ep b nm s a t) : xr E (d + 5) m_S_isSame Q (0, [some (.ref (ad 1)), some (.ref 0), none, none, none, none, none, none], [], (jH ad ro b s nk nc nn ru H a t)) = xr E (d + 5) m_S_isSame Q (83, [some (.ref (ad 1)), some (.ref 0), some (.int (nI 0)), none, none, none, none, none], [], (jH ad ro b s nk nc nn ru H a t)) := by
  have hz := jS_z hS
  obtain ⟨hj, hlo, -, hB, hW, hR, hn1, -⟩ := hS
  obtain ⟨w1, w2, w3, w4, w5, w6, -⟩ := hW
  obtain ⟨z1, z2, z3, z4, ms, sk, hh, z5⟩ := cls_J (ad := ad) (nk := nk) (nc := nc) (nn := nn) (ru := ru) (a2 := a) (t2 := t) (b2 := b) (s2 := s) hc hz
  have r1 := j_1 (b := b) (s := s) (ru := ru) (H := H) (a := a) (t := t) hj
  have r2 := j_2 (b := b) (s := s) (ru := ru) (H := H) (a := a) (t := t) hj
  have r4 := j_4 (b := b) (s := s) (ru := ru) (H := H) (a := a) (t := t) hj
  generalize hZ : (jH ad ro b s nk nc nn ru H a t) = Z at z1 z3 z4 z5 r1 r2 r4 ⊢
  have q1 := fun (Q : xR → Prop) => c_T_columns (E := E) (d := d + 4) (Q := Q) z1 z3
  have q2 := fun (Q : xR → Prop) => c_T_rows (E := E) (d := d + 4) (Q := Q) z1 z3
  have q3 := fun (Q : xR → Prop) => c_T_kettles (E := E) (d := d + 4) (Q := Q) z1 z3
  have q4 := fun (Q : xR → Prop) => c_T_clippers (E := E) (d := d + 4) (Q := Q) z1 z3
  have q5 := fun (Q : xR → Prop) => c_T_hour (E := E) (d := d + 4) (Q := Q) z1 z4
  have q6 := fun (Q : xR → Prop) => c_T_windDirection (E := E) (d := d + 4) (Q := Q) z1 z4
  have q7 := fun (Q : xR → Prop) => c_T_windForce (E := E) (d := d + 4) (Q := Q) z1 z4
  rw [w1] at q3
  rw [w5] at q4
  have hcl : xcl Z 0 = 8 := xc_of z1
  simp only [↓reduceIte, s_S_isSame_0, s_S_isSame_1, s_S_isSame_4, s_S_isSame_5, s_S_isSame_8, s_S_isSame_11, s_S_isSame_12, s_S_isSame_15, s_S_isSame_16, s_S_isSame_19, s_S_isSame_22, s_S_isSame_23, s_S_isSame_26, s_S_isSame_27, s_S_isSame_30, s_S_isSame_31, s_S_isSame_34, s_S_isSame_35, s_S_isSame_38, s_S_isSame_39, s_S_isSame_42, s_S_isSame_43, s_S_isSame_46, s_S_isSame_47, s_S_isSame_50, s_S_isSame_51, s_S_isSame_54, s_S_isSame_57, s_S_isSame_58, s_S_isSame_61, s_S_isSame_62, s_S_isSame_65, s_S_isSame_68, s_S_isSame_69, s_S_isSame_72, s_S_isSame_73, s_S_isSame_76, s_S_isSame_79, s_S_isSame_80, s_S_isSame_81, s_S_isSame_82, not_false_eq_true, Nat.reduceLT, Nat.reduceAdd, true_and, and_true, if_true, if_false, ite_true, ite_false, xnb_0, xnb_1, xnb_b, xk_v, xk_n, q1, q2, q3, q4, q5, q6, q7, xf_of r1, xll_10, xlg_10_0, xlg_10_1, xlg_10_2, xlg_10_3, xlg_10_4, xlg_10_5, xlg_10_6, xlg_10_7, xlg_10_8, xln_A r2, xln_A r4, Option.isSome_some, Option.getD_some, hcl]
  rfl
theorem is_kets (hS : jS E ad ro nk nc nn lo hi b s cnt rs re co rw') (hc : cls H Kb Ks ep b nm s a t) : ∀ m i, i + m = nk → xr E (d + 5) m_S_isSame Q (83, [some (.ref (ad 1)), some (.ref 0), some (.int (nI i)), none, none, none, none, none], [], (jH ad ro b s nk nc nn ru H a t)) = xr E (d + 5) m_S_isSame Q (178, [some (.ref (ad 1)), some (.ref 0), some (.int 0), some (.int (-1)), some (.int (nI 0)), none, none, none], [], (jH ad ro b s nk nc nn ru H a t)) := by
  have hz := jS_z hS
  obtain ⟨hj, hlo, -, hB, hW, hR, hn1, hd, -⟩ := hS
  obtain ⟨w1, w2, w3, w4, w5, w6, -⟩ := hW
  obtain ⟨z1, z2, z3, z4, ms, sk, hh, z5⟩ := cls_J (ad := ad) (nk := nk) (nc := nc) (nn := nn) (ru := ru) (a2 := a) (t2 := t) (b2 := b) (s2 := s) hc hz
  have r1 := j_1 (b := b) (s := s) (ru := ru) (H := H) (a := a) (t := t) hj
  have r2 := j_2 (b := b) (s := s) (ru := ru) (H := H) (a := a) (t := t) hj
  have rk := fun k hk => j_k (k := k) (b := b) (s := s) (ru := ru) (H := H) (a := a) (t := t) hj hk
  have hcl : xcl (jH ad ro b s nk nc nn ru H a t) 0 = 8 := xc_of z1
  generalize hZ : (jH ad ro b s nk nc nn ru H a t) = Z at z1 z3 z4 z5 r1 r2 rk hcl ⊢
  intro m
  induction m with
  | zero =>
    intro i hi
    obtain rfl : i = nk := by omega
    rw [s_S_isSame_83]
    simp only [↓reduceIte, s_S_isSame_84, s_S_isSame_85, s_S_isSame_88, s_S_isSame_89, s_S_isSame_92, s_S_isSame_93, s_S_isSame_94, s_S_isSame_97, s_S_isSame_98, s_S_isSame_101, s_S_isSame_102, s_S_isSame_103, s_S_isSame_104, s_S_isSame_105, s_S_isSame_108, s_S_isSame_109, s_S_isSame_110, s_S_isSame_113, s_S_isSame_114, s_S_isSame_117, s_S_isSame_118, s_S_isSame_119, s_S_isSame_120, s_S_isSame_121, s_S_isSame_124, s_S_isSame_125, s_S_isSame_126, s_S_isSame_129, s_S_isSame_130, s_S_isSame_131, s_S_isSame_132, s_S_isSame_133, s_S_isSame_134, s_S_isSame_137, s_S_isSame_138, s_S_isSame_139, s_S_isSame_140, s_S_isSame_141, s_S_isSame_144, s_S_isSame_145, s_S_isSame_148, s_S_isSame_149, s_S_isSame_150, s_S_isSame_151, s_S_isSame_152, s_S_isSame_155, s_S_isSame_156, s_S_isSame_159, s_S_isSame_160, s_S_isSame_163, s_S_isSame_164, s_S_isSame_165, s_S_isSame_168, s_S_isSame_171, s_S_isSame_172, s_S_isSame_173, s_S_isSame_174, s_S_isSame_175, s_S_isSame_176, not_false_eq_true, Nat.reduceLT, Nat.reduceAdd, true_and, and_true, if_true, if_false, ite_true, ite_false, xnb_0, xnb_1, xnb_b, xk_v, xk_n, xf_of r1, xll_10, xlg_10_0, xlg_10_1, xlg_10_2, xlg_10_3, xlg_10_4, xlg_10_5, xlg_10_6, xlg_10_7, xlg_10_8, xln_A r2, Option.isSome_some, Option.getD_some, nge (Nat.le_refl i) (show i < 2147483648 by omega)]
    rfl
  | succ m ih =>
    intro i hi
    have hk : i < nk := by omega
    have q1 := fun (Q : xR → Prop) => c_T_becalmedFor_i (E := E) (d := d + 2) (Q := Q) z1 z3 z4 w1 w2 hk
    have q2 := fun (Q : xR → Prop) => c_T_visitsTo_i (E := E) (d := d + 2) (Q := Q) z1 z3 z4 w1 w2 hk
    have q3 := fun (Q : xR → Prop) => c_T_hasSteam (E := E) (d := d + 2) (Q := Q) z1 z3 z4 w1 w2 (b 2 i) (b 3 i)
    simp only [if_neg (cel_k hB hk), ste_own hd w2 hk] at q3
    have ihi := ih (i + 1) (by omega)
    rw [s_S_isSame_83]
    by_cases e : a 0 i = 0
    · simp only [if_pos e] at q3
      simp only [↓reduceIte, s_S_isSame_84, s_S_isSame_85, s_S_isSame_88, s_S_isSame_89, s_S_isSame_92, s_S_isSame_93, s_S_isSame_94, s_S_isSame_97, s_S_isSame_98, s_S_isSame_101, s_S_isSame_102, s_S_isSame_103, s_S_isSame_104, s_S_isSame_105, s_S_isSame_108, s_S_isSame_109, s_S_isSame_110, s_S_isSame_113, s_S_isSame_114, s_S_isSame_117, s_S_isSame_118, s_S_isSame_119, s_S_isSame_120, s_S_isSame_121, s_S_isSame_124, s_S_isSame_125, s_S_isSame_126, s_S_isSame_129, s_S_isSame_130, s_S_isSame_131, s_S_isSame_132, s_S_isSame_133, s_S_isSame_134, s_S_isSame_137, s_S_isSame_138, s_S_isSame_139, s_S_isSame_140, s_S_isSame_141, s_S_isSame_144, s_S_isSame_145, s_S_isSame_148, s_S_isSame_149, s_S_isSame_150, s_S_isSame_151, s_S_isSame_152, s_S_isSame_155, s_S_isSame_156, s_S_isSame_159, s_S_isSame_160, s_S_isSame_163, s_S_isSame_164, s_S_isSame_165, s_S_isSame_168, not_false_eq_true, Nat.reduceLT, Nat.reduceAdd, true_and, and_true, if_true, if_false, ite_true, ite_false, xnb_0, xnb_1, xnb_b, xk_v, xk_n, xf_of r1, xll_10, xlg_10_0, xlg_10_1, xlg_10_2, xlg_10_3, xlg_10_4, xlg_10_5, xlg_10_6, xlg_10_7, xlg_10_8, xln_A r2, Option.isSome_some, Option.getD_some, nlt hk (show nk < 2147483648 by omega), q1, q2, q3, (xA_of r2).1, (xA_of r2).2.1, nvp hk (show nk < 2147483648 by omega), ncl (show i < 2147483648 by omega), if_pos hk, xrf_s, xIl_of (rk i hk), xIf_of (rk i hk), ic_0, ic_1, ic_2, ic_3, ic_4, v5_0, v5_1, v5_2, v5_3, v5_4, kf_0, kf_1, kf_2, kf_3, kf_4, hcl, eq_true e, show nI i + 1 = nI (i + 1) from nI_ad i 1]
      exact ihi
    · simp only [if_neg e] at q3
      simp only [↓reduceIte, s_S_isSame_84, s_S_isSame_85, s_S_isSame_88, s_S_isSame_89, s_S_isSame_92, s_S_isSame_93, s_S_isSame_94, s_S_isSame_97, s_S_isSame_98, s_S_isSame_101, s_S_isSame_102, s_S_isSame_103, s_S_isSame_104, s_S_isSame_105, s_S_isSame_108, s_S_isSame_109, s_S_isSame_110, s_S_isSame_113, s_S_isSame_114, s_S_isSame_117, s_S_isSame_118, s_S_isSame_119, s_S_isSame_120, s_S_isSame_121, s_S_isSame_124, s_S_isSame_125, s_S_isSame_126, s_S_isSame_129, s_S_isSame_130, s_S_isSame_131, s_S_isSame_132, s_S_isSame_133, s_S_isSame_134, s_S_isSame_137, s_S_isSame_138, s_S_isSame_139, s_S_isSame_140, s_S_isSame_141, s_S_isSame_144, s_S_isSame_145, s_S_isSame_148, s_S_isSame_149, s_S_isSame_150, s_S_isSame_151, s_S_isSame_152, s_S_isSame_155, s_S_isSame_156, s_S_isSame_159, s_S_isSame_160, s_S_isSame_163, s_S_isSame_164, s_S_isSame_165, s_S_isSame_168, not_false_eq_true, Nat.reduceLT, Nat.reduceAdd, true_and, and_true, if_true, if_false, ite_true, ite_false, xnb_0, xnb_1, xnb_b, xk_v, xk_n, xf_of r1, xll_10, xlg_10_0, xlg_10_1, xlg_10_2, xlg_10_3, xlg_10_4, xlg_10_5, xlg_10_6, xlg_10_7, xlg_10_8, xln_A r2, Option.isSome_some, Option.getD_some, nlt hk (show nk < 2147483648 by omega), q1, q2, q3, (xA_of r2).1, (xA_of r2).2.1, nvp hk (show nk < 2147483648 by omega), ncl (show i < 2147483648 by omega), if_pos hk, xrf_s, xIl_of (rk i hk), xIf_of (rk i hk), ic_0, ic_1, ic_2, ic_3, ic_4, v5_0, v5_1, v5_2, v5_3, v5_4, kf_0, kf_1, kf_2, kf_3, kf_4, hcl, eq_false e, show nI i + 1 = nI (i + 1) from nI_ad i 1]
      exact ihi
/-- what a clipper tells -/
theorem is_a (hS : jS E ad ro nk nc nn lo hi b s cnt rs re co rw') (hI : jI E ro ru nk nn lo hi Kb Ks ep b nm s co rw' n H a t) (hin : i < nn) : xr E (d + 5) m_S_isSame Q (178, [some (.ref (ad 1)), some (.ref 0), some (.int z), some (.int w), some (.int (nI i)), j5, j6, j7], [], (jH ad ro b s nk nc nn ru H a t)) = xr E (d + 5) m_S_isSame Q (205, [some (.ref (ad 1)), some (.ref 0), some (.int z), some (.int w), some (.int (nI i)), some (.ref (ad (20 + i))), some (.int (rvC E a b t s nk i)), j7], [], (jH ad ro b s nk nc nn ru (xnew H (xarI 10 (msr a b t s nk i)) 10) a t)) := by
  obtain ⟨hj, hlo, -, hB, hW, hR, hn1, hd, -⟩ := id hS
  obtain ⟨w1, w2, w3, w4, w5, w6, -⟩ := hW
  obtain ⟨i1, i2, i3, i4⟩ := hI
  have r1 := j_1 (b := b) (s := s) (ru := ru) (H := H) (a := a) (t := t) hj
  have r4 := j_4 (b := b) (s := s) (ru := ru) (H := H) (a := a) (t := t) hj
  have q1 := fun (Q : xR → Prop) => f_S_tells (E := E) (d := d) (Q := Q) (ru := ru) (H := H) hj hB i4 hin (jL_R i2) i3
  rw [s_S_isSame_178]
  simp only [↓reduceIte, s_S_isSame_180, s_S_isSame_181, s_S_isSame_184, s_S_isSame_185, s_S_isSame_188, s_S_isSame_189, s_S_isSame_192, s_S_isSame_194, s_S_isSame_195, s_S_isSame_197, s_S_isSame_198, s_S_isSame_200, s_S_isSame_203, not_false_eq_true, Nat.reduceLT, Nat.reduceAdd, true_and, and_true, if_true, if_false, ite_true, ite_false, xnb_0, xnb_1, xnb_b, xk_v, xk_n, xf_of r1, xc_of r1, xll_10, xlg_10_0, xlg_10_1, xlg_10_2, xlg_10_3, xlg_10_4, xlg_10_5, xlg_10_6, xlg_10_7, xlg_10_8, xln_A r4, Option.isSome_some, Option.getD_some, nlt hin (show nn < 2147483648 by omega), (xA_of r4).1, (xA_of r4).2.1, nvp hin (show nn < 2147483648 by omega), ncl (show i < 2147483648 by omega), if_pos hin, xrf_s, q1]
/-- what stands of a clipper -/
theorem is_b (hS : jS E ad ro nk nc nn lo hi b s cnt rs re co rw') (hc : cls H Kb Ks ep b nm s a t) (hin : i < nn) : xr E (d + 5) m_S_isSame Q (205, [some (.ref (ad 1)), some (.ref 0), some (.int z), some (.int w), some (.int (nI i)), some (.ref (ad (20 + i))), some (.int v), j7], [], (jH ad ro b s nk nc nn ru H a t)) = xr E (d + 5) m_S_isSame Q (337, [some (.ref (ad 1)), some (.ref 0), some (.int z), some (.int w), some (.int (nI i)), some (.ref (ad (20 + i))), some (.int v), j7], [], (jH ad ro b s nk nc nn ru H a t)) := by
  have hz := jS_z hS
  obtain ⟨hj, hlo, -, hB, hW, hR, hn1, -⟩ := hS
  obtain ⟨w1, w2, w3, w4, w5, w6, -⟩ := hW
  obtain ⟨z1, z2, z3, z4, ms, sk, hh, z5⟩ := cls_J (ad := ad) (nk := nk) (nc := nc) (nn := nn) (ru := ru) (a2 := a) (t2 := t) (b2 := b) (s2 := s) hc hz
  have r1 := j_1 (b := b) (s := s) (ru := ru) (H := H) (a := a) (t := t) hj
  have rc := j_c (b := b) (s := s) (ru := ru) (H := H) (a := a) (t := t) hj hin
  have q8 := fun (Q : xR → Prop) => f_S_speed (E := E) (d := d + 4) (Q := Q) (b := b) (s := s) (ru := ru) (H := H) (a := a) (t := t) hj hin
  have hcl : xcl (jH ad ro b s nk nc nn ru H a t) 0 = 8 := xc_of z1
  have hcm : xcl (jH ad ro b s nk nc nn ru H a t) (ad 1) = 10 := xc_of r1
  generalize hZ : (jH ad ro b s nk nc nn ru H a t) = Z at z1 z3 z4 z5 r1 rc q8 hcl hcm ⊢
  have q1 := fun (Q : xR → Prop) => c_T_columnOf_i (E := E) (d := d + 3) (Q := Q) z1 z3 z4 w5 w6 hin
  have q2 := fun (Q : xR → Prop) => c_T_rowOf_i (E := E) (d := d + 3) (Q := Q) z1 z3 z4 w5 w6 hin
  have q3 := fun (Q : xR → Prop) => c_T_leafOf_i (E := E) (d := d + 3) (Q := Q) z1 z3 z4 w5 w6 hin
  have q4 := fun (Q : xR → Prop) => c_T_wayOf_i (E := E) (d := d + 3) (Q := Q) z1 z3 z4 w5 w6 hin
  have q5 := fun (Q : xR → Prop) => c_T_pointsOf_i (E := E) (d := d + 3) (Q := Q) z1 z3 z4 w5 w6 hin
  have q6 := fun (Q : xR → Prop) => c_T_sipsOf_i (E := E) (d := d + 3) (Q := Q) z1 z3 z4 w5 w6 hin
  have q7 := fun (Q : xR → Prop) => c_T_speedOf_i (E := E) (d := d + 2) (Q := Q) z1 z3 z4 w5 w6 hin
  have q9 := fun (Q : xR → Prop) => c_T_isHome_i (E := E) (d := d + 2) (Q := Q) z1 z3 z4 w5 w6 hin
  by_cases e1 : a 3 i = b 7 i
  · by_cases e2 : a 4 i = b 8 i
    · have e3 : xb (a 3 i = b 7 i ∧ a 4 i = b 8 i) = 1 := if_pos ⟨e1, e2⟩
      rw [e3] at q9
      simp only [↓reduceIte, s_S_isSame_205, s_S_isSame_206, s_S_isSame_208, s_S_isSame_211, s_S_isSame_213, s_S_isSame_214, s_S_isSame_215, s_S_isSame_218, s_S_isSame_219, s_S_isSame_221, s_S_isSame_224, s_S_isSame_226, s_S_isSame_227, s_S_isSame_228, s_S_isSame_231, s_S_isSame_232, s_S_isSame_234, s_S_isSame_237, s_S_isSame_239, s_S_isSame_240, s_S_isSame_241, s_S_isSame_244, s_S_isSame_245, s_S_isSame_247, s_S_isSame_250, s_S_isSame_252, s_S_isSame_254, s_S_isSame_255, s_S_isSame_258, s_S_isSame_259, s_S_isSame_261, s_S_isSame_264, s_S_isSame_266, s_S_isSame_268, s_S_isSame_269, s_S_isSame_272, s_S_isSame_273, s_S_isSame_275, s_S_isSame_278, s_S_isSame_280, s_S_isSame_282, s_S_isSame_283, s_S_isSame_286, s_S_isSame_287, s_S_isSame_289, s_S_isSame_292, s_S_isSame_293, s_S_isSame_295, s_S_isSame_298, s_S_isSame_301, s_S_isSame_302, s_S_isSame_304, s_S_isSame_307, s_S_isSame_309, s_S_isSame_310, s_S_isSame_311, s_S_isSame_313, s_S_isSame_314, s_S_isSame_315, s_S_isSame_318, s_S_isSame_320, s_S_isSame_321, s_S_isSame_322, s_S_isSame_324, s_S_isSame_325, s_S_isSame_326, s_S_isSame_329, s_S_isSame_330, s_S_isSame_333, s_S_isSame_334, not_false_eq_true, Nat.reduceLT, Nat.reduceAdd, true_and, and_true, if_true, if_false, ite_true, ite_false, xnb_0, xnb_1, xnb_b, xk_v, xk_n, q1, q2, q3, q4, q5, q6, q7, q8, q9, xIl_of rc, xIf_of rc, ic_0, ic_1, ic_2, ic_3, ic_4, ic_5, ic_6, ic_7, ic_8, v9_0, v9_1, v9_2, v9_3, v9_4, v9_5, v9_6, v9_7, v9_8, cf_0, cf_1, cf_2, cf_3, cf_4, cf_5, cf_6, cf_7, cf_8, hcl, hcm, eq_true e1, eq_true e2]
    · have e3 : xb (a 3 i = b 7 i ∧ a 4 i = b 8 i) = 0 := if_neg fun q => e2 q.2
      rw [e3] at q9
      simp only [↓reduceIte, s_S_isSame_205, s_S_isSame_206, s_S_isSame_208, s_S_isSame_211, s_S_isSame_213, s_S_isSame_214, s_S_isSame_215, s_S_isSame_218, s_S_isSame_219, s_S_isSame_221, s_S_isSame_224, s_S_isSame_226, s_S_isSame_227, s_S_isSame_228, s_S_isSame_231, s_S_isSame_232, s_S_isSame_234, s_S_isSame_237, s_S_isSame_239, s_S_isSame_240, s_S_isSame_241, s_S_isSame_244, s_S_isSame_245, s_S_isSame_247, s_S_isSame_250, s_S_isSame_252, s_S_isSame_254, s_S_isSame_255, s_S_isSame_258, s_S_isSame_259, s_S_isSame_261, s_S_isSame_264, s_S_isSame_266, s_S_isSame_268, s_S_isSame_269, s_S_isSame_272, s_S_isSame_273, s_S_isSame_275, s_S_isSame_278, s_S_isSame_280, s_S_isSame_282, s_S_isSame_283, s_S_isSame_286, s_S_isSame_287, s_S_isSame_289, s_S_isSame_292, s_S_isSame_293, s_S_isSame_295, s_S_isSame_298, s_S_isSame_301, s_S_isSame_302, s_S_isSame_304, s_S_isSame_307, s_S_isSame_309, s_S_isSame_310, s_S_isSame_311, s_S_isSame_313, s_S_isSame_314, s_S_isSame_315, s_S_isSame_318, s_S_isSame_320, s_S_isSame_321, s_S_isSame_322, s_S_isSame_324, s_S_isSame_325, s_S_isSame_326, s_S_isSame_329, s_S_isSame_330, s_S_isSame_333, s_S_isSame_334, not_false_eq_true, Nat.reduceLT, Nat.reduceAdd, true_and, and_true, if_true, if_false, ite_true, ite_false, xnb_0, xnb_1, xnb_b, xk_v, xk_n, q1, q2, q3, q4, q5, q6, q7, q8, q9, xIl_of rc, xIf_of rc, ic_0, ic_1, ic_2, ic_3, ic_4, ic_5, ic_6, ic_7, ic_8, v9_0, v9_1, v9_2, v9_3, v9_4, v9_5, v9_6, v9_7, v9_8, cf_0, cf_1, cf_2, cf_3, cf_4, cf_5, cf_6, cf_7, cf_8, hcl, hcm, eq_true e1, eq_false e2]
  · have e3 : xb (a 3 i = b 7 i ∧ a 4 i = b 8 i) = 0 := if_neg fun q => e1 q.1
    rw [e3] at q9
    simp only [↓reduceIte, s_S_isSame_205, s_S_isSame_206, s_S_isSame_208, s_S_isSame_211, s_S_isSame_213, s_S_isSame_214, s_S_isSame_215, s_S_isSame_218, s_S_isSame_219, s_S_isSame_221, s_S_isSame_224, s_S_isSame_226, s_S_isSame_227, s_S_isSame_228, s_S_isSame_231, s_S_isSame_232, s_S_isSame_234, s_S_isSame_237, s_S_isSame_239, s_S_isSame_240, s_S_isSame_241, s_S_isSame_244, s_S_isSame_245, s_S_isSame_247, s_S_isSame_250, s_S_isSame_252, s_S_isSame_254, s_S_isSame_255, s_S_isSame_258, s_S_isSame_259, s_S_isSame_261, s_S_isSame_264, s_S_isSame_266, s_S_isSame_268, s_S_isSame_269, s_S_isSame_272, s_S_isSame_273, s_S_isSame_275, s_S_isSame_278, s_S_isSame_280, s_S_isSame_282, s_S_isSame_283, s_S_isSame_286, s_S_isSame_287, s_S_isSame_289, s_S_isSame_292, s_S_isSame_293, s_S_isSame_295, s_S_isSame_298, s_S_isSame_301, s_S_isSame_302, s_S_isSame_304, s_S_isSame_307, s_S_isSame_309, s_S_isSame_310, s_S_isSame_311, s_S_isSame_313, s_S_isSame_314, s_S_isSame_315, s_S_isSame_318, s_S_isSame_320, s_S_isSame_321, s_S_isSame_322, s_S_isSame_324, s_S_isSame_325, s_S_isSame_326, s_S_isSame_329, s_S_isSame_330, s_S_isSame_333, s_S_isSame_334, not_false_eq_true, Nat.reduceLT, Nat.reduceAdd, true_and, and_true, if_true, if_false, ite_true, ite_false, xnb_0, xnb_1, xnb_b, xk_v, xk_n, q1, q2, q3, q4, q5, q6, q7, q8, q9, xIl_of rc, xIf_of rc, ic_0, ic_1, ic_2, ic_3, ic_4, ic_5, ic_6, ic_7, ic_8, v9_0, v9_1, v9_2, v9_3, v9_4, v9_5, v9_6, v9_7, v9_8, cf_0, cf_1, cf_2, cf_3, cf_4, cf_5, cf_6, cf_7, cf_8, hcl, hcm, eq_false e1]
/-- what its rule tells -/
theorem is_c (hS : jS E ad ro nk nc nn lo hi b s cnt rs re co rw') (hI : jI E ro ru nk nn lo hi Kb Ks ep b nm s co rw' n H a t) (hin : i < nn) : ∃ X, (∀ Q, xr E (d + 5) m_S_isSame Q (337, [some (.ref (ad 1)), some (.ref 0), some (.int z), some (.int w), some (.int (nI i)), some (.ref (ad (20 + i))), some (.int (rvC E a b t s nk i)), j7], [], (jH ad ro b s nk nc nn ru H a t)) = xr E (d + 5) m_S_isSame Q (390, [some (.ref (ad 1)), some (.ref 0), some (.int z), some (.int w), some (.int (nI i)), some (.ref (ad (20 + i))), some (.int (rvC E a b t s nk i)), some (.int (nI 0))], [], (jH ad ro b s nk nc nn ru X a t))) ∧ jI E ro ru nk nn lo hi Kb Ks ep b nm s co rw' n X a t ∧ X.2 = H.2 := by
  have hz := jS_z hS
  obtain ⟨hj, hlo, -, hB, hW, hR, hn1, -⟩ := hS
  obtain ⟨w1, w2, w3, w4, w5, w6, -⟩ := id hW
  obtain ⟨X1, x1, x2, x3, x4⟩ := jc_tell (E := E) (d := d) (ad := ad) (nc := nc) (ru := ru) (a2 := a) (t2 := t) (b2 := b) (s2 := s) hI.1 hz hW hR hin
  have hI1 := jI_op hI hlo x2 x3 x4 hI.2.2.2
  obtain ⟨X2, y1, y2, y3, y4⟩ := jc_tell (E := E) (d := d) (ad := ad) (nc := nc) (ru := ru) (a2 := a) (t2 := t) (b2 := b) (s2 := s) hI1.1 hz hW hR hin
  have hI2 := jI_op hI1 hlo y2 y3 y4 hI.2.2.2
  obtain ⟨X3, u1, u2, u3, u4⟩ := jc_tell (E := E) (d := d) (ad := ad) (nc := nc) (ru := ru) (a2 := a) (t2 := t) (b2 := b) (s2 := s) hI2.1 hz hW hR hin
  have hI3 := jI_op hI2 hlo u2 u3 u4 hI.2.2.2
  have clz := fun (H : xH) (hc : cls H Kb Ks ep b nm s a t) => cls_J (ad := ad) (nk := nk) (nc := nc) (nn := nn) (ru := ru) (a2 := a) (t2 := t) (b2 := b) (s2 := s) hc hz
  obtain ⟨g1, g2, g3, g4, -⟩ := clz H hI.1
  obtain ⟨k1, k2, k3, k4, -⟩ := clz X1 hI1.1
  obtain ⟨m1, m2, m3, m4, -⟩ := clz X2 hI2.1
  have q1 := fun (Q : xR → Prop) => c_T_ruleTells_i (E := E) (d := d) (Q := Q) g1 g3 g4 w5 w6 hin x1
  have q2 := fun (Q : xR → Prop) => c_T_wouldStay_i (E := E) (d := d) (Q := Q) k1 k3 k4 w5 w6 hin y1
  have q3 := fun (Q : xR → Prop) => c_T_steersTo_i (E := E) (d := d) (Q := Q) m1 m3 m4 w5 w6 hin u1
  have l1 : xcl (jH ad ro b s nk nc nn ru H a t) 0 = 8 := xc_of g1
  have l2 : xcl (jH ad ro b s nk nc nn ru X1 a t) 0 = 8 := xc_of k1
  have l3 : xcl (jH ad ro b s nk nc nn ru X2 a t) 0 = 8 := xc_of m1
  generalize rvC E a b t s nk i = v at q1 q2 q3
  by_cases e : v < 0
  · refine ⟨X2, fun Q => ?_, hI2, y3.trans x3⟩
    simp only [if_pos e] at q2
    simp only [↓reduceIte, s_S_isSame_337, s_S_isSame_338, s_S_isSame_340, s_S_isSame_343, s_S_isSame_345, s_S_isSame_348, s_S_isSame_349, s_S_isSame_351, s_S_isSame_354, s_S_isSame_356, s_S_isSame_359, s_S_isSame_360, s_S_isSame_363, s_S_isSame_364, s_S_isSame_367, s_S_isSame_369, s_S_isSame_372, s_S_isSame_373, s_S_isSame_375, s_S_isSame_378, s_S_isSame_380, s_S_isSame_381, s_S_isSame_382, s_S_isSame_385, s_S_isSame_386, s_S_isSame_387, s_S_isSame_388, not_false_eq_true, Nat.reduceLT, Nat.reduceAdd, true_and, and_true, if_true, if_false, ite_true, ite_false, xnb_0, xnb_1, xnb_b, xk_v, xk_n, q1, q2, l1, l2, eq_true e]
    rfl
  · refine ⟨X3, fun Q => ?_, hI3, u3.trans (y3.trans x3)⟩
    simp only [if_neg e] at q2 q3
    simp only [↓reduceIte, s_S_isSame_337, s_S_isSame_338, s_S_isSame_340, s_S_isSame_343, s_S_isSame_345, s_S_isSame_348, s_S_isSame_349, s_S_isSame_351, s_S_isSame_354, s_S_isSame_356, s_S_isSame_359, s_S_isSame_360, s_S_isSame_363, s_S_isSame_364, s_S_isSame_367, s_S_isSame_369, s_S_isSame_372, s_S_isSame_373, s_S_isSame_375, s_S_isSame_378, s_S_isSame_380, s_S_isSame_381, s_S_isSame_382, s_S_isSame_385, s_S_isSame_386, s_S_isSame_387, s_S_isSame_388, not_false_eq_true, Nat.reduceLT, Nat.reduceAdd, true_and, and_true, if_true, if_false, ite_true, ite_false, xnb_0, xnb_1, xnb_b, xk_v, xk_n, q1, q2, q3, l1, l2, l3, eq_false e, show ((4 : Int32) = 0) = False from eq_false (by decide)]
    rfl
theorem is_d (hS : jS E ad ro nk nc nn lo hi b s cnt rs re co rw') (hI : jI E ro ru nk nn lo hi Kb Ks ep b nm s co rw' n H a t) (hin : i < nn) : ∀ m k, k + m = 4 → xr E (d + 5) m_S_isSame Q (390, [some (.ref (ad 1)), some (.ref 0), some (.int z), some (.int w), some (.int (nI i)), some (.ref (ad (20 + i))), some (.int v), some (.int (nI k))], [], (jH ad ro b s nk nc nn ru H a t)) = xr E (d + 5) m_S_isSame Q (423, [some (.ref (ad 1)), some (.ref 0), some (.int z), some (.int w), some (.int (nI i)), some (.ref (ad (20 + i))), some (.int v), some (.int (nI 4))], [], (jH ad ro b s nk nc nn ru H a t)) := by
  have hz := jS_z hS
  obtain ⟨hj, hlo, -, hB, hW, hR, hn1, -⟩ := hS
  obtain ⟨w1, w2, w3, w4, w5, w6, -⟩ := id hW
  obtain ⟨z1, z2, z3, z4, -⟩ := cls_J (ad := ad) (nk := nk) (nc := nc) (nn := nn) (ru := ru) (a2 := a) (t2 := t) (b2 := b) (s2 := s) hI.1 hz
  have hcl : xcl (jH ad ro b s nk nc nn ru H a t) 0 = 8 := xc_of z1
  have hcm : xcl (jH ad ro b s nk nc nn ru H a t) (ad 1) = 10 := xc_of (j_1 hj)
  have q2 := fun (x : Int32) (Q : xR → Prop) => j_smell (E := E) (d := d + 3) (Q := Q) (x := x) (H := H) (ru := ru) hj hB hI.2.2.2 hin
  generalize hZ : (jH ad ro b s nk nc nn ru H a t) = Z at z1 z3 z4 q2 hcl hcm ⊢
  intro m
  induction m with
  | zero =>
    intro k hk
    obtain rfl : k = 4 := by omega
    rw [s_S_isSame_390]
    simp only [↓reduceIte, s_S_isSame_392, s_S_isSame_393, not_false_eq_true, Nat.reduceLT, Nat.reduceAdd, true_and, and_true, if_true, if_false, ite_true, ite_false, xnb_0, xnb_1, xnb_b, xk_v, xk_n, show (nI 4 < (4 : Int32)) = False from eq_false (by decide)]
  | succ m ih =>
    intro k hk
    have hk4 : (nI k < (4 : Int32)) = True := nlt (i := k) (n := 4) (by omega) (by omega)
    have q1 := fun (Q : xR → Prop) => c_T_smells_i (E := E) (d := d + 1) (Q := Q) (r := nI k) z1 z3 z4 w5 w6 w1 w2 hin (fun q => q.elim (fun e => by rw [nI_n0 k (by omega)] at e; exact e) (fun e => e (of_eq_true hk4)))
    have ihk := ih (k + 1) (by omega)
    rw [s_S_isSame_390]
    simp only [↓reduceIte, s_S_isSame_392, s_S_isSame_393, s_S_isSame_396, s_S_isSame_397, s_S_isSame_399, s_S_isSame_401, s_S_isSame_404, s_S_isSame_405, s_S_isSame_407, s_S_isSame_409, s_S_isSame_412, s_S_isSame_415, s_S_isSame_416, s_S_isSame_417, s_S_isSame_420, not_false_eq_true, Nat.reduceLT, Nat.reduceAdd, true_and, and_true, if_true, if_false, ite_true, ite_false, xnb_0, xnb_1, xnb_b, xk_v, xk_n, q1, q2, hcl, hcm, hk4, show nI k + 1 = nI (k + 1) from nI_ad k 1]
    exact ihk
theorem is_e (hS : jS E ad ro nk nc nn lo hi b s cnt rs re co rw') (hin : i < nn) (hw : w = -1 ∨ ∃ f, f < nn ∧ w = nI f) : xr E (d + 5) m_S_isSame Q (423, [some (.ref (ad 1)), some (.ref 0), some (.int z), some (.int w), some (.int (nI i)), some (.ref (ad (20 + i))), some (.int v), some (.int x)], [], (jH ad ro b s nk nc nn ru H a t)) = xr E (d + 5) m_S_isSame Q (178, [some (.ref (ad 1)), some (.ref 0), some (.int (z + a 7 i)), some (.int (if w < 0 then nI i else if a 7 w.toNatClampNeg < a 7 i ∨ (a 7 i = a 7 w.toNatClampNeg ∧ a 5 w.toNatClampNeg < a 5 i) then nI i else w)), some (.int (nI (i + 1))), some (.ref (ad (20 + i))), some (.int v), some (.int x)], [], (jH ad ro b s nk nc nn ru H a t)) := by
  obtain ⟨hj, hlo, -, hB, hW, hR, hn1, -⟩ := hS
  obtain ⟨w1, w2, w3, w4, w5, w6, -⟩ := id hW
  have r1 := j_1 (b := b) (s := s) (ru := ru) (H := H) (a := a) (t := t) hj
  have r4 := j_4 (b := b) (s := s) (ru := ru) (H := H) (a := a) (t := t) hj
  have rc := fun c hc => j_c (c := c) (b := b) (s := s) (ru := ru) (H := H) (a := a) (t := t) hj hc
  generalize hZ : (jH ad ro b s nk nc nn ru H a t) = Z at r1 r4 rc ⊢
  rcases hw with rfl | ⟨f, hf, rfl⟩
  · simp only [↓reduceIte, s_S_isSame_423, s_S_isSame_424, s_S_isSame_426, s_S_isSame_428, s_S_isSame_429, s_S_isSame_430, s_S_isSame_431, s_S_isSame_432, s_S_isSame_435, s_S_isSame_437, s_S_isSame_439, s_S_isSame_440, s_S_isSame_441, s_S_isSame_444, s_S_isSame_445, s_S_isSame_446, s_S_isSame_448, s_S_isSame_449, s_S_isSame_452, s_S_isSame_454, s_S_isSame_456, s_S_isSame_457, s_S_isSame_458, s_S_isSame_461, s_S_isSame_462, s_S_isSame_463, s_S_isSame_465, s_S_isSame_466, s_S_isSame_469, s_S_isSame_471, s_S_isSame_472, s_S_isSame_473, s_S_isSame_474, s_S_isSame_477, s_S_isSame_478, s_S_isSame_479, s_S_isSame_480, s_S_isSame_481, s_S_isSame_484, s_S_isSame_486, s_S_isSame_487, s_S_isSame_490, not_false_eq_true, Nat.reduceLT, Nat.reduceAdd, true_and, and_true, if_true, if_false, ite_true, ite_false, xnb_0, xnb_1, xnb_b, xk_v, xk_n, xIl_of (rc i hin), xIf_of (rc i hin), ic_7, v9_7, cf_7, show ((-1 : Int32) < 0) = True from eq_true (by decide), show nI i + 1 = nI (i + 1) from nI_ad i 1]
  · have g1 : a 7 f < a 7 i ∨ ¬ a 7 f < a 7 i := Decidable.em _
    rw [ncl (show f < 2147483648 by omega)]
    by_cases e1 : a 7 f < a 7 i
    · simp only [↓reduceIte, s_S_isSame_423, s_S_isSame_424, s_S_isSame_426, s_S_isSame_428, s_S_isSame_429, s_S_isSame_430, s_S_isSame_431, s_S_isSame_432, s_S_isSame_435, s_S_isSame_437, s_S_isSame_439, s_S_isSame_440, s_S_isSame_441, s_S_isSame_444, s_S_isSame_445, s_S_isSame_446, s_S_isSame_448, s_S_isSame_449, s_S_isSame_452, s_S_isSame_454, s_S_isSame_456, s_S_isSame_457, s_S_isSame_458, s_S_isSame_461, s_S_isSame_462, s_S_isSame_463, s_S_isSame_465, s_S_isSame_466, s_S_isSame_469, s_S_isSame_471, s_S_isSame_472, s_S_isSame_473, s_S_isSame_474, s_S_isSame_477, s_S_isSame_478, s_S_isSame_479, s_S_isSame_480, s_S_isSame_481, s_S_isSame_484, s_S_isSame_486, s_S_isSame_487, s_S_isSame_490, not_false_eq_true, Nat.reduceLT, Nat.reduceAdd, true_and, and_true, if_true, if_false, ite_true, ite_false, xnb_0, xnb_1, xnb_b, xk_v, xk_n, xf_of r1, xll_10, xlg_10_0, xlg_10_1, xlg_10_2, xlg_10_3, xlg_10_4, xlg_10_5, xlg_10_6, xlg_10_7, xlg_10_8, (xA_of r4).1, (xA_of r4).2.1, nvp hf (show nn < 2147483648 by omega), ncl (show f < 2147483648 by omega), if_pos hf, xrf_s, xIl_of (rc i hin), xIf_of (rc i hin), xIl_of (rc f hf), xIf_of (rc f hf), ic_5, ic_7, v9_5, v9_7, cf_5, cf_7, nI_n0 f (by omega), eq_true e1, true_or, show nI i + 1 = nI (i + 1) from nI_ad i 1]
    by_cases e2 : a 7 i = a 7 f
    · by_cases e3 : a 5 f < a 5 i
      · simp only [↓reduceIte, s_S_isSame_423, s_S_isSame_424, s_S_isSame_426, s_S_isSame_428, s_S_isSame_429, s_S_isSame_430, s_S_isSame_431, s_S_isSame_432, s_S_isSame_435, s_S_isSame_437, s_S_isSame_439, s_S_isSame_440, s_S_isSame_441, s_S_isSame_444, s_S_isSame_445, s_S_isSame_446, s_S_isSame_448, s_S_isSame_449, s_S_isSame_452, s_S_isSame_454, s_S_isSame_456, s_S_isSame_457, s_S_isSame_458, s_S_isSame_461, s_S_isSame_462, s_S_isSame_463, s_S_isSame_465, s_S_isSame_466, s_S_isSame_469, s_S_isSame_471, s_S_isSame_472, s_S_isSame_473, s_S_isSame_474, s_S_isSame_477, s_S_isSame_478, s_S_isSame_479, s_S_isSame_480, s_S_isSame_481, s_S_isSame_484, s_S_isSame_486, s_S_isSame_487, s_S_isSame_490, not_false_eq_true, Nat.reduceLT, Nat.reduceAdd, true_and, and_true, if_true, if_false, ite_true, ite_false, xnb_0, xnb_1, xnb_b, xk_v, xk_n, xf_of r1, xll_10, xlg_10_0, xlg_10_1, xlg_10_2, xlg_10_3, xlg_10_4, xlg_10_5, xlg_10_6, xlg_10_7, xlg_10_8, (xA_of r4).1, (xA_of r4).2.1, nvp hf (show nn < 2147483648 by omega), ncl (show f < 2147483648 by omega), if_pos hf, xrf_s, xIl_of (rc i hin), xIf_of (rc i hin), xIl_of (rc f hf), xIf_of (rc f hf), ic_5, ic_7, v9_5, v9_7, cf_5, cf_7, nI_n0 f (by omega), eq_false e1, eq_true e2, eq_true e3, and_self, or_true, show nI i + 1 = nI (i + 1) from nI_ad i 1]
      · simp only [↓reduceIte, s_S_isSame_423, s_S_isSame_424, s_S_isSame_426, s_S_isSame_428, s_S_isSame_429, s_S_isSame_430, s_S_isSame_431, s_S_isSame_432, s_S_isSame_435, s_S_isSame_437, s_S_isSame_439, s_S_isSame_440, s_S_isSame_441, s_S_isSame_444, s_S_isSame_445, s_S_isSame_446, s_S_isSame_448, s_S_isSame_449, s_S_isSame_452, s_S_isSame_454, s_S_isSame_456, s_S_isSame_457, s_S_isSame_458, s_S_isSame_461, s_S_isSame_462, s_S_isSame_463, s_S_isSame_465, s_S_isSame_466, s_S_isSame_469, s_S_isSame_471, s_S_isSame_472, s_S_isSame_473, s_S_isSame_474, s_S_isSame_477, s_S_isSame_478, s_S_isSame_479, s_S_isSame_480, s_S_isSame_481, s_S_isSame_484, s_S_isSame_486, s_S_isSame_487, s_S_isSame_490, not_false_eq_true, Nat.reduceLT, Nat.reduceAdd, true_and, and_true, if_true, if_false, ite_true, ite_false, xnb_0, xnb_1, xnb_b, xk_v, xk_n, xf_of r1, xll_10, xlg_10_0, xlg_10_1, xlg_10_2, xlg_10_3, xlg_10_4, xlg_10_5, xlg_10_6, xlg_10_7, xlg_10_8, (xA_of r4).1, (xA_of r4).2.1, nvp hf (show nn < 2147483648 by omega), ncl (show f < 2147483648 by omega), if_pos hf, xrf_s, xIl_of (rc i hin), xIf_of (rc i hin), xIl_of (rc f hf), xIf_of (rc f hf), ic_5, ic_7, v9_5, v9_7, cf_5, cf_7, nI_n0 f (by omega), eq_false e1, eq_true e2, eq_false e3, and_false, or_self, show nI i + 1 = nI (i + 1) from nI_ad i 1]
    · simp only [↓reduceIte, s_S_isSame_423, s_S_isSame_424, s_S_isSame_426, s_S_isSame_428, s_S_isSame_429, s_S_isSame_430, s_S_isSame_431, s_S_isSame_432, s_S_isSame_435, s_S_isSame_437, s_S_isSame_439, s_S_isSame_440, s_S_isSame_441, s_S_isSame_444, s_S_isSame_445, s_S_isSame_446, s_S_isSame_448, s_S_isSame_449, s_S_isSame_452, s_S_isSame_454, s_S_isSame_456, s_S_isSame_457, s_S_isSame_458, s_S_isSame_461, s_S_isSame_462, s_S_isSame_463, s_S_isSame_465, s_S_isSame_466, s_S_isSame_469, s_S_isSame_471, s_S_isSame_472, s_S_isSame_473, s_S_isSame_474, s_S_isSame_477, s_S_isSame_478, s_S_isSame_479, s_S_isSame_480, s_S_isSame_481, s_S_isSame_484, s_S_isSame_486, s_S_isSame_487, s_S_isSame_490, not_false_eq_true, Nat.reduceLT, Nat.reduceAdd, true_and, and_true, if_true, if_false, ite_true, ite_false, xnb_0, xnb_1, xnb_b, xk_v, xk_n, xf_of r1, xll_10, xlg_10_0, xlg_10_1, xlg_10_2, xlg_10_3, xlg_10_4, xlg_10_5, xlg_10_6, xlg_10_7, xlg_10_8, (xA_of r4).1, (xA_of r4).2.1, nvp hf (show nn < 2147483648 by omega), ncl (show f < 2147483648 by omega), if_pos hf, xrf_s, xIl_of (rc i hin), xIf_of (rc i hin), xIl_of (rc f hf), xIf_of (rc f hf), ic_5, ic_7, v9_5, v9_7, cf_5, cf_7, nI_n0 f (by omega), eq_false e1, eq_false e2, false_and, or_self, show nI i + 1 = nI (i + 1) from nI_ad i 1]
theorem mean_eq {v c : Int32} (hc : ¬ c = 0) : Op.cmpValue (FP.dcmp (FP.ddiv (FP.i2d v) (FP.i2d c)) (FP.ddiv (FP.i2d v) (FP.i2d c))) .l = 0 := by
  have h : Jvm.FP.Core.dIsNaN (Jvm.FP.Core.ddiv (Jvm.FP.Core.i2d v) (Jvm.FP.Core.i2d c)) = false := Jvm.FP.Core.ddiv_out (Jvm.FP.Core.i2d_fin v).notNaN (Jvm.FP.Core.i2d_fin c) (fun z => Jvm.FP.Core.i2d_ne_zero hc ((Jvm.FP.Core.zero_bits2 _).mp z))
  have h2 : FP.dcmp (FP.ddiv (FP.i2d v) (FP.i2d c)) (FP.ddiv (FP.i2d v) (FP.i2d c)) = some .eq := Jvm.FP.Core.dcmp_self ((Jvm.FP.Core.notNaN_iff _).mp h)
  rw [h2]; rfl
theorem ldR_lt : ∀ m i f, i + m ≤ nn → f < nn → ldR a i m f < nn
  | 0, _, _, _, h => h
  | m + 1, i, f, h1, h2 => ldR_lt m (i + 1) _ (by omega) (by split <;> omega)
theorem l_is (hS : jS E ad ro nk nc nn lo hi b s cnt rs re co rw') : ∀ (m i : Nat) (z w : Int32) (H : xH) (j5 j6 j7 : Option Value), i + m = nn → jI E ro ru nk nn lo hi Kb Ks ep b nm s co rw' n H a t → sumP (a 7) i m z = sumP (a 7) 0 nn 0 → ((i = 0 ∧ w = -1) ∨ ∃ f, 0 < i ∧ f < nn ∧ w = nI f ∧ ldR a i m f = ldR a 1 (nn - 1) 0) → ∃ X, (∀ Q, xr E (d + 5) m_S_isSame Q (178, [some (.ref (ad 1)), some (.ref 0), some (.int z), some (.int w), some (.int (nI i)), j5, j6, j7], [], (jH ad ro b s nk nc nn ru H a t)) = Q (.inl (some (.int 1)), (jH ad ro b s nk nc nn ru X a t))) ∧ H.2.1 ≤ X.2.1 ∧ X.2.1 ≤ H.2.1 + m ∧ X.2.2 ≤ H.2.2 + 10 * m
  | 0, i, z, w, H, j5, j6, j7, him, hI, hz, hw => by
    have hz' := jS_z hS
    obtain ⟨hj, hlo, -, hB, hW, hR, hn1, -⟩ := id hS
    obtain ⟨w1, w2, w3, w4, w5, w6, -⟩ := id hW
    obtain rfl : i = nn := by omega
    obtain ⟨f, f0, f1, f2, f3⟩ : ∃ f, 0 < i ∧ f < i ∧ w = nI f ∧ ldR a i 0 f = ldR a 1 (i - 1) 0 := hw.elim (fun q => by omega) id
    subst f2
    refine ⟨H, fun Q => ?_, Nat.le_refl _, by omega, by omega⟩
    obtain ⟨z1, z2, z3, z4, -⟩ := cls_J (ad := ad) (nk := nk) (nc := nc) (nn := i) (ru := ru) (a2 := a) (t2 := t) (b2 := b) (s2 := s) hI.1 hz'
    have r1 := j_1 (b := b) (s := s) (ru := ru) (H := H) (a := a) (t := t) hj
    have r4 := j_4 (b := b) (s := s) (ru := ru) (H := H) (a := a) (t := t) hj
    have hcl : xcl (jH ad ro b s nk nc i ru H a t) 0 = 8 := xc_of z1
    generalize hZ : (jH ad ro b s nk nc i ru H a t) = Z at z1 z3 z4 r1 r4 hcl ⊢
    have q1 := fun (Q : xR → Prop) => c_T_leader_i (E := E) (d := d + 3) (Q := Q) z1 z3 z4 w5 w6 (by omega)
    have q2 := fun (Q : xR → Prop) => c_T_mean (E := E) (d := d + 4) (Q := Q) z1 z3 z4 w5 w6
    have e1 : mnV a i = FP.ddiv (FP.i2d z) (FP.i2d (nI i)) := by
      unfold mnV
      rw [if_neg (by omega), ← hz]; rfl
    rw [e1] at q2
    rw [← f3] at q1
    have q1' : ∀ Q, xcall E xprog (d + 5) 95 [.ref 0] Z Q = Q (.inl (some (.int (nI f))), Z) := q1
    have hnz := nI_nz (nn := i) (by omega) w6
    rw [s_S_isSame_178]
    simp only [↓reduceIte, s_S_isSame_180, s_S_isSame_181, s_S_isSame_184, s_S_isSame_185, s_S_isSame_188, s_S_isSame_189, s_S_isSame_192, s_S_isSame_194, s_S_isSame_195, s_S_isSame_197, s_S_isSame_198, s_S_isSame_200, s_S_isSame_203, s_S_isSame_205, s_S_isSame_206, s_S_isSame_208, s_S_isSame_211, s_S_isSame_213, s_S_isSame_214, s_S_isSame_215, s_S_isSame_218, s_S_isSame_219, s_S_isSame_221, s_S_isSame_224, s_S_isSame_226, s_S_isSame_227, s_S_isSame_228, s_S_isSame_231, s_S_isSame_232, s_S_isSame_234, s_S_isSame_237, s_S_isSame_239, s_S_isSame_240, s_S_isSame_241, s_S_isSame_244, s_S_isSame_245, s_S_isSame_247, s_S_isSame_250, s_S_isSame_252, s_S_isSame_254, s_S_isSame_255, s_S_isSame_258, s_S_isSame_259, s_S_isSame_261, s_S_isSame_264, s_S_isSame_266, s_S_isSame_268, s_S_isSame_269, s_S_isSame_272, s_S_isSame_273, s_S_isSame_275, s_S_isSame_278, s_S_isSame_280, s_S_isSame_282, s_S_isSame_283, s_S_isSame_286, s_S_isSame_287, s_S_isSame_289, s_S_isSame_292, s_S_isSame_293, s_S_isSame_295, s_S_isSame_298, s_S_isSame_301, s_S_isSame_302, s_S_isSame_304, s_S_isSame_307, s_S_isSame_309, s_S_isSame_310, s_S_isSame_311, s_S_isSame_313, s_S_isSame_314, s_S_isSame_315, s_S_isSame_318, s_S_isSame_320, s_S_isSame_321, s_S_isSame_322, s_S_isSame_324, s_S_isSame_325, s_S_isSame_326, s_S_isSame_329, s_S_isSame_330, s_S_isSame_333, s_S_isSame_334, s_S_isSame_337, s_S_isSame_338, s_S_isSame_340, s_S_isSame_343, s_S_isSame_345, s_S_isSame_348, s_S_isSame_349, s_S_isSame_351, s_S_isSame_354, s_S_isSame_356, s_S_isSame_359, s_S_isSame_360, s_S_isSame_363, s_S_isSame_364, s_S_isSame_367, s_S_isSame_369, s_S_isSame_372, s_S_isSame_373, s_S_isSame_375, s_S_isSame_378, s_S_isSame_380, s_S_isSame_381, s_S_isSame_382, s_S_isSame_385, s_S_isSame_386, s_S_isSame_387, s_S_isSame_388, s_S_isSame_390, s_S_isSame_392, s_S_isSame_393, s_S_isSame_396, s_S_isSame_397, s_S_isSame_399, s_S_isSame_401, s_S_isSame_404, s_S_isSame_405, s_S_isSame_407, s_S_isSame_409, s_S_isSame_412, s_S_isSame_415, s_S_isSame_416, s_S_isSame_417, s_S_isSame_420, s_S_isSame_423, s_S_isSame_424, s_S_isSame_426, s_S_isSame_428, s_S_isSame_429, s_S_isSame_430, s_S_isSame_431, s_S_isSame_432, s_S_isSame_435, s_S_isSame_437, s_S_isSame_439, s_S_isSame_440, s_S_isSame_441, s_S_isSame_444, s_S_isSame_445, s_S_isSame_446, s_S_isSame_448, s_S_isSame_449, s_S_isSame_452, s_S_isSame_454, s_S_isSame_456, s_S_isSame_457, s_S_isSame_458, s_S_isSame_461, s_S_isSame_462, s_S_isSame_463, s_S_isSame_465, s_S_isSame_466, s_S_isSame_469, s_S_isSame_471, s_S_isSame_472, s_S_isSame_473, s_S_isSame_474, s_S_isSame_477, s_S_isSame_478, s_S_isSame_479, s_S_isSame_480, s_S_isSame_481, s_S_isSame_484, s_S_isSame_486, s_S_isSame_487, s_S_isSame_490, s_S_isSame_493, s_S_isSame_494, s_S_isSame_497, s_S_isSame_498, s_S_isSame_501, s_S_isSame_502, s_S_isSame_505, s_S_isSame_506, s_S_isSame_509, s_S_isSame_510, s_S_isSame_513, s_S_isSame_514, s_S_isSame_517, s_S_isSame_518, s_S_isSame_521, s_S_isSame_522, s_S_isSame_523, s_S_isSame_524, s_S_isSame_527, s_S_isSame_528, s_S_isSame_529, s_S_isSame_530, s_S_isSame_531, s_S_isSame_534, s_S_isSame_535, s_S_isSame_538, s_S_isSame_539, not_false_eq_true, Nat.reduceLT, Nat.reduceAdd, true_and, and_true, if_true, if_false, ite_true, ite_false, xnb_0, xnb_1, xnb_b, xk_v, xk_n, xf_of r1, xll_10, xlg_10_0, xlg_10_1, xlg_10_2, xlg_10_3, xlg_10_4, xlg_10_5, xlg_10_6, xlg_10_7, xlg_10_8, xln_A r4, Option.isSome_some, Option.getD_some, nge (Nat.le_refl i) (show i < 2147483648 by omega), nI_n0 f (by omega), q1', q2, hcl, eq_false hnz, eq_true (mn_ok (v := z) hnz), mean_eq (v := z) hnz]
    try rfl
  | m + 1, i, z, w, H, j5, j6, j7, him, hI, hz, hw => by
    have hin : i < nn := by omega
    have a1 := fun (Q : xR → Prop) => is_a (E := E) (d := d) (Q := Q) (z := z) (w := w) (j5 := j5) (j6 := j6) (j7 := j7) hS hI hin
    have hI1 : jI E ro ru nk nn lo hi Kb Ks ep b nm s co rw' n (xnew H (xarI 10 (msr a b t s nk i)) 10) a t := jI_up hS hI (fun n hn => by rw [xnew_g, if_neg (by omega)]) (Nat.le_succ _)
    have a2 := fun (Q : xR → Prop) => is_b (E := E) (d := d) (Q := Q) (z := z) (w := w) (j7 := j7) (v := rvC E a b t s nk i) (ru := ru) hS hI1.1 hin
    obtain ⟨Y, a3, hI2, y2⟩ := is_c (E := E) (d := d) (z := z) (w := w) (j7 := j7) hS hI1 hin
    have a4 := fun (Q : xR → Prop) => is_d (E := E) (d := d) (Q := Q) (z := z) (w := w) (v := rvC E a b t s nk i) hS hI2 hin 4 0 (by omega)
    have hw' : w = -1 ∨ ∃ f, f < nn ∧ w = nI f := hw.elim (fun q => Or.inl q.2) fun ⟨f, _, f1, f2, _⟩ => Or.inr ⟨f, f1, f2⟩
    have a5 := fun (Q : xR → Prop) => is_e (E := E) (d := d) (Q := Q) (H := Y) (a := a) (t := t) (ru := ru) (z := z) (x := nI 4) (v := rvC E a b t s nk i) hS hin hw'
    obtain ⟨X, x1, x2, x3, x4⟩ := l_is hS m (i + 1) (z + a 7 i) (if w < 0 then nI i else if a 7 w.toNatClampNeg < a 7 i ∨ (a 7 i = a 7 w.toNatClampNeg ∧ a 5 w.toNatClampNeg < a 5 i) then nI i else w) Y (some (.ref (ad (20 + i)))) (some (.int (rvC E a b t s nk i))) (some (.int (nI 4))) (by omega) hI2 hz (by
      refine Or.inr ?_
      rcases hw with ⟨q1, q2⟩ | ⟨f, q0, q1, q2, q3⟩
      · subst q1
        refine ⟨0, by omega, by omega, by rw [q2, if_pos (by decide)], ?_⟩
        rw [show nn - 1 = m by omega]
      · have q4 : ldR a i (m + 1) f = ldR a (i + 1) m (if a 7 f < a 7 i ∨ (a 7 i = a 7 f ∧ a 5 f < a 5 i) then i else f) := rfl
        rw [q4] at q3
        refine ⟨if a 7 f < a 7 i ∨ (a 7 i = a 7 f ∧ a 5 f < a 5 i) then i else f, by omega, by split <;> omega, ?_, q3⟩
        rw [q2, if_neg (of_eq_false (nI_n0 f (by have := hS.2.2.2.2.1.2.2.2.2.2.1; omega))), ncl (show f < 2147483648 by have := hS.2.2.2.2.1.2.2.2.2.2.1; omega)]
        split <;> rfl)
    have n1 : (xnew H (xarI 10 (msr a b t s nk i)) 10).2.1 = H.2.1 + 1 := rfl
    have n2 : (xnew H (xarI 10 (msr a b t s nk i)) 10).2.2 = H.2.2 + 10 := rfl
    have y21 : Y.2.1 = H.2.1 + 1 := (congrArg Prod.fst y2).trans n1
    have y22 : Y.2.2 = H.2.2 + 10 := (congrArg Prod.snd y2).trans n2
    exact ⟨X, fun Q => (a1 Q).trans ((a2 Q).trans ((a3 Q).trans ((a4 Q).trans ((a5 Q).trans (x1 Q))))), by omega, by omega, by omega⟩
theorem f_S_isSame (hS : jS E ad ro nk nc nn lo hi b s cnt rs re co rw') (hI : jI E ro ru nk nn lo hi Kb Ks ep b nm s co rw' n H a t) : ∃ X, (∀ Q, xcall E xprog (d + 6) 119 [.ref (ad 1), .ref 0] (jH ad ro b s nk nc nn ru H a t) Q = Q (.inl (some (.int 1)), (jH ad ro b s nk nc nn ru X a t))) ∧ X.2.1 ≤ H.2.1 + 6 ∧ X.2.2 ≤ H.2.2 + 60 := by
  obtain ⟨X, x1, x2, x3, x4⟩ := l_is (E := E) (d := d) (ru := ru) hS nn 0 0 (-1) H none none none (by omega) hI rfl (Or.inl ⟨rfl, rfl⟩)
  have h6 := hS.2.2.2.2.1.2.2.2.2.2.1
  refine ⟨X, fun Q => ?_, by omega, by omega⟩
  rw [e_S_isSame, is_top hS hI.1]
  exact (is_kets hS hI.1 nk 0 (by omega)).trans (x1 Q)
end SAME
