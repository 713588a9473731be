/-! ===== are there more than 400 tokens: the law's count ===== -/
section ISOVER
variable {E : xE} {d D : Nat} {Q : xR → Prop} {H X : xH} {p v n m i q lo cb sl : Nat} {L : List Nat}
def clsO (c : Nat) : Nat := if 97 ≤ c ∧ c ≤ 122 then 1 else if 48 ≤ c ∧ c ≤ 57 then 2 else if c = 32 then 0 else 3
def incO (k l : Nat) : Nat := if k = 3 ∨ (0 < k ∧ ¬ k = l) then 1 else 0
def cntO : List Nat → Nat → Nat → Nat
  | [], _, z => z
  | c :: r, l, z => cntO r (clsO c) (z + incO (clsO c) l)
theorem cnt_one {c l z : Nat} {r : List Nat} : cntO (c :: r) l z = cntO r (clsO c) (z + incO (clsO c) l) := rfl
theorem cnt_same {k : Nat} (hk : k = 1 ∨ k = 2) : ∀ (w r : List Nat) (z : Nat), (∀ c ∈ w, clsO c = k) → cntO (w ++ r) k z = cntO r k z
  | [], _, _, _ => rfl
  | c :: w, r, z, h => by
    have hc := h c (by simp)
    show cntO (w ++ r) (clsO c) (z + incO (clsO c) k) = _
    rw [hc, show incO k k = 0 by unfold incO; rw [if_neg (by omega)], Nat.add_zero]
    exact cnt_same hk w r z fun c' h' => h c' (by simp [h'])
/-- the classes of tokens here: a sign's is 3 -/
def tcO (t : tok) : Nat := if tcl t = 0 then 3 else tcl t
theorem cnt_tok {t : tok} (h : tkO t) {l z : Nat} {r : List Nat} (ha : t.1 = true ∨ l = 0 ∨ l = 3 ∨ ¬ l = tcl t) : cntO (bln t.1 ++ (tby t ++ r)) l z = cntO r (tcO t) (z + 1) := by
  have hb : ∃ l', cntO (bln t.1 ++ (tby t ++ r)) l z = cntO (tby t ++ r) l' z ∧ (l' = 0 ∨ l' = 3 ∨ ¬ l' = tcl t) := by
    cases e : t.1
    · refine ⟨l, rfl, ?_⟩
      rw [e] at ha
      rcases ha with ha | ha
      · cases ha
      · exact ha
    · exact ⟨0, rfl, Or.inl rfl⟩
  obtain ⟨l', e, hl'⟩ := hb
  rw [e]
  rcases tby_ok h with ⟨h1, h2, -, h4, -⟩ | ⟨h1, h2, -, h4, -⟩ | hh
  · have hcl : ∀ c ∈ tby t, clsO c = 1 := fun c hc => by unfold clsO; rw [if_pos (h4 c hc)]
    cases hw : tby t with
    | nil => rw [hw] at h2; exact absurd h2 (by decide)
    | cons c w =>
      rw [hw] at hcl
      show cntO (w ++ r) (clsO c) (z + incO (clsO c) l') = _
      rw [hcl c (by simp), show incO 1 l' = 1 by unfold incO; rw [if_pos (Or.inr ⟨by omega, by omega⟩)], cnt_same (Or.inl rfl) w r _ fun c' h' => hcl c' (by simp [h'])]
      unfold tcO; rw [h1]; rfl
  · have hcl : ∀ c ∈ tby t, clsO c = 2 := fun c hc => by
      have := h4 c hc
      unfold clsO; rw [if_neg (by omega), if_pos this]
    cases hw : tby t with
    | nil => rw [hw] at h2; exact absurd h2 (by decide)
    | cons c w =>
      rw [hw] at hcl
      show cntO (w ++ r) (clsO c) (z + incO (clsO c) l') = _
      rw [hcl c (by simp), show incO 2 l' = 1 by unfold incO; rw [if_pos (Or.inr ⟨by omega, by omega⟩)], cnt_same (Or.inr rfl) w r _ fun c' h' => hcl c' (by simp [h'])]
      unfold tcO; rw [h1]; rfl
  · obtain ⟨h1, h2, h3⟩ := hh
    obtain ⟨-, g1, g2, g3, -⟩ := sg_in _ h3
    have hc : clsO t.2.1 = 3 := by unfold clsO; rw [if_neg g1, if_neg g2, if_neg g3]
    rw [h2]
    show cntO r (clsO t.2.1) (z + incO (clsO t.2.1) l') = _
    rw [hc, show incO 3 l' = 1 by unfold incO; rw [if_pos (Or.inl rfl)]]
    unfold tcO; rw [h1]; rfl
theorem cnt_all : ∀ (T : List tok) (c l z : Nat), allO T → adjF c T → (l = 0 ∨ l = c ∨ (c = 0 ∧ l = 3)) → cntO (txt T) l z = z + T.length
  | [], _, _, _, _, _, _ => rfl
  | t :: T, c, l, z, hO, ha, hl => by
    rw [txt_c, cnt_tok (hO t (by simp)) (by rcases ha.1 with g | g | g <;> rcases hl with e | e | e <;> first | exact Or.inl g | omega), cnt_all T (tcl t) (tcO t) (z + 1) (fun x hx => hO x (by simp [hx])) ha.2 (by unfold tcO; split <;> omega)]
    simp only [List.length_cons]; omega
theorem l_ov (hs : sbAt lo cb sl H q L) (hl : L.length ≤ 50000) (h128 : ∀ c ∈ L, c < 128) : ∀ (m k l z : Nat) (j4 j5 : Option Value), k + m = L.length → l ≤ 3 → z ≤ k → xr E (d + 4) m_L_isOver Q (6, [some (.ref q), some (.int (nI z)), some (.int (nI l)), some (.int (nI k)), j4, j5], [], H) = Q (.inl (some (.int (xb (400 < cntO (L.drop k) l z)))), H)
  | 0, k, l, z, j4, j5, hk, hl3, hz => by
    have hlen := fun (Q : xR → Prop) => sb_length (E := E) (d := d + 2) (Q := Q) hs
    rw [s_L_isOver_6]
    have e : L.drop k = [] := List.drop_eq_nil_of_le (by omega)
    rw [e]
    show _ = Q (.inl (some (.int (xb (400 < z)))), H)
    unfold xb
    by_cases g : 400 < z
    · rw [if_pos g]
      simp only [↓reduceIte, s_L_isOver_7, s_L_isOver_8, s_L_isOver_11, s_L_isOver_105, s_L_isOver_106, s_L_isOver_109, s_L_isOver_112, s_L_isOver_113, s_L_isOver_116, s_L_isOver_117, not_false_eq_true, Nat.reduceLT, Nat.reduceAdd, true_and, and_true, if_true, if_false, ite_true, ite_false, xnb_0, xnb_1, xnb_b, xk_v, xk_n, sb_cl hs, hlen, nge (show L.length ≤ k by omega) (show k < 2147483648 by omega), show (400 < nI z) = True from (nI_lq (x := 400) (by omega) (by omega)).trans (eq_true g)]
    · rw [if_neg g]
      simp only [↓reduceIte, s_L_isOver_7, s_L_isOver_8, s_L_isOver_11, s_L_isOver_105, s_L_isOver_106, s_L_isOver_109, s_L_isOver_112, s_L_isOver_113, s_L_isOver_116, s_L_isOver_117, not_false_eq_true, Nat.reduceLT, Nat.reduceAdd, true_and, and_true, if_true, if_false, ite_true, ite_false, xnb_0, xnb_1, xnb_b, xk_v, xk_n, sb_cl hs, hlen, nge (show L.length ≤ k by omega) (show k < 2147483648 by omega), show (400 < nI z) = False from (nI_lq (x := 400) (by omega) (by omega)).trans (eq_false g)]
  | m + 1, k, l, z, j4, j5, hk, hl3, hz => by
    have hkl : k < L.length := by omega
    have hlen := fun (Q : xR → Prop) => sb_length (E := E) (d := d + 2) (Q := Q) hs
    have hch := fun (Q : xR → Prop) => sb_charAt (E := E) (d := d) (Q := Q) hs hl hkl h128
    have hc := h128 L[k] (List.getElem_mem hkl)
    have hgd : L.getD k 0 = L[k] := by rw [List.getD_eq_getElem?_getD, List.getElem?_eq_getElem hkl]; rfl
    rw [hgd] at hch
    have hd : L.drop k = L[k] :: L.drop (k + 1) := List.drop_eq_getElem_cons hkl
    have ih := fun l z j4 j5 h1 h2 => l_ov hs hl h128 m (k + 1) l z j4 j5 (by omega) h1 h2
    rw [hd, cnt_one, s_L_isOver_6]
    generalize L[k] = c at *
    have f97 : (nI c < 97) = (c < 97) := nI_lq (y := 97) (by omega) (by omega)
    have f122 : (122 < nI c) = (122 < c) := nI_lq (x := 122) (by omega) (by omega)
    have f48 : (nI c < 48) = (c < 48) := nI_lq (y := 48) (by omega) (by omega)
    have f57 : (57 < nI c) = (57 < c) := nI_lq (x := 57) (by omega) (by omega)
    have f32 : (nI c = 32) = (c = 32) := nI_q (y := 32) (by omega) (by omega)
    have n1 : (1 = nI l) = (1 = l) := nI_q (x := 1) (by omega) (by omega)
    have n2 : (2 = nI l) = (2 = l) := nI_q (x := 2) (by omega) (by omega)
    have z1 : nI z + 1 = nI (z + 1) := nI_ad z 1
    have z0 : nI z + 0 = nI (z + 0) := nI_ad z 0
    have k1 : nI k + 1 = nI (k + 1) := nI_ad k 1
    by_cases g1 : 97 ≤ c ∧ c ≤ 122
    · have ec : clsO c = 1 := by unfold clsO; rw [if_pos g1]
      rw [ec]
      by_cases e : 1 = l
      · rw [show incO 1 l = 0 by unfold incO; rw [if_neg (by omega)]]
        simp only [↓reduceIte, s_L_isOver_7, s_L_isOver_8, s_L_isOver_11, s_L_isOver_14, s_L_isOver_15, s_L_isOver_16, s_L_isOver_19, s_L_isOver_21, s_L_isOver_23, s_L_isOver_25, s_L_isOver_28, s_L_isOver_30, s_L_isOver_32, s_L_isOver_35, s_L_isOver_36, s_L_isOver_39, s_L_isOver_41, s_L_isOver_43, s_L_isOver_46, s_L_isOver_48, s_L_isOver_50, s_L_isOver_53, s_L_isOver_54, s_L_isOver_57, s_L_isOver_59, s_L_isOver_61, s_L_isOver_64, s_L_isOver_65, s_L_isOver_68, s_L_isOver_69, s_L_isOver_71, s_L_isOver_72, s_L_isOver_74, s_L_isOver_75, s_L_isOver_78, s_L_isOver_80, s_L_isOver_83, s_L_isOver_85, s_L_isOver_86, s_L_isOver_89, s_L_isOver_90, s_L_isOver_93, s_L_isOver_94, s_L_isOver_95, s_L_isOver_96, s_L_isOver_98, s_L_isOver_99, s_L_isOver_102, not_false_eq_true, Nat.reduceLT, Nat.reduceAdd, true_and, and_true, if_true, if_false, ite_true, ite_false, xnb_0, xnb_1, xnb_b, xk_v, xk_n, sb_cl hs, hlen, hch, nlt hkl (show L.length < 2147483648 by omega), f97, f122, f48, f57, f32, n1, n2, k1, eq_false (show ¬ c < 97 by omega), eq_false (show ¬ 122 < c by omega), show ((1 : Int32) = 3) = False from eq_false (by decide), show ((0 : Int32) < 1) = True from eq_true (by decide), eq_true e, z0]
        exact ih 1 (z + 0) _ _ (by omega) (by omega)
      · rw [show incO 1 l = 1 by unfold incO; rw [if_pos (by omega)]]
        simp only [↓reduceIte, s_L_isOver_7, s_L_isOver_8, s_L_isOver_11, s_L_isOver_14, s_L_isOver_15, s_L_isOver_16, s_L_isOver_19, s_L_isOver_21, s_L_isOver_23, s_L_isOver_25, s_L_isOver_28, s_L_isOver_30, s_L_isOver_32, s_L_isOver_35, s_L_isOver_36, s_L_isOver_39, s_L_isOver_41, s_L_isOver_43, s_L_isOver_46, s_L_isOver_48, s_L_isOver_50, s_L_isOver_53, s_L_isOver_54, s_L_isOver_57, s_L_isOver_59, s_L_isOver_61, s_L_isOver_64, s_L_isOver_65, s_L_isOver_68, s_L_isOver_69, s_L_isOver_71, s_L_isOver_72, s_L_isOver_74, s_L_isOver_75, s_L_isOver_78, s_L_isOver_80, s_L_isOver_83, s_L_isOver_85, s_L_isOver_86, s_L_isOver_89, s_L_isOver_90, s_L_isOver_93, s_L_isOver_94, s_L_isOver_95, s_L_isOver_96, s_L_isOver_98, s_L_isOver_99, s_L_isOver_102, not_false_eq_true, Nat.reduceLT, Nat.reduceAdd, true_and, and_true, if_true, if_false, ite_true, ite_false, xnb_0, xnb_1, xnb_b, xk_v, xk_n, sb_cl hs, hlen, hch, nlt hkl (show L.length < 2147483648 by omega), f97, f122, f48, f57, f32, n1, n2, k1, eq_false (show ¬ c < 97 by omega), eq_false (show ¬ 122 < c by omega), show ((1 : Int32) = 3) = False from eq_false (by decide), show ((0 : Int32) < 1) = True from eq_true (by decide), eq_false e, z1]
        exact ih 1 (z + 1) _ _ (by omega) (by omega)
    · by_cases g2 : 48 ≤ c ∧ c ≤ 57
      · have ec : clsO c = 2 := by unfold clsO; rw [if_neg g1, if_pos g2]
        rw [ec]
        by_cases e : 2 = l
        · rw [show incO 2 l = 0 by unfold incO; rw [if_neg (by omega)]]
          simp only [↓reduceIte, s_L_isOver_7, s_L_isOver_8, s_L_isOver_11, s_L_isOver_14, s_L_isOver_15, s_L_isOver_16, s_L_isOver_19, s_L_isOver_21, s_L_isOver_23, s_L_isOver_25, s_L_isOver_28, s_L_isOver_30, s_L_isOver_32, s_L_isOver_35, s_L_isOver_36, s_L_isOver_39, s_L_isOver_41, s_L_isOver_43, s_L_isOver_46, s_L_isOver_48, s_L_isOver_50, s_L_isOver_53, s_L_isOver_54, s_L_isOver_57, s_L_isOver_59, s_L_isOver_61, s_L_isOver_64, s_L_isOver_65, s_L_isOver_68, s_L_isOver_69, s_L_isOver_71, s_L_isOver_72, s_L_isOver_74, s_L_isOver_75, s_L_isOver_78, s_L_isOver_80, s_L_isOver_83, s_L_isOver_85, s_L_isOver_86, s_L_isOver_89, s_L_isOver_90, s_L_isOver_93, s_L_isOver_94, s_L_isOver_95, s_L_isOver_96, s_L_isOver_98, s_L_isOver_99, s_L_isOver_102, not_false_eq_true, Nat.reduceLT, Nat.reduceAdd, true_and, and_true, if_true, if_false, ite_true, ite_false, xnb_0, xnb_1, xnb_b, xk_v, xk_n, sb_cl hs, hlen, hch, nlt hkl (show L.length < 2147483648 by omega), f97, f122, f48, f57, f32, n1, n2, k1, eq_true (show c < 97 by omega), eq_false (show ¬ c < 48 by omega), eq_false (show ¬ 57 < c by omega), show ((2 : Int32) = 3) = False from eq_false (by decide), show ((0 : Int32) < 2) = True from eq_true (by decide), eq_true e, z0]
          exact ih 2 (z + 0) _ _ (by omega) (by omega)
        · rw [show incO 2 l = 1 by unfold incO; rw [if_pos (by omega)]]
          simp only [↓reduceIte, s_L_isOver_7, s_L_isOver_8, s_L_isOver_11, s_L_isOver_14, s_L_isOver_15, s_L_isOver_16, s_L_isOver_19, s_L_isOver_21, s_L_isOver_23, s_L_isOver_25, s_L_isOver_28, s_L_isOver_30, s_L_isOver_32, s_L_isOver_35, s_L_isOver_36, s_L_isOver_39, s_L_isOver_41, s_L_isOver_43, s_L_isOver_46, s_L_isOver_48, s_L_isOver_50, s_L_isOver_53, s_L_isOver_54, s_L_isOver_57, s_L_isOver_59, s_L_isOver_61, s_L_isOver_64, s_L_isOver_65, s_L_isOver_68, s_L_isOver_69, s_L_isOver_71, s_L_isOver_72, s_L_isOver_74, s_L_isOver_75, s_L_isOver_78, s_L_isOver_80, s_L_isOver_83, s_L_isOver_85, s_L_isOver_86, s_L_isOver_89, s_L_isOver_90, s_L_isOver_93, s_L_isOver_94, s_L_isOver_95, s_L_isOver_96, s_L_isOver_98, s_L_isOver_99, s_L_isOver_102, not_false_eq_true, Nat.reduceLT, Nat.reduceAdd, true_and, and_true, if_true, if_false, ite_true, ite_false, xnb_0, xnb_1, xnb_b, xk_v, xk_n, sb_cl hs, hlen, hch, nlt hkl (show L.length < 2147483648 by omega), f97, f122, f48, f57, f32, n1, n2, k1, eq_true (show c < 97 by omega), eq_false (show ¬ c < 48 by omega), eq_false (show ¬ 57 < c by omega), show ((2 : Int32) = 3) = False from eq_false (by decide), show ((0 : Int32) < 2) = True from eq_true (by decide), eq_false e, z1]
          exact ih 2 (z + 1) _ _ (by omega) (by omega)
      · by_cases g3 : c = 32
        · have ec : clsO c = 0 := by unfold clsO; rw [if_neg g1, if_neg g2, if_pos g3]
          rw [ec]
          rw [show incO 0 l = 0 by unfold incO; rw [if_neg (by omega)]]
          simp only [↓reduceIte, s_L_isOver_7, s_L_isOver_8, s_L_isOver_11, s_L_isOver_14, s_L_isOver_15, s_L_isOver_16, s_L_isOver_19, s_L_isOver_21, s_L_isOver_23, s_L_isOver_25, s_L_isOver_28, s_L_isOver_30, s_L_isOver_32, s_L_isOver_35, s_L_isOver_36, s_L_isOver_39, s_L_isOver_41, s_L_isOver_43, s_L_isOver_46, s_L_isOver_48, s_L_isOver_50, s_L_isOver_53, s_L_isOver_54, s_L_isOver_57, s_L_isOver_59, s_L_isOver_61, s_L_isOver_64, s_L_isOver_65, s_L_isOver_68, s_L_isOver_69, s_L_isOver_71, s_L_isOver_72, s_L_isOver_74, s_L_isOver_75, s_L_isOver_78, s_L_isOver_80, s_L_isOver_83, s_L_isOver_85, s_L_isOver_86, s_L_isOver_89, s_L_isOver_90, s_L_isOver_93, s_L_isOver_94, s_L_isOver_95, s_L_isOver_96, s_L_isOver_98, s_L_isOver_99, s_L_isOver_102, not_false_eq_true, Nat.reduceLT, Nat.reduceAdd, true_and, and_true, if_true, if_false, ite_true, ite_false, xnb_0, xnb_1, xnb_b, xk_v, xk_n, sb_cl hs, hlen, hch, nlt hkl (show L.length < 2147483648 by omega), f97, f122, f48, f57, f32, n1, n2, k1, eq_true (show c < 97 by omega), eq_true (show c < 48 by omega), eq_true g3, show ((0 : Int32) = 3) = False from eq_false (by decide), show ((0 : Int32) < 0) = False from eq_false (by decide), z0]
          exact ih 0 (z + 0) _ _ (by omega) (by omega)
        · have ec : clsO c = 3 := by unfold clsO; rw [if_neg g1, if_neg g2, if_neg g3]
          rw [ec]
          by_cases g4 : c < 97
          · by_cases g5 : c < 48
            · skip
              rw [show incO 3 l = 1 by unfold incO; rw [if_pos (by omega)]]
              simp only [↓reduceIte, s_L_isOver_7, s_L_isOver_8, s_L_isOver_11, s_L_isOver_14, s_L_isOver_15, s_L_isOver_16, s_L_isOver_19, s_L_isOver_21, s_L_isOver_23, s_L_isOver_25, s_L_isOver_28, s_L_isOver_30, s_L_isOver_32, s_L_isOver_35, s_L_isOver_36, s_L_isOver_39, s_L_isOver_41, s_L_isOver_43, s_L_isOver_46, s_L_isOver_48, s_L_isOver_50, s_L_isOver_53, s_L_isOver_54, s_L_isOver_57, s_L_isOver_59, s_L_isOver_61, s_L_isOver_64, s_L_isOver_65, s_L_isOver_68, s_L_isOver_69, s_L_isOver_71, s_L_isOver_72, s_L_isOver_74, s_L_isOver_75, s_L_isOver_78, s_L_isOver_80, s_L_isOver_83, s_L_isOver_85, s_L_isOver_86, s_L_isOver_89, s_L_isOver_90, s_L_isOver_93, s_L_isOver_94, s_L_isOver_95, s_L_isOver_96, s_L_isOver_98, s_L_isOver_99, s_L_isOver_102, not_false_eq_true, Nat.reduceLT, Nat.reduceAdd, true_and, and_true, if_true, if_false, ite_true, ite_false, xnb_0, xnb_1, xnb_b, xk_v, xk_n, sb_cl hs, hlen, hch, nlt hkl (show L.length < 2147483648 by omega), f97, f122, f48, f57, f32, n1, n2, k1, eq_true (show c < 97 by omega), eq_true (show c < 48 by omega), eq_false g3, show ((3 : Int32) = 3) = True from eq_true (by decide), show ((0 : Int32) < 3) = True from eq_true (by decide), z1]
              exact ih 3 (z + 1) _ _ (by omega) (by omega)
            · skip
              rw [show incO 3 l = 1 by unfold incO; rw [if_pos (by omega)]]
              simp only [↓reduceIte, s_L_isOver_7, s_L_isOver_8, s_L_isOver_11, s_L_isOver_14, s_L_isOver_15, s_L_isOver_16, s_L_isOver_19, s_L_isOver_21, s_L_isOver_23, s_L_isOver_25, s_L_isOver_28, s_L_isOver_30, s_L_isOver_32, s_L_isOver_35, s_L_isOver_36, s_L_isOver_39, s_L_isOver_41, s_L_isOver_43, s_L_isOver_46, s_L_isOver_48, s_L_isOver_50, s_L_isOver_53, s_L_isOver_54, s_L_isOver_57, s_L_isOver_59, s_L_isOver_61, s_L_isOver_64, s_L_isOver_65, s_L_isOver_68, s_L_isOver_69, s_L_isOver_71, s_L_isOver_72, s_L_isOver_74, s_L_isOver_75, s_L_isOver_78, s_L_isOver_80, s_L_isOver_83, s_L_isOver_85, s_L_isOver_86, s_L_isOver_89, s_L_isOver_90, s_L_isOver_93, s_L_isOver_94, s_L_isOver_95, s_L_isOver_96, s_L_isOver_98, s_L_isOver_99, s_L_isOver_102, not_false_eq_true, Nat.reduceLT, Nat.reduceAdd, true_and, and_true, if_true, if_false, ite_true, ite_false, xnb_0, xnb_1, xnb_b, xk_v, xk_n, sb_cl hs, hlen, hch, nlt hkl (show L.length < 2147483648 by omega), f97, f122, f48, f57, f32, n1, n2, k1, eq_true (show c < 97 by omega), eq_false (show ¬ c < 48 by omega), eq_true (show 57 < c by omega), eq_false g3, show ((3 : Int32) = 3) = True from eq_true (by decide), show ((0 : Int32) < 3) = True from eq_true (by decide), z1]
              exact ih 3 (z + 1) _ _ (by omega) (by omega)
          · skip
            rw [show incO 3 l = 1 by unfold incO; rw [if_pos (by omega)]]
            simp only [↓reduceIte, s_L_isOver_7, s_L_isOver_8, s_L_isOver_11, s_L_isOver_14, s_L_isOver_15, s_L_isOver_16, s_L_isOver_19, s_L_isOver_21, s_L_isOver_23, s_L_isOver_25, s_L_isOver_28, s_L_isOver_30, s_L_isOver_32, s_L_isOver_35, s_L_isOver_36, s_L_isOver_39, s_L_isOver_41, s_L_isOver_43, s_L_isOver_46, s_L_isOver_48, s_L_isOver_50, s_L_isOver_53, s_L_isOver_54, s_L_isOver_57, s_L_isOver_59, s_L_isOver_61, s_L_isOver_64, s_L_isOver_65, s_L_isOver_68, s_L_isOver_69, s_L_isOver_71, s_L_isOver_72, s_L_isOver_74, s_L_isOver_75, s_L_isOver_78, s_L_isOver_80, s_L_isOver_83, s_L_isOver_85, s_L_isOver_86, s_L_isOver_89, s_L_isOver_90, s_L_isOver_93, s_L_isOver_94, s_L_isOver_95, s_L_isOver_96, s_L_isOver_98, s_L_isOver_99, s_L_isOver_102, not_false_eq_true, Nat.reduceLT, Nat.reduceAdd, true_and, and_true, if_true, if_false, ite_true, ite_false, xnb_0, xnb_1, xnb_b, xk_v, xk_n, sb_cl hs, hlen, hch, nlt hkl (show L.length < 2147483648 by omega), f97, f122, f48, f57, f32, n1, n2, k1, eq_false (show ¬ c < 97 by omega), eq_true (show 122 < c by omega), eq_false (show ¬ c < 48 by omega), eq_true (show 57 < c by omega), eq_false g3, show ((3 : Int32) = 3) = True from eq_true (by decide), show ((0 : Int32) < 3) = True from eq_true (by decide), z1]
            exact ih 3 (z + 1) _ _ (by omega) (by omega)
theorem f_L_isOver (hs : sbAt lo cb sl H q L) (hl : L.length ≤ 50000) (h128 : ∀ c ∈ L, c < 128) : xcall E xprog (d + 5) 173 [.ref q] H Q = Q (.inl (some (.int (xb (400 < cntO L 0 0)))), H) := by
  rw [e_L_isOver]
  simp only [s_L_isOver_0, s_L_isOver_1, s_L_isOver_2, s_L_isOver_3, s_L_isOver_4, s_L_isOver_5, not_false_eq_true, Nat.reduceLT, Nat.reduceAdd, true_and, and_true, if_true, if_false, ite_true, ite_false, xnb_0, xnb_1, xnb_b, xk_v, xk_n]
  exact l_ov hs hl h128 L.length 0 0 0 _ _ (by omega) (by omega) (by omega)

end ISOVER
