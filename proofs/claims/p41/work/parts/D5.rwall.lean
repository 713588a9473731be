/-! ===== a rule's objects write it ===== -/
section RWALL
variable {E : xE} {d D : Nat} {Q : xR → Prop} {H X H0 : xH} {p v n m q a b lo hi k fr dp r cb sl u c : Nat} {fl x y : Int32} {jk : Option Value} {L T : List Nat}
def flI (b : Bool) : Int32 := if b = true then 1 else 0
theorem rn_cast {s t : Nat × List (Option Value) × List Value} {T2 : List Nat} {ym : xM} (h : rnT E D ym lo q H0 s t T u) (e : T = T2) : rnT E D ym lo q H0 s t T2 u := e ▸ h
theorem r_write {lo0 : Nat} : ∀ (n d fr dp p : Nat) (free : Bool), ruH E H0 lo0 hi (n + 1) fr dp p → dp + n = 3 → hi ≤ lo → wSp E (d + 7 + n) lo q H0 p (flI free) (wrt E (n + 1) fr dp free) (wN (n + 1)) := by
  intro n
  induction n with
  | zero =>
    rintro d fr dp p free ⟨h1, h2, r, h, h3, h4, h5, h6, h7⟩ hd hhi
    have hl := rud_leaf (E := E) (fr := fr) (dp := dp) (by omega)
    unfold wrt
    by_cases c0 : rud E fr dp = 0
    · rw [if_pos c0]
      rw [c0] at h5
      exact wSp_of (rn_mono (rn_n h5 (by omega) (run_0 c0)) (by unfold wN; omega))
    · have c1 : rud E fr dp = 1 := by omega
      rw [if_neg c0, if_pos c1]
      rw [c1] at h5
      exact wSp_of (rn_mono (rn_m h5 (by omega) (run_1 c1)) (by unfold wN; omega))
  | succ n ih =>
    rintro d fr dp p free ⟨h1, h2, r, h, h3, h4, h5, h6, h7⟩ hd hhi
    have hdo := rud_le (E := E) fr dp
    have hu := rua_le (E := E) fr dp
    rw [show d + 7 + (n + 1) = (d + 1 + n + 6) + 1 by omega]
    have hpl : p < lo := by omega
    have hrl : r < lo := by omega
    have hw : wN (n + 1 + 1) = 1 + 3 * wN (n + 1) := rfl
    have hsub : ∀ k, k < rua E fr dp → ∃ c, h k = some c ∧ xcl H0 c = 9 ∧ c < lo ∧ ∀ b : Bool, wSp E (d + 1 + n + 6) lo q H0 c (flI b) (wrt E (n + 1) (fr * 2 + 3 + k) (dp + 1) b) (wN (n + 1)) := by
      intro k hk
      obtain ⟨c, c1, c2⟩ := h7 k hk
      have c3 := c2
      obtain ⟨-, u0, r2, h2, -, -, u1, -⟩ := c3
      refine ⟨c, c1, xc_of u1, by omega, fun b => ?_⟩
      rw [show d + 1 + n + 6 = d + 7 + n by omega]
      exact ih d _ _ c b c2 (by omega) hhi
    rw [wrt]
    by_cases c0 : rud E fr dp = 0
    · rw [if_pos c0]
      rw [c0] at h5
      exact wSp_of (rn_mono (rn_n h5 hpl (run_0 c0)) (by omega))
    rw [if_neg c0]
    by_cases c1 : rud E fr dp = 1
    · rw [if_pos c1]
      rw [c1] at h5
      exact wSp_of (rn_mono (rn_m h5 hpl (run_1 c1)) (by omega))
    rw [if_neg c1]
    have hu1 : 0 < rua E fr dp := by
      unfold rua
      rw [if_neg (by omega)]
      repeat' split
      all_goals omega
    obtain ⟨k0, a1, a2, a3, a4⟩ := hsub 0 hu1
    rw [show fr * 2 + 3 + 0 = fr * 2 + 3 from rfl] at a4
    by_cases c2 : rud E fr dp = 2
    · rw [if_pos c2]
      exact wSp_of (rn_mono (rn_tr (rn2_a h5 hpl c2) (rn2_b h5 hpl c2 h6 hrl hu1 hu a1 a2 a3 (a4 false))) (by omega))
    rw [if_neg c2]
    by_cases c3 : rud E fr dp = 3
    · rw [if_pos c3]
      exact wSp_of (rn_mono (rn_tr (rn3_a h5 hpl c3) (rn3_b h5 hpl c3 h6 hrl hu1 hu a1 a2 a3 (a4 false))) (by omega))
    rw [if_neg c3]
    have hu2 : 1 < rua E fr dp := by unfold rua; rw [if_neg (by omega), if_neg (by omega)]; split <;> omega
    obtain ⟨k1, b1, b2, b3, b4⟩ := hsub 1 hu2
    rw [show fr * 2 + 3 + 1 = fr * 2 + 4 from rfl] at b4
    by_cases c14 : rud E fr dp = 14
    · rw [if_pos c14]
      exact wSp_of (rn_mono (rn_tr (rn14_a h5 hpl c14) (rn_tr (rn14_b h5 hpl c14 h6 hrl hu1 hu a1 a2 a3 (a4 true)) (rn_tr (rn14_c h5 hpl c14) (rn_tr (rn14_d h5 hpl c14 h6 hrl hu2 hu b1 b2 b3 (b4 true)) (rn14_e h5 hpl c14))))) (by omega))
    rw [if_neg c14]
    by_cases c15 : rud E fr dp = 15
    · rw [if_pos c15]
      exact wSp_of (rn_mono (rn_tr (rn15_a h5 hpl c15) (rn_tr (rn15_b h5 hpl c15 h6 hrl hu1 hu a1 a2 a3 (a4 true)) (rn_tr (rn15_c h5 hpl c15) (rn_tr (rn15_d h5 hpl c15 h6 hrl hu2 hu b1 b2 b3 (b4 true)) (rn15_e h5 hpl c15))))) (by omega))
    rw [if_neg c15]
    by_cases c16 : rud E fr dp = 16
    · rw [if_pos c16]
      have hu3 : 2 < rua E fr dp := by unfold rua; rw [if_neg (by omega), if_neg (by omega), if_neg (by omega)]; omega
      obtain ⟨k2, d1, d2, d3, d4⟩ := hsub 2 hu3
      rw [show fr * 2 + 3 + 2 = fr * 2 + 5 from rfl] at d4
      have mid : ∀ fl : Int32, _ := fun fl => rn_tr (rn16_a (d := d + 1 + n) (q := q) (fl := fl) h5 hpl c16) (rn_tr (rn16_b (fl := fl) h5 hpl c16 h6 hrl hu1 hu a1 a2 a3 (a4 true)) (rn_tr (rn16_c (fl := fl) h5 hpl c16) (rn_tr (rn16_d (fl := fl) h5 hpl c16 h6 hrl hu2 hu b1 b2 b3 (b4 true)) (rn_tr (rn16_e (fl := fl) h5 hpl c16) (rn16_h (fl := fl) h5 hpl c16 h6 hrl hu3 hu d1 d2 d3 (d4 true))))))
      cases free
      · exact wSp_of (rn_mono (rn_cast (rn_tr (rn16_g h5 hpl c16) (rn_tr (mid 0) (rn16_j h5 hpl c16))) (by simp)) (by omega))
      · exact wSp_of (rn_mono (rn_cast (rn_tr (rn16_f h5 hpl c16) (rn_tr (mid 1) (rn16_i h5 hpl c16))) (by simp)) (by omega))
    · rw [if_neg c16]
      have g1 : 4 ≤ rud E fr dp := by omega
      have g2 : rud E fr dp ≤ 13 := by omega
      have mid : ∀ fl : Int32, _ := fun fl => rn_tr (rns_b (d := d + 1 + n) (q := q) (fl := fl) h5 hpl g1 g2 h6 hrl hu1 hu a1 a2 a3 (a4 false)) (rn_tr (rns_c (fl := fl) h5 hpl g1 g2) (rn_tr (rns_d (fl := fl) h5 hpl g1 g2 h6 hrl hu2 hu b1 b2 b3 (b4 false)) (rns_e (fl := fl) h5 hpl g1 g2)))
      cases free
      · exact wSp_of (rn_mono (rn_cast (rn_tr (rns_g h5 hpl g1 g2) (rn_tr (mid 0) (rns_j h5 hpl g1 g2))) (by simp)) (by omega))
      · exact wSp_of (rn_mono (rn_cast (rn_tr (rns_f h5 hpl g1 g2) (rn_tr (mid 1) (rns_i h5 hpl g1 g2))) (by simp)) (by omega))
/-- what is written are the rule's tokens -/
theorem txt_c (t : tok) (r : List tok) : txt (t :: r) = bln t.1 ++ (tby t ++ txt r) := rfl
theorem tby_m {k : Nat} (h : k < 10) (bl : Bool) : tby (bl, 116 + k, 0) = txL k := by
  obtain ⟨h0, h1, h2, h3, h4, h5, h6, h7, h8, h9⟩ := txL_is
  rcases (show k = 0 ∨ k = 1 ∨ k = 2 ∨ k = 3 ∨ k = 4 ∨ k = 5 ∨ k = 6 ∨ k = 7 ∨ k = 8 ∨ k = 9 by omega) with e | e | e | e | e | e | e | e | e | e <;> subst e
  · rw [h0]; rfl
  · rw [h1]; rfl
  · rw [h2]; rfl
  · rw [h3]; rfl
  · rw [h4]; rfl
  · rw [h5]; rfl
  · rw [h6]; rfl
  · rw [h7]; rfl
  · rw [h8]; rfl
  · rw [h9]; rfl
theorem tby_s {k : Nat} (h1 : 4 ≤ k) (h2 : k ≤ 13) : bln (sgb k) ++ (tby (sgb k, sgk k, 0) ++ bln (sgb k)) = txL (10 + (k - 4)) := by
  obtain ⟨a0, a1, a2, a3, a4, a5, a6, a7, a8, a9⟩ := txL_sg
  rcases (show k = 4 ∨ k = 5 ∨ k = 6 ∨ k = 7 ∨ k = 8 ∨ k = 9 ∨ k = 10 ∨ k = 11 ∨ k = 12 ∨ k = 13 by omega) with e | e | e | e | e | e | e | e | e | e <;> subst e
  · exact a0.symm
  · exact a1.symm
  · exact a2.symm
  · exact a3.symm
  · exact a4.symm
  · exact a5.symm
  · exact a6.symm
  · exact a7.symm
  · exact a8.symm
  · exact a9.symm
theorem wrt_txt : ∀ (n fr dp : Nat) (free bl : Bool), dp + n = 3 → txt (rtk E (n + 1) fr dp free bl) = bln bl ++ wrt E (n + 1) fr dp free := by
  intro n
  induction n with
  | zero =>
    intro fr dp free bl hd
    have hl := rud_leaf (E := E) (fr := fr) (dp := dp) (by omega)
    rw [rtk, wrt]
    by_cases c0 : rud E fr dp = 0
    · rw [if_pos c0, if_pos c0]
      show bln bl ++ (dcL _ ++ []) = _
      rw [List.append_nil]
    · have c1 : rud E fr dp = 1 := by omega
      rw [if_neg c0, if_pos c1, if_neg c0, if_pos c1, txt_c, tby_m (run_1 c1)]
      show bln bl ++ (_ ++ []) = _
      rw [List.append_nil]
  | succ n ih =>
    intro fr dp free bl hd
    have hi := fun (fr' : Nat) (f b : Bool) => ih fr' (dp + 1) f b (by omega)
    obtain ⟨-, l33, l34, l35, l36, l37, l38, l39, l40, l41, l42⟩ := txL_ru
    have hdo := rud_le (E := E) fr dp
    rw [rtk, wrt]
    by_cases c0 : rud E fr dp = 0
    · rw [if_pos c0, if_pos c0]
      show bln bl ++ (dcL _ ++ []) = _
      rw [List.append_nil]
    rw [if_neg c0, if_neg c0]
    by_cases c1 : rud E fr dp = 1
    · rw [if_pos c1, if_pos c1, txt_c, tby_m (run_1 c1)]
      show bln bl ++ (_ ++ []) = _
      rw [List.append_nil]
    rw [if_neg c1, if_neg c1]
    have w45 : ∀ b, tby (b, 45, 0) = [45] := fun _ => rfl
    have w113 : ∀ b, tby (b, 113, 0) = wby 13 := fun _ => rfl
    have w114 : ∀ b, tby (b, 114, 0) = wby 14 := fun _ => rfl
    have w115 : ∀ b, tby (b, 115, 0) = wby 15 := fun _ => rfl
    have w108 : ∀ b, tby (b, 108, 0) = wby 8 := fun _ => rfl
    have w109 : ∀ b, tby (b, 109, 0) = wby 9 := fun _ => rfl
    have w110 : ∀ b, tby (b, 110, 0) = wby 10 := fun _ => rfl
    have w40 : ∀ b, tby (b, 40, 0) = [40] := fun _ => rfl
    have w41 : ∀ b, tby (b, 41, 0) = [41] := fun _ => rfl
    have w44 : ∀ b, tby (b, 44, 0) = [44] := fun _ => rfl
    have bt : bln true = [32] := rfl
    have bf : bln false = [] := rfl
    have tn : txt [] = [] := rfl
    by_cases c2 : rud E fr dp = 2
    · rw [if_pos c2, if_pos c2, txt_c, hi, w45, l33, bf]; simp
    rw [if_neg c2, if_neg c2]
    by_cases c3 : rud E fr dp = 3
    · rw [if_pos c3, if_pos c3, txt_c, hi, w113, l34, bt]; simp
    rw [if_neg c3, if_neg c3]
    by_cases c14 : rud E fr dp = 14
    · rw [if_pos c14, if_pos c14]
      simp only [txt_c, txt_app, hi, w114, w40, w41, w44, l35, l37, l38, bf, tn, List.nil_append, List.append_nil, List.append_assoc]
    rw [if_neg c14, if_neg c14]
    by_cases c15 : rud E fr dp = 15
    · rw [if_pos c15, if_pos c15]
      simp only [txt_c, txt_app, hi, w115, w40, w41, w44, l36, l37, l38, bf, tn, List.nil_append, List.append_nil, List.append_assoc]
    rw [if_neg c15, if_neg c15]
    by_cases c16 : rud E fr dp = 16
    · rw [if_pos c16, if_pos c16]
      cases free
      · simp [txt_c, txt_app, hi, w108, w109, w110, w40, w41, l38, l39, l40, l41, l42, bf, bt, tn]
      · simp [txt_c, txt_app, hi, w108, w109, w110, w40, w41, l38, l39, l40, l41, l42, bf, bt, tn]
    · rw [if_neg c16, if_neg c16, ← tby_s (by omega) (by omega)]
      cases free
      · simp only [Bool.false_eq_true, if_false, txt_c, txt_app, hi, w40, w41, l38, l39, bf, tn, List.nil_append, List.append_nil, List.append_assoc]
      · simp only [if_true, txt_c, txt_app, hi, w40, w41, l38, l39, bf, tn, List.nil_append, List.append_nil, List.append_assoc]
end RWALL
