/-! ===== a book of more than 400 tokens isn't read; what teach answers to a printed bay ===== -/
section OVER
variable {kd nu st : Nat → Int32} {vl wd : Nat → Int64} {E : xE} {EE l : Nat} {T : Nat → Nat}
theorem i64_32 : ∀ m, m < 10000 → (lN2 m).toInt32 = nI m := by
  intro m hm
  refine Int32.toInt_inj.mp ?_
  have e1 : (lN2 m).toInt = m := Int64.toInt_ofNat_of_lt (by omega)
  rw [Int64.toInt_toInt32, e1, nI_i (by omega)]
  exact Int.bmod_eq_of_le (by omega) (by omega)
theorem rd_over (hE : kd EE = 1) (hj : ∀ j, j < EE → ¬ kd j = 0) : ∀ (m ln x : Nat) (e w : Int32 × Int32) (k : bkS), x ≤ EE → EE < m + x → kOK k → ¬ (rdP kd nu st vl m ln x e w k).2.1.1 = 0
  | 0, _, _, _, _, _, h1, h2, _ => by omega
  | m + 1, ln, x, e, w, k, h1, h2, hk => by
    have h0 : ¬ kd x = 0 := by
      by_cases q : x = EE
      · rw [q, hE]; decide
      · exact hj x (by omega)
    obtain ⟨a1, a2, a3⟩ := ln_ok (nu := nu) (st := st) (vl := vl) (e := e) (w := w) (EE := EE) (kd := kd) (Or.inr hE) h1 hk ln
    show ¬ (if kd x = 0 then (x, e, w, k) else if (lnP kd nu st vl ln x e w k).1 = true ∧ kd (lnP kd nu st vl ln x e w k).2.1 = 59 then rdP kd nu st vl m (ln + 1) ((lnP kd nu st vl ln x e w k).2.1 + 1) (lnP kd nu st vl ln x e w k).2.2.1 (lnP kd nu st vl ln x e w k).2.2.2.1 (lnP kd nu st vl ln x e w k).2.2.2.2 else ((lnP kd nu st vl ln x e w k).2.1, (1, st (lnP kd nu st vl ln x e w k).2.1), (lnP kd nu st vl ln x e w k).2.2.2.1, (lnP kd nu st vl ln x e w k).2.2.2.2)).2.1.1 = 0
    rw [if_neg h0]
    split
    · rename_i h
      have h3 : ¬ (lnP kd nu st vl ln x e w k).2.1 = EE := fun q => by
        have := h.2
        rw [q, hE] at this
        exact absurd this (by decide)
      exact rd_over hE hj m (ln + 1) _ _ _ _ (by omega) (by omega) a3
    · show ¬ (1 : Int32) = 0
      decide
/-- a printed text's tokens, as the class's rows have them -/
theorem sq_of (hw : ∀ i, i < 26 → wd i = W32 i) {L : List tok} (hO : allO L) (ha : adjF 0 L) (hm : mat T 0 (txt L)) (hl : (txt L).length = l) {kd0 st0 : Nat → Int32} {vl0 : Nat → Int64} :
    (L.length ≤ 400 → lst T l wd = L.length ∧ kdT T l wd L.length = 0 ∧ sq (kdA T l wd kd0) (fun i => (vlA T l wd vl0 i).toInt32) (vlA T l wd vl0) 0 L) ∧ (400 < L.length → lst T l wd = 400 ∧ kdT T l wd 400 = 1) ∧
    ∀ x, x ≤ lst T l wd → kdT T l wd x = 2 → ∃ m, m ≤ 9999 ∧ (vaT T l x).toInt32 = nI m := by
  obtain ⟨c1, c2⟩ := cutA (l := l) hw L 0 0 0 hO ha hm (by rw [Nat.zero_add]; exact hl) rfl
  obtain ⟨l1, l2, l3, l4⟩ := lst_ok (T := T) (l := l) (wd := wd)
  rw [Nat.zero_add] at c2
  have c1' : ∀ j, j < L.length → sta T l j < l ∧ (j < 400 → kdT T l wd j = nI (L.getD j (false, 0, 0)).2.1 ∧ ((L.getD j (false, 0, 0)).2.1 = 2 ∨ (L.getD j (false, 0, 0)).2.1 = 3 → vaT T l j = tva (L.getD j (false, 0, 0)))) := by
    intro j hj
    have := c1 j hj
    rw [Nat.zero_add] at this
    exact this
  have hend : kdT T l wd L.length = 0 := by
    refine kdT_0 ?_
    unfold sta
    rw [c2]
    have : blk T l l = l := by unfold blk; rw [Nat.sub_self]; rfl
    rw [this]
    exact Nat.lt_irrefl _
  have hO' : ∀ j, j < L.length → tkO (L.getD j (false, 0, 0)) := fun j hj => hO _ (by rw [List.getD_eq_getElem?_getD, List.getElem?_eq_getElem hj]; exact List.getElem_mem hj)
  have hk : ∀ j, j < L.length → j < 400 → ¬ kdT T l wd j = 0 ∧ ¬ kdT T l wd j = 1 := by
    intro j hj h4
    rw [((c1' j hj).2 h4).1]
    have hb : 2 ≤ (L.getD j (false, 0, 0)).2.1 ∧ (L.getD j (false, 0, 0)).2.1 < 200 := by
      rcases hO' j hj with ⟨h, -⟩ | ⟨h, -⟩ | ⟨h, h'⟩ | h
      · omega
      · omega
      · omega
      · have := sg_in _ h
        have h7 : ∀ c ∈ sgs, 2 ≤ c := by decide
        have := h7 _ h
        omega
    exact ⟨nI_ne (b := 0) (by omega) (by omega) (by omega), nI_ne (b := 1) (by omega) (by omega) (by omega)⟩
  have hval : ∀ j, j < L.length → j < 400 → kdT T l wd j = 2 → vaT T l j = lN2 (L.getD j (false, 0, 0)).2.2 ∧ (L.getD j (false, 0, 0)).2.2 ≤ 9999 := by
    intro j hj h4 h2
    obtain ⟨d1, d2⟩ := (c1' j hj).2 h4
    rw [d1] at h2
    rcases hO' j hj with ⟨h, h'⟩ | ⟨h, -⟩ | ⟨h, h'⟩ | h
    · refine ⟨?_, h'⟩
      rw [d2 (Or.inl h)]
      unfold tva
      rw [if_pos h]
    · rw [h] at h2; exact absurd h2 (by decide)
    · exact absurd h2 (nI_ne (b := 2) (by omega) (by omega) (by omega))
    · have := sg_in _ h
      exact absurd h2 (nI_ne (b := 2) (by omega) (by omega) (by omega))
  have hlst : lst T l wd = if L.length ≤ 400 then L.length else 400 := by
    split
    · rename_i h4
      by_cases q : lst T l wd < L.length
      · have := hk _ q (by omega)
        rcases l3 with h | h
        · exact absurd h this.1
        · exact absurd h this.2
      · by_cases q2 : L.length < lst T l wd
        · exact absurd hend (l4 _ q2).1
        · omega
    · rename_i h4
      by_cases q : lst T l wd < 400
      · have := hk _ (by omega) q
        rcases l3 with h | h
        · exact absurd h this.1
        · exact absurd h this.2
      · omega
  refine ⟨fun h4 => ?_, fun h4 => ?_, fun x hx hx2 => ?_⟩
  · rw [if_pos h4] at hlst
    refine ⟨hlst, hend, ⟨fun j hj => ?_, fun j hj h3 => ?_⟩⟩
    · show kdA T l wd kd0 (0 + j) = _ ∧ (_ → (vlA T l wd vl0 (0 + j)).toInt32 = _)
      rw [Nat.zero_add, kdA_is (by omega), vlA_is (by omega)]
      obtain ⟨d1, d2⟩ := (c1' j hj).2 (by omega)
      refine ⟨d1, fun h2 => ?_⟩
      have := hval j hj (by omega) (by rw [d1, h2]; rfl)
      rw [this.1]
      exact i64_32 _ (by omega)
    · rw [Nat.zero_add, vlA_is (by omega)]
      obtain ⟨d1, d2⟩ := (c1' j hj).2 (by omega)
      rw [d2 (Or.inr h3)]
      unfold tva
      rw [if_neg (by omega)]
  · rw [if_neg (by omega)] at hlst
    refine ⟨hlst, ?_⟩
    unfold kdT
    rw [if_neg]
    intro h
    rcases h with h | h
    · omega
    · exact h (c1' 400 h4).1
  · rw [hlst] at hx
    by_cases q : x < L.length ∧ x < 400
    · have := hval x q.1 q.2 hx2
      exact ⟨_, this.2, by rw [this.1]; exact i64_32 _ (by omega)⟩
    · have : x = (if L.length ≤ 400 then L.length else 400) := by
        split at hx <;> rename_i h <;> simp only [h, if_true, if_false] <;> omega
      exfalso
      split at this
      · rw [this, hend] at hx2; exact absurd hx2 (by decide)
      · subst this
        rcases kdT_400 (T := T) (l := l) (wd := wd) with h | h <;> rw [h] at hx2 <;> exact absurd hx2 (by decide)
end OVER
