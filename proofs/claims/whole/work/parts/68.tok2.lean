/-! ===== both cut a tape alike: words, signs, all tokens ===== -/
section TOKREL2
variable {T : Nat → Nat} {l : Nat} {wd : Nat → Int64} {kd0 st0 : Nat → Int32} {vl0 : Nat → Int64}
def wlet (i : Nat) : List Nat := (xtb.getD i []).map (fun v => v.toNatClampNeg - 96)
def W32 (i : Nat) : Int64 := lN2 (eNb 32 (wlet i) 0)
theorem wl_ok : ∀ i, i < 26 → cdW i = lN2 (eNb 27 (wlet i) 0) ∧ (wlet i).length ≤ 8 ∧ ∀ y, y ∈ wlet i → 1 ≤ y ∧ y ≤ 26 := by
  unfold cdW wlet lN2 tln
  unfold cod
  rw [xtb_is]
  decide +kernel
theorem cm_w2 : ∀ i, i < 26 → cmK (100 + nI i) = 200 + nI i ∧ 100 + nI i = nI (100 + i) := by decide +kernel
theorem e_lt {b n : Nat} {L : List Nat} (hb : 27 ≤ b) (hb2 : b ≤ 32) (hL : okL L) (hn : L.length ≤ 8) : eNb b L 0 < 2 ^ 62 := by
  have h1 := eNb_lt hb L 0 hL
  have h2 : b ^ L.length ≤ 32 ^ 8 := Nat.le_trans (Nat.pow_le_pow_left hb2 _) (Nat.pow_le_pow_right (by omega) hn)
  have h3 : (32 : Nat) ^ 8 < 2 ^ 62 := by decide
  omega
theorem e_inj {b : Nat} {L M : List Nat} (hb : 27 ≤ b) (hb2 : b ≤ 32) (hL : okL L) (hn : L.length ≤ 8) (hM : okL M) (hm : M.length ≤ 8) : (lN2 (eNb b L 0) = lN2 (eNb b M 0)) ↔ L = M := by
  constructor
  · intro h
    exact eNb_inj hb L.length L M (Nat.le_refl _) hL hM (lN2_inj (e_lt (n := 0) hb hb2 hL hn) (e_lt (n := 0) hb hb2 hM hm) h)
  · intro h; rw [h]
theorem kow_kwm (hw : ∀ i, i < 26 → wd i = W32 i) {L : List Nat} (hL : okL L) (hn : L.length ≤ 8) : ∀ m i, i + m = 26 →
    kwm (lN2 (eNb 27 L 0)) i m = cmK (kow wd (lN2 (eNb 32 L 0)) i m) ∧ (kow wd (lN2 (eNb 32 L 0)) i m = 3 ∨ ∃ j, j < 26 ∧ kow wd (lN2 (eNb 32 L 0)) i m = nI (100 + j)) := by
  intro m
  induction m with
  | zero => intro i hi; exact ⟨show (2 : Int32) = cmK 3 by decide, Or.inl rfl⟩
  | succ m ih =>
    intro i hi
    obtain ⟨c1, c2, c3⟩ := wl_ok i (by omega)
    have e1 : (wd i = lN2 (eNb 32 L 0)) ↔ wlet i = L := by
      rw [hw i (by omega)]
      exact e_inj (by omega) (by omega) c3 c2 hL hn
    have e2 : (cdW i = lN2 (eNb 27 L 0)) ↔ wlet i = L := by
      rw [c1]
      exact e_inj (by omega) (by omega) c3 c2 hL hn
    unfold kwm kow
    by_cases p : wlet i = L
    · rw [if_pos (e1.mpr p), if_pos (e2.mpr p)]
      have := cm_w2 i (by omega)
      exact ⟨this.1.symm, Or.inr ⟨i, by omega, this.2⟩⟩
    · rw [if_neg (fun h => p (e1.mp h)), if_neg (fun h => p (e2.mp h))]
      exact ih (i + 1) (by omega)
theorem sg_ok : ∀ n, n < 256 → ¬ (97 ≤ n ∧ n ≤ 122) → ¬ (48 ≤ n ∧ n ≤ 57) → (if sgX (sb n) = 0 then (1 : Int32) else sb n) = cmK (if sgn (sb n) 0 12 < 0 then 1 else nI n) ∧ ((if sgn (sb n) 0 12 < 0 then (1 : Int32) else nI n) = 1 ∨ (n < 126 ∧ 4 < n ∧ (if sgn (sb n) 0 12 < 0 then (1 : Int32) else nI n) = nI n)) := by
  have h : ∀ v, sgn v 0 12 = (if v = 40 then 0 else if v = 41 then 1 else if v = 59 then 2 else if v = 44 then 3 else if v = 60 then 4 else if v = 62 then 5 else if v = 61 then 6 else if v = 43 then 7 else if v = 45 then 8 else if v = 42 then 9 else if v = 47 then 10 else if v = 37 then 11 else -1) := by
    intro v
    have e : ∀ j, tch 27 j = ([40, 41, 59, 44, 60, 62, 61, 43, 45, 42, 47, 37] : List Int32).getD j 0 := by
      intro j
      unfold tch
      rw [xtb_is]
      rfl
    simp only [sgn, e]
    simp only [List.getD_cons_zero, List.getD_cons_succ, eq_comm (b := v)]
    rfl
  simp only [h]
  decide +kernel
theorem i64_32 : ∀ m, m < 10000 → (lN2 m).toInt32 = nI m := by
  intro m hm
  refine Int32.toInt_inj.mp ?_
  have e1 : (lN2 m).toInt = m := Int64.toInt_ofNat_of_lt (by omega)
  rw [Int64.toInt_toInt32, e1, nI_i (by omega)]
  exact Int.bmod_eq_of_le (by omega) (by omega)
def vaA (T : Nat → Nat) (l a : Nat) : Int64 := vlo T l (eot T l a - a) a 0
theorem tok_rel (hT : ∀ i, T i < 256) (hw : ∀ i, i < 26 → wd i = W32 i) (a : Nat) (nu : Int32) (na : Int64) :
    tkK T l a = cmK (kdo T l wd a (eot T l a) (vaA T l a)) ∧ dmK (kdo T l wd a (eot T l a) (vaA T l a)) ∧
    (¬ kdo T l wd a (eot T l a) (vaA T l a) = 0 → ¬ kdo T l wd a (eot T l a) (vaA T l a) = 1 → tkA T l a = eot T l a) ∧
    (kdo T l wd a (eot T l a) (vaA T l a) = 2 → ∃ m, m ≤ 9999 ∧ (vaA T l a).toInt32 = nI m ∧ tkN T l a nu = nI m) ∧
    (kdo T l wd a (eot T l a) (vaA T l a) = 3 → ∃ L, okL L ∧ L.length ≤ 8 ∧ vaA T l a = lN2 (eNb 32 L 0) ∧ tkS T l a na = lN2 (eNb 27 L 0)) ∧ (¬ kdo T l wd a (eot T l a) (vaA T l a) = 0 → a < l) ∧ (a < l → ¬ kdo T l wd a (eot T l a) (vaA T l a) = 0) := by
  by_cases hl : a < l
  · by_cases hw1 : pL T l a = true
    · obtain ⟨n, n1, n2, n3, n4, n5⟩ := eot_w hw1
      have hv : vaA T l a = lN2 (eNb 32 (ltT T a n) 0) := by
        unfold vaA
        rw [n2, show a + n - a = n by omega]
        exact vlo_w n a 0 n4
      have ek : kdo T l wd a (eot T l a) (vaA T l a) = if n ≤ 8 then kow wd (vaA T l a) 0 26 else 1 := by
        unfold kdo
        rw [if_pos hl, if_pos hw1, n2, show a + n - a = n by omega]
      rw [ek]
      by_cases h8 : n ≤ 8
      · have hwd := wrd_s h8 n4 n5
        have hL := ltT_ok n a n4
        have hn : (ltT T a n).length ≤ 8 := by rw [ltT_len]; exact h8
        obtain ⟨k1, k2⟩ := kow_kwm hw hL hn 26 0 rfl
        rw [if_pos h8, hv]
        have e1 : tkK T l a = kwm (lN2 (eNb 27 (ltT T a n) 0)) 0 26 := by
          unfold tkK
          rw [if_neg (by omega), if_pos hw1, hwd, if_neg (show ¬ 8 < a + n - a by omega)]
        have e2 : tkA T l a = eot T l a := by
          unfold tkA
          rw [if_neg (by omega), if_pos hw1, hwd, n2]
        have e3 : tkS T l a na = lN2 (eNb 27 (ltT T a n) 0) := by
          unfold tkS
          rw [if_neg (by omega), if_pos hw1, hwd]
        refine ⟨e1.trans k1, ?_, fun _ _ => e2, fun h => ?_, fun _ => ⟨_, hL, hn, rfl, e3⟩, fun _ => hl, fun _ h => ?_⟩
        · rcases k2 with k2 | ⟨j, j1, k2⟩
          · exact ⟨3, by omega, k2⟩
          · exact ⟨100 + j, by omega, k2⟩
        · rcases k2 with k2 | ⟨j, j1, k2⟩
          · rw [k2] at h
            exact absurd h (by decide)
          · rw [k2] at h
            have := nI_inj (y := 2) (by omega) (by omega) h
            omega
        · rcases k2 with k2 | ⟨j, j1, k2⟩
          · rw [k2] at h
            exact absurd h (by decide)
          · rw [k2] at h
            have := nI_inj (y := 0) (by omega) (by omega) h
            omega
      · have hwd := wrd_l (show 8 < n by omega) n4
        rw [if_neg h8]
        have e1 : tkK T l a = 1 := by
          unfold tkK
          rw [if_neg (by omega), if_pos hw1, hwd, if_pos (show 8 < a + 9 - a by omega)]
        exact ⟨e1.trans (by decide), ⟨1, by omega, rfl⟩, fun _ h => absurd rfl h, fun h => absurd h (by decide), fun h => absurd h (by decide), fun _ => hl, fun _ h => absurd h (by decide)⟩
    · by_cases hd1 : pD T l a = true
      · obtain ⟨n, n1, n2, n3, n4, n5⟩ := eot_d hd1
        have hv : vaA T l a = lN2 (nvl T a n 0) := by
          unfold vaA
          rw [n2, show a + n - a = n by omega]
          exact vlo_d n a 0 n4
        have ek : kdo T l wd a (eot T l a) (vaA T l a) = if n ≤ 4 then 2 else 1 := by
          unfold kdo
          rw [if_pos hl, if_neg hw1, if_pos hd1, n2, show a + n - a = n by omega]
        rw [ek]
        by_cases h4 : n ≤ 4
        · have hwd := dig_s h4 n4 n5
          have hlt := nvl_lt n a 0 n4
          have hlt2 : (0 + 1) * 10 ^ n ≤ 10000 := by
            rw [Nat.zero_add, Nat.one_mul]
            exact Nat.pow_le_pow_right (show 0 < 10 by omega) h4
          rw [if_pos h4]
          have e1 : tkK T l a = 3 := by
            unfold tkK
            rw [if_neg (by omega), if_neg hw1, if_pos hd1, hwd, if_neg (show ¬ 4 < a + n - a by omega)]
          have e2 : tkA T l a = eot T l a := by
            unfold tkA
            rw [if_neg (by omega), if_neg hw1, if_pos hd1, hwd, n2]
          have e3 : tkN T l a nu = nI (nvl T a n 0) := by
            unfold tkN
            rw [if_neg (by omega), if_neg hw1, if_pos hd1, hwd]
          refine ⟨e1.trans (by decide), ⟨2, by omega, rfl⟩, fun _ _ => e2, fun _ => ⟨nvl T a n 0, by omega, ?_, e3⟩, fun h => absurd h (by decide), fun _ => hl, fun _ h => absurd h (by decide)⟩
          rw [hv]
          exact i64_32 _ (by omega)
        · have hwd := dig_l (show 4 < n by omega) n4
          rw [if_neg h4]
          have e1 : tkK T l a = 1 := by
            unfold tkK
            rw [if_neg (by omega), if_neg hw1, if_pos hd1, hwd, if_pos (show 4 < a + 5 - a by omega)]
          exact ⟨e1.trans (by decide), ⟨1, by omega, rfl⟩, fun _ h => absurd rfl h, fun h => absurd h (by decide), fun h => absurd h (by decide), fun _ => hl, fun _ h => absurd h (by decide)⟩
      · have h1 : ¬ (97 ≤ T a ∧ T a ≤ 122) := fun w => hw1 (pL_t ⟨hl, w⟩)
        have h2 : ¬ (48 ≤ T a ∧ T a ≤ 57) := fun w => hd1 (pD_t ⟨hl, w⟩)
        obtain ⟨s1, s2⟩ := sg_ok (T a) (hT a) h1 h2
        have ek : kdo T l wd a (eot T l a) (vaA T l a) = if sgn (sb (T a)) 0 12 < 0 then 1 else nI (T a) := by
          unfold kdo
          rw [if_pos hl, if_neg hw1, if_neg hd1]
        have e1 : tkK T l a = if sgX (sb (T a)) = 0 then 1 else sb (T a) := by
          unfold tkK
          rw [if_neg (by omega), if_neg hw1, if_neg hd1]
        have e2 : tkA T l a = eot T l a := by
          unfold tkA eot
          rw [if_neg (by omega), if_neg hw1, if_neg hd1, if_neg hw1, if_neg hd1]
        rw [ek, e1]
        have hne : ∀ q : Nat, q ≤ 4 → ¬ q = 1 → ¬ (if sgn (sb (T a)) 0 12 < 0 then (1 : Int32) else nI (T a)) = nI q := by
          intro q q4 q1 h
          rcases s2 with s2 | ⟨t1, t2, s2⟩
          · rw [s2] at h
            exact q1 (nI_inj (x := 1) (by omega) (by omega) h).symm
          · rw [s2] at h
            have := nI_inj (by omega) (by omega) h
            omega
        refine ⟨s1, ?_, fun _ _ => e2, fun h => absurd h (hne 2 (by omega) (by omega)), fun h => absurd h (hne 3 (by omega) (by omega)), fun _ => hl, fun _ => hne 0 (by omega) (by omega)⟩
        rcases s2 with s2 | ⟨t1, t2, s2⟩
        · exact ⟨1, by omega, s2⟩
        · exact ⟨T a, t1, s2⟩
  · have ek : kdo T l wd a (eot T l a) (vaA T l a) = 0 := if_neg hl
    rw [ek]
    have e1 : tkK T l a = 0 := if_pos (by omega)
    exact ⟨e1.trans (by decide), ⟨0, by omega, rfl⟩, fun h => absurd rfl h, fun h => absurd h (by decide), fun h => absurd h (by decide), fun h => absurd rfl h, fun h => absurd h hl⟩
end TOKREL2
