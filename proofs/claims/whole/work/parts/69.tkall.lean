/-! ===== both cut a tape alike: all tokens ===== -/
section TKALL
variable {T : Nat → Nat} {l : Nat} {tp : Nat → Int32} {wd : Nat → Int64} {kd0 st0 : Nat → Int32} {vl0 : Nat → Int64}
theorem sta_lt (i : Nat) (hp : ps T l i ≤ l) (hk : ¬ kdT T l wd i = 0) : sta T l i < sta T l (i + 1) ∧ ps T l (i + 1) ≤ l := by
  obtain ⟨h1, h2, h3, h4, h5⟩ := ps_le (wd := wd) hp
  obtain ⟨h6, h7⟩ := h5 hk
  have h8 : sta T l i < ps T l (i + 1) := (eot_le h7).1
  have h9 : ps T l (i + 1) ≤ sta T l (i + 1) := (blk_le h6).1
  omega
theorem ps_all : ∀ i, i ≤ lst T l wd → ps T l i ≤ l
  | 0, _ => Nat.zero_le _
  | i + 1, h => (sta_lt (wd := wd) i (ps_all i (by omega)) ((lst_ok (T := T) (l := l) (wd := wd)).2.2.2 i (by omega)).1).2
theorem sta_mono (x : Nat) (hx : x ≤ lst T l wd) : ∀ y, y < x → sta T l y < sta T l x := by
  induction x with
  | zero => intro y h; omega
  | succ x ih =>
    intro y hy
    have h1 := (sta_lt (wd := wd) x (ps_all (wd := wd) x (by omega)) (((lst_ok (T := T) (l := l) (wd := wd)).2.2.2 x (by omega)).1)).1
    by_cases q : y = x
    · rw [q]; exact h1
    · have := ih (by omega) y (by omega)
      omega
theorem kdT_lt {i : Nat} (h : i < 400) : kdT T l wd i = kdo T l wd (sta T l i) (eot T l (sta T l i)) (vaA T l (sta T l i)) := if_pos (Or.inl h)
/-- the model's token is the class's -/
theorem mst_is (hT : ∀ i, T i < 256) (hw : ∀ i, i < 26 → wd i = W32 i) : ∀ i, i ≤ lst T l wd → (mst T l i).2.2.1 = sta T l i ∧ (i < lst T l wd → (mst T l i).1 = ps T l (i + 1)) := by
  have hlast := lst_ok (T := T) (l := l) (wd := wd)
  have step : ∀ i, i < lst T l wd → tkA T l (sta T l i) = ps T l (i + 1) := by
    intro i hi
    have hk := hlast.2.2.2 i hi
    rw [kdT_lt (by omega)] at hk
    exact (tok_rel hT hw (sta T l i) 0 0).2.2.1 hk.1 hk.2
  intro i
  induction i with
  | zero =>
    intro h
    exact ⟨rfl, fun h0 => step 0 h0⟩
  | succ i ih =>
    intro h
    have h1 := (ih (by omega)).2 (by omega)
    have e : (mst T l (i + 1)).2.2.1 = sta T l (i + 1) := by
      show blk T l (mst T l i).1 = sta T l (i + 1)
      rw [h1]
      rfl
    refine ⟨e, fun h0 => ?_⟩
    have e2 : (mst T l (i + 1)).1 = tkA T l (sta T l (i + 1)) := by
      show tkA T l (blk T l (mst T l i).1) = tkA T l (sta T l (i + 1))
      rw [h1]
      rfl
    rw [e2]
    exact step (i + 1) h0
theorem mst_k : ∀ i, ∃ nu na, (mst T l i).2.1 = nxK T l (mst T l i).2.2.1 i ∧ (mst T l i).2.2.2.1 = tkN T l (mst T l i).2.2.1 nu ∧ (mst T l i).2.2.2.2 = tkS T l (mst T l i).2.2.1 na
  | 0 => ⟨0, 0, rfl, rfl, rfl⟩
  | _ + 1 => ⟨_, _, rfl, rfl, rfl⟩
theorem tk_all (hT : ∀ i, T i < 256) (hl : l ≤ 1600) (hw : ∀ i, i < 26 → wd i = W32 i) : tkAll (kdA T l wd kd0) (fun i => (vlA T l wd vl0 i).toInt32) (stA T l wd st0) (vlA T l wd vl0) T l (lst T l wd) := by
  have hlast := lst_ok (T := T) (l := l) (wd := wd)
  have one : ∀ x, x ≤ lst T l wd → mzK T l x = cmK (kdT T l wd x) ∧ dmK (kdT T l wd x) ∧ (kdT T l wd x = 2 → ∃ m, m ≤ 9999 ∧ (vaT T l x).toInt32 = nI m ∧ mzN T l x = nI m) ∧ (kdT T l wd x = 3 → ∃ L, okL L ∧ L.length ≤ 8 ∧ vaT T l x = lN2 (eNb 32 L 0) ∧ mzS T l x = lN2 (eNb 27 L 0)) := by
    intro x hx
    obtain ⟨nu, na, k1, k2, k3⟩ := mst_k (T := T) (l := l) x
    rw [(mst_is hT hw x hx).1] at k1 k2 k3
    obtain ⟨r1, r2, r3, r4, r5, r6, r7⟩ := tok_rel hT hw (sta T l x) nu na
    have k1' : mzK T l x = nxK T l (sta T l x) x := k1
    have k2' : mzN T l x = tkN T l (sta T l x) nu := k2
    have k3' : mzS T l x = tkS T l (sta T l x) na := k3
    by_cases h4 : x < 400
    · rw [kdT_lt h4]
      have e : nxK T l (sta T l x) x = tkK T l (sta T l x) := if_neg (fun w => by have := w.2; omega)
      rw [k1', e, k2', k3']
      exact ⟨r1, r2, r4, r5⟩
    · have hx4 : x = 400 := by omega
      by_cases hs : sta T l x < l
      · have ek : kdT T l wd x = 1 := if_neg (fun w => w.elim (fun v => h4 v) (fun v => v hs))
        have hn0 : ¬ tkK T l (sta T l x) = 0 := by
          rw [r1]
          obtain ⟨n, n1, n2⟩ := r2
          rw [n2]
          intro h
          exact r7 hs (by rw [n2]; exact (cm_0 n n1).mp h)
        have e : nxK T l (sta T l x) x = 1 := if_pos ⟨hn0, hx4⟩
        rw [ek, k1', e]
        exact ⟨by decide, ⟨1, by omega, rfl⟩, fun h => absurd h (by decide), fun h => absurd h (by decide)⟩
      · have ek : kdT T l wd x = 0 := kdT_0 hs
        have e0 : tkK T l (sta T l x) = 0 := if_pos (by omega)
        have e : nxK T l (sta T l x) x = 0 := by
          unfold nxK
          rw [e0, if_neg (fun w => w.1 rfl)]
        rw [ek, k1', e]
        exact ⟨by decide, ⟨0, by omega, rfl⟩, fun h => absurd h (by decide), fun h => absurd h (by decide)⟩
  have hps := fun x hx => ps_le (wd := wd) (ps_all (T := T) (l := l) (wd := wd) x hx)
  refine ⟨hlast.1, ?_, fun x hx => ?_, fun y x hy hx => ?_, fun y x hy hx ky kx => ?_⟩
  · rw [kdA_is (Nat.le_refl _)]
    exact hlast.2.2.1
  · obtain ⟨o1, o2, o3, o4⟩ := one x hx
    rw [stA_is hx]
    unfold tkOK
    rw [kdA_is hx]
    dsimp only
    rw [vlA_is hx]
    refine ⟨⟨o1, o2, fun h => ?_⟩, ?_, fun h => ?_⟩
    · obtain ⟨m, m1, m2, m3⟩ := o3 h
      rw [m2, m3]
    · unfold mzF
      rw [(mst_is hT hw x hx).1]
    · obtain ⟨m, m1, m2, m3⟩ := o3 h
      exact ⟨m, m1, m2⟩
  · unfold mzF
    rw [(mst_is hT hw y (by omega)).1, (mst_is hT hw x hx).1]
    have h1 := sta_mono x hx y hy
    have h2 := (hps x hx).2.1
    exact nI_lt h1 (by omega)
  · rw [kdA_is hy] at ky
    rw [kdA_is hx] at kx
    rw [vlA_is hy, vlA_is hx]
    obtain ⟨L, l1, l2, l3, l4⟩ := (one y hy).2.2.2 ky
    obtain ⟨M, m1, m2, m3, m4⟩ := (one x hx).2.2.2 kx
    rw [l3, l4, m3, m4, e_inj (by omega) (by omega) l1 l2 m1 m2, e_inj (by omega) (by omega) l1 l2 m1 m2]
end TKALL
