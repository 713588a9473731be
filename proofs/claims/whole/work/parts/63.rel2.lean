/-! ===== what the two readings have in common: kettles, customs ===== -/
section REL2
variable {kd nu st : Nat → Int32} {vl : Nat → Int64} {T : Nat → Nat} {l EE x ln : Nat} {e f w : Int32 × Int32} {k km : bkS}
theorem agr_fn2 {hi hi' : Int32} (hh : e.1 = 0 → hi = hi') (hA : tkAll kd nu st vl T l EE) (h : agr T l EE e f x) (hx : x ≤ EE) (hk : kd x = 2) (lo : Int32) : agr T l EE (fnE nu st e x lo hi) (fnM T l f x lo hi') (x + 1) := by
  by_cases z : e.1 = 0
  · rw [hh z]
    exact agr_fn hA h hx hk lo hi'
  · have k1 : ∀ n, ntE st e n x = e := fun n => if_neg z
    have k2 : ∀ n, ntM T l f n x = f := fun n => by
      have h' := agr_nt hA h hx n
      rw [k1] at h'
      exact h'.1.symm.trans h.1
    have k3 : fnE nu st e x lo hi = e := by unfold fnE; rw [k1, ite_self]
    have k4 : fnM T l f x lo hi' = f := by unfold fnM; rw [k2, ite_self]
    rw [k3, k4]
    exact agr_le h (by omega)
theorem agr_row2 {hi hi' : Int32} (hh : e.1 = 0 → hi = hi') {p q : Prop} [Decidable p] [Decidable q] (hpq : e.1 = 0 → (p ↔ q)) (hA : tkAll kd nu st vl T l EE) (h : agr T l EE e f x) (hx : x ≤ EE) (hk : kd x = 2) (lo : Int32) :
    agr T l EE (fnE nu st (if p then ntE st e 3 x else e) x lo hi) (if q then ntM T l (fnM T l f x lo hi') 3 x else fnM T l f x lo hi') (x + 1) := by
  by_cases z : e.1 = 0
  · rw [hh z]
    exact agr_row hpq hA h hx hk lo hi'
  · have k1 : ∀ n, ntE st e n x = e := fun n => if_neg z
    have k2 : ∀ n, ntM T l f n x = f := fun n => by
      have h' := agr_nt hA h hx n
      rw [k1] at h'
      exact h'.1.symm.trans h.1
    have k3 : fnE nu st e x lo hi = e := by unfold fnE; rw [k1, ite_self]
    have k4 : fnM T l f x lo hi' = f := by unfold fnM; rw [k2, ite_self]
    rw [k1, ite_self, k3, k4, k2, ite_self]
    exact agr_le h (by omega)
theorem celP_ok {pl : Bool} (h : (celP kd nu st k pl x e w).1 = true) : kd x = 2 ∧ kd (x + 1) = 44 ∧ kd (x + 2) = 2 ∧ celP kd nu st k pl x e w = (true, x + 3, fnE nu st (plE st k pl (fnE nu st e x 0 (k.2.2.1.1 - 1)) (x + 2) (nu x) (nu (x + 2))) (x + 2) 0 (k.2.2.1.2 - 1), (nu x, nu (x + 2))) := by
  unfold celP at h ⊢
  by_cases p1 : kd x = 2
  · rw [if_pos p1] at h ⊢
    by_cases p2 : kd (x + 1) = 44
    · rw [if_pos p2] at h ⊢
      by_cases p3 : kd (x + 2) = 2
      · rw [if_pos p3]
        exact ⟨p1, p2, p3, rfl⟩
      · rw [if_neg p3] at h
        exact absurd h Bool.false_ne_true
    · rw [if_neg p2] at h
      exact absurd h Bool.false_ne_true
  · rw [if_neg p1] at h
    exact absurd h Bool.false_ne_true
/-- a cell, read by both -/
theorem rel_cell {pl : Bool} (hA : tkAll kd nu st vl T l EE) (h : agr T l EE e f x) (hb : e.1 = 0 → relB kd vl T l EE k km) (hx : x + 2 ≤ EE) (k1 : kd x = 2) (k3 : kd (x + 2) = 2) :
    (pl = true → agr T l EE (fnE nu st (plE st k true (fnE nu st e x 0 (k.2.2.1.1 - 1)) (x + 2) (nu x) (nu (x + 2))) (x + 2) 0 (k.2.2.1.2 - 1)) (frM T l km (fnM T l (fnM T l f x 0 (km.2.2.1.1 - 1)) (x + 2) 0 (km.2.2.1.2 - 1)) (x + 2) (km.2.2.1.1 * mzN T l (x + 2) + mzN T l x)) (x + 3)) ∧
    (pl = false → agr T l EE (fnE nu st (plE st k false (fnE nu st e x 0 (k.2.2.1.1 - 1)) (x + 2) (nu x) (nu (x + 2))) (x + 2) 0 (k.2.2.1.2 - 1)) (fnM T l (fnM T l f x 0 (km.2.2.1.1 - 1)) (x + 2) 0 (km.2.2.1.2 - 1)) (x + 3)) := by
  have t1 := hA.2.2.1 x (by omega)
  have t3 := hA.2.2.1 (x + 2) hx
  obtain ⟨cx, c1, c2⟩ := t1.2.2 k1
  obtain ⟨ry, r1, r2⟩ := t3.2.2 k3
  have e1 := t1.1.2.2 k1
  have e3 := t3.1.2.2 k3
  have hh1 : e.1 = 0 → k.2.2.1.1 - 1 = km.2.2.1.1 - 1 := fun z => by
    obtain ⟨co, ro, _, b1, b2, _⟩ := hb z
    rw [b1, b2]
  have hh2 : ∀ lo hi, (fnE nu st e x lo hi).1 = 0 → k.2.2.1.2 - 1 = km.2.2.1.2 - 1 := fun lo hi z => by
    obtain ⟨co, ro, _, b1, b2, _⟩ := hb (fnE_0 z).2.1
    rw [b1, b2]
  have a1 := agr_fn2 hh1 hA h (by omega) k1 0
  have a1' := agr_le a1 (show x + 1 ≤ x + 2 by omega)
  refine ⟨fun _ => ?_, fun _ => ?_⟩
  · refine agr_row2 (hh2 _ _) (fun z => ?_) hA a1' hx k3 0
    obtain ⟨f1, f2, f3, f4⟩ := fnE_0 z
    obtain ⟨co, ro, b0, b1, b2, b3, b4, b5, b6, b7⟩ := hb f2
    have hcx : cx < co := by
      rw [c2, b1, show nI co - 1 = nI (co - 1) from nI_m co (by omega) (by omega)] at f4
      rw [n_lt (by omega) (by omega)] at f4
      omega
    have hn : km.2.2.2.1 = k.2.2.2.1 ∧ km.2.2.2.2.1 = k.2.2.2.2.1 := by rw [b3]; exact ⟨rfl, rfl⟩
    have hz : km.2.2.1.1 * mzN T l (x + 2) + mzN T l x = nI (co * ry + cx) := by
      rw [b2, ← e3, ← e1, c2, r2]
      show nI co * nI ry + nI cx = _
      rw [nI_mu, nI_ad]
    rw [hz, hn.1, hn.2, c2, r2]
    have q1 := kA_mk b0.2.1 b0.2.2.2 hcx r1 b4 k.2.2.2.1 0 (by omega)
    have q2 := cA_mc b0.2.1 b0.2.2.2 hcx r1 b5 k.2.2.2.2.1 0 (by omega)
    constructor
    · intro ⟨_, h⟩
      exact h.elim (fun v => Or.inl fun u => v (q1.mpr u)) (fun v => Or.inr fun u => v (q2.mpr u))
    · intro h
      exact ⟨rfl, h.elim (fun v => Or.inl fun u => v (q1.mp u)) (fun v => Or.inr fun u => v (q2.mp u))⟩
  · have ep : plE st k false (fnE nu st e x 0 (k.2.2.1.1 - 1)) (x + 2) (nu x) (nu (x + 2)) = fnE nu st e x 0 (k.2.2.1.1 - 1) := if_neg (fun h => absurd h.1 Bool.false_ne_true)
    rw [ep]
    exact agr_fn2 (hh2 _ _) hA a1' hx k3 0
/-- a cell without a fault -/
theorem cel_00 {pl : Bool} {k' : bkS} (hz : (fnE nu st (plE st k' pl (fnE nu st e x 0 (k.2.2.1.1 - 1)) (x + 2) (nu x) (nu (x + 2))) (x + 2) 0 (k.2.2.1.2 - 1)).1 = 0) :
    e.1 = 0 ∧ ¬ k.2.2.1.1 - 1 < nu x ∧ ¬ k.2.2.1.2 - 1 < nu (x + 2) := by
  obtain ⟨f1, f2, f3, f4⟩ := fnE_0 hz
  unfold plE at f2
  obtain ⟨g1, g2, g3⟩ := ifE_0 (by decide) f2
  obtain ⟨i1, i2, i3, i4⟩ := fnE_0 g1
  exact ⟨i2, i4, f4⟩
theorem cel_0 (hA : tkAll kd nu st vl T l EE) (hx : x + 2 ≤ EE) (k1 : kd x = 2) (k3 : kd (x + 2) = 2) {co ro : Nat} (b0 : 3 ≤ co ∧ co ≤ 12 ∧ 3 ≤ ro ∧ ro ≤ 12) (b1 : k.2.2.1 = (nI co, nI ro)) (h1 : ¬ k.2.2.1.1 - 1 < nu x) (h2 : ¬ k.2.2.1.2 - 1 < nu (x + 2)) :
    ∃ cx ry, cx < co ∧ ry < ro ∧ nu x = nI cx ∧ nu (x + 2) = nI ry := by
  obtain ⟨cx, c1, c2⟩ := (hA.2.2.1 x (by omega)).2.2 k1
  obtain ⟨ry, r1, r2⟩ := (hA.2.2.1 (x + 2) hx).2.2 k3
  rw [b1, c2, show nI co - 1 = nI (co - 1) from nI_m co (by omega) (by omega), n_lt (by omega) (by omega)] at h1
  rw [b1, r2, show nI ro - 1 = nI (ro - 1) from nI_m ro (by omega) (by omega), n_lt (by omega) (by omega)] at h2
  exact ⟨cx, ry, by omega, by omega, c2, r2⟩
theorem nI_pair {a b c d : Nat} (ha : a < 2147483648) (hb : b < 2147483648) (hc : c < 2147483648) (hd : d < 2147483648) (h : (nI a, nI b) = (nI c, nI d)) : a = c ∧ b = d := ⟨nI_inj ha hc (congrArg Prod.fst h), nI_inj hb hd (congrArg Prod.snd h)⟩
theorem rel_ket (hA : tkAll kd nu st vl T l EE) (h : relL kd vl T l EE ln x e f k km) (hx : x ≤ EE) (h0 : kd x = 101) (b6 : x + 6 ≤ EE) (hok : (ketP kd nu st x e w k).1 = true) :
    relL kd vl T l EE (ln + 1) (x + 6) (ketP kd nu st x e w k).2.2.1 (fnM T l (frM T l km (fnM T l (fnM T l (if km.2.2.2.1 = 6 then ntM T l f 4 x else f) (x + 1) 0 (km.2.2.1.1 - 1)) (x + 3) 0 (km.2.2.1.2 - 1)) (x + 3) (km.2.2.1.1 * mzN T l (x + 3) + mzN T l (x + 1))) (x + 5) 1 30) (ketP kd nu st x e w k).2.2.2.2 (maK km (km.2.2.1.1 * mzN T l (x + 3) + mzN T l (x + 1)) (mzN T l (x + 5))) := by
  obtain ⟨h1, h2, h3, h4, h5⟩ := h
  have a0 : agr T l EE (if 6 ≤ k.2.2.2.1 then ntE st e 4 x else e) (if km.2.2.2.1 = 6 then ntM T l f 4 x else f) (x + 1) := agr_if2 (fun z => by
    obtain ⟨co, ro, _, _, _, b3, _⟩ := h4 z
    have e1 : km.2.2.2.1 = k.2.2.2.1 := by rw [b3]
    have e2 := h2.1
    rw [e1]
    exact ⟨fun v => by omega, fun v => by omega⟩) hA h1 hx 4
  have hb0 : (if 6 ≤ k.2.2.2.1 then ntE st e 4 x else e).1 = 0 → relB kd vl T l EE k km := fun z => h4 (ifE_0 (by decide) z).1
  have hfull : (if 6 ≤ k.2.2.2.1 then ntE st e 4 x else e).1 = 0 → k.2.2.2.1 < 6 := fun z => by
    have := (ifE_0 (by decide) z).2.1
    omega
  generalize hE0 : (if 6 ≤ k.2.2.2.1 then ntE st e 4 x else e) = E0 at a0 hb0 hfull
  generalize (if km.2.2.2.1 = 6 then ntM T l f 4 x else f) = F0 at a0
  unfold ketP at hok ⊢
  dsimp only at hok ⊢
  rw [hE0] at hok ⊢
  by_cases p1 : (celP kd nu st k true (x + 1) E0 w).1 = true
  · obtain ⟨c1, c2, c3, c4⟩ := celP_ok p1
    have r1 := (rel_cell (pl := true) hA a0 hb0 (show x + 1 + 2 ≤ EE by omega) c1 c3).1 rfl
    rw [c4] at hok ⊢
    dsimp only at hok ⊢
    rw [if_pos rfl] at hok ⊢
    by_cases p2 : kd (x + 4) = 102
    · have p2' : kd (x + 1 + 3) = 102 := p2
      rw [if_pos p2'] at hok ⊢
      by_cases p3 : kd (x + 5) = 2
      · have p3' : kd (x + 1 + 3 + 1) = 2 := p3
        rw [if_pos p3']
        have a5 := agr_fn hA (agr_le r1 (show x + 1 + 3 ≤ x + 5 by omega)) (show x + 5 ≤ EE by omega) p3 1 30
        have t5 := hA.2.2.1 (x + 5) (by omega)
        refine ⟨a5, ok_if (ok_adK h2) h2, ?_, fun hz => ?_, fun h => absurd h (by omega)⟩
        · refine ⟨?_, h3.2.1, h3.2.2.1, ?_⟩
          · show (if km.2.2.2.1 = 6 then km.2.2.2.1 else km.2.2.2.1 + 1) ≤ 6
            have := h3.1
            split <;> omega
          · show km.2.2.2.2.2.2 ≤ x + 6
            have := h3.2.2.2
            omega
        · have hz' : (fnE nu st (fnE nu st (plE st k true (fnE nu st E0 (x + 1) 0 (k.2.2.1.1 - 1)) (x + 1 + 2) (nu (x + 1)) (nu (x + 1 + 2))) (x + 1 + 2) 0 (k.2.2.1.2 - 1)) (x + 5) 1 30).1 = 0 := hz
          obtain ⟨f1, f2, f3, f4⟩ := fnE_0 hz'
          obtain ⟨g1, g2, g3⟩ := cel_00 f2
          obtain ⟨co, ro, b0, b1, b2, b3, b4, b5, b7, b8⟩ := hb0 g1
          obtain ⟨cx, ry, g4, g5, g6, g7⟩ := cel_0 hA (show x + 1 + 2 ≤ EE by omega) c1 c3 b0 b1 g2 g3
          have hnk := hfull g1
          obtain ⟨sv, s1, s2⟩ := t5.2.2 p3
          rw [s2] at f3 f4
          have sr := rg_in (lo := 1) (hi := 30) (by omega) (by omega) s1 f3 f4
          have e1 := (hA.2.2.1 (x + 1) (by omega)).1.2.2 c1
          have e3 := (hA.2.2.1 (x + 3) (by omega)).1.2.2 c3
          have e5 := t5.1.2.2 p3
          have n1 : km.2.2.2.1 = k.2.2.2.1 := by rw [b3]
          have n2 : km.2.2.2.2 = k.2.2.2.2 := by rw [b3]
          have g7' : nu (x + 3) = nI ry := g7
          have zz : km.2.2.1.1 * mzN T l (x + 3) + mzN T l (x + 1) = nI (co * ry + cx) := by
            rw [b2, ← e3, ← e1, g6, g7']
            show nI co * nI ry + nI cx = _
            rw [nI_mu, nI_ad]
          rw [if_pos hz, zz, ← e5, s2]
          unfold adK maK
          rw [if_pos hnk, n1, if_neg (show ¬ k.2.2.2.1 = 6 by omega)]
          refine ⟨co, ro, b0, b1, b2, ?_, fun i hi => ?_, b5, b7, b8⟩
          · show (k.2.2.2.1 + 1, k.2.2.2.2) = (k.2.2.2.1 + 1, km.2.2.2.2)
            rw [n2]
          · have hi' : i < k.2.2.2.1 + 1 := hi
            show ∃ x' y z, x' < co ∧ y < ro ∧ z ≤ 30 ∧ upd (k.1 2) k.2.2.2.1 (nu (x + 1)) i = nI x' ∧ upd (k.1 3) k.2.2.2.1 (nu (x + 1 + 2)) i = nI y ∧ upd (k.1 4) k.2.2.2.1 (nI sv) i = nI z ∧ upd (km.1 0) k.2.2.2.1 (nI (co * ry + cx)) i = nI (co * y + x') ∧ upd (km.1 1) k.2.2.2.1 (nI sv) i = nI z
            by_cases q : i = k.2.2.2.1
            · subst q
              rw [upd_s, upd_s, upd_s, upd_s, upd_s]
              exact ⟨cx, ry, sv, g4, g5, by omega, g6, g7, rfl, rfl, rfl⟩
            · rw [upd_o q, upd_o q, upd_o q, upd_o q, upd_o q]
              exact b4 i (by omega)
      · have p3' : ¬ kd (x + 1 + 3 + 1) = 2 := p3
        rw [if_neg p3'] at hok
        exact absurd hok Bool.false_ne_true
    · have p2' : ¬ kd (x + 1 + 3) = 102 := p2
      rw [if_neg p2'] at hok
      exact absurd hok Bool.false_ne_true
  · rw [if_neg p1] at hok
    exact absurd hok Bool.false_ne_true
theorem rel_cus (hA : tkAll kd nu st vl T l EE) (h : relL kd vl T l EE ln x e f k km) (hx : x ≤ EE) (h0 : kd x = 103) (b6 : x + 4 ≤ EE) (hok : (cusP kd nu st x e w k).1 = true) :
    relL kd vl T l EE (ln + 1) (x + 4) (cusP kd nu st x e w k).2.2.1 (frM T l km (fnM T l (fnM T l (if km.2.2.2.2.1 = 6 then ntM T l f 4 x else f) (x + 1) 0 (km.2.2.1.1 - 1)) (x + 3) 0 (km.2.2.1.2 - 1)) (x + 3) (km.2.2.1.1 * mzN T l (x + 3) + mzN T l (x + 1))) (cusP kd nu st x e w k).2.2.2.2 (maC km (km.2.2.1.1 * mzN T l (x + 3) + mzN T l (x + 1))) := by
  obtain ⟨h1, h2, h3, h4, h5⟩ := h
  have a0 : agr T l EE (if 6 ≤ k.2.2.2.2.1 then ntE st e 4 x else e) (if km.2.2.2.2.1 = 6 then ntM T l f 4 x else f) (x + 1) := agr_if2 (fun z => by
    obtain ⟨co, ro, _, _, _, b3, _⟩ := h4 z
    have e1 : km.2.2.2.2.1 = k.2.2.2.2.1 := by rw [b3]
    have e2 := h2.2.1
    rw [e1]
    exact ⟨fun v => by omega, fun v => by omega⟩) hA h1 hx 4
  have hb0 : (if 6 ≤ k.2.2.2.2.1 then ntE st e 4 x else e).1 = 0 → relB kd vl T l EE k km := fun z => h4 (ifE_0 (by decide) z).1
  have hfull : (if 6 ≤ k.2.2.2.2.1 then ntE st e 4 x else e).1 = 0 → k.2.2.2.2.1 < 6 := fun z => by
    have := (ifE_0 (by decide) z).2.1
    omega
  generalize hE0 : (if 6 ≤ k.2.2.2.2.1 then ntE st e 4 x else e) = E0 at a0 hb0 hfull
  generalize (if km.2.2.2.2.1 = 6 then ntM T l f 4 x else f) = F0 at a0
  unfold cusP at hok ⊢
  dsimp only at hok ⊢
  rw [hE0] at hok ⊢
  by_cases p1 : (celP kd nu st k true (x + 1) E0 w).1 = true
  · obtain ⟨c1, c2, c3, c4⟩ := celP_ok p1
    have r1 := (rel_cell (pl := true) hA a0 hb0 (show x + 1 + 2 ≤ EE by omega) c1 c3).1 rfl
    rw [c4]
    dsimp only
    rw [if_pos rfl]
    refine ⟨r1, ok_if (ok_adC h2) h2, ?_, fun hz => ?_, fun h => absurd h (by omega)⟩
    · refine ⟨h3.1, ?_, h3.2.2.1, ?_⟩
      · show (if km.2.2.2.2.1 = 6 then km.2.2.2.2.1 else km.2.2.2.2.1 + 1) ≤ 6
        have := h3.2.1
        split <;> omega
      · show km.2.2.2.2.2.2 ≤ x + 4
        have := h3.2.2.2
        omega
    · obtain ⟨g1, g2, g3⟩ := cel_00 hz
      obtain ⟨co, ro, b0, b1, b2, b3, b4, b5, b7, b8⟩ := hb0 g1
      obtain ⟨cx, ry, g4, g5, g6, g7⟩ := cel_0 hA (show x + 1 + 2 ≤ EE by omega) c1 c3 b0 b1 g2 g3
      have hnk := hfull g1
      have e1 := (hA.2.2.1 (x + 1) (by omega)).1.2.2 c1
      have e3 := (hA.2.2.1 (x + 3) (by omega)).1.2.2 c3
      have n0 : km.2.2.2.1 = k.2.2.2.1 := by rw [b3]
      have n1 : km.2.2.2.2.1 = k.2.2.2.2.1 := by rw [b3]
      have n2 : km.2.2.2.2.2 = k.2.2.2.2.2 := by rw [b3]
      have g7' : nu (x + 3) = nI ry := g7
      have zz : km.2.2.1.1 * mzN T l (x + 3) + mzN T l (x + 1) = nI (co * ry + cx) := by
        rw [b2, ← e3, ← e1, g6, g7']
        show nI co * nI ry + nI cx = _
        rw [nI_mu, nI_ad]
      rw [if_pos hz, zz]
      unfold adC maC
      rw [if_pos hnk, n1, if_neg (show ¬ k.2.2.2.2.1 = 6 by omega)]
      refine ⟨co, ro, b0, b1, b2, ?_, b4, fun i hi => ?_, b7, b8⟩
      · show (k.2.2.2.1, k.2.2.2.2.1 + 1, k.2.2.2.2.2) = (km.2.2.2.1, k.2.2.2.2.1 + 1, km.2.2.2.2.2)
        rw [n0, n2]
      · have hi' : i < k.2.2.2.2.1 + 1 := hi
        show ∃ x' y, x' < co ∧ y < ro ∧ upd (k.1 5) k.2.2.2.2.1 (nu (x + 1)) i = nI x' ∧ upd (k.1 6) k.2.2.2.2.1 (nu (x + 1 + 2)) i = nI y ∧ upd (km.1 2) k.2.2.2.2.1 (nI (co * ry + cx)) i = nI (co * y + x')
        by_cases q : i = k.2.2.2.2.1
        · subst q
          rw [upd_s, upd_s, upd_s]
          exact ⟨cx, ry, g4, g5, g6, g7, rfl⟩
        · rw [upd_o q, upd_o q, upd_o q]
          exact b5 i (by omega)
  · rw [if_neg p1] at hok
    exact absurd hok Bool.false_ne_true
end REL2
