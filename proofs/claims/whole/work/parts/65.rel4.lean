/-! ===== what the two readings have in common: a clipper's line ===== -/
section REL4
variable {kd nu st : Nat → Int32} {vl : Nat → Int64} {T : Nat → Nat} {l EE x ln : Nat} {e f w : Int32 × Int32} {k km : bkS}
/-- the books, when a clipper is added -/
theorem relB_cli (hA : tkAll kd nu st vl T l EE) (hb : relB kd vl T l EE k km) (hk : kOK k) (hx : x + 9 ≤ EE) (hcn : km.2.2.2.2.2.2 ≤ x) (hnn : k.2.2.2.2.2.1 < 6) (k1 : kd (x + 1) = 3)
    {co ro : Nat} (b0 : 3 ≤ co ∧ co ≤ 12 ∧ 3 ≤ ro ∧ ro ≤ 12) (b1 : k.2.2.1 = (nI co, nI ro)) {cx ry z : Nat} (c1 : cx < co) (c2 : ry < ro) (c3 : 1 ≤ z ∧ z ≤ 4) {r : pq} (hg : x + 9 ≤ r.2.1 ∧ r.2.1 ≤ EE ∧ (r.2.2.1.length + 0 ≤ r.2.1 - (x + 9) ∧ al2 r.2.2.1 r.2.2.2 ∧ ∀ h, 0 ≤ h → hok r.2.2.1 h (h + 1))) :
    relB kd vl T l EE (adL (adR k r.2.2.1) (vl (x + 1)) (nI cx) (nI ry) (nI z) (nI k.2.2.2.2.2.2)) (maL km (mzS T l (x + 1)) (nI cx) (nI ry) (nI z) r.2.2.2) := by
  obtain ⟨co', ro', b0', b1', b2, b3, b4, b5, b7, b8, b9⟩ := hb
  have cc : co' = co ∧ ro' = ro := by
    rw [b1] at b1'
    exact ⟨nI_inj (by omega) (by omega) (congrArg Prod.fst b1').symm, nI_inj (by omega) (by omega) (congrArg Prod.snd b1').symm⟩
  obtain ⟨rfl, rfl⟩ := cc
  obtain ⟨g1, g2, g3, g4, g5⟩ := hg
  have n0 : km.2.2.2.1 = k.2.2.2.1 := by rw [b3]
  have n1 : km.2.2.2.2.1 = k.2.2.2.2.1 := by rw [b3]
  have n2 : km.2.2.2.2.2.1 = k.2.2.2.2.2.1 := by rw [b3]
  have n3 : km.2.2.2.2.2.2 = k.2.2.2.2.2.2 := by rw [b3]
  have hE := hA.1
  obtain ⟨a1, a2, a3⟩ := add_tau r.2.2.1 r.2.2.2 (k.1 0, k.1 1, k.2.2.2.2.2.2) (km.1 7, km.2.2.2.2.2.2) g4 n3.symm (by show k.2.2.2.2.2.2 + r.2.2.1.length ≤ 400; omega) b8
  have a4 := hok_hgt r.2.2.1 (k.1 0, k.1 1, k.2.2.2.2.2.2) 0 (Nat.zero_le _) (by show k.2.2.2.2.2.2 + r.2.2.1.length ≤ 400; omega) (by have := g5 0 (Nat.le_refl _); rw [Nat.zero_add] at this; exact this)
  have a5 := add_keep r.2.2.1 (k.1 0, k.1 1, k.2.2.2.2.2.2)
  have a1' : (addL (k.1 0, k.1 1, k.2.2.2.2.2.2) r.2.2.1).2.2 = k.2.2.2.2.2.2 + r.2.2.1.length := a1
  have a2' : (addM (km.1 7, km.2.2.2.2.2.2) r.2.2.2).2 = k.2.2.2.2.2.2 + r.2.2.1.length := a2
  have eL : adL (adR k r.2.2.1) (vl (x + 1)) (nI cx) (nI ry) (nI z) (nI k.2.2.2.2.2.2) =
    (upr (upr (upr (upr (upr (adR k r.2.2.1).1 7 (upd (k.1 7) k.2.2.2.2.2.1 (nI cx))) 8 (upd (k.1 8) k.2.2.2.2.2.1 (nI ry))) 9 (upd (k.1 9) k.2.2.2.2.2.1 (nI z))) 10 (upd (k.1 10) k.2.2.2.2.2.1 (nI k.2.2.2.2.2.2))) 11 (upd (k.1 11) k.2.2.2.2.2.1 (nI (addL (k.1 0, k.1 1, k.2.2.2.2.2.2) r.2.2.1).2.2)),
      vp_updL k.2.1 k.2.2.2.2.2.1 (vl (x + 1)), k.2.2.1, k.2.2.2.1, k.2.2.2.2.1, k.2.2.2.2.2.1 + 1, (addL (k.1 0, k.1 1, k.2.2.2.2.2.2) r.2.2.1).2.2) := if_pos hnn
  have eM : maL km (mzS T l (x + 1)) (nI cx) (nI ry) (nI z) r.2.2.2 =
    (upr (upr (upr (upr (upr (upr km.1 3 (upd (km.1 3) km.2.2.2.2.2.1 (nI cx))) 4 (upd (km.1 4) km.2.2.2.2.2.1 (nI ry))) 5 (upd (km.1 5) km.2.2.2.2.2.1 (nI z))) 6 (upd (km.1 6) km.2.2.2.2.2.1 (nI km.2.2.2.2.2.2))) 7 (addM (km.1 7, km.2.2.2.2.2.2) r.2.2.2).1) 6
      (upd (upd (km.1 6) km.2.2.2.2.2.1 (nI km.2.2.2.2.2.2)) (if km.2.2.2.2.2.1 = 6 then km.2.2.2.2.2.1 else km.2.2.2.2.2.1 + 1) (nI (addM (km.1 7, km.2.2.2.2.2.2) r.2.2.2).2)),
      vp_updL km.2.1 km.2.2.2.2.2.1 (mzS T l (x + 1)), km.2.2.1, km.2.2.2.1, km.2.2.2.2.1, (if km.2.2.2.2.2.1 = 6 then km.2.2.2.2.2.1 else km.2.2.2.2.2.1 + 1), (addM (km.1 7, km.2.2.2.2.2.2) r.2.2.2).2) := rfl
  rw [eL, eM, n2, a2', a1', if_neg (show ¬ k.2.2.2.2.2.1 = 6 by omega), n3]
  refine ⟨co', ro', b0', b1, b2, ?_, b4, b5, fun c hc => ?_, ?_, fun _ => ?_⟩
  · show (k.2.2.2.1, k.2.2.2.2.1, k.2.2.2.2.2.1 + 1, k.2.2.2.2.2.2 + r.2.2.1.length) = (km.2.2.2.1, km.2.2.2.2.1, k.2.2.2.2.2.1 + 1, k.2.2.2.2.2.2 + r.2.2.1.length)
    rw [n0, n1]
  · have hc' : c < k.2.2.2.2.2.1 + 1 := hc
    show upd (km.1 3) k.2.2.2.2.2.1 (nI cx) c = upd (k.1 7) k.2.2.2.2.2.1 (nI cx) c ∧ upd (km.1 4) k.2.2.2.2.2.1 (nI ry) c = upd (k.1 8) k.2.2.2.2.2.1 (nI ry) c ∧ upd (km.1 5) k.2.2.2.2.2.1 (nI z) c = upd (k.1 9) k.2.2.2.2.2.1 (nI z) c ∧
      (∃ z', 1 ≤ z' ∧ z' ≤ 4 ∧ upd (k.1 9) k.2.2.2.2.2.1 (nI z) c = nI z') ∧ (∃ x' y, x' < co' ∧ y < ro' ∧ upd (k.1 7) k.2.2.2.2.2.1 (nI cx) c = nI x' ∧ upd (k.1 8) k.2.2.2.2.2.1 (nI ry) c = nI y) ∧
      (∃ rs re, rs ≤ re ∧ re ≤ k.2.2.2.2.2.2 + r.2.2.1.length ∧ upd (k.1 10) k.2.2.2.2.2.1 (nI k.2.2.2.2.2.2) c = nI rs ∧ upd (k.1 11) k.2.2.2.2.2.1 (nI (k.2.2.2.2.2.2 + r.2.2.1.length)) c = nI re ∧ upd (upd (km.1 6) k.2.2.2.2.2.1 (nI k.2.2.2.2.2.2)) (k.2.2.2.2.2.1 + 1) (nI (k.2.2.2.2.2.2 + r.2.2.1.length)) c = nI rs ∧ upd (upd (km.1 6) k.2.2.2.2.2.1 (nI k.2.2.2.2.2.2)) (k.2.2.2.2.2.1 + 1) (nI (k.2.2.2.2.2.2 + r.2.2.1.length)) (c + 1) = nI re ∧ hgt (addL (k.1 0, k.1 1, k.2.2.2.2.2.2) r.2.2.1).1 rs (re - rs) 0) ∧
      ∃ y, y ≤ EE ∧ kd y = 3 ∧ vp_updL k.2.1 k.2.2.2.2.2.1 (vl (x + 1)) c = vl y ∧ vp_updL km.2.1 k.2.2.2.2.2.1 (mzS T l (x + 1)) c = mzS T l y
    by_cases q : c = k.2.2.2.2.2.1
    · subst q
      rw [upd_s, upd_s, upd_s, upd_s, upd_s, upd_s, upd_s, upd_s, upd_s, upd_o (show ¬ k.2.2.2.2.2.1 = k.2.2.2.2.2.1 + 1 by omega), upd_s, updL_s, updL_s]
      refine ⟨rfl, rfl, rfl, ⟨z, c3.1, c3.2, rfl⟩, ⟨cx, ry, c1, c2, rfl, rfl⟩, ⟨k.2.2.2.2.2.2, k.2.2.2.2.2.2 + r.2.2.1.length, by omega, by omega, rfl, rfl, rfl, rfl, ?_⟩, ⟨x + 1, by omega, k1, rfl, rfl⟩⟩
      rw [show k.2.2.2.2.2.2 + r.2.2.1.length - k.2.2.2.2.2.2 = r.2.2.1.length by omega]
      exact a4
    · have hlt : c < k.2.2.2.2.2.1 := by omega
      obtain ⟨d1, d2, d3, d4, d5, ⟨rs, re, d6, d7, d8, d9, d10, d11, d12⟩, d13⟩ := b7 c hlt
      rw [upd_o q, upd_o q, upd_o q, upd_o q, upd_o q, upd_o q, upd_o q, upd_o q, upd_o (show ¬ c = k.2.2.2.2.2.1 + 1 by omega), upd_o q, upd_o (show ¬ c + 1 = k.2.2.2.2.2.1 + 1 by omega), updL_o q, updL_o q]
      refine ⟨d1, d2, d3, d4, d5, ⟨rs, re, d6, by omega, d8, d9, d10, ?_, ?_⟩, d13⟩
      · by_cases q' : c + 1 = k.2.2.2.2.2.1
        · have h6 := b9 (by omega)
          rw [← q'] at h6 ⊢
          rw [upd_s, ← h6]
          exact d11
        · rw [upd_o q']
          exact d11
      · exact hgt_cong (p := k.1 0) (re - rs) rs 0 (fun j _ hj => a5 j (by show j < k.2.2.2.2.2.2; omega)) d12
  · intro j hj
    have h3 := a3 j hj
    rw [n3] at h3
    exact h3
  · show upd (upd (km.1 6) k.2.2.2.2.2.1 (nI k.2.2.2.2.2.2)) (k.2.2.2.2.2.1 + 1) (nI (k.2.2.2.2.2.2 + r.2.2.1.length)) (k.2.2.2.2.2.1 + 1) = nI (k.2.2.2.2.2.2 + r.2.2.1.length)
    exact upd_s
theorem rel_cli (hA : tkAll kd nu st vl T l EE) (h : relL kd vl T l EE ln x e f k km) (hx : x ≤ EE) (h0 : kd x = 104) (b9 : x + 9 ≤ EE) (hok : (cliP kd nu st vl x e w k).1 = true) :
    relL kd vl T l EE (ln + 1) (cliP kd nu st vl x e w k).2.1 (cliP kd nu st vl x e w k).2.2.1
      (fnM T l (fnM T l (fnM T l (nmF T l km.2.1 (mzS T l (x + 1)) (x + 1) 0 km.2.2.2.2.2.1 (if km.2.2.2.2.2.1 = 6 then ntM T l f 4 x else f)) (x + 3) 0 (km.2.2.1.1 - 1)) (x + 5) 0 (km.2.2.1.2 - 1)) (x + 7) 1 4)
      (cliP kd nu st vl x e w k).2.2.2.2 (maL km (mzS T l (x + 1)) (mzN T l (x + 3)) (mzN T l (x + 5)) (mzN T l (x + 7)) (pv kd nu 49 6 0 (x + 9)).2.2.2) := by
  obtain ⟨h1, h2, h3, h4, h5⟩ := h
  have a0 : agr T l EE (if 6 ≤ k.2.2.2.2.2.1 then ntE st e 4 x else e) (if km.2.2.2.2.2.1 = 6 then ntM T l f 4 x else f) (x + 1) := agr_if2 (fun z => by
    obtain ⟨co, ro, _, _, _, b3, _⟩ := h4 z
    have e1 : km.2.2.2.2.2.1 = k.2.2.2.2.2.1 := by rw [b3]
    have e2 := h2.2.2.1
    rw [e1]
    exact ⟨fun v => by omega, fun v => by omega⟩) hA h1 hx 4
  have hb0 : (if 6 ≤ k.2.2.2.2.2.1 then ntE st e 4 x else e).1 = 0 → relB kd vl T l EE k km := fun z => h4 (ifE_0 (by decide) z).1
  have hfull : (if 6 ≤ k.2.2.2.2.2.1 then ntE st e 4 x else e).1 = 0 → k.2.2.2.2.2.1 < 6 := fun z => by
    have := (ifE_0 (by decide) z).2.1
    omega
  generalize hE0 : (if 6 ≤ k.2.2.2.2.2.1 then ntE st e 4 x else e) = E0 at a0 hb0 hfull
  generalize (if km.2.2.2.2.2.1 = 6 then ntM T l f 4 x else f) = F0 at a0
  unfold cliP at hok ⊢
  dsimp only at hok ⊢
  rw [hE0] at hok ⊢
  by_cases p1 : kd (x + 1) = 3
  · have aN : agr T l EE (if kd (x + 1) = 3 ∧ ¬ nAt k.2.1 (vl (x + 1)) 0 k.2.2.2.2.2.1 = 0 then ntE st E0 2 (x + 1) else E0) (nmF T l km.2.1 (mzS T l (x + 1)) (x + 1) 0 km.2.2.2.2.2.1 F0) (x + 2) := by
      rw [nmF_is]
      refine agr_if2 (fun z => ?_) hA a0 (by omega) 2
      obtain ⟨co, ro, _, _, _, b3, _, _, b7, _⟩ := hb0 z
      have e1 : km.2.2.2.2.2.1 = k.2.2.2.2.2.1 := by rw [b3]
      rw [e1]
      have := nAt_eq (k := k) (km := km) (vx := vl (x + 1)) (mx := mzS T l (x + 1)) (n := k.2.2.2.2.2.1) (fun c hc => by
        obtain ⟨_, _, _, _, _, _, y, y1, y2, y3, y4⟩ := b7 c hc
        rw [y3, y4]
        exact hA.2.2.2.2 y (x + 1) y1 (by omega) y2 p1) k.2.2.2.2.2.1 0 (by omega)
      exact ⟨fun v u => v.2 (this.mpr u), fun v => ⟨p1, fun u => v (this.mp u)⟩⟩
    have hbN : (if kd (x + 1) = 3 ∧ ¬ nAt k.2.1 (vl (x + 1)) 0 k.2.2.2.2.2.1 = 0 then ntE st E0 2 (x + 1) else E0).1 = 0 → E0.1 = 0 := fun z => (ifE_0 (by decide) z).1
    generalize (if kd (x + 1) = 3 ∧ ¬ nAt k.2.1 (vl (x + 1)) 0 k.2.2.2.2.2.1 = 0 then ntE st E0 2 (x + 1) else E0) = E1 at aN hbN hok ⊢
    generalize nmF T l km.2.1 (mzS T l (x + 1)) (x + 1) 0 km.2.2.2.2.2.1 F0 = F1 at aN ⊢
    rw [if_pos p1] at hok ⊢
    by_cases p2 : kd (x + 2) = 105
    · rw [if_pos p2] at hok ⊢
      by_cases p3 : (celP kd nu st k false (x + 3) E1 w).1 = true
      · obtain ⟨c1, c2, c3, c4⟩ := celP_ok p3
        have r1 := (rel_cell (pl := false) hA (agr_le aN (show x + 2 ≤ x + 3 by omega)) (fun z => hb0 (hbN z)) (show x + 3 + 2 ≤ EE by omega) c1 c3).2 rfl
        rw [c4] at hok ⊢
        dsimp only at hok ⊢
        rw [if_pos rfl] at hok ⊢
        by_cases p4 : kd (x + 3 + 3) = 106
        · rw [if_pos p4] at hok ⊢
          by_cases p5 : kd (x + 3 + 3 + 1) = 2
          · rw [if_pos p5] at hok ⊢
            by_cases p6 : kd (x + 3 + 3 + 2) = 107
            · rw [if_pos p6] at hok ⊢
              have a7 := agr_fn hA (agr_le r1 (show x + 3 + 3 ≤ x + 7 by omega)) (show x + 7 ≤ EE by omega) p5 1 4
              have hg := gd_pv (nu := nu) hA.2.1 49 6 0 (by omega) (x + 9) b9
              have er : pv kd nu 49 6 0 (x + 3 + 3 + 3) = pv kd nu 49 6 0 (x + 9) := rfl
              rw [er] at hok ⊢
              generalize pv kd nu 49 6 0 (x + 9) = r at hg hok ⊢
              by_cases p7 : r.1 = true
              · rw [if_pos p7]
                have hg2 := hg.2.2 p7
                have hlen := al2_len hg2.2.1
                have t7 := hA.2.2.1 (x + 7) (by omega)
                refine ⟨agr_le a7 (by show x + 7 + 1 ≤ r.2.1; omega), ok_if (ok_adL (ok_adR h2)) (ok_adR h2), ?_, fun hz => ?_, fun h => absurd h (by omega)⟩
                · refine ⟨h3.1, h3.2.1, ?_, ?_⟩
                  · show (if km.2.2.2.2.2.1 = 6 then km.2.2.2.2.2.1 else km.2.2.2.2.2.1 + 1) ≤ 6
                    have := h3.2.2.1
                    split <;> omega
                  · show (addM (km.1 7, km.2.2.2.2.2.2) r.2.2.2).2 ≤ r.2.1
                    rw [addM_n]
                    have := h3.2.2.2
                    show km.2.2.2.2.2.2 + r.2.2.2.length ≤ r.2.1
                    omega
                · have hz' : (fnE nu st (fnE nu st (plE st k false (fnE nu st E1 (x + 3) 0 (k.2.2.1.1 - 1)) (x + 3 + 2) (nu (x + 3)) (nu (x + 3 + 2))) (x + 3 + 2) 0 (k.2.2.1.2 - 1)) (x + 7) 1 4).1 = 0 := hz
                  obtain ⟨f1, f2, f3, f4⟩ := fnE_0 hz'
                  obtain ⟨g1, g2, g3⟩ := cel_00 f2
                  have hE0z := hbN g1
                  have hbb := hb0 hE0z
                  obtain ⟨co, ro, b0, b1, _⟩ := id hbb
                  obtain ⟨cx, ry, g4, g5, g6, g7⟩ := cel_0 hA (show x + 3 + 2 ≤ EE by omega) c1 c3 b0 b1 g2 g3
                  obtain ⟨zn, z1, z2⟩ := t7.2.2 p5
                  rw [z2] at f3 f4
                  have sr := rg_in (lo := 1) (hi := 4) (by omega) (by omega) z1 f3 f4
                  have e3 := (hA.2.2.1 (x + 3) (by omega)).1.2.2 c1
                  have e5 := (hA.2.2.1 (x + 5) (by omega)).1.2.2 c3
                  have e7 := t7.1.2.2 p5
                  have g7' : nu (x + 5) = nI ry := g7
                  have z2' : nu (x + 3 + 3 + 1) = nI zn := z2
                  have rb := relB_cli hA hbb h2 b9 h3.2.2.2 (hfull hE0z) p1 b0 b1 g4 g5 sr (r := r) ⟨hg.1, hg.2.1, hg2⟩
                  rw [if_pos hz, ← e3, ← e5, ← e7]
                  show relB kd vl T l EE (adL (adR k r.2.2.1) (vl (x + 1)) (nu (x + 3)) (nu (x + 5)) (nu (x + 7)) (nI k.2.2.2.2.2.2)) (maL km (mzS T l (x + 1)) (nu (x + 3)) (nu (x + 5)) (nu (x + 7)) r.2.2.2)
                  rw [g6, g7', z2]
                  exact rb
              · rw [if_neg p7] at hok
                exact absurd hok Bool.false_ne_true
            · rw [if_neg p6] at hok
              exact absurd hok Bool.false_ne_true
          · rw [if_neg p5] at hok
            exact absurd hok Bool.false_ne_true
        · rw [if_neg p4] at hok
          exact absurd hok Bool.false_ne_true
      · rw [if_neg p3] at hok
        exact absurd hok Bool.false_ne_true
    · rw [if_neg p2] at hok
      exact absurd hok Bool.false_ne_true
  · rw [if_neg p1] at hok
    exact absurd hok Bool.false_ne_true
end REL4
