/-! ===== the model's rule reader ===== -/
section MRULER
variable {E : xE} {d : Nat} {Q : xR → Prop} {H : xH} {R : Nat} {wr cl : Int32} {g : Nat → Nat → Int32} {q : Nat → Int32} {ns : Nat → Int64} {K : Nat} {th ea : Int32} {tp nw kp wc sk : Nat → Int32} {T : Nat → Nat} {l x : Nat} {f : Int32 × Int32}
variable {q0 q1 q2 q3 q4 : Int32} {kd nu : Nat → Int32} {EE : Nat}
/-- the class's kinds in the model -/
def cmK (k : Int32) : Int32 := if k = 2 then 3 else if k = 3 then 2 else if k < 100 then k else k + 100
def dmK (k : Int32) : Prop := ∃ n, n < 126 ∧ k = nI n
/-- a token that both read alike -/
def tkOK (kd nu : Nat → Int32) (T : Nat → Nat) (l x : Nat) : Prop := mzK T l x = cmK (kd x) ∧ dmK (kd x) ∧ (kd x = 2 → nu x = mzN T l x)
theorem cm_0 : ∀ n, n < 126 → ((cmK (nI n) = 0) ↔ (nI n = 0)) := by decide +kernel
theorem kq_0 (h : tkOK kd nu T l x) : (mzK T l x = 0) = (kd x = 0) := by
  obtain ⟨h1, ⟨n, n1, n2⟩, _⟩ := h
  rw [h1, n2]
  exact propext (cm_0 n n1)
theorem cm_2 : ∀ n, n < 126 → ((cmK (nI n) = 3) ↔ (nI n = 2)) := by decide +kernel
theorem kq_2 (h : tkOK kd nu T l x) : (mzK T l x = 3) = (kd x = 2) := by
  obtain ⟨h1, ⟨n, n1, n2⟩, _⟩ := h
  rw [h1, n2]
  exact propext (cm_2 n n1)
theorem cm_3 : ∀ n, n < 126 → ((cmK (nI n) = 2) ↔ (nI n = 3)) := by decide +kernel
theorem kq_3 (h : tkOK kd nu T l x) : (mzK T l x = 2) = (kd x = 3) := by
  obtain ⟨h1, ⟨n, n1, n2⟩, _⟩ := h
  rw [h1, n2]
  exact propext (cm_3 n n1)
theorem cm_100 : ∀ n, n < 126 → ((cmK (nI n) = 200) ↔ (nI n = 100)) := by decide +kernel
theorem kq_100 (h : tkOK kd nu T l x) : (mzK T l x = 200) = (kd x = 100) := by
  obtain ⟨h1, ⟨n, n1, n2⟩, _⟩ := h
  rw [h1, n2]
  exact propext (cm_100 n n1)
theorem cm_101 : ∀ n, n < 126 → ((cmK (nI n) = 201) ↔ (nI n = 101)) := by decide +kernel
theorem kq_101 (h : tkOK kd nu T l x) : (mzK T l x = 201) = (kd x = 101) := by
  obtain ⟨h1, ⟨n, n1, n2⟩, _⟩ := h
  rw [h1, n2]
  exact propext (cm_101 n n1)
theorem cm_102 : ∀ n, n < 126 → ((cmK (nI n) = 202) ↔ (nI n = 102)) := by decide +kernel
theorem kq_102 (h : tkOK kd nu T l x) : (mzK T l x = 202) = (kd x = 102) := by
  obtain ⟨h1, ⟨n, n1, n2⟩, _⟩ := h
  rw [h1, n2]
  exact propext (cm_102 n n1)
theorem cm_103 : ∀ n, n < 126 → ((cmK (nI n) = 203) ↔ (nI n = 103)) := by decide +kernel
theorem kq_103 (h : tkOK kd nu T l x) : (mzK T l x = 203) = (kd x = 103) := by
  obtain ⟨h1, ⟨n, n1, n2⟩, _⟩ := h
  rw [h1, n2]
  exact propext (cm_103 n n1)
theorem cm_104 : ∀ n, n < 126 → ((cmK (nI n) = 204) ↔ (nI n = 104)) := by decide +kernel
theorem kq_104 (h : tkOK kd nu T l x) : (mzK T l x = 204) = (kd x = 104) := by
  obtain ⟨h1, ⟨n, n1, n2⟩, _⟩ := h
  rw [h1, n2]
  exact propext (cm_104 n n1)
theorem cm_105 : ∀ n, n < 126 → ((cmK (nI n) = 205) ↔ (nI n = 105)) := by decide +kernel
theorem kq_105 (h : tkOK kd nu T l x) : (mzK T l x = 205) = (kd x = 105) := by
  obtain ⟨h1, ⟨n, n1, n2⟩, _⟩ := h
  rw [h1, n2]
  exact propext (cm_105 n n1)
theorem cm_106 : ∀ n, n < 126 → ((cmK (nI n) = 206) ↔ (nI n = 106)) := by decide +kernel
theorem kq_106 (h : tkOK kd nu T l x) : (mzK T l x = 206) = (kd x = 106) := by
  obtain ⟨h1, ⟨n, n1, n2⟩, _⟩ := h
  rw [h1, n2]
  exact propext (cm_106 n n1)
theorem cm_107 : ∀ n, n < 126 → ((cmK (nI n) = 207) ↔ (nI n = 107)) := by decide +kernel
theorem kq_107 (h : tkOK kd nu T l x) : (mzK T l x = 207) = (kd x = 107) := by
  obtain ⟨h1, ⟨n, n1, n2⟩, _⟩ := h
  rw [h1, n2]
  exact propext (cm_107 n n1)
theorem cm_108 : ∀ n, n < 126 → ((cmK (nI n) = 208) ↔ (nI n = 108)) := by decide +kernel
theorem kq_108 (h : tkOK kd nu T l x) : (mzK T l x = 208) = (kd x = 108) := by
  obtain ⟨h1, ⟨n, n1, n2⟩, _⟩ := h
  rw [h1, n2]
  exact propext (cm_108 n n1)
theorem cm_109 : ∀ n, n < 126 → ((cmK (nI n) = 209) ↔ (nI n = 109)) := by decide +kernel
theorem kq_109 (h : tkOK kd nu T l x) : (mzK T l x = 209) = (kd x = 109) := by
  obtain ⟨h1, ⟨n, n1, n2⟩, _⟩ := h
  rw [h1, n2]
  exact propext (cm_109 n n1)
theorem cm_110 : ∀ n, n < 126 → ((cmK (nI n) = 210) ↔ (nI n = 110)) := by decide +kernel
theorem kq_110 (h : tkOK kd nu T l x) : (mzK T l x = 210) = (kd x = 110) := by
  obtain ⟨h1, ⟨n, n1, n2⟩, _⟩ := h
  rw [h1, n2]
  exact propext (cm_110 n n1)
theorem cm_111 : ∀ n, n < 126 → ((cmK (nI n) = 211) ↔ (nI n = 111)) := by decide +kernel
theorem kq_111 (h : tkOK kd nu T l x) : (mzK T l x = 211) = (kd x = 111) := by
  obtain ⟨h1, ⟨n, n1, n2⟩, _⟩ := h
  rw [h1, n2]
  exact propext (cm_111 n n1)
theorem cm_112 : ∀ n, n < 126 → ((cmK (nI n) = 212) ↔ (nI n = 112)) := by decide +kernel
theorem kq_112 (h : tkOK kd nu T l x) : (mzK T l x = 212) = (kd x = 112) := by
  obtain ⟨h1, ⟨n, n1, n2⟩, _⟩ := h
  rw [h1, n2]
  exact propext (cm_112 n n1)
theorem cm_113 : ∀ n, n < 126 → ((cmK (nI n) = 213) ↔ (nI n = 113)) := by decide +kernel
theorem kq_113 (h : tkOK kd nu T l x) : (mzK T l x = 213) = (kd x = 113) := by
  obtain ⟨h1, ⟨n, n1, n2⟩, _⟩ := h
  rw [h1, n2]
  exact propext (cm_113 n n1)
theorem cm_114 : ∀ n, n < 126 → ((cmK (nI n) = 214) ↔ (nI n = 114)) := by decide +kernel
theorem kq_114 (h : tkOK kd nu T l x) : (mzK T l x = 214) = (kd x = 114) := by
  obtain ⟨h1, ⟨n, n1, n2⟩, _⟩ := h
  rw [h1, n2]
  exact propext (cm_114 n n1)
theorem cm_115 : ∀ n, n < 126 → ((cmK (nI n) = 215) ↔ (nI n = 115)) := by decide +kernel
theorem kq_115 (h : tkOK kd nu T l x) : (mzK T l x = 215) = (kd x = 115) := by
  obtain ⟨h1, ⟨n, n1, n2⟩, _⟩ := h
  rw [h1, n2]
  exact propext (cm_115 n n1)
theorem cm_37 : ∀ n, n < 126 → ((cmK (nI n) = 37) ↔ (nI n = 37)) := by decide +kernel
theorem kq_37 (h : tkOK kd nu T l x) : (mzK T l x = 37) = (kd x = 37) := by
  obtain ⟨h1, ⟨n, n1, n2⟩, _⟩ := h
  rw [h1, n2]
  exact propext (cm_37 n n1)
theorem cm_40 : ∀ n, n < 126 → ((cmK (nI n) = 40) ↔ (nI n = 40)) := by decide +kernel
theorem kq_40 (h : tkOK kd nu T l x) : (mzK T l x = 40) = (kd x = 40) := by
  obtain ⟨h1, ⟨n, n1, n2⟩, _⟩ := h
  rw [h1, n2]
  exact propext (cm_40 n n1)
theorem cm_41 : ∀ n, n < 126 → ((cmK (nI n) = 41) ↔ (nI n = 41)) := by decide +kernel
theorem kq_41 (h : tkOK kd nu T l x) : (mzK T l x = 41) = (kd x = 41) := by
  obtain ⟨h1, ⟨n, n1, n2⟩, _⟩ := h
  rw [h1, n2]
  exact propext (cm_41 n n1)
theorem cm_42 : ∀ n, n < 126 → ((cmK (nI n) = 42) ↔ (nI n = 42)) := by decide +kernel
theorem kq_42 (h : tkOK kd nu T l x) : (mzK T l x = 42) = (kd x = 42) := by
  obtain ⟨h1, ⟨n, n1, n2⟩, _⟩ := h
  rw [h1, n2]
  exact propext (cm_42 n n1)
theorem cm_43 : ∀ n, n < 126 → ((cmK (nI n) = 43) ↔ (nI n = 43)) := by decide +kernel
theorem kq_43 (h : tkOK kd nu T l x) : (mzK T l x = 43) = (kd x = 43) := by
  obtain ⟨h1, ⟨n, n1, n2⟩, _⟩ := h
  rw [h1, n2]
  exact propext (cm_43 n n1)
theorem cm_44 : ∀ n, n < 126 → ((cmK (nI n) = 44) ↔ (nI n = 44)) := by decide +kernel
theorem kq_44 (h : tkOK kd nu T l x) : (mzK T l x = 44) = (kd x = 44) := by
  obtain ⟨h1, ⟨n, n1, n2⟩, _⟩ := h
  rw [h1, n2]
  exact propext (cm_44 n n1)
theorem cm_45 : ∀ n, n < 126 → ((cmK (nI n) = 45) ↔ (nI n = 45)) := by decide +kernel
theorem kq_45 (h : tkOK kd nu T l x) : (mzK T l x = 45) = (kd x = 45) := by
  obtain ⟨h1, ⟨n, n1, n2⟩, _⟩ := h
  rw [h1, n2]
  exact propext (cm_45 n n1)
theorem cm_47 : ∀ n, n < 126 → ((cmK (nI n) = 47) ↔ (nI n = 47)) := by decide +kernel
theorem kq_47 (h : tkOK kd nu T l x) : (mzK T l x = 47) = (kd x = 47) := by
  obtain ⟨h1, ⟨n, n1, n2⟩, _⟩ := h
  rw [h1, n2]
  exact propext (cm_47 n n1)
theorem cm_59 : ∀ n, n < 126 → ((cmK (nI n) = 59) ↔ (nI n = 59)) := by decide +kernel
theorem kq_59 (h : tkOK kd nu T l x) : (mzK T l x = 59) = (kd x = 59) := by
  obtain ⟨h1, ⟨n, n1, n2⟩, _⟩ := h
  rw [h1, n2]
  exact propext (cm_59 n n1)
theorem cm_60 : ∀ n, n < 126 → ((cmK (nI n) = 60) ↔ (nI n = 60)) := by decide +kernel
theorem kq_60 (h : tkOK kd nu T l x) : (mzK T l x = 60) = (kd x = 60) := by
  obtain ⟨h1, ⟨n, n1, n2⟩, _⟩ := h
  rw [h1, n2]
  exact propext (cm_60 n n1)
theorem cm_61 : ∀ n, n < 126 → ((cmK (nI n) = 61) ↔ (nI n = 61)) := by decide +kernel
theorem kq_61 (h : tkOK kd nu T l x) : (mzK T l x = 61) = (kd x = 61) := by
  obtain ⟨h1, ⟨n, n1, n2⟩, _⟩ := h
  rw [h1, n2]
  exact propext (cm_61 n n1)
theorem cm_62 : ∀ n, n < 126 → ((cmK (nI n) = 62) ↔ (nI n = 62)) := by decide +kernel
theorem kq_62 (h : tkOK kd nu T l x) : (mzK T l x = 62) = (kd x = 62) := by
  obtain ⟨h1, ⟨n, n1, n2⟩, _⟩ := h
  rw [h1, n2]
  exact propext (cm_62 n n1)
theorem cm_w : ∀ n, n < 126 → ((cmK (nI n) < 216) ↔ (nI n < 116)) ∧ ((225 < cmK (nI n)) ↔ (125 < nI n)) := by decide +kernel
theorem kq_w1 (h : tkOK kd nu T l x) : (mzK T l x < 216) = (kd x < 116) := by
  obtain ⟨h1, ⟨n, n1, n2⟩, _⟩ := h
  rw [h1, n2]
  exact propext (cm_w n n1).1
theorem kq_w2 (h : tkOK kd nu T l x) : (225 < mzK T l x) = (125 < kd x) := by
  obtain ⟨h1, ⟨n, n1, n2⟩, _⟩ := h
  rw [h1, n2]
  exact propext (cm_w n n1).2
theorem kq_s (h : tkOK kd nu T l x) (w : ¬ kd x < 116 ∧ ¬ 125 < kd x) : kd x - 116 = mzK T l x - 216 := by
  rw [h.1]
  rcases ms_is w.1 w.2 with e | e | e | e | e | e | e | e | e | e <;> rw [e] <;> decide
theorem kq_j (h : tkOK kd nu T l x) (w : kd x = 111 ∨ kd x = 112 ∨ kd x = 114 ∨ kd x = 115 ∨ kd x = 37 ∨ kd x = 42 ∨ kd x = 43 ∨ kd x = 45 ∨ kd x = 47 ∨ kd x = 60 ∨ kd x = 61 ∨ kd x = 62) : mcd (kd x) = mzK T l x := by
  rw [h.1]
  rcases w with e | e | e | e | e | e | e | e | e | e | e | e <;> rw [e] <;> decide
theorem lv_0 {k : Int32} : (lvo k = 0) = (k = 111) := by
  unfold lvo
  refine propext ⟨fun h => ?_, fun h => if_pos h⟩
  by_cases e : k = 111
  · exact e
  · rw [if_neg e] at h
    repeat' split at h
    all_goals exact absurd h (by decide)
theorem lv_1 {k : Int32} : (lvo k = 1) = (k = 112) := by
  unfold lvo
  refine propext ⟨fun h => ?_, fun h => by subst h; decide⟩
  repeat' split at h
  all_goals first | assumption | exact absurd h (by decide)
theorem lv_2 {k : Int32} : (lvo k = 2) = (k = 60 ∨ k = 61 ∨ k = 62) := by
  unfold lvo
  refine propext ⟨fun h => ?_, fun h => by rcases h with h | h | h <;> subst h <;> decide⟩
  repeat' split at h
  all_goals first | assumption | exact absurd h (by decide)
theorem lv_3 {k : Int32} : (lvo k = 3) = (k = 43 ∨ k = 45) := by
  unfold lvo
  refine propext ⟨fun h => ?_, fun h => by rcases h with h | h <;> subst h <;> decide⟩
  repeat' split at h
  all_goals first | assumption | exact absurd h (by decide)
theorem lv_4 {k : Int32} : (lvo k = 4) = (k = 37 ∨ k = 42 ∨ k = 47) := by
  unfold lvo
  refine propext ⟨fun h => ?_, fun h => by rcases h with h | h | h <;> subst h <;> decide⟩
  repeat' split at h
  all_goals first | assumption | exact absurd h (by decide)
/-- where it went wrong -/
def wrP (T : Nat → Nat) (l : Nat) (b : Bool) (i : Nat) (wr : Int32) : Int32 := bif b then wr else mzF T l i
theorem wrP_t {i : Nat} {wr : Int32} : wrP T l true i wr = wr := rfl
theorem wrP_f {i : Nat} {wr : Int32} : wrP T l false i wr = mzF T l i := rfl
theorem l_MR_either (hR : 77 < R) (hb : byt T tp) (hl : l ≤ 1600) (hT : ∀ x, x ≤ EE → tkOK kd nu T l x) (hE : kd EE = 0 ∨ kd EE = 1) (hc : EE ≤ 400) (D dp : Nat) (p : Nat → pq) (hp : gdP EE 0 0 1 p)
    (hr : ∀ (Q : xR → Prop) (i : Nat) (m : mos) (wr : Int32), i ≤ EE → m.2 ≤ i → xcall E xprog (D + 12) 142 [.ref R, .int (nI dp)] (nH (mH H K th (nI l) ea tp nw kp wc sk) R (mzA T l i) (mzK T l i) (mzF T l i) (mzN T l i) (mzS T l i) (nI (i + 1)) f.1 f.2 wr cl (upr g 7 m.1) (six q0 q1 q2 q3 q4 (nI m.2)) ns) Q = Q (.inl (some (.int (bI (p i).1))), (nH (mH H K th (nI l) ea tp nw kp wc sk) R (mzA T l (p i).2.1) (mzK T l (p i).2.1) (mzF T l (p i).2.1) (mzN T l (p i).2.1) (mzS T l (p i).2.1) (nI ((p i).2.1 + 1)) f.1 f.2 (wrP T l (p i).1 (p i).2.1 wr) cl (upr g 7 (addM m (p i).2.2.2).1) (six q0 q1 q2 q3 q4 (nI (addM m (p i).2.2.2).2)) ns))) : ∀ t i (m : mos) (wr : Int32) , EE - i < t → i ≤ EE → m.2 ≤ i →
    xr E (D + 12) m_MR_either Q (10, [some (.ref R), some (.int (nI dp))], [], (nH (mH H K th (nI l) ea tp nw kp wc sk) R (mzA T l i) (mzK T l i) (mzF T l i) (mzN T l i) (mzS T l i) (nI (i + 1)) f.1 f.2 wr cl (upr g 7 m.1) (six q0 q1 q2 q3 q4 (nI m.2)) ns)) = Q (.inl (some (.int (bI (lopP kd p 0 t i).1))), (nH (mH H K th (nI l) ea tp nw kp wc sk) R (mzA T l (lopP kd p 0 t i).2.1) (mzK T l (lopP kd p 0 t i).2.1) (mzF T l (lopP kd p 0 t i).2.1) (mzN T l (lopP kd p 0 t i).2.1) (mzS T l (lopP kd p 0 t i).2.1) (nI ((lopP kd p 0 t i).2.1 + 1)) f.1 f.2 (wrP T l (lopP kd p 0 t i).1 (lopP kd p 0 t i).2.1 wr) cl (upr g 7 (addM m (lopP kd p 0 t i).2.2.2).1) (six q0 q1 q2 q3 q4 (nI (addM m (lopP kd p 0 t i).2.2.2).2)) ns)) := by
  intro t
  induction t with
  | zero => intro i m wr  h; exact absurd h (Nat.not_lt_zero _)
  | succ t ih =>
    intro i m wr  ht hi hm
    have tf := hT i hi
    have t1 := fun (Q : xR → Prop) => y_next (d := D + 4) (Q := Q) (E := E) (H := H) (R := R) (K := K) (th := th) (ea := ea) (tp := tp) (nw := nw) (kp := kp) (wc := wc) (sk := sk) (T := T) (l := l) (f := f) (cl := cl) (ns := ns) (x := i) (g := upr g 7 m.1) (q := six q0 q1 q2 q3 q4 (nI m.2)) (wr := wr) hR hb hl (show i < 900 by omega)
    rw [s_MR_either_10]
    by_cases s111 : kd i = 111
    · have hi1 : i + 1 ≤ EE := kd_in hE hi s111 (by decide) (by decide)
      have hlv : (lvo 111 = 0) = True := eq_true (by decide)
      have h1 := fun (Q : xR → Prop) => hr Q (i + 1) m wr hi1 (by omega)
      have hg := hp (i + 1) hi1
      have hj : mcd 111 = 211 := by decide
      by_cases v : (p (i + 1)).1 = true
      · have hg2 := hg.2.2 v
        have hlen := al2_len hg2.2.1
        have hm2 : (addM m (p (i + 1)).2.2.2).2 + 1 ≤ (p (i + 1)).2.1 := by rw [addM_n]; omega
        have h3 := fun (Q : xR → Prop) => y_put (d := D + 11) (Q := Q) (E := E) (H := H) (R := R) (K := K) (th := th) (ea := ea) (tp := tp) (nw := nw) (kp := kp) (wc := wc) (sk := sk) (T := T) (l := l) (f := f) (cl := cl) (ns := ns) (g := g) (q0 := q0) (q1 := q1) (q2 := q2) (q3 := q3) (q4 := q4) (x := (p (i + 1)).2.1) (wr := wr) (addM m (p (i + 1)).2.2.2) (by omega) 211 0
        have h2 :=  ih (p (i + 1)).2.1 (putM (addM m (p (i + 1)).2.2.2) 211 0) wr  (by omega) hg.2.1 hm2
        simp only [s_MR_either_11, s_MR_either_14, s_MR_either_17, s_MR_either_20, s_MR_either_21, s_MR_either_24, s_MR_either_25, s_MR_either_26, s_MR_either_29, s_MR_either_32, s_MR_either_33, s_MR_either_34, s_MR_either_35, s_MR_either_38, s_MR_either_41, s_MR_either_42, s_MR_either_45, s_MR_either_48, s_MR_either_49, nQF_R, nQC_R, nQC_B, xll_10, xlg_10_0, xlg_10_1, xlg_10_2, xlg_10_3, xlg_10_4, xlg_10_5, xlg_10_6, xlg_10_7, xlg_10_8, xlg_10_9, xlg_10_10, xlg_10_11, xlg_10_12, not_false_eq_true, Nat.reduceLT, Nat.reduceAdd, true_and, and_true, if_true, if_false, ite_true, ite_false, xnb_0, xnb_1, xnb_b, xk_v, xk_n, kq_111 tf, s111, t1, h1, v, h3, h2, lopP, hlv, seqP, rndP, hj, List.nil_append, List.append_nil, addM_app, addM_1, addM_0, wrP_t, wrP_f, bI_t, bI_f, bI_n, k1_0, xnb_0, xnb_1]
      · have v := b_ff v
        simp only [s_MR_either_11, s_MR_either_14, s_MR_either_17, s_MR_either_20, s_MR_either_21, s_MR_either_24, s_MR_either_25, s_MR_either_26, s_MR_either_29, s_MR_either_32, s_MR_either_33, s_MR_either_34, s_MR_either_35, s_MR_either_38, s_MR_either_41, s_MR_either_42, s_MR_either_45, s_MR_either_48, s_MR_either_49, nQF_R, nQC_R, nQC_B, xll_10, xlg_10_0, xlg_10_1, xlg_10_2, xlg_10_3, xlg_10_4, xlg_10_5, xlg_10_6, xlg_10_7, xlg_10_8, xlg_10_9, xlg_10_10, xlg_10_11, xlg_10_12, not_false_eq_true, Nat.reduceLT, Nat.reduceAdd, true_and, and_true, if_true, if_false, ite_true, ite_false, xnb_0, xnb_1, xnb_b, xk_v, xk_n, kq_111 tf, s111, t1, h1, v, lopP, hlv, seqP, rndP, Bool.false_eq_true, List.nil_append, List.append_nil, addM_app, addM_1, addM_0, wrP_t, wrP_f, bI_t, bI_f, bI_n, k1_0, xnb_0, xnb_1]
    have hlv : (lvo (kd i) = 0) = False := by
      rw [lv_0]
      exact eq_false (by simp only [s111, or_self, not_false_eq_true])
    simp only [s_MR_either_11, s_MR_either_14, s_MR_either_17, s_MR_either_20, s_MR_either_21, s_MR_either_24, s_MR_either_25, s_MR_either_26, s_MR_either_29, s_MR_either_32, s_MR_either_33, s_MR_either_34, s_MR_either_35, s_MR_either_38, s_MR_either_41, s_MR_either_42, s_MR_either_45, s_MR_either_48, s_MR_either_49, nQF_R, nQC_R, nQC_B, xll_10, xlg_10_0, xlg_10_1, xlg_10_2, xlg_10_3, xlg_10_4, xlg_10_5, xlg_10_6, xlg_10_7, xlg_10_8, xlg_10_9, xlg_10_10, xlg_10_11, xlg_10_12, not_false_eq_true, Nat.reduceLT, Nat.reduceAdd, true_and, and_true, if_true, if_false, ite_true, ite_false, xnb_0, xnb_1, xnb_b, xk_v, xk_n, kq_111 tf, s111, lopP, hlv, okP, List.nil_append, List.append_nil, addM_app, addM_1, addM_0, wrP_t, wrP_f, bI_t, bI_f, bI_n, k1_0, xnb_0, xnb_1]
theorem l_MR_both (hR : 77 < R) (hb : byt T tp) (hl : l ≤ 1600) (hT : ∀ x, x ≤ EE → tkOK kd nu T l x) (hE : kd EE = 0 ∨ kd EE = 1) (hc : EE ≤ 400) (D dp : Nat) (p : Nat → pq) (hp : gdP EE 0 0 1 p)
    (hr : ∀ (Q : xR → Prop) (i : Nat) (m : mos) (wr : Int32), i ≤ EE → m.2 ≤ i → xcall E xprog (D + 12) 143 [.ref R, .int (nI dp)] (nH (mH H K th (nI l) ea tp nw kp wc sk) R (mzA T l i) (mzK T l i) (mzF T l i) (mzN T l i) (mzS T l i) (nI (i + 1)) f.1 f.2 wr cl (upr g 7 m.1) (six q0 q1 q2 q3 q4 (nI m.2)) ns) Q = Q (.inl (some (.int (bI (p i).1))), (nH (mH H K th (nI l) ea tp nw kp wc sk) R (mzA T l (p i).2.1) (mzK T l (p i).2.1) (mzF T l (p i).2.1) (mzN T l (p i).2.1) (mzS T l (p i).2.1) (nI ((p i).2.1 + 1)) f.1 f.2 (wrP T l (p i).1 (p i).2.1 wr) cl (upr g 7 (addM m (p i).2.2.2).1) (six q0 q1 q2 q3 q4 (nI (addM m (p i).2.2.2).2)) ns))) : ∀ t i (m : mos) (wr : Int32) , EE - i < t → i ≤ EE → m.2 ≤ i →
    xr E (D + 12) m_MR_both Q (10, [some (.ref R), some (.int (nI dp))], [], (nH (mH H K th (nI l) ea tp nw kp wc sk) R (mzA T l i) (mzK T l i) (mzF T l i) (mzN T l i) (mzS T l i) (nI (i + 1)) f.1 f.2 wr cl (upr g 7 m.1) (six q0 q1 q2 q3 q4 (nI m.2)) ns)) = Q (.inl (some (.int (bI (lopP kd p 1 t i).1))), (nH (mH H K th (nI l) ea tp nw kp wc sk) R (mzA T l (lopP kd p 1 t i).2.1) (mzK T l (lopP kd p 1 t i).2.1) (mzF T l (lopP kd p 1 t i).2.1) (mzN T l (lopP kd p 1 t i).2.1) (mzS T l (lopP kd p 1 t i).2.1) (nI ((lopP kd p 1 t i).2.1 + 1)) f.1 f.2 (wrP T l (lopP kd p 1 t i).1 (lopP kd p 1 t i).2.1 wr) cl (upr g 7 (addM m (lopP kd p 1 t i).2.2.2).1) (six q0 q1 q2 q3 q4 (nI (addM m (lopP kd p 1 t i).2.2.2).2)) ns)) := by
  intro t
  induction t with
  | zero => intro i m wr  h; exact absurd h (Nat.not_lt_zero _)
  | succ t ih =>
    intro i m wr  ht hi hm
    have tf := hT i hi
    have t1 := fun (Q : xR → Prop) => y_next (d := D + 4) (Q := Q) (E := E) (H := H) (R := R) (K := K) (th := th) (ea := ea) (tp := tp) (nw := nw) (kp := kp) (wc := wc) (sk := sk) (T := T) (l := l) (f := f) (cl := cl) (ns := ns) (x := i) (g := upr g 7 m.1) (q := six q0 q1 q2 q3 q4 (nI m.2)) (wr := wr) hR hb hl (show i < 900 by omega)
    rw [s_MR_both_10]
    by_cases s112 : kd i = 112
    · have hi1 : i + 1 ≤ EE := kd_in hE hi s112 (by decide) (by decide)
      have hlv : (lvo 112 = 1) = True := eq_true (by decide)
      have h1 := fun (Q : xR → Prop) => hr Q (i + 1) m wr hi1 (by omega)
      have hg := hp (i + 1) hi1
      have hj : mcd 112 = 212 := by decide
      by_cases v : (p (i + 1)).1 = true
      · have hg2 := hg.2.2 v
        have hlen := al2_len hg2.2.1
        have hm2 : (addM m (p (i + 1)).2.2.2).2 + 1 ≤ (p (i + 1)).2.1 := by rw [addM_n]; omega
        have h3 := fun (Q : xR → Prop) => y_put (d := D + 11) (Q := Q) (E := E) (H := H) (R := R) (K := K) (th := th) (ea := ea) (tp := tp) (nw := nw) (kp := kp) (wc := wc) (sk := sk) (T := T) (l := l) (f := f) (cl := cl) (ns := ns) (g := g) (q0 := q0) (q1 := q1) (q2 := q2) (q3 := q3) (q4 := q4) (x := (p (i + 1)).2.1) (wr := wr) (addM m (p (i + 1)).2.2.2) (by omega) 212 0
        have h2 :=  ih (p (i + 1)).2.1 (putM (addM m (p (i + 1)).2.2.2) 212 0) wr  (by omega) hg.2.1 hm2
        simp only [s_MR_both_11, s_MR_both_14, s_MR_both_17, s_MR_both_20, s_MR_both_21, s_MR_both_24, s_MR_both_25, s_MR_both_26, s_MR_both_29, s_MR_both_32, s_MR_both_33, s_MR_both_34, s_MR_both_35, s_MR_both_38, s_MR_both_41, s_MR_both_42, s_MR_both_45, s_MR_both_48, s_MR_both_49, nQF_R, nQC_R, nQC_B, xll_10, xlg_10_0, xlg_10_1, xlg_10_2, xlg_10_3, xlg_10_4, xlg_10_5, xlg_10_6, xlg_10_7, xlg_10_8, xlg_10_9, xlg_10_10, xlg_10_11, xlg_10_12, not_false_eq_true, Nat.reduceLT, Nat.reduceAdd, true_and, and_true, if_true, if_false, ite_true, ite_false, xnb_0, xnb_1, xnb_b, xk_v, xk_n, kq_112 tf, s112, t1, h1, v, h3, h2, lopP, hlv, seqP, rndP, hj, List.nil_append, List.append_nil, addM_app, addM_1, addM_0, wrP_t, wrP_f, bI_t, bI_f, bI_n, k1_0, xnb_0, xnb_1]
      · have v := b_ff v
        simp only [s_MR_both_11, s_MR_both_14, s_MR_both_17, s_MR_both_20, s_MR_both_21, s_MR_both_24, s_MR_both_25, s_MR_both_26, s_MR_both_29, s_MR_both_32, s_MR_both_33, s_MR_both_34, s_MR_both_35, s_MR_both_38, s_MR_both_41, s_MR_both_42, s_MR_both_45, s_MR_both_48, s_MR_both_49, nQF_R, nQC_R, nQC_B, xll_10, xlg_10_0, xlg_10_1, xlg_10_2, xlg_10_3, xlg_10_4, xlg_10_5, xlg_10_6, xlg_10_7, xlg_10_8, xlg_10_9, xlg_10_10, xlg_10_11, xlg_10_12, not_false_eq_true, Nat.reduceLT, Nat.reduceAdd, true_and, and_true, if_true, if_false, ite_true, ite_false, xnb_0, xnb_1, xnb_b, xk_v, xk_n, kq_112 tf, s112, t1, h1, v, lopP, hlv, seqP, rndP, Bool.false_eq_true, List.nil_append, List.append_nil, addM_app, addM_1, addM_0, wrP_t, wrP_f, bI_t, bI_f, bI_n, k1_0, xnb_0, xnb_1]
    have hlv : (lvo (kd i) = 1) = False := by
      rw [lv_1]
      exact eq_false (by simp only [s112, or_self, not_false_eq_true])
    simp only [s_MR_both_11, s_MR_both_14, s_MR_both_17, s_MR_both_20, s_MR_both_21, s_MR_both_24, s_MR_both_25, s_MR_both_26, s_MR_both_29, s_MR_both_32, s_MR_both_33, s_MR_both_34, s_MR_both_35, s_MR_both_38, s_MR_both_41, s_MR_both_42, s_MR_both_45, s_MR_both_48, s_MR_both_49, nQF_R, nQC_R, nQC_B, xll_10, xlg_10_0, xlg_10_1, xlg_10_2, xlg_10_3, xlg_10_4, xlg_10_5, xlg_10_6, xlg_10_7, xlg_10_8, xlg_10_9, xlg_10_10, xlg_10_11, xlg_10_12, not_false_eq_true, Nat.reduceLT, Nat.reduceAdd, true_and, and_true, if_true, if_false, ite_true, ite_false, xnb_0, xnb_1, xnb_b, xk_v, xk_n, kq_112 tf, s112, lopP, hlv, okP, List.nil_append, List.append_nil, addM_app, addM_1, addM_0, wrP_t, wrP_f, bI_t, bI_f, bI_n, k1_0, xnb_0, xnb_1]
theorem l_MR_sum (hR : 77 < R) (hb : byt T tp) (hl : l ≤ 1600) (hT : ∀ x, x ≤ EE → tkOK kd nu T l x) (hE : kd EE = 0 ∨ kd EE = 1) (hc : EE ≤ 400) (D dp : Nat) (p : Nat → pq) (hp : gdP EE 0 0 1 p)
    (hr : ∀ (Q : xR → Prop) (i : Nat) (m : mos) (wr : Int32), i ≤ EE → m.2 ≤ i → xcall E xprog (D + 12) 145 [.ref R, .int (nI dp)] (nH (mH H K th (nI l) ea tp nw kp wc sk) R (mzA T l i) (mzK T l i) (mzF T l i) (mzN T l i) (mzS T l i) (nI (i + 1)) f.1 f.2 wr cl (upr g 7 m.1) (six q0 q1 q2 q3 q4 (nI m.2)) ns) Q = Q (.inl (some (.int (bI (p i).1))), (nH (mH H K th (nI l) ea tp nw kp wc sk) R (mzA T l (p i).2.1) (mzK T l (p i).2.1) (mzF T l (p i).2.1) (mzN T l (p i).2.1) (mzS T l (p i).2.1) (nI ((p i).2.1 + 1)) f.1 f.2 (wrP T l (p i).1 (p i).2.1 wr) cl (upr g 7 (addM m (p i).2.2.2).1) (six q0 q1 q2 q3 q4 (nI (addM m (p i).2.2.2).2)) ns))) : ∀ t i (m : mos) (wr : Int32) (j2 : Option Value) , EE - i < t → i ≤ EE → m.2 ≤ i →
    xr E (D + 12) m_MR_sum Q (10, [some (.ref R), some (.int (nI dp)), j2], [], (nH (mH H K th (nI l) ea tp nw kp wc sk) R (mzA T l i) (mzK T l i) (mzF T l i) (mzN T l i) (mzS T l i) (nI (i + 1)) f.1 f.2 wr cl (upr g 7 m.1) (six q0 q1 q2 q3 q4 (nI m.2)) ns)) = Q (.inl (some (.int (bI (lopP kd p 3 t i).1))), (nH (mH H K th (nI l) ea tp nw kp wc sk) R (mzA T l (lopP kd p 3 t i).2.1) (mzK T l (lopP kd p 3 t i).2.1) (mzF T l (lopP kd p 3 t i).2.1) (mzN T l (lopP kd p 3 t i).2.1) (mzS T l (lopP kd p 3 t i).2.1) (nI ((lopP kd p 3 t i).2.1 + 1)) f.1 f.2 (wrP T l (lopP kd p 3 t i).1 (lopP kd p 3 t i).2.1 wr) cl (upr g 7 (addM m (lopP kd p 3 t i).2.2.2).1) (six q0 q1 q2 q3 q4 (nI (addM m (lopP kd p 3 t i).2.2.2).2)) ns)) := by
  intro t
  induction t with
  | zero => intro i m wr j2 h; exact absurd h (Nat.not_lt_zero _)
  | succ t ih =>
    intro i m wr j2 ht hi hm
    have tf := hT i hi
    have t1 := fun (Q : xR → Prop) => y_next (d := D + 4) (Q := Q) (E := E) (H := H) (R := R) (K := K) (th := th) (ea := ea) (tp := tp) (nw := nw) (kp := kp) (wc := wc) (sk := sk) (T := T) (l := l) (f := f) (cl := cl) (ns := ns) (x := i) (g := upr g 7 m.1) (q := six q0 q1 q2 q3 q4 (nI m.2)) (wr := wr) hR hb hl (show i < 900 by omega)
    rw [s_MR_sum_10]
    by_cases s43 : kd i = 43
    · have hi1 : i + 1 ≤ EE := kd_in hE hi s43 (by decide) (by decide)
      have hlv : (lvo 43 = 3) = True := eq_true (by decide)
      have h1 := fun (Q : xR → Prop) => hr Q (i + 1) m wr hi1 (by omega)
      have hg := hp (i + 1) hi1
      have hj : mcd 43 = (mzK T l i) := by have := kq_j tf (by rw [s43]; decide); rw [s43] at this; exact this
      by_cases v : (p (i + 1)).1 = true
      · have hg2 := hg.2.2 v
        have hlen := al2_len hg2.2.1
        have hm2 : (addM m (p (i + 1)).2.2.2).2 + 1 ≤ (p (i + 1)).2.1 := by rw [addM_n]; omega
        have h3 := fun (Q : xR → Prop) => y_put (d := D + 11) (Q := Q) (E := E) (H := H) (R := R) (K := K) (th := th) (ea := ea) (tp := tp) (nw := nw) (kp := kp) (wc := wc) (sk := sk) (T := T) (l := l) (f := f) (cl := cl) (ns := ns) (g := g) (q0 := q0) (q1 := q1) (q2 := q2) (q3 := q3) (q4 := q4) (x := (p (i + 1)).2.1) (wr := wr) (addM m (p (i + 1)).2.2.2) (by omega) (mzK T l i) 0
        have h2 := fun j2 => ih (p (i + 1)).2.1 (putM (addM m (p (i + 1)).2.2.2) (mzK T l i) 0) wr j2 (by omega) hg.2.1 hm2
        simp only [s_MR_sum_11, s_MR_sum_14, s_MR_sum_16, s_MR_sum_19, s_MR_sum_20, s_MR_sum_23, s_MR_sum_25, s_MR_sum_28, s_MR_sum_29, s_MR_sum_32, s_MR_sum_33, s_MR_sum_34, s_MR_sum_37, s_MR_sum_38, s_MR_sum_39, s_MR_sum_42, s_MR_sum_45, s_MR_sum_46, s_MR_sum_47, s_MR_sum_48, s_MR_sum_51, s_MR_sum_52, s_MR_sum_53, s_MR_sum_56, s_MR_sum_59, s_MR_sum_60, nQF_R, nQC_R, nQC_B, xll_10, xlg_10_0, xlg_10_1, xlg_10_2, xlg_10_3, xlg_10_4, xlg_10_5, xlg_10_6, xlg_10_7, xlg_10_8, xlg_10_9, xlg_10_10, xlg_10_11, xlg_10_12, not_false_eq_true, Nat.reduceLT, Nat.reduceAdd, true_and, and_true, if_true, if_false, ite_true, ite_false, xnb_0, xnb_1, xnb_b, xk_v, xk_n, kq_43 tf, kq_45 tf, show ((43 : Int32) = 45) = False from by decide, s43, t1, h1, v, h3, h2, lopP, hlv, seqP, rndP, hj, List.nil_append, List.append_nil, addM_app, addM_1, addM_0, wrP_t, wrP_f, bI_t, bI_f, bI_n, k1_0, xnb_0, xnb_1]
      · have v := b_ff v
        simp only [s_MR_sum_11, s_MR_sum_14, s_MR_sum_16, s_MR_sum_19, s_MR_sum_20, s_MR_sum_23, s_MR_sum_25, s_MR_sum_28, s_MR_sum_29, s_MR_sum_32, s_MR_sum_33, s_MR_sum_34, s_MR_sum_37, s_MR_sum_38, s_MR_sum_39, s_MR_sum_42, s_MR_sum_45, s_MR_sum_46, s_MR_sum_47, s_MR_sum_48, s_MR_sum_51, s_MR_sum_52, s_MR_sum_53, s_MR_sum_56, s_MR_sum_59, s_MR_sum_60, nQF_R, nQC_R, nQC_B, xll_10, xlg_10_0, xlg_10_1, xlg_10_2, xlg_10_3, xlg_10_4, xlg_10_5, xlg_10_6, xlg_10_7, xlg_10_8, xlg_10_9, xlg_10_10, xlg_10_11, xlg_10_12, not_false_eq_true, Nat.reduceLT, Nat.reduceAdd, true_and, and_true, if_true, if_false, ite_true, ite_false, xnb_0, xnb_1, xnb_b, xk_v, xk_n, kq_43 tf, kq_45 tf, show ((43 : Int32) = 45) = False from by decide, s43, t1, h1, v, lopP, hlv, seqP, rndP, Bool.false_eq_true, List.nil_append, List.append_nil, addM_app, addM_1, addM_0, wrP_t, wrP_f, bI_t, bI_f, bI_n, k1_0, xnb_0, xnb_1]
    by_cases s45 : kd i = 45
    · have hi1 : i + 1 ≤ EE := kd_in hE hi s45 (by decide) (by decide)
      have hlv : (lvo 45 = 3) = True := eq_true (by decide)
      have h1 := fun (Q : xR → Prop) => hr Q (i + 1) m wr hi1 (by omega)
      have hg := hp (i + 1) hi1
      have hj : mcd 45 = (mzK T l i) := by have := kq_j tf (by rw [s45]; decide); rw [s45] at this; exact this
      by_cases v : (p (i + 1)).1 = true
      · have hg2 := hg.2.2 v
        have hlen := al2_len hg2.2.1
        have hm2 : (addM m (p (i + 1)).2.2.2).2 + 1 ≤ (p (i + 1)).2.1 := by rw [addM_n]; omega
        have h3 := fun (Q : xR → Prop) => y_put (d := D + 11) (Q := Q) (E := E) (H := H) (R := R) (K := K) (th := th) (ea := ea) (tp := tp) (nw := nw) (kp := kp) (wc := wc) (sk := sk) (T := T) (l := l) (f := f) (cl := cl) (ns := ns) (g := g) (q0 := q0) (q1 := q1) (q2 := q2) (q3 := q3) (q4 := q4) (x := (p (i + 1)).2.1) (wr := wr) (addM m (p (i + 1)).2.2.2) (by omega) (mzK T l i) 0
        have h2 := fun j2 => ih (p (i + 1)).2.1 (putM (addM m (p (i + 1)).2.2.2) (mzK T l i) 0) wr j2 (by omega) hg.2.1 hm2
        simp only [s_MR_sum_11, s_MR_sum_14, s_MR_sum_16, s_MR_sum_19, s_MR_sum_20, s_MR_sum_23, s_MR_sum_25, s_MR_sum_28, s_MR_sum_29, s_MR_sum_32, s_MR_sum_33, s_MR_sum_34, s_MR_sum_37, s_MR_sum_38, s_MR_sum_39, s_MR_sum_42, s_MR_sum_45, s_MR_sum_46, s_MR_sum_47, s_MR_sum_48, s_MR_sum_51, s_MR_sum_52, s_MR_sum_53, s_MR_sum_56, s_MR_sum_59, s_MR_sum_60, nQF_R, nQC_R, nQC_B, xll_10, xlg_10_0, xlg_10_1, xlg_10_2, xlg_10_3, xlg_10_4, xlg_10_5, xlg_10_6, xlg_10_7, xlg_10_8, xlg_10_9, xlg_10_10, xlg_10_11, xlg_10_12, not_false_eq_true, Nat.reduceLT, Nat.reduceAdd, true_and, and_true, if_true, if_false, ite_true, ite_false, xnb_0, xnb_1, xnb_b, xk_v, xk_n, kq_43 tf, kq_45 tf, show ((45 : Int32) = 43) = False from by decide, s45, t1, h1, v, h3, h2, lopP, hlv, seqP, rndP, hj, List.nil_append, List.append_nil, addM_app, addM_1, addM_0, wrP_t, wrP_f, bI_t, bI_f, bI_n, k1_0, xnb_0, xnb_1]
      · have v := b_ff v
        simp only [s_MR_sum_11, s_MR_sum_14, s_MR_sum_16, s_MR_sum_19, s_MR_sum_20, s_MR_sum_23, s_MR_sum_25, s_MR_sum_28, s_MR_sum_29, s_MR_sum_32, s_MR_sum_33, s_MR_sum_34, s_MR_sum_37, s_MR_sum_38, s_MR_sum_39, s_MR_sum_42, s_MR_sum_45, s_MR_sum_46, s_MR_sum_47, s_MR_sum_48, s_MR_sum_51, s_MR_sum_52, s_MR_sum_53, s_MR_sum_56, s_MR_sum_59, s_MR_sum_60, nQF_R, nQC_R, nQC_B, xll_10, xlg_10_0, xlg_10_1, xlg_10_2, xlg_10_3, xlg_10_4, xlg_10_5, xlg_10_6, xlg_10_7, xlg_10_8, xlg_10_9, xlg_10_10, xlg_10_11, xlg_10_12, not_false_eq_true, Nat.reduceLT, Nat.reduceAdd, true_and, and_true, if_true, if_false, ite_true, ite_false, xnb_0, xnb_1, xnb_b, xk_v, xk_n, kq_43 tf, kq_45 tf, show ((45 : Int32) = 43) = False from by decide, s45, t1, h1, v, lopP, hlv, seqP, rndP, Bool.false_eq_true, List.nil_append, List.append_nil, addM_app, addM_1, addM_0, wrP_t, wrP_f, bI_t, bI_f, bI_n, k1_0, xnb_0, xnb_1]
    have hlv : (lvo (kd i) = 3) = False := by
      rw [lv_3]
      exact eq_false (by simp only [s43, s45, or_self, not_false_eq_true])
    simp only [s_MR_sum_11, s_MR_sum_14, s_MR_sum_16, s_MR_sum_19, s_MR_sum_20, s_MR_sum_23, s_MR_sum_25, s_MR_sum_28, s_MR_sum_29, s_MR_sum_32, s_MR_sum_33, s_MR_sum_34, s_MR_sum_37, s_MR_sum_38, s_MR_sum_39, s_MR_sum_42, s_MR_sum_45, s_MR_sum_46, s_MR_sum_47, s_MR_sum_48, s_MR_sum_51, s_MR_sum_52, s_MR_sum_53, s_MR_sum_56, s_MR_sum_59, s_MR_sum_60, nQF_R, nQC_R, nQC_B, xll_10, xlg_10_0, xlg_10_1, xlg_10_2, xlg_10_3, xlg_10_4, xlg_10_5, xlg_10_6, xlg_10_7, xlg_10_8, xlg_10_9, xlg_10_10, xlg_10_11, xlg_10_12, not_false_eq_true, Nat.reduceLT, Nat.reduceAdd, true_and, and_true, if_true, if_false, ite_true, ite_false, xnb_0, xnb_1, xnb_b, xk_v, xk_n, kq_43 tf, kq_45 tf, s43, s45, lopP, hlv, okP, List.nil_append, List.append_nil, addM_app, addM_1, addM_0, wrP_t, wrP_f, bI_t, bI_f, bI_n, k1_0, xnb_0, xnb_1]
theorem l_MR_product (hR : 77 < R) (hb : byt T tp) (hl : l ≤ 1600) (hT : ∀ x, x ≤ EE → tkOK kd nu T l x) (hE : kd EE = 0 ∨ kd EE = 1) (hc : EE ≤ 400) (D dp : Nat) (p : Nat → pq) (hp : gdP EE 0 0 1 p)
    (hr : ∀ (Q : xR → Prop) (i : Nat) (m : mos) (wr : Int32), i ≤ EE → m.2 ≤ i → xcall E xprog (D + 12) 146 [.ref R, .int (nI dp)] (nH (mH H K th (nI l) ea tp nw kp wc sk) R (mzA T l i) (mzK T l i) (mzF T l i) (mzN T l i) (mzS T l i) (nI (i + 1)) f.1 f.2 wr cl (upr g 7 m.1) (six q0 q1 q2 q3 q4 (nI m.2)) ns) Q = Q (.inl (some (.int (bI (p i).1))), (nH (mH H K th (nI l) ea tp nw kp wc sk) R (mzA T l (p i).2.1) (mzK T l (p i).2.1) (mzF T l (p i).2.1) (mzN T l (p i).2.1) (mzS T l (p i).2.1) (nI ((p i).2.1 + 1)) f.1 f.2 (wrP T l (p i).1 (p i).2.1 wr) cl (upr g 7 (addM m (p i).2.2.2).1) (six q0 q1 q2 q3 q4 (nI (addM m (p i).2.2.2).2)) ns))) : ∀ t i (m : mos) (wr : Int32) (j2 : Option Value) , EE - i < t → i ≤ EE → m.2 ≤ i →
    xr E (D + 12) m_MR_product Q (10, [some (.ref R), some (.int (nI dp)), j2], [], (nH (mH H K th (nI l) ea tp nw kp wc sk) R (mzA T l i) (mzK T l i) (mzF T l i) (mzN T l i) (mzS T l i) (nI (i + 1)) f.1 f.2 wr cl (upr g 7 m.1) (six q0 q1 q2 q3 q4 (nI m.2)) ns)) = Q (.inl (some (.int (bI (lopP kd p 4 t i).1))), (nH (mH H K th (nI l) ea tp nw kp wc sk) R (mzA T l (lopP kd p 4 t i).2.1) (mzK T l (lopP kd p 4 t i).2.1) (mzF T l (lopP kd p 4 t i).2.1) (mzN T l (lopP kd p 4 t i).2.1) (mzS T l (lopP kd p 4 t i).2.1) (nI ((lopP kd p 4 t i).2.1 + 1)) f.1 f.2 (wrP T l (lopP kd p 4 t i).1 (lopP kd p 4 t i).2.1 wr) cl (upr g 7 (addM m (lopP kd p 4 t i).2.2.2).1) (six q0 q1 q2 q3 q4 (nI (addM m (lopP kd p 4 t i).2.2.2).2)) ns)) := by
  intro t
  induction t with
  | zero => intro i m wr j2 h; exact absurd h (Nat.not_lt_zero _)
  | succ t ih =>
    intro i m wr j2 ht hi hm
    have tf := hT i hi
    have t1 := fun (Q : xR → Prop) => y_next (d := D + 4) (Q := Q) (E := E) (H := H) (R := R) (K := K) (th := th) (ea := ea) (tp := tp) (nw := nw) (kp := kp) (wc := wc) (sk := sk) (T := T) (l := l) (f := f) (cl := cl) (ns := ns) (x := i) (g := upr g 7 m.1) (q := six q0 q1 q2 q3 q4 (nI m.2)) (wr := wr) hR hb hl (show i < 900 by omega)
    rw [s_MR_product_10]
    by_cases s42 : kd i = 42
    · have hi1 : i + 1 ≤ EE := kd_in hE hi s42 (by decide) (by decide)
      have hlv : (lvo 42 = 4) = True := eq_true (by decide)
      have h1 := fun (Q : xR → Prop) => hr Q (i + 1) m wr hi1 (by omega)
      have hg := hp (i + 1) hi1
      have hj : mcd 42 = (mzK T l i) := by have := kq_j tf (by rw [s42]; decide); rw [s42] at this; exact this
      by_cases v : (p (i + 1)).1 = true
      · have hg2 := hg.2.2 v
        have hlen := al2_len hg2.2.1
        have hm2 : (addM m (p (i + 1)).2.2.2).2 + 1 ≤ (p (i + 1)).2.1 := by rw [addM_n]; omega
        have h3 := fun (Q : xR → Prop) => y_put (d := D + 11) (Q := Q) (E := E) (H := H) (R := R) (K := K) (th := th) (ea := ea) (tp := tp) (nw := nw) (kp := kp) (wc := wc) (sk := sk) (T := T) (l := l) (f := f) (cl := cl) (ns := ns) (g := g) (q0 := q0) (q1 := q1) (q2 := q2) (q3 := q3) (q4 := q4) (x := (p (i + 1)).2.1) (wr := wr) (addM m (p (i + 1)).2.2.2) (by omega) (mzK T l i) 0
        have h2 := fun j2 => ih (p (i + 1)).2.1 (putM (addM m (p (i + 1)).2.2.2) (mzK T l i) 0) wr j2 (by omega) hg.2.1 hm2
        simp only [s_MR_product_11, s_MR_product_14, s_MR_product_16, s_MR_product_19, s_MR_product_20, s_MR_product_23, s_MR_product_25, s_MR_product_28, s_MR_product_29, s_MR_product_32, s_MR_product_34, s_MR_product_37, s_MR_product_38, s_MR_product_41, s_MR_product_42, s_MR_product_43, s_MR_product_46, s_MR_product_47, s_MR_product_48, s_MR_product_51, s_MR_product_54, s_MR_product_55, s_MR_product_56, s_MR_product_57, s_MR_product_60, s_MR_product_61, s_MR_product_62, s_MR_product_65, s_MR_product_68, s_MR_product_69, nQF_R, nQC_R, nQC_B, xll_10, xlg_10_0, xlg_10_1, xlg_10_2, xlg_10_3, xlg_10_4, xlg_10_5, xlg_10_6, xlg_10_7, xlg_10_8, xlg_10_9, xlg_10_10, xlg_10_11, xlg_10_12, not_false_eq_true, Nat.reduceLT, Nat.reduceAdd, true_and, and_true, if_true, if_false, ite_true, ite_false, xnb_0, xnb_1, xnb_b, xk_v, xk_n, kq_42 tf, kq_47 tf, kq_37 tf, show ((42 : Int32) = 47) = False from by decide, show ((42 : Int32) = 37) = False from by decide, s42, t1, h1, v, h3, h2, lopP, hlv, seqP, rndP, hj, List.nil_append, List.append_nil, addM_app, addM_1, addM_0, wrP_t, wrP_f, bI_t, bI_f, bI_n, k1_0, xnb_0, xnb_1]
      · have v := b_ff v
        simp only [s_MR_product_11, s_MR_product_14, s_MR_product_16, s_MR_product_19, s_MR_product_20, s_MR_product_23, s_MR_product_25, s_MR_product_28, s_MR_product_29, s_MR_product_32, s_MR_product_34, s_MR_product_37, s_MR_product_38, s_MR_product_41, s_MR_product_42, s_MR_product_43, s_MR_product_46, s_MR_product_47, s_MR_product_48, s_MR_product_51, s_MR_product_54, s_MR_product_55, s_MR_product_56, s_MR_product_57, s_MR_product_60, s_MR_product_61, s_MR_product_62, s_MR_product_65, s_MR_product_68, s_MR_product_69, nQF_R, nQC_R, nQC_B, xll_10, xlg_10_0, xlg_10_1, xlg_10_2, xlg_10_3, xlg_10_4, xlg_10_5, xlg_10_6, xlg_10_7, xlg_10_8, xlg_10_9, xlg_10_10, xlg_10_11, xlg_10_12, not_false_eq_true, Nat.reduceLT, Nat.reduceAdd, true_and, and_true, if_true, if_false, ite_true, ite_false, xnb_0, xnb_1, xnb_b, xk_v, xk_n, kq_42 tf, kq_47 tf, kq_37 tf, show ((42 : Int32) = 47) = False from by decide, show ((42 : Int32) = 37) = False from by decide, s42, t1, h1, v, lopP, hlv, seqP, rndP, Bool.false_eq_true, List.nil_append, List.append_nil, addM_app, addM_1, addM_0, wrP_t, wrP_f, bI_t, bI_f, bI_n, k1_0, xnb_0, xnb_1]
    by_cases s47 : kd i = 47
    · have hi1 : i + 1 ≤ EE := kd_in hE hi s47 (by decide) (by decide)
      have hlv : (lvo 47 = 4) = True := eq_true (by decide)
      have h1 := fun (Q : xR → Prop) => hr Q (i + 1) m wr hi1 (by omega)
      have hg := hp (i + 1) hi1
      have hj : mcd 47 = (mzK T l i) := by have := kq_j tf (by rw [s47]; decide); rw [s47] at this; exact this
      by_cases v : (p (i + 1)).1 = true
      · have hg2 := hg.2.2 v
        have hlen := al2_len hg2.2.1
        have hm2 : (addM m (p (i + 1)).2.2.2).2 + 1 ≤ (p (i + 1)).2.1 := by rw [addM_n]; omega
        have h3 := fun (Q : xR → Prop) => y_put (d := D + 11) (Q := Q) (E := E) (H := H) (R := R) (K := K) (th := th) (ea := ea) (tp := tp) (nw := nw) (kp := kp) (wc := wc) (sk := sk) (T := T) (l := l) (f := f) (cl := cl) (ns := ns) (g := g) (q0 := q0) (q1 := q1) (q2 := q2) (q3 := q3) (q4 := q4) (x := (p (i + 1)).2.1) (wr := wr) (addM m (p (i + 1)).2.2.2) (by omega) (mzK T l i) 0
        have h2 := fun j2 => ih (p (i + 1)).2.1 (putM (addM m (p (i + 1)).2.2.2) (mzK T l i) 0) wr j2 (by omega) hg.2.1 hm2
        simp only [s_MR_product_11, s_MR_product_14, s_MR_product_16, s_MR_product_19, s_MR_product_20, s_MR_product_23, s_MR_product_25, s_MR_product_28, s_MR_product_29, s_MR_product_32, s_MR_product_34, s_MR_product_37, s_MR_product_38, s_MR_product_41, s_MR_product_42, s_MR_product_43, s_MR_product_46, s_MR_product_47, s_MR_product_48, s_MR_product_51, s_MR_product_54, s_MR_product_55, s_MR_product_56, s_MR_product_57, s_MR_product_60, s_MR_product_61, s_MR_product_62, s_MR_product_65, s_MR_product_68, s_MR_product_69, nQF_R, nQC_R, nQC_B, xll_10, xlg_10_0, xlg_10_1, xlg_10_2, xlg_10_3, xlg_10_4, xlg_10_5, xlg_10_6, xlg_10_7, xlg_10_8, xlg_10_9, xlg_10_10, xlg_10_11, xlg_10_12, not_false_eq_true, Nat.reduceLT, Nat.reduceAdd, true_and, and_true, if_true, if_false, ite_true, ite_false, xnb_0, xnb_1, xnb_b, xk_v, xk_n, kq_42 tf, kq_47 tf, kq_37 tf, show ((47 : Int32) = 42) = False from by decide, show ((47 : Int32) = 37) = False from by decide, s47, t1, h1, v, h3, h2, lopP, hlv, seqP, rndP, hj, List.nil_append, List.append_nil, addM_app, addM_1, addM_0, wrP_t, wrP_f, bI_t, bI_f, bI_n, k1_0, xnb_0, xnb_1]
      · have v := b_ff v
        simp only [s_MR_product_11, s_MR_product_14, s_MR_product_16, s_MR_product_19, s_MR_product_20, s_MR_product_23, s_MR_product_25, s_MR_product_28, s_MR_product_29, s_MR_product_32, s_MR_product_34, s_MR_product_37, s_MR_product_38, s_MR_product_41, s_MR_product_42, s_MR_product_43, s_MR_product_46, s_MR_product_47, s_MR_product_48, s_MR_product_51, s_MR_product_54, s_MR_product_55, s_MR_product_56, s_MR_product_57, s_MR_product_60, s_MR_product_61, s_MR_product_62, s_MR_product_65, s_MR_product_68, s_MR_product_69, nQF_R, nQC_R, nQC_B, xll_10, xlg_10_0, xlg_10_1, xlg_10_2, xlg_10_3, xlg_10_4, xlg_10_5, xlg_10_6, xlg_10_7, xlg_10_8, xlg_10_9, xlg_10_10, xlg_10_11, xlg_10_12, not_false_eq_true, Nat.reduceLT, Nat.reduceAdd, true_and, and_true, if_true, if_false, ite_true, ite_false, xnb_0, xnb_1, xnb_b, xk_v, xk_n, kq_42 tf, kq_47 tf, kq_37 tf, show ((47 : Int32) = 42) = False from by decide, show ((47 : Int32) = 37) = False from by decide, s47, t1, h1, v, lopP, hlv, seqP, rndP, Bool.false_eq_true, List.nil_append, List.append_nil, addM_app, addM_1, addM_0, wrP_t, wrP_f, bI_t, bI_f, bI_n, k1_0, xnb_0, xnb_1]
    by_cases s37 : kd i = 37
    · have hi1 : i + 1 ≤ EE := kd_in hE hi s37 (by decide) (by decide)
      have hlv : (lvo 37 = 4) = True := eq_true (by decide)
      have h1 := fun (Q : xR → Prop) => hr Q (i + 1) m wr hi1 (by omega)
      have hg := hp (i + 1) hi1
      have hj : mcd 37 = (mzK T l i) := by have := kq_j tf (by rw [s37]; decide); rw [s37] at this; exact this
      by_cases v : (p (i + 1)).1 = true
      · have hg2 := hg.2.2 v
        have hlen := al2_len hg2.2.1
        have hm2 : (addM m (p (i + 1)).2.2.2).2 + 1 ≤ (p (i + 1)).2.1 := by rw [addM_n]; omega
        have h3 := fun (Q : xR → Prop) => y_put (d := D + 11) (Q := Q) (E := E) (H := H) (R := R) (K := K) (th := th) (ea := ea) (tp := tp) (nw := nw) (kp := kp) (wc := wc) (sk := sk) (T := T) (l := l) (f := f) (cl := cl) (ns := ns) (g := g) (q0 := q0) (q1 := q1) (q2 := q2) (q3 := q3) (q4 := q4) (x := (p (i + 1)).2.1) (wr := wr) (addM m (p (i + 1)).2.2.2) (by omega) (mzK T l i) 0
        have h2 := fun j2 => ih (p (i + 1)).2.1 (putM (addM m (p (i + 1)).2.2.2) (mzK T l i) 0) wr j2 (by omega) hg.2.1 hm2
        simp only [s_MR_product_11, s_MR_product_14, s_MR_product_16, s_MR_product_19, s_MR_product_20, s_MR_product_23, s_MR_product_25, s_MR_product_28, s_MR_product_29, s_MR_product_32, s_MR_product_34, s_MR_product_37, s_MR_product_38, s_MR_product_41, s_MR_product_42, s_MR_product_43, s_MR_product_46, s_MR_product_47, s_MR_product_48, s_MR_product_51, s_MR_product_54, s_MR_product_55, s_MR_product_56, s_MR_product_57, s_MR_product_60, s_MR_product_61, s_MR_product_62, s_MR_product_65, s_MR_product_68, s_MR_product_69, nQF_R, nQC_R, nQC_B, xll_10, xlg_10_0, xlg_10_1, xlg_10_2, xlg_10_3, xlg_10_4, xlg_10_5, xlg_10_6, xlg_10_7, xlg_10_8, xlg_10_9, xlg_10_10, xlg_10_11, xlg_10_12, not_false_eq_true, Nat.reduceLT, Nat.reduceAdd, true_and, and_true, if_true, if_false, ite_true, ite_false, xnb_0, xnb_1, xnb_b, xk_v, xk_n, kq_42 tf, kq_47 tf, kq_37 tf, show ((37 : Int32) = 42) = False from by decide, show ((37 : Int32) = 47) = False from by decide, s37, t1, h1, v, h3, h2, lopP, hlv, seqP, rndP, hj, List.nil_append, List.append_nil, addM_app, addM_1, addM_0, wrP_t, wrP_f, bI_t, bI_f, bI_n, k1_0, xnb_0, xnb_1]
      · have v := b_ff v
        simp only [s_MR_product_11, s_MR_product_14, s_MR_product_16, s_MR_product_19, s_MR_product_20, s_MR_product_23, s_MR_product_25, s_MR_product_28, s_MR_product_29, s_MR_product_32, s_MR_product_34, s_MR_product_37, s_MR_product_38, s_MR_product_41, s_MR_product_42, s_MR_product_43, s_MR_product_46, s_MR_product_47, s_MR_product_48, s_MR_product_51, s_MR_product_54, s_MR_product_55, s_MR_product_56, s_MR_product_57, s_MR_product_60, s_MR_product_61, s_MR_product_62, s_MR_product_65, s_MR_product_68, s_MR_product_69, nQF_R, nQC_R, nQC_B, xll_10, xlg_10_0, xlg_10_1, xlg_10_2, xlg_10_3, xlg_10_4, xlg_10_5, xlg_10_6, xlg_10_7, xlg_10_8, xlg_10_9, xlg_10_10, xlg_10_11, xlg_10_12, not_false_eq_true, Nat.reduceLT, Nat.reduceAdd, true_and, and_true, if_true, if_false, ite_true, ite_false, xnb_0, xnb_1, xnb_b, xk_v, xk_n, kq_42 tf, kq_47 tf, kq_37 tf, show ((37 : Int32) = 42) = False from by decide, show ((37 : Int32) = 47) = False from by decide, s37, t1, h1, v, lopP, hlv, seqP, rndP, Bool.false_eq_true, List.nil_append, List.append_nil, addM_app, addM_1, addM_0, wrP_t, wrP_f, bI_t, bI_f, bI_n, k1_0, xnb_0, xnb_1]
    have hlv : (lvo (kd i) = 4) = False := by
      rw [lv_4]
      exact eq_false (by simp only [s42, s47, s37, or_self, not_false_eq_true])
    simp only [s_MR_product_11, s_MR_product_14, s_MR_product_16, s_MR_product_19, s_MR_product_20, s_MR_product_23, s_MR_product_25, s_MR_product_28, s_MR_product_29, s_MR_product_32, s_MR_product_34, s_MR_product_37, s_MR_product_38, s_MR_product_41, s_MR_product_42, s_MR_product_43, s_MR_product_46, s_MR_product_47, s_MR_product_48, s_MR_product_51, s_MR_product_54, s_MR_product_55, s_MR_product_56, s_MR_product_57, s_MR_product_60, s_MR_product_61, s_MR_product_62, s_MR_product_65, s_MR_product_68, s_MR_product_69, nQF_R, nQC_R, nQC_B, xll_10, xlg_10_0, xlg_10_1, xlg_10_2, xlg_10_3, xlg_10_4, xlg_10_5, xlg_10_6, xlg_10_7, xlg_10_8, xlg_10_9, xlg_10_10, xlg_10_11, xlg_10_12, not_false_eq_true, Nat.reduceLT, Nat.reduceAdd, true_and, and_true, if_true, if_false, ite_true, ite_false, xnb_0, xnb_1, xnb_b, xk_v, xk_n, kq_42 tf, kq_47 tf, kq_37 tf, s42, s47, s37, lopP, hlv, okP, List.nil_append, List.append_nil, addM_app, addM_1, addM_0, wrP_t, wrP_f, bI_t, bI_f, bI_n, k1_0, xnb_0, xnb_1]
end MRULER
