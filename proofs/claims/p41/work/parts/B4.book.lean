/-! ===== the class reads a book that is printed from a bay ===== -/
section BOOK
variable {kd nu st : Nat → Int32} {vl : Nat → Int64} {E : xE} {co rw : Nat} {kx ky kz ux uy hx hy hz : Nat → Nat}
def sv (vl : Nat → Int64) (x : Nat) (L : List tok) : Prop := ∀ j, j < L.length → (L.getD j (false, 0, 0)).2.1 = 3 → vl (x + j) = lN2 (97 + (L.getD j (false, 0, 0)).2.2)
theorem sv_app {x : Nat} {A B : List tok} : sv vl x (A ++ B) → sv vl x A ∧ sv vl (x + A.length) B := by
  intro h
  refine ⟨fun j hj => ?_, fun j hj => ?_⟩
  · have := h j (by simp; omega)
    rw [List.getD_eq_getElem?_getD, List.getElem?_append_left hj, ← List.getD_eq_getElem?_getD] at this
    exact this
  · have := h (A.length + j) (by simp; omega)
    rw [List.getD_eq_getElem?_getD, List.getElem?_append_right (by omega), ← List.getD_eq_getElem?_getD, show A.length + j - A.length = j by omega, ← Nat.add_assoc] at this
    exact this
/-- the tokens stand at x: kinds, numbers, names -/
def sq (kd nu : Nat → Int32) (vl : Nat → Int64) (x : Nat) (L : List tok) : Prop := sg kd nu x L ∧ sv vl x L
theorem sq_app {x : Nat} {A B : List tok} (h : sq kd nu vl x (A ++ B)) : sq kd nu vl x A ∧ sq kd nu vl (x + A.length) B :=
  ⟨⟨(sg_app h.1).1, (sv_app h.2).1⟩, (sg_app h.1).2, (sv_app h.2).2⟩
def bayT (co rw : Nat) : List tok := [(false, 100, 0), (true, 2, co), (false, 44, 0), (false, 2, rw), (false, 59, 0)]
def ketT (x y z : Nat) : List tok := [(false, 101, 0), (true, 2, x), (false, 44, 0), (false, 2, y), (true, 102, 0), (true, 2, z), (false, 59, 0)]
def cusT (x y : Nat) : List tok := [(false, 103, 0), (true, 2, x), (false, 44, 0), (false, 2, y), (false, 59, 0)]
def cliH (c x y z : Nat) : List tok := [(false, 104, 0), (true, 3, c), (true, 105, 0), (true, 2, x), (false, 44, 0), (false, 2, y), (true, 106, 0), (true, 2, z), (true, 107, 0)]
def cliT (E : xE) (c x y z : Nat) : List tok := cliH c x y z ++ (rtk E 4 (5 + 11 * c) 0 true true ++ [(false, 59, 0)])
def catL (f : Nat → List tok) : Nat → Nat → List tok
  | _, 0 => []
  | i, m + 1 => f i ++ catL f (i + 1) m
def bookT (E : xE) (co rw : Nat) (kx ky kz ux uy hx hy hz : Nat → Nat) (nk nc nn : Nat) : List tok :=
  bayT co rw ++ (catL (fun i => ketT (kx i) (ky i) (kz i)) 0 nk ++ (catL (fun i => cusT (ux i) (uy i)) 0 nc ++ catL (fun c => cliT E c (hx c) (hy c) (hz c)) 0 nn))
theorem fn_ok {e : Int32 × Int32} {x v lo hi : Nat} (h : nu x = nI v) (h1 : lo ≤ v) (h2 : v ≤ hi) (h3 : hi < 2147483648) : fnE nu st e x (nI lo) (nI hi) = e := by
  unfold fnE
  rw [h]
  exact if_neg (fun z => z.elim (fun q => nI_nlt h1 (by omega) q) (fun q => nI_nlt h2 h3 q))
theorem kAt_no {kc kr : Nat → Int32} {x y : Int32} : ∀ m i, (∀ j, i ≤ j → j < i + m → ¬ (kc j = x ∧ kr j = y)) → kAt kc kr x y i m = -1
  | 0, _, _ => rfl
  | m + 1, i, h => by
    show (if kc i = x ∧ kr i = y then nI i else kAt kc kr x y (i + 1) m) = -1
    rw [if_neg (h i (Nat.le_refl _) (by omega))]
    exact kAt_no m (i + 1) (fun j a b => h j (by omega) (by omega))
theorem cAt_no {kc kr : Nat → Int32} {x y : Int32} : ∀ m i, (∀ j, i ≤ j → j < i + m → ¬ (kc j = x ∧ kr j = y)) → cAt kc kr x y i m = 0
  | 0, _, _ => rfl
  | m + 1, i, h => by
    show (if kc i = x ∧ kr i = y then 1 else cAt kc kr x y (i + 1) m) = 0
    rw [if_neg (h i (Nat.le_refl _) (by omega))]
    exact cAt_no m (i + 1) (fun j a b => h j (by omega) (by omega))
theorem nAt_no {nm : Nat → Int64} {x : Int64} : ∀ m i, (∀ j, i ≤ j → j < i + m → ¬ nm j = x) → nAt nm x i m = 0
  | 0, _, _ => rfl
  | m + 1, i, h => by
    show (if nm i = x then 1 else nAt nm x (i + 1) m) = 0
    rw [if_neg (h i (Nat.le_refl _) (by omega))]
    exact nAt_no m (i + 1) (fun j a b => h j (by omega) (by omega))
theorem nI_s1 {n : Nat} (h : 1 ≤ n) : nI n - 1 = nI (n - 1) := pk_sub (a := n) (b := 1) h
/-- a cell is read -/
theorem cel_ok {k : bkS} {pl : Bool} {x a b : Nat} {e w : Int32 × Int32} (hd : k.2.2.1 = (nI co, nI rw)) (hc : co ≤ 12) (hr : rw ≤ 12) (k0 : kd x = 2) (k1 : kd (x + 1) = 44) (k2 : kd (x + 2) = 2) (n0 : nu x = nI a) (n2 : nu (x + 2) = nI b) (ha : a < co) (hb : b < rw)
    (hp : pl = true → kAt (k.1 2) (k.1 3) (nI a) (nI b) 0 k.2.2.2.1 = -1 ∧ cAt (k.1 5) (k.1 6) (nI a) (nI b) 0 k.2.2.2.2.1 = 0) : celP kd nu st k pl x e w = (true, x + 3, e, (nI a, nI b)) := by
  unfold celP
  rw [if_pos k0, if_pos k1, if_pos k2, hd]
  dsimp only
  rw [nI_s1 (by omega), nI_s1 (by omega), show (0 : Int32) = nI 0 from rfl, fn_ok n0 (by omega) (by omega) (by omega), n0, n2]
  have : plE st k pl e (x + 2) (nI a) (nI b) = e := by
    unfold plE
    exact if_neg (fun z => by
      obtain ⟨p1, p2⟩ := hp z.1
      rcases z.2 with h | h
      · exact h p1
      · exact h p2)
  rw [this, fn_ok n2 (by omega) (by omega) (by omega)]
theorem ln_ket1 {k : bkS} {x a b z ln : Nat} {p : Int32} {w : Int32 × Int32} (hd : k.2.2.1 = (nI co, nI rw)) (hc : co ≤ 12) (hr : rw ≤ 12) (hs : sq kd nu vl x (ketT a b z)) (ha : a < co) (hb : b < rw) (hz : 1 ≤ z ∧ z ≤ 30) (hn : k.2.2.2.1 < 6)
    (hp : kAt (k.1 2) (k.1 3) (nI a) (nI b) 0 k.2.2.2.1 = -1 ∧ cAt (k.1 5) (k.1 6) (nI a) (nI b) 0 k.2.2.2.2.1 = 0) :
    lnP kd nu st vl ln x (0, p) w k = (true, x + 6, (0, p), (nI a, nI b), adK k (nI a) (nI b) (nI z)) ∧ kd (x + 6) = 59 ∧ ¬ kd x = 0 := by
  have k0 : kd x = 101 := (hs.1 0 (by show 0 < 7; omega)).1
  have k1 : kd (x + 1) = 2 := (hs.1 1 (by show 1 < 7; omega)).1
  have k2 : kd (x + 2) = 44 := (hs.1 2 (by show 2 < 7; omega)).1
  have k3 : kd (x + 3) = 2 := (hs.1 3 (by show 3 < 7; omega)).1
  have k4 : kd (x + 4) = 102 := (hs.1 4 (by show 4 < 7; omega)).1
  have k5 : kd (x + 5) = 2 := (hs.1 5 (by show 5 < 7; omega)).1
  have k6 : kd (x + 6) = 59 := (hs.1 6 (by show 6 < 7; omega)).1
  have n1 : nu (x + 1) = nI a := (hs.1 1 (by show 1 < 7; omega)).2 rfl
  have n3 : nu (x + 3) = nI b := (hs.1 3 (by show 3 < 7; omega)).2 rfl
  have n5 : nu (x + 5) = nI z := (hs.1 5 (by show 5 < 7; omega)).2 rfl
  have hcl := cel_ok (st := st) (pl := true) (e := (0, p)) (w := w) hd hc hr (x := x + 1) k1 k2 k3 n1 n3 ha hb (fun _ => hp)
  have hf : fnE nu st (0, p) (x + 5) 1 30 = (0, p) := fn_ok (lo := 1) (hi := 30) n5 hz.1 hz.2 (by omega)
  refine ⟨?_, k6, by rw [k0]; decide⟩
  unfold lnP
  rw [if_neg (by rw [k0]; decide), if_pos k0]
  unfold ketP
  rw [if_neg (show ¬ 6 ≤ k.2.2.2.1 by omega), hcl]
  dsimp only
  rw [if_pos rfl, if_pos (show kd (x + 1 + 3) = 102 from k4), if_pos (show kd (x + 1 + 3 + 1) = 2 from k5), show x + 1 + 3 + 1 = x + 5 by omega, hf, n5, if_pos rfl]
theorem ln_cus1 {k : bkS} {x a b ln : Nat} {p : Int32} {w : Int32 × Int32} (hd : k.2.2.1 = (nI co, nI rw)) (hc : co ≤ 12) (hr : rw ≤ 12) (hs : sq kd nu vl x (cusT a b)) (ha : a < co) (hb : b < rw) (hn : k.2.2.2.2.1 < 6)
    (hp : kAt (k.1 2) (k.1 3) (nI a) (nI b) 0 k.2.2.2.1 = -1 ∧ cAt (k.1 5) (k.1 6) (nI a) (nI b) 0 k.2.2.2.2.1 = 0) :
    lnP kd nu st vl ln x (0, p) w k = (true, x + 4, (0, p), (nI a, nI b), adC k (nI a) (nI b)) ∧ kd (x + 4) = 59 ∧ ¬ kd x = 0 := by
  have k0 : kd x = 103 := (hs.1 0 (by show 0 < 5; omega)).1
  have k1 : kd (x + 1) = 2 := (hs.1 1 (by show 1 < 5; omega)).1
  have k2 : kd (x + 2) = 44 := (hs.1 2 (by show 2 < 5; omega)).1
  have k3 : kd (x + 3) = 2 := (hs.1 3 (by show 3 < 5; omega)).1
  have k4 : kd (x + 4) = 59 := (hs.1 4 (by show 4 < 5; omega)).1
  have n1 : nu (x + 1) = nI a := (hs.1 1 (by show 1 < 5; omega)).2 rfl
  have n3 : nu (x + 3) = nI b := (hs.1 3 (by show 3 < 5; omega)).2 rfl
  have hcl := cel_ok (st := st) (pl := true) (e := (0, p)) (w := w) hd hc hr (x := x + 1) k1 k2 k3 n1 n3 ha hb (fun _ => hp)
  refine ⟨?_, k4, by rw [k0]; decide⟩
  unfold lnP
  rw [if_neg (by rw [k0]; decide), if_neg (by rw [k0]; decide), if_pos k0]
  unfold cusP
  rw [if_neg (show ¬ 6 ≤ k.2.2.2.2.1 by omega), hcl]
  dsimp only
  rw [if_pos rfl, if_pos rfl]
theorem ln_bay1 {k : bkS} {x : Nat} {p : Int32} {w : Int32 × Int32} (hc : 3 ≤ co ∧ co ≤ 12) (hr : 3 ≤ rw ∧ rw ≤ 12) (hs : sq kd nu vl x (bayT co rw)) :
    lnP kd nu st vl 0 x (0, p) w k = (true, x + 4, (0, p), w, (k.1, k.2.1, (nI co, nI rw), k.2.2.2)) ∧ kd (x + 4) = 59 ∧ ¬ kd x = 0 := by
  have k0 : kd x = 100 := (hs.1 0 (by show 0 < 5; omega)).1
  have k1 : kd (x + 1) = 2 := (hs.1 1 (by show 1 < 5; omega)).1
  have k2 : kd (x + 2) = 44 := (hs.1 2 (by show 2 < 5; omega)).1
  have k3 : kd (x + 3) = 2 := (hs.1 3 (by show 3 < 5; omega)).1
  have k4 : kd (x + 4) = 59 := (hs.1 4 (by show 4 < 5; omega)).1
  have n1 : nu (x + 1) = nI co := (hs.1 1 (by show 1 < 5; omega)).2 rfl
  have n3 : nu (x + 3) = nI rw := (hs.1 3 (by show 3 < 5; omega)).2 rfl
  have h1 : fnE nu st (0, p) (x + 1) 3 12 = (0, p) := fn_ok (lo := 3) (hi := 12) n1 hc.1 hc.2 (by omega)
  have h3 : fnE nu st (0, p) (x + 3) 3 12 = (0, p) := fn_ok (lo := 3) (hi := 12) n3 hr.1 hr.2 (by omega)
  refine ⟨?_, k4, by rw [k0]; decide⟩
  unfold lnP
  rw [if_pos k0]
  unfold bayP
  dsimp only
  rw [if_pos k1, if_pos k2, if_pos k3, if_neg (Nat.lt_irrefl 0), h1, h3, if_pos rfl, n1, n3]
theorem ln_cli1 {k : bkS} {x c a b z ln : Nat} {p : Int32} {w : Int32 × Int32} (hd : k.2.2.1 = (nI co, nI rw)) (hc : co ≤ 12) (hr : rw ≤ 12) (hs : sq kd nu vl x (cliT E c a b z)) (ha : a < co) (hb : b < rw) (hz : 1 ≤ z ∧ z ≤ 4) (hn : k.2.2.2.2.2.1 < 6)
    (hp : nAt k.2.1 (lN2 (97 + c)) 0 k.2.2.2.2.2.1 = 0) :
    lnP kd nu st vl ln x (0, p) w k = (true, x + 9 + (rtk E 4 (5 + 11 * c) 0 true true).length, (0, p), (nI a, nI b), adL (adR k (pfx E 4 (5 + 11 * c) 0)) (lN2 (97 + c)) (nI a) (nI b) (nI z) (nI k.2.2.2.2.2.2)) ∧ kd (x + 9 + (rtk E 4 (5 + 11 * c) 0 true true).length) = 59 ∧ ¬ kd x = 0 := by
  obtain ⟨hh, ht⟩ := sq_app hs
  obtain ⟨hu, hv⟩ := sq_app ht
  have k0 : kd x = 104 := (hh.1 0 (by show 0 < 9; omega)).1
  have k1 : kd (x + 1) = 3 := (hh.1 1 (by show 1 < 9; omega)).1
  have k2 : kd (x + 2) = 105 := (hh.1 2 (by show 2 < 9; omega)).1
  have k3 : kd (x + 3) = 2 := (hh.1 3 (by show 3 < 9; omega)).1
  have k4 : kd (x + 4) = 44 := (hh.1 4 (by show 4 < 9; omega)).1
  have k5 : kd (x + 5) = 2 := (hh.1 5 (by show 5 < 9; omega)).1
  have k6 : kd (x + 6) = 106 := (hh.1 6 (by show 6 < 9; omega)).1
  have k7 : kd (x + 7) = 2 := (hh.1 7 (by show 7 < 9; omega)).1
  have k8 : kd (x + 8) = 107 := (hh.1 8 (by show 8 < 9; omega)).1
  have n3 : nu (x + 3) = nI a := (hh.1 3 (by show 3 < 9; omega)).2 rfl
  have n5 : nu (x + 5) = nI b := (hh.1 5 (by show 5 < 9; omega)).2 rfl
  have n7 : nu (x + 7) = nI z := (hh.1 7 (by show 7 < 9; omega)).2 rfl
  have v1 : vl (x + 1) = lN2 (97 + c) := hh.2 1 (by show 1 < 9; omega) rfl
  have k9 : kd (x + 9 + (rtk E 4 (5 + 11 * c) 0 true true).length) = 59 := (hv.1 0 (by show 0 < 1; omega)).1
  obtain ⟨B, hrl⟩ := ((rd_tree (E := E) (kd := kd) (nu := nu) 4 (5 + 11 * c) 0 rfl).1 0 49 (x + 9) true (by omega) (by omega) hu.1 (by rw [k9]; decide)).resolve_left (by omega)
  have hcl := cel_ok (st := st) (pl := false) (e := (0, p)) (w := w) hd hc hr (x := x + 3) k3 k4 k5 n3 n5 ha hb (fun q => nomatch q)
  have hf : fnE nu st (0, p) (x + 7) 1 4 = (0, p) := fn_ok (lo := 1) (hi := 4) n7 hz.1 hz.2 (by omega)
  refine ⟨?_, k9, by rw [k0]; decide⟩
  unfold lnP
  rw [if_neg (by rw [k0]; decide), if_neg (by rw [k0]; decide), if_neg (by rw [k0]; decide), if_pos k0]
  unfold cliP
  rw [if_neg (show ¬ 6 ≤ k.2.2.2.2.2.1 by omega), v1, hp]
  dsimp only
  rw [if_neg (show ¬ (kd (x + 1) = 3 ∧ ¬ (0 : Int32) = 0) from fun q => q.2 rfl), if_pos k1, if_pos k2, hcl]
  dsimp only
  rw [if_pos rfl, if_pos (show kd (x + 3 + 3) = 106 from k6), if_pos (show kd (x + 3 + 3 + 1) = 2 from k7), if_pos (show kd (x + 3 + 3 + 2) = 107 from k8), show x + 3 + 3 + 3 = x + 9 by omega, hrl]
  dsimp only
  rw [if_pos rfl, show x + 3 + 3 + 1 = x + 7 by omega, hf, n7, if_pos rfl]
theorem rd_line {m ln x y : Nat} {e w w' : Int32 × Int32} {k k' : bkS} (h : lnP kd nu st vl ln x e w k = (true, y, e, w', k') ∧ kd y = 59 ∧ ¬ kd x = 0) : rdP kd nu st vl (m + 1) ln x e w k = rdP kd nu st vl m (ln + 1) (y + 1) e w' k' := by
  show (if kd x = 0 then (x, e, w, k) else if (lnP kd nu st vl ln x e w k).1 = true ∧ kd (lnP kd nu st vl ln x e w k).2.1 = 59 then rdP kd nu st vl m (ln + 1) ((lnP kd nu st vl ln x e w k).2.1 + 1) (lnP kd nu st vl ln x e w k).2.2.1 (lnP kd nu st vl ln x e w k).2.2.2.1 (lnP kd nu st vl ln x e w k).2.2.2.2 else ((lnP kd nu st vl ln x e w k).2.1, (1, st (lnP kd nu st vl ln x e w k).2.1), (lnP kd nu st vl ln x e w k).2.2.2.1, (lnP kd nu st vl ln x e w k).2.2.2.2)) = _
  rw [if_neg h.2.2, h.1]
  dsimp only
  rw [if_pos ⟨rfl, h.2.1⟩]
/-- where a clipper's steps begin -/
def rsm (E : xE) : Nat → Nat
  | 0 => 0
  | c + 1 => rsm E c + (pfx E 4 (5 + 11 * c) 0).length
/-- the book as it stands after nk kettles, nc customs, nn clippers -/
def bkI (E : xE) (co rw : Nat) (kx ky kz ux uy hx hy hz : Nat → Nat) (nk nc nn : Nat) (k : bkS) : Prop :=
  k.2.2.1 = (nI co, nI rw) ∧ k.2.2.2 = (nk, nc, nn, rsm E nn) ∧ (∀ i, i < nk → k.1 2 i = nI (kx i) ∧ k.1 3 i = nI (ky i) ∧ k.1 4 i = nI (kz i)) ∧ (∀ i, i < nc → k.1 5 i = nI (ux i) ∧ k.1 6 i = nI (uy i)) ∧
  (∀ c, c < nn → k.1 7 c = nI (hx c) ∧ k.1 8 c = nI (hy c) ∧ k.1 9 c = nI (hz c) ∧ k.1 10 c = nI (rsm E c) ∧ k.1 11 c = nI (rsm E (c + 1)) ∧ k.2.1 c = lN2 (97 + c)) ∧
  ∀ c, c < nn → ∀ j, j < (pfx E 4 (5 + 11 * c) 0).length → k.1 0 (rsm E c + j) = ((pfx E 4 (5 + 11 * c) 0).getD j (0, 0)).1 ∧ k.1 1 (rsm E c + j) = ((pfx E 4 (5 + 11 * c) 0).getD j (0, 0)).2
theorem uq_s {a : Nat → Nat → Int32} {r : Nat} {f : Nat → Int32} : upr a r f r = f := by unfold upr; exact if_pos rfl
theorem uq_o {a : Nat → Nat → Int32} {r r' : Nat} {f : Nat → Int32} (h : ¬ r' = r) : upr a r f r' = a r' := by unfold upr; exact if_neg h
theorem bk_K {nk nc nn : Nat} {k : bkS} (h : bkI E co rw kx ky kz ux uy hx hy hz nk nc nn k) (hn : nk < 6) : bkI E co rw kx ky kz ux uy hx hy hz (nk + 1) nc nn (adK k (nI (kx nk)) (nI (ky nk)) (nI (kz nk))) := by
  obtain ⟨h1, h2, h3, h4, h5, h6⟩ := h
  have e1 : k.2.2.2.1 = nk := by rw [h2]
  unfold adK
  rw [e1, if_pos hn]
  refine ⟨h1, by dsimp only; rw [h2], fun i hi => ?_, fun i hi => ?_, fun c hc => ?_, fun c hc j hj => ?_⟩
  · dsimp only
    rw [uq_o (r := 4) (by decide), uq_o (r := 3) (by decide), uq_s, uq_o (r := 4) (by decide), uq_s, uq_s]
    by_cases q : i = nk
    · subst q; exact ⟨upd_s, upd_s, upd_s⟩
    · rw [upd_o q, upd_o q, upd_o q]
      exact h3 i (by omega)
  · dsimp only
    rw [uq_o (r := 4) (by decide), uq_o (r := 3) (by decide), uq_o (r := 2) (by decide), uq_o (r := 4) (by decide), uq_o (r := 3) (by decide), uq_o (r := 2) (by decide)]
    exact h4 i hi
  · dsimp only
    simp only [uq_o (r := 4) (r' := 7) (by decide), uq_o (r := 3) (r' := 7) (by decide), uq_o (r := 2) (r' := 7) (by decide), uq_o (r := 4) (r' := 8) (by decide), uq_o (r := 3) (r' := 8) (by decide), uq_o (r := 2) (r' := 8) (by decide), uq_o (r := 4) (r' := 9) (by decide), uq_o (r := 3) (r' := 9) (by decide), uq_o (r := 2) (r' := 9) (by decide), uq_o (r := 4) (r' := 10) (by decide), uq_o (r := 3) (r' := 10) (by decide), uq_o (r := 2) (r' := 10) (by decide), uq_o (r := 4) (r' := 11) (by decide), uq_o (r := 3) (r' := 11) (by decide), uq_o (r := 2) (r' := 11) (by decide)]
    exact h5 c hc
  · dsimp only
    simp only [uq_o (r := 4) (r' := 0) (by decide), uq_o (r := 3) (r' := 0) (by decide), uq_o (r := 2) (r' := 0) (by decide), uq_o (r := 4) (r' := 1) (by decide), uq_o (r := 3) (r' := 1) (by decide), uq_o (r := 2) (r' := 1) (by decide)]
    exact h6 c hc j hj
theorem bk_C {nk nc nn : Nat} {k : bkS} (h : bkI E co rw kx ky kz ux uy hx hy hz nk nc nn k) (hn : nc < 6) : bkI E co rw kx ky kz ux uy hx hy hz nk (nc + 1) nn (adC k (nI (ux nc)) (nI (uy nc))) := by
  obtain ⟨h1, h2, h3, h4, h5, h6⟩ := h
  have e1 : k.2.2.2.2.1 = nc := by rw [h2]
  unfold adC
  rw [e1, if_pos hn]
  refine ⟨h1, by dsimp only; rw [h2], fun i hi => ?_, fun i hi => ?_, fun c hc => ?_, fun c hc j hj => ?_⟩
  · dsimp only
    simp only [uq_o (r := 6) (r' := 2) (by decide), uq_o (r := 5) (r' := 2) (by decide), uq_o (r := 6) (r' := 3) (by decide), uq_o (r := 5) (r' := 3) (by decide), uq_o (r := 6) (r' := 4) (by decide), uq_o (r := 5) (r' := 4) (by decide)]
    exact h3 i hi
  · dsimp only
    rw [uq_o (r := 6) (by decide), uq_s, uq_s]
    by_cases q : i = nc
    · subst q; exact ⟨upd_s, upd_s⟩
    · rw [upd_o q, upd_o q]
      exact h4 i (by omega)
  · dsimp only
    simp only [uq_o (r := 6) (r' := 7) (by decide), uq_o (r := 5) (r' := 7) (by decide), uq_o (r := 6) (r' := 8) (by decide), uq_o (r := 5) (r' := 8) (by decide), uq_o (r := 6) (r' := 9) (by decide), uq_o (r := 5) (r' := 9) (by decide), uq_o (r := 6) (r' := 10) (by decide), uq_o (r := 5) (r' := 10) (by decide), uq_o (r := 6) (r' := 11) (by decide), uq_o (r := 5) (r' := 11) (by decide)]
    exact h5 c hc
  · dsimp only
    simp only [uq_o (r := 6) (r' := 0) (by decide), uq_o (r := 5) (r' := 0) (by decide), uq_o (r := 6) (r' := 1) (by decide), uq_o (r := 5) (r' := 1) (by decide)]
    exact h6 c hc j hj
/-- steps are added -/
theorem addL_ok : ∀ (L : List (Int32 × Int32)) (f g : Nat → Int32) (n : Nat), n + L.length ≤ 400 → (addL (f, g, n) L).2.2 = n + L.length ∧ (∀ j, j < n → (addL (f, g, n) L).1 j = f j ∧ (addL (f, g, n) L).2.1 j = g j) ∧ ∀ j, j < L.length → (addL (f, g, n) L).1 (n + j) = (L.getD j (0, 0)).1 ∧ (addL (f, g, n) L).2.1 (n + j) = (L.getD j (0, 0)).2
  | [], f, g, n, _ => ⟨rfl, fun _ _ => ⟨rfl, rfl⟩, fun j hj => absurd hj (Nat.not_lt_zero _)⟩
  | a :: L, f, g, n, h => by
    rw [List.length_cons] at h
    have e : addR (f, g, n) a.1 a.2 = (upd f n a.1, upd g n a.2, n + 1) := by
      unfold addR
      exact if_pos (show n < 400 by omega)
    obtain ⟨h1, h2, h3⟩ := addL_ok L (upd f n a.1) (upd g n a.2) (n + 1) (by omega)
    show (addL (addR (f, g, n) a.1 a.2) L).2.2 = _ ∧ (∀ j, j < n → (addL (addR (f, g, n) a.1 a.2) L).1 j = f j ∧ (addL (addR (f, g, n) a.1 a.2) L).2.1 j = g j) ∧ ∀ j, j < L.length + 1 → (addL (addR (f, g, n) a.1 a.2) L).1 (n + j) = ((a :: L).getD j (0, 0)).1 ∧ (addL (addR (f, g, n) a.1 a.2) L).2.1 (n + j) = ((a :: L).getD j (0, 0)).2
    rw [e]
    refine ⟨by rw [h1, List.length_cons]; omega, fun j hj => ?_, fun j hj => ?_⟩
    · obtain ⟨a1, a2⟩ := h2 j (by omega)
      rw [a1, a2, upd_o (by omega), upd_o (by omega)]
      exact ⟨rfl, rfl⟩
    · cases j with
      | zero =>
        obtain ⟨a1, a2⟩ := h2 n (by omega)
        simp only [Nat.add_zero]
        rw [a1, a2, upd_s, upd_s]
        exact ⟨rfl, rfl⟩
      | succ j =>
        obtain ⟨a1, a2⟩ := h3 j (by omega)
        rw [show n + (j + 1) = n + 1 + j by omega, a1, a2]
        exact ⟨rfl, rfl⟩
theorem bk_L {nk nc nn : Nat} {k : bkS} (h : bkI E co rw kx ky kz ux uy hx hy hz nk nc nn k) (hn : nn < 6) (hr : rsm E (nn + 1) ≤ 400) : bkI E co rw kx ky kz ux uy hx hy hz nk nc (nn + 1) (adL (adR k (pfx E 4 (5 + 11 * nn) 0)) (lN2 (97 + nn)) (nI (hx nn)) (nI (hy nn)) (nI (hz nn)) (nI k.2.2.2.2.2.2)) := by
  obtain ⟨h1, h2, h3, h4, h5, h6⟩ := h
  have e1 : k.2.2.2.2.2.1 = nn := by rw [h2]
  have e2 : k.2.2.2.2.2.2 = rsm E nn := by rw [h2]
  have e3 : k.2.2.2.1 = nk := by rw [h2]
  have e4 : k.2.2.2.2.1 = nc := by rw [h2]
  have hr2 : rsm E nn + (pfx E 4 (5 + 11 * nn) 0).length ≤ 400 := hr
  obtain ⟨a1, a2, a3⟩ := addL_ok (pfx E 4 (5 + 11 * nn) 0) (k.1 0) (k.1 1) (rsm E nn) hr2
  unfold adL adR
  dsimp only
  rw [e1, e2, if_pos hn]
  generalize addL (k.1 0, k.1 1, rsm E nn) (pfx E 4 (5 + 11 * nn) 0) = u at a1 a2 a3 ⊢
  have mono : ∀ c, c < nn → rsm E (c + 1) ≤ rsm E nn := by
    intro c hc
    have : ∀ m, rsm E (c + 1) ≤ rsm E (c + 1 + m) := by
      intro m
      induction m with
      | zero => exact Nat.le_refl _
      | succ m ih => exact Nat.le_trans ih (Nat.le_add_right _ _)
    have := this (nn - (c + 1))
    rw [show c + 1 + (nn - (c + 1)) = nn by omega] at this
    exact this
  refine ⟨h1, ?_, fun i hi => ?_, fun i hi => ?_, fun c hc => ?_, fun c hc j hj => ?_⟩
  · dsimp only
    rw [e3, e4, a1]
    rfl
  · dsimp only
    simp only [uq_o (r := 11) (r' := 2) (by decide), uq_o (r := 10) (r' := 2) (by decide), uq_o (r := 9) (r' := 2) (by decide), uq_o (r := 8) (r' := 2) (by decide), uq_o (r := 7) (r' := 2) (by decide), uq_o (r := 1) (r' := 2) (by decide), uq_o (r := 0) (r' := 2) (by decide), uq_o (r := 11) (r' := 3) (by decide), uq_o (r := 10) (r' := 3) (by decide), uq_o (r := 9) (r' := 3) (by decide), uq_o (r := 8) (r' := 3) (by decide), uq_o (r := 7) (r' := 3) (by decide), uq_o (r := 1) (r' := 3) (by decide), uq_o (r := 0) (r' := 3) (by decide), uq_o (r := 11) (r' := 4) (by decide), uq_o (r := 10) (r' := 4) (by decide), uq_o (r := 9) (r' := 4) (by decide), uq_o (r := 8) (r' := 4) (by decide), uq_o (r := 7) (r' := 4) (by decide), uq_o (r := 1) (r' := 4) (by decide), uq_o (r := 0) (r' := 4) (by decide)]
    exact h3 i hi
  · dsimp only
    simp only [uq_o (r := 11) (r' := 5) (by decide), uq_o (r := 10) (r' := 5) (by decide), uq_o (r := 9) (r' := 5) (by decide), uq_o (r := 8) (r' := 5) (by decide), uq_o (r := 7) (r' := 5) (by decide), uq_o (r := 1) (r' := 5) (by decide), uq_o (r := 0) (r' := 5) (by decide), uq_o (r := 11) (r' := 6) (by decide), uq_o (r := 10) (r' := 6) (by decide), uq_o (r := 9) (r' := 6) (by decide), uq_o (r := 8) (r' := 6) (by decide), uq_o (r := 7) (r' := 6) (by decide), uq_o (r := 1) (r' := 6) (by decide), uq_o (r := 0) (r' := 6) (by decide)]
    exact h4 i hi
  · dsimp only
    simp only [uq_s, uq_o (r := 11) (r' := 7) (by decide), uq_o (r := 10) (r' := 7) (by decide), uq_o (r := 9) (r' := 7) (by decide), uq_o (r := 8) (r' := 7) (by decide), uq_o (r := 1) (r' := 7) (by decide), uq_o (r := 0) (r' := 7) (by decide), uq_o (r := 11) (r' := 8) (by decide), uq_o (r := 10) (r' := 8) (by decide), uq_o (r := 9) (r' := 8) (by decide), uq_o (r := 7) (r' := 8) (by decide), uq_o (r := 1) (r' := 8) (by decide), uq_o (r := 0) (r' := 8) (by decide), uq_o (r := 11) (r' := 9) (by decide), uq_o (r := 10) (r' := 9) (by decide), uq_o (r := 8) (r' := 9) (by decide), uq_o (r := 7) (r' := 9) (by decide), uq_o (r := 1) (r' := 9) (by decide), uq_o (r := 0) (r' := 9) (by decide), uq_o (r := 11) (r' := 10) (by decide), uq_o (r := 9) (r' := 10) (by decide), uq_o (r := 8) (r' := 10) (by decide), uq_o (r := 7) (r' := 10) (by decide), uq_o (r := 1) (r' := 10) (by decide), uq_o (r := 0) (r' := 10) (by decide), uq_o (r := 10) (r' := 11) (by decide), uq_o (r := 9) (r' := 11) (by decide), uq_o (r := 8) (r' := 11) (by decide), uq_o (r := 7) (r' := 11) (by decide), uq_o (r := 1) (r' := 11) (by decide), uq_o (r := 0) (r' := 11) (by decide)]
    by_cases q : c = nn
    · subst q
      rw [upd_s, upd_s, upd_s, upd_s, upd_s, updL_s, a1]
      exact ⟨rfl, rfl, rfl, rfl, rfl, rfl⟩
    · rw [upd_o q, upd_o q, upd_o q, upd_o q, upd_o q, updL_o q]
      exact h5 c (by omega)
  · dsimp only
    simp only [uq_s, uq_o (r := 11) (r' := 0) (by decide), uq_o (r := 10) (r' := 0) (by decide), uq_o (r := 9) (r' := 0) (by decide), uq_o (r := 8) (r' := 0) (by decide), uq_o (r := 7) (r' := 0) (by decide), uq_o (r := 1) (r' := 0) (by decide), uq_o (r := 11) (r' := 1) (by decide), uq_o (r := 10) (r' := 1) (by decide), uq_o (r := 9) (r' := 1) (by decide), uq_o (r := 8) (r' := 1) (by decide), uq_o (r := 7) (r' := 1) (by decide)]
    by_cases q : c = nn
    · subst q
      exact a3 j hj
    · have hlt : rsm E c + j < rsm E nn := by
        have h9 := mono c (by omega)
        have : rsm E (c + 1) = rsm E c + (pfx E 4 (5 + 11 * c) 0).length := rfl
        omega
      obtain ⟨b1, b2⟩ := a2 _ hlt
      rw [b1, b2]
      exact h6 c (by omega) j hj
end BOOK
